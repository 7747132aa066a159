/-! every pure function answers: numbers by their toInt -/
theorem zq_k (k : Nat) (h : k < 2147483648) : (nI k).toInt = k := nI_toInt (by omega)
theorem zq_lt {x y : Int32} (h : x < y) : x.toInt < y.toInt := Int32.lt_iff_toInt_lt.mp h
theorem zq_le {x y : Int32} (h : x ≤ y) : x.toInt ≤ y.toInt := Int32.le_iff_toInt_le.mp h
theorem zq_nlt {x y : Int32} (h : ¬ x < y) : y.toInt ≤ x.toInt := Int.not_lt.mp (fun q => h (Int32.lt_iff_toInt_lt.mpr q))
theorem zq_nle {x y : Int32} (h : ¬ x ≤ y) : y.toInt < x.toInt := Int.not_le.mp (fun q => h (Int32.le_iff_toInt_le.mpr q))
theorem zq_eq {x y : Int32} (h : x = y) : x.toInt = y.toInt := congrArg Int32.toInt h
theorem zq_ne {x y : Int32} (h : ¬ x = y) : x.toInt ≠ y.toInt := fun q => h (Int32.toInt_inj.mp q)
theorem zq_bm {z : Int} (h1 : -2147483648 ≤ z) (h2 : z < 2147483648) : z.bmod (2 ^ 32) = z := Int.bmod_eq_of_le (by omega) (by omega)
theorem zq_add {x y : Int32} (h1 : -2147483648 ≤ x.toInt + y.toInt) (h2 : x.toInt + y.toInt < 2147483648) : (x + y).toInt = x.toInt + y.toInt := by
  rw [Int32.toInt_add]; exact zq_bm h1 h2
theorem zq_sub {x y : Int32} (h1 : -2147483648 ≤ x.toInt - y.toInt) (h2 : x.toInt - y.toInt < 2147483648) : (x - y).toInt = x.toInt - y.toInt := by
  rw [Int32.toInt_sub]; exact zq_bm h1 h2
theorem zq_mul {x : Int32} {k : Nat} (hk : k < 2147483648) (h1 : -2147483648 ≤ x.toInt * k) (h2 : x.toInt * k < 2147483648) : (x * nI k).toInt = x.toInt * k := by
  rw [Int32.toInt_mul, zq_k k hk]; exact zq_bm h1 h2
theorem zq_lmul {x : Int32} {k : Nat} (hk : k < 2147483648) (h1 : -2147483648 ≤ k * x.toInt) (h2 : k * x.toInt < 2147483648) : (nI k * x).toInt = k * x.toInt := by
  rw [Int32.toInt_mul, zq_k k hk]; exact zq_bm h1 h2
theorem zq_in {x : Int32} {N : Nat} (h0 : 0 ≤ x.toInt) (h1 : x.toInt < N) : zin x N := by
  have k0 : (0 : Int32).toInt = 0 := rfl
  rintro (q | q)
  · have := zq_lt q; omega
  · have : x.toNatClampNeg = x.toInt.toNat := rfl
    omega
def zNowOk (now : Nat → Int32) : Prop :=
  (1 ≤ (now 0).toInt ∧ (now 0).toInt ≤ 12 ∧ 0 ≤ (now 1).toInt ∧ (now 1).toInt ≤ 60) ∧
  (∀ r : Nat, (r : Int) < (now 1).toInt → (0 ≤ (now (122 + 24 * r + 0)).toInt ∧ (now (122 + 24 * r + 0)).toInt ≤ 3) ∧ (60 ≤ (now (122 + 24 * r + 1)).toInt ∧ (now (122 + 24 * r + 1)).toInt ≤ 2000) ∧ (0 ≤ (now (122 + 24 * r + 5)).toInt ∧ (now (122 + 24 * r + 5)).toInt ≤ 5)) ∧
  (∀ m : Nat, (m : Int) < (now 0).toInt → 0 ≤ (now (8 + 4 * m + 0)).toInt ∧ (now (8 + 4 * m + 0)).toInt ≤ 100000) ∧
  (∀ p : Nat, p < 6 → -1 ≤ (now (56 + p)).toInt ∧ (now (56 + p)).toInt ≤ 40000)
theorem zq_nat {x : Int32} (h : 0 ≤ x.toInt) : ∃ j : Nat, j < 2147483648 ∧ x = nI j ∧ x.toInt = (j : Int) := by
  rcases zarg x with q | ⟨j, hj, e⟩
  · have := zq_lt q
    have k0 : (0 : Int32).toInt = 0 := rfl
    omega
  · refine ⟨j, by omega, e, ?_⟩
    rw [e]
    exact zq_k j (by omega)
theorem zq_div {x : Int32} {k : Nat} (h0 : 0 < k) (hk : k < 2147483648) (h : 0 ≤ x.toInt) : (x / nI k).toInt = x.toInt / k := by
  rw [Int32.toInt_div, zq_k k hk, Int.tdiv_eq_ediv_of_nonneg h]
  have h1 : x.toInt < 2147483648 := Int32.toInt_lt x
  have h2 : 0 ≤ x.toInt / (k : Int) := Int.ediv_nonneg h (by omega)
  have h3 : x.toInt / (k : Int) ≤ x.toInt := Int.ediv_le_self _ h
  exact zq_bm (by omega) (by omega)
theorem t_fX11_mats (t_now : Nat → Int32) : ∃ r, fX11_mats t_now = some r ∧ (r.toInt = (t_now 0).toInt) := ⟨_, g_mats, rfl⟩
theorem t_fX11_runners (t_now : Nat → Int32) : ∃ r, fX11_runners t_now = some r ∧ (r.toInt = (t_now 1).toInt) := ⟨_, g_runners, rfl⟩
theorem t_fX11_of (t_now : Nat → Int32) (x1 : Int32) (x2 : Int32) (h_x1 : 0 ≤ x1.toInt ∧ x1.toInt ≤ 59) (h_x2 : 0 ≤ x2.toInt ∧ x2.toInt ≤ 23) (g0 : zNowOk t_now) : ∃ r, fX11_of t_now x1 x2 = some r ∧ (x1.toInt < (t_now 1).toInt → (x2.toInt = 0 → 0 ≤ r.toInt ∧ r.toInt ≤ 3) ∧ (x2.toInt = 1 → 60 ≤ r.toInt ∧ r.toInt ≤ 2000) ∧ (x2.toInt = 5 → 0 ≤ r.toInt ∧ r.toInt ≤ 5)) := by
  obtain ⟨a, ha, ea, ia⟩ := zq_nat h_x1.1
  obtain ⟨b, hb, eb, ib⟩ := zq_nat h_x2.1
  rw [ea, eb, g_of (by omega) (by omega)]
  refine ⟨_, rfl, fun hr => ?_⟩
  have hr2 : (a : Int) < (t_now 1).toInt := by rw [← ia, ea]; exact hr
  obtain ⟨q0, q1, q5⟩ := g0.2.1 a hr2
  rw [← eb, ib]
  refine ⟨fun h => ?_, fun h => ?_, fun h => ?_⟩
  · have : b = 0 := by omega
    subst this; exact q0
  · have : b = 1 := by omega
    subst this; exact q1
  · have : b = 5 := by omega
    subst this; exact q5
theorem t_fX11_ofMat (t_now : Nat → Int32) (x1 : Int32) (x2 : Int32) (h_x1 : 0 ≤ x1.toInt ∧ x1.toInt ≤ 11) (h_x2 : 0 ≤ x2.toInt ∧ x2.toInt ≤ 3) (g0 : zNowOk t_now) : ∃ r, fX11_ofMat t_now x1 x2 = some r ∧ (x2.toInt = 0 → x1.toInt < (t_now 0).toInt → 0 ≤ r.toInt ∧ r.toInt ≤ 100000) := by
  obtain ⟨a, ha, ea, ia⟩ := zq_nat h_x1.1
  obtain ⟨b, hb, eb, ib⟩ := zq_nat h_x2.1
  rw [ea, eb, g_ofMat (by omega) (by omega)]
  refine ⟨_, rfl, fun h hr => ?_⟩
  have hr2 : (a : Int) < (t_now 0).toInt := by rw [← ia, ea]; exact hr
  have h2 : b = 0 := by rw [← eb, ib] at h; omega
  subst h2
  exact g0.2.2.1 a hr2
theorem t_fX11_gunOf (t_now : Nat → Int32) (x1 : Int32) (h_x1 : 0 ≤ x1.toInt ∧ x1.toInt ≤ 5) (g0 : zNowOk t_now) : ∃ r, fX11_gunOf t_now x1 = some r ∧ (-1 ≤ r.toInt ∧ r.toInt ≤ 40000) := by
  obtain ⟨a, ha, ea, ia⟩ := zq_nat h_x1.1
  rw [ea, g_gunOf (by omega)]
  exact ⟨_, rfl, g0.2.2.2 a (by omega)⟩
theorem t_fX11_made (x1 : Int32) (x2 : Int32) : ∃ r, fX11_made x1 x2 = some r ∧ (0 ≤ x1.toInt → x1.toInt ≤ 100000 → 0 ≤ x2.toInt → x2.toInt ≤ 2000 → 0 ≤ r.toInt ∧ r.toInt ≤ 200000) := by
  refine ⟨_, rfl, fun h1 h2 h3 h4 => ?_⟩
  have p0 : 0 ≤ x1.toInt * x2.toInt := Int.mul_nonneg h1 h3
  have p1 : x1.toInt * x2.toInt ≤ 100000 * 2000 := Int.mul_le_mul h2 h4 h3 (by decide)
  rw [Int64.toInt_toInt32, Int64.toInt_div, Int64.toInt_mul, Int32.toInt_toInt64, Int32.toInt_toInt64]
  have k : (1000 : Int64).toInt = 1000 := rfl
  rw [k, Int.bmod_eq_of_le (n := x1.toInt * x2.toInt) (by omega) (by omega), Int.tdiv_eq_ediv_of_nonneg p0]
  rw [Int.bmod_eq_of_le (n := x1.toInt * x2.toInt / 1000) (m := 2 ^ 64) (by omega) (by omega), Int.bmod_eq_of_le (by omega) (by omega)]
  omega
theorem t_fX11_madeUp (x1 : Int32) (x2 : Int32) : ∃ r, fX11_madeUp x1 x2 = some r ∧ (True) := ⟨_, rfl, trivial⟩
theorem t_fJ7_fill_53178_L5 (n_p1 : Nat) (x2 : Int32) (hn : n_p1 ≤ 5000) : ∀ (n : Nat) (v : Int32) (p : Nat → Int32), 0 ≤ v.toInt ∧ v.toInt ≤ n_p1 → (1 ≤ n ∧ n_p1 + 1 - v.toInt ≤ (n : Int)) → ∃ r, fJ7_fill_53178_L5 n_p1 x2 (fun (v2_5 : Int32) (p1_l5 : Nat → Int32) => some (p1_l5)) n v p = some r ∧ True := by
  have k_n := zq_k n_p1 (by omega)
  have k_1 := zq_k 1 (by decide)
  intro n
  induction n with
  | zero => intro v p _ im; exact absurd im.1 (by decide)
  | succ n ih =>
    intro v p iv im
    have im2 := im.2
    rw [fJ7_fill_53178_L5]
    by_cases h : (nI n_p1) ≤ v
    · rw [if_pos h]; exact ⟨_, rfl, trivial⟩
    · rw [if_neg h]
      have q := zq_nle h
      have z : zin v n_p1 := zq_in (by omega) (by omega)
      rw [if_pos z]
      have a := zq_add (x := v) (y := nI 1) (by omega) (by omega)
      exact ih _ _ ⟨by omega, by omega⟩ ⟨by omega, by omega⟩
theorem t_fJ7_fill_53178 (n_p1 : Nat) (N : Nat) (p1 : Nat → Int32) (x2 : Int32) (hN : 10000 ≤ N) (hn : n_p1 ≤ 5000) : ∃ r, fJ7_fill_53178 n_p1 N p1 x2 = some r ∧ (True) := by
  unfold fJ7_fill_53178
  have k_0 := zq_k 0 (by decide)
  exact t_fJ7_fill_53178_L5 n_p1 x2 hn N (nI 0) p1 ⟨by omega, by omega⟩ ⟨by omega, by omega⟩
theorem t_fX6_size (t_entered : Int32) (h_t_entered : 0 ≤ t_entered.toInt ∧ t_entered.toInt ≤ 60) : ∃ r, fX6_size t_entered = some r ∧ (0 ≤ (r).toInt ∧ (r).toInt ≤ 60) := by
  unfold fX6_size
  have k0 : (0 : Int32).toInt = 0 := rfl
  have km : (-1 : Int32).toInt = -1 := rfl
  refine ⟨_, rfl, ?_⟩
  exact ⟨by omega, by omega⟩
theorem t_fX6_factOf (t_entered : Int32) (t_facts : Nat → Int32) (x1 : Int32) (x2 : Int32) (h_t_entered : 0 ≤ t_entered.toInt ∧ t_entered.toInt ≤ 60) : ∃ r, fX6_factOf t_entered t_facts x1 x2 = some r ∧ (True) := by
  unfold fX6_factOf
  have k0 : (0 : Int32).toInt = 0 := rfl
  have km : (-1 : Int32).toInt = -1 := rfl
  have k_6 := zq_k 6 (by decide)
  have k_60 := zq_k 60 (by decide)
  by_cases h1 : x1 < 0
  · rw [if_pos h1]
    have q2 := zq_lt h1
    exact ⟨_, rfl, trivial⟩
  · rw [if_neg h1]
    have q3 := zq_nlt h1
    by_cases h4 : t_entered ≤ x1
    · rw [if_pos h4]
      have q5 := zq_le h4
      exact ⟨_, rfl, trivial⟩
    · rw [if_neg h4]
      have q6 := zq_nle h4
      by_cases h7 : (nI 60) ≤ x1
      · rw [if_pos h7]
        have q8 := zq_le h7
        exact ⟨_, rfl, trivial⟩
      · rw [if_neg h7]
        have q9 := zq_nle h7
        by_cases h10 : x2 < 0
        · rw [if_pos h10]
          have q11 := zq_lt h10
          exact ⟨_, rfl, trivial⟩
        · rw [if_neg h10]
          have q12 := zq_nlt h10
          by_cases h13 : x2 < (nI 6)
          · rw [if_pos h13]
            have q14 := zq_lt h13
            try have a15 := zq_mul (x := x1) (k := 6) (by decide) (by omega) (by omega)
            try have a16 := zq_add (x := (x1 * (nI 6))) (y := x2) (by omega) (by omega)
            have z17 : zin ((x1 * (nI 6)) + x2) 360 := zq_in (by omega) (by omega)
            rw [if_pos z17]
            exact ⟨_, rfl, trivial⟩
          · rw [if_neg h13]
            have q18 := zq_nlt h13
            exact ⟨_, rfl, trivial⟩
theorem t_fX10_leastLimit (x1 : Int32)  : ∃ r, fX10_leastLimit x1 = some r ∧ (True) := by
  unfold fX10_leastLimit
  have k0 : (0 : Int32).toInt = 0 := rfl
  have km : (-1 : Int32).toInt = -1 := rfl
  have k_2 := zq_k 2 (by decide)
  have k_3 := zq_k 3 (by decide)
  have k_80 := zq_k 80 (by decide)
  have k_150 := zq_k 150 (by decide)
  have k_300 := zq_k 300 (by decide)
  by_cases h1 : x1 = (nI 2)
  · rw [if_pos h1]
    have q2 := zq_eq h1
    exact ⟨_, rfl, trivial⟩
  · rw [if_neg h1]
    by_cases h3 : x1 = (nI 3)
    · rw [if_pos h3]
      have q4 := zq_eq h3
      exact ⟨_, rfl, trivial⟩
    · rw [if_neg h3]
      exact ⟨_, rfl, trivial⟩
theorem t_fX10_greatestLimit (x1 : Int32)  : ∃ r, fX10_greatestLimit x1 = some r ∧ (True) := by
  unfold fX10_greatestLimit
  have k0 : (0 : Int32).toInt = 0 := rfl
  have km : (-1 : Int32).toInt = -1 := rfl
  have k_3 := zq_k 3 (by decide)
  have k_900 := zq_k 900 (by decide)
  have k_1500 := zq_k 1500 (by decide)
  by_cases h1 : x1 = (nI 3)
  · rw [if_pos h1]
    have q2 := zq_eq h1
    exact ⟨_, rfl, trivial⟩
  · rw [if_neg h1]
    exact ⟨_, rfl, trivial⟩
theorem t_fX9_size (t_mats : Int32) (h_t_mats : 0 ≤ t_mats.toInt ∧ t_mats.toInt ≤ 12) : ∃ r, fX9_size t_mats = some r ∧ (0 ≤ (r).toInt ∧ (r).toInt ≤ 12) := by
  unfold fX9_size
  have k0 : (0 : Int32).toInt = 0 := rfl
  have km : (-1 : Int32).toInt = -1 := rfl
  refine ⟨_, rfl, ?_⟩
  exact ⟨by omega, by omega⟩
theorem t_fX6_has (t_entered : Int32) (x1 : Int32) (h_t_entered : 0 ≤ t_entered.toInt ∧ t_entered.toInt ≤ 60) : ∃ r, fX6_has t_entered x1 = some r ∧ (¬ (zb r = 0) → 0 ≤ x1.toInt ∧ x1.toInt < 60) := by
  unfold fX6_has
  have k0 : (0 : Int32).toInt = 0 := rfl
  have km : (-1 : Int32).toInt = -1 := rfl
  have k_60 := zq_k 60 (by decide)
  by_cases h1 : x1 < 0
  · rw [if_pos h1]
    have q2 := zq_lt h1
    exact ⟨_, rfl, fun q => absurd zl_f0 q⟩
  · rw [if_neg h1]
    have q3 := zq_nlt h1
    by_cases h4 : t_entered ≤ x1
    · rw [if_pos h4]
      have q5 := zq_le h4
      exact ⟨_, rfl, fun q => absurd zl_f0 q⟩
    · rw [if_neg h4]
      have q6 := zq_nle h4
      by_cases h7 : (nI 60) ≤ x1
      · rw [if_pos h7]
        have q8 := zq_le h7
        exact ⟨_, rfl, fun q => absurd zl_f0 q⟩
      · rw [if_neg h7]
        have q9 := zq_nle h7
        exact ⟨_, rfl, fun _ => by omega⟩
theorem t_fX6_splitAt (t_entered : Int32) (t_splits : Nat → Int32) (x1 : Int32) (x2 : Int32) (h_t_entered : 0 ≤ t_entered.toInt ∧ t_entered.toInt ≤ 60) : ∃ r, fX6_splitAt t_entered t_splits x1 x2 = some r ∧ (True) := by
  unfold fX6_splitAt
  have k0 : (0 : Int32).toInt = 0 := rfl
  have km : (-1 : Int32).toInt = -1 := rfl
  have k_12 := zq_k 12 (by decide)
  obtain ⟨b1, e2, q1⟩ := t_fX6_has t_entered x1 ⟨by omega, by omega⟩
  rw [e2, Option.bind_some]
  by_cases h3 : (zb b1) = 0
  · rw [if_pos h3]
    exact ⟨_, rfl, trivial⟩
  · rw [if_neg h3]
    have q4 := q1 h3
    by_cases h5 : x2 < 0
    · rw [if_pos h5]
      have q6 := zq_lt h5
      exact ⟨_, rfl, trivial⟩
    · rw [if_neg h5]
      have q7 := zq_nlt h5
      by_cases h8 : x2 < (nI 12)
      · rw [if_pos h8]
        have q9 := zq_lt h8
        try have a10 := zq_mul (x := x1) (k := 12) (by decide) (by omega) (by omega)
        try have a11 := zq_add (x := (x1 * (nI 12))) (y := x2) (by omega) (by omega)
        have z12 : zin ((x1 * (nI 12)) + x2) 720 := zq_in (by omega) (by omega)
        rw [if_pos z12]
        exact ⟨_, rfl, trivial⟩
      · rw [if_neg h8]
        have q13 := zq_nlt h8
        exact ⟨_, rfl, trivial⟩
theorem t_fX2_tickOf (t_ticks : Nat → Int32) (x1 : Int32)  : ∃ r, fX2_tickOf t_ticks x1 = some r ∧ (True) := by
  unfold fX2_tickOf
  have k0 : (0 : Int32).toInt = 0 := rfl
  have km : (-1 : Int32).toInt = -1 := rfl
  have k_6 := zq_k 6 (by decide)
  by_cases h1 : x1 < 0
  · rw [if_pos h1]
    have q2 := zq_lt h1
    exact ⟨_, rfl, trivial⟩
  · rw [if_neg h1]
    have q3 := zq_nlt h1
    by_cases h4 : (nI 6) ≤ x1
    · rw [if_pos h4]
      have q5 := zq_le h4
      exact ⟨_, rfl, trivial⟩
    · rw [if_neg h4]
      have q6 := zq_nle h4
      have z7 : zin x1 6 := zq_in (by omega) (by omega)
      rw [if_pos z7]
      exact ⟨_, rfl, trivial⟩
theorem t_fX4_gunOf (t_guns_ticks : Nat → Int32) (t_runners_entered : Int32) (t_runners_facts : Nat → Int32) (x1 : Int32) (h_t_runners_entered : 0 ≤ t_runners_entered.toInt ∧ t_runners_entered.toInt ≤ 60) : ∃ r, fX4_gunOf t_guns_ticks t_runners_entered t_runners_facts x1 = some r ∧ (True) := by
  unfold fX4_gunOf
  have k0 : (0 : Int32).toInt = 0 := rfl
  have km : (-1 : Int32).toInt = -1 := rfl
  have k_5 := zq_k 5 (by decide)
  obtain ⟨r1, e2, q1⟩ := t_fX6_factOf t_runners_entered t_runners_facts x1 (nI 5) ⟨by omega, by omega⟩
  rw [e2, Option.bind_some]
  obtain ⟨r3, e4, q3⟩ := t_fX2_tickOf t_guns_ticks r1 
  rw [e4, Option.bind_some]
  exact ⟨_, rfl, trivial⟩
theorem t_fX4_startOf (t_guns_ticks : Nat → Int32) (t_runners_entered : Int32) (t_runners_facts : Nat → Int32) (t_runners_splits : Nat → Int32) (x1 : Int32) (h_t_runners_entered : 0 ≤ t_runners_entered.toInt ∧ t_runners_entered.toInt ≤ 60) : ∃ r, fX4_startOf t_guns_ticks t_runners_entered t_runners_facts t_runners_splits x1 = some r ∧ (True) := by
  unfold fX4_startOf
  have k0 : (0 : Int32).toInt = 0 := rfl
  have km : (-1 : Int32).toInt = -1 := rfl
  have k_0 := zq_k 0 (by decide)
  obtain ⟨r1, e2, q1⟩ := t_fX6_splitAt t_runners_entered t_runners_splits x1 (nI 0) ⟨by omega, by omega⟩
  rw [e2, Option.bind_some]
  by_cases h3 : r1 = (-1 : Int32)
  · rw [if_pos h3]
    have q4 := zq_eq h3
    obtain ⟨r4, e6, q5⟩ := t_fX4_gunOf t_guns_ticks t_runners_entered t_runners_facts x1 ⟨by omega, by omega⟩
    rw [e6, Option.bind_some]
    exact ⟨_, rfl, trivial⟩
  · rw [if_neg h3]
    have q7 := zq_ne h3
    exact ⟨_, rfl, trivial⟩
theorem t_fX9_has (t_mats : Int32) (x1 : Int32) (h_t_mats : 0 ≤ t_mats.toInt ∧ t_mats.toInt ≤ 12) : ∃ r, fX9_has t_mats x1 = some r ∧ (¬ (zb r = 0) → 0 ≤ x1.toInt ∧ x1.toInt < 12) := by
  unfold fX9_has
  have k0 : (0 : Int32).toInt = 0 := rfl
  have km : (-1 : Int32).toInt = -1 := rfl
  have k_12 := zq_k 12 (by decide)
  by_cases h1 : x1 < 0
  · rw [if_pos h1]
    have q2 := zq_lt h1
    exact ⟨_, rfl, fun q => absurd zl_f0 q⟩
  · rw [if_neg h1]
    have q3 := zq_nlt h1
    by_cases h4 : t_mats ≤ x1
    · rw [if_pos h4]
      have q5 := zq_le h4
      exact ⟨_, rfl, fun q => absurd zl_f0 q⟩
    · rw [if_neg h4]
      have q6 := zq_nle h4
      by_cases h7 : (nI 12) ≤ x1
      · rw [if_pos h7]
        have q8 := zq_le h7
        exact ⟨_, rfl, fun q => absurd zl_f0 q⟩
      · rw [if_neg h7]
        have q9 := zq_nle h7
        exact ⟨_, rfl, fun _ => by omega⟩
theorem t_fX9_placeAt (t_mats : Int32) (t_places : Nat → Int32) (x1 : Int32) (h_t_mats : 0 ≤ t_mats.toInt ∧ t_mats.toInt ≤ 12) : ∃ r, fX9_placeAt t_mats t_places x1 = some r ∧ (True) := by
  unfold fX9_placeAt
  have k0 : (0 : Int32).toInt = 0 := rfl
  have km : (-1 : Int32).toInt = -1 := rfl
  obtain ⟨b1, e2, q1⟩ := t_fX9_has t_mats x1 ⟨by omega, by omega⟩
  rw [e2, Option.bind_some]
  by_cases h3 : (zb b1) = 0
  · rw [if_pos h3]
    exact ⟨_, rfl, trivial⟩
  · rw [if_neg h3]
    have q4 := q1 h3
    have z5 : zin x1 12 := zq_in (by omega) (by omega)
    rw [if_pos z5]
    exact ⟨_, rfl, trivial⟩
theorem t_fX8_follow_L40 (p1_guns_ticks : Nat → Int32) (p1_runners_entered : Int32) (p1_runners_facts : Nat → Int32) (p1_runners_splits : Nat → Int32) (p1_way_mats : Int32) (p1_way_places : Nat → Int32) (x2 : Int32) (r7 : Int32) (K40_108 : Int32 → (Nat → Int32) → (Nat → Int32) → Option (Int32 × Int32 × Int32 × (Nat → Int32) × (Nat → Int32))) (h_p1_runners_entered : 0 ≤ p1_runners_entered.toInt ∧ p1_runners_entered.toInt ≤ 60) (h_p1_way_mats : 0 ≤ p1_way_mats.toInt ∧ p1_way_mats.toInt ≤ 12) (hK : ∀ (v4_40 : Int32) (t_places_l40 : Nat → Int32) (t_ticks_l40 : Nat → Int32), (0 ≤ v4_40.toInt ∧ v4_40.toInt ≤ 12) → ∃ r, K40_108 v4_40 t_places_l40 t_ticks_l40 = some r ∧ (0 ≤ (r.2.2.1).toInt ∧ (r.2.2.1).toInt ≤ 12)) : ∀ (n : Nat) (v4_40 : Int32) (t_places_l40 : Nat → Int32) (t_ticks_l40 : Nat → Int32), (0 ≤ v4_40.toInt ∧ v4_40.toInt ≤ 12) → (1 ≤ n ∧ 13 - v4_40.toInt ≤ (n : Int)) → ∃ r, fX8_follow_L40 p1_guns_ticks p1_runners_entered p1_runners_facts p1_runners_splits p1_way_mats p1_way_places x2 r7 K40_108 n v4_40 t_places_l40 t_ticks_l40 = some r ∧ (0 ≤ (r.2.2.1).toInt ∧ (r.2.2.1).toInt ≤ 12) := by
  intro n
  induction n with
  | zero => intro v4_40 t_places_l40 t_ticks_l40 iv4_40 im; exact absurd im.1 (by decide)
  | succ n40 ih =>
    intro v4_40 t_places_l40 t_ticks_l40 iv4_40 im
    rw [fX8_follow_L40]
    have im2 := im.2
    have k0 : (0 : Int32).toInt = 0 := rfl
    have km : (-1 : Int32).toInt = -1 := rfl
    have k_1 := zq_k 1 (by decide)
    have k_12 := zq_k 12 (by decide)
    by_cases h1 : r7 ≤ v4_40
    · rw [if_pos h1]
      have q2 := zq_le h1
      exact hK v4_40 t_places_l40 t_ticks_l40 ⟨by omega, by omega⟩
    · rw [if_neg h1]
      have q3 := zq_nle h1
      by_cases h4 : (nI 12) ≤ v4_40
      · rw [if_pos h4]
        have q5 := zq_le h4
        exact hK v4_40 t_places_l40 t_ticks_l40 ⟨by omega, by omega⟩
      · rw [if_neg h4]
        have q6 := zq_nle h4
        by_cases h7 : v4_40 = 0
        · rw [if_pos h7]
          have q8 := zq_eq h7
          obtain ⟨r18, e10, q9⟩ := t_fX4_startOf p1_guns_ticks p1_runners_entered p1_runners_facts p1_runners_splits x2 ⟨by omega, by omega⟩
          rw [e10, Option.bind_some]
          have z11 : zin v4_40 12 := zq_in (by omega) (by omega)
          rw [if_pos z11]
          obtain ⟨r21, e13, q12⟩ := t_fX9_placeAt p1_way_mats p1_way_places v4_40 ⟨by omega, by omega⟩
          rw [e13, Option.bind_some]
          have z14 : zin v4_40 12 := zq_in (by omega) (by omega)
          rw [if_pos z14]
          try have a15 := zq_add (x := v4_40) (y := (nI 1)) (by omega) (by omega)
          exact ih (v4_40 + (nI 1)) (upd t_places_l40 (v4_40).toNatClampNeg r21) (upd t_ticks_l40 (v4_40).toNatClampNeg r18) ⟨by omega, by omega⟩ ⟨by omega, by omega⟩
        · rw [if_neg h7]
          have q16 := zq_ne h7
          obtain ⟨r12, e18, q17⟩ := t_fX6_splitAt p1_runners_entered p1_runners_splits x2 v4_40 ⟨by omega, by omega⟩
          rw [e18, Option.bind_some]
          have z19 : zin v4_40 12 := zq_in (by omega) (by omega)
          rw [if_pos z19]
          obtain ⟨r15, e21, q20⟩ := t_fX9_placeAt p1_way_mats p1_way_places v4_40 ⟨by omega, by omega⟩
          rw [e21, Option.bind_some]
          have z22 : zin v4_40 12 := zq_in (by omega) (by omega)
          rw [if_pos z22]
          try have a23 := zq_add (x := v4_40) (y := (nI 1)) (by omega) (by omega)
          exact ih (v4_40 + (nI 1)) (upd t_places_l40 (v4_40).toNatClampNeg r15) (upd t_ticks_l40 (v4_40).toNatClampNeg r12) ⟨by omega, by omega⟩ ⟨by omega, by omega⟩
theorem t_fX8_follow (N : Nat) (t_greatest : Int32) (t_least : Int32) (t_mats : Int32) (t_places : Nat → Int32) (t_ticks : Nat → Int32) (p1_guns_ticks : Nat → Int32) (p1_runners_entered : Int32) (p1_runners_facts : Nat → Int32) (p1_runners_splits : Nat → Int32) (p1_way_mats : Int32) (p1_way_places : Nat → Int32) (x2 : Int32) (hN : 10000 ≤ N) (h_p1_runners_entered : 0 ≤ p1_runners_entered.toInt ∧ p1_runners_entered.toInt ≤ 60) (h_p1_way_mats : 0 ≤ p1_way_mats.toInt ∧ p1_way_mats.toInt ≤ 12) : ∃ r, fX8_follow N t_greatest t_least t_mats t_places t_ticks p1_guns_ticks p1_runners_entered p1_runners_facts p1_runners_splits p1_way_mats p1_way_places x2 = some r ∧ (0 ≤ (r.2.2.1).toInt ∧ (r.2.2.1).toInt ≤ 12) := by
  unfold fX8_follow
  have k0 : (0 : Int32).toInt = 0 := rfl
  have km : (-1 : Int32).toInt = -1 := rfl
  have k_0 := zq_k 0 (by decide)
  obtain ⟨r1, e2, q1⟩ := t_fX6_factOf p1_runners_entered p1_runners_facts x2 (nI 0) ⟨by omega, by omega⟩
  rw [e2, Option.bind_some]
  obtain ⟨r3, e4, q3⟩ := t_fX10_leastLimit r1 
  rw [e4, Option.bind_some]
  obtain ⟨r5, e6, q5⟩ := t_fX10_greatestLimit r1 
  rw [e6, Option.bind_some]
  obtain ⟨r7, e8, q7⟩ := t_fX9_size p1_way_mats ⟨by omega, by omega⟩
  rw [e8, Option.bind_some]
  refine t_fX8_follow_L40 p1_guns_ticks p1_runners_entered p1_runners_facts p1_runners_splits p1_way_mats p1_way_places x2 r7 _ ⟨by omega, by omega⟩ ⟨by omega, by omega⟩ ?_ _ (nI 0) t_places t_ticks ⟨by omega, by omega⟩ ⟨by omega, by omega⟩
  intro v4_40 t_places_l40 t_ticks_l40 iv4_40
  refine ⟨_, rfl, ?_⟩
  dsimp only
  exact ⟨by omega, by omega⟩
theorem t_fX8_tickAt (t_mats : Int32) (t_ticks : Nat → Int32) (x1 : Int32) (h_t_mats : 0 ≤ t_mats.toInt ∧ t_mats.toInt ≤ 12) : ∃ r, fX8_tickAt t_mats t_ticks x1 = some r ∧ (True) := by
  unfold fX8_tickAt
  have k0 : (0 : Int32).toInt = 0 := rfl
  have km : (-1 : Int32).toInt = -1 := rfl
  have k_12 := zq_k 12 (by decide)
  by_cases h1 : x1 < 0
  · rw [if_pos h1]
    have q2 := zq_lt h1
    exact ⟨_, rfl, trivial⟩
  · rw [if_neg h1]
    have q3 := zq_nlt h1
    by_cases h4 : t_mats ≤ x1
    · rw [if_pos h4]
      have q5 := zq_le h4
      exact ⟨_, rfl, trivial⟩
    · rw [if_neg h4]
      have q6 := zq_nle h4
      by_cases h7 : (nI 12) ≤ x1
      · rw [if_pos h7]
        have q8 := zq_le h7
        exact ⟨_, rfl, trivial⟩
      · rw [if_neg h7]
        have q9 := zq_nle h7
        have z10 : zin x1 12 := zq_in (by omega) (by omega)
        rw [if_pos z10]
        exact ⟨_, rfl, trivial⟩
theorem t_fX8_isSeen (t_mats : Int32) (t_ticks : Nat → Int32) (x1 : Int32) (h_t_mats : 0 ≤ t_mats.toInt ∧ t_mats.toInt ≤ 12) : ∃ r, fX8_isSeen t_mats t_ticks x1 = some r ∧ (True) := by
  unfold fX8_isSeen
  have k0 : (0 : Int32).toInt = 0 := rfl
  have km : (-1 : Int32).toInt = -1 := rfl
  obtain ⟨r1, e2, q1⟩ := t_fX8_tickAt t_mats t_ticks x1 ⟨by omega, by omega⟩
  rw [e2, Option.bind_some]
  by_cases h3 : r1 = (-1 : Int32)
  · rw [if_pos h3]
    have q4 := zq_eq h3
    exact ⟨_, rfl, trivial⟩
  · rw [if_neg h3]
    have q5 := zq_ne h3
    exact ⟨_, rfl, trivial⟩
theorem t_fX8_seenBehind_L4 (t_mats : Int32) (t_ticks : Nat → Int32) (K4_28 : Int32 → Option (Int32)) (h_t_mats : 0 ≤ t_mats.toInt ∧ t_mats.toInt ≤ 12) (hK : ∀ (v2_4 : Int32), (0 ≤ v2_4.toInt ∧ v2_4.toInt ≤ 12) → ∃ r, K4_28 v2_4 = some r ∧ (True)) : ∀ (n : Nat) (v2_4 : Int32), (0 ≤ v2_4.toInt ∧ v2_4.toInt ≤ 12) → (1 ≤ n ∧ 13 - v2_4.toInt ≤ (n : Int)) → ∃ r, fX8_seenBehind_L4 t_mats t_ticks K4_28 n v2_4 = some r ∧ (True) := by
  intro n
  induction n with
  | zero => intro v2_4 iv2_4 im; exact absurd im.1 (by decide)
  | succ n4 ih =>
    intro v2_4 iv2_4 im
    rw [fX8_seenBehind_L4]
    have im2 := im.2
    have k0 : (0 : Int32).toInt = 0 := rfl
    have km : (-1 : Int32).toInt = -1 := rfl
    have k_1 := zq_k 1 (by decide)
    by_cases h1 : t_mats ≤ v2_4
    · rw [if_pos h1]
      have q2 := zq_le h1
      exact hK v2_4 ⟨by omega, by omega⟩
    · rw [if_neg h1]
      have q3 := zq_nle h1
      obtain ⟨b2, e5, q4⟩ := t_fX8_isSeen t_mats t_ticks v2_4 ⟨by omega, by omega⟩
      rw [e5, Option.bind_some]
      by_cases h6 : (zb b2) = 0
      · rw [if_pos h6]
        try have a7 := zq_add (x := v2_4) (y := (nI 1)) (by omega) (by omega)
        exact ih (v2_4 + (nI 1)) ⟨by omega, by omega⟩ ⟨by omega, by omega⟩
      · rw [if_neg h6]
        exact ⟨_, rfl, trivial⟩
theorem t_fX8_seenBehind (N : Nat) (t_mats : Int32) (t_ticks : Nat → Int32) (x1 : Int32) (hN : 10000 ≤ N) (h_t_mats : 0 ≤ t_mats.toInt ∧ t_mats.toInt ≤ 12) (h_x1 : 0 ≤ x1.toInt ∧ x1.toInt ≤ 11) : ∃ r, fX8_seenBehind N t_mats t_ticks x1 = some r ∧ (True) := by
  unfold fX8_seenBehind
  have k0 : (0 : Int32).toInt = 0 := rfl
  have km : (-1 : Int32).toInt = -1 := rfl
  have k_1 := zq_k 1 (by decide)
  try have a1 := zq_add (x := x1) (y := (nI 1)) (by omega) (by omega)
  refine t_fX8_seenBehind_L4 t_mats t_ticks _ ⟨by omega, by omega⟩ ?_ _ (x1 + (nI 1)) ⟨by omega, by omega⟩ ⟨by omega, by omega⟩
  intro v2_4 iv2_4
  exact ⟨_, rfl, trivial⟩
theorem t_fX0_add (t_doubts : Int32) (t_codes : Nat → Int32) (x1 : Int32) (x2 : Int32) (x3 : Int32)  : ∃ r, fX0_add t_doubts t_codes x1 x2 x3 = some r ∧ (True) := by
  unfold fX0_add
  have k0 : (0 : Int32).toInt = 0 := rfl
  have km : (-1 : Int32).toInt = -1 := rfl
  have k_1 := zq_k 1 (by decide)
  have k_3 := zq_k 3 (by decide)
  have k_12 := zq_k 12 (by decide)
  have k_2160 := zq_k 2160 (by decide)
  by_cases h1 : t_doubts < 0
  · rw [if_pos h1]
    have q2 := zq_lt h1
    exact ⟨_, rfl, trivial⟩
  · rw [if_neg h1]
    have q3 := zq_nlt h1
    by_cases h4 : (nI 2160) ≤ t_doubts
    · rw [if_pos h4]
      have q5 := zq_le h4
      exact ⟨_, rfl, trivial⟩
    · rw [if_neg h4]
      have q6 := zq_nle h4
      have z7 : zin t_doubts 2160 := zq_in (by omega) (by omega)
      rw [if_pos z7]
      exact ⟨_, rfl, trivial⟩
theorem t_fX8_seenAhead_L4 (t_mats : Int32) (t_ticks : Nat → Int32) (K4_24 : Int32 → Option (Int32)) (h_t_mats : 0 ≤ t_mats.toInt ∧ t_mats.toInt ≤ 12) (hK : ∀ (v2_4 : Int32), (-1 ≤ v2_4.toInt ∧ v2_4.toInt ≤ 60) → ∃ r, K4_24 v2_4 = some r ∧ (True)) : ∀ (n : Nat) (v2_4 : Int32), (-1 ≤ v2_4.toInt ∧ v2_4.toInt ≤ 60) → (1 ≤ n ∧ v2_4.toInt + 2 ≤ (n : Int)) → ∃ r, fX8_seenAhead_L4 t_mats t_ticks K4_24 n v2_4 = some r ∧ (True) := by
  intro n
  induction n with
  | zero => intro v2_4 iv2_4 im; exact absurd im.1 (by decide)
  | succ n4 ih =>
    intro v2_4 iv2_4 im
    rw [fX8_seenAhead_L4]
    have im2 := im.2
    have k0 : (0 : Int32).toInt = 0 := rfl
    have km : (-1 : Int32).toInt = -1 := rfl
    by_cases h1 : v2_4 < 0
    · rw [if_pos h1]
      have q2 := zq_lt h1
      exact hK v2_4 ⟨by omega, by omega⟩
    · rw [if_neg h1]
      have q3 := zq_nlt h1
      obtain ⟨b2, e5, q4⟩ := t_fX8_isSeen t_mats t_ticks v2_4 ⟨by omega, by omega⟩
      rw [e5, Option.bind_some]
      by_cases h6 : (zb b2) = 0
      · rw [if_pos h6]
        try have a7 := zq_add (x := v2_4) (y := (-1 : Int32)) (by omega) (by omega)
        exact ih (v2_4 + (-1 : Int32)) ⟨by omega, by omega⟩ ⟨by omega, by omega⟩
      · rw [if_neg h6]
        exact ⟨_, rfl, trivial⟩
theorem t_fX8_seenAhead (N : Nat) (t_mats : Int32) (t_ticks : Nat → Int32) (x1 : Int32) (hN : 10000 ≤ N) (h_t_mats : 0 ≤ t_mats.toInt ∧ t_mats.toInt ≤ 12) (h_x1 : 0 ≤ x1.toInt ∧ x1.toInt ≤ 11) : ∃ r, fX8_seenAhead N t_mats t_ticks x1 = some r ∧ (True) := by
  unfold fX8_seenAhead
  have k0 : (0 : Int32).toInt = 0 := rfl
  have km : (-1 : Int32).toInt = -1 := rfl
  have k_1 := zq_k 1 (by decide)
  try have a1 := zq_sub (x := x1) (y := (nI 1)) (by omega) (by omega)
  refine t_fX8_seenAhead_L4 t_mats t_ticks _ ⟨by omega, by omega⟩ ?_ _ (x1 - (nI 1)) ⟨by omega, by omega⟩ ⟨by omega, by omega⟩
  intro v2_4 iv2_4
  exact ⟨_, rfl, trivial⟩
theorem t_fX8_placeAt (t_mats : Int32) (t_places : Nat → Int32) (x1 : Int32) (h_t_mats : 0 ≤ t_mats.toInt ∧ t_mats.toInt ≤ 12) : ∃ r, fX8_placeAt t_mats t_places x1 = some r ∧ (True) := by
  unfold fX8_placeAt
  have k0 : (0 : Int32).toInt = 0 := rfl
  have km : (-1 : Int32).toInt = -1 := rfl
  have k_12 := zq_k 12 (by decide)
  by_cases h1 : x1 < 0
  · rw [if_pos h1]
    have q2 := zq_lt h1
    exact ⟨_, rfl, trivial⟩
  · rw [if_neg h1]
    have q3 := zq_nlt h1
    by_cases h4 : t_mats ≤ x1
    · rw [if_pos h4]
      have q5 := zq_le h4
      exact ⟨_, rfl, trivial⟩
    · rw [if_neg h4]
      have q6 := zq_nle h4
      by_cases h7 : (nI 12) ≤ x1
      · rw [if_pos h7]
        have q8 := zq_le h7
        exact ⟨_, rfl, trivial⟩
      · rw [if_neg h7]
        have q9 := zq_nle h7
        have z10 : zin x1 12 := zq_in (by omega) (by omega)
        rw [if_pos z10]
        exact ⟨_, rfl, trivial⟩
theorem t_fX10_secondsUp (x1 : Int32) (x2 : Int32)  : ∃ r, fX10_secondsUp x1 x2 = some r ∧ (True) := by
  unfold fX10_secondsUp
  have k0 : (0 : Int32).toInt = 0 := rfl
  have km : (-1 : Int32).toInt = -1 := rfl
  have k_999 := zq_k 999 (by decide)
  have k_1000 := zq_k 1000 (by decide)
  exact ⟨_, rfl, trivial⟩
theorem t_fX8_quickest (t_least : Int32) (t_mats : Int32) (t_places : Nat → Int32) (x1 : Int32) (x2 : Int32) (h_t_mats : 0 ≤ t_mats.toInt ∧ t_mats.toInt ≤ 12) : ∃ r, fX8_quickest t_least t_mats t_places x1 x2 = some r ∧ (True) := by
  unfold fX8_quickest
  have k0 : (0 : Int32).toInt = 0 := rfl
  have km : (-1 : Int32).toInt = -1 := rfl
  obtain ⟨r1, e2, q1⟩ := t_fX8_placeAt t_mats t_places x2 ⟨by omega, by omega⟩
  rw [e2, Option.bind_some]
  obtain ⟨r3, e4, q3⟩ := t_fX8_placeAt t_mats t_places x1 ⟨by omega, by omega⟩
  rw [e4, Option.bind_some]
  obtain ⟨r5, e6, q5⟩ := t_fX10_secondsUp (r1 - r3) t_least 
  rw [e6, Option.bind_some]
  exact ⟨_, rfl, trivial⟩
theorem t_fX8_isTooQuick (N : Nat) (t_least : Int32) (t_mats : Int32) (t_places : Nat → Int32) (t_ticks : Nat → Int32) (x1 : Int32) (hN : 10000 ≤ N) (h_t_mats : 0 ≤ t_mats.toInt ∧ t_mats.toInt ≤ 12) (h_x1 : 0 ≤ x1.toInt ∧ x1.toInt ≤ 11) : ∃ r, fX8_isTooQuick N t_least t_mats t_places t_ticks x1 = some r ∧ (True) := by
  unfold fX8_isTooQuick
  have k0 : (0 : Int32).toInt = 0 := rfl
  have km : (-1 : Int32).toInt = -1 := rfl
  obtain ⟨r1, e2, q1⟩ := t_fX8_seenAhead N t_mats t_ticks x1 hN ⟨by omega, by omega⟩ ⟨by omega, by omega⟩
  rw [e2, Option.bind_some]
  by_cases h3 : r1 = (-1 : Int32)
  · rw [if_pos h3]
    have q4 := zq_eq h3
    exact ⟨_, rfl, trivial⟩
  · rw [if_neg h3]
    have q5 := zq_ne h3
    obtain ⟨b4, e7, q6⟩ := t_fX8_isSeen t_mats t_ticks x1 ⟨by omega, by omega⟩
    rw [e7, Option.bind_some]
    by_cases h8 : (zb b4) = 0
    · rw [if_pos h8]
      exact ⟨_, rfl, trivial⟩
    · rw [if_neg h8]
      obtain ⟨r7, e10, q9⟩ := t_fX8_tickAt t_mats t_ticks x1 ⟨by omega, by omega⟩
      rw [e10, Option.bind_some]
      obtain ⟨r9, e12, q11⟩ := t_fX8_tickAt t_mats t_ticks r1 ⟨by omega, by omega⟩
      rw [e12, Option.bind_some]
      obtain ⟨r11, e14, q13⟩ := t_fX8_quickest t_least t_mats t_places r1 x1 ⟨by omega, by omega⟩
      rw [e14, Option.bind_some]
      by_cases h15 : r11 ≤ (r7 - r9)
      · rw [if_pos h15]
        have q16 := zq_le h15
        exact ⟨_, rfl, trivial⟩
      · rw [if_neg h15]
        have q17 := zq_nle h15
        exact ⟨_, rfl, trivial⟩
theorem t_fX10_secondsCut (x1 : Int32) (x2 : Int32)  : ∃ r, fX10_secondsCut x1 x2 = some r ∧ (True) := by
  unfold fX10_secondsCut
  have k0 : (0 : Int32).toInt = 0 := rfl
  have km : (-1 : Int32).toInt = -1 := rfl
  have k_1000 := zq_k 1000 (by decide)
  exact ⟨_, rfl, trivial⟩
theorem t_fX8_slowest (t_greatest : Int32) (t_mats : Int32) (t_places : Nat → Int32) (x1 : Int32) (x2 : Int32) (h_t_mats : 0 ≤ t_mats.toInt ∧ t_mats.toInt ≤ 12) : ∃ r, fX8_slowest t_greatest t_mats t_places x1 x2 = some r ∧ (True) := by
  unfold fX8_slowest
  have k0 : (0 : Int32).toInt = 0 := rfl
  have km : (-1 : Int32).toInt = -1 := rfl
  obtain ⟨r1, e2, q1⟩ := t_fX8_placeAt t_mats t_places x2 ⟨by omega, by omega⟩
  rw [e2, Option.bind_some]
  obtain ⟨r3, e4, q3⟩ := t_fX8_placeAt t_mats t_places x1 ⟨by omega, by omega⟩
  rw [e4, Option.bind_some]
  obtain ⟨r5, e6, q5⟩ := t_fX10_secondsCut (r1 - r3) t_greatest 
  rw [e6, Option.bind_some]
  exact ⟨_, rfl, trivial⟩
theorem t_fX8_leastGuess (N : Nat) (t_greatest : Int32) (t_least : Int32) (t_mats : Int32) (t_places : Nat → Int32) (t_ticks : Nat → Int32) (x1 : Int32) (hN : 10000 ≤ N) (h_t_mats : 0 ≤ t_mats.toInt ∧ t_mats.toInt ≤ 12) (h_x1 : 0 ≤ x1.toInt ∧ x1.toInt ≤ 11) : ∃ r, fX8_leastGuess N t_greatest t_least t_mats t_places t_ticks x1 = some r ∧ (True) := by
  unfold fX8_leastGuess
  have k0 : (0 : Int32).toInt = 0 := rfl
  have km : (-1 : Int32).toInt = -1 := rfl
  have k_0 := zq_k 0 (by decide)
  obtain ⟨r1, e2, q1⟩ := t_fX8_seenAhead N t_mats t_ticks x1 hN ⟨by omega, by omega⟩ ⟨by omega, by omega⟩
  rw [e2, Option.bind_some]
  obtain ⟨b3, e4, q3⟩ := t_fX8_isSeen t_mats t_ticks x1 ⟨by omega, by omega⟩
  rw [e4, Option.bind_some]
  by_cases h5 : (zb b3) = 0
  · rw [if_pos h5]
    by_cases h6 : r1 = (-1 : Int32)
    · rw [if_pos h6]
      have q7 := zq_eq h6
      obtain ⟨r20, e9, q8⟩ := t_fX8_tickAt t_mats t_ticks x1 ⟨by omega, by omega⟩
      rw [e9, Option.bind_some]
      exact ⟨_, rfl, trivial⟩
    · rw [if_neg h6]
      have q10 := zq_ne h6
      obtain ⟨r9, e12, q11⟩ := t_fX8_tickAt t_mats t_ticks r1 ⟨by omega, by omega⟩
      rw [e12, Option.bind_some]
      obtain ⟨r11, e14, q13⟩ := t_fX8_quickest t_least t_mats t_places r1 x1 ⟨by omega, by omega⟩
      rw [e14, Option.bind_some]
      obtain ⟨r13, e16, q15⟩ := t_fX8_seenBehind N t_mats t_ticks x1 hN ⟨by omega, by omega⟩ ⟨by omega, by omega⟩
      rw [e16, Option.bind_some]
      by_cases h17 : r13 = (-1 : Int32)
      · rw [if_pos h17]
        have q18 := zq_eq h17
        exact ⟨_, rfl, trivial⟩
      · rw [if_neg h17]
        have q19 := zq_ne h17
        obtain ⟨r16, e21, q20⟩ := t_fX8_tickAt t_mats t_ticks r13 ⟨by omega, by omega⟩
        rw [e21, Option.bind_some]
        obtain ⟨r18, e23, q22⟩ := t_fX8_slowest t_greatest t_mats t_places x1 r13 ⟨by omega, by omega⟩
        rw [e23, Option.bind_some]
        exact ⟨_, rfl, trivial⟩
  · rw [if_neg h5]
    obtain ⟨r6, e25, q24⟩ := t_fX8_tickAt t_mats t_ticks x1 ⟨by omega, by omega⟩
    rw [e25, Option.bind_some]
    exact ⟨_, rfl, trivial⟩
theorem t_fX8_greatestGuess (N : Nat) (t_greatest : Int32) (t_least : Int32) (t_mats : Int32) (t_places : Nat → Int32) (t_ticks : Nat → Int32) (x1 : Int32) (hN : 10000 ≤ N) (h_t_mats : 0 ≤ t_mats.toInt ∧ t_mats.toInt ≤ 12) (h_x1 : 0 ≤ x1.toInt ∧ x1.toInt ≤ 11) : ∃ r, fX8_greatestGuess N t_greatest t_least t_mats t_places t_ticks x1 = some r ∧ (True) := by
  unfold fX8_greatestGuess
  have k0 : (0 : Int32).toInt = 0 := rfl
  have km : (-1 : Int32).toInt = -1 := rfl
  have k_0 := zq_k 0 (by decide)
  obtain ⟨r1, e2, q1⟩ := t_fX8_seenAhead N t_mats t_ticks x1 hN ⟨by omega, by omega⟩ ⟨by omega, by omega⟩
  rw [e2, Option.bind_some]
  obtain ⟨b3, e4, q3⟩ := t_fX8_isSeen t_mats t_ticks x1 ⟨by omega, by omega⟩
  rw [e4, Option.bind_some]
  by_cases h5 : (zb b3) = 0
  · rw [if_pos h5]
    by_cases h6 : r1 = (-1 : Int32)
    · rw [if_pos h6]
      have q7 := zq_eq h6
      obtain ⟨r20, e9, q8⟩ := t_fX8_tickAt t_mats t_ticks x1 ⟨by omega, by omega⟩
      rw [e9, Option.bind_some]
      exact ⟨_, rfl, trivial⟩
    · rw [if_neg h6]
      have q10 := zq_ne h6
      obtain ⟨r9, e12, q11⟩ := t_fX8_tickAt t_mats t_ticks r1 ⟨by omega, by omega⟩
      rw [e12, Option.bind_some]
      obtain ⟨r11, e14, q13⟩ := t_fX8_slowest t_greatest t_mats t_places r1 x1 ⟨by omega, by omega⟩
      rw [e14, Option.bind_some]
      obtain ⟨r13, e16, q15⟩ := t_fX8_seenBehind N t_mats t_ticks x1 hN ⟨by omega, by omega⟩ ⟨by omega, by omega⟩
      rw [e16, Option.bind_some]
      by_cases h17 : r13 = (-1 : Int32)
      · rw [if_pos h17]
        have q18 := zq_eq h17
        exact ⟨_, rfl, trivial⟩
      · rw [if_neg h17]
        have q19 := zq_ne h17
        obtain ⟨r16, e21, q20⟩ := t_fX8_tickAt t_mats t_ticks r13 ⟨by omega, by omega⟩
        rw [e21, Option.bind_some]
        obtain ⟨r18, e23, q22⟩ := t_fX8_quickest t_least t_mats t_places x1 r13 ⟨by omega, by omega⟩
        rw [e23, Option.bind_some]
        exact ⟨_, rfl, trivial⟩
  · rw [if_neg h5]
    obtain ⟨r6, e25, q24⟩ := t_fX8_tickAt t_mats t_ticks x1 ⟨by omega, by omega⟩
    rw [e25, Option.bind_some]
    exact ⟨_, rfl, trivial⟩
theorem t_fX0_gatherAt (N : Nat) (t_doubts : Int32) (t_codes : Nat → Int32) (p1_greatest : Int32) (p1_least : Int32) (p1_mats : Int32) (p1_places : Nat → Int32) (p1_ticks : Nat → Int32) (x2 : Int32) (x3 : Int32) (hN : 10000 ≤ N) (h_p1_mats : 0 ≤ p1_mats.toInt ∧ p1_mats.toInt ≤ 12) (h_x3 : 0 ≤ x3.toInt ∧ x3.toInt ≤ 11) : ∃ r, fX0_gatherAt N t_doubts t_codes p1_greatest p1_least p1_mats p1_places p1_ticks x2 x3 = some r ∧ (True) := by
  unfold fX0_gatherAt
  have k0 : (0 : Int32).toInt = 0 := rfl
  have km : (-1 : Int32).toInt = -1 := rfl
  have k_1 := zq_k 1 (by decide)
  have k_2 := zq_k 2 (by decide)
  have k_3 := zq_k 3 (by decide)
  obtain ⟨b1, e2, q1⟩ := t_fX8_isSeen p1_mats p1_ticks x3 ⟨by omega, by omega⟩
  rw [e2, Option.bind_some]
  by_cases h3 : (zb b1) = 0
  · rw [if_pos h3]
    obtain ⟨r28, e5, q4⟩ := t_fX8_seenBehind N p1_mats p1_ticks x3 hN ⟨by omega, by omega⟩ ⟨by omega, by omega⟩
    rw [e5, Option.bind_some]
    by_cases h6 : r28 = (-1 : Int32)
    · rw [if_pos h6]
      have q7 := zq_eq h6
      unfold fX0_gatherAt_J28
      obtain ⟨b3, e9, q8⟩ := t_fX8_isTooQuick N p1_least p1_mats p1_places p1_ticks x3 hN ⟨by omega, by omega⟩ ⟨by omega, by omega⟩
      rw [e9, Option.bind_some]
      by_cases h10 : (zb b3) = 0
      · rw [if_pos h10]
        by_cases h11 : (zb b1) = 0
        · rw [if_pos h11]
          obtain ⟨r7, e13, q12⟩ := t_fX8_leastGuess N p1_greatest p1_least p1_mats p1_places p1_ticks x3 hN ⟨by omega, by omega⟩ ⟨by omega, by omega⟩
          rw [e13, Option.bind_some]
          obtain ⟨r9, e15, q14⟩ := t_fX8_greatestGuess N p1_greatest p1_least p1_mats p1_places p1_ticks x3 hN ⟨by omega, by omega⟩ ⟨by omega, by omega⟩
          rw [e15, Option.bind_some]
          by_cases h16 : r7 ≤ r9
          · rw [if_pos h16]
            have q17 := zq_le h16
            exact ⟨_, rfl, trivial⟩
          · rw [if_neg h16]
            have q18 := zq_nle h16
            obtain ⟨⟨t_doubts_r12, t_codes_r13⟩, e20, q19⟩ := t_fX0_add t_doubts t_codes x2 x3 (nI 3) 
            rw [e20, Option.bind_some]
            dsimp only
            exact ⟨_, rfl, trivial⟩
        · rw [if_neg h11]
          exact ⟨_, rfl, trivial⟩
      · rw [if_neg h10]
        obtain ⟨⟨t_doubts_r15, t_codes_r16⟩, e22, q21⟩ := t_fX0_add t_doubts t_codes x2 x3 (nI 2) 
        rw [e22, Option.bind_some]
        dsimp only
        by_cases h23 : (zb b1) = 0
        · rw [if_pos h23]
          obtain ⟨r19, e25, q24⟩ := t_fX8_leastGuess N p1_greatest p1_least p1_mats p1_places p1_ticks x3 hN ⟨by omega, by omega⟩ ⟨by omega, by omega⟩
          rw [e25, Option.bind_some]
          obtain ⟨r21, e27, q26⟩ := t_fX8_greatestGuess N p1_greatest p1_least p1_mats p1_places p1_ticks x3 hN ⟨by omega, by omega⟩ ⟨by omega, by omega⟩
          rw [e27, Option.bind_some]
          by_cases h28 : r19 ≤ r21
          · rw [if_pos h28]
            have q29 := zq_le h28
            exact ⟨_, rfl, trivial⟩
          · rw [if_neg h28]
            have q30 := zq_nle h28
            obtain ⟨⟨t_doubts_r24, t_codes_r25⟩, e32, q31⟩ := t_fX0_add t_doubts_r15 t_codes_r16 x2 x3 (nI 3) 
            rw [e32, Option.bind_some]
            dsimp only
            exact ⟨_, rfl, trivial⟩
        · rw [if_neg h23]
          exact ⟨_, rfl, trivial⟩
    · rw [if_neg h6]
      have q33 := zq_ne h6
      obtain ⟨⟨t_doubts_r31, t_codes_r32⟩, e35, q34⟩ := t_fX0_add t_doubts t_codes x2 x3 (nI 1) 
      rw [e35, Option.bind_some]
      dsimp only
      unfold fX0_gatherAt_J28
      obtain ⟨b3, e37, q36⟩ := t_fX8_isTooQuick N p1_least p1_mats p1_places p1_ticks x3 hN ⟨by omega, by omega⟩ ⟨by omega, by omega⟩
      rw [e37, Option.bind_some]
      by_cases h38 : (zb b3) = 0
      · rw [if_pos h38]
        by_cases h39 : (zb b1) = 0
        · rw [if_pos h39]
          obtain ⟨r7, e41, q40⟩ := t_fX8_leastGuess N p1_greatest p1_least p1_mats p1_places p1_ticks x3 hN ⟨by omega, by omega⟩ ⟨by omega, by omega⟩
          rw [e41, Option.bind_some]
          obtain ⟨r9, e43, q42⟩ := t_fX8_greatestGuess N p1_greatest p1_least p1_mats p1_places p1_ticks x3 hN ⟨by omega, by omega⟩ ⟨by omega, by omega⟩
          rw [e43, Option.bind_some]
          by_cases h44 : r7 ≤ r9
          · rw [if_pos h44]
            have q45 := zq_le h44
            exact ⟨_, rfl, trivial⟩
          · rw [if_neg h44]
            have q46 := zq_nle h44
            obtain ⟨⟨t_doubts_r12, t_codes_r13⟩, e48, q47⟩ := t_fX0_add t_doubts_r31 t_codes_r32 x2 x3 (nI 3) 
            rw [e48, Option.bind_some]
            dsimp only
            exact ⟨_, rfl, trivial⟩
        · rw [if_neg h39]
          exact ⟨_, rfl, trivial⟩
      · rw [if_neg h38]
        obtain ⟨⟨t_doubts_r15, t_codes_r16⟩, e50, q49⟩ := t_fX0_add t_doubts_r31 t_codes_r32 x2 x3 (nI 2) 
        rw [e50, Option.bind_some]
        dsimp only
        by_cases h51 : (zb b1) = 0
        · rw [if_pos h51]
          obtain ⟨r19, e53, q52⟩ := t_fX8_leastGuess N p1_greatest p1_least p1_mats p1_places p1_ticks x3 hN ⟨by omega, by omega⟩ ⟨by omega, by omega⟩
          rw [e53, Option.bind_some]
          obtain ⟨r21, e55, q54⟩ := t_fX8_greatestGuess N p1_greatest p1_least p1_mats p1_places p1_ticks x3 hN ⟨by omega, by omega⟩ ⟨by omega, by omega⟩
          rw [e55, Option.bind_some]
          by_cases h56 : r19 ≤ r21
          · rw [if_pos h56]
            have q57 := zq_le h56
            exact ⟨_, rfl, trivial⟩
          · rw [if_neg h56]
            have q58 := zq_nle h56
            obtain ⟨⟨t_doubts_r24, t_codes_r25⟩, e60, q59⟩ := t_fX0_add t_doubts_r15 t_codes_r16 x2 x3 (nI 3) 
            rw [e60, Option.bind_some]
            dsimp only
            exact ⟨_, rfl, trivial⟩
        · rw [if_neg h51]
          exact ⟨_, rfl, trivial⟩
  · rw [if_neg h3]
    unfold fX0_gatherAt_J28
    obtain ⟨b3, e62, q61⟩ := t_fX8_isTooQuick N p1_least p1_mats p1_places p1_ticks x3 hN ⟨by omega, by omega⟩ ⟨by omega, by omega⟩
    rw [e62, Option.bind_some]
    by_cases h63 : (zb b3) = 0
    · rw [if_pos h63]
      by_cases h64 : (zb b1) = 0
      · rw [if_pos h64]
        obtain ⟨r7, e66, q65⟩ := t_fX8_leastGuess N p1_greatest p1_least p1_mats p1_places p1_ticks x3 hN ⟨by omega, by omega⟩ ⟨by omega, by omega⟩
        rw [e66, Option.bind_some]
        obtain ⟨r9, e68, q67⟩ := t_fX8_greatestGuess N p1_greatest p1_least p1_mats p1_places p1_ticks x3 hN ⟨by omega, by omega⟩ ⟨by omega, by omega⟩
        rw [e68, Option.bind_some]
        by_cases h69 : r7 ≤ r9
        · rw [if_pos h69]
          have q70 := zq_le h69
          exact ⟨_, rfl, trivial⟩
        · rw [if_neg h69]
          have q71 := zq_nle h69
          obtain ⟨⟨t_doubts_r12, t_codes_r13⟩, e73, q72⟩ := t_fX0_add t_doubts t_codes x2 x3 (nI 3) 
          rw [e73, Option.bind_some]
          dsimp only
          exact ⟨_, rfl, trivial⟩
      · rw [if_neg h64]
        exact ⟨_, rfl, trivial⟩
    · rw [if_neg h63]
      obtain ⟨⟨t_doubts_r15, t_codes_r16⟩, e75, q74⟩ := t_fX0_add t_doubts t_codes x2 x3 (nI 2) 
      rw [e75, Option.bind_some]
      dsimp only
      by_cases h76 : (zb b1) = 0
      · rw [if_pos h76]
        obtain ⟨r19, e78, q77⟩ := t_fX8_leastGuess N p1_greatest p1_least p1_mats p1_places p1_ticks x3 hN ⟨by omega, by omega⟩ ⟨by omega, by omega⟩
        rw [e78, Option.bind_some]
        obtain ⟨r21, e80, q79⟩ := t_fX8_greatestGuess N p1_greatest p1_least p1_mats p1_places p1_ticks x3 hN ⟨by omega, by omega⟩ ⟨by omega, by omega⟩
        rw [e80, Option.bind_some]
        by_cases h81 : r19 ≤ r21
        · rw [if_pos h81]
          have q82 := zq_le h81
          exact ⟨_, rfl, trivial⟩
        · rw [if_neg h81]
          have q83 := zq_nle h81
          obtain ⟨⟨t_doubts_r24, t_codes_r25⟩, e85, q84⟩ := t_fX0_add t_doubts_r15 t_codes_r16 x2 x3 (nI 3) 
          rw [e85, Option.bind_some]
          dsimp only
          exact ⟨_, rfl, trivial⟩
      · rw [if_neg h76]
        exact ⟨_, rfl, trivial⟩
theorem t_fX0_gather_L27 (N : Nat) (p1_way_mats : Int32) (v3_7 : Int32) (p2_greatest_r4 : Int32) (p2_least_r5 : Int32) (p2_mats_r6 : Int32) (p2_places_r7 : Nat → Int32) (p2_ticks_r8 : Nat → Int32) (K27_53 : Int32 → Int32 → (Nat → Int32) → Option (Int32 × Int32 × (Nat → Int32) × Int32 × Int32 × Int32 × (Nat → Int32) × (Nat → Int32))) (hN : 10000 ≤ N) (h_p1_way_mats : 0 ≤ p1_way_mats.toInt ∧ p1_way_mats.toInt ≤ 12) (h_p2_mats_r6 : 0 ≤ p2_mats_r6.toInt ∧ p2_mats_r6.toInt ≤ 12) (hK : ∀ (v4_27 : Int32) (t_doubts_l27 : Int32) (t_codes_l27 : Nat → Int32), (0 ≤ v4_27.toInt ∧ v4_27.toInt ≤ 12) → ∃ r, K27_53 v4_27 t_doubts_l27 t_codes_l27 = some r ∧ (True)) : ∀ (n : Nat) (v4_27 : Int32) (t_doubts_l27 : Int32) (t_codes_l27 : Nat → Int32), (0 ≤ v4_27.toInt ∧ v4_27.toInt ≤ 12) → (1 ≤ n ∧ 13 - v4_27.toInt ≤ (n : Int)) → ∃ r, fX0_gather_L27 N p1_way_mats v3_7 p2_greatest_r4 p2_least_r5 p2_mats_r6 p2_places_r7 p2_ticks_r8 K27_53 n v4_27 t_doubts_l27 t_codes_l27 = some r ∧ (True) := by
  intro n
  induction n with
  | zero => intro v4_27 t_doubts_l27 t_codes_l27 iv4_27 im; exact absurd im.1 (by decide)
  | succ n27 ih =>
    intro v4_27 t_doubts_l27 t_codes_l27 iv4_27 im
    rw [fX0_gather_L27]
    have im2 := im.2
    have k0 : (0 : Int32).toInt = 0 := rfl
    have km : (-1 : Int32).toInt = -1 := rfl
    have k_1 := zq_k 1 (by decide)
    obtain ⟨r10, e2, q1⟩ := t_fX9_size p1_way_mats ⟨by omega, by omega⟩
    rw [e2, Option.bind_some]
    by_cases h3 : r10 ≤ v4_27
    · rw [if_pos h3]
      have q4 := zq_le h3
      exact hK v4_27 t_doubts_l27 t_codes_l27 ⟨by omega, by omega⟩
    · rw [if_neg h3]
      have q5 := zq_nle h3
      obtain ⟨⟨t_doubts_r13, t_codes_r14⟩, e7, q6⟩ := t_fX0_gatherAt N t_doubts_l27 t_codes_l27 p2_greatest_r4 p2_least_r5 p2_mats_r6 p2_places_r7 p2_ticks_r8 v3_7 v4_27 hN ⟨by omega, by omega⟩ ⟨by omega, by omega⟩
      rw [e7, Option.bind_some]
      dsimp only
      try have a8 := zq_add (x := v4_27) (y := (nI 1)) (by omega) (by omega)
      exact ih (v4_27 + (nI 1)) t_doubts_r13 t_codes_r14 ⟨by omega, by omega⟩ ⟨by omega, by omega⟩
theorem t_fX0_gather_L7 (N : Nat) (p1_guns_ticks : Nat → Int32) (p1_runners_entered : Int32) (p1_runners_facts : Nat → Int32) (p1_runners_splits : Nat → Int32) (p1_way_mats : Int32) (p1_way_places : Nat → Int32) (K7_59 : Int32 → Int32 → (Nat → Int32) → Int32 → Int32 → Int32 → (Nat → Int32) → (Nat → Int32) → Option (Int32 × Int32 × (Nat → Int32) × Int32 × Int32 × Int32 × (Nat → Int32) × (Nat → Int32))) (hN : 10000 ≤ N) (h_p1_runners_entered : 0 ≤ p1_runners_entered.toInt ∧ p1_runners_entered.toInt ≤ 60) (h_p1_way_mats : 0 ≤ p1_way_mats.toInt ∧ p1_way_mats.toInt ≤ 12) (hK : ∀ (v3_7 : Int32) (t_doubts_l7 : Int32) (t_codes_l7 : Nat → Int32) (p2_mats_l7 : Int32) (p2_least_l7 : Int32) (p2_greatest_l7 : Int32) (p2_places_l7 : Nat → Int32) (p2_ticks_l7 : Nat → Int32), (0 ≤ v3_7.toInt ∧ v3_7.toInt ≤ 60) → ∃ r, K7_59 v3_7 t_doubts_l7 t_codes_l7 p2_mats_l7 p2_least_l7 p2_greatest_l7 p2_places_l7 p2_ticks_l7 = some r ∧ (True)) : ∀ (n : Nat) (v3_7 : Int32) (t_doubts_l7 : Int32) (t_codes_l7 : Nat → Int32) (p2_mats_l7 : Int32) (p2_least_l7 : Int32) (p2_greatest_l7 : Int32) (p2_places_l7 : Nat → Int32) (p2_ticks_l7 : Nat → Int32), (0 ≤ v3_7.toInt ∧ v3_7.toInt ≤ 60) → (1 ≤ n ∧ 61 - v3_7.toInt ≤ (n : Int)) → ∃ r, fX0_gather_L7 N p1_guns_ticks p1_runners_entered p1_runners_facts p1_runners_splits p1_way_mats p1_way_places K7_59 n v3_7 t_doubts_l7 t_codes_l7 p2_mats_l7 p2_least_l7 p2_greatest_l7 p2_places_l7 p2_ticks_l7 = some r ∧ (True) := by
  intro n
  induction n with
  | zero => intro v3_7 t_doubts_l7 t_codes_l7 p2_mats_l7 p2_least_l7 p2_greatest_l7 p2_places_l7 p2_ticks_l7 iv3_7 im; exact absurd im.1 (by decide)
  | succ n7 ih =>
    intro v3_7 t_doubts_l7 t_codes_l7 p2_mats_l7 p2_least_l7 p2_greatest_l7 p2_places_l7 p2_ticks_l7 iv3_7 im
    rw [fX0_gather_L7]
    have im2 := im.2
    have k0 : (0 : Int32).toInt = 0 := rfl
    have km : (-1 : Int32).toInt = -1 := rfl
    have k_0 := zq_k 0 (by decide)
    have k_1 := zq_k 1 (by decide)
    obtain ⟨r1, e2, q1⟩ := t_fX6_size p1_runners_entered ⟨by omega, by omega⟩
    rw [e2, Option.bind_some]
    by_cases h3 : r1 ≤ v3_7
    · rw [if_pos h3]
      have q4 := zq_le h3
      exact hK v3_7 t_doubts_l7 t_codes_l7 p2_mats_l7 p2_least_l7 p2_greatest_l7 p2_places_l7 p2_ticks_l7 ⟨by omega, by omega⟩
    · rw [if_neg h3]
      have q5 := zq_nle h3
      obtain ⟨⟨p2_greatest_r4, p2_least_r5, p2_mats_r6, p2_places_r7, p2_ticks_r8⟩, e7, q6⟩ := t_fX8_follow N p2_greatest_l7 p2_least_l7 p2_mats_l7 p2_places_l7 p2_ticks_l7 p1_guns_ticks p1_runners_entered p1_runners_facts p1_runners_splits p1_way_mats p1_way_places v3_7 hN ⟨by omega, by omega⟩ ⟨by omega, by omega⟩
      rw [e7, Option.bind_some]
      dsimp only
      dsimp only at q6
      refine t_fX0_gather_L27 N p1_way_mats v3_7 p2_greatest_r4 p2_least_r5 p2_mats_r6 p2_places_r7 p2_ticks_r8 _ hN ⟨by omega, by omega⟩ ⟨by omega, by omega⟩ ?_ _ (nI 0) t_doubts_l7 t_codes_l7 ⟨by omega, by omega⟩ ⟨by omega, by omega⟩
      intro v4_27 t_doubts_l27 t_codes_l27 iv4_27
      try have a8 := zq_add (x := v3_7) (y := (nI 1)) (by omega) (by omega)
      exact ih (v3_7 + (nI 1)) t_doubts_l27 t_codes_l27 p2_mats_r6 p2_least_r5 p2_greatest_r4 p2_places_r7 p2_ticks_r8 ⟨by omega, by omega⟩ ⟨by omega, by omega⟩
theorem t_fX0_gather (N : Nat) (t_doubts : Int32) (t_codes : Nat → Int32) (p1_guns_ticks : Nat → Int32) (p1_runners_entered : Int32) (p1_runners_facts : Nat → Int32) (p1_runners_splits : Nat → Int32) (p1_way_mats : Int32) (p1_way_places : Nat → Int32) (p2_greatest : Int32) (p2_least : Int32) (p2_mats : Int32) (p2_places : Nat → Int32) (p2_ticks : Nat → Int32) (hN : 10000 ≤ N) (h_p1_runners_entered : 0 ≤ p1_runners_entered.toInt ∧ p1_runners_entered.toInt ≤ 60) (h_p1_way_mats : 0 ≤ p1_way_mats.toInt ∧ p1_way_mats.toInt ≤ 12) : ∃ r, fX0_gather N t_doubts t_codes p1_guns_ticks p1_runners_entered p1_runners_facts p1_runners_splits p1_way_mats p1_way_places p2_greatest p2_least p2_mats p2_places p2_ticks = some r ∧ (True) := by
  unfold fX0_gather
  have k0 : (0 : Int32).toInt = 0 := rfl
  have km : (-1 : Int32).toInt = -1 := rfl
  have k_0 := zq_k 0 (by decide)
  refine t_fX0_gather_L7 N p1_guns_ticks p1_runners_entered p1_runners_facts p1_runners_splits p1_way_mats p1_way_places _ hN ⟨by omega, by omega⟩ ⟨by omega, by omega⟩ ?_ _ (nI 0) (nI 0) t_codes p2_mats p2_least p2_greatest p2_places p2_ticks ⟨by omega, by omega⟩ ⟨by omega, by omega⟩
  intro v3_7 t_doubts_l7 t_codes_l7 p2_mats_l7 p2_least_l7 p2_greatest_l7 p2_places_l7 p2_ticks_l7 iv3_7
  exact ⟨_, rfl, trivial⟩
theorem t_fX0_tell (t_doubts : Int32) (t_codes : Nat → Int32) (x1 : Int32) (x2 : Int32)  : ∃ r, fX0_tell t_doubts t_codes x1 x2 = some r ∧ (True) := by
  unfold fX0_tell
  have k0 : (0 : Int32).toInt = 0 := rfl
  have km : (-1 : Int32).toInt = -1 := rfl
  have k_0 := zq_k 0 (by decide)
  have k_1 := zq_k 1 (by decide)
  have k_2 := zq_k 2 (by decide)
  have k_3 := zq_k 3 (by decide)
  have k_12 := zq_k 12 (by decide)
  have k_2160 := zq_k 2160 (by decide)
  by_cases h1 : x1 < 0
  · rw [if_pos h1]
    have q2 := zq_lt h1
    exact ⟨_, rfl, trivial⟩
  · rw [if_neg h1]
    have q3 := zq_nlt h1
    by_cases h4 : t_doubts ≤ x1
    · rw [if_pos h4]
      have q5 := zq_le h4
      exact ⟨_, rfl, trivial⟩
    · rw [if_neg h4]
      have q6 := zq_nle h4
      by_cases h7 : x1 < (nI 2160)
      · rw [if_pos h7]
        have q8 := zq_lt h7
        have z9 : zin x1 2160 := zq_in (by omega) (by omega)
        rw [if_pos z9]
        by_cases h10 : x2 = (nI 0)
        · rw [if_pos h10]
          have q11 := zq_eq h10
          exact ⟨_, rfl, trivial⟩
        · rw [if_neg h10]
          by_cases h12 : x2 = (nI 1)
          · rw [if_pos h12]
            have q13 := zq_eq h12
            exact ⟨_, rfl, trivial⟩
          · rw [if_neg h12]
            by_cases h14 : x2 = (nI 2)
            · rw [if_pos h14]
              have q15 := zq_eq h14
              exact ⟨_, rfl, trivial⟩
            · rw [if_neg h14]
              exact ⟨_, rfl, trivial⟩
      · rw [if_neg h7]
        have q16 := zq_nlt h7
        exact ⟨_, rfl, trivial⟩
theorem t_fX1_passersIn_L16 (p1_guns_ticks : Nat → Int32) (p1_runners_entered : Int32) (p1_runners_facts : Nat → Int32) (x3 : Int32) (r1 : Int32) (K16_80 : Int32 → Int32 → Option (Int32)) (h_p1_runners_entered : 0 ≤ p1_runners_entered.toInt ∧ p1_runners_entered.toInt ≤ 60) (hK : ∀ (v5_16 : Int32) (v6_16 : Int32), (0 ≤ v6_16.toInt ∧ v6_16.toInt ≤ 60) → ∃ r, K16_80 v5_16 v6_16 = some r ∧ (True)) : ∀ (n : Nat) (v5_16 : Int32) (v6_16 : Int32), (0 ≤ v6_16.toInt ∧ v6_16.toInt ≤ 60) → (1 ≤ n ∧ 61 - v6_16.toInt ≤ (n : Int)) → ∃ r, fX1_passersIn_L16 p1_guns_ticks p1_runners_entered p1_runners_facts x3 r1 K16_80 n v5_16 v6_16 = some r ∧ (True) := by
  intro n
  induction n with
  | zero => intro v5_16 v6_16 iv6_16 im; exact absurd im.1 (by decide)
  | succ n16 ih =>
    intro v5_16 v6_16 iv6_16 im
    rw [fX1_passersIn_L16]
    have im2 := im.2
    have k0 : (0 : Int32).toInt = 0 := rfl
    have km : (-1 : Int32).toInt = -1 := rfl
    have k_1 := zq_k 1 (by decide)
    have k_60 := zq_k 60 (by decide)
    obtain ⟨r3, e2, q1⟩ := t_fX6_size p1_runners_entered ⟨by omega, by omega⟩
    rw [e2, Option.bind_some]
    by_cases h3 : r3 ≤ v6_16
    · rw [if_pos h3]
      have q4 := zq_le h3
      exact hK v5_16 v6_16 ⟨by omega, by omega⟩
    · rw [if_neg h3]
      have q5 := zq_nle h3
      obtain ⟨r6, e7, q6⟩ := t_fX4_gunOf p1_guns_ticks p1_runners_entered p1_runners_facts v6_16 ⟨by omega, by omega⟩
      rw [e7, Option.bind_some]
      obtain ⟨r8, e9, q8⟩ := t_fX6_factOf p1_runners_entered p1_runners_facts v6_16 (nI 1) ⟨by omega, by omega⟩
      rw [e9, Option.bind_some]
      by_cases h10 : r6 = (-1 : Int32)
      · rw [if_pos h10]
        have q11 := zq_eq h10
        try have a12 := zq_add (x := v6_16) (y := (nI 1)) (by omega) (by omega)
        exact ih v5_16 (v6_16 + (nI 1)) ⟨by omega, by omega⟩ ⟨by omega, by omega⟩
      · rw [if_neg h10]
        have q13 := zq_ne h10
        obtain ⟨r11, e15, q14⟩ := t_fX10_secondsCut r1 r8 
        rw [e15, Option.bind_some]
        by_cases h16 : ((r6 + r11) / (nI 60)) = x3
        · rw [if_pos h16]
          have q17 := zq_eq h16
          try have a18 := zq_add (x := v6_16) (y := (nI 1)) (by omega) (by omega)
          exact ih (v5_16 + (nI 1)) (v6_16 + (nI 1)) ⟨by omega, by omega⟩ ⟨by omega, by omega⟩
        · rw [if_neg h16]
          have q19 := zq_ne h16
          try have a20 := zq_add (x := v6_16) (y := (nI 1)) (by omega) (by omega)
          exact ih v5_16 (v6_16 + (nI 1)) ⟨by omega, by omega⟩ ⟨by omega, by omega⟩
theorem t_fX1_passersIn (N : Nat) (p1_guns_ticks : Nat → Int32) (p1_runners_entered : Int32) (p1_runners_facts : Nat → Int32) (p1_way_mats : Int32) (p1_way_places : Nat → Int32) (x2 : Int32) (x3 : Int32) (hN : 10000 ≤ N) (h_p1_runners_entered : 0 ≤ p1_runners_entered.toInt ∧ p1_runners_entered.toInt ≤ 60) (h_p1_way_mats : 0 ≤ p1_way_mats.toInt ∧ p1_way_mats.toInt ≤ 12) : ∃ r, fX1_passersIn N p1_guns_ticks p1_runners_entered p1_runners_facts p1_way_mats p1_way_places x2 x3 = some r ∧ (True) := by
  unfold fX1_passersIn
  have k0 : (0 : Int32).toInt = 0 := rfl
  have km : (-1 : Int32).toInt = -1 := rfl
  have k_0 := zq_k 0 (by decide)
  obtain ⟨r1, e2, q1⟩ := t_fX9_placeAt p1_way_mats p1_way_places x2 ⟨by omega, by omega⟩
  rw [e2, Option.bind_some]
  refine t_fX1_passersIn_L16 p1_guns_ticks p1_runners_entered p1_runners_facts x3 r1 _ ⟨by omega, by omega⟩ ?_ _ (nI 0) (nI 0) ⟨by omega, by omega⟩ ⟨by omega, by omega⟩
  intro v5_16 v6_16 iv6_16
  exact ⟨_, rfl, trivial⟩
theorem t_fX1_prepare_L12 (p1_runners_entered : Int32) (p1_runners_facts : Nat → Int32) (x2 : Int32) (r1 : Int32) (K12_94 : Int32 → (Nat → Int32) → (Nat → Int32) → Option ((Nat → Int32) × (Nat → Int32))) (h_p1_runners_entered : 0 ≤ p1_runners_entered.toInt ∧ p1_runners_entered.toInt ≤ 60) (hK : ∀ (v4_12 : Int32) (t_pens_l12 : Nat → Int32) (t_seconds_l12 : Nat → Int32), (0 ≤ v4_12.toInt ∧ v4_12.toInt ≤ 60) → ∃ r, K12_94 v4_12 t_pens_l12 t_seconds_l12 = some r ∧ (True)) : ∀ (n : Nat) (v4_12 : Int32) (t_pens_l12 : Nat → Int32) (t_seconds_l12 : Nat → Int32), (0 ≤ v4_12.toInt ∧ v4_12.toInt ≤ 60) → (1 ≤ n ∧ 61 - v4_12.toInt ≤ (n : Int)) → ∃ r, fX1_prepare_L12 p1_runners_entered p1_runners_facts x2 r1 K12_94 n v4_12 t_pens_l12 t_seconds_l12 = some r ∧ (True) := by
  intro n
  induction n with
  | zero => intro v4_12 t_pens_l12 t_seconds_l12 iv4_12 im; exact absurd im.1 (by decide)
  | succ n12 ih =>
    intro v4_12 t_pens_l12 t_seconds_l12 iv4_12 im
    rw [fX1_prepare_L12]
    have im2 := im.2
    have k0 : (0 : Int32).toInt = 0 := rfl
    have km : (-1 : Int32).toInt = -1 := rfl
    have k_1 := zq_k 1 (by decide)
    have k_5 := zq_k 5 (by decide)
    have k_12 := zq_k 12 (by decide)
    have k_60 := zq_k 60 (by decide)
    obtain ⟨r3, e2, q1⟩ := t_fX6_size p1_runners_entered ⟨by omega, by omega⟩
    rw [e2, Option.bind_some]
    by_cases h3 : r3 ≤ v4_12
    · rw [if_pos h3]
      have q4 := zq_le h3
      exact hK v4_12 t_pens_l12 t_seconds_l12 ⟨by omega, by omega⟩
    · rw [if_neg h3]
      have q5 := zq_nle h3
      by_cases h6 : (nI 60) ≤ v4_12
      · rw [if_pos h6]
        have q7 := zq_le h6
        exact hK v4_12 t_pens_l12 t_seconds_l12 ⟨by omega, by omega⟩
      · rw [if_neg h6]
        have q8 := zq_nle h6
        obtain ⟨r7, e10, q9⟩ := t_fX6_factOf p1_runners_entered p1_runners_facts v4_12 (nI 5) ⟨by omega, by omega⟩
        rw [e10, Option.bind_some]
        have z11 : zin v4_12 60 := zq_in (by omega) (by omega)
        rw [if_pos z11]
        by_cases h12 : x2 < 0
        · rw [if_pos h12]
          have q13 := zq_lt h12
          try have a14 := zq_add (x := v4_12) (y := (nI 1)) (by omega) (by omega)
          exact ih (v4_12 + (nI 1)) (upd t_pens_l12 (v4_12).toNatClampNeg r7) t_seconds_l12 ⟨by omega, by omega⟩ ⟨by omega, by omega⟩
        · rw [if_neg h12]
          have q15 := zq_nlt h12
          by_cases h16 : (nI 12) ≤ x2
          · rw [if_pos h16]
            have q17 := zq_le h16
            try have a18 := zq_add (x := v4_12) (y := (nI 1)) (by omega) (by omega)
            exact ih (v4_12 + (nI 1)) (upd t_pens_l12 (v4_12).toNatClampNeg r7) t_seconds_l12 ⟨by omega, by omega⟩ ⟨by omega, by omega⟩
          · rw [if_neg h16]
            have q19 := zq_nle h16
            obtain ⟨r12, e21, q20⟩ := t_fX6_factOf p1_runners_entered p1_runners_facts v4_12 (nI 1) ⟨by omega, by omega⟩
            rw [e21, Option.bind_some]
            obtain ⟨r14, e23, q22⟩ := t_fX10_secondsCut r1 r12 
            rw [e23, Option.bind_some]
            try have a24 := zq_mul (x := v4_12) (k := 12) (by decide) (by omega) (by omega)
            try have a25 := zq_add (x := (v4_12 * (nI 12))) (y := x2) (by omega) (by omega)
            have z26 : zin ((v4_12 * (nI 12)) + x2) 720 := zq_in (by omega) (by omega)
            rw [if_pos z26]
            try have a27 := zq_add (x := v4_12) (y := (nI 1)) (by omega) (by omega)
            exact ih (v4_12 + (nI 1)) (upd t_pens_l12 (v4_12).toNatClampNeg r7) (upd t_seconds_l12 (((v4_12 * (nI 12)) + x2)).toNatClampNeg r14) ⟨by omega, by omega⟩ ⟨by omega, by omega⟩
theorem t_fX1_prepare (N : Nat) (t_pens : Nat → Int32) (t_seconds : Nat → Int32) (p1_runners_entered : Int32) (p1_runners_facts : Nat → Int32) (p1_way_mats : Int32) (p1_way_places : Nat → Int32) (x2 : Int32) (hN : 10000 ≤ N) (h_p1_runners_entered : 0 ≤ p1_runners_entered.toInt ∧ p1_runners_entered.toInt ≤ 60) (h_p1_way_mats : 0 ≤ p1_way_mats.toInt ∧ p1_way_mats.toInt ≤ 12) : ∃ r, fX1_prepare N t_pens t_seconds p1_runners_entered p1_runners_facts p1_way_mats p1_way_places x2 = some r ∧ (True) := by
  unfold fX1_prepare
  have k0 : (0 : Int32).toInt = 0 := rfl
  have km : (-1 : Int32).toInt = -1 := rfl
  have k_0 := zq_k 0 (by decide)
  obtain ⟨r1, e2, q1⟩ := t_fX9_placeAt p1_way_mats p1_way_places x2 ⟨by omega, by omega⟩
  rw [e2, Option.bind_some]
  refine t_fX1_prepare_L12 p1_runners_entered p1_runners_facts x2 r1 _ ⟨by omega, by omega⟩ ?_ _ (nI 0) t_pens t_seconds ⟨by omega, by omega⟩ ⟨by omega, by omega⟩
  intro v4_12 t_pens_l12 t_seconds_l12 iv4_12
  exact ⟨_, rfl, trivial⟩
theorem t_fX9_bearingAt (t_mats : Int32) (t_bearings : Nat → Int32) (x1 : Int32) (h_t_mats : 0 ≤ t_mats.toInt ∧ t_mats.toInt ≤ 12) : ∃ r, fX9_bearingAt t_mats t_bearings x1 = some r ∧ (True) := by
  unfold fX9_bearingAt
  have k0 : (0 : Int32).toInt = 0 := rfl
  have km : (-1 : Int32).toInt = -1 := rfl
  obtain ⟨b1, e2, q1⟩ := t_fX9_has t_mats x1 ⟨by omega, by omega⟩
  rw [e2, Option.bind_some]
  by_cases h3 : (zb b1) = 0
  · rw [if_pos h3]
    exact ⟨_, rfl, trivial⟩
  · rw [if_neg h3]
    have q4 := q1 h3
    have z5 : zin x1 12 := zq_in (by omega) (by omega)
    rw [if_pos z5]
    exact ⟨_, rfl, trivial⟩
theorem t_fX1_forgetPassers_L2 (t_minutes : Nat → Int32) (x1 : Int32) (K2_44 : Int32 → (Nat → Int32) → Option ((Nat → Int32)))  (hK : ∀ (v2_2 : Int32) (t_passers_l2 : Nat → Int32), (0 ≤ v2_2.toInt ∧ v2_2.toInt ≤ 60) → ∃ r, K2_44 v2_2 t_passers_l2 = some r ∧ (True)) : ∀ (n : Nat) (v2_2 : Int32) (t_passers_l2 : Nat → Int32), (0 ≤ v2_2.toInt ∧ v2_2.toInt ≤ 60) → (1 ≤ n ∧ 61 - v2_2.toInt ≤ (n : Int)) → ∃ r, fX1_forgetPassers_L2 t_minutes x1 K2_44 n v2_2 t_passers_l2 = some r ∧ (True) := by
  intro n
  induction n with
  | zero => intro v2_2 t_passers_l2 iv2_2 im; exact absurd im.1 (by decide)
  | succ n2 ih =>
    intro v2_2 t_passers_l2 iv2_2 im
    rw [fX1_forgetPassers_L2]
    have im2 := im.2
    have k0 : (0 : Int32).toInt = 0 := rfl
    have km : (-1 : Int32).toInt = -1 := rfl
    have k_0 := zq_k 0 (by decide)
    have k_1 := zq_k 1 (by decide)
    have k_60 := zq_k 60 (by decide)
    have k_4001 := zq_k 4001 (by decide)
    by_cases h1 : x1 ≤ v2_2
    · rw [if_pos h1]
      have q2 := zq_le h1
      exact hK v2_2 t_passers_l2 ⟨by omega, by omega⟩
    · rw [if_neg h1]
      have q3 := zq_nle h1
      by_cases h4 : (nI 60) ≤ v2_2
      · rw [if_pos h4]
        have q5 := zq_le h4
        exact hK v2_2 t_passers_l2 ⟨by omega, by omega⟩
      · rw [if_neg h4]
        have q6 := zq_nle h4
        have z7 : zin v2_2 60 := zq_in (by omega) (by omega)
        rw [if_pos z7]
        by_cases h8 : (t_minutes (v2_2).toNatClampNeg) < 0
        · rw [if_pos h8]
          have q9 := zq_lt h8
          try have a10 := zq_add (x := v2_2) (y := (nI 1)) (by omega) (by omega)
          exact ih (v2_2 + (nI 1)) t_passers_l2 ⟨by omega, by omega⟩ ⟨by omega, by omega⟩
        · rw [if_neg h8]
          have q11 := zq_nlt h8
          by_cases h12 : (nI 4001) ≤ (t_minutes (v2_2).toNatClampNeg)
          · rw [if_pos h12]
            have q13 := zq_le h12
            try have a14 := zq_add (x := v2_2) (y := (nI 1)) (by omega) (by omega)
            exact ih (v2_2 + (nI 1)) t_passers_l2 ⟨by omega, by omega⟩ ⟨by omega, by omega⟩
          · rw [if_neg h12]
            have q15 := zq_nle h12
            have z16 : zin (t_minutes (v2_2).toNatClampNeg) 4001 := zq_in (by omega) (by omega)
            rw [if_pos z16]
            try have a17 := zq_add (x := v2_2) (y := (nI 1)) (by omega) (by omega)
            exact ih (v2_2 + (nI 1)) (upd t_passers_l2 ((t_minutes (v2_2).toNatClampNeg)).toNatClampNeg (nI 0)) ⟨by omega, by omega⟩ ⟨by omega, by omega⟩
theorem t_fX1_forgetPassers (N : Nat) (t_minutes : Nat → Int32) (t_passers : Nat → Int32) (x1 : Int32) (hN : 10000 ≤ N) : ∃ r, fX1_forgetPassers N t_minutes t_passers x1 = some r ∧ (True) := by
  unfold fX1_forgetPassers
  have k0 : (0 : Int32).toInt = 0 := rfl
  have km : (-1 : Int32).toInt = -1 := rfl
  have k_0 := zq_k 0 (by decide)
  refine t_fX1_forgetPassers_L2 t_minutes x1 _  ?_ _ (nI 0) t_passers ⟨by omega, by omega⟩ ⟨by omega, by omega⟩
  intro v2_2 t_passers_l2 iv2_2
  exact ⟨_, rfl, trivial⟩
theorem t_fX1_firstTight_L44 (t_pens : Nat → Int32) (t_seconds : Nat → Int32) (p2_ticks : Nat → Int32) (x3 : Int32) (r1 : Int32) (r3 : Int32) (K44_186 : Int32 → Int32 → (Nat → Int32) → (Nat → Int32) → Option (Int32 × (Nat → Int32) × (Nat → Int32))) (h_x3 : 0 ≤ x3.toInt ∧ x3.toInt ≤ 11) (hK : ∀ (v6_44 : Int32) (v7_44 : Int32) (t_minutes_l44 : Nat → Int32) (t_passers_l44 : Nat → Int32), (0 ≤ v7_44.toInt ∧ v7_44.toInt ≤ 60) → ∃ r, K44_186 v6_44 v7_44 t_minutes_l44 t_passers_l44 = some r ∧ (True)) : ∀ (n : Nat) (v6_44 : Int32) (v7_44 : Int32) (t_minutes_l44 : Nat → Int32) (t_passers_l44 : Nat → Int32), (0 ≤ v7_44.toInt ∧ v7_44.toInt ≤ 60) → (1 ≤ n ∧ 61 - v7_44.toInt ≤ (n : Int)) → ∃ r, fX1_firstTight_L44 t_pens t_seconds p2_ticks x3 r1 r3 K44_186 n v6_44 v7_44 t_minutes_l44 t_passers_l44 = some r ∧ (True) := by
  intro n
  induction n with
  | zero => intro v6_44 v7_44 t_minutes_l44 t_passers_l44 iv7_44 im; exact absurd im.1 (by decide)
  | succ n44 ih =>
    intro v6_44 v7_44 t_minutes_l44 t_passers_l44 iv7_44 im
    rw [fX1_firstTight_L44]
    have im2 := im.2
    have k0 : (0 : Int32).toInt = 0 := rfl
    have km : (-1 : Int32).toInt = -1 := rfl
    have k_1 := zq_k 1 (by decide)
    have k_12 := zq_k 12 (by decide)
    have k_60 := zq_k 60 (by decide)
    have k_4001 := zq_k 4001 (by decide)
    by_cases h1 : r3 ≤ v7_44
    · rw [if_pos h1]
      have q2 := zq_le h1
      exact hK v6_44 v7_44 t_minutes_l44 t_passers_l44 ⟨by omega, by omega⟩
    · rw [if_neg h1]
      have q3 := zq_nle h1
      by_cases h4 : (nI 60) ≤ v7_44
      · rw [if_pos h4]
        have q5 := zq_le h4
        exact hK v6_44 v7_44 t_minutes_l44 t_passers_l44 ⟨by omega, by omega⟩
      · rw [if_neg h4]
        have q6 := zq_nle h4
        have z7 : zin v7_44 60 := zq_in (by omega) (by omega)
        rw [if_pos z7]
        obtain ⟨r13, e9, q8⟩ := t_fX2_tickOf p2_ticks (t_pens (v7_44).toNatClampNeg) 
        rw [e9, Option.bind_some]
        by_cases h10 : r13 = (-1 : Int32)
        · rw [if_pos h10]
          have q11 := zq_eq h10
          unfold fX1_firstTight_J99L44
          have z12 : zin v7_44 60 := zq_in (by omega) (by omega)
          rw [if_pos z12]
          by_cases h13 : (-1 : Int32) < 0
          · rw [if_pos h13]
            have q14 := zq_lt h13
            unfold fX1_firstTight_J180L44
            try have a15 := zq_add (x := v7_44) (y := (nI 1)) (by omega) (by omega)
            exact ih v6_44 (v7_44 + (nI 1)) (upd t_minutes_l44 (v7_44).toNatClampNeg (-1 : Int32)) t_passers_l44 ⟨by omega, by omega⟩ ⟨by omega, by omega⟩
          · rw [if_neg h13]
            have q16 := zq_nlt h13
            by_cases h17 : (nI 4001) ≤ (-1 : Int32)
            · rw [if_pos h17]
              have q18 := zq_le h17
              unfold fX1_firstTight_J180L44
              try have a19 := zq_add (x := v7_44) (y := (nI 1)) (by omega) (by omega)
              exact ih v6_44 (v7_44 + (nI 1)) (upd t_minutes_l44 (v7_44).toNatClampNeg (-1 : Int32)) t_passers_l44 ⟨by omega, by omega⟩ ⟨by omega, by omega⟩
            · rw [if_neg h17]
              have q20 := zq_nle h17
              have z21 : zin (-1 : Int32) 4001 := zq_in (by omega) (by omega)
              rw [if_pos z21]
              have z22 : zin (-1 : Int32) 4001 := zq_in (by omega) (by omega)
              rw [if_pos z22]
              have z23 : zin (-1 : Int32) 4001 := zq_in (by omega) (by omega)
              rw [if_pos z23]
              by_cases h24 : ((upd t_passers_l44 ((-1 : Int32)).toNatClampNeg ((t_passers_l44 ((-1 : Int32)).toNatClampNeg) + (nI 1))) ((-1 : Int32)).toNatClampNeg) ≤ r1
              · rw [if_pos h24]
                have q25 := zq_le h24
                unfold fX1_firstTight_J180L44
                try have a26 := zq_add (x := v7_44) (y := (nI 1)) (by omega) (by omega)
                exact ih v6_44 (v7_44 + (nI 1)) (upd t_minutes_l44 (v7_44).toNatClampNeg (-1 : Int32)) (upd t_passers_l44 ((-1 : Int32)).toNatClampNeg ((t_passers_l44 ((-1 : Int32)).toNatClampNeg) + (nI 1))) ⟨by omega, by omega⟩ ⟨by omega, by omega⟩
              · rw [if_neg h24]
                have q27 := zq_nle h24
                by_cases h28 : v6_44 = (-1 : Int32)
                · rw [if_pos h28]
                  have q29 := zq_eq h28
                  unfold fX1_firstTight_J180L44
                  try have a30 := zq_add (x := v7_44) (y := (nI 1)) (by omega) (by omega)
                  exact ih (-1 : Int32) (v7_44 + (nI 1)) (upd t_minutes_l44 (v7_44).toNatClampNeg (-1 : Int32)) (upd t_passers_l44 ((-1 : Int32)).toNatClampNeg ((t_passers_l44 ((-1 : Int32)).toNatClampNeg) + (nI 1))) ⟨by omega, by omega⟩ ⟨by omega, by omega⟩
                · rw [if_neg h28]
                  have q31 := zq_ne h28
                  by_cases h32 : v6_44 ≤ (-1 : Int32)
                  · rw [if_pos h32]
                    have q33 := zq_le h32
                    unfold fX1_firstTight_J180L44
                    try have a34 := zq_add (x := v7_44) (y := (nI 1)) (by omega) (by omega)
                    exact ih v6_44 (v7_44 + (nI 1)) (upd t_minutes_l44 (v7_44).toNatClampNeg (-1 : Int32)) (upd t_passers_l44 ((-1 : Int32)).toNatClampNeg ((t_passers_l44 ((-1 : Int32)).toNatClampNeg) + (nI 1))) ⟨by omega, by omega⟩ ⟨by omega, by omega⟩
                  · rw [if_neg h32]
                    have q35 := zq_nle h32
                    unfold fX1_firstTight_J180L44
                    try have a36 := zq_add (x := v7_44) (y := (nI 1)) (by omega) (by omega)
                    exact ih (-1 : Int32) (v7_44 + (nI 1)) (upd t_minutes_l44 (v7_44).toNatClampNeg (-1 : Int32)) (upd t_passers_l44 ((-1 : Int32)).toNatClampNeg ((t_passers_l44 ((-1 : Int32)).toNatClampNeg) + (nI 1))) ⟨by omega, by omega⟩ ⟨by omega, by omega⟩
        · rw [if_neg h10]
          have q37 := zq_ne h10
          try have a38 := zq_mul (x := v7_44) (k := 12) (by decide) (by omega) (by omega)
          try have a39 := zq_add (x := (v7_44 * (nI 12))) (y := x3) (by omega) (by omega)
          have z40 : zin ((v7_44 * (nI 12)) + x3) 720 := zq_in (by omega) (by omega)
          rw [if_pos z40]
          unfold fX1_firstTight_J99L44
          have z41 : zin v7_44 60 := zq_in (by omega) (by omega)
          rw [if_pos z41]
          by_cases h42 : ((r13 + (t_seconds (((v7_44 * (nI 12)) + x3)).toNatClampNeg)) / (nI 60)) < 0
          · rw [if_pos h42]
            have q43 := zq_lt h42
            unfold fX1_firstTight_J180L44
            try have a44 := zq_add (x := v7_44) (y := (nI 1)) (by omega) (by omega)
            exact ih v6_44 (v7_44 + (nI 1)) (upd t_minutes_l44 (v7_44).toNatClampNeg ((r13 + (t_seconds (((v7_44 * (nI 12)) + x3)).toNatClampNeg)) / (nI 60))) t_passers_l44 ⟨by omega, by omega⟩ ⟨by omega, by omega⟩
          · rw [if_neg h42]
            have q45 := zq_nlt h42
            by_cases h46 : (nI 4001) ≤ ((r13 + (t_seconds (((v7_44 * (nI 12)) + x3)).toNatClampNeg)) / (nI 60))
            · rw [if_pos h46]
              have q47 := zq_le h46
              unfold fX1_firstTight_J180L44
              try have a48 := zq_add (x := v7_44) (y := (nI 1)) (by omega) (by omega)
              exact ih v6_44 (v7_44 + (nI 1)) (upd t_minutes_l44 (v7_44).toNatClampNeg ((r13 + (t_seconds (((v7_44 * (nI 12)) + x3)).toNatClampNeg)) / (nI 60))) t_passers_l44 ⟨by omega, by omega⟩ ⟨by omega, by omega⟩
            · rw [if_neg h46]
              have q49 := zq_nle h46
              try have a50 := zq_add (x := r13) (y := (t_seconds (((v7_44 * (nI 12)) + x3)).toNatClampNeg)) (by omega) (by omega)
              try have a51 := zq_div (x := (r13 + (t_seconds (((v7_44 * (nI 12)) + x3)).toNatClampNeg))) (k := 60) (by decide) (by decide) (by omega)
              have z52 : zin ((r13 + (t_seconds (((v7_44 * (nI 12)) + x3)).toNatClampNeg)) / (nI 60)) 4001 := zq_in (by omega) (by omega)
              rw [if_pos z52]
              try have a53 := zq_add (x := r13) (y := (t_seconds (((v7_44 * (nI 12)) + x3)).toNatClampNeg)) (by omega) (by omega)
              try have a54 := zq_div (x := (r13 + (t_seconds (((v7_44 * (nI 12)) + x3)).toNatClampNeg))) (k := 60) (by decide) (by decide) (by omega)
              have z55 : zin ((r13 + (t_seconds (((v7_44 * (nI 12)) + x3)).toNatClampNeg)) / (nI 60)) 4001 := zq_in (by omega) (by omega)
              rw [if_pos z55]
              try have a56 := zq_add (x := r13) (y := (t_seconds (((v7_44 * (nI 12)) + x3)).toNatClampNeg)) (by omega) (by omega)
              try have a57 := zq_div (x := (r13 + (t_seconds (((v7_44 * (nI 12)) + x3)).toNatClampNeg))) (k := 60) (by decide) (by decide) (by omega)
              have z58 : zin ((r13 + (t_seconds (((v7_44 * (nI 12)) + x3)).toNatClampNeg)) / (nI 60)) 4001 := zq_in (by omega) (by omega)
              rw [if_pos z58]
              by_cases h59 : ((upd t_passers_l44 (((r13 + (t_seconds (((v7_44 * (nI 12)) + x3)).toNatClampNeg)) / (nI 60))).toNatClampNeg ((t_passers_l44 (((r13 + (t_seconds (((v7_44 * (nI 12)) + x3)).toNatClampNeg)) / (nI 60))).toNatClampNeg) + (nI 1))) (((r13 + (t_seconds (((v7_44 * (nI 12)) + x3)).toNatClampNeg)) / (nI 60))).toNatClampNeg) ≤ r1
              · rw [if_pos h59]
                have q60 := zq_le h59
                unfold fX1_firstTight_J180L44
                try have a61 := zq_add (x := v7_44) (y := (nI 1)) (by omega) (by omega)
                exact ih v6_44 (v7_44 + (nI 1)) (upd t_minutes_l44 (v7_44).toNatClampNeg ((r13 + (t_seconds (((v7_44 * (nI 12)) + x3)).toNatClampNeg)) / (nI 60))) (upd t_passers_l44 (((r13 + (t_seconds (((v7_44 * (nI 12)) + x3)).toNatClampNeg)) / (nI 60))).toNatClampNeg ((t_passers_l44 (((r13 + (t_seconds (((v7_44 * (nI 12)) + x3)).toNatClampNeg)) / (nI 60))).toNatClampNeg) + (nI 1))) ⟨by omega, by omega⟩ ⟨by omega, by omega⟩
              · rw [if_neg h59]
                have q62 := zq_nle h59
                by_cases h63 : v6_44 = (-1 : Int32)
                · rw [if_pos h63]
                  have q64 := zq_eq h63
                  unfold fX1_firstTight_J180L44
                  try have a65 := zq_add (x := v7_44) (y := (nI 1)) (by omega) (by omega)
                  exact ih ((r13 + (t_seconds (((v7_44 * (nI 12)) + x3)).toNatClampNeg)) / (nI 60)) (v7_44 + (nI 1)) (upd t_minutes_l44 (v7_44).toNatClampNeg ((r13 + (t_seconds (((v7_44 * (nI 12)) + x3)).toNatClampNeg)) / (nI 60))) (upd t_passers_l44 (((r13 + (t_seconds (((v7_44 * (nI 12)) + x3)).toNatClampNeg)) / (nI 60))).toNatClampNeg ((t_passers_l44 (((r13 + (t_seconds (((v7_44 * (nI 12)) + x3)).toNatClampNeg)) / (nI 60))).toNatClampNeg) + (nI 1))) ⟨by omega, by omega⟩ ⟨by omega, by omega⟩
                · rw [if_neg h63]
                  have q66 := zq_ne h63
                  by_cases h67 : v6_44 ≤ ((r13 + (t_seconds (((v7_44 * (nI 12)) + x3)).toNatClampNeg)) / (nI 60))
                  · rw [if_pos h67]
                    have q68 := zq_le h67
                    unfold fX1_firstTight_J180L44
                    try have a69 := zq_add (x := v7_44) (y := (nI 1)) (by omega) (by omega)
                    exact ih v6_44 (v7_44 + (nI 1)) (upd t_minutes_l44 (v7_44).toNatClampNeg ((r13 + (t_seconds (((v7_44 * (nI 12)) + x3)).toNatClampNeg)) / (nI 60))) (upd t_passers_l44 (((r13 + (t_seconds (((v7_44 * (nI 12)) + x3)).toNatClampNeg)) / (nI 60))).toNatClampNeg ((t_passers_l44 (((r13 + (t_seconds (((v7_44 * (nI 12)) + x3)).toNatClampNeg)) / (nI 60))).toNatClampNeg) + (nI 1))) ⟨by omega, by omega⟩ ⟨by omega, by omega⟩
                  · rw [if_neg h67]
                    have q70 := zq_nle h67
                    unfold fX1_firstTight_J180L44
                    try have a71 := zq_add (x := v7_44) (y := (nI 1)) (by omega) (by omega)
                    exact ih ((r13 + (t_seconds (((v7_44 * (nI 12)) + x3)).toNatClampNeg)) / (nI 60)) (v7_44 + (nI 1)) (upd t_minutes_l44 (v7_44).toNatClampNeg ((r13 + (t_seconds (((v7_44 * (nI 12)) + x3)).toNatClampNeg)) / (nI 60))) (upd t_passers_l44 (((r13 + (t_seconds (((v7_44 * (nI 12)) + x3)).toNatClampNeg)) / (nI 60))).toNatClampNeg ((t_passers_l44 (((r13 + (t_seconds (((v7_44 * (nI 12)) + x3)).toNatClampNeg)) / (nI 60))).toNatClampNeg) + (nI 1))) ⟨by omega, by omega⟩ ⟨by omega, by omega⟩
theorem t_fX1_firstTight (N : Nat) (t_minutes : Nat → Int32) (t_passers : Nat → Int32) (t_pens : Nat → Int32) (t_seconds : Nat → Int32) (p1_runners_entered : Int32) (p1_way_mats : Int32) (p1_way_bearings : Nat → Int32) (p2_ticks : Nat → Int32) (x3 : Int32) (hN : 10000 ≤ N) (h_p1_runners_entered : 0 ≤ p1_runners_entered.toInt ∧ p1_runners_entered.toInt ≤ 60) (h_p1_way_mats : 0 ≤ p1_way_mats.toInt ∧ p1_way_mats.toInt ≤ 12) : ∃ r, fX1_firstTight N t_minutes t_passers t_pens t_seconds p1_runners_entered p1_way_mats p1_way_bearings p2_ticks x3 = some r ∧ (True) := by
  unfold fX1_firstTight
  have k0 : (0 : Int32).toInt = 0 := rfl
  have km : (-1 : Int32).toInt = -1 := rfl
  have k_0 := zq_k 0 (by decide)
  have k_1 := zq_k 1 (by decide)
  have k_12 := zq_k 12 (by decide)
  have k_4001 := zq_k 4001 (by decide)
  obtain ⟨r1, e2, q1⟩ := t_fX9_bearingAt p1_way_mats p1_way_bearings x3 ⟨by omega, by omega⟩
  rw [e2, Option.bind_some]
  obtain ⟨r3, e4, q3⟩ := t_fX6_size p1_runners_entered ⟨by omega, by omega⟩
  rw [e4, Option.bind_some]
  by_cases h5 : x3 < 0
  · rw [if_pos h5]
    have q6 := zq_lt h5
    exact ⟨_, rfl, trivial⟩
  · rw [if_neg h5]
    have q7 := zq_nlt h5
    by_cases h8 : (nI 12) ≤ x3
    · rw [if_pos h8]
      have q9 := zq_le h8
      exact ⟨_, rfl, trivial⟩
    · rw [if_neg h8]
      have q10 := zq_nle h8
      by_cases h11 : r1 < r3
      · rw [if_pos h11]
        have q12 := zq_lt h11
        refine t_fX1_firstTight_L44 t_pens t_seconds p2_ticks x3 r1 r3 _ ⟨by omega, by omega⟩ ?_ _ (-1 : Int32) (nI 0) t_minutes t_passers ⟨by omega, by omega⟩ ⟨by omega, by omega⟩
        intro v6_44 v7_44 t_minutes_l44 t_passers_l44 iv7_44
        obtain ⟨t_passers_r8, e14, q13⟩ := t_fX1_forgetPassers N t_minutes_l44 t_passers_l44 r3 hN
        rw [e14, Option.bind_some]
        exact ⟨_, rfl, trivial⟩
      · rw [if_neg h11]
        have q15 := zq_nlt h11
        exact ⟨_, rfl, trivial⟩
theorem t_fX1_firstTightMinute (N : Nat) (t_minutes : Nat → Int32) (t_passers : Nat → Int32) (t_pens : Nat → Int32) (t_seconds : Nat → Int32) (p1_guns_ticks : Nat → Int32) (p1_runners_entered : Int32) (p1_runners_facts : Nat → Int32) (p1_way_mats : Int32) (p1_way_bearings : Nat → Int32) (p1_way_places : Nat → Int32) (x2 : Int32) (hN : 10000 ≤ N) (h_p1_runners_entered : 0 ≤ p1_runners_entered.toInt ∧ p1_runners_entered.toInt ≤ 60) (h_p1_way_mats : 0 ≤ p1_way_mats.toInt ∧ p1_way_mats.toInt ≤ 12) : ∃ r, fX1_firstTightMinute N t_minutes t_passers t_pens t_seconds p1_guns_ticks p1_runners_entered p1_runners_facts p1_way_mats p1_way_bearings p1_way_places x2 = some r ∧ (True) := by
  unfold fX1_firstTightMinute
  have k0 : (0 : Int32).toInt = 0 := rfl
  have km : (-1 : Int32).toInt = -1 := rfl
  obtain ⟨⟨t_pens_r1, t_seconds_r2⟩, e2, q1⟩ := t_fX1_prepare N t_pens t_seconds p1_runners_entered p1_runners_facts p1_way_mats p1_way_places x2 hN ⟨by omega, by omega⟩ ⟨by omega, by omega⟩
  rw [e2, Option.bind_some]
  dsimp only
  obtain ⟨⟨r4, t_minutes_r5, t_passers_r6⟩, e4, q3⟩ := t_fX1_firstTight N t_minutes t_passers t_pens_r1 t_seconds_r2 p1_runners_entered p1_way_mats p1_way_bearings p1_guns_ticks x2 hN ⟨by omega, by omega⟩ ⟨by omega, by omega⟩
  rw [e4, Option.bind_some]
  dsimp only
  exact ⟨_, rfl, trivial⟩
theorem t_fX2_fireInSteps_L2 (x1 : Int32) (x2 : Int32) (K2_25 : Int32 → (Nat → Int32) → Option ((Nat → Int32)))  (hK : ∀ (v3_2 : Int32) (t_ticks_l2 : Nat → Int32), (0 ≤ v3_2.toInt ∧ v3_2.toInt ≤ 6) → ∃ r, K2_25 v3_2 t_ticks_l2 = some r ∧ (True)) : ∀ (n : Nat) (v3_2 : Int32) (t_ticks_l2 : Nat → Int32), (0 ≤ v3_2.toInt ∧ v3_2.toInt ≤ 6) → (1 ≤ n ∧ 7 - v3_2.toInt ≤ (n : Int)) → ∃ r, fX2_fireInSteps_L2 x1 x2 K2_25 n v3_2 t_ticks_l2 = some r ∧ (True) := by
  intro n
  induction n with
  | zero => intro v3_2 t_ticks_l2 iv3_2 im; exact absurd im.1 (by decide)
  | succ n2 ih =>
    intro v3_2 t_ticks_l2 iv3_2 im
    rw [fX2_fireInSteps_L2]
    have im2 := im.2
    have k0 : (0 : Int32).toInt = 0 := rfl
    have km : (-1 : Int32).toInt = -1 := rfl
    have k_1 := zq_k 1 (by decide)
    have k_6 := zq_k 6 (by decide)
    by_cases h1 : (nI 6) ≤ v3_2
    · rw [if_pos h1]
      have q2 := zq_le h1
      exact hK v3_2 t_ticks_l2 ⟨by omega, by omega⟩
    · rw [if_neg h1]
      have q3 := zq_nle h1
      have z4 : zin v3_2 6 := zq_in (by omega) (by omega)
      rw [if_pos z4]
      try have a5 := zq_add (x := v3_2) (y := (nI 1)) (by omega) (by omega)
      exact ih (v3_2 + (nI 1)) (upd t_ticks_l2 (v3_2).toNatClampNeg (x1 + (v3_2 * x2))) ⟨by omega, by omega⟩ ⟨by omega, by omega⟩
theorem t_fX2_fireInSteps (N : Nat) (t_ticks : Nat → Int32) (x1 : Int32) (x2 : Int32) (hN : 10000 ≤ N) : ∃ r, fX2_fireInSteps N t_ticks x1 x2 = some r ∧ (True) := by
  unfold fX2_fireInSteps
  have k0 : (0 : Int32).toInt = 0 := rfl
  have km : (-1 : Int32).toInt = -1 := rfl
  have k_0 := zq_k 0 (by decide)
  refine t_fX2_fireInSteps_L2 x1 x2 _  ?_ _ (nI 0) t_ticks ⟨by omega, by omega⟩ ⟨by omega, by omega⟩
  intro v3_2 t_ticks_l2 iv3_2
  exact ⟨_, rfl, trivial⟩
theorem t_fX1_someTightMat_L18 (N : Nat) (t_pens : Nat → Int32) (t_seconds : Nat → Int32) (t_tried_ticks : Nat → Int32) (p1_runners_entered : Int32) (p1_way_mats : Int32) (p1_way_bearings : Nat → Int32) (K18_51 : Int32 → (Nat → Int32) → (Nat → Int32) → Option (Int32 × (Nat → Int32) × (Nat → Int32))) (hN : 10000 ≤ N) (h_p1_runners_entered : 0 ≤ p1_runners_entered.toInt ∧ p1_runners_entered.toInt ≤ 60) (h_p1_way_mats : 0 ≤ p1_way_mats.toInt ∧ p1_way_mats.toInt ≤ 12) (hK : ∀ (v3_18 : Int32) (t_minutes_l18 : Nat → Int32) (t_passers_l18 : Nat → Int32), (0 ≤ v3_18.toInt ∧ v3_18.toInt ≤ 12) → ∃ r, K18_51 v3_18 t_minutes_l18 t_passers_l18 = some r ∧ (True)) : ∀ (n : Nat) (v3_18 : Int32) (t_minutes_l18 : Nat → Int32) (t_passers_l18 : Nat → Int32), (0 ≤ v3_18.toInt ∧ v3_18.toInt ≤ 12) → (1 ≤ n ∧ 13 - v3_18.toInt ≤ (n : Int)) → ∃ r, fX1_someTightMat_L18 N t_pens t_seconds t_tried_ticks p1_runners_entered p1_way_mats p1_way_bearings K18_51 n v3_18 t_minutes_l18 t_passers_l18 = some r ∧ (True) := by
  intro n
  induction n with
  | zero => intro v3_18 t_minutes_l18 t_passers_l18 iv3_18 im; exact absurd im.1 (by decide)
  | succ n18 ih =>
    intro v3_18 t_minutes_l18 t_passers_l18 iv3_18 im
    rw [fX1_someTightMat_L18]
    have im2 := im.2
    have k0 : (0 : Int32).toInt = 0 := rfl
    have km : (-1 : Int32).toInt = -1 := rfl
    have k_1 := zq_k 1 (by decide)
    obtain ⟨r6, e2, q1⟩ := t_fX9_size p1_way_mats ⟨by omega, by omega⟩
    rw [e2, Option.bind_some]
    by_cases h3 : r6 ≤ v3_18
    · rw [if_pos h3]
      have q4 := zq_le h3
      exact hK v3_18 t_minutes_l18 t_passers_l18 ⟨by omega, by omega⟩
    · rw [if_neg h3]
      have q5 := zq_nle h3
      obtain ⟨⟨r9, t_minutes_r10, t_passers_r11⟩, e7, q6⟩ := t_fX1_firstTight N t_minutes_l18 t_passers_l18 t_pens t_seconds p1_runners_entered p1_way_mats p1_way_bearings t_tried_ticks v3_18 hN ⟨by omega, by omega⟩ ⟨by omega, by omega⟩
      rw [e7, Option.bind_some]
      dsimp only
      by_cases h8 : r9 = (-1 : Int32)
      · rw [if_pos h8]
        have q9 := zq_eq h8
        try have a10 := zq_add (x := v3_18) (y := (nI 1)) (by omega) (by omega)
        exact ih (v3_18 + (nI 1)) t_minutes_r10 t_passers_r11 ⟨by omega, by omega⟩ ⟨by omega, by omega⟩
      · rw [if_neg h8]
        have q11 := zq_ne h8
        exact ⟨_, rfl, trivial⟩
theorem t_fX1_someTightMat (N : Nat) (t_minutes : Nat → Int32) (t_passers : Nat → Int32) (t_pens : Nat → Int32) (t_seconds : Nat → Int32) (t_tried_ticks : Nat → Int32) (p1_runners_entered : Int32) (p1_way_mats : Int32) (p1_way_bearings : Nat → Int32) (x2 : Int32) (hN : 10000 ≤ N) (h_p1_runners_entered : 0 ≤ p1_runners_entered.toInt ∧ p1_runners_entered.toInt ≤ 60) (h_p1_way_mats : 0 ≤ p1_way_mats.toInt ∧ p1_way_mats.toInt ≤ 12) : ∃ r, fX1_someTightMat N t_minutes t_passers t_pens t_seconds t_tried_ticks p1_runners_entered p1_way_mats p1_way_bearings x2 = some r ∧ (True) := by
  unfold fX1_someTightMat
  have k0 : (0 : Int32).toInt = 0 := rfl
  have km : (-1 : Int32).toInt = -1 := rfl
  have k_0 := zq_k 0 (by decide)
  obtain ⟨⟨r1, t_minutes_r2, t_passers_r3⟩, e2, q1⟩ := t_fX1_firstTight N t_minutes t_passers t_pens t_seconds p1_runners_entered p1_way_mats p1_way_bearings t_tried_ticks x2 hN ⟨by omega, by omega⟩ ⟨by omega, by omega⟩
  rw [e2, Option.bind_some]
  dsimp only
  by_cases h3 : r1 = (-1 : Int32)
  · rw [if_pos h3]
    have q4 := zq_eq h3
    refine t_fX1_someTightMat_L18 N t_pens t_seconds t_tried_ticks p1_runners_entered p1_way_mats p1_way_bearings _ hN ⟨by omega, by omega⟩ ⟨by omega, by omega⟩ ?_ _ (nI 0) t_minutes_r2 t_passers_r3 ⟨by omega, by omega⟩ ⟨by omega, by omega⟩
    intro v3_18 t_minutes_l18 t_passers_l18 iv3_18
    exact ⟨_, rfl, trivial⟩
  · rw [if_neg h3]
    have q5 := zq_ne h3
    exact ⟨_, rfl, trivial⟩
theorem t_fX2_copyFrom (t_ticks : Nat → Int32) (p1_ticks : Nat → Int32)  : ∃ r, fX2_copyFrom t_ticks p1_ticks = some r ∧ (True) := by
  unfold fX2_copyFrom
  have k0 : (0 : Int32).toInt = 0 := rfl
  have km : (-1 : Int32).toInt = -1 := rfl
  exact ⟨_, rfl, trivial⟩
theorem t_fX1_planFrom_L34 (N : Nat) (p1_runners_entered : Int32) (p1_way_mats : Int32) (p1_way_bearings : Nat → Int32) (x2 : Int32) (x3 : Int32) (t_pens_l3 : Nat → Int32) (t_seconds_l3 : Nat → Int32) (K34_85 : Int32 → Int32 → (Nat → Int32) → (Nat → Int32) → (Nat → Int32) → (Nat → Int32) → Option (Int32 × (Nat → Int32) × (Nat → Int32) × (Nat → Int32) × (Nat → Int32) × (Nat → Int32) × (Nat → Int32))) (hN : 10000 ≤ N) (h_p1_runners_entered : 0 ≤ p1_runners_entered.toInt ∧ p1_runners_entered.toInt ≤ 60) (h_p1_way_mats : 0 ≤ p1_way_mats.toInt ∧ p1_way_mats.toInt ≤ 12) (h_x3 : 0 ≤ x3.toInt ∧ x3.toInt ≤ 3000) (hK : ∀ (v4_34 : Int32) (v5_34 : Int32) (t_minutes_l34 : Nat → Int32) (t_passers_l34 : Nat → Int32) (t_tried_ticks_l34 : Nat → Int32) (p1_guns_ticks_l34 : Nat → Int32), (0 ≤ v5_34.toInt ∧ v5_34.toInt ≤ 3001) → ∃ r, K34_85 v4_34 v5_34 t_minutes_l34 t_passers_l34 t_tried_ticks_l34 p1_guns_ticks_l34 = some r ∧ (True)) : ∀ (n : Nat) (v4_34 : Int32) (v5_34 : Int32) (t_minutes_l34 : Nat → Int32) (t_passers_l34 : Nat → Int32) (t_tried_ticks_l34 : Nat → Int32) (p1_guns_ticks_l34 : Nat → Int32), (0 ≤ v5_34.toInt ∧ v5_34.toInt ≤ 3001) → (1 ≤ n ∧ 3002 - v5_34.toInt ≤ (n : Int)) → ∃ r, fX1_planFrom_L34 N p1_runners_entered p1_way_mats p1_way_bearings x2 x3 t_pens_l3 t_seconds_l3 K34_85 n v4_34 v5_34 t_minutes_l34 t_passers_l34 t_tried_ticks_l34 p1_guns_ticks_l34 = some r ∧ (True) := by
  intro n
  induction n with
  | zero => intro v4_34 v5_34 t_minutes_l34 t_passers_l34 t_tried_ticks_l34 p1_guns_ticks_l34 iv5_34 im; exact absurd im.1 (by decide)
  | succ n34 ih =>
    intro v4_34 v5_34 t_minutes_l34 t_passers_l34 t_tried_ticks_l34 p1_guns_ticks_l34 iv5_34 im
    rw [fX1_planFrom_L34]
    have im2 := im.2
    have k0 : (0 : Int32).toInt = 0 := rfl
    have km : (-1 : Int32).toInt = -1 := rfl
    have k_1 := zq_k 1 (by decide)
    by_cases h1 : x3 < v5_34
    · rw [if_pos h1]
      have q2 := zq_lt h1
      exact hK v4_34 v5_34 t_minutes_l34 t_passers_l34 t_tried_ticks_l34 p1_guns_ticks_l34 ⟨by omega, by omega⟩
    · rw [if_neg h1]
      have q3 := zq_nlt h1
      obtain ⟨t_tried_ticks_r2, e5, q4⟩ := t_fX2_fireInSteps N t_tried_ticks_l34 x2 v5_34 hN
      rw [e5, Option.bind_some]
      obtain ⟨⟨r4, t_minutes_r5, t_passers_r6⟩, e7, q6⟩ := t_fX1_someTightMat N t_minutes_l34 t_passers_l34 t_pens_l3 t_seconds_l3 t_tried_ticks_r2 p1_runners_entered p1_way_mats p1_way_bearings v4_34 hN ⟨by omega, by omega⟩ ⟨by omega, by omega⟩
      rw [e7, Option.bind_some]
      dsimp only
      by_cases h8 : r4 = (-1 : Int32)
      · rw [if_pos h8]
        have q9 := zq_eq h8
        obtain ⟨p1_guns_ticks_r9, e11, q10⟩ := t_fX2_copyFrom p1_guns_ticks_l34 t_tried_ticks_r2 
        rw [e11, Option.bind_some]
        exact ⟨_, rfl, trivial⟩
      · rw [if_neg h8]
        have q12 := zq_ne h8
        try have a13 := zq_add (x := v5_34) (y := (nI 1)) (by omega) (by omega)
        exact ih r4 (v5_34 + (nI 1)) t_minutes_r5 t_passers_r6 t_tried_ticks_r2 p1_guns_ticks_l34 ⟨by omega, by omega⟩ ⟨by omega, by omega⟩
theorem t_fX1_planFrom_L3 (N : Nat) (p1_runners_entered : Int32) (p1_runners_facts : Nat → Int32) (p1_way_mats : Int32) (p1_way_places : Nat → Int32) (K3_28 : Int32 → (Nat → Int32) → (Nat → Int32) → Option (Int32 × (Nat → Int32) × (Nat → Int32) × (Nat → Int32) × (Nat → Int32) × (Nat → Int32) × (Nat → Int32))) (hN : 10000 ≤ N) (h_p1_runners_entered : 0 ≤ p1_runners_entered.toInt ∧ p1_runners_entered.toInt ≤ 60) (h_p1_way_mats : 0 ≤ p1_way_mats.toInt ∧ p1_way_mats.toInt ≤ 12) (hK : ∀ (v4_3 : Int32) (t_pens_l3 : Nat → Int32) (t_seconds_l3 : Nat → Int32), (0 ≤ v4_3.toInt ∧ v4_3.toInt ≤ 12) → ∃ r, K3_28 v4_3 t_pens_l3 t_seconds_l3 = some r ∧ (True)) : ∀ (n : Nat) (v4_3 : Int32) (t_pens_l3 : Nat → Int32) (t_seconds_l3 : Nat → Int32), (0 ≤ v4_3.toInt ∧ v4_3.toInt ≤ 12) → (1 ≤ n ∧ 13 - v4_3.toInt ≤ (n : Int)) → ∃ r, fX1_planFrom_L3 N p1_runners_entered p1_runners_facts p1_way_mats p1_way_places K3_28 n v4_3 t_pens_l3 t_seconds_l3 = some r ∧ (True) := by
  intro n
  induction n with
  | zero => intro v4_3 t_pens_l3 t_seconds_l3 iv4_3 im; exact absurd im.1 (by decide)
  | succ n3 ih =>
    intro v4_3 t_pens_l3 t_seconds_l3 iv4_3 im
    rw [fX1_planFrom_L3]
    have im2 := im.2
    have k0 : (0 : Int32).toInt = 0 := rfl
    have km : (-1 : Int32).toInt = -1 := rfl
    have k_1 := zq_k 1 (by decide)
    obtain ⟨r11, e2, q1⟩ := t_fX9_size p1_way_mats ⟨by omega, by omega⟩
    rw [e2, Option.bind_some]
    by_cases h3 : r11 ≤ v4_3
    · rw [if_pos h3]
      have q4 := zq_le h3
      exact hK v4_3 t_pens_l3 t_seconds_l3 ⟨by omega, by omega⟩
    · rw [if_neg h3]
      have q5 := zq_nle h3
      obtain ⟨⟨t_pens_r14, t_seconds_r15⟩, e7, q6⟩ := t_fX1_prepare N t_pens_l3 t_seconds_l3 p1_runners_entered p1_runners_facts p1_way_mats p1_way_places v4_3 hN ⟨by omega, by omega⟩ ⟨by omega, by omega⟩
      rw [e7, Option.bind_some]
      dsimp only
      try have a8 := zq_add (x := v4_3) (y := (nI 1)) (by omega) (by omega)
      exact ih (v4_3 + (nI 1)) t_pens_r14 t_seconds_r15 ⟨by omega, by omega⟩ ⟨by omega, by omega⟩
theorem t_fX1_planFrom (N : Nat) (t_minutes : Nat → Int32) (t_passers : Nat → Int32) (t_pens : Nat → Int32) (t_seconds : Nat → Int32) (t_tried_ticks : Nat → Int32) (p1_guns_ticks : Nat → Int32) (p1_runners_entered : Int32) (p1_runners_facts : Nat → Int32) (p1_way_mats : Int32) (p1_way_bearings : Nat → Int32) (p1_way_places : Nat → Int32) (x2 : Int32) (x3 : Int32) (hN : 10000 ≤ N) (h_p1_runners_entered : 0 ≤ p1_runners_entered.toInt ∧ p1_runners_entered.toInt ≤ 60) (h_p1_way_mats : 0 ≤ p1_way_mats.toInt ∧ p1_way_mats.toInt ≤ 12) (h_x3 : 0 ≤ x3.toInt ∧ x3.toInt ≤ 3000) : ∃ r, fX1_planFrom N t_minutes t_passers t_pens t_seconds t_tried_ticks p1_guns_ticks p1_runners_entered p1_runners_facts p1_way_mats p1_way_bearings p1_way_places x2 x3 = some r ∧ (True) := by
  unfold fX1_planFrom
  have k0 : (0 : Int32).toInt = 0 := rfl
  have km : (-1 : Int32).toInt = -1 := rfl
  have k_0 := zq_k 0 (by decide)
  refine t_fX1_planFrom_L3 N p1_runners_entered p1_runners_facts p1_way_mats p1_way_places _ hN ⟨by omega, by omega⟩ ⟨by omega, by omega⟩ ?_ _ (nI 0) t_pens t_seconds ⟨by omega, by omega⟩ ⟨by omega, by omega⟩
  intro v4_3 t_pens_l3 t_seconds_l3 iv4_3
  refine t_fX1_planFrom_L34 N p1_runners_entered p1_way_mats p1_way_bearings x2 x3 t_pens_l3 t_seconds_l3 _ hN ⟨by omega, by omega⟩ ⟨by omega, by omega⟩ ⟨by omega, by omega⟩ ?_ _ (nI 0) (nI 0) t_minutes t_passers t_tried_ticks p1_guns_ticks ⟨by omega, by omega⟩ ⟨by omega, by omega⟩
  intro v4_34 v5_34 t_minutes_l34 t_passers_l34 t_tried_ticks_l34 p1_guns_ticks_l34 iv5_34
  exact ⟨_, rfl, trivial⟩
theorem t_fX10_within (x1 : Int32) (x2 : Int32) (x3 : Int32)  : ∃ r, fX10_within x1 x2 x3 = some r ∧ (¬ (zb r = 0) → x2.toInt ≤ x1.toInt ∧ x1.toInt ≤ x3.toInt) := by
  unfold fX10_within
  have k0 : (0 : Int32).toInt = 0 := rfl
  have km : (-1 : Int32).toInt = -1 := rfl
  by_cases h1 : x1 < x2
  · rw [if_pos h1]
    have q2 := zq_lt h1
    exact ⟨_, rfl, fun q => absurd zl_f0 q⟩
  · rw [if_neg h1]
    have q3 := zq_nlt h1
    by_cases h4 : x3 < x1
    · rw [if_pos h4]
      have q5 := zq_lt h4
      exact ⟨_, rfl, fun q => absurd zl_f0 q⟩
    · rw [if_neg h4]
      have q6 := zq_nlt h4
      exact ⟨_, rfl, fun _ => by omega⟩
theorem t_fX7_size (t_length : Int32) (h_t_length : 0 ≤ t_length.toInt ∧ t_length.toInt ≤ 200) : ∃ r, fX7_size t_length = some r ∧ (0 ≤ (r).toInt ∧ (r).toInt ≤ 200) := by
  unfold fX7_size
  have k0 : (0 : Int32).toInt = 0 := rfl
  have km : (-1 : Int32).toInt = -1 := rfl
  refine ⟨_, rfl, ?_⟩
  exact ⟨by omega, by omega⟩
theorem t_fX7_byteAt (t_length : Int32) (t_bytes : Nat → Int32) (x1 : Int32) (h_t_length : 0 ≤ t_length.toInt ∧ t_length.toInt ≤ 200) : ∃ r, fX7_byteAt t_length t_bytes x1 = some r ∧ (True) := by
  unfold fX7_byteAt
  have k0 : (0 : Int32).toInt = 0 := rfl
  have km : (-1 : Int32).toInt = -1 := rfl
  have k_200 := zq_k 200 (by decide)
  by_cases h1 : x1 < 0
  · rw [if_pos h1]
    have q2 := zq_lt h1
    exact ⟨_, rfl, trivial⟩
  · rw [if_neg h1]
    have q3 := zq_nlt h1
    by_cases h4 : t_length ≤ x1
    · rw [if_pos h4]
      have q5 := zq_le h4
      exact ⟨_, rfl, trivial⟩
    · rw [if_neg h4]
      have q6 := zq_nle h4
      by_cases h7 : (nI 200) ≤ x1
      · rw [if_pos h7]
        have q8 := zq_le h7
        exact ⟨_, rfl, trivial⟩
      · rw [if_neg h7]
        have q9 := zq_nle h7
        have z10 : zin x1 200 := zq_in (by omega) (by omega)
        rw [if_pos z10]
        exact ⟨_, rfl, trivial⟩
theorem t_fX5_endNumber (t_stage : Int32)  : ∃ r, fX5_endNumber t_stage = some r ∧ (True) := by
  unfold fX5_endNumber
  have k0 : (0 : Int32).toInt = 0 := rfl
  have km : (-1 : Int32).toInt = -1 := rfl
  have k_3 := zq_k 3 (by decide)
  have k_4 := zq_k 4 (by decide)
  have k_8 := zq_k 8 (by decide)
  have k_9 := zq_k 9 (by decide)
  by_cases h1 : t_stage = (nI 3)
  · rw [if_pos h1]
    have q2 := zq_eq h1
    exact ⟨_, rfl, trivial⟩
  · rw [if_neg h1]
    by_cases h3 : t_stage = (nI 8)
    · rw [if_pos h3]
      have q4 := zq_eq h3
      exact ⟨_, rfl, trivial⟩
    · rw [if_neg h3]
      exact ⟨_, rfl, trivial⟩
theorem t_fX5_lay (t_laid : Int32) (t_numbers : Nat → Int32) (t_parts : Nat → Int32) (t_signs : Nat → Int32) (x1 : Int32)  : ∃ r, fX5_lay t_laid t_numbers t_parts t_signs x1 = some r ∧ (True) := by
  unfold fX5_lay
  have k0 : (0 : Int32).toInt = 0 := rfl
  have km : (-1 : Int32).toInt = -1 := rfl
  have k_0 := zq_k 0 (by decide)
  have k_1 := zq_k 1 (by decide)
  have k_199 := zq_k 199 (by decide)
  obtain ⟨b1, e2, q1⟩ := t_fX10_within t_laid (nI 0) (nI 199) 
  rw [e2, Option.bind_some]
  by_cases h3 : (zb b1) = 0
  · rw [if_pos h3]
    exact ⟨_, rfl, trivial⟩
  · rw [if_neg h3]
    have q4 := q1 h3
    have z5 : zin t_laid 200 := zq_in (by omega) (by omega)
    rw [if_pos z5]
    have z6 : zin t_laid 200 := zq_in (by omega) (by omega)
    rw [if_pos z6]
    have z7 : zin t_laid 200 := zq_in (by omega) (by omega)
    rw [if_pos z7]
    exact ⟨_, rfl, trivial⟩
theorem t_fX5_factNamed (x1 : Int32)  : ∃ r, fX5_factNamed x1 = some r ∧ (True) := by
  unfold fX5_factNamed
  have k0 : (0 : Int32).toInt = 0 := rfl
  have km : (-1 : Int32).toInt = -1 := rfl
  have k_0 := zq_k 0 (by decide)
  have k_2 := zq_k 2 (by decide)
  have k_3 := zq_k 3 (by decide)
  have k_4 := zq_k 4 (by decide)
  have k_5 := zq_k 5 (by decide)
  have k_107 := zq_k 107 (by decide)
  have k_112 := zq_k 112 (by decide)
  have k_115 := zq_k 115 (by decide)
  have k_116 := zq_k 116 (by decide)
  have k_121 := zq_k 121 (by decide)
  by_cases h1 : x1 = (nI 107)
  · rw [if_pos h1]
    have q2 := zq_eq h1
    exact ⟨_, rfl, trivial⟩
  · rw [if_neg h1]
    by_cases h3 : x1 = (nI 112)
    · rw [if_pos h3]
      have q4 := zq_eq h3
      exact ⟨_, rfl, trivial⟩
    · rw [if_neg h3]
      by_cases h5 : x1 = (nI 115)
      · rw [if_pos h5]
        have q6 := zq_eq h5
        exact ⟨_, rfl, trivial⟩
      · rw [if_neg h5]
        by_cases h7 : x1 = (nI 116)
        · rw [if_pos h7]
          have q8 := zq_eq h7
          exact ⟨_, rfl, trivial⟩
        · rw [if_neg h7]
          by_cases h9 : x1 = (nI 121)
          · rw [if_pos h9]
            have q10 := zq_eq h9
            exact ⟨_, rfl, trivial⟩
          · rw [if_neg h9]
            exact ⟨_, rfl, trivial⟩
theorem t_fX5_takeUnit (t_laid : Int32) (t_open : Int32) (t_stage : Int32) (t_numbers : Nat → Int32) (t_parts : Nat → Int32) (t_signs : Nat → Int32) (x1 : Int32)  : ∃ r, fX5_takeUnit t_laid t_open t_stage t_numbers t_parts t_signs x1 = some r ∧ (True) := by
  unfold fX5_takeUnit
  have k0 : (0 : Int32).toInt = 0 := rfl
  have km : (-1 : Int32).toInt = -1 := rfl
  have k_1 := zq_k 1 (by decide)
  have k_8 := zq_k 8 (by decide)
  have k_40 := zq_k 40 (by decide)
  by_cases h1 : x1 = (nI 40)
  · rw [if_pos h1]
    have q2 := zq_eq h1
    obtain ⟨⟨t_laid_r10, t_numbers_r11, t_parts_r12, t_signs_r13⟩, e4, q3⟩ := t_fX5_lay t_laid t_numbers t_parts t_signs x1 
    rw [e4, Option.bind_some]
    dsimp only
    by_cases h5 : (nI 8) < (t_open + (nI 1))
    · rw [if_pos h5]
      have q6 := zq_lt h5
      exact ⟨_, rfl, trivial⟩
    · rw [if_neg h5]
      have q7 := zq_nlt h5
      exact ⟨_, rfl, trivial⟩
  · rw [if_neg h1]
    obtain ⟨⟨t_laid_r2, t_numbers_r3, t_parts_r4, t_signs_r5⟩, e9, q8⟩ := t_fX5_lay t_laid t_numbers t_parts t_signs x1 
    rw [e9, Option.bind_some]
    dsimp only
    obtain ⟨r7, e11, q10⟩ := t_fX5_factNamed x1 
    rw [e11, Option.bind_some]
    by_cases h12 : r7 = (-1 : Int32)
    · rw [if_pos h12]
      have q13 := zq_eq h12
      exact ⟨_, rfl, trivial⟩
    · rw [if_neg h12]
      have q14 := zq_ne h12
      exact ⟨_, rfl, trivial⟩
theorem t_fX5_takeSign (t_digits : Int32) (t_laid : Int32) (t_stage : Int32) (t_signs : Nat → Int32) (x1 : Int32)  : ∃ r, fX5_takeSign t_digits t_laid t_stage t_signs x1 = some r ∧ (True) := by
  unfold fX5_takeSign
  have k0 : (0 : Int32).toInt = 0 := rfl
  have km : (-1 : Int32).toInt = -1 := rfl
  have k_0 := zq_k 0 (by decide)
  have k_1 := zq_k 1 (by decide)
  have k_2 := zq_k 2 (by decide)
  have k_60 := zq_k 60 (by decide)
  have k_61 := zq_k 61 (by decide)
  have k_62 := zq_k 62 (by decide)
  have k_200 := zq_k 200 (by decide)
  obtain ⟨b1, e2, q1⟩ := t_fX10_within t_laid (nI 1) (nI 200) 
  rw [e2, Option.bind_some]
  by_cases h3 : (zb b1) = 0
  · rw [if_pos h3]
    by_cases h4 : x1 = (nI 61)
    · rw [if_pos h4]
      have q5 := zq_eq h4
      exact ⟨_, rfl, trivial⟩
    · rw [if_neg h4]
      by_cases h6 : x1 = (nI 60)
      · rw [if_pos h6]
        have q7 := zq_eq h6
        exact ⟨_, rfl, trivial⟩
      · rw [if_neg h6]
        by_cases h8 : x1 = (nI 62)
        · rw [if_pos h8]
          have q9 := zq_eq h8
          exact ⟨_, rfl, trivial⟩
        · rw [if_neg h8]
          exact ⟨_, rfl, trivial⟩
  · rw [if_neg h3]
    have q10 := q1 h3
    try have a11 := zq_sub (x := t_laid) (y := (nI 1)) (by omega) (by omega)
    have z12 : zin (t_laid - (nI 1)) 200 := zq_in (by omega) (by omega)
    rw [if_pos z12]
    by_cases h13 : x1 = (nI 61)
    · rw [if_pos h13]
      have q14 := zq_eq h13
      exact ⟨_, rfl, trivial⟩
    · rw [if_neg h13]
      by_cases h15 : x1 = (nI 60)
      · rw [if_pos h15]
        have q16 := zq_eq h15
        exact ⟨_, rfl, trivial⟩
      · rw [if_neg h15]
        by_cases h17 : x1 = (nI 62)
        · rw [if_pos h17]
          have q18 := zq_eq h17
          exact ⟨_, rfl, trivial⟩
        · rw [if_neg h17]
          exact ⟨_, rfl, trivial⟩
theorem t_fX5_isDigit (x1 : Int32)  : ∃ r, fX5_isDigit x1 = some r ∧ (True) := by
  unfold fX5_isDigit
  have k0 : (0 : Int32).toInt = 0 := rfl
  have km : (-1 : Int32).toInt = -1 := rfl
  have k_48 := zq_k 48 (by decide)
  have k_57 := zq_k 57 (by decide)
  obtain ⟨b1, e2, q1⟩ := t_fX10_within x1 (nI 48) (nI 57) 
  rw [e2, Option.bind_some]
  exact ⟨_, rfl, trivial⟩
theorem t_fX5_takeDigit (t_digits : Int32) (t_laid : Int32) (t_stage : Int32) (t_numbers : Nat → Int32) (x1 : Int32)  : ∃ r, fX5_takeDigit t_digits t_laid t_stage t_numbers x1 = some r ∧ (True) := by
  unfold fX5_takeDigit
  have k0 : (0 : Int32).toInt = 0 := rfl
  have km : (-1 : Int32).toInt = -1 := rfl
  have k_1 := zq_k 1 (by decide)
  have k_3 := zq_k 3 (by decide)
  have k_5 := zq_k 5 (by decide)
  have k_10 := zq_k 10 (by decide)
  have k_48 := zq_k 48 (by decide)
  have k_200 := zq_k 200 (by decide)
  obtain ⟨b1, e2, q1⟩ := t_fX5_isDigit x1 
  rw [e2, Option.bind_some]
  by_cases h3 : (zb b1) = 0
  · rw [if_pos h3]
    exact ⟨_, rfl, trivial⟩
  · rw [if_neg h3]
    by_cases h4 : (t_digits + (nI 1)) ≤ (nI 5)
    · rw [if_pos h4]
      have q5 := zq_le h4
      obtain ⟨b5, e7, q6⟩ := t_fX10_within t_laid (nI 1) (nI 200) 
      rw [e7, Option.bind_some]
      by_cases h8 : (zb b5) = 0
      · rw [if_pos h8]
        exact ⟨_, rfl, trivial⟩
      · rw [if_neg h8]
        have q9 := q6 h8
        try have a10 := zq_sub (x := t_laid) (y := (nI 1)) (by omega) (by omega)
        have z11 : zin (t_laid - (nI 1)) 200 := zq_in (by omega) (by omega)
        rw [if_pos z11]
        try have a12 := zq_sub (x := t_laid) (y := (nI 1)) (by omega) (by omega)
        have z13 : zin (t_laid - (nI 1)) 200 := zq_in (by omega) (by omega)
        rw [if_pos z13]
        exact ⟨_, rfl, trivial⟩
    · rw [if_neg h4]
      have q14 := zq_nle h4
      exact ⟨_, rfl, trivial⟩
theorem t_fX5_takeJoint (t_laid : Int32) (t_open : Int32) (t_stage : Int32) (t_numbers : Nat → Int32) (t_parts : Nat → Int32) (t_signs : Nat → Int32) (x1 : Int32)  : ∃ r, fX5_takeJoint t_laid t_open t_stage t_numbers t_parts t_signs x1 = some r ∧ (True) := by
  unfold fX5_takeJoint
  have k0 : (0 : Int32).toInt = 0 := rfl
  have km : (-1 : Int32).toInt = -1 := rfl
  have k_0 := zq_k 0 (by decide)
  have k_1 := zq_k 1 (by decide)
  have k_4 := zq_k 4 (by decide)
  have k_5 := zq_k 5 (by decide)
  have k_38 := zq_k 38 (by decide)
  have k_41 := zq_k 41 (by decide)
  have k_59 := zq_k 59 (by decide)
  have k_124 := zq_k 124 (by decide)
  by_cases h1 : x1 = (nI 38)
  · rw [if_pos h1]
    have q2 := zq_eq h1
    exact ⟨_, rfl, trivial⟩
  · rw [if_neg h1]
    by_cases h3 : x1 = (nI 41)
    · rw [if_pos h3]
      have q4 := zq_eq h3
      obtain ⟨⟨t_laid_r3, t_numbers_r4, t_parts_r5, t_signs_r6⟩, e6, q5⟩ := t_fX5_lay t_laid t_numbers t_parts t_signs x1 
      rw [e6, Option.bind_some]
      dsimp only
      by_cases h7 : (t_open - (nI 1)) < 0
      · rw [if_pos h7]
        have q8 := zq_lt h7
        exact ⟨_, rfl, trivial⟩
      · rw [if_neg h7]
        have q9 := zq_nlt h7
        exact ⟨_, rfl, trivial⟩
    · rw [if_neg h3]
      by_cases h10 : x1 = (nI 59)
      · rw [if_pos h10]
        have q11 := zq_eq h10
        by_cases h12 : t_open = 0
        · rw [if_pos h12]
          have q13 := zq_eq h12
          exact ⟨_, rfl, trivial⟩
        · rw [if_neg h12]
          have q14 := zq_ne h12
          exact ⟨_, rfl, trivial⟩
      · rw [if_neg h10]
        by_cases h15 : x1 = (nI 124)
        · rw [if_pos h15]
          have q16 := zq_eq h15
          obtain ⟨⟨t_laid_r12, t_numbers_r13, t_parts_r14, t_signs_r15⟩, e18, q17⟩ := t_fX5_lay t_laid t_numbers t_parts t_signs x1 
          rw [e18, Option.bind_some]
          dsimp only
          exact ⟨_, rfl, trivial⟩
        · rw [if_neg h15]
          exact ⟨_, rfl, trivial⟩
theorem t_fX5_takeOrder (t_digits : Int32) (t_order : Int32) (t_stage : Int32) (x1 : Int32)  : ∃ r, fX5_takeOrder t_digits t_order t_stage x1 = some r ∧ (True) := by
  unfold fX5_takeOrder
  have k0 : (0 : Int32).toInt = 0 := rfl
  have km : (-1 : Int32).toInt = -1 := rfl
  have k_0 := zq_k 0 (by decide)
  have k_6 := zq_k 6 (by decide)
  have k_103 := zq_k 103 (by decide)
  have k_110 := zq_k 110 (by decide)
  by_cases h1 : x1 = (nI 110)
  · rw [if_pos h1]
    have q2 := zq_eq h1
    exact ⟨_, rfl, trivial⟩
  · rw [if_neg h1]
    by_cases h3 : x1 = (nI 103)
    · rw [if_pos h3]
      have q4 := zq_eq h3
      exact ⟨_, rfl, trivial⟩
    · rw [if_neg h3]
      exact ⟨_, rfl, trivial⟩
theorem t_fX5_takePrizeDigit (t_digits : Int32) (t_prizes : Int32) (t_stage : Int32) (x1 : Int32)  : ∃ r, fX5_takePrizeDigit t_digits t_prizes t_stage x1 = some r ∧ (True) := by
  unfold fX5_takePrizeDigit
  have k0 : (0 : Int32).toInt = 0 := rfl
  have km : (-1 : Int32).toInt = -1 := rfl
  have k_1 := zq_k 1 (by decide)
  have k_5 := zq_k 5 (by decide)
  have k_8 := zq_k 8 (by decide)
  have k_10 := zq_k 10 (by decide)
  have k_48 := zq_k 48 (by decide)
  obtain ⟨b1, e2, q1⟩ := t_fX5_isDigit x1 
  rw [e2, Option.bind_some]
  by_cases h3 : (zb b1) = 0
  · rw [if_pos h3]
    exact ⟨_, rfl, trivial⟩
  · rw [if_neg h3]
    by_cases h4 : (t_digits + (nI 1)) ≤ (nI 5)
    · rw [if_pos h4]
      have q5 := zq_le h4
      exact ⟨_, rfl, trivial⟩
    · rw [if_neg h4]
      have q6 := zq_nle h4
      exact ⟨_, rfl, trivial⟩
theorem t_fX5_take (t_digits : Int32) (t_laid : Int32) (t_open : Int32) (t_order : Int32) (t_prizes : Int32) (t_stage : Int32) (t_numbers : Nat → Int32) (t_parts : Nat → Int32) (t_signs : Nat → Int32) (x1 : Int32)  : ∃ r, fX5_take t_digits t_laid t_open t_order t_prizes t_stage t_numbers t_parts t_signs x1 = some r ∧ (True) := by
  unfold fX5_take
  have k0 : (0 : Int32).toInt = 0 := rfl
  have km : (-1 : Int32).toInt = -1 := rfl
  have k_0 := zq_k 0 (by decide)
  have k_1 := zq_k 1 (by decide)
  have k_2 := zq_k 2 (by decide)
  have k_3 := zq_k 3 (by decide)
  have k_4 := zq_k 4 (by decide)
  have k_5 := zq_k 5 (by decide)
  have k_6 := zq_k 6 (by decide)
  have k_7 := zq_k 7 (by decide)
  have k_8 := zq_k 8 (by decide)
  have k_32 := zq_k 32 (by decide)
  have k_59 := zq_k 59 (by decide)
  by_cases h1 : x1 = (nI 32)
  · rw [if_pos h1]
    have q2 := zq_eq h1
    obtain ⟨t_stage_r69, e4, q3⟩ := t_fX5_endNumber t_stage 
    rw [e4, Option.bind_some]
    exact ⟨_, rfl, trivial⟩
  · rw [if_neg h1]
    by_cases h5 : t_stage = (nI 0)
    · rw [if_pos h5]
      have q6 := zq_eq h5
      obtain ⟨⟨b3, t_laid_r4, t_open_r5, t_stage_r6, t_numbers_r7, t_parts_r8, t_signs_r9⟩, e8, q7⟩ := t_fX5_takeUnit t_laid t_open t_stage t_numbers t_parts t_signs x1 
      rw [e8, Option.bind_some]
      dsimp only
      exact ⟨_, rfl, trivial⟩
    · rw [if_neg h5]
      by_cases h9 : t_stage = (nI 1)
      · rw [if_pos h9]
        have q10 := zq_eq h9
        obtain ⟨⟨b12, t_digits_r13, t_stage_r14, t_signs_r15⟩, e12, q11⟩ := t_fX5_takeSign t_digits t_laid t_stage t_signs x1 
        rw [e12, Option.bind_some]
        dsimp only
        exact ⟨_, rfl, trivial⟩
      · rw [if_neg h9]
        by_cases h13 : t_stage = (nI 2)
        · rw [if_pos h13]
          have q14 := zq_eq h13
          obtain ⟨⟨b18, t_digits_r19, t_stage_r20, t_numbers_r21⟩, e16, q15⟩ := t_fX5_takeDigit t_digits t_laid t_stage t_numbers x1 
          rw [e16, Option.bind_some]
          dsimp only
          exact ⟨_, rfl, trivial⟩
        · rw [if_neg h13]
          by_cases h17 : t_stage = (nI 3)
          · rw [if_pos h17]
            have q18 := zq_eq h17
            obtain ⟨b24, e20, q19⟩ := t_fX5_isDigit x1 
            rw [e20, Option.bind_some]
            by_cases h21 : (zb b24) = 0
            · rw [if_pos h21]
              obtain ⟨⟨b27, t_laid_r28, t_open_r29, t_stage_r30, t_numbers_r31, t_parts_r32, t_signs_r33⟩, e23, q22⟩ := t_fX5_takeJoint t_laid t_open t_stage t_numbers t_parts t_signs x1 
              rw [e23, Option.bind_some]
              dsimp only
              exact ⟨_, rfl, trivial⟩
            · rw [if_neg h21]
              obtain ⟨⟨b35, t_digits_r36, t_stage_r37, t_numbers_r38⟩, e25, q24⟩ := t_fX5_takeDigit t_digits t_laid t_stage t_numbers x1 
              rw [e25, Option.bind_some]
              dsimp only
              exact ⟨_, rfl, trivial⟩
          · rw [if_neg h17]
            by_cases h26 : t_stage = (nI 4)
            · rw [if_pos h26]
              have q27 := zq_eq h26
              obtain ⟨⟨b41, t_laid_r42, t_open_r43, t_stage_r44, t_numbers_r45, t_parts_r46, t_signs_r47⟩, e29, q28⟩ := t_fX5_takeJoint t_laid t_open t_stage t_numbers t_parts t_signs x1 
              rw [e29, Option.bind_some]
              dsimp only
              exact ⟨_, rfl, trivial⟩
            · rw [if_neg h26]
              by_cases h30 : t_stage = (nI 5)
              · rw [if_pos h30]
                have q31 := zq_eq h30
                obtain ⟨⟨b50, t_digits_r51, t_order_r52, t_stage_r53⟩, e33, q32⟩ := t_fX5_takeOrder t_digits t_order t_stage x1 
                rw [e33, Option.bind_some]
                dsimp only
                exact ⟨_, rfl, trivial⟩
              · rw [if_neg h30]
                by_cases h34 : t_stage = (nI 6)
                · rw [if_pos h34]
                  have q35 := zq_eq h34
                  by_cases h36 : x1 = (nI 59)
                  · rw [if_pos h36]
                    have q37 := zq_eq h36
                    exact ⟨_, rfl, trivial⟩
                  · rw [if_neg h36]
                    exact ⟨_, rfl, trivial⟩
                · rw [if_neg h34]
                  by_cases h38 : t_stage = (nI 7)
                  · rw [if_pos h38]
                    have q39 := zq_eq h38
                    obtain ⟨⟨b58, t_digits_r59, t_prizes_r60, t_stage_r61⟩, e41, q40⟩ := t_fX5_takePrizeDigit t_digits t_prizes t_stage x1 
                    rw [e41, Option.bind_some]
                    dsimp only
                    exact ⟨_, rfl, trivial⟩
                  · rw [if_neg h38]
                    by_cases h42 : t_stage = (nI 8)
                    · rw [if_pos h42]
                      have q43 := zq_eq h42
                      obtain ⟨⟨b64, t_digits_r65, t_prizes_r66, t_stage_r67⟩, e45, q44⟩ := t_fX5_takePrizeDigit t_digits t_prizes t_stage x1 
                      rw [e45, Option.bind_some]
                      dsimp only
                      exact ⟨_, rfl, trivial⟩
                    · rw [if_neg h42]
                      exact ⟨_, rfl, trivial⟩
theorem t_fX5_read_L32 (p1_length : Int32) (p1_bytes : Nat → Int32) (K32_60 : Int32 → Int32 → Int32 → Int32 → Int32 → Int32 → Int32 → (Nat → Int32) → (Nat → Int32) → (Nat → Int32) → Option (Int32 × Int32 × Int32 × Int32 × Int32 × Int32 × Int32 × (Nat → Int32) × (Nat → Int32) × (Nat → Int32))) (h_p1_length : 0 ≤ p1_length.toInt ∧ p1_length.toInt ≤ 200) (hK : ∀ (v2_32 : Int32) (t_laid_l32 : Int32) (t_stage_l32 : Int32) (t_open_l32 : Int32) (t_digits_l32 : Int32) (t_order_l32 : Int32) (t_prizes_l32 : Int32) (t_numbers_l32 : Nat → Int32) (t_parts_l32 : Nat → Int32) (t_signs_l32 : Nat → Int32), (0 ≤ v2_32.toInt ∧ v2_32.toInt ≤ 200) → ∃ r, K32_60 v2_32 t_laid_l32 t_stage_l32 t_open_l32 t_digits_l32 t_order_l32 t_prizes_l32 t_numbers_l32 t_parts_l32 t_signs_l32 = some r ∧ (True)) : ∀ (n : Nat) (v2_32 : Int32) (t_laid_l32 : Int32) (t_stage_l32 : Int32) (t_open_l32 : Int32) (t_digits_l32 : Int32) (t_order_l32 : Int32) (t_prizes_l32 : Int32) (t_numbers_l32 : Nat → Int32) (t_parts_l32 : Nat → Int32) (t_signs_l32 : Nat → Int32), (0 ≤ v2_32.toInt ∧ v2_32.toInt ≤ 200) → (1 ≤ n ∧ 201 - v2_32.toInt ≤ (n : Int)) → ∃ r, fX5_read_L32 p1_length p1_bytes K32_60 n v2_32 t_laid_l32 t_stage_l32 t_open_l32 t_digits_l32 t_order_l32 t_prizes_l32 t_numbers_l32 t_parts_l32 t_signs_l32 = some r ∧ (True) := by
  intro n
  induction n with
  | zero => intro v2_32 t_laid_l32 t_stage_l32 t_open_l32 t_digits_l32 t_order_l32 t_prizes_l32 t_numbers_l32 t_parts_l32 t_signs_l32 iv2_32 im; exact absurd im.1 (by decide)
  | succ n32 ih =>
    intro v2_32 t_laid_l32 t_stage_l32 t_open_l32 t_digits_l32 t_order_l32 t_prizes_l32 t_numbers_l32 t_parts_l32 t_signs_l32 iv2_32 im
    rw [fX5_read_L32]
    have im2 := im.2
    have k0 : (0 : Int32).toInt = 0 := rfl
    have km : (-1 : Int32).toInt = -1 := rfl
    have k_1 := zq_k 1 (by decide)
    obtain ⟨r6, e2, q1⟩ := t_fX7_size p1_length ⟨by omega, by omega⟩
    rw [e2, Option.bind_some]
    by_cases h3 : r6 ≤ v2_32
    · rw [if_pos h3]
      have q4 := zq_le h3
      exact hK v2_32 t_laid_l32 t_stage_l32 t_open_l32 t_digits_l32 t_order_l32 t_prizes_l32 t_numbers_l32 t_parts_l32 t_signs_l32 ⟨by omega, by omega⟩
    · rw [if_neg h3]
      have q5 := zq_nle h3
      obtain ⟨r9, e7, q6⟩ := t_fX7_byteAt p1_length p1_bytes v2_32 ⟨by omega, by omega⟩
      rw [e7, Option.bind_some]
      obtain ⟨⟨b11, t_digits_r12, t_laid_r13, t_open_r14, t_order_r15, t_prizes_r16, t_stage_r17, t_numbers_r18, t_parts_r19, t_signs_r20⟩, e9, q8⟩ := t_fX5_take t_digits_l32 t_laid_l32 t_open_l32 t_order_l32 t_prizes_l32 t_stage_l32 t_numbers_l32 t_parts_l32 t_signs_l32 r9 
      rw [e9, Option.bind_some]
      dsimp only
      by_cases h10 : (zb b11) = 0
      · rw [if_pos h10]
        exact ⟨_, rfl, trivial⟩
      · rw [if_neg h10]
        try have a11 := zq_add (x := v2_32) (y := (nI 1)) (by omega) (by omega)
        exact ih (v2_32 + (nI 1)) t_laid_r13 t_stage_r17 t_open_r14 t_digits_r12 t_order_r15 t_prizes_r16 t_numbers_r18 t_parts_r19 t_signs_r20 ⟨by omega, by omega⟩ ⟨by omega, by omega⟩
theorem t_fX5_read (N : Nat) (t_digits : Int32) (t_laid : Int32) (t_open : Int32) (t_order : Int32) (t_prizes : Int32) (t_stage : Int32) (t_numbers : Nat → Int32) (t_parts : Nat → Int32) (t_signs : Nat → Int32) (p1_length : Int32) (p1_bytes : Nat → Int32) (hN : 10000 ≤ N) (h_p1_length : 0 ≤ p1_length.toInt ∧ p1_length.toInt ≤ 200) : ∃ r, fX5_read N t_digits t_laid t_open t_order t_prizes t_stage t_numbers t_parts t_signs p1_length p1_bytes = some r ∧ (True) := by
  unfold fX5_read
  have k0 : (0 : Int32).toInt = 0 := rfl
  have km : (-1 : Int32).toInt = -1 := rfl
  have k_0 := zq_k 0 (by decide)
  have k_6 := zq_k 6 (by decide)
  have k_8 := zq_k 8 (by decide)
  have k_9 := zq_k 9 (by decide)
  refine t_fX5_read_L32 p1_length p1_bytes _ ⟨by omega, by omega⟩ ?_ _ (nI 0) (nI 0) (nI 0) (nI 0) (nI 0) (-1 : Int32) (nI 0) t_numbers t_parts t_signs ⟨by omega, by omega⟩ ⟨by omega, by omega⟩
  intro v2_32 t_laid_l32 t_stage_l32 t_open_l32 t_digits_l32 t_order_l32 t_prizes_l32 t_numbers_l32 t_parts_l32 t_signs_l32 iv2_32
  by_cases h1 : t_stage_l32 = (nI 6)
  · rw [if_pos h1]
    have q2 := zq_eq h1
    exact ⟨_, rfl, trivial⟩
  · rw [if_neg h1]
    by_cases h3 : t_stage_l32 = (nI 8)
    · rw [if_pos h3]
      have q4 := zq_eq h3
      exact ⟨_, rfl, trivial⟩
    · rw [if_neg h3]
      by_cases h5 : t_stage_l32 = (nI 9)
      · rw [if_pos h5]
        have q6 := zq_eq h5
        exact ⟨_, rfl, trivial⟩
      · rw [if_neg h5]
        obtain ⟨r4, e8, q7⟩ := t_fX7_size p1_length ⟨by omega, by omega⟩
        rw [e8, Option.bind_some]
        exact ⟨_, rfl, trivial⟩
theorem t_fX3_faultOf (N : Nat) (t_reading_digits : Int32) (t_reading_laid : Int32) (t_reading_open : Int32) (t_reading_order : Int32) (t_reading_prizes : Int32) (t_reading_stage : Int32) (t_reading_numbers : Nat → Int32) (t_reading_parts : Nat → Int32) (t_reading_signs : Nat → Int32) (p1_length : Int32) (p1_bytes : Nat → Int32) (hN : 10000 ≤ N) (h_p1_length : 0 ≤ p1_length.toInt ∧ p1_length.toInt ≤ 200) : ∃ r, fX3_faultOf N t_reading_digits t_reading_laid t_reading_open t_reading_order t_reading_prizes t_reading_stage t_reading_numbers t_reading_parts t_reading_signs p1_length p1_bytes = some r ∧ (True) := by
  unfold fX3_faultOf
  have k0 : (0 : Int32).toInt = 0 := rfl
  have km : (-1 : Int32).toInt = -1 := rfl
  obtain ⟨⟨r1, t_reading_digits_r2, t_reading_laid_r3, t_reading_open_r4, t_reading_order_r5, t_reading_prizes_r6, t_reading_stage_r7, t_reading_numbers_r8, t_reading_parts_r9, t_reading_signs_r10⟩, e2, q1⟩ := t_fX5_read N t_reading_digits t_reading_laid t_reading_open t_reading_order t_reading_prizes t_reading_stage t_reading_numbers t_reading_parts t_reading_signs p1_length p1_bytes hN ⟨by omega, by omega⟩
  rw [e2, Option.bind_some]
  dsimp only
  exact ⟨_, rfl, trivial⟩
theorem t_fX5_unitHolds (t_numbers : Nat → Int32) (t_parts : Nat → Int32) (t_signs : Nat → Int32) (p1_runners_entered : Int32) (p1_runners_facts : Nat → Int32) (x2 : Int32) (x3 : Int32) (h_p1_runners_entered : 0 ≤ p1_runners_entered.toInt ∧ p1_runners_entered.toInt ≤ 60) : ∃ r, fX5_unitHolds t_numbers t_parts t_signs p1_runners_entered p1_runners_facts x2 x3 = some r ∧ (True) := by
  unfold fX5_unitHolds
  have k0 : (0 : Int32).toInt = 0 := rfl
  have km : (-1 : Int32).toInt = -1 := rfl
  have k_0 := zq_k 0 (by decide)
  have k_60 := zq_k 60 (by decide)
  have k_62 := zq_k 62 (by decide)
  have k_199 := zq_k 199 (by decide)
  obtain ⟨b1, e2, q1⟩ := t_fX10_within x3 (nI 0) (nI 199) 
  rw [e2, Option.bind_some]
  by_cases h3 : (zb b1) = 0
  · rw [if_pos h3]
    exact ⟨_, rfl, trivial⟩
  · rw [if_neg h3]
    have q4 := q1 h3
    have z5 : zin x3 200 := zq_in (by omega) (by omega)
    rw [if_pos z5]
    obtain ⟨r5, e7, q6⟩ := t_fX5_factNamed (t_parts (x3).toNatClampNeg) 
    rw [e7, Option.bind_some]
    obtain ⟨r7, e9, q8⟩ := t_fX6_factOf p1_runners_entered p1_runners_facts x2 r5 ⟨by omega, by omega⟩
    rw [e9, Option.bind_some]
    have z10 : zin x3 200 := zq_in (by omega) (by omega)
    rw [if_pos z10]
    by_cases h11 : (t_signs (x3).toNatClampNeg) = (nI 60)
    · rw [if_pos h11]
      have q12 := zq_eq h11
      have z13 : zin x3 200 := zq_in (by omega) (by omega)
      rw [if_pos z13]
      by_cases h14 : (t_numbers (x3).toNatClampNeg) ≤ r7
      · rw [if_pos h14]
        have q15 := zq_le h14
        exact ⟨_, rfl, trivial⟩
      · rw [if_neg h14]
        have q16 := zq_nle h14
        exact ⟨_, rfl, trivial⟩
    · rw [if_neg h11]
      by_cases h17 : (t_signs (x3).toNatClampNeg) = (nI 62)
      · rw [if_pos h17]
        have q18 := zq_eq h17
        have z19 : zin x3 200 := zq_in (by omega) (by omega)
        rw [if_pos z19]
        by_cases h20 : r7 ≤ (t_numbers (x3).toNatClampNeg)
        · rw [if_pos h20]
          have q21 := zq_le h20
          exact ⟨_, rfl, trivial⟩
        · rw [if_neg h20]
          have q22 := zq_nle h20
          exact ⟨_, rfl, trivial⟩
      · rw [if_neg h17]
        have z23 : zin x3 200 := zq_in (by omega) (by omega)
        rw [if_pos z23]
        by_cases h24 : r7 = (t_numbers (x3).toNatClampNeg)
        · rw [if_pos h24]
          have q25 := zq_eq h24
          exact ⟨_, rfl, trivial⟩
        · rw [if_neg h24]
          have q26 := zq_ne h24
          exact ⟨_, rfl, trivial⟩
theorem t_fX5_holdsFor_L11 (t_laid : Int32) (t_numbers : Nat → Int32) (t_parts : Nat → Int32) (t_signs : Nat → Int32) (p1_runners_entered : Int32) (p1_runners_facts : Nat → Int32) (x2 : Int32) (K11_173 : Int32 → Int32 → Int32 → Int32 → Option (Bool)) (h_p1_runners_entered : 0 ≤ p1_runners_entered.toInt ∧ p1_runners_entered.toInt ≤ 60) (hK : ∀ (v3_11 : Int32) (v4_11 : Int32) (v5_11 : Int32) (v6_11 : Int32), (0 ≤ v6_11.toInt ∧ v6_11.toInt ≤ 200) → ∃ r, K11_173 v3_11 v4_11 v5_11 v6_11 = some r ∧ (True)) : ∀ (n : Nat) (v3_11 : Int32) (v4_11 : Int32) (v5_11 : Int32) (v6_11 : Int32), (0 ≤ v6_11.toInt ∧ v6_11.toInt ≤ 200) → (1 ≤ n ∧ 201 - v6_11.toInt ≤ (n : Int)) → ∃ r, fX5_holdsFor_L11 t_laid t_numbers t_parts t_signs p1_runners_entered p1_runners_facts x2 K11_173 n v3_11 v4_11 v5_11 v6_11 = some r ∧ (True) := by
  intro n
  induction n with
  | zero => intro v3_11 v4_11 v5_11 v6_11 iv6_11 im; exact absurd im.1 (by decide)
  | succ n11 ih =>
    intro v3_11 v4_11 v5_11 v6_11 iv6_11 im
    rw [fX5_holdsFor_L11]
    have im2 := im.2
    have k0 : (0 : Int32).toInt = 0 := rfl
    have km : (-1 : Int32).toInt = -1 := rfl
    have k_0 := zq_k 0 (by decide)
    have k_1 := zq_k 1 (by decide)
    have k_40 := zq_k 40 (by decide)
    have k_41 := zq_k 41 (by decide)
    have k_124 := zq_k 124 (by decide)
    have k_200 := zq_k 200 (by decide)
    by_cases h1 : t_laid ≤ v6_11
    · rw [if_pos h1]
      have q2 := zq_le h1
      exact hK v3_11 v4_11 v5_11 v6_11 ⟨by omega, by omega⟩
    · rw [if_neg h1]
      have q3 := zq_nle h1
      by_cases h4 : (nI 200) ≤ v6_11
      · rw [if_pos h4]
        have q5 := zq_le h4
        exact hK v3_11 v4_11 v5_11 v6_11 ⟨by omega, by omega⟩
      · rw [if_neg h4]
        have q6 := zq_nle h4
        have z7 : zin v6_11 200 := zq_in (by omega) (by omega)
        rw [if_pos z7]
        by_cases h8 : (t_parts (v6_11).toNatClampNeg) = (nI 40)
        · rw [if_pos h8]
          have q9 := zq_eq h8
          try have a10 := zq_add (x := v6_11) (y := (nI 1)) (by omega) (by omega)
          exact ih (v3_11 <<< ((nI 1) &&& 31)) (v4_11 &&& ((v3_11 <<< ((nI 1) &&& 31)) ^^^ (-1 : Int32))) (v5_11 &&& ((v3_11 <<< ((nI 1) &&& 31)) ^^^ (-1 : Int32))) (v6_11 + (nI 1)) ⟨by omega, by omega⟩ ⟨by omega, by omega⟩
        · rw [if_neg h8]
          have z11 : zin v6_11 200 := zq_in (by omega) (by omega)
          rw [if_pos z11]
          by_cases h12 : (t_parts (v6_11).toNatClampNeg) = (nI 124)
          · rw [if_pos h12]
            have q13 := zq_eq h12
            try have a14 := zq_add (x := v6_11) (y := (nI 1)) (by omega) (by omega)
            exact ih v3_11 (v4_11 &&& (v3_11 ^^^ (-1 : Int32))) (v5_11 ||| (v3_11 &&& (v4_11 ^^^ (-1 : Int32)))) (v6_11 + (nI 1)) ⟨by omega, by omega⟩ ⟨by omega, by omega⟩
          · rw [if_neg h12]
            have z15 : zin v6_11 200 := zq_in (by omega) (by omega)
            rw [if_pos z15]
            by_cases h16 : (t_parts (v6_11).toNatClampNeg) = (nI 41)
            · rw [if_pos h16]
              have q17 := zq_eq h16
              by_cases h18 : (v3_11 &&& (v5_11 ||| (v4_11 ^^^ (-1 : Int32)))) = 0
              · rw [if_pos h18]
                have q19 := zq_eq h18
                try have a20 := zq_add (x := v6_11) (y := (nI 1)) (by omega) (by omega)
                exact ih (v3_11 >>> ((nI 1) &&& 31)) (v4_11 ||| (v3_11 >>> ((nI 1) &&& 31))) v5_11 (v6_11 + (nI 1)) ⟨by omega, by omega⟩ ⟨by omega, by omega⟩
              · rw [if_neg h18]
                have q21 := zq_ne h18
                try have a22 := zq_add (x := v6_11) (y := (nI 1)) (by omega) (by omega)
                exact ih (v3_11 >>> ((nI 1) &&& 31)) (v4_11 ||| (nI 0)) v5_11 (v6_11 + (nI 1)) ⟨by omega, by omega⟩ ⟨by omega, by omega⟩
            · rw [if_neg h16]
              obtain ⟨b10, e24, q23⟩ := t_fX5_unitHolds t_numbers t_parts t_signs p1_runners_entered p1_runners_facts x2 v6_11 ⟨by omega, by omega⟩
              rw [e24, Option.bind_some]
              by_cases h25 : (zb b10) = 0
              · rw [if_pos h25]
                try have a26 := zq_add (x := v6_11) (y := (nI 1)) (by omega) (by omega)
                exact ih v3_11 (v4_11 ||| v3_11) v5_11 (v6_11 + (nI 1)) ⟨by omega, by omega⟩ ⟨by omega, by omega⟩
              · rw [if_neg h25]
                try have a27 := zq_add (x := v6_11) (y := (nI 1)) (by omega) (by omega)
                exact ih v3_11 v4_11 v5_11 (v6_11 + (nI 1)) ⟨by omega, by omega⟩ ⟨by omega, by omega⟩
theorem t_fX5_holdsFor (N : Nat) (t_laid : Int32) (t_numbers : Nat → Int32) (t_parts : Nat → Int32) (t_signs : Nat → Int32) (p1_runners_entered : Int32) (p1_runners_facts : Nat → Int32) (x2 : Int32) (hN : 10000 ≤ N) (h_p1_runners_entered : 0 ≤ p1_runners_entered.toInt ∧ p1_runners_entered.toInt ≤ 60) : ∃ r, fX5_holdsFor N t_laid t_numbers t_parts t_signs p1_runners_entered p1_runners_facts x2 = some r ∧ (True) := by
  unfold fX5_holdsFor
  have k0 : (0 : Int32).toInt = 0 := rfl
  have km : (-1 : Int32).toInt = -1 := rfl
  have k_0 := zq_k 0 (by decide)
  have k_1 := zq_k 1 (by decide)
  refine t_fX5_holdsFor_L11 t_laid t_numbers t_parts t_signs p1_runners_entered p1_runners_facts x2 _ ⟨by omega, by omega⟩ ?_ _ (nI 1) (nI 0) (nI 0) (nI 0) ⟨by omega, by omega⟩ ⟨by omega, by omega⟩
  intro v3_11 v4_11 v5_11 v6_11 iv6_11
  by_cases h1 : (v3_11 &&& (v5_11 ||| (v4_11 ^^^ (-1 : Int32)))) = 0
  · rw [if_pos h1]
    have q2 := zq_eq h1
    exact ⟨_, rfl, trivial⟩
  · rw [if_neg h1]
    have q3 := zq_ne h1
    exact ⟨_, rfl, trivial⟩
theorem t_fX5_ordersByGunTime (t_order : Int32)  : ∃ r, fX5_ordersByGunTime t_order = some r ∧ (True) := by
  unfold fX5_ordersByGunTime
  have k0 : (0 : Int32).toInt = 0 := rfl
  have km : (-1 : Int32).toInt = -1 := rfl
  have k_103 := zq_k 103 (by decide)
  by_cases h1 : t_order = (nI 103)
  · rw [if_pos h1]
    have q2 := zq_eq h1
    exact ⟨_, rfl, trivial⟩
  · rw [if_neg h1]
    exact ⟨_, rfl, trivial⟩
theorem t_fX6_isStruck (t_entered : Int32) (t_struck : Nat → Int32) (x1 : Int32) (h_t_entered : 0 ≤ t_entered.toInt ∧ t_entered.toInt ≤ 60) : ∃ r, fX6_isStruck t_entered t_struck x1 = some r ∧ (True) := by
  unfold fX6_isStruck
  have k0 : (0 : Int32).toInt = 0 := rfl
  have km : (-1 : Int32).toInt = -1 := rfl
  obtain ⟨b1, e2, q1⟩ := t_fX6_has t_entered x1 ⟨by omega, by omega⟩
  rw [e2, Option.bind_some]
  by_cases h3 : (zb b1) = 0
  · rw [if_pos h3]
    exact ⟨_, rfl, trivial⟩
  · rw [if_neg h3]
    have q4 := q1 h3
    have z5 : zin x1 60 := zq_in (by omega) (by omega)
    rw [if_pos z5]
    by_cases h6 : (t_struck (x1).toNatClampNeg) = 0
    · rw [if_pos h6]
      have q7 := zq_eq h6
      exact ⟨_, rfl, trivial⟩
    · rw [if_neg h6]
      have q8 := zq_ne h6
      exact ⟨_, rfl, trivial⟩
theorem t_fX6_isDropped (t_entered : Int32) (t_dropped : Nat → Int32) (x1 : Int32) (h_t_entered : 0 ≤ t_entered.toInt ∧ t_entered.toInt ≤ 60) : ∃ r, fX6_isDropped t_entered t_dropped x1 = some r ∧ (True) := by
  unfold fX6_isDropped
  have k0 : (0 : Int32).toInt = 0 := rfl
  have km : (-1 : Int32).toInt = -1 := rfl
  obtain ⟨b1, e2, q1⟩ := t_fX6_has t_entered x1 ⟨by omega, by omega⟩
  rw [e2, Option.bind_some]
  by_cases h3 : (zb b1) = 0
  · rw [if_pos h3]
    exact ⟨_, rfl, trivial⟩
  · rw [if_neg h3]
    have q4 := q1 h3
    have z5 : zin x1 60 := zq_in (by omega) (by omega)
    rw [if_pos z5]
    by_cases h6 : (t_dropped (x1).toNatClampNeg) = 0
    · rw [if_pos h6]
      have q7 := zq_eq h6
      exact ⟨_, rfl, trivial⟩
    · rw [if_neg h6]
      have q8 := zq_ne h6
      exact ⟨_, rfl, trivial⟩
theorem t_fX6_isWaved (t_entered : Int32) (t_waved : Nat → Int32) (x1 : Int32) (h_t_entered : 0 ≤ t_entered.toInt ∧ t_entered.toInt ≤ 60) : ∃ r, fX6_isWaved t_entered t_waved x1 = some r ∧ (True) := by
  unfold fX6_isWaved
  have k0 : (0 : Int32).toInt = 0 := rfl
  have km : (-1 : Int32).toInt = -1 := rfl
  obtain ⟨b1, e2, q1⟩ := t_fX6_has t_entered x1 ⟨by omega, by omega⟩
  rw [e2, Option.bind_some]
  by_cases h3 : (zb b1) = 0
  · rw [if_pos h3]
    exact ⟨_, rfl, trivial⟩
  · rw [if_neg h3]
    have q4 := q1 h3
    have z5 : zin x1 60 := zq_in (by omega) (by omega)
    rw [if_pos z5]
    by_cases h6 : (t_waved (x1).toNatClampNeg) = 0
    · rw [if_pos h6]
      have q7 := zq_eq h6
      exact ⟨_, rfl, trivial⟩
    · rw [if_neg h6]
      have q8 := zq_ne h6
      exact ⟨_, rfl, trivial⟩
theorem t_fX9_cutAt (t_mats : Int32) (t_cuts : Nat → Int32) (x1 : Int32) (h_t_mats : 0 ≤ t_mats.toInt ∧ t_mats.toInt ≤ 12) : ∃ r, fX9_cutAt t_mats t_cuts x1 = some r ∧ (True) := by
  unfold fX9_cutAt
  have k0 : (0 : Int32).toInt = 0 := rfl
  have km : (-1 : Int32).toInt = -1 := rfl
  obtain ⟨b1, e2, q1⟩ := t_fX9_has t_mats x1 ⟨by omega, by omega⟩
  rw [e2, Option.bind_some]
  by_cases h3 : (zb b1) = 0
  · rw [if_pos h3]
    exact ⟨_, rfl, trivial⟩
  · rw [if_neg h3]
    have q4 := q1 h3
    have z5 : zin x1 12 := zq_in (by omega) (by omega)
    rw [if_pos z5]
    exact ⟨_, rfl, trivial⟩
theorem t_fX4_isOut_L15 (t_runners_entered : Int32) (t_runners_splits : Nat → Int32) (t_way_mats : Int32) (t_way_cuts : Nat → Int32) (x1 : Int32) (K15_61 : Int32 → Option (Bool)) (h_t_runners_entered : 0 ≤ t_runners_entered.toInt ∧ t_runners_entered.toInt ≤ 60) (h_t_way_mats : 0 ≤ t_way_mats.toInt ∧ t_way_mats.toInt ≤ 12) (hK : ∀ (v2_15 : Int32), (0 ≤ v2_15.toInt ∧ v2_15.toInt ≤ 12) → ∃ r, K15_61 v2_15 = some r ∧ (True)) : ∀ (n : Nat) (v2_15 : Int32), (0 ≤ v2_15.toInt ∧ v2_15.toInt ≤ 12) → (1 ≤ n ∧ 13 - v2_15.toInt ≤ (n : Int)) → ∃ r, fX4_isOut_L15 t_runners_entered t_runners_splits t_way_mats t_way_cuts x1 K15_61 n v2_15 = some r ∧ (True) := by
  intro n
  induction n with
  | zero => intro v2_15 iv2_15 im; exact absurd im.1 (by decide)
  | succ n15 ih =>
    intro v2_15 iv2_15 im
    rw [fX4_isOut_L15]
    have im2 := im.2
    have k0 : (0 : Int32).toInt = 0 := rfl
    have km : (-1 : Int32).toInt = -1 := rfl
    have k_1 := zq_k 1 (by decide)
    obtain ⟨r4, e2, q1⟩ := t_fX9_size t_way_mats ⟨by omega, by omega⟩
    rw [e2, Option.bind_some]
    by_cases h3 : r4 ≤ v2_15
    · rw [if_pos h3]
      have q4 := zq_le h3
      exact hK v2_15 ⟨by omega, by omega⟩
    · rw [if_neg h3]
      have q5 := zq_nle h3
      obtain ⟨r7, e7, q6⟩ := t_fX9_cutAt t_way_mats t_way_cuts v2_15 ⟨by omega, by omega⟩
      rw [e7, Option.bind_some]
      by_cases h8 : r7 = (-1 : Int32)
      · rw [if_pos h8]
        have q9 := zq_eq h8
        try have a10 := zq_add (x := v2_15) (y := (nI 1)) (by omega) (by omega)
        exact ih (v2_15 + (nI 1)) ⟨by omega, by omega⟩ ⟨by omega, by omega⟩
      · rw [if_neg h8]
        have q11 := zq_ne h8
        obtain ⟨r10, e13, q12⟩ := t_fX6_splitAt t_runners_entered t_runners_splits x1 v2_15 ⟨by omega, by omega⟩
        rw [e13, Option.bind_some]
        by_cases h14 : r10 ≤ r7
        · rw [if_pos h14]
          have q15 := zq_le h14
          try have a16 := zq_add (x := v2_15) (y := (nI 1)) (by omega) (by omega)
          exact ih (v2_15 + (nI 1)) ⟨by omega, by omega⟩ ⟨by omega, by omega⟩
        · rw [if_neg h14]
          have q17 := zq_nle h14
          exact ⟨_, rfl, trivial⟩
theorem t_fX4_isOut (N : Nat) (t_runners_entered : Int32) (t_runners_splits : Nat → Int32) (t_runners_waved : Nat → Int32) (t_way_mats : Int32) (t_way_cuts : Nat → Int32) (x1 : Int32) (hN : 10000 ≤ N) (h_t_runners_entered : 0 ≤ t_runners_entered.toInt ∧ t_runners_entered.toInt ≤ 60) (h_t_way_mats : 0 ≤ t_way_mats.toInt ∧ t_way_mats.toInt ≤ 12) : ∃ r, fX4_isOut N t_runners_entered t_runners_splits t_runners_waved t_way_mats t_way_cuts x1 = some r ∧ (True) := by
  unfold fX4_isOut
  have k0 : (0 : Int32).toInt = 0 := rfl
  have km : (-1 : Int32).toInt = -1 := rfl
  have k_0 := zq_k 0 (by decide)
  obtain ⟨b1, e2, q1⟩ := t_fX6_isWaved t_runners_entered t_runners_waved x1 ⟨by omega, by omega⟩
  rw [e2, Option.bind_some]
  by_cases h3 : (zb b1) = 0
  · rw [if_pos h3]
    refine t_fX4_isOut_L15 t_runners_entered t_runners_splits t_way_mats t_way_cuts x1 _ ⟨by omega, by omega⟩ ⟨by omega, by omega⟩ ?_ _ (nI 0) ⟨by omega, by omega⟩ ⟨by omega, by omega⟩
    intro v2_15 iv2_15
    exact ⟨_, rfl, trivial⟩
  · rw [if_neg h3]
    exact ⟨_, rfl, trivial⟩
theorem t_fX9_lastMat (t_mats : Int32) (h_t_mats : 0 ≤ t_mats.toInt ∧ t_mats.toInt ≤ 12) : ∃ r, fX9_lastMat t_mats = some r ∧ (True) := by
  unfold fX9_lastMat
  have k0 : (0 : Int32).toInt = 0 := rfl
  have km : (-1 : Int32).toInt = -1 := rfl
  have k_1 := zq_k 1 (by decide)
  have k_2 := zq_k 2 (by decide)
  by_cases h1 : (nI 2) ≤ t_mats
  · rw [if_pos h1]
    have q2 := zq_le h1
    exact ⟨_, rfl, trivial⟩
  · rw [if_neg h1]
    have q3 := zq_nle h1
    exact ⟨_, rfl, trivial⟩
theorem t_fX4_stateOf (N : Nat) (t_guns_ticks : Nat → Int32) (t_runners_entered : Int32) (t_runners_dropped : Nat → Int32) (t_runners_facts : Nat → Int32) (t_runners_splits : Nat → Int32) (t_runners_struck : Nat → Int32) (t_runners_waved : Nat → Int32) (t_way_mats : Int32) (t_way_cuts : Nat → Int32) (x1 : Int32) (hN : 10000 ≤ N) (h_t_runners_entered : 0 ≤ t_runners_entered.toInt ∧ t_runners_entered.toInt ≤ 60) (h_t_way_mats : 0 ≤ t_way_mats.toInt ∧ t_way_mats.toInt ≤ 12) : ∃ r, fX4_stateOf N t_guns_ticks t_runners_entered t_runners_dropped t_runners_facts t_runners_splits t_runners_struck t_runners_waved t_way_mats t_way_cuts x1 = some r ∧ (True) := by
  unfold fX4_stateOf
  have k0 : (0 : Int32).toInt = 0 := rfl
  have km : (-1 : Int32).toInt = -1 := rfl
  have k_0 := zq_k 0 (by decide)
  have k_1 := zq_k 1 (by decide)
  have k_2 := zq_k 2 (by decide)
  have k_3 := zq_k 3 (by decide)
  have k_4 := zq_k 4 (by decide)
  have k_5 := zq_k 5 (by decide)
  obtain ⟨b1, e2, q1⟩ := t_fX6_isStruck t_runners_entered t_runners_struck x1 ⟨by omega, by omega⟩
  rw [e2, Option.bind_some]
  by_cases h3 : (zb b1) = 0
  · rw [if_pos h3]
    obtain ⟨b4, e5, q4⟩ := t_fX6_isDropped t_runners_entered t_runners_dropped x1 ⟨by omega, by omega⟩
    rw [e5, Option.bind_some]
    by_cases h6 : (zb b4) = 0
    · rw [if_pos h6]
      obtain ⟨b7, e8, q7⟩ := t_fX4_isOut N t_runners_entered t_runners_splits t_runners_waved t_way_mats t_way_cuts x1 hN ⟨by omega, by omega⟩ ⟨by omega, by omega⟩
      rw [e8, Option.bind_some]
      by_cases h9 : (zb b7) = 0
      · rw [if_pos h9]
        obtain ⟨r10, e11, q10⟩ := t_fX9_lastMat t_way_mats ⟨by omega, by omega⟩
        rw [e11, Option.bind_some]
        obtain ⟨r12, e13, q12⟩ := t_fX6_splitAt t_runners_entered t_runners_splits x1 r10 ⟨by omega, by omega⟩
        rw [e13, Option.bind_some]
        by_cases h14 : r12 = (-1 : Int32)
        · rw [if_pos h14]
          have q15 := zq_eq h14
          obtain ⟨r15, e17, q16⟩ := t_fX4_startOf t_guns_ticks t_runners_entered t_runners_facts t_runners_splits x1 ⟨by omega, by omega⟩
          rw [e17, Option.bind_some]
          by_cases h18 : r15 = (-1 : Int32)
          · rw [if_pos h18]
            have q19 := zq_eq h18
            exact ⟨_, rfl, trivial⟩
          · rw [if_neg h18]
            have q20 := zq_ne h18
            exact ⟨_, rfl, trivial⟩
        · rw [if_neg h14]
          have q21 := zq_ne h14
          exact ⟨_, rfl, trivial⟩
      · rw [if_neg h9]
        exact ⟨_, rfl, trivial⟩
    · rw [if_neg h6]
      exact ⟨_, rfl, trivial⟩
  · rw [if_neg h3]
    exact ⟨_, rfl, trivial⟩
theorem t_fX4_timeSince (N : Nat) (t_guns_ticks : Nat → Int32) (t_runners_entered : Int32) (t_runners_dropped : Nat → Int32) (t_runners_facts : Nat → Int32) (t_runners_splits : Nat → Int32) (t_runners_struck : Nat → Int32) (t_runners_waved : Nat → Int32) (t_way_mats : Int32) (t_way_cuts : Nat → Int32) (x1 : Int32) (x2 : Int32) (hN : 10000 ≤ N) (h_t_runners_entered : 0 ≤ t_runners_entered.toInt ∧ t_runners_entered.toInt ≤ 60) (h_t_way_mats : 0 ≤ t_way_mats.toInt ∧ t_way_mats.toInt ≤ 12) : ∃ r, fX4_timeSince N t_guns_ticks t_runners_entered t_runners_dropped t_runners_facts t_runners_splits t_runners_struck t_runners_waved t_way_mats t_way_cuts x1 x2 = some r ∧ (True) := by
  unfold fX4_timeSince
  have k0 : (0 : Int32).toInt = 0 := rfl
  have km : (-1 : Int32).toInt = -1 := rfl
  have k_2 := zq_k 2 (by decide)
  by_cases h1 : x2 = (-1 : Int32)
  · rw [if_pos h1]
    have q2 := zq_eq h1
    exact ⟨_, rfl, trivial⟩
  · rw [if_neg h1]
    have q3 := zq_ne h1
    obtain ⟨r2, e5, q4⟩ := t_fX4_stateOf N t_guns_ticks t_runners_entered t_runners_dropped t_runners_facts t_runners_splits t_runners_struck t_runners_waved t_way_mats t_way_cuts x1 hN ⟨by omega, by omega⟩ ⟨by omega, by omega⟩
    rw [e5, Option.bind_some]
    by_cases h6 : r2 = (nI 2)
    · rw [if_pos h6]
      have q7 := zq_eq h6
      obtain ⟨r5, e9, q8⟩ := t_fX9_lastMat t_way_mats ⟨by omega, by omega⟩
      rw [e9, Option.bind_some]
      obtain ⟨r7, e11, q10⟩ := t_fX6_splitAt t_runners_entered t_runners_splits x1 r5 ⟨by omega, by omega⟩
      rw [e11, Option.bind_some]
      by_cases h12 : 0 ≤ (r7 - x2)
      · rw [if_pos h12]
        have q13 := zq_le h12
        exact ⟨_, rfl, trivial⟩
      · rw [if_neg h12]
        have q14 := zq_nle h12
        exact ⟨_, rfl, trivial⟩
    · rw [if_neg h6]
      exact ⟨_, rfl, trivial⟩
theorem t_fX3_gather_L24 (N : Nat) (p2_guns_ticks : Nat → Int32) (p2_runners_entered : Int32) (p2_runners_dropped : Nat → Int32) (p2_runners_facts : Nat → Int32) (p2_runners_splits : Nat → Int32) (p2_runners_struck : Nat → Int32) (p2_runners_waved : Nat → Int32) (p2_way_mats : Int32) (p2_way_cuts : Nat → Int32) (t_reading_laid_r3 : Int32) (t_reading_order_r5 : Int32) (t_reading_numbers_r8 : Nat → Int32) (t_reading_parts_r9 : Nat → Int32) (t_reading_signs_r10 : Nat → Int32) (K24_101 : Int32 → (Nat → Int32) → Option (Bool × Int32 × Int32 × Int32 × Int32 × Int32 × Int32 × (Nat → Int32) × (Nat → Int32) × (Nat → Int32) × (Nat → Int32))) (hN : 10000 ≤ N) (h_p2_runners_entered : 0 ≤ p2_runners_entered.toInt ∧ p2_runners_entered.toInt ≤ 60) (h_p2_way_mats : 0 ≤ p2_way_mats.toInt ∧ p2_way_mats.toInt ≤ 12) (hK : ∀ (v3_24 : Int32) (t_times_l24 : Nat → Int32), (0 ≤ v3_24.toInt ∧ v3_24.toInt ≤ 60) → ∃ r, K24_101 v3_24 t_times_l24 = some r ∧ (True)) : ∀ (n : Nat) (v3_24 : Int32) (t_times_l24 : Nat → Int32), (0 ≤ v3_24.toInt ∧ v3_24.toInt ≤ 60) → (1 ≤ n ∧ 61 - v3_24.toInt ≤ (n : Int)) → ∃ r, fX3_gather_L24 N p2_guns_ticks p2_runners_entered p2_runners_dropped p2_runners_facts p2_runners_splits p2_runners_struck p2_runners_waved p2_way_mats p2_way_cuts t_reading_laid_r3 t_reading_order_r5 t_reading_numbers_r8 t_reading_parts_r9 t_reading_signs_r10 K24_101 n v3_24 t_times_l24 = some r ∧ (True) := by
  intro n
  induction n with
  | zero => intro v3_24 t_times_l24 iv3_24 im; exact absurd im.1 (by decide)
  | succ n24 ih =>
    intro v3_24 t_times_l24 iv3_24 im
    rw [fX3_gather_L24]
    have im2 := im.2
    have k0 : (0 : Int32).toInt = 0 := rfl
    have km : (-1 : Int32).toInt = -1 := rfl
    have k_1 := zq_k 1 (by decide)
    have k_60 := zq_k 60 (by decide)
    obtain ⟨r15, e2, q1⟩ := t_fX6_size p2_runners_entered ⟨by omega, by omega⟩
    rw [e2, Option.bind_some]
    by_cases h3 : r15 ≤ v3_24
    · rw [if_pos h3]
      have q4 := zq_le h3
      exact hK v3_24 t_times_l24 ⟨by omega, by omega⟩
    · rw [if_neg h3]
      have q5 := zq_nle h3
      by_cases h6 : (nI 60) ≤ v3_24
      · rw [if_pos h6]
        have q7 := zq_le h6
        exact hK v3_24 t_times_l24 ⟨by omega, by omega⟩
      · rw [if_neg h6]
        have q8 := zq_nle h6
        obtain ⟨b19, e10, q9⟩ := t_fX5_holdsFor N t_reading_laid_r3 t_reading_numbers_r8 t_reading_parts_r9 t_reading_signs_r10 p2_runners_entered p2_runners_facts v3_24 hN ⟨by omega, by omega⟩
        rw [e10, Option.bind_some]
        by_cases h11 : (zb b19) = 0
        · rw [if_pos h11]
          try have a12 := zq_add (x := v3_24) (y := (nI 1)) (by omega) (by omega)
          exact ih (v3_24 + (nI 1)) t_times_l24 ⟨by omega, by omega⟩ ⟨by omega, by omega⟩
        · rw [if_neg h11]
          obtain ⟨b22, e14, q13⟩ := t_fX5_ordersByGunTime t_reading_order_r5 
          rw [e14, Option.bind_some]
          by_cases h15 : (zb b22) = 0
          · rw [if_pos h15]
            obtain ⟨r25, e17, q16⟩ := t_fX4_startOf p2_guns_ticks p2_runners_entered p2_runners_facts p2_runners_splits v3_24 ⟨by omega, by omega⟩
            rw [e17, Option.bind_some]
            obtain ⟨r27, e19, q18⟩ := t_fX4_timeSince N p2_guns_ticks p2_runners_entered p2_runners_dropped p2_runners_facts p2_runners_splits p2_runners_struck p2_runners_waved p2_way_mats p2_way_cuts v3_24 r25 hN ⟨by omega, by omega⟩ ⟨by omega, by omega⟩
            rw [e19, Option.bind_some]
            have z20 : zin v3_24 60 := zq_in (by omega) (by omega)
            rw [if_pos z20]
            try have a21 := zq_add (x := v3_24) (y := (nI 1)) (by omega) (by omega)
            exact ih (v3_24 + (nI 1)) (upd t_times_l24 (v3_24).toNatClampNeg r27) ⟨by omega, by omega⟩ ⟨by omega, by omega⟩
          · rw [if_neg h15]
            obtain ⟨r30, e23, q22⟩ := t_fX4_gunOf p2_guns_ticks p2_runners_entered p2_runners_facts v3_24 ⟨by omega, by omega⟩
            rw [e23, Option.bind_some]
            obtain ⟨r32, e25, q24⟩ := t_fX4_timeSince N p2_guns_ticks p2_runners_entered p2_runners_dropped p2_runners_facts p2_runners_splits p2_runners_struck p2_runners_waved p2_way_mats p2_way_cuts v3_24 r30 hN ⟨by omega, by omega⟩ ⟨by omega, by omega⟩
            rw [e25, Option.bind_some]
            have z26 : zin v3_24 60 := zq_in (by omega) (by omega)
            rw [if_pos z26]
            try have a27 := zq_add (x := v3_24) (y := (nI 1)) (by omega) (by omega)
            exact ih (v3_24 + (nI 1)) (upd t_times_l24 (v3_24).toNatClampNeg r32) ⟨by omega, by omega⟩ ⟨by omega, by omega⟩
theorem t_fX3_gather (N : Nat) (t_reading_digits : Int32) (t_reading_laid : Int32) (t_reading_open : Int32) (t_reading_order : Int32) (t_reading_prizes : Int32) (t_reading_stage : Int32) (t_reading_numbers : Nat → Int32) (t_reading_parts : Nat → Int32) (t_reading_signs : Nat → Int32) (t_times : Nat → Int32) (p1_length : Int32) (p1_bytes : Nat → Int32) (p2_guns_ticks : Nat → Int32) (p2_runners_entered : Int32) (p2_runners_dropped : Nat → Int32) (p2_runners_facts : Nat → Int32) (p2_runners_splits : Nat → Int32) (p2_runners_struck : Nat → Int32) (p2_runners_waved : Nat → Int32) (p2_way_mats : Int32) (p2_way_cuts : Nat → Int32) (hN : 10000 ≤ N) (h_p1_length : 0 ≤ p1_length.toInt ∧ p1_length.toInt ≤ 200) (h_p2_runners_entered : 0 ≤ p2_runners_entered.toInt ∧ p2_runners_entered.toInt ≤ 60) (h_p2_way_mats : 0 ≤ p2_way_mats.toInt ∧ p2_way_mats.toInt ≤ 12) : ∃ r, fX3_gather N t_reading_digits t_reading_laid t_reading_open t_reading_order t_reading_prizes t_reading_stage t_reading_numbers t_reading_parts t_reading_signs t_times p1_length p1_bytes p2_guns_ticks p2_runners_entered p2_runners_dropped p2_runners_facts p2_runners_splits p2_runners_struck p2_runners_waved p2_way_mats p2_way_cuts = some r ∧ (True) := by
  unfold fX3_gather
  have k0 : (0 : Int32).toInt = 0 := rfl
  have km : (-1 : Int32).toInt = -1 := rfl
  have k_0 := zq_k 0 (by decide)
  obtain ⟨⟨r1, t_reading_digits_r2, t_reading_laid_r3, t_reading_open_r4, t_reading_order_r5, t_reading_prizes_r6, t_reading_stage_r7, t_reading_numbers_r8, t_reading_parts_r9, t_reading_signs_r10⟩, e2, q1⟩ := t_fX5_read N t_reading_digits t_reading_laid t_reading_open t_reading_order t_reading_prizes t_reading_stage t_reading_numbers t_reading_parts t_reading_signs p1_length p1_bytes hN ⟨by omega, by omega⟩
  rw [e2, Option.bind_some]
  dsimp only
  by_cases h3 : r1 = (-1 : Int32)
  · rw [if_pos h3]
    have q4 := zq_eq h3
    obtain ⟨t_times_r13, e6, q5⟩ := t_fJ7_fill_53178 60 N t_times (-1 : Int32) hN (by first | assumption | omega | exact Or.inl rfl | exact Or.inr ⟨by omega, by omega⟩)
    rw [e6, Option.bind_some]
    refine t_fX3_gather_L24 N p2_guns_ticks p2_runners_entered p2_runners_dropped p2_runners_facts p2_runners_splits p2_runners_struck p2_runners_waved p2_way_mats p2_way_cuts t_reading_laid_r3 t_reading_order_r5 t_reading_numbers_r8 t_reading_parts_r9 t_reading_signs_r10 _ hN ⟨by omega, by omega⟩ ⟨by omega, by omega⟩ ?_ _ (nI 0) t_times_r13 ⟨by omega, by omega⟩ ⟨by omega, by omega⟩
    intro v3_24 t_times_l24 iv3_24
    exact ⟨_, rfl, trivial⟩
  · rw [if_neg h3]
    have q7 := zq_ne h3
    exact ⟨_, rfl, trivial⟩
theorem t_fX3_timeIn (t_times : Nat → Int32) (x1 : Int32)  : ∃ r, fX3_timeIn t_times x1 = some r ∧ (True) := by
  unfold fX3_timeIn
  have k0 : (0 : Int32).toInt = 0 := rfl
  have km : (-1 : Int32).toInt = -1 := rfl
  have k_0 := zq_k 0 (by decide)
  have k_59 := zq_k 59 (by decide)
  obtain ⟨b1, e2, q1⟩ := t_fX10_within x1 (nI 0) (nI 59) 
  rw [e2, Option.bind_some]
  by_cases h3 : (zb b1) = 0
  · rw [if_pos h3]
    exact ⟨_, rfl, trivial⟩
  · rw [if_neg h3]
    have q4 := q1 h3
    have z5 : zin x1 60 := zq_in (by omega) (by omega)
    rw [if_pos z5]
    exact ⟨_, rfl, trivial⟩
theorem t_fX3_size_L4 (t_times : Nat → Int32) (K4_29 : Int32 → Int32 → Option (Int32))  (hK : ∀ (v1_4 : Int32) (v2_4 : Int32), (0 ≤ v2_4.toInt ∧ v2_4.toInt ≤ 60) → ∃ r, K4_29 v1_4 v2_4 = some r ∧ (True)) : ∀ (n : Nat) (v1_4 : Int32) (v2_4 : Int32), (0 ≤ v2_4.toInt ∧ v2_4.toInt ≤ 60) → (1 ≤ n ∧ 61 - v2_4.toInt ≤ (n : Int)) → ∃ r, fX3_size_L4 t_times K4_29 n v1_4 v2_4 = some r ∧ (True) := by
  intro n
  induction n with
  | zero => intro v1_4 v2_4 iv2_4 im; exact absurd im.1 (by decide)
  | succ n4 ih =>
    intro v1_4 v2_4 iv2_4 im
    rw [fX3_size_L4]
    have im2 := im.2
    have k0 : (0 : Int32).toInt = 0 := rfl
    have km : (-1 : Int32).toInt = -1 := rfl
    have k_1 := zq_k 1 (by decide)
    have k_60 := zq_k 60 (by decide)
    by_cases h1 : (nI 60) ≤ v2_4
    · rw [if_pos h1]
      have q2 := zq_le h1
      exact hK v1_4 v2_4 ⟨by omega, by omega⟩
    · rw [if_neg h1]
      have q3 := zq_nle h1
      have z4 : zin v2_4 60 := zq_in (by omega) (by omega)
      rw [if_pos z4]
      by_cases h5 : (t_times (v2_4).toNatClampNeg) = (-1 : Int32)
      · rw [if_pos h5]
        have q6 := zq_eq h5
        try have a7 := zq_add (x := v2_4) (y := (nI 1)) (by omega) (by omega)
        exact ih v1_4 (v2_4 + (nI 1)) ⟨by omega, by omega⟩ ⟨by omega, by omega⟩
      · rw [if_neg h5]
        have q8 := zq_ne h5
        try have a9 := zq_add (x := v2_4) (y := (nI 1)) (by omega) (by omega)
        exact ih (v1_4 + (nI 1)) (v2_4 + (nI 1)) ⟨by omega, by omega⟩ ⟨by omega, by omega⟩
theorem t_fX3_size (N : Nat) (t_times : Nat → Int32) (hN : 10000 ≤ N) : ∃ r, fX3_size N t_times = some r ∧ (True) := by
  unfold fX3_size
  have k0 : (0 : Int32).toInt = 0 := rfl
  have km : (-1 : Int32).toInt = -1 := rfl
  have k_0 := zq_k 0 (by decide)
  refine t_fX3_size_L4 t_times _  ?_ _ (nI 0) (nI 0) ⟨by omega, by omega⟩ ⟨by omega, by omega⟩
  intro v1_4 v2_4 iv2_4
  exact ⟨_, rfl, trivial⟩
theorem t_fX3_howManyBelow_L4 (t_times : Nat → Int32) (x1 : Int32) (K4_39 : Int32 → Int32 → Option (Int32))  (hK : ∀ (v2_4 : Int32) (v3_4 : Int32), (0 ≤ v3_4.toInt ∧ v3_4.toInt ≤ 60) → ∃ r, K4_39 v2_4 v3_4 = some r ∧ (True)) : ∀ (n : Nat) (v2_4 : Int32) (v3_4 : Int32), (0 ≤ v3_4.toInt ∧ v3_4.toInt ≤ 60) → (1 ≤ n ∧ 61 - v3_4.toInt ≤ (n : Int)) → ∃ r, fX3_howManyBelow_L4 t_times x1 K4_39 n v2_4 v3_4 = some r ∧ (True) := by
  intro n
  induction n with
  | zero => intro v2_4 v3_4 iv3_4 im; exact absurd im.1 (by decide)
  | succ n4 ih =>
    intro v2_4 v3_4 iv3_4 im
    rw [fX3_howManyBelow_L4]
    have im2 := im.2
    have k0 : (0 : Int32).toInt = 0 := rfl
    have km : (-1 : Int32).toInt = -1 := rfl
    have k_1 := zq_k 1 (by decide)
    have k_60 := zq_k 60 (by decide)
    by_cases h1 : (nI 60) ≤ v3_4
    · rw [if_pos h1]
      have q2 := zq_le h1
      exact hK v2_4 v3_4 ⟨by omega, by omega⟩
    · rw [if_neg h1]
      have q3 := zq_nle h1
      have z4 : zin v3_4 60 := zq_in (by omega) (by omega)
      rw [if_pos z4]
      by_cases h5 : (t_times (v3_4).toNatClampNeg) = (-1 : Int32)
      · rw [if_pos h5]
        have q6 := zq_eq h5
        try have a7 := zq_add (x := v3_4) (y := (nI 1)) (by omega) (by omega)
        exact ih v2_4 (v3_4 + (nI 1)) ⟨by omega, by omega⟩ ⟨by omega, by omega⟩
      · rw [if_neg h5]
        have q8 := zq_ne h5
        have z9 : zin v3_4 60 := zq_in (by omega) (by omega)
        rw [if_pos z9]
        by_cases h10 : x1 ≤ (t_times (v3_4).toNatClampNeg)
        · rw [if_pos h10]
          have q11 := zq_le h10
          try have a12 := zq_add (x := v3_4) (y := (nI 1)) (by omega) (by omega)
          exact ih v2_4 (v3_4 + (nI 1)) ⟨by omega, by omega⟩ ⟨by omega, by omega⟩
        · rw [if_neg h10]
          have q13 := zq_nle h10
          try have a14 := zq_add (x := v3_4) (y := (nI 1)) (by omega) (by omega)
          exact ih (v2_4 + (nI 1)) (v3_4 + (nI 1)) ⟨by omega, by omega⟩ ⟨by omega, by omega⟩
theorem t_fX3_howManyBelow (N : Nat) (t_times : Nat → Int32) (x1 : Int32) (hN : 10000 ≤ N) : ∃ r, fX3_howManyBelow N t_times x1 = some r ∧ (True) := by
  unfold fX3_howManyBelow
  have k0 : (0 : Int32).toInt = 0 := rfl
  have km : (-1 : Int32).toInt = -1 := rfl
  have k_0 := zq_k 0 (by decide)
  refine t_fX3_howManyBelow_L4 t_times x1 _  ?_ _ (nI 0) (nI 0) ⟨by omega, by omega⟩ ⟨by omega, by omega⟩
  intro v2_4 v3_4 iv3_4
  exact ⟨_, rfl, trivial⟩
theorem t_fX3_placeOf (N : Nat) (t_times : Nat → Int32) (x1 : Int32) (hN : 10000 ≤ N) : ∃ r, fX3_placeOf N t_times x1 = some r ∧ (True) := by
  unfold fX3_placeOf
  have k0 : (0 : Int32).toInt = 0 := rfl
  have km : (-1 : Int32).toInt = -1 := rfl
  have k_1 := zq_k 1 (by decide)
  obtain ⟨r1, e2, q1⟩ := t_fX3_timeIn t_times x1 
  rw [e2, Option.bind_some]
  by_cases h3 : r1 = (-1 : Int32)
  · rw [if_pos h3]
    have q4 := zq_eq h3
    exact ⟨_, rfl, trivial⟩
  · rw [if_neg h3]
    have q5 := zq_ne h3
    obtain ⟨r4, e7, q6⟩ := t_fX3_howManyBelow N t_times r1 hN
    rw [e7, Option.bind_some]
    exact ⟨_, rfl, trivial⟩
theorem t_fX3_indexOf_L15 (t_times : Nat → Int32) (x1 : Int32) (r1 : Int32) (K15_40 : Int32 → Int32 → Option (Int32)) (h_x1 : 0 ≤ x1.toInt ∧ x1.toInt ≤ 60) (hK : ∀ (v3_15 : Int32) (v4_15 : Int32), (0 ≤ v4_15.toInt ∧ v4_15.toInt ≤ 60) → ∃ r, K15_40 v3_15 v4_15 = some r ∧ (True)) : ∀ (n : Nat) (v3_15 : Int32) (v4_15 : Int32), (0 ≤ v4_15.toInt ∧ v4_15.toInt ≤ 60) → (1 ≤ n ∧ 61 - v4_15.toInt ≤ (n : Int)) → ∃ r, fX3_indexOf_L15 t_times x1 r1 K15_40 n v3_15 v4_15 = some r ∧ (True) := by
  intro n
  induction n with
  | zero => intro v3_15 v4_15 iv4_15 im; exact absurd im.1 (by decide)
  | succ n15 ih =>
    intro v3_15 v4_15 iv4_15 im
    rw [fX3_indexOf_L15]
    have im2 := im.2
    have k0 : (0 : Int32).toInt = 0 := rfl
    have km : (-1 : Int32).toInt = -1 := rfl
    have k_1 := zq_k 1 (by decide)
    by_cases h1 : x1 ≤ v4_15
    · rw [if_pos h1]
      have q2 := zq_le h1
      exact hK v3_15 v4_15 ⟨by omega, by omega⟩
    · rw [if_neg h1]
      have q3 := zq_nle h1
      obtain ⟨r6, e5, q4⟩ := t_fX3_timeIn t_times v4_15 
      rw [e5, Option.bind_some]
      by_cases h6 : r6 = r1
      · rw [if_pos h6]
        have q7 := zq_eq h6
        try have a8 := zq_add (x := v4_15) (y := (nI 1)) (by omega) (by omega)
        exact ih (v3_15 + (nI 1)) (v4_15 + (nI 1)) ⟨by omega, by omega⟩ ⟨by omega, by omega⟩
      · rw [if_neg h6]
        have q9 := zq_ne h6
        try have a10 := zq_add (x := v4_15) (y := (nI 1)) (by omega) (by omega)
        exact ih v3_15 (v4_15 + (nI 1)) ⟨by omega, by omega⟩ ⟨by omega, by omega⟩
theorem t_fX3_indexOf (N : Nat) (t_times : Nat → Int32) (x1 : Int32) (hN : 10000 ≤ N) (h_x1 : 0 ≤ x1.toInt ∧ x1.toInt ≤ 60) : ∃ r, fX3_indexOf N t_times x1 = some r ∧ (True) := by
  unfold fX3_indexOf
  have k0 : (0 : Int32).toInt = 0 := rfl
  have km : (-1 : Int32).toInt = -1 := rfl
  have k_0 := zq_k 0 (by decide)
  obtain ⟨r1, e2, q1⟩ := t_fX3_timeIn t_times x1 
  rw [e2, Option.bind_some]
  obtain ⟨r3, e4, q3⟩ := t_fX3_howManyBelow N t_times r1 hN
  rw [e4, Option.bind_some]
  refine t_fX3_indexOf_L15 t_times x1 r1 _ ⟨by omega, by omega⟩ ?_ _ r3 (nI 0) ⟨by omega, by omega⟩ ⟨by omega, by omega⟩
  intro v3_15 v4_15 iv4_15
  exact ⟨_, rfl, trivial⟩
theorem t_fX3_runnerAt_L2 (N : Nat) (t_times : Nat → Int32) (x1 : Int32) (K2_35 : Int32 → Option (Int32)) (hN : 10000 ≤ N) (hK : ∀ (v2_2 : Int32), (0 ≤ v2_2.toInt ∧ v2_2.toInt ≤ 60) → ∃ r, K2_35 v2_2 = some r ∧ (True)) : ∀ (n : Nat) (v2_2 : Int32), (0 ≤ v2_2.toInt ∧ v2_2.toInt ≤ 60) → (1 ≤ n ∧ 61 - v2_2.toInt ≤ (n : Int)) → ∃ r, fX3_runnerAt_L2 N t_times x1 K2_35 n v2_2 = some r ∧ (True) := by
  intro n
  induction n with
  | zero => intro v2_2 iv2_2 im; exact absurd im.1 (by decide)
  | succ n2 ih =>
    intro v2_2 iv2_2 im
    rw [fX3_runnerAt_L2]
    have im2 := im.2
    have k0 : (0 : Int32).toInt = 0 := rfl
    have km : (-1 : Int32).toInt = -1 := rfl
    have k_1 := zq_k 1 (by decide)
    have k_60 := zq_k 60 (by decide)
    by_cases h1 : (nI 60) ≤ v2_2
    · rw [if_pos h1]
      have q2 := zq_le h1
      exact hK v2_2 ⟨by omega, by omega⟩
    · rw [if_neg h1]
      have q3 := zq_nle h1
      have z4 : zin v2_2 60 := zq_in (by omega) (by omega)
      rw [if_pos z4]
      by_cases h5 : (t_times (v2_2).toNatClampNeg) = (-1 : Int32)
      · rw [if_pos h5]
        have q6 := zq_eq h5
        try have a7 := zq_add (x := v2_2) (y := (nI 1)) (by omega) (by omega)
        exact ih (v2_2 + (nI 1)) ⟨by omega, by omega⟩ ⟨by omega, by omega⟩
      · rw [if_neg h5]
        have q8 := zq_ne h5
        obtain ⟨r4, e10, q9⟩ := t_fX3_indexOf N t_times v2_2 hN ⟨by omega, by omega⟩
        rw [e10, Option.bind_some]
        by_cases h11 : r4 = x1
        · rw [if_pos h11]
          have q12 := zq_eq h11
          exact ⟨_, rfl, trivial⟩
        · rw [if_neg h11]
          have q13 := zq_ne h11
          try have a14 := zq_add (x := v2_2) (y := (nI 1)) (by omega) (by omega)
          exact ih (v2_2 + (nI 1)) ⟨by omega, by omega⟩ ⟨by omega, by omega⟩
theorem t_fX3_runnerAt (N : Nat) (t_times : Nat → Int32) (x1 : Int32) (hN : 10000 ≤ N) : ∃ r, fX3_runnerAt N t_times x1 = some r ∧ (True) := by
  unfold fX3_runnerAt
  have k0 : (0 : Int32).toInt = 0 := rfl
  have km : (-1 : Int32).toInt = -1 := rfl
  have k_0 := zq_k 0 (by decide)
  refine t_fX3_runnerAt_L2 N t_times x1 _ hN ?_ _ (nI 0) ⟨by omega, by omega⟩ ⟨by omega, by omega⟩
  intro v2_2 iv2_2
  exact ⟨_, rfl, trivial⟩
theorem t_fX5_prizeNumber (t_prizes : Int32)  : ∃ r, fX5_prizeNumber t_prizes = some r ∧ (True) := by
  unfold fX5_prizeNumber
  have k0 : (0 : Int32).toInt = 0 := rfl
  have km : (-1 : Int32).toInt = -1 := rfl
  exact ⟨_, rfl, trivial⟩
theorem t_fX3_prizeWinners_L4 (N : Nat) (t_reading_prizes : Int32) (t_times : Nat → Int32) (K4_44 : Int32 → Int32 → Option (Int32)) (hN : 10000 ≤ N) (hK : ∀ (v1_4 : Int32) (v2_4 : Int32), (0 ≤ v2_4.toInt ∧ v2_4.toInt ≤ 60) → ∃ r, K4_44 v1_4 v2_4 = some r ∧ (True)) : ∀ (n : Nat) (v1_4 : Int32) (v2_4 : Int32), (0 ≤ v2_4.toInt ∧ v2_4.toInt ≤ 60) → (1 ≤ n ∧ 61 - v2_4.toInt ≤ (n : Int)) → ∃ r, fX3_prizeWinners_L4 N t_reading_prizes t_times K4_44 n v1_4 v2_4 = some r ∧ (True) := by
  intro n
  induction n with
  | zero => intro v1_4 v2_4 iv2_4 im; exact absurd im.1 (by decide)
  | succ n4 ih =>
    intro v1_4 v2_4 iv2_4 im
    rw [fX3_prizeWinners_L4]
    have im2 := im.2
    have k0 : (0 : Int32).toInt = 0 := rfl
    have km : (-1 : Int32).toInt = -1 := rfl
    have k_1 := zq_k 1 (by decide)
    have k_60 := zq_k 60 (by decide)
    by_cases h1 : (nI 60) ≤ v2_4
    · rw [if_pos h1]
      have q2 := zq_le h1
      exact hK v1_4 v2_4 ⟨by omega, by omega⟩
    · rw [if_neg h1]
      have q3 := zq_nle h1
      have z4 : zin v2_4 60 := zq_in (by omega) (by omega)
      rw [if_pos z4]
      by_cases h5 : (t_times (v2_4).toNatClampNeg) = (-1 : Int32)
      · rw [if_pos h5]
        have q6 := zq_eq h5
        try have a7 := zq_add (x := v2_4) (y := (nI 1)) (by omega) (by omega)
        exact ih v1_4 (v2_4 + (nI 1)) ⟨by omega, by omega⟩ ⟨by omega, by omega⟩
      · rw [if_neg h5]
        have q8 := zq_ne h5
        obtain ⟨r4, e10, q9⟩ := t_fX3_placeOf N t_times v2_4 hN
        rw [e10, Option.bind_some]
        obtain ⟨r6, e12, q11⟩ := t_fX5_prizeNumber t_reading_prizes 
        rw [e12, Option.bind_some]
        by_cases h13 : r6 < r4
        · rw [if_pos h13]
          have q14 := zq_lt h13
          try have a15 := zq_add (x := v2_4) (y := (nI 1)) (by omega) (by omega)
          exact ih v1_4 (v2_4 + (nI 1)) ⟨by omega, by omega⟩ ⟨by omega, by omega⟩
        · rw [if_neg h13]
          have q16 := zq_nlt h13
          try have a17 := zq_add (x := v2_4) (y := (nI 1)) (by omega) (by omega)
          exact ih (v1_4 + (nI 1)) (v2_4 + (nI 1)) ⟨by omega, by omega⟩ ⟨by omega, by omega⟩
theorem t_fX3_prizeWinners (N : Nat) (t_reading_prizes : Int32) (t_times : Nat → Int32) (hN : 10000 ≤ N) : ∃ r, fX3_prizeWinners N t_reading_prizes t_times = some r ∧ (True) := by
  unfold fX3_prizeWinners
  have k0 : (0 : Int32).toInt = 0 := rfl
  have km : (-1 : Int32).toInt = -1 := rfl
  have k_0 := zq_k 0 (by decide)
  refine t_fX3_prizeWinners_L4 N t_reading_prizes t_times _ hN ?_ _ (nI 0) (nI 0) ⟨by omega, by omega⟩ ⟨by omega, by omega⟩
  intro v1_4 v2_4 iv2_4
  exact ⟨_, rfl, trivial⟩
theorem t_fX3_leaveOnlyTeam_L2 (p1_runners_entered : Int32) (p1_runners_facts : Nat → Int32) (x2 : Int32) (K2_34 : Int32 → (Nat → Int32) → Option ((Nat → Int32))) (h_p1_runners_entered : 0 ≤ p1_runners_entered.toInt ∧ p1_runners_entered.toInt ≤ 60) (hK : ∀ (v3_2 : Int32) (t_times_l2 : Nat → Int32), (0 ≤ v3_2.toInt ∧ v3_2.toInt ≤ 60) → ∃ r, K2_34 v3_2 t_times_l2 = some r ∧ (True)) : ∀ (n : Nat) (v3_2 : Int32) (t_times_l2 : Nat → Int32), (0 ≤ v3_2.toInt ∧ v3_2.toInt ≤ 60) → (1 ≤ n ∧ 61 - v3_2.toInt ≤ (n : Int)) → ∃ r, fX3_leaveOnlyTeam_L2 p1_runners_entered p1_runners_facts x2 K2_34 n v3_2 t_times_l2 = some r ∧ (True) := by
  intro n
  induction n with
  | zero => intro v3_2 t_times_l2 iv3_2 im; exact absurd im.1 (by decide)
  | succ n2 ih =>
    intro v3_2 t_times_l2 iv3_2 im
    rw [fX3_leaveOnlyTeam_L2]
    have im2 := im.2
    have k0 : (0 : Int32).toInt = 0 := rfl
    have km : (-1 : Int32).toInt = -1 := rfl
    have k_1 := zq_k 1 (by decide)
    have k_4 := zq_k 4 (by decide)
    have k_60 := zq_k 60 (by decide)
    by_cases h1 : (nI 60) ≤ v3_2
    · rw [if_pos h1]
      have q2 := zq_le h1
      exact hK v3_2 t_times_l2 ⟨by omega, by omega⟩
    · rw [if_neg h1]
      have q3 := zq_nle h1
      obtain ⟨r2, e5, q4⟩ := t_fX6_factOf p1_runners_entered p1_runners_facts v3_2 (nI 4) ⟨by omega, by omega⟩
      rw [e5, Option.bind_some]
      by_cases h6 : r2 = x2
      · rw [if_pos h6]
        have q7 := zq_eq h6
        try have a8 := zq_add (x := v3_2) (y := (nI 1)) (by omega) (by omega)
        exact ih (v3_2 + (nI 1)) t_times_l2 ⟨by omega, by omega⟩ ⟨by omega, by omega⟩
      · rw [if_neg h6]
        have q9 := zq_ne h6
        have z10 : zin v3_2 60 := zq_in (by omega) (by omega)
        rw [if_pos z10]
        try have a11 := zq_add (x := v3_2) (y := (nI 1)) (by omega) (by omega)
        exact ih (v3_2 + (nI 1)) (upd t_times_l2 (v3_2).toNatClampNeg (-1 : Int32)) ⟨by omega, by omega⟩ ⟨by omega, by omega⟩
theorem t_fX3_leaveOnlyTeam (N : Nat) (t_times : Nat → Int32) (p1_runners_entered : Int32) (p1_runners_facts : Nat → Int32) (x2 : Int32) (hN : 10000 ≤ N) (h_p1_runners_entered : 0 ≤ p1_runners_entered.toInt ∧ p1_runners_entered.toInt ≤ 60) : ∃ r, fX3_leaveOnlyTeam N t_times p1_runners_entered p1_runners_facts x2 = some r ∧ (True) := by
  unfold fX3_leaveOnlyTeam
  have k0 : (0 : Int32).toInt = 0 := rfl
  have km : (-1 : Int32).toInt = -1 := rfl
  have k_0 := zq_k 0 (by decide)
  refine t_fX3_leaveOnlyTeam_L2 p1_runners_entered p1_runners_facts x2 _ ⟨by omega, by omega⟩ ?_ _ (nI 0) t_times ⟨by omega, by omega⟩ ⟨by omega, by omega⟩
  intro v3_2 t_times_l2 iv3_2
  exact ⟨_, rfl, trivial⟩
theorem t_fX3_bestOfTeam_L22 (N : Nat) (x3 : Int32) (t_times_r1 : Nat → Int32) (K22_68 : Int32 → Int32 → Option (Int32 × (Nat → Int32))) (hN : 10000 ≤ N) (hK : ∀ (v4_22 : Int32) (v5_22 : Int32), (0 ≤ v5_22.toInt ∧ v5_22.toInt ≤ 60) → ∃ r, K22_68 v4_22 v5_22 = some r ∧ (True)) : ∀ (n : Nat) (v4_22 : Int32) (v5_22 : Int32), (0 ≤ v5_22.toInt ∧ v5_22.toInt ≤ 60) → (1 ≤ n ∧ 61 - v5_22.toInt ≤ (n : Int)) → ∃ r, fX3_bestOfTeam_L22 N x3 t_times_r1 K22_68 n v4_22 v5_22 = some r ∧ (True) := by
  intro n
  induction n with
  | zero => intro v4_22 v5_22 iv5_22 im; exact absurd im.1 (by decide)
  | succ n22 ih =>
    intro v4_22 v5_22 iv5_22 im
    rw [fX3_bestOfTeam_L22]
    have im2 := im.2
    have k0 : (0 : Int32).toInt = 0 := rfl
    have km : (-1 : Int32).toInt = -1 := rfl
    have k_1 := zq_k 1 (by decide)
    have k_60 := zq_k 60 (by decide)
    by_cases h1 : (nI 60) ≤ v5_22
    · rw [if_pos h1]
      have q2 := zq_le h1
      exact hK v4_22 v5_22 ⟨by omega, by omega⟩
    · rw [if_neg h1]
      have q3 := zq_nle h1
      have z4 : zin v5_22 60 := zq_in (by omega) (by omega)
      rw [if_pos z4]
      by_cases h5 : (t_times_r1 (v5_22).toNatClampNeg) = (-1 : Int32)
      · rw [if_pos h5]
        have q6 := zq_eq h5
        try have a7 := zq_add (x := v5_22) (y := (nI 1)) (by omega) (by omega)
        exact ih v4_22 (v5_22 + (nI 1)) ⟨by omega, by omega⟩ ⟨by omega, by omega⟩
      · rw [if_neg h5]
        have q8 := zq_ne h5
        obtain ⟨r9, e10, q9⟩ := t_fX3_indexOf N t_times_r1 v5_22 hN ⟨by omega, by omega⟩
        rw [e10, Option.bind_some]
        by_cases h11 : x3 ≤ r9
        · rw [if_pos h11]
          have q12 := zq_le h11
          try have a13 := zq_add (x := v5_22) (y := (nI 1)) (by omega) (by omega)
          exact ih v4_22 (v5_22 + (nI 1)) ⟨by omega, by omega⟩ ⟨by omega, by omega⟩
        · rw [if_neg h11]
          have q14 := zq_nle h11
          have z15 : zin v5_22 60 := zq_in (by omega) (by omega)
          rw [if_pos z15]
          try have a16 := zq_add (x := v5_22) (y := (nI 1)) (by omega) (by omega)
          exact ih (v4_22 + (t_times_r1 (v5_22).toNatClampNeg)) (v5_22 + (nI 1)) ⟨by omega, by omega⟩ ⟨by omega, by omega⟩
theorem t_fX3_bestOfTeam (N : Nat) (t_times : Nat → Int32) (p1_runners_entered : Int32) (p1_runners_facts : Nat → Int32) (x2 : Int32) (x3 : Int32) (hN : 10000 ≤ N) (h_p1_runners_entered : 0 ≤ p1_runners_entered.toInt ∧ p1_runners_entered.toInt ≤ 60) : ∃ r, fX3_bestOfTeam N t_times p1_runners_entered p1_runners_facts x2 x3 = some r ∧ (True) := by
  unfold fX3_bestOfTeam
  have k0 : (0 : Int32).toInt = 0 := rfl
  have km : (-1 : Int32).toInt = -1 := rfl
  have k_0 := zq_k 0 (by decide)
  obtain ⟨t_times_r1, e2, q1⟩ := t_fX3_leaveOnlyTeam N t_times p1_runners_entered p1_runners_facts x2 hN ⟨by omega, by omega⟩
  rw [e2, Option.bind_some]
  obtain ⟨r3, e4, q3⟩ := t_fX3_size N t_times_r1 hN
  rw [e4, Option.bind_some]
  by_cases h5 : x3 ≤ r3
  · rw [if_pos h5]
    have q6 := zq_le h5
    refine t_fX3_bestOfTeam_L22 N x3 t_times_r1 _ hN ?_ _ (nI 0) (nI 0) ⟨by omega, by omega⟩ ⟨by omega, by omega⟩
    intro v4_22 v5_22 iv5_22
    exact ⟨_, rfl, trivial⟩
  · rw [if_neg h5]
    have q7 := zq_nle h5
    exact ⟨_, rfl, trivial⟩
theorem t_fX4_hasCell (t_runners_entered : Int32) (t_way_mats : Int32) (x1 : Int32) (x2 : Int32) (h_t_runners_entered : 0 ≤ t_runners_entered.toInt ∧ t_runners_entered.toInt ≤ 60) (h_t_way_mats : 0 ≤ t_way_mats.toInt ∧ t_way_mats.toInt ≤ 12) : ∃ r, fX4_hasCell t_runners_entered t_way_mats x1 x2 = some r ∧ (¬ (zb r = 0) → 0 ≤ x1.toInt ∧ x1.toInt < 60 ∧ 0 ≤ x2.toInt ∧ x2.toInt < 12) := by
  unfold fX4_hasCell
  have k0 : (0 : Int32).toInt = 0 := rfl
  have km : (-1 : Int32).toInt = -1 := rfl
  obtain ⟨b1, e2, q1⟩ := t_fX6_has t_runners_entered x1 ⟨by omega, by omega⟩
  rw [e2, Option.bind_some]
  by_cases h3 : (zb b1) = 0
  · rw [if_pos h3]
    exact ⟨_, rfl, fun q => absurd zl_f0 q⟩
  · rw [if_neg h3]
    have q4 := q1 h3
    obtain ⟨b4, e6, q5⟩ := t_fX9_has t_way_mats x2 ⟨by omega, by omega⟩
    rw [e6, Option.bind_some]
    by_cases h7 : (zb b4) = 0
    · rw [if_pos h7]
      exact ⟨_, rfl, fun q => absurd zl_f0 q⟩
    · rw [if_neg h7]
      have q8 := q5 h7
      exact ⟨_, rfl, fun _ => by omega⟩
theorem t_fX4_latestOf_L10 (t_runners_entered : Int32) (t_runners_splits : Nat → Int32) (x1 : Int32) (K10_35 : Int32 → Option (Int32)) (h_t_runners_entered : 0 ≤ t_runners_entered.toInt ∧ t_runners_entered.toInt ≤ 60) (hK : ∀ (v2_10 : Int32), (-1 ≤ v2_10.toInt ∧ v2_10.toInt ≤ 60) → ∃ r, K10_35 v2_10 = some r ∧ (True)) : ∀ (n : Nat) (v2_10 : Int32), (-1 ≤ v2_10.toInt ∧ v2_10.toInt ≤ 60) → (1 ≤ n ∧ v2_10.toInt + 2 ≤ (n : Int)) → ∃ r, fX4_latestOf_L10 t_runners_entered t_runners_splits x1 K10_35 n v2_10 = some r ∧ (True) := by
  intro n
  induction n with
  | zero => intro v2_10 iv2_10 im; exact absurd im.1 (by decide)
  | succ n10 ih =>
    intro v2_10 iv2_10 im
    rw [fX4_latestOf_L10]
    have im2 := im.2
    have k0 : (0 : Int32).toInt = 0 := rfl
    have km : (-1 : Int32).toInt = -1 := rfl
    by_cases h1 : v2_10 ≤ 0
    · rw [if_pos h1]
      have q2 := zq_le h1
      exact hK v2_10 ⟨by omega, by omega⟩
    · rw [if_neg h1]
      have q3 := zq_nle h1
      obtain ⟨r7, e5, q4⟩ := t_fX6_splitAt t_runners_entered t_runners_splits x1 v2_10 ⟨by omega, by omega⟩
      rw [e5, Option.bind_some]
      by_cases h6 : r7 = (-1 : Int32)
      · rw [if_pos h6]
        have q7 := zq_eq h6
        try have a8 := zq_add (x := v2_10) (y := (-1 : Int32)) (by omega) (by omega)
        exact ih (v2_10 + (-1 : Int32)) ⟨by omega, by omega⟩ ⟨by omega, by omega⟩
      · rw [if_neg h6]
        have q9 := zq_ne h6
        exact ⟨_, rfl, trivial⟩
theorem t_fX4_latestOf (N : Nat) (t_guns_ticks : Nat → Int32) (t_runners_entered : Int32) (t_runners_facts : Nat → Int32) (t_runners_splits : Nat → Int32) (t_way_mats : Int32) (x1 : Int32) (hN : 10000 ≤ N) (h_t_runners_entered : 0 ≤ t_runners_entered.toInt ∧ t_runners_entered.toInt ≤ 60) (h_t_way_mats : 0 ≤ t_way_mats.toInt ∧ t_way_mats.toInt ≤ 12) : ∃ r, fX4_latestOf N t_guns_ticks t_runners_entered t_runners_facts t_runners_splits t_way_mats x1 = some r ∧ (True) := by
  unfold fX4_latestOf
  have k0 : (0 : Int32).toInt = 0 := rfl
  have km : (-1 : Int32).toInt = -1 := rfl
  have k_0 := zq_k 0 (by decide)
  have k_1 := zq_k 1 (by decide)
  obtain ⟨r1, e2, q1⟩ := t_fX9_size t_way_mats ⟨by omega, by omega⟩
  rw [e2, Option.bind_some]
  try have a3 := zq_sub (x := r1) (y := (nI 1)) (by omega) (by omega)
  refine t_fX4_latestOf_L10 t_runners_entered t_runners_splits x1 _ ⟨by omega, by omega⟩ ?_ _ (r1 - (nI 1)) ⟨by omega, by omega⟩ ⟨by omega, by omega⟩
  intro v2_10 iv2_10
  obtain ⟨r3, e5, q4⟩ := t_fX4_startOf t_guns_ticks t_runners_entered t_runners_facts t_runners_splits x1 ⟨by omega, by omega⟩
  rw [e5, Option.bind_some]
  by_cases h6 : r3 = (-1 : Int32)
  · rw [if_pos h6]
    have q7 := zq_eq h6
    exact ⟨_, rfl, trivial⟩
  · rw [if_neg h6]
    have q8 := zq_ne h6
    exact ⟨_, rfl, trivial⟩
theorem t_fX4_startIsGunsOf (t_guns_ticks : Nat → Int32) (t_runners_entered : Int32) (t_runners_facts : Nat → Int32) (t_runners_splits : Nat → Int32) (x1 : Int32) (h_t_runners_entered : 0 ≤ t_runners_entered.toInt ∧ t_runners_entered.toInt ≤ 60) : ∃ r, fX4_startIsGunsOf t_guns_ticks t_runners_entered t_runners_facts t_runners_splits x1 = some r ∧ (True) := by
  unfold fX4_startIsGunsOf
  have k0 : (0 : Int32).toInt = 0 := rfl
  have km : (-1 : Int32).toInt = -1 := rfl
  have k_0 := zq_k 0 (by decide)
  have k_1 := zq_k 1 (by decide)
  obtain ⟨r1, e2, q1⟩ := t_fX4_startOf t_guns_ticks t_runners_entered t_runners_facts t_runners_splits x1 ⟨by omega, by omega⟩
  rw [e2, Option.bind_some]
  by_cases h3 : r1 = (-1 : Int32)
  · rw [if_pos h3]
    have q4 := zq_eq h3
    exact ⟨_, rfl, trivial⟩
  · rw [if_neg h3]
    have q5 := zq_ne h3
    obtain ⟨r4, e7, q6⟩ := t_fX6_splitAt t_runners_entered t_runners_splits x1 (nI 0) ⟨by omega, by omega⟩
    rw [e7, Option.bind_some]
    by_cases h8 : r4 = (-1 : Int32)
    · rw [if_pos h8]
      have q9 := zq_eq h8
      exact ⟨_, rfl, trivial⟩
    · rw [if_neg h8]
      have q10 := zq_ne h8
      exact ⟨_, rfl, trivial⟩
theorem t_fX4_overPace (t_runners_entered : Int32) (t_runners_facts : Nat → Int32) (t_way_mats : Int32) (t_way_places : Nat → Int32) (x1 : Int32) (x2 : Int32) (h_t_runners_entered : 0 ≤ t_runners_entered.toInt ∧ t_runners_entered.toInt ≤ 60) (h_t_way_mats : 0 ≤ t_way_mats.toInt ∧ t_way_mats.toInt ≤ 12) : ∃ r, fX4_overPace t_runners_entered t_runners_facts t_way_mats t_way_places x1 x2 = some r ∧ (True) := by
  unfold fX4_overPace
  have k0 : (0 : Int32).toInt = 0 := rfl
  have km : (-1 : Int32).toInt = -1 := rfl
  have k_0 := zq_k 0 (by decide)
  have k_1 := zq_k 1 (by decide)
  by_cases h1 : x2 = (-1 : Int32)
  · rw [if_pos h1]
    have q2 := zq_eq h1
    exact ⟨_, rfl, trivial⟩
  · rw [if_neg h1]
    have q3 := zq_ne h1
    obtain ⟨r2, e5, q4⟩ := t_fX6_factOf t_runners_entered t_runners_facts x1 (nI 0) ⟨by omega, by omega⟩
    rw [e5, Option.bind_some]
    by_cases h6 : r2 = (nI 1)
    · rw [if_pos h6]
      have q7 := zq_eq h6
      obtain ⟨r5, e9, q8⟩ := t_fX9_lastMat t_way_mats ⟨by omega, by omega⟩
      rw [e9, Option.bind_some]
      obtain ⟨r7, e11, q10⟩ := t_fX9_placeAt t_way_mats t_way_places r5 ⟨by omega, by omega⟩
      rw [e11, Option.bind_some]
      obtain ⟨r9, e13, q12⟩ := t_fX6_factOf t_runners_entered t_runners_facts x1 (nI 1) ⟨by omega, by omega⟩
      rw [e13, Option.bind_some]
      obtain ⟨r11, e15, q14⟩ := t_fX10_secondsCut r7 r9 
      rw [e15, Option.bind_some]
      exact ⟨_, rfl, trivial⟩
    · rw [if_neg h6]
      exact ⟨_, rfl, trivial⟩
theorem t_fX6_tornFrom (t_entered : Int32) (t_torn : Nat → Int32) (x1 : Int32) (h_t_entered : 0 ≤ t_entered.toInt ∧ t_entered.toInt ≤ 60) : ∃ r, fX6_tornFrom t_entered t_torn x1 = some r ∧ (True) := by
  unfold fX6_tornFrom
  have k0 : (0 : Int32).toInt = 0 := rfl
  have km : (-1 : Int32).toInt = -1 := rfl
  obtain ⟨b1, e2, q1⟩ := t_fX6_has t_entered x1 ⟨by omega, by omega⟩
  rw [e2, Option.bind_some]
  by_cases h3 : (zb b1) = 0
  · rw [if_pos h3]
    exact ⟨_, rfl, trivial⟩
  · rw [if_neg h3]
    have q4 := q1 h3
    have z5 : zin x1 60 := zq_in (by omega) (by omega)
    rw [if_pos z5]
    exact ⟨_, rfl, trivial⟩
theorem t_fX4_tell (N : Nat) (t_guns_ticks : Nat → Int32) (t_runners_entered : Int32) (t_runners_dropped : Nat → Int32) (t_runners_facts : Nat → Int32) (t_runners_splits : Nat → Int32) (t_runners_struck : Nat → Int32) (t_runners_torn : Nat → Int32) (t_runners_waved : Nat → Int32) (t_way_mats : Int32) (t_way_cuts : Nat → Int32) (t_way_places : Nat → Int32) (x1 : Int32) (x2 : Int32) (hN : 10000 ≤ N) (h_t_runners_entered : 0 ≤ t_runners_entered.toInt ∧ t_runners_entered.toInt ≤ 60) (h_t_way_mats : 0 ≤ t_way_mats.toInt ∧ t_way_mats.toInt ≤ 12) : ∃ r, fX4_tell N t_guns_ticks t_runners_entered t_runners_dropped t_runners_facts t_runners_splits t_runners_struck t_runners_torn t_runners_waved t_way_mats t_way_cuts t_way_places x1 x2 = some r ∧ (True) := by
  unfold fX4_tell
  have k0 : (0 : Int32).toInt = 0 := rfl
  have km : (-1 : Int32).toInt = -1 := rfl
  have k_0 := zq_k 0 (by decide)
  have k_5 := zq_k 5 (by decide)
  have k_6 := zq_k 6 (by decide)
  have k_7 := zq_k 7 (by decide)
  have k_8 := zq_k 8 (by decide)
  have k_9 := zq_k 9 (by decide)
  have k_10 := zq_k 10 (by decide)
  have k_11 := zq_k 11 (by decide)
  have k_12 := zq_k 12 (by decide)
  have k_13 := zq_k 13 (by decide)
  obtain ⟨b1, e2, q1⟩ := t_fX10_within x2 (nI 0) (nI 5) 
  rw [e2, Option.bind_some]
  by_cases h3 : (zb b1) = 0
  · rw [if_pos h3]
    by_cases h4 : x2 = (nI 6)
    · rw [if_pos h4]
      have q5 := zq_eq h4
      obtain ⟨b5, e7, q6⟩ := t_fX6_has t_runners_entered x1 ⟨by omega, by omega⟩
      rw [e7, Option.bind_some]
      by_cases h8 : (zb b5) = 0
      · rw [if_pos h8]
        exact ⟨_, rfl, trivial⟩
      · rw [if_neg h8]
        have q9 := q6 h8
        obtain ⟨r8, e11, q10⟩ := t_fX4_stateOf N t_guns_ticks t_runners_entered t_runners_dropped t_runners_facts t_runners_splits t_runners_struck t_runners_waved t_way_mats t_way_cuts x1 hN ⟨by omega, by omega⟩ ⟨by omega, by omega⟩
        rw [e11, Option.bind_some]
        exact ⟨_, rfl, trivial⟩
    · rw [if_neg h4]
      by_cases h12 : x2 = (nI 7)
      · rw [if_pos h12]
        have q13 := zq_eq h12
        obtain ⟨r11, e15, q14⟩ := t_fX4_startOf t_guns_ticks t_runners_entered t_runners_facts t_runners_splits x1 ⟨by omega, by omega⟩
        rw [e15, Option.bind_some]
        exact ⟨_, rfl, trivial⟩
      · rw [if_neg h12]
        by_cases h16 : x2 = (nI 8)
        · rw [if_pos h16]
          have q17 := zq_eq h16
          obtain ⟨r14, e19, q18⟩ := t_fX4_latestOf N t_guns_ticks t_runners_entered t_runners_facts t_runners_splits t_way_mats x1 hN ⟨by omega, by omega⟩ ⟨by omega, by omega⟩
          rw [e19, Option.bind_some]
          exact ⟨_, rfl, trivial⟩
        · rw [if_neg h16]
          by_cases h20 : x2 = (nI 9)
          · rw [if_pos h20]
            have q21 := zq_eq h20
            obtain ⟨r17, e23, q22⟩ := t_fX4_startOf t_guns_ticks t_runners_entered t_runners_facts t_runners_splits x1 ⟨by omega, by omega⟩
            rw [e23, Option.bind_some]
            obtain ⟨r19, e25, q24⟩ := t_fX4_timeSince N t_guns_ticks t_runners_entered t_runners_dropped t_runners_facts t_runners_splits t_runners_struck t_runners_waved t_way_mats t_way_cuts x1 r17 hN ⟨by omega, by omega⟩ ⟨by omega, by omega⟩
            rw [e25, Option.bind_some]
            exact ⟨_, rfl, trivial⟩
          · rw [if_neg h20]
            by_cases h26 : x2 = (nI 10)
            · rw [if_pos h26]
              have q27 := zq_eq h26
              obtain ⟨r22, e29, q28⟩ := t_fX4_gunOf t_guns_ticks t_runners_entered t_runners_facts x1 ⟨by omega, by omega⟩
              rw [e29, Option.bind_some]
              obtain ⟨r24, e31, q30⟩ := t_fX4_timeSince N t_guns_ticks t_runners_entered t_runners_dropped t_runners_facts t_runners_splits t_runners_struck t_runners_waved t_way_mats t_way_cuts x1 r22 hN ⟨by omega, by omega⟩ ⟨by omega, by omega⟩
              rw [e31, Option.bind_some]
              exact ⟨_, rfl, trivial⟩
            · rw [if_neg h26]
              by_cases h32 : x2 = (nI 11)
              · rw [if_pos h32]
                have q33 := zq_eq h32
                obtain ⟨r27, e35, q34⟩ := t_fX4_startIsGunsOf t_guns_ticks t_runners_entered t_runners_facts t_runners_splits x1 ⟨by omega, by omega⟩
                rw [e35, Option.bind_some]
                exact ⟨_, rfl, trivial⟩
              · rw [if_neg h32]
                by_cases h36 : x2 = (nI 12)
                · rw [if_pos h36]
                  have q37 := zq_eq h36
                  obtain ⟨r30, e39, q38⟩ := t_fX4_startOf t_guns_ticks t_runners_entered t_runners_facts t_runners_splits x1 ⟨by omega, by omega⟩
                  rw [e39, Option.bind_some]
                  obtain ⟨r32, e41, q40⟩ := t_fX4_timeSince N t_guns_ticks t_runners_entered t_runners_dropped t_runners_facts t_runners_splits t_runners_struck t_runners_waved t_way_mats t_way_cuts x1 r30 hN ⟨by omega, by omega⟩ ⟨by omega, by omega⟩
                  rw [e41, Option.bind_some]
                  obtain ⟨r34, e43, q42⟩ := t_fX4_overPace t_runners_entered t_runners_facts t_way_mats t_way_places x1 r32 ⟨by omega, by omega⟩ ⟨by omega, by omega⟩
                  rw [e43, Option.bind_some]
                  exact ⟨_, rfl, trivial⟩
                · rw [if_neg h36]
                  by_cases h44 : x2 = (nI 13)
                  · rw [if_pos h44]
                    have q45 := zq_eq h44
                    obtain ⟨r37, e47, q46⟩ := t_fX6_tornFrom t_runners_entered t_runners_torn x1 ⟨by omega, by omega⟩
                    rw [e47, Option.bind_some]
                    exact ⟨_, rfl, trivial⟩
                  · rw [if_neg h44]
                    exact ⟨_, rfl, trivial⟩
  · rw [if_neg h3]
    have q48 := q1 h3
    obtain ⟨r39, e50, q49⟩ := t_fX6_factOf t_runners_entered t_runners_facts x1 x2 ⟨by omega, by omega⟩
    rw [e50, Option.bind_some]
    exact ⟨_, rfl, trivial⟩
theorem t_fX4_howManyAre_L4 (N : Nat) (t_guns_ticks : Nat → Int32) (t_runners_entered : Int32) (t_runners_dropped : Nat → Int32) (t_runners_facts : Nat → Int32) (t_runners_splits : Nat → Int32) (t_runners_struck : Nat → Int32) (t_runners_waved : Nat → Int32) (t_way_mats : Int32) (t_way_cuts : Nat → Int32) (x1 : Int32) (K4_33 : Int32 → Int32 → Option (Int32)) (hN : 10000 ≤ N) (h_t_runners_entered : 0 ≤ t_runners_entered.toInt ∧ t_runners_entered.toInt ≤ 60) (h_t_way_mats : 0 ≤ t_way_mats.toInt ∧ t_way_mats.toInt ≤ 12) (hK : ∀ (v2_4 : Int32) (v3_4 : Int32), (0 ≤ v3_4.toInt ∧ v3_4.toInt ≤ 60) → ∃ r, K4_33 v2_4 v3_4 = some r ∧ (True)) : ∀ (n : Nat) (v2_4 : Int32) (v3_4 : Int32), (0 ≤ v3_4.toInt ∧ v3_4.toInt ≤ 60) → (1 ≤ n ∧ 61 - v3_4.toInt ≤ (n : Int)) → ∃ r, fX4_howManyAre_L4 N t_guns_ticks t_runners_entered t_runners_dropped t_runners_facts t_runners_splits t_runners_struck t_runners_waved t_way_mats t_way_cuts x1 K4_33 n v2_4 v3_4 = some r ∧ (True) := by
  intro n
  induction n with
  | zero => intro v2_4 v3_4 iv3_4 im; exact absurd im.1 (by decide)
  | succ n4 ih =>
    intro v2_4 v3_4 iv3_4 im
    rw [fX4_howManyAre_L4]
    have im2 := im.2
    have k0 : (0 : Int32).toInt = 0 := rfl
    have km : (-1 : Int32).toInt = -1 := rfl
    have k_1 := zq_k 1 (by decide)
    obtain ⟨r1, e2, q1⟩ := t_fX6_size t_runners_entered ⟨by omega, by omega⟩
    rw [e2, Option.bind_some]
    by_cases h3 : r1 ≤ v3_4
    · rw [if_pos h3]
      have q4 := zq_le h3
      exact hK v2_4 v3_4 ⟨by omega, by omega⟩
    · rw [if_neg h3]
      have q5 := zq_nle h3
      obtain ⟨r4, e7, q6⟩ := t_fX4_stateOf N t_guns_ticks t_runners_entered t_runners_dropped t_runners_facts t_runners_splits t_runners_struck t_runners_waved t_way_mats t_way_cuts v3_4 hN ⟨by omega, by omega⟩ ⟨by omega, by omega⟩
      rw [e7, Option.bind_some]
      by_cases h8 : r4 = x1
      · rw [if_pos h8]
        have q9 := zq_eq h8
        try have a10 := zq_add (x := v3_4) (y := (nI 1)) (by omega) (by omega)
        exact ih (v2_4 + (nI 1)) (v3_4 + (nI 1)) ⟨by omega, by omega⟩ ⟨by omega, by omega⟩
      · rw [if_neg h8]
        have q11 := zq_ne h8
        try have a12 := zq_add (x := v3_4) (y := (nI 1)) (by omega) (by omega)
        exact ih v2_4 (v3_4 + (nI 1)) ⟨by omega, by omega⟩ ⟨by omega, by omega⟩
theorem t_fX4_howManyAre (N : Nat) (t_guns_ticks : Nat → Int32) (t_runners_entered : Int32) (t_runners_dropped : Nat → Int32) (t_runners_facts : Nat → Int32) (t_runners_splits : Nat → Int32) (t_runners_struck : Nat → Int32) (t_runners_waved : Nat → Int32) (t_way_mats : Int32) (t_way_cuts : Nat → Int32) (x1 : Int32) (hN : 10000 ≤ N) (h_t_runners_entered : 0 ≤ t_runners_entered.toInt ∧ t_runners_entered.toInt ≤ 60) (h_t_way_mats : 0 ≤ t_way_mats.toInt ∧ t_way_mats.toInt ≤ 12) : ∃ r, fX4_howManyAre N t_guns_ticks t_runners_entered t_runners_dropped t_runners_facts t_runners_splits t_runners_struck t_runners_waved t_way_mats t_way_cuts x1 = some r ∧ (True) := by
  unfold fX4_howManyAre
  have k0 : (0 : Int32).toInt = 0 := rfl
  have km : (-1 : Int32).toInt = -1 := rfl
  have k_0 := zq_k 0 (by decide)
  refine t_fX4_howManyAre_L4 N t_guns_ticks t_runners_entered t_runners_dropped t_runners_facts t_runners_splits t_runners_struck t_runners_waved t_way_mats t_way_cuts x1 _ hN ⟨by omega, by omega⟩ ⟨by omega, by omega⟩ ?_ _ (nI 0) (nI 0) ⟨by omega, by omega⟩ ⟨by omega, by omega⟩
  intro v2_4 v3_4 iv3_4
  exact ⟨_, rfl, trivial⟩
theorem t_fX4_howManySplits_L17 (t_runners_entered : Int32) (t_runners_splits : Nat → Int32) (t_way_mats : Int32) (v2_4 : Int32) (K17_50 : Int32 → Int32 → Option (Int32)) (h_t_runners_entered : 0 ≤ t_runners_entered.toInt ∧ t_runners_entered.toInt ≤ 60) (h_t_way_mats : 0 ≤ t_way_mats.toInt ∧ t_way_mats.toInt ≤ 12) (hK : ∀ (v1_17 : Int32) (v3_17 : Int32), (0 ≤ v3_17.toInt ∧ v3_17.toInt ≤ 12) → ∃ r, K17_50 v1_17 v3_17 = some r ∧ (True)) : ∀ (n : Nat) (v1_17 : Int32) (v3_17 : Int32), (0 ≤ v3_17.toInt ∧ v3_17.toInt ≤ 12) → (1 ≤ n ∧ 13 - v3_17.toInt ≤ (n : Int)) → ∃ r, fX4_howManySplits_L17 t_runners_entered t_runners_splits t_way_mats v2_4 K17_50 n v1_17 v3_17 = some r ∧ (True) := by
  intro n
  induction n with
  | zero => intro v1_17 v3_17 iv3_17 im; exact absurd im.1 (by decide)
  | succ n17 ih =>
    intro v1_17 v3_17 iv3_17 im
    rw [fX4_howManySplits_L17]
    have im2 := im.2
    have k0 : (0 : Int32).toInt = 0 := rfl
    have km : (-1 : Int32).toInt = -1 := rfl
    have k_1 := zq_k 1 (by decide)
    obtain ⟨r4, e2, q1⟩ := t_fX9_size t_way_mats ⟨by omega, by omega⟩
    rw [e2, Option.bind_some]
    by_cases h3 : r4 ≤ v3_17
    · rw [if_pos h3]
      have q4 := zq_le h3
      exact hK v1_17 v3_17 ⟨by omega, by omega⟩
    · rw [if_neg h3]
      have q5 := zq_nle h3
      obtain ⟨r7, e7, q6⟩ := t_fX6_splitAt t_runners_entered t_runners_splits v2_4 v3_17 ⟨by omega, by omega⟩
      rw [e7, Option.bind_some]
      by_cases h8 : r7 = (-1 : Int32)
      · rw [if_pos h8]
        have q9 := zq_eq h8
        try have a10 := zq_add (x := v3_17) (y := (nI 1)) (by omega) (by omega)
        exact ih v1_17 (v3_17 + (nI 1)) ⟨by omega, by omega⟩ ⟨by omega, by omega⟩
      · rw [if_neg h8]
        have q11 := zq_ne h8
        try have a12 := zq_add (x := v3_17) (y := (nI 1)) (by omega) (by omega)
        exact ih (v1_17 + (nI 1)) (v3_17 + (nI 1)) ⟨by omega, by omega⟩ ⟨by omega, by omega⟩
theorem t_fX4_howManySplits_L4 (N : Nat) (t_runners_entered : Int32) (t_runners_splits : Nat → Int32) (t_way_mats : Int32) (K4_56 : Int32 → Int32 → Option (Int32)) (hN : 10000 ≤ N) (h_t_runners_entered : 0 ≤ t_runners_entered.toInt ∧ t_runners_entered.toInt ≤ 60) (h_t_way_mats : 0 ≤ t_way_mats.toInt ∧ t_way_mats.toInt ≤ 12) (hK : ∀ (v1_4 : Int32) (v2_4 : Int32), (0 ≤ v2_4.toInt ∧ v2_4.toInt ≤ 60) → ∃ r, K4_56 v1_4 v2_4 = some r ∧ (True)) : ∀ (n : Nat) (v1_4 : Int32) (v2_4 : Int32), (0 ≤ v2_4.toInt ∧ v2_4.toInt ≤ 60) → (1 ≤ n ∧ 61 - v2_4.toInt ≤ (n : Int)) → ∃ r, fX4_howManySplits_L4 N t_runners_entered t_runners_splits t_way_mats K4_56 n v1_4 v2_4 = some r ∧ (True) := by
  intro n
  induction n with
  | zero => intro v1_4 v2_4 iv2_4 im; exact absurd im.1 (by decide)
  | succ n4 ih =>
    intro v1_4 v2_4 iv2_4 im
    rw [fX4_howManySplits_L4]
    have im2 := im.2
    have k0 : (0 : Int32).toInt = 0 := rfl
    have km : (-1 : Int32).toInt = -1 := rfl
    have k_0 := zq_k 0 (by decide)
    have k_1 := zq_k 1 (by decide)
    obtain ⟨r1, e2, q1⟩ := t_fX6_size t_runners_entered ⟨by omega, by omega⟩
    rw [e2, Option.bind_some]
    by_cases h3 : r1 ≤ v2_4
    · rw [if_pos h3]
      have q4 := zq_le h3
      exact hK v1_4 v2_4 ⟨by omega, by omega⟩
    · rw [if_neg h3]
      have q5 := zq_nle h3
      refine t_fX4_howManySplits_L17 t_runners_entered t_runners_splits t_way_mats v2_4 _ ⟨by omega, by omega⟩ ⟨by omega, by omega⟩ ?_ _ v1_4 (nI 0) ⟨by omega, by omega⟩ ⟨by omega, by omega⟩
      intro v1_17 v3_17 iv3_17
      try have a6 := zq_add (x := v2_4) (y := (nI 1)) (by omega) (by omega)
      exact ih v1_17 (v2_4 + (nI 1)) ⟨by omega, by omega⟩ ⟨by omega, by omega⟩
theorem t_fX4_howManySplits (N : Nat) (t_runners_entered : Int32) (t_runners_splits : Nat → Int32) (t_way_mats : Int32) (hN : 10000 ≤ N) (h_t_runners_entered : 0 ≤ t_runners_entered.toInt ∧ t_runners_entered.toInt ≤ 60) (h_t_way_mats : 0 ≤ t_way_mats.toInt ∧ t_way_mats.toInt ≤ 12) : ∃ r, fX4_howManySplits N t_runners_entered t_runners_splits t_way_mats = some r ∧ (True) := by
  unfold fX4_howManySplits
  have k0 : (0 : Int32).toInt = 0 := rfl
  have km : (-1 : Int32).toInt = -1 := rfl
  have k_0 := zq_k 0 (by decide)
  refine t_fX4_howManySplits_L4 N t_runners_entered t_runners_splits t_way_mats _ hN ⟨by omega, by omega⟩ ⟨by omega, by omega⟩ ?_ _ (nI 0) (nI 0) ⟨by omega, by omega⟩ ⟨by omega, by omega⟩
  intro v1_4 v2_4 iv2_4
  exact ⟨_, rfl, trivial⟩
theorem t_fX6_strikings (t_strikings : Int32)  : ∃ r, fX6_strikings t_strikings = some r ∧ (True) := by
  unfold fX6_strikings
  have k0 : (0 : Int32).toInt = 0 := rfl
  have km : (-1 : Int32).toInt = -1 := rfl
  exact ⟨_, rfl, trivial⟩
theorem t_fX10_told (N : Nat) (t_race_guns_ticks : Nat → Int32) (t_race_runners_entered : Int32) (t_race_runners_dropped : Nat → Int32) (t_race_runners_facts : Nat → Int32) (t_race_runners_splits : Nat → Int32) (t_race_runners_struck : Nat → Int32) (t_race_runners_torn : Nat → Int32) (t_race_runners_waved : Nat → Int32) (t_race_way_mats : Int32) (t_race_way_cuts : Nat → Int32) (t_race_way_places : Nat → Int32) (x1 : Int32) (x2 : Int32) (hN : 10000 ≤ N) (h_t_race_runners_entered : 0 ≤ t_race_runners_entered.toInt ∧ t_race_runners_entered.toInt ≤ 60) (h_t_race_way_mats : 0 ≤ t_race_way_mats.toInt ∧ t_race_way_mats.toInt ≤ 12) : ∃ r, fX10_told N t_race_guns_ticks t_race_runners_entered t_race_runners_dropped t_race_runners_facts t_race_runners_splits t_race_runners_struck t_race_runners_torn t_race_runners_waved t_race_way_mats t_race_way_cuts t_race_way_places x1 x2 = some r ∧ (True) := by
  unfold fX10_told
  have k0 : (0 : Int32).toInt = 0 := rfl
  have km : (-1 : Int32).toInt = -1 := rfl
  obtain ⟨r1, e2, q1⟩ := t_fX4_tell N t_race_guns_ticks t_race_runners_entered t_race_runners_dropped t_race_runners_facts t_race_runners_splits t_race_runners_struck t_race_runners_torn t_race_runners_waved t_race_way_mats t_race_way_cuts t_race_way_places x1 x2 hN ⟨by omega, by omega⟩ ⟨by omega, by omega⟩
  rw [e2, Option.bind_some]
  exact ⟨_, rfl, trivial⟩
theorem t_fX10_split (t_race_runners_entered : Int32) (t_race_runners_splits : Nat → Int32) (t_race_way_mats : Int32) (x1 : Int32) (x2 : Int32) (h_t_race_runners_entered : 0 ≤ t_race_runners_entered.toInt ∧ t_race_runners_entered.toInt ≤ 60) (h_t_race_way_mats : 0 ≤ t_race_way_mats.toInt ∧ t_race_way_mats.toInt ≤ 12) : ∃ r, fX10_split t_race_runners_entered t_race_runners_splits t_race_way_mats x1 x2 = some r ∧ (True) := by
  unfold fX10_split
  have k0 : (0 : Int32).toInt = 0 := rfl
  have km : (-1 : Int32).toInt = -1 := rfl
  obtain ⟨b1, e2, q1⟩ := t_fX4_hasCell t_race_runners_entered t_race_way_mats x1 x2 ⟨by omega, by omega⟩ ⟨by omega, by omega⟩
  rw [e2, Option.bind_some]
  by_cases h3 : (zb b1) = 0
  · rw [if_pos h3]
    exact ⟨_, rfl, trivial⟩
  · rw [if_neg h3]
    have q4 := q1 h3
    obtain ⟨r4, e6, q5⟩ := t_fX6_splitAt t_race_runners_entered t_race_runners_splits x1 x2 ⟨by omega, by omega⟩
    rw [e6, Option.bind_some]
    exact ⟨_, rfl, trivial⟩
theorem t_fX10_guess (N : Nat) (t_race_guns_ticks : Nat → Int32) (t_race_runners_entered : Int32) (t_race_runners_facts : Nat → Int32) (t_race_runners_splits : Nat → Int32) (t_race_way_mats : Int32) (t_race_way_places : Nat → Int32) (t_trail_greatest : Int32) (t_trail_least : Int32) (t_trail_mats : Int32) (t_trail_places : Nat → Int32) (t_trail_ticks : Nat → Int32) (x1 : Int32) (x2 : Int32) (x3 : Int32) (hN : 10000 ≤ N) (h_t_race_runners_entered : 0 ≤ t_race_runners_entered.toInt ∧ t_race_runners_entered.toInt ≤ 60) (h_t_race_way_mats : 0 ≤ t_race_way_mats.toInt ∧ t_race_way_mats.toInt ≤ 12) : ∃ r, fX10_guess N t_race_guns_ticks t_race_runners_entered t_race_runners_facts t_race_runners_splits t_race_way_mats t_race_way_places t_trail_greatest t_trail_least t_trail_mats t_trail_places t_trail_ticks x1 x2 x3 = some r ∧ (True) := by
  unfold fX10_guess
  have k0 : (0 : Int32).toInt = 0 := rfl
  have km : (-1 : Int32).toInt = -1 := rfl
  obtain ⟨b1, e2, q1⟩ := t_fX4_hasCell t_race_runners_entered t_race_way_mats x1 x2 ⟨by omega, by omega⟩ ⟨by omega, by omega⟩
  rw [e2, Option.bind_some]
  by_cases h3 : (zb b1) = 0
  · rw [if_pos h3]
    exact ⟨_, rfl, trivial⟩
  · rw [if_neg h3]
    have q4 := q1 h3
    obtain ⟨⟨t_trail_greatest_r4, t_trail_least_r5, t_trail_mats_r6, t_trail_places_r7, t_trail_ticks_r8⟩, e6, q5⟩ := t_fX8_follow N t_trail_greatest t_trail_least t_trail_mats t_trail_places t_trail_ticks t_race_guns_ticks t_race_runners_entered t_race_runners_facts t_race_runners_splits t_race_way_mats t_race_way_places x1 hN ⟨by omega, by omega⟩ ⟨by omega, by omega⟩
    rw [e6, Option.bind_some]
    dsimp only
    dsimp only at q5
    by_cases h7 : x3 = 0
    · rw [if_pos h7]
      have q8 := zq_eq h7
      obtain ⟨r11, e10, q9⟩ := t_fX8_leastGuess N t_trail_greatest_r4 t_trail_least_r5 t_trail_mats_r6 t_trail_places_r7 t_trail_ticks_r8 x2 hN ⟨by omega, by omega⟩ ⟨by omega, by omega⟩
      rw [e10, Option.bind_some]
      exact ⟨_, rfl, trivial⟩
    · rw [if_neg h7]
      have q11 := zq_ne h7
      obtain ⟨r13, e13, q12⟩ := t_fX8_greatestGuess N t_trail_greatest_r4 t_trail_least_r5 t_trail_mats_r6 t_trail_places_r7 t_trail_ticks_r8 x2 hN ⟨by omega, by omega⟩ ⟨by omega, by omega⟩
      rw [e13, Option.bind_some]
      exact ⟨_, rfl, trivial⟩
theorem t_fX10_doubt (N : Nat) (t_doubts_doubts : Int32) (t_doubts_codes : Nat → Int32) (t_race_guns_ticks : Nat → Int32) (t_race_runners_entered : Int32) (t_race_runners_facts : Nat → Int32) (t_race_runners_splits : Nat → Int32) (t_race_way_mats : Int32) (t_race_way_places : Nat → Int32) (t_trail_greatest : Int32) (t_trail_least : Int32) (t_trail_mats : Int32) (t_trail_places : Nat → Int32) (t_trail_ticks : Nat → Int32) (x1 : Int32) (x2 : Int32) (hN : 10000 ≤ N) (h_t_race_runners_entered : 0 ≤ t_race_runners_entered.toInt ∧ t_race_runners_entered.toInt ≤ 60) (h_t_race_way_mats : 0 ≤ t_race_way_mats.toInt ∧ t_race_way_mats.toInt ≤ 12) : ∃ r, fX10_doubt N t_doubts_doubts t_doubts_codes t_race_guns_ticks t_race_runners_entered t_race_runners_facts t_race_runners_splits t_race_way_mats t_race_way_places t_trail_greatest t_trail_least t_trail_mats t_trail_places t_trail_ticks x1 x2 = some r ∧ (True) := by
  unfold fX10_doubt
  have k0 : (0 : Int32).toInt = 0 := rfl
  have km : (-1 : Int32).toInt = -1 := rfl
  obtain ⟨⟨r1, t_doubts_doubts_r2, t_doubts_codes_r3, t_trail_greatest_r4, t_trail_least_r5, t_trail_mats_r6, t_trail_places_r7, t_trail_ticks_r8⟩, e2, q1⟩ := t_fX0_gather N t_doubts_doubts t_doubts_codes t_race_guns_ticks t_race_runners_entered t_race_runners_facts t_race_runners_splits t_race_way_mats t_race_way_places t_trail_greatest t_trail_least t_trail_mats t_trail_places t_trail_ticks hN ⟨by omega, by omega⟩ ⟨by omega, by omega⟩
  rw [e2, Option.bind_some]
  dsimp only
  obtain ⟨r10, e4, q3⟩ := t_fX0_tell t_doubts_doubts_r2 t_doubts_codes_r3 x1 x2 
  rw [e4, Option.bind_some]
  exact ⟨_, rfl, trivial⟩
theorem t_fX10_foretold (N : Nat) (t_race_guns_ticks : Nat → Int32) (t_race_runners_entered : Int32) (t_race_runners_facts : Nat → Int32) (t_race_way_mats : Int32) (t_race_way_places : Nat → Int32) (x1 : Int32) (x2 : Int32) (hN : 10000 ≤ N) (h_t_race_runners_entered : 0 ≤ t_race_runners_entered.toInt ∧ t_race_runners_entered.toInt ≤ 60) (h_t_race_way_mats : 0 ≤ t_race_way_mats.toInt ∧ t_race_way_mats.toInt ≤ 12) : ∃ r, fX10_foretold N t_race_guns_ticks t_race_runners_entered t_race_runners_facts t_race_way_mats t_race_way_places x1 x2 = some r ∧ (True) := by
  unfold fX10_foretold
  have k0 : (0 : Int32).toInt = 0 := rfl
  have km : (-1 : Int32).toInt = -1 := rfl
  obtain ⟨b1, e2, q1⟩ := t_fX9_has t_race_way_mats x1 ⟨by omega, by omega⟩
  rw [e2, Option.bind_some]
  by_cases h3 : (zb b1) = 0
  · rw [if_pos h3]
    exact ⟨_, rfl, trivial⟩
  · rw [if_neg h3]
    have q4 := q1 h3
    by_cases h5 : x2 < 0
    · rw [if_pos h5]
      have q6 := zq_lt h5
      exact ⟨_, rfl, trivial⟩
    · rw [if_neg h5]
      have q7 := zq_nlt h5
      obtain ⟨r5, e9, q8⟩ := t_fX1_passersIn N t_race_guns_ticks t_race_runners_entered t_race_runners_facts t_race_way_mats t_race_way_places x1 x2 hN ⟨by omega, by omega⟩ ⟨by omega, by omega⟩
      rw [e9, Option.bind_some]
      exact ⟨_, rfl, trivial⟩
theorem t_fX10_tight (N : Nat) (t_foretelling_minutes : Nat → Int32) (t_foretelling_passers : Nat → Int32) (t_foretelling_pens : Nat → Int32) (t_foretelling_seconds : Nat → Int32) (t_race_guns_ticks : Nat → Int32) (t_race_runners_entered : Int32) (t_race_runners_facts : Nat → Int32) (t_race_way_mats : Int32) (t_race_way_bearings : Nat → Int32) (t_race_way_places : Nat → Int32) (x1 : Int32) (hN : 10000 ≤ N) (h_t_race_runners_entered : 0 ≤ t_race_runners_entered.toInt ∧ t_race_runners_entered.toInt ≤ 60) (h_t_race_way_mats : 0 ≤ t_race_way_mats.toInt ∧ t_race_way_mats.toInt ≤ 12) : ∃ r, fX10_tight N t_foretelling_minutes t_foretelling_passers t_foretelling_pens t_foretelling_seconds t_race_guns_ticks t_race_runners_entered t_race_runners_facts t_race_way_mats t_race_way_bearings t_race_way_places x1 = some r ∧ (True) := by
  unfold fX10_tight
  have k0 : (0 : Int32).toInt = 0 := rfl
  have km : (-1 : Int32).toInt = -1 := rfl
  obtain ⟨b1, e2, q1⟩ := t_fX9_has t_race_way_mats x1 ⟨by omega, by omega⟩
  rw [e2, Option.bind_some]
  by_cases h3 : (zb b1) = 0
  · rw [if_pos h3]
    exact ⟨_, rfl, trivial⟩
  · rw [if_neg h3]
    have q4 := q1 h3
    obtain ⟨⟨r4, t_foretelling_minutes_r5, t_foretelling_passers_r6, t_foretelling_pens_r7, t_foretelling_seconds_r8⟩, e6, q5⟩ := t_fX1_firstTightMinute N t_foretelling_minutes t_foretelling_passers t_foretelling_pens t_foretelling_seconds t_race_guns_ticks t_race_runners_entered t_race_runners_facts t_race_way_mats t_race_way_bearings t_race_way_places x1 hN ⟨by omega, by omega⟩ ⟨by omega, by omega⟩
    rw [e6, Option.bind_some]
    dsimp only
    exact ⟨_, rfl, trivial⟩
theorem t_fX10_plan (N : Nat) (t_foretelling_minutes : Nat → Int32) (t_foretelling_passers : Nat → Int32) (t_foretelling_pens : Nat → Int32) (t_foretelling_seconds : Nat → Int32) (t_foretelling_tried_ticks : Nat → Int32) (t_race_guns_ticks : Nat → Int32) (t_race_runners_entered : Int32) (t_race_runners_facts : Nat → Int32) (t_race_way_mats : Int32) (t_race_way_bearings : Nat → Int32) (t_race_way_places : Nat → Int32) (x1 : Int32) (x2 : Int32) (hN : 10000 ≤ N) (h_t_race_runners_entered : 0 ≤ t_race_runners_entered.toInt ∧ t_race_runners_entered.toInt ≤ 60) (h_t_race_way_mats : 0 ≤ t_race_way_mats.toInt ∧ t_race_way_mats.toInt ≤ 12) : ∃ r, fX10_plan N t_foretelling_minutes t_foretelling_passers t_foretelling_pens t_foretelling_seconds t_foretelling_tried_ticks t_race_guns_ticks t_race_runners_entered t_race_runners_facts t_race_way_mats t_race_way_bearings t_race_way_places x1 x2 = some r ∧ (True) := by
  unfold fX10_plan
  have k0 : (0 : Int32).toInt = 0 := rfl
  have km : (-1 : Int32).toInt = -1 := rfl
  have k_0 := zq_k 0 (by decide)
  have k_3000 := zq_k 3000 (by decide)
  have k_10000 := zq_k 10000 (by decide)
  obtain ⟨b1, e2, q1⟩ := t_fX10_within x1 (nI 0) (nI 10000) 
  rw [e2, Option.bind_some]
  by_cases h3 : (zb b1) = 0
  · rw [if_pos h3]
    exact ⟨_, rfl, trivial⟩
  · rw [if_neg h3]
    have q4 := q1 h3
    obtain ⟨b4, e6, q5⟩ := t_fX10_within x2 (nI 0) (nI 3000) 
    rw [e6, Option.bind_some]
    by_cases h7 : (zb b4) = 0
    · rw [if_pos h7]
      exact ⟨_, rfl, trivial⟩
    · rw [if_neg h7]
      have q8 := q5 h7
      obtain ⟨⟨r7, t_foretelling_minutes_r8, t_foretelling_passers_r9, t_foretelling_pens_r10, t_foretelling_seconds_r11, t_foretelling_tried_ticks_r12, t_race_guns_ticks_r13⟩, e10, q9⟩ := t_fX1_planFrom N t_foretelling_minutes t_foretelling_passers t_foretelling_pens t_foretelling_seconds t_foretelling_tried_ticks t_race_guns_ticks t_race_runners_entered t_race_runners_facts t_race_way_mats t_race_way_bearings t_race_way_places x1 x2 hN ⟨by omega, by omega⟩ ⟨by omega, by omega⟩ ⟨by omega, by omega⟩
      rw [e10, Option.bind_some]
      dsimp only
      exact ⟨_, rfl, trivial⟩
theorem t_fX10_fault (N : Nat) (t_listing_reading_digits : Int32) (t_listing_reading_laid : Int32) (t_listing_reading_open : Int32) (t_listing_reading_order : Int32) (t_listing_reading_prizes : Int32) (t_listing_reading_stage : Int32) (t_listing_reading_numbers : Nat → Int32) (t_listing_reading_parts : Nat → Int32) (t_listing_reading_signs : Nat → Int32) (t_text_length : Int32) (t_text_bytes : Nat → Int32) (hN : 10000 ≤ N) (h_t_text_length : 0 ≤ t_text_length.toInt ∧ t_text_length.toInt ≤ 200) : ∃ r, fX10_fault N t_listing_reading_digits t_listing_reading_laid t_listing_reading_open t_listing_reading_order t_listing_reading_prizes t_listing_reading_stage t_listing_reading_numbers t_listing_reading_parts t_listing_reading_signs t_text_length t_text_bytes = some r ∧ (True) := by
  unfold fX10_fault
  have k0 : (0 : Int32).toInt = 0 := rfl
  have km : (-1 : Int32).toInt = -1 := rfl
  obtain ⟨⟨r1, t_listing_reading_digits_r2, t_listing_reading_laid_r3, t_listing_reading_open_r4, t_listing_reading_order_r5, t_listing_reading_prizes_r6, t_listing_reading_stage_r7, t_listing_reading_numbers_r8, t_listing_reading_parts_r9, t_listing_reading_signs_r10⟩, e2, q1⟩ := t_fX3_faultOf N t_listing_reading_digits t_listing_reading_laid t_listing_reading_open t_listing_reading_order t_listing_reading_prizes t_listing_reading_stage t_listing_reading_numbers t_listing_reading_parts t_listing_reading_signs t_text_length t_text_bytes hN ⟨by omega, by omega⟩
  rw [e2, Option.bind_some]
  dsimp only
  exact ⟨_, rfl, trivial⟩
theorem t_fX10_list (N : Nat) (t_listing_reading_digits : Int32) (t_listing_reading_laid : Int32) (t_listing_reading_open : Int32) (t_listing_reading_order : Int32) (t_listing_reading_prizes : Int32) (t_listing_reading_stage : Int32) (t_listing_reading_numbers : Nat → Int32) (t_listing_reading_parts : Nat → Int32) (t_listing_reading_signs : Nat → Int32) (t_listing_times : Nat → Int32) (t_race_guns_ticks : Nat → Int32) (t_race_runners_entered : Int32) (t_race_runners_dropped : Nat → Int32) (t_race_runners_facts : Nat → Int32) (t_race_runners_splits : Nat → Int32) (t_race_runners_struck : Nat → Int32) (t_race_runners_waved : Nat → Int32) (t_race_way_mats : Int32) (t_race_way_cuts : Nat → Int32) (t_text_length : Int32) (t_text_bytes : Nat → Int32) (x1 : Int32) (hN : 10000 ≤ N) (h_t_race_runners_entered : 0 ≤ t_race_runners_entered.toInt ∧ t_race_runners_entered.toInt ≤ 60) (h_t_race_way_mats : 0 ≤ t_race_way_mats.toInt ∧ t_race_way_mats.toInt ≤ 12) (h_t_text_length : 0 ≤ t_text_length.toInt ∧ t_text_length.toInt ≤ 200) : ∃ r, fX10_list N t_listing_reading_digits t_listing_reading_laid t_listing_reading_open t_listing_reading_order t_listing_reading_prizes t_listing_reading_stage t_listing_reading_numbers t_listing_reading_parts t_listing_reading_signs t_listing_times t_race_guns_ticks t_race_runners_entered t_race_runners_dropped t_race_runners_facts t_race_runners_splits t_race_runners_struck t_race_runners_waved t_race_way_mats t_race_way_cuts t_text_length t_text_bytes x1 = some r ∧ (True) := by
  unfold fX10_list
  have k0 : (0 : Int32).toInt = 0 := rfl
  have km : (-1 : Int32).toInt = -1 := rfl
  obtain ⟨⟨b1, t_listing_reading_digits_r2, t_listing_reading_laid_r3, t_listing_reading_open_r4, t_listing_reading_order_r5, t_listing_reading_prizes_r6, t_listing_reading_stage_r7, t_listing_reading_numbers_r8, t_listing_reading_parts_r9, t_listing_reading_signs_r10, t_listing_times_r11⟩, e2, q1⟩ := t_fX3_gather N t_listing_reading_digits t_listing_reading_laid t_listing_reading_open t_listing_reading_order t_listing_reading_prizes t_listing_reading_stage t_listing_reading_numbers t_listing_reading_parts t_listing_reading_signs t_listing_times t_text_length t_text_bytes t_race_guns_ticks t_race_runners_entered t_race_runners_dropped t_race_runners_facts t_race_runners_splits t_race_runners_struck t_race_runners_waved t_race_way_mats t_race_way_cuts hN ⟨by omega, by omega⟩ ⟨by omega, by omega⟩ ⟨by omega, by omega⟩
  rw [e2, Option.bind_some]
  dsimp only
  by_cases h3 : (zb b1) = 0
  · rw [if_pos h3]
    exact ⟨_, rfl, trivial⟩
  · rw [if_neg h3]
    obtain ⟨r14, e5, q4⟩ := t_fX3_runnerAt N t_listing_times_r11 x1 hN
    rw [e5, Option.bind_some]
    exact ⟨_, rfl, trivial⟩
theorem t_fX10_place (N : Nat) (t_listing_reading_digits : Int32) (t_listing_reading_laid : Int32) (t_listing_reading_open : Int32) (t_listing_reading_order : Int32) (t_listing_reading_prizes : Int32) (t_listing_reading_stage : Int32) (t_listing_reading_numbers : Nat → Int32) (t_listing_reading_parts : Nat → Int32) (t_listing_reading_signs : Nat → Int32) (t_listing_times : Nat → Int32) (t_race_guns_ticks : Nat → Int32) (t_race_runners_entered : Int32) (t_race_runners_dropped : Nat → Int32) (t_race_runners_facts : Nat → Int32) (t_race_runners_splits : Nat → Int32) (t_race_runners_struck : Nat → Int32) (t_race_runners_waved : Nat → Int32) (t_race_way_mats : Int32) (t_race_way_cuts : Nat → Int32) (t_text_length : Int32) (t_text_bytes : Nat → Int32) (x1 : Int32) (hN : 10000 ≤ N) (h_t_race_runners_entered : 0 ≤ t_race_runners_entered.toInt ∧ t_race_runners_entered.toInt ≤ 60) (h_t_race_way_mats : 0 ≤ t_race_way_mats.toInt ∧ t_race_way_mats.toInt ≤ 12) (h_t_text_length : 0 ≤ t_text_length.toInt ∧ t_text_length.toInt ≤ 200) : ∃ r, fX10_place N t_listing_reading_digits t_listing_reading_laid t_listing_reading_open t_listing_reading_order t_listing_reading_prizes t_listing_reading_stage t_listing_reading_numbers t_listing_reading_parts t_listing_reading_signs t_listing_times t_race_guns_ticks t_race_runners_entered t_race_runners_dropped t_race_runners_facts t_race_runners_splits t_race_runners_struck t_race_runners_waved t_race_way_mats t_race_way_cuts t_text_length t_text_bytes x1 = some r ∧ (True) := by
  unfold fX10_place
  have k0 : (0 : Int32).toInt = 0 := rfl
  have km : (-1 : Int32).toInt = -1 := rfl
  obtain ⟨⟨b1, t_listing_reading_digits_r2, t_listing_reading_laid_r3, t_listing_reading_open_r4, t_listing_reading_order_r5, t_listing_reading_prizes_r6, t_listing_reading_stage_r7, t_listing_reading_numbers_r8, t_listing_reading_parts_r9, t_listing_reading_signs_r10, t_listing_times_r11⟩, e2, q1⟩ := t_fX3_gather N t_listing_reading_digits t_listing_reading_laid t_listing_reading_open t_listing_reading_order t_listing_reading_prizes t_listing_reading_stage t_listing_reading_numbers t_listing_reading_parts t_listing_reading_signs t_listing_times t_text_length t_text_bytes t_race_guns_ticks t_race_runners_entered t_race_runners_dropped t_race_runners_facts t_race_runners_splits t_race_runners_struck t_race_runners_waved t_race_way_mats t_race_way_cuts hN ⟨by omega, by omega⟩ ⟨by omega, by omega⟩ ⟨by omega, by omega⟩
  rw [e2, Option.bind_some]
  dsimp only
  by_cases h3 : (zb b1) = 0
  · rw [if_pos h3]
    exact ⟨_, rfl, trivial⟩
  · rw [if_neg h3]
    obtain ⟨r14, e5, q4⟩ := t_fX3_placeOf N t_listing_times_r11 x1 hN
    rw [e5, Option.bind_some]
    exact ⟨_, rfl, trivial⟩
theorem t_fX10_many (N : Nat) (t_listing_reading_digits : Int32) (t_listing_reading_laid : Int32) (t_listing_reading_open : Int32) (t_listing_reading_order : Int32) (t_listing_reading_prizes : Int32) (t_listing_reading_stage : Int32) (t_listing_reading_numbers : Nat → Int32) (t_listing_reading_parts : Nat → Int32) (t_listing_reading_signs : Nat → Int32) (t_listing_times : Nat → Int32) (t_race_guns_ticks : Nat → Int32) (t_race_runners_entered : Int32) (t_race_runners_dropped : Nat → Int32) (t_race_runners_facts : Nat → Int32) (t_race_runners_splits : Nat → Int32) (t_race_runners_struck : Nat → Int32) (t_race_runners_waved : Nat → Int32) (t_race_way_mats : Int32) (t_race_way_cuts : Nat → Int32) (t_text_length : Int32) (t_text_bytes : Nat → Int32) (hN : 10000 ≤ N) (h_t_race_runners_entered : 0 ≤ t_race_runners_entered.toInt ∧ t_race_runners_entered.toInt ≤ 60) (h_t_race_way_mats : 0 ≤ t_race_way_mats.toInt ∧ t_race_way_mats.toInt ≤ 12) (h_t_text_length : 0 ≤ t_text_length.toInt ∧ t_text_length.toInt ≤ 200) : ∃ r, fX10_many N t_listing_reading_digits t_listing_reading_laid t_listing_reading_open t_listing_reading_order t_listing_reading_prizes t_listing_reading_stage t_listing_reading_numbers t_listing_reading_parts t_listing_reading_signs t_listing_times t_race_guns_ticks t_race_runners_entered t_race_runners_dropped t_race_runners_facts t_race_runners_splits t_race_runners_struck t_race_runners_waved t_race_way_mats t_race_way_cuts t_text_length t_text_bytes = some r ∧ (True) := by
  unfold fX10_many
  have k0 : (0 : Int32).toInt = 0 := rfl
  have km : (-1 : Int32).toInt = -1 := rfl
  obtain ⟨⟨b1, t_listing_reading_digits_r2, t_listing_reading_laid_r3, t_listing_reading_open_r4, t_listing_reading_order_r5, t_listing_reading_prizes_r6, t_listing_reading_stage_r7, t_listing_reading_numbers_r8, t_listing_reading_parts_r9, t_listing_reading_signs_r10, t_listing_times_r11⟩, e2, q1⟩ := t_fX3_gather N t_listing_reading_digits t_listing_reading_laid t_listing_reading_open t_listing_reading_order t_listing_reading_prizes t_listing_reading_stage t_listing_reading_numbers t_listing_reading_parts t_listing_reading_signs t_listing_times t_text_length t_text_bytes t_race_guns_ticks t_race_runners_entered t_race_runners_dropped t_race_runners_facts t_race_runners_splits t_race_runners_struck t_race_runners_waved t_race_way_mats t_race_way_cuts hN ⟨by omega, by omega⟩ ⟨by omega, by omega⟩ ⟨by omega, by omega⟩
  rw [e2, Option.bind_some]
  dsimp only
  by_cases h3 : (zb b1) = 0
  · rw [if_pos h3]
    exact ⟨_, rfl, trivial⟩
  · rw [if_neg h3]
    obtain ⟨r14, e5, q4⟩ := t_fX3_size N t_listing_times_r11 hN
    rw [e5, Option.bind_some]
    exact ⟨_, rfl, trivial⟩
theorem t_fX10_prizes (N : Nat) (t_listing_reading_digits : Int32) (t_listing_reading_laid : Int32) (t_listing_reading_open : Int32) (t_listing_reading_order : Int32) (t_listing_reading_prizes : Int32) (t_listing_reading_stage : Int32) (t_listing_reading_numbers : Nat → Int32) (t_listing_reading_parts : Nat → Int32) (t_listing_reading_signs : Nat → Int32) (t_listing_times : Nat → Int32) (t_race_guns_ticks : Nat → Int32) (t_race_runners_entered : Int32) (t_race_runners_dropped : Nat → Int32) (t_race_runners_facts : Nat → Int32) (t_race_runners_splits : Nat → Int32) (t_race_runners_struck : Nat → Int32) (t_race_runners_waved : Nat → Int32) (t_race_way_mats : Int32) (t_race_way_cuts : Nat → Int32) (t_text_length : Int32) (t_text_bytes : Nat → Int32) (hN : 10000 ≤ N) (h_t_race_runners_entered : 0 ≤ t_race_runners_entered.toInt ∧ t_race_runners_entered.toInt ≤ 60) (h_t_race_way_mats : 0 ≤ t_race_way_mats.toInt ∧ t_race_way_mats.toInt ≤ 12) (h_t_text_length : 0 ≤ t_text_length.toInt ∧ t_text_length.toInt ≤ 200) : ∃ r, fX10_prizes N t_listing_reading_digits t_listing_reading_laid t_listing_reading_open t_listing_reading_order t_listing_reading_prizes t_listing_reading_stage t_listing_reading_numbers t_listing_reading_parts t_listing_reading_signs t_listing_times t_race_guns_ticks t_race_runners_entered t_race_runners_dropped t_race_runners_facts t_race_runners_splits t_race_runners_struck t_race_runners_waved t_race_way_mats t_race_way_cuts t_text_length t_text_bytes = some r ∧ (True) := by
  unfold fX10_prizes
  have k0 : (0 : Int32).toInt = 0 := rfl
  have km : (-1 : Int32).toInt = -1 := rfl
  obtain ⟨⟨b1, t_listing_reading_digits_r2, t_listing_reading_laid_r3, t_listing_reading_open_r4, t_listing_reading_order_r5, t_listing_reading_prizes_r6, t_listing_reading_stage_r7, t_listing_reading_numbers_r8, t_listing_reading_parts_r9, t_listing_reading_signs_r10, t_listing_times_r11⟩, e2, q1⟩ := t_fX3_gather N t_listing_reading_digits t_listing_reading_laid t_listing_reading_open t_listing_reading_order t_listing_reading_prizes t_listing_reading_stage t_listing_reading_numbers t_listing_reading_parts t_listing_reading_signs t_listing_times t_text_length t_text_bytes t_race_guns_ticks t_race_runners_entered t_race_runners_dropped t_race_runners_facts t_race_runners_splits t_race_runners_struck t_race_runners_waved t_race_way_mats t_race_way_cuts hN ⟨by omega, by omega⟩ ⟨by omega, by omega⟩ ⟨by omega, by omega⟩
  rw [e2, Option.bind_some]
  dsimp only
  by_cases h3 : (zb b1) = 0
  · rw [if_pos h3]
    exact ⟨_, rfl, trivial⟩
  · rw [if_neg h3]
    obtain ⟨r14, e5, q4⟩ := t_fX3_prizeWinners N t_listing_reading_prizes_r6 t_listing_times_r11 hN
    rw [e5, Option.bind_some]
    exact ⟨_, rfl, trivial⟩
theorem t_fX10_team (N : Nat) (t_listing_reading_digits : Int32) (t_listing_reading_laid : Int32) (t_listing_reading_open : Int32) (t_listing_reading_order : Int32) (t_listing_reading_prizes : Int32) (t_listing_reading_stage : Int32) (t_listing_reading_numbers : Nat → Int32) (t_listing_reading_parts : Nat → Int32) (t_listing_reading_signs : Nat → Int32) (t_listing_times : Nat → Int32) (t_race_guns_ticks : Nat → Int32) (t_race_runners_entered : Int32) (t_race_runners_dropped : Nat → Int32) (t_race_runners_facts : Nat → Int32) (t_race_runners_splits : Nat → Int32) (t_race_runners_struck : Nat → Int32) (t_race_runners_waved : Nat → Int32) (t_race_way_mats : Int32) (t_race_way_cuts : Nat → Int32) (t_text_length : Int32) (t_text_bytes : Nat → Int32) (x1 : Int32) (x2 : Int32) (hN : 10000 ≤ N) (h_t_race_runners_entered : 0 ≤ t_race_runners_entered.toInt ∧ t_race_runners_entered.toInt ≤ 60) (h_t_race_way_mats : 0 ≤ t_race_way_mats.toInt ∧ t_race_way_mats.toInt ≤ 12) (h_t_text_length : 0 ≤ t_text_length.toInt ∧ t_text_length.toInt ≤ 200) : ∃ r, fX10_team N t_listing_reading_digits t_listing_reading_laid t_listing_reading_open t_listing_reading_order t_listing_reading_prizes t_listing_reading_stage t_listing_reading_numbers t_listing_reading_parts t_listing_reading_signs t_listing_times t_race_guns_ticks t_race_runners_entered t_race_runners_dropped t_race_runners_facts t_race_runners_splits t_race_runners_struck t_race_runners_waved t_race_way_mats t_race_way_cuts t_text_length t_text_bytes x1 x2 = some r ∧ (True) := by
  unfold fX10_team
  have k0 : (0 : Int32).toInt = 0 := rfl
  have km : (-1 : Int32).toInt = -1 := rfl
  have k_1 := zq_k 1 (by decide)
  have k_9 := zq_k 9 (by decide)
  have k_10 := zq_k 10 (by decide)
  obtain ⟨b1, e2, q1⟩ := t_fX10_within x1 (nI 1) (nI 9) 
  rw [e2, Option.bind_some]
  by_cases h3 : (zb b1) = 0
  · rw [if_pos h3]
    exact ⟨_, rfl, trivial⟩
  · rw [if_neg h3]
    have q4 := q1 h3
    obtain ⟨b4, e6, q5⟩ := t_fX10_within x2 (nI 1) (nI 10) 
    rw [e6, Option.bind_some]
    by_cases h7 : (zb b4) = 0
    · rw [if_pos h7]
      exact ⟨_, rfl, trivial⟩
    · rw [if_neg h7]
      have q8 := q5 h7
      obtain ⟨⟨b7, t_listing_reading_digits_r8, t_listing_reading_laid_r9, t_listing_reading_open_r10, t_listing_reading_order_r11, t_listing_reading_prizes_r12, t_listing_reading_stage_r13, t_listing_reading_numbers_r14, t_listing_reading_parts_r15, t_listing_reading_signs_r16, t_listing_times_r17⟩, e10, q9⟩ := t_fX3_gather N t_listing_reading_digits t_listing_reading_laid t_listing_reading_open t_listing_reading_order t_listing_reading_prizes t_listing_reading_stage t_listing_reading_numbers t_listing_reading_parts t_listing_reading_signs t_listing_times t_text_length t_text_bytes t_race_guns_ticks t_race_runners_entered t_race_runners_dropped t_race_runners_facts t_race_runners_splits t_race_runners_struck t_race_runners_waved t_race_way_mats t_race_way_cuts hN ⟨by omega, by omega⟩ ⟨by omega, by omega⟩ ⟨by omega, by omega⟩
      rw [e10, Option.bind_some]
      dsimp only
      by_cases h11 : (zb b7) = 0
      · rw [if_pos h11]
        exact ⟨_, rfl, trivial⟩
      · rw [if_neg h11]
        obtain ⟨⟨r20, t_listing_times_r21⟩, e13, q12⟩ := t_fX3_bestOfTeam N t_listing_times_r17 t_race_runners_entered t_race_runners_facts x1 x2 hN ⟨by omega, by omega⟩
        rw [e13, Option.bind_some]
        dsimp only
        exact ⟨_, rfl, trivial⟩
theorem t_fX10_state (N : Nat) (t_race_guns_ticks : Nat → Int32) (t_race_runners_entered : Int32) (t_race_runners_dropped : Nat → Int32) (t_race_runners_facts : Nat → Int32) (t_race_runners_splits : Nat → Int32) (t_race_runners_struck : Nat → Int32) (t_race_runners_waved : Nat → Int32) (t_race_way_mats : Int32) (t_race_way_cuts : Nat → Int32) (x1 : Int32) (hN : 10000 ≤ N) (h_t_race_runners_entered : 0 ≤ t_race_runners_entered.toInt ∧ t_race_runners_entered.toInt ≤ 60) (h_t_race_way_mats : 0 ≤ t_race_way_mats.toInt ∧ t_race_way_mats.toInt ≤ 12) : ∃ r, fX10_state N t_race_guns_ticks t_race_runners_entered t_race_runners_dropped t_race_runners_facts t_race_runners_splits t_race_runners_struck t_race_runners_waved t_race_way_mats t_race_way_cuts x1 = some r ∧ (True) := by
  unfold fX10_state
  have k0 : (0 : Int32).toInt = 0 := rfl
  have km : (-1 : Int32).toInt = -1 := rfl
  obtain ⟨r1, e2, q1⟩ := t_fX4_howManyAre N t_race_guns_ticks t_race_runners_entered t_race_runners_dropped t_race_runners_facts t_race_runners_splits t_race_runners_struck t_race_runners_waved t_race_way_mats t_race_way_cuts x1 hN ⟨by omega, by omega⟩ ⟨by omega, by omega⟩
  rw [e2, Option.bind_some]
  exact ⟨_, rfl, trivial⟩
theorem t_fX10_count (N : Nat) (t_doubts_doubts : Int32) (t_doubts_codes : Nat → Int32) (t_race_guns_ticks : Nat → Int32) (t_race_runners_entered : Int32) (t_race_runners_strikings : Int32) (t_race_runners_facts : Nat → Int32) (t_race_runners_splits : Nat → Int32) (t_race_way_mats : Int32) (t_race_way_places : Nat → Int32) (t_text_length : Int32) (t_trail_greatest : Int32) (t_trail_least : Int32) (t_trail_mats : Int32) (t_trail_places : Nat → Int32) (t_trail_ticks : Nat → Int32) (x1 : Int32) (hN : 10000 ≤ N) (h_t_race_runners_entered : 0 ≤ t_race_runners_entered.toInt ∧ t_race_runners_entered.toInt ≤ 60) (h_t_race_way_mats : 0 ≤ t_race_way_mats.toInt ∧ t_race_way_mats.toInt ≤ 12) (h_t_text_length : 0 ≤ t_text_length.toInt ∧ t_text_length.toInt ≤ 200) : ∃ r, fX10_count N t_doubts_doubts t_doubts_codes t_race_guns_ticks t_race_runners_entered t_race_runners_strikings t_race_runners_facts t_race_runners_splits t_race_way_mats t_race_way_places t_text_length t_trail_greatest t_trail_least t_trail_mats t_trail_places t_trail_ticks x1 = some r ∧ (True) := by
  unfold fX10_count
  have k0 : (0 : Int32).toInt = 0 := rfl
  have km : (-1 : Int32).toInt = -1 := rfl
  have k_0 := zq_k 0 (by decide)
  have k_1 := zq_k 1 (by decide)
  have k_2 := zq_k 2 (by decide)
  have k_3 := zq_k 3 (by decide)
  have k_4 := zq_k 4 (by decide)
  have k_5 := zq_k 5 (by decide)
  have k_6 := zq_k 6 (by decide)
  by_cases h1 : x1 = (nI 0)
  · rw [if_pos h1]
    have q2 := zq_eq h1
    obtain ⟨r2, e4, q3⟩ := t_fX9_size t_race_way_mats ⟨by omega, by omega⟩
    rw [e4, Option.bind_some]
    exact ⟨_, rfl, trivial⟩
  · rw [if_neg h1]
    by_cases h5 : x1 = (nI 1)
    · rw [if_pos h5]
      have q6 := zq_eq h5
      obtain ⟨r5, e8, q7⟩ := t_fX6_size t_race_runners_entered ⟨by omega, by omega⟩
      rw [e8, Option.bind_some]
      exact ⟨_, rfl, trivial⟩
    · rw [if_neg h5]
      by_cases h9 : x1 = (nI 2)
      · rw [if_pos h9]
        have q10 := zq_eq h9
        obtain ⟨⟨r8, t_doubts_doubts_r9, t_doubts_codes_r10, t_trail_greatest_r11, t_trail_least_r12, t_trail_mats_r13, t_trail_places_r14, t_trail_ticks_r15⟩, e12, q11⟩ := t_fX0_gather N t_doubts_doubts t_doubts_codes t_race_guns_ticks t_race_runners_entered t_race_runners_facts t_race_runners_splits t_race_way_mats t_race_way_places t_trail_greatest t_trail_least t_trail_mats t_trail_places t_trail_ticks hN ⟨by omega, by omega⟩ ⟨by omega, by omega⟩
        rw [e12, Option.bind_some]
        dsimp only
        exact ⟨_, rfl, trivial⟩
      · rw [if_neg h9]
        by_cases h13 : x1 = (nI 3)
        · rw [if_pos h13]
          have q14 := zq_eq h13
          obtain ⟨r18, e16, q15⟩ := t_fX7_size t_text_length ⟨by omega, by omega⟩
          rw [e16, Option.bind_some]
          exact ⟨_, rfl, trivial⟩
        · rw [if_neg h13]
          by_cases h17 : x1 = (nI 4)
          · rw [if_pos h17]
            have q18 := zq_eq h17
            obtain ⟨r21, e20, q19⟩ := t_fX6_strikings t_race_runners_strikings 
            rw [e20, Option.bind_some]
            exact ⟨_, rfl, trivial⟩
          · rw [if_neg h17]
            by_cases h21 : x1 = (nI 5)
            · rw [if_pos h21]
              have q22 := zq_eq h21
              obtain ⟨r24, e24, q23⟩ := t_fX4_howManySplits N t_race_runners_entered t_race_runners_splits t_race_way_mats hN ⟨by omega, by omega⟩ ⟨by omega, by omega⟩
              rw [e24, Option.bind_some]
              exact ⟨_, rfl, trivial⟩
            · rw [if_neg h21]
              by_cases h25 : x1 = (nI 6)
              · rw [if_pos h25]
                have q26 := zq_eq h25
                obtain ⟨r27, e28, q27⟩ := t_fX9_lastMat t_race_way_mats ⟨by omega, by omega⟩
                rw [e28, Option.bind_some]
                obtain ⟨r29, e30, q29⟩ := t_fX9_placeAt t_race_way_mats t_race_way_places r27 ⟨by omega, by omega⟩
                rw [e30, Option.bind_some]
                exact ⟨_, rfl, trivial⟩
              · rw [if_neg h25]
                exact ⟨_, rfl, trivial⟩
theorem t_fX11_isMat (t_now : Nat → Int32) (x1 : Int32) (g0 : zNowOk t_now) : ∃ r, fX11_isMat t_now x1 = some r ∧ (¬ (zb r = 0) → 0 ≤ x1.toInt ∧ x1.toInt < (t_now 0).toInt) := by
  unfold fX11_isMat
  have k0 : (0 : Int32).toInt = 0 := rfl
  have km : (-1 : Int32).toInt = -1 := rfl
  have zz0 := g0.1
  by_cases h1 : x1 < 0
  · rw [if_pos h1]
    have q2 := zq_lt h1
    exact ⟨_, rfl, fun q => absurd zl_f0 q⟩
  · rw [if_neg h1]
    have q3 := zq_nlt h1
    obtain ⟨r2, e5, q4⟩ := t_fX11_mats t_now 
    rw [e5, Option.bind_some]
    by_cases h6 : r2 ≤ x1
    · rw [if_pos h6]
      have q7 := zq_le h6
      exact ⟨_, rfl, fun q => absurd zl_f0 q⟩
    · rw [if_neg h6]
      have q8 := zq_nle h6
      exact ⟨_, rfl, fun _ => by omega⟩
theorem t_fX11_isRunner (t_thrown : Int32) (t_now : Nat → Int32) (x1 : Int32) (g0 : zNowOk t_now) : ∃ r, fX11_isRunner t_thrown t_now x1 = some r ∧ (¬ (zb r.1 = 0) → 0 ≤ x1.toInt ∧ x1.toInt < (t_now 1).toInt) := by
  unfold fX11_isRunner
  have k0 : (0 : Int32).toInt = 0 := rfl
  have km : (-1 : Int32).toInt = -1 := rfl
  have k_0 := zq_k 0 (by decide)
  have zz0 := g0.1
  by_cases h1 : x1 < 0
  · rw [if_pos h1]
    have q2 := zq_lt h1
    exact ⟨_, rfl, fun q => absurd zl_f0 q⟩
  · rw [if_neg h1]
    have q3 := zq_nlt h1
    obtain ⟨r2, e5, q4⟩ := t_fX11_runners t_now 
    rw [e5, Option.bind_some]
    by_cases h6 : r2 ≤ x1
    · rw [if_pos h6]
      have q7 := zq_le h6
      exact ⟨_, rfl, fun q => absurd zl_f0 q⟩
    · rw [if_neg h6]
      have q8 := zq_nle h6
      exact ⟨_, rfl, fun _ => by omega⟩
theorem t_fX11_isIn (x1 : Int32) (x2 : Int32) (x3 : Int32)  : ∃ r, fX11_isIn x1 x2 x3 = some r ∧ (¬ (zb r = 0) → x2.toInt ≤ x1.toInt ∧ x1.toInt ≤ x3.toInt) := by
  unfold fX11_isIn
  have k0 : (0 : Int32).toInt = 0 := rfl
  have km : (-1 : Int32).toInt = -1 := rfl
  by_cases h1 : x1 < x2
  · rw [if_pos h1]
    have q2 := zq_lt h1
    exact ⟨_, rfl, fun q => absurd zl_f0 q⟩
  · rw [if_neg h1]
    have q3 := zq_nlt h1
    by_cases h4 : x3 < x1
    · rw [if_pos h4]
      have q5 := zq_lt h4
      exact ⟨_, rfl, fun q => absurd zl_f0 q⟩
    · rw [if_neg h4]
      have q6 := zq_nlt h4
      exact ⟨_, rfl, fun _ => by omega⟩
theorem t_fX11_splitOf (t_now : Nat → Int32) (x1 : Int32) (x2 : Int32) (h_x1 : 0 ≤ x1.toInt ∧ x1.toInt ≤ 59) (h_x2 : 0 ≤ x2.toInt ∧ x2.toInt ≤ 11) (g0 : zNowOk t_now) : ∃ r, fX11_splitOf t_now x1 x2 = some r ∧ (True) := by
  unfold fX11_splitOf
  have k0 : (0 : Int32).toInt = 0 := rfl
  have km : (-1 : Int32).toInt = -1 := rfl
  have k_12 := zq_k 12 (by decide)
  have zz0 := g0.1
  try have a1 := zq_add (x := (nI 12)) (y := x2) (by omega) (by omega)
  obtain ⟨r1, e3, q2⟩ := t_fX11_of t_now x1 ((nI 12) + x2) ⟨by omega, by omega⟩ ⟨by omega, by omega⟩ (by first | assumption | omega | exact Or.inl rfl | exact Or.inr ⟨by omega, by omega⟩)
  rw [e3, Option.bind_some]
  exact ⟨_, rfl, trivial⟩
theorem t_fX11_startOf (t_now : Nat → Int32) (x1 : Int32) (h_x1 : 0 ≤ x1.toInt ∧ x1.toInt ≤ 59) (g0 : x1.toInt < (t_now 1).toInt) (g1 : zNowOk t_now) : ∃ r, fX11_startOf t_now x1 = some r ∧ (True) := by
  unfold fX11_startOf
  have k0 : (0 : Int32).toInt = 0 := rfl
  have km : (-1 : Int32).toInt = -1 := rfl
  have k_0 := zq_k 0 (by decide)
  have k_5 := zq_k 5 (by decide)
  have zz1 := g1.1
  obtain ⟨r1, e2, q1⟩ := t_fX11_splitOf t_now x1 (nI 0) ⟨by omega, by omega⟩ ⟨by omega, by omega⟩ (by first | assumption | omega | exact Or.inl rfl | exact Or.inr ⟨by omega, by omega⟩)
  rw [e2, Option.bind_some]
  by_cases h3 : r1 = (-1 : Int32)
  · rw [if_pos h3]
    have q4 := zq_eq h3
    obtain ⟨r4, e6, q5⟩ := t_fX11_of t_now x1 (nI 5) ⟨by omega, by omega⟩ ⟨by omega, by omega⟩ (by first | assumption | omega | exact Or.inl rfl | exact Or.inr ⟨by omega, by omega⟩)
    rw [e6, Option.bind_some]
    obtain ⟨r6, e8, q7⟩ := t_fX11_gunOf t_now r4 ⟨by omega, by omega⟩ (by first | assumption | omega | exact Or.inl rfl | exact Or.inr ⟨by omega, by omega⟩)
    rw [e8, Option.bind_some]
    exact ⟨_, rfl, trivial⟩
  · rw [if_neg h3]
    have q9 := zq_ne h3
    first | rw [e2, Option.bind_some] | rw [Option.bind_some]
    exact ⟨_, rfl, trivial⟩
theorem t_fX11_seen (t_now : Nat → Int32) (x1 : Int32) (x2 : Int32) (h_x1 : 0 ≤ x1.toInt ∧ x1.toInt ≤ 59) (h_x2 : 0 ≤ x2.toInt ∧ x2.toInt ≤ 11) (g0 : x1.toInt < (t_now 1).toInt) (g1 : zNowOk t_now) : ∃ r, fX11_seen t_now x1 x2 = some r ∧ (True) := by
  unfold fX11_seen
  have k0 : (0 : Int32).toInt = 0 := rfl
  have km : (-1 : Int32).toInt = -1 := rfl
  have zz1 := g1.1
  by_cases h1 : x2 = 0
  · rw [if_pos h1]
    have q2 := zq_eq h1
    obtain ⟨r4, e4, q3⟩ := t_fX11_startOf t_now x1 ⟨by omega, by omega⟩ (by first | assumption | omega | exact Or.inl rfl | exact Or.inr ⟨by omega, by omega⟩) (by first | assumption | omega | exact Or.inl rfl | exact Or.inr ⟨by omega, by omega⟩)
    rw [e4, Option.bind_some]
    exact ⟨_, rfl, trivial⟩
  · rw [if_neg h1]
    have q5 := zq_ne h1
    obtain ⟨r2, e7, q6⟩ := t_fX11_splitOf t_now x1 x2 ⟨by omega, by omega⟩ ⟨by omega, by omega⟩ (by first | assumption | omega | exact Or.inl rfl | exact Or.inr ⟨by omega, by omega⟩)
    rw [e7, Option.bind_some]
    exact ⟨_, rfl, trivial⟩
theorem t_fX11_isOut_L4 (t_now : Nat → Int32) (x1 : Int32) (K4_53 : Bool → Int32 → Option (Bool)) (h_x1 : 0 ≤ x1.toInt ∧ x1.toInt ≤ 59) (g0 : x1.toInt < (t_now 1).toInt) (g1 : zNowOk t_now) (hK : ∀ (v2_4 : Bool) (v3_4 : Int32), (0 ≤ v3_4.toInt ∧ v3_4.toInt ≤ 12) → ∃ r, K4_53 v2_4 v3_4 = some r ∧ (True)) : ∀ (n : Nat) (v2_4 : Bool) (v3_4 : Int32), (0 ≤ v3_4.toInt ∧ v3_4.toInt ≤ 12) → (1 ≤ n ∧ 13 - v3_4.toInt ≤ (n : Int)) → ∃ r, fX11_isOut_L4 t_now x1 K4_53 n v2_4 v3_4 = some r ∧ (True) := by
  intro n
  induction n with
  | zero => intro v2_4 v3_4 iv3_4 im; exact absurd im.1 (by decide)
  | succ n4 ih =>
    intro v2_4 v3_4 iv3_4 im
    rw [fX11_isOut_L4]
    have im2 := im.2
    have k0 : (0 : Int32).toInt = 0 := rfl
    have km : (-1 : Int32).toInt = -1 := rfl
    have k_1 := zq_k 1 (by decide)
    have k_3 := zq_k 3 (by decide)
    have zz1 := g1.1
    obtain ⟨r5, e2, q1⟩ := t_fX11_mats t_now 
    rw [e2, Option.bind_some]
    by_cases h3 : r5 ≤ v3_4
    · rw [if_pos h3]
      have q4 := zq_le h3
      exact hK v2_4 v3_4 ⟨by omega, by omega⟩
    · rw [if_neg h3]
      have q5 := zq_nle h3
      by_cases h6 : (zb v2_4) = 0
      · rw [if_pos h6]
        obtain ⟨r9, e8, q7⟩ := t_fX11_ofMat t_now v3_4 (nI 3) ⟨by omega, by omega⟩ ⟨by omega, by omega⟩ (by first | assumption | omega | exact Or.inl rfl | exact Or.inr ⟨by omega, by omega⟩)
        rw [e8, Option.bind_some]
        by_cases h9 : r9 = (-1 : Int32)
        · rw [if_pos h9]
          have q10 := zq_eq h9
          try have a11 := zq_add (x := v3_4) (y := (nI 1)) (by omega) (by omega)
          exact ih false (v3_4 + (nI 1)) ⟨by omega, by omega⟩ ⟨by omega, by omega⟩
        · rw [if_neg h9]
          have q12 := zq_ne h9
          obtain ⟨r12, e14, q13⟩ := t_fX11_splitOf t_now x1 v3_4 ⟨by omega, by omega⟩ ⟨by omega, by omega⟩ (by first | assumption | omega | exact Or.inl rfl | exact Or.inr ⟨by omega, by omega⟩)
          rw [e14, Option.bind_some]
          first | rw [e8, Option.bind_some] | rw [Option.bind_some]
          by_cases h15 : r12 ≤ r9
          · rw [if_pos h15]
            have q16 := zq_le h15
            try have a17 := zq_add (x := v3_4) (y := (nI 1)) (by omega) (by omega)
            exact ih false (v3_4 + (nI 1)) ⟨by omega, by omega⟩ ⟨by omega, by omega⟩
          · rw [if_neg h15]
            have q18 := zq_nle h15
            try have a19 := zq_add (x := v3_4) (y := (nI 1)) (by omega) (by omega)
            exact ih true (v3_4 + (nI 1)) ⟨by omega, by omega⟩ ⟨by omega, by omega⟩
      · rw [if_neg h6]
        try have a20 := zq_add (x := v3_4) (y := (nI 1)) (by omega) (by omega)
        exact ih true (v3_4 + (nI 1)) ⟨by omega, by omega⟩ ⟨by omega, by omega⟩
theorem t_fX11_isOut (N : Nat) (t_now : Nat → Int32) (x1 : Int32) (hN : 10000 ≤ N) (h_x1 : 0 ≤ x1.toInt ∧ x1.toInt ≤ 59) (g0 : x1.toInt < (t_now 1).toInt) (g1 : zNowOk t_now) : ∃ r, fX11_isOut N t_now x1 = some r ∧ (True) := by
  unfold fX11_isOut
  have k0 : (0 : Int32).toInt = 0 := rfl
  have km : (-1 : Int32).toInt = -1 := rfl
  have k_0 := zq_k 0 (by decide)
  have k_7 := zq_k 7 (by decide)
  have zz1 := g1.1
  refine t_fX11_isOut_L4 t_now x1 _ ⟨by omega, by omega⟩ (by first | assumption | omega | exact Or.inl rfl | exact Or.inr ⟨by omega, by omega⟩) (by first | assumption | omega | exact Or.inl rfl | exact Or.inr ⟨by omega, by omega⟩) ?_ _ false (nI 0) ⟨by omega, by omega⟩ ⟨by omega, by omega⟩
  intro v2_4 v3_4 iv3_4
  by_cases h1 : (zb v2_4) = 0
  · rw [if_pos h1]
    exact ⟨_, rfl, trivial⟩
  · rw [if_neg h1]
    obtain ⟨r2, e3, q2⟩ := t_fX11_of t_now x1 (nI 7) ⟨by omega, by omega⟩ ⟨by omega, by omega⟩ (by first | assumption | omega | exact Or.inl rfl | exact Or.inr ⟨by omega, by omega⟩)
    rw [e3, Option.bind_some]
    by_cases h4 : r2 = 0
    · rw [if_pos h4]
      have q5 := zq_eq h4
      exact ⟨_, rfl, trivial⟩
    · rw [if_neg h4]
      have q6 := zq_ne h4
      exact ⟨_, rfl, trivial⟩
theorem t_fX11_stateOf (N : Nat) (t_now : Nat → Int32) (x1 : Int32) (hN : 10000 ≤ N) (h_x1 : 0 ≤ x1.toInt ∧ x1.toInt ≤ 59) (g0 : x1.toInt < (t_now 1).toInt) (g1 : zNowOk t_now) : ∃ r, fX11_stateOf N t_now x1 = some r ∧ (True) := by
  unfold fX11_stateOf
  have k0 : (0 : Int32).toInt = 0 := rfl
  have km : (-1 : Int32).toInt = -1 := rfl
  have k_0 := zq_k 0 (by decide)
  have k_1 := zq_k 1 (by decide)
  have k_2 := zq_k 2 (by decide)
  have k_3 := zq_k 3 (by decide)
  have k_4 := zq_k 4 (by decide)
  have k_5 := zq_k 5 (by decide)
  have k_6 := zq_k 6 (by decide)
  have k_8 := zq_k 8 (by decide)
  have zz1 := g1.1
  obtain ⟨r1, e2, q1⟩ := t_fX11_of t_now x1 (nI 8) ⟨by omega, by omega⟩ ⟨by omega, by omega⟩ (by first | assumption | omega | exact Or.inl rfl | exact Or.inr ⟨by omega, by omega⟩)
  rw [e2, Option.bind_some]
  by_cases h3 : r1 = (nI 1)
  · rw [if_pos h3]
    have q4 := zq_eq h3
    exact ⟨_, rfl, trivial⟩
  · rw [if_neg h3]
    obtain ⟨r4, e6, q5⟩ := t_fX11_of t_now x1 (nI 6) ⟨by omega, by omega⟩ ⟨by omega, by omega⟩ (by first | assumption | omega | exact Or.inl rfl | exact Or.inr ⟨by omega, by omega⟩)
    rw [e6, Option.bind_some]
    by_cases h7 : r4 = (nI 1)
    · rw [if_pos h7]
      have q8 := zq_eq h7
      exact ⟨_, rfl, trivial⟩
    · rw [if_neg h7]
      obtain ⟨b7, e10, q9⟩ := t_fX11_isOut N t_now x1 hN ⟨by omega, by omega⟩ (by first | assumption | omega | exact Or.inl rfl | exact Or.inr ⟨by omega, by omega⟩) (by first | assumption | omega | exact Or.inl rfl | exact Or.inr ⟨by omega, by omega⟩)
      rw [e10, Option.bind_some]
      by_cases h11 : (zb b7) = 0
      · rw [if_pos h11]
        obtain ⟨r10, e13, q12⟩ := t_fX11_mats t_now 
        rw [e13, Option.bind_some]
        by_cases h14 : r10 ≤ (nI 1)
        · rw [if_pos h14]
          have q15 := zq_le h14
          obtain ⟨r13, e17, q16⟩ := t_fX11_startOf t_now x1 ⟨by omega, by omega⟩ (by first | assumption | omega | exact Or.inl rfl | exact Or.inr ⟨by omega, by omega⟩) (by first | assumption | omega | exact Or.inl rfl | exact Or.inr ⟨by omega, by omega⟩)
          rw [e17, Option.bind_some]
          by_cases h18 : r13 = (-1 : Int32)
          · rw [if_pos h18]
            have q19 := zq_eq h18
            exact ⟨_, rfl, trivial⟩
          · rw [if_neg h18]
            have q20 := zq_ne h18
            exact ⟨_, rfl, trivial⟩
        · rw [if_neg h14]
          have q21 := zq_nle h14
          first | rw [e13, Option.bind_some] | rw [Option.bind_some]
          try have a22 := zq_sub (x := r10) (y := (nI 1)) (by omega) (by omega)
          obtain ⟨r18, e24, q23⟩ := t_fX11_splitOf t_now x1 (r10 - (nI 1)) ⟨by omega, by omega⟩ ⟨by omega, by omega⟩ (by first | assumption | omega | exact Or.inl rfl | exact Or.inr ⟨by omega, by omega⟩)
          rw [e24, Option.bind_some]
          by_cases h25 : r18 = (-1 : Int32)
          · rw [if_pos h25]
            have q26 := zq_eq h25
            obtain ⟨r21, e28, q27⟩ := t_fX11_startOf t_now x1 ⟨by omega, by omega⟩ (by first | assumption | omega | exact Or.inl rfl | exact Or.inr ⟨by omega, by omega⟩) (by first | assumption | omega | exact Or.inl rfl | exact Or.inr ⟨by omega, by omega⟩)
            rw [e28, Option.bind_some]
            by_cases h29 : r21 = (-1 : Int32)
            · rw [if_pos h29]
              have q30 := zq_eq h29
              exact ⟨_, rfl, trivial⟩
            · rw [if_neg h29]
              have q31 := zq_ne h29
              exact ⟨_, rfl, trivial⟩
          · rw [if_neg h25]
            have q32 := zq_ne h25
            exact ⟨_, rfl, trivial⟩
      · rw [if_neg h11]
        exact ⟨_, rfl, trivial⟩
theorem t_fX11_timeFrom (N : Nat) (t_now : Nat → Int32) (x1 : Int32) (x2 : Int32) (hN : 10000 ≤ N) (h_x1 : 0 ≤ x1.toInt ∧ x1.toInt ≤ 59) (g0 : x1.toInt < (t_now 1).toInt) (g1 : zNowOk t_now) : ∃ r, fX11_timeFrom N t_now x1 x2 = some r ∧ (True) := by
  unfold fX11_timeFrom
  have k0 : (0 : Int32).toInt = 0 := rfl
  have km : (-1 : Int32).toInt = -1 := rfl
  have k_1 := zq_k 1 (by decide)
  have k_2 := zq_k 2 (by decide)
  have zz1 := g1.1
  obtain ⟨r1, e2, q1⟩ := t_fX11_stateOf N t_now x1 hN ⟨by omega, by omega⟩ (by first | assumption | omega | exact Or.inl rfl | exact Or.inr ⟨by omega, by omega⟩) (by first | assumption | omega | exact Or.inl rfl | exact Or.inr ⟨by omega, by omega⟩)
  rw [e2, Option.bind_some]
  by_cases h3 : r1 = (nI 2)
  · rw [if_pos h3]
    have q4 := zq_eq h3
    by_cases h5 : x2 = (-1 : Int32)
    · rw [if_pos h5]
      have q6 := zq_eq h5
      exact ⟨_, rfl, trivial⟩
    · rw [if_neg h5]
      have q7 := zq_ne h5
      obtain ⟨r5, e9, q8⟩ := t_fX11_mats t_now 
      rw [e9, Option.bind_some]
      try have a10 := zq_sub (x := r5) (y := (nI 1)) (by omega) (by omega)
      obtain ⟨r7, e12, q11⟩ := t_fX11_splitOf t_now x1 (r5 - (nI 1)) ⟨by omega, by omega⟩ ⟨by omega, by omega⟩ (by first | assumption | omega | exact Or.inl rfl | exact Or.inr ⟨by omega, by omega⟩)
      rw [e12, Option.bind_some]
      by_cases h13 : 0 ≤ (r7 - x2)
      · rw [if_pos h13]
        have q14 := zq_le h13
        exact ⟨_, rfl, trivial⟩
      · rw [if_neg h13]
        have q15 := zq_nle h13
        exact ⟨_, rfl, trivial⟩
  · rw [if_neg h3]
    exact ⟨_, rfl, trivial⟩
theorem t_fX11_timeOf (N : Nat) (t_now : Nat → Int32) (x1 : Int32) (x2 : Int32) (hN : 10000 ≤ N) (h_x1 : 0 ≤ x1.toInt ∧ x1.toInt ≤ 59) (g0 : x1.toInt < (t_now 1).toInt) (g1 : zNowOk t_now) : ∃ r, fX11_timeOf N t_now x1 x2 = some r ∧ (True) := by
  unfold fX11_timeOf
  have k0 : (0 : Int32).toInt = 0 := rfl
  have km : (-1 : Int32).toInt = -1 := rfl
  have k_5 := zq_k 5 (by decide)
  have zz1 := g1.1
  by_cases h1 : x2 = 0
  · rw [if_pos h1]
    have q2 := zq_eq h1
    obtain ⟨r2, e4, q3⟩ := t_fX11_startOf t_now x1 ⟨by omega, by omega⟩ (by first | assumption | omega | exact Or.inl rfl | exact Or.inr ⟨by omega, by omega⟩) (by first | assumption | omega | exact Or.inl rfl | exact Or.inr ⟨by omega, by omega⟩)
    rw [e4, Option.bind_some]
    obtain ⟨r4, e6, q5⟩ := t_fX11_timeFrom N t_now x1 r2 hN ⟨by omega, by omega⟩ (by first | assumption | omega | exact Or.inl rfl | exact Or.inr ⟨by omega, by omega⟩) (by first | assumption | omega | exact Or.inl rfl | exact Or.inr ⟨by omega, by omega⟩)
    rw [e6, Option.bind_some]
    exact ⟨_, rfl, trivial⟩
  · rw [if_neg h1]
    have q7 := zq_ne h1
    obtain ⟨r6, e9, q8⟩ := t_fX11_of t_now x1 (nI 5) ⟨by omega, by omega⟩ ⟨by omega, by omega⟩ (by first | assumption | omega | exact Or.inl rfl | exact Or.inr ⟨by omega, by omega⟩)
    rw [e9, Option.bind_some]
    obtain ⟨r8, e11, q10⟩ := t_fX11_gunOf t_now r6 ⟨by omega, by omega⟩ (by first | assumption | omega | exact Or.inl rfl | exact Or.inr ⟨by omega, by omega⟩)
    rw [e11, Option.bind_some]
    obtain ⟨r10, e13, q12⟩ := t_fX11_timeFrom N t_now x1 r8 hN ⟨by omega, by omega⟩ (by first | assumption | omega | exact Or.inl rfl | exact Or.inr ⟨by omega, by omega⟩) (by first | assumption | omega | exact Or.inl rfl | exact Or.inr ⟨by omega, by omega⟩)
    rw [e13, Option.bind_some]
    exact ⟨_, rfl, trivial⟩
theorem t_fX11_wayLength (t_now : Nat → Int32) (g0 : zNowOk t_now) : ∃ r, fX11_wayLength t_now = some r ∧ (True) := by
  unfold fX11_wayLength
  have k0 : (0 : Int32).toInt = 0 := rfl
  have km : (-1 : Int32).toInt = -1 := rfl
  have k_0 := zq_k 0 (by decide)
  have k_1 := zq_k 1 (by decide)
  have zz0 := g0.1
  obtain ⟨r1, e2, q1⟩ := t_fX11_mats t_now 
  rw [e2, Option.bind_some]
  try have a3 := zq_sub (x := r1) (y := (nI 1)) (by omega) (by omega)
  obtain ⟨r3, e5, q4⟩ := t_fX11_ofMat t_now (r1 - (nI 1)) (nI 0) ⟨by omega, by omega⟩ ⟨by omega, by omega⟩ (by first | assumption | omega | exact Or.inl rfl | exact Or.inr ⟨by omega, by omega⟩)
  rw [e5, Option.bind_some]
  exact ⟨_, rfl, trivial⟩
theorem t_fX11_told_L104 (t_now : Nat → Int32) (x1 : Int32) (K104_133 : Int32 → Int32 → Option (Int32 × Int32)) (h_x1 : 0 ≤ x1.toInt ∧ x1.toInt ≤ 59) (g0 : x1.toInt < (t_now 1).toInt) (g1 : zNowOk t_now) (hK : ∀ (v3_104 : Int32) (v4_104 : Int32), (0 ≤ v4_104.toInt ∧ v4_104.toInt ≤ 12) → ∃ r, K104_133 v3_104 v4_104 = some r ∧ (True)) : ∀ (n : Nat) (v3_104 : Int32) (v4_104 : Int32), (0 ≤ v4_104.toInt ∧ v4_104.toInt ≤ 12) → (1 ≤ n ∧ 13 - v4_104.toInt ≤ (n : Int)) → ∃ r, fX11_told_L104 t_now x1 K104_133 n v3_104 v4_104 = some r ∧ (True) := by
  intro n
  induction n with
  | zero => intro v3_104 v4_104 iv4_104 im; exact absurd im.1 (by decide)
  | succ n104 ih =>
    intro v3_104 v4_104 iv4_104 im
    rw [fX11_told_L104]
    have im2 := im.2
    have k0 : (0 : Int32).toInt = 0 := rfl
    have km : (-1 : Int32).toInt = -1 := rfl
    have k_1 := zq_k 1 (by decide)
    have zz1 := g1.1
    obtain ⟨r30, e2, q1⟩ := t_fX11_mats t_now 
    rw [e2, Option.bind_some]
    by_cases h3 : r30 ≤ v4_104
    · rw [if_pos h3]
      have q4 := zq_le h3
      exact hK v3_104 v4_104 ⟨by omega, by omega⟩
    · rw [if_neg h3]
      have q5 := zq_nle h3
      obtain ⟨r33, e7, q6⟩ := t_fX11_seen t_now x1 v4_104 ⟨by omega, by omega⟩ ⟨by omega, by omega⟩ (by first | assumption | omega | exact Or.inl rfl | exact Or.inr ⟨by omega, by omega⟩) (by first | assumption | omega | exact Or.inl rfl | exact Or.inr ⟨by omega, by omega⟩)
      rw [e7, Option.bind_some]
      by_cases h8 : r33 = (-1 : Int32)
      · rw [if_pos h8]
        have q9 := zq_eq h8
        try have a10 := zq_add (x := v4_104) (y := (nI 1)) (by omega) (by omega)
        exact ih v3_104 (v4_104 + (nI 1)) ⟨by omega, by omega⟩ ⟨by omega, by omega⟩
      · rw [if_neg h8]
        have q11 := zq_ne h8
        try have a12 := zq_add (x := v4_104) (y := (nI 1)) (by omega) (by omega)
        exact ih v4_104 (v4_104 + (nI 1)) ⟨by omega, by omega⟩ ⟨by omega, by omega⟩
theorem t_fX11_told (N : Nat) (t_thrown : Int32) (t_now : Nat → Int32) (x1 : Int32) (x2 : Int32) (hN : 10000 ≤ N) (g0 : zNowOk t_now) : ∃ r, fX11_told N t_thrown t_now x1 x2 = some r ∧ (True) := by
  unfold fX11_told
  have k0 : (0 : Int32).toInt = 0 := rfl
  have km : (-1 : Int32).toInt = -1 := rfl
  have k_0 := zq_k 0 (by decide)
  have k_1 := zq_k 1 (by decide)
  have k_2 := zq_k 2 (by decide)
  have k_3 := zq_k 3 (by decide)
  have k_4 := zq_k 4 (by decide)
  have k_5 := zq_k 5 (by decide)
  have k_6 := zq_k 6 (by decide)
  have k_7 := zq_k 7 (by decide)
  have k_8 := zq_k 8 (by decide)
  have k_9 := zq_k 9 (by decide)
  have k_10 := zq_k 10 (by decide)
  have k_11 := zq_k 11 (by decide)
  have k_12 := zq_k 12 (by decide)
  have k_13 := zq_k 13 (by decide)
  have zz0 := g0.1
  obtain ⟨⟨b1, t_thrown_r2⟩, e2, q1⟩ := t_fX11_isRunner t_thrown t_now x1 (by first | assumption | omega | exact Or.inl rfl | exact Or.inr ⟨by omega, by omega⟩)
  rw [e2, Option.bind_some]
  dsimp only
  dsimp only at q1
  by_cases h3 : (zb b1) = 0
  · rw [if_pos h3]
    exact ⟨_, rfl, trivial⟩
  · rw [if_neg h3]
    have q4 := q1 h3
    by_cases h5 : x2 = (nI 0)
    · rw [if_pos h5]
      have q6 := zq_eq h5
      obtain ⟨r6, e8, q7⟩ := t_fX11_of t_now x1 x2 ⟨by omega, by omega⟩ ⟨by omega, by omega⟩ (by first | assumption | omega | exact Or.inl rfl | exact Or.inr ⟨by omega, by omega⟩)
      rw [e8, Option.bind_some]
      exact ⟨_, rfl, trivial⟩
    · rw [if_neg h5]
      by_cases h9 : x2 = (nI 1)
      · rw [if_pos h9]
        have q10 := zq_eq h9
        obtain ⟨r9, e12, q11⟩ := t_fX11_of t_now x1 x2 ⟨by omega, by omega⟩ ⟨by omega, by omega⟩ (by first | assumption | omega | exact Or.inl rfl | exact Or.inr ⟨by omega, by omega⟩)
        rw [e12, Option.bind_some]
        exact ⟨_, rfl, trivial⟩
      · rw [if_neg h9]
        by_cases h13 : x2 = (nI 2)
        · rw [if_pos h13]
          have q14 := zq_eq h13
          obtain ⟨r12, e16, q15⟩ := t_fX11_of t_now x1 x2 ⟨by omega, by omega⟩ ⟨by omega, by omega⟩ (by first | assumption | omega | exact Or.inl rfl | exact Or.inr ⟨by omega, by omega⟩)
          rw [e16, Option.bind_some]
          exact ⟨_, rfl, trivial⟩
        · rw [if_neg h13]
          by_cases h17 : x2 = (nI 3)
          · rw [if_pos h17]
            have q18 := zq_eq h17
            obtain ⟨r15, e20, q19⟩ := t_fX11_of t_now x1 x2 ⟨by omega, by omega⟩ ⟨by omega, by omega⟩ (by first | assumption | omega | exact Or.inl rfl | exact Or.inr ⟨by omega, by omega⟩)
            rw [e20, Option.bind_some]
            exact ⟨_, rfl, trivial⟩
          · rw [if_neg h17]
            by_cases h21 : x2 = (nI 4)
            · rw [if_pos h21]
              have q22 := zq_eq h21
              obtain ⟨r18, e24, q23⟩ := t_fX11_of t_now x1 x2 ⟨by omega, by omega⟩ ⟨by omega, by omega⟩ (by first | assumption | omega | exact Or.inl rfl | exact Or.inr ⟨by omega, by omega⟩)
              rw [e24, Option.bind_some]
              exact ⟨_, rfl, trivial⟩
            · rw [if_neg h21]
              by_cases h25 : x2 = (nI 5)
              · rw [if_pos h25]
                have q26 := zq_eq h25
                obtain ⟨r21, e28, q27⟩ := t_fX11_of t_now x1 x2 ⟨by omega, by omega⟩ ⟨by omega, by omega⟩ (by first | assumption | omega | exact Or.inl rfl | exact Or.inr ⟨by omega, by omega⟩)
                rw [e28, Option.bind_some]
                exact ⟨_, rfl, trivial⟩
              · rw [if_neg h25]
                by_cases h29 : x2 = (nI 6)
                · rw [if_pos h29]
                  have q30 := zq_eq h29
                  obtain ⟨r24, e32, q31⟩ := t_fX11_stateOf N t_now x1 hN ⟨by omega, by omega⟩ (by first | assumption | omega | exact Or.inl rfl | exact Or.inr ⟨by omega, by omega⟩) (by first | assumption | omega | exact Or.inl rfl | exact Or.inr ⟨by omega, by omega⟩)
                  rw [e32, Option.bind_some]
                  exact ⟨_, rfl, trivial⟩
                · rw [if_neg h29]
                  by_cases h33 : x2 = (nI 7)
                  · rw [if_pos h33]
                    have q34 := zq_eq h33
                    obtain ⟨r27, e36, q35⟩ := t_fX11_startOf t_now x1 ⟨by omega, by omega⟩ (by first | assumption | omega | exact Or.inl rfl | exact Or.inr ⟨by omega, by omega⟩) (by first | assumption | omega | exact Or.inl rfl | exact Or.inr ⟨by omega, by omega⟩)
                    rw [e36, Option.bind_some]
                    exact ⟨_, rfl, trivial⟩
                  · rw [if_neg h33]
                    by_cases h37 : x2 = (nI 8)
                    · rw [if_pos h37]
                      have q38 := zq_eq h37
                      refine t_fX11_told_L104 t_now x1 _ ⟨by omega, by omega⟩ (by first | assumption | omega | exact Or.inl rfl | exact Or.inr ⟨by omega, by omega⟩) (by first | assumption | omega | exact Or.inl rfl | exact Or.inr ⟨by omega, by omega⟩) ?_ _ (-1 : Int32) (nI 0) ⟨by omega, by omega⟩ ⟨by omega, by omega⟩
                      intro v3_104 v4_104 iv4_104
                      exact ⟨_, rfl, trivial⟩
                    · rw [if_neg h37]
                      by_cases h39 : x2 = (nI 9)
                      · rw [if_pos h39]
                        have q40 := zq_eq h39
                        obtain ⟨r37, e42, q41⟩ := t_fX11_timeOf N t_now x1 (nI 0) hN ⟨by omega, by omega⟩ (by first | assumption | omega | exact Or.inl rfl | exact Or.inr ⟨by omega, by omega⟩) (by first | assumption | omega | exact Or.inl rfl | exact Or.inr ⟨by omega, by omega⟩)
                        rw [e42, Option.bind_some]
                        exact ⟨_, rfl, trivial⟩
                      · rw [if_neg h39]
                        by_cases h43 : x2 = (nI 10)
                        · rw [if_pos h43]
                          have q44 := zq_eq h43
                          obtain ⟨r40, e46, q45⟩ := t_fX11_timeOf N t_now x1 (nI 1) hN ⟨by omega, by omega⟩ (by first | assumption | omega | exact Or.inl rfl | exact Or.inr ⟨by omega, by omega⟩) (by first | assumption | omega | exact Or.inl rfl | exact Or.inr ⟨by omega, by omega⟩)
                          rw [e46, Option.bind_some]
                          exact ⟨_, rfl, trivial⟩
                        · rw [if_neg h43]
                          by_cases h47 : x2 = (nI 11)
                          · rw [if_pos h47]
                            have q48 := zq_eq h47
                            obtain ⟨r43, e50, q49⟩ := t_fX11_startOf t_now x1 ⟨by omega, by omega⟩ (by first | assumption | omega | exact Or.inl rfl | exact Or.inr ⟨by omega, by omega⟩) (by first | assumption | omega | exact Or.inl rfl | exact Or.inr ⟨by omega, by omega⟩)
                            rw [e50, Option.bind_some]
                            by_cases h51 : r43 = (-1 : Int32)
                            · rw [if_pos h51]
                              have q52 := zq_eq h51
                              exact ⟨_, rfl, trivial⟩
                            · rw [if_neg h51]
                              have q53 := zq_ne h51
                              obtain ⟨r46, e55, q54⟩ := t_fX11_splitOf t_now x1 (nI 0) ⟨by omega, by omega⟩ ⟨by omega, by omega⟩ (by first | assumption | omega | exact Or.inl rfl | exact Or.inr ⟨by omega, by omega⟩)
                              rw [e55, Option.bind_some]
                              by_cases h56 : r46 = (-1 : Int32)
                              · rw [if_pos h56]
                                have q57 := zq_eq h56
                                exact ⟨_, rfl, trivial⟩
                              · rw [if_neg h56]
                                have q58 := zq_ne h56
                                exact ⟨_, rfl, trivial⟩
                          · rw [if_neg h47]
                            by_cases h59 : x2 = (nI 12)
                            · rw [if_pos h59]
                              have q60 := zq_eq h59
                              obtain ⟨r50, e62, q61⟩ := t_fX11_of t_now x1 (nI 0) ⟨by omega, by omega⟩ ⟨by omega, by omega⟩ (by first | assumption | omega | exact Or.inl rfl | exact Or.inr ⟨by omega, by omega⟩)
                              rw [e62, Option.bind_some]
                              by_cases h63 : r50 = (nI 1)
                              · rw [if_pos h63]
                                have q64 := zq_eq h63
                                obtain ⟨r53, e66, q65⟩ := t_fX11_timeOf N t_now x1 (nI 0) hN ⟨by omega, by omega⟩ (by first | assumption | omega | exact Or.inl rfl | exact Or.inr ⟨by omega, by omega⟩) (by first | assumption | omega | exact Or.inl rfl | exact Or.inr ⟨by omega, by omega⟩)
                                rw [e66, Option.bind_some]
                                by_cases h67 : r53 = (-1 : Int32)
                                · rw [if_pos h67]
                                  have q68 := zq_eq h67
                                  exact ⟨_, rfl, trivial⟩
                                · rw [if_neg h67]
                                  have q69 := zq_ne h67
                                  first | rw [e66, Option.bind_some] | rw [Option.bind_some]
                                  obtain ⟨r58, e71, q70⟩ := t_fX11_wayLength t_now (by first | assumption | omega | exact Or.inl rfl | exact Or.inr ⟨by omega, by omega⟩)
                                  rw [e71, Option.bind_some]
                                  obtain ⟨r60, e73, q72⟩ := t_fX11_of t_now x1 (nI 1) ⟨by omega, by omega⟩ ⟨by omega, by omega⟩ (by first | assumption | omega | exact Or.inl rfl | exact Or.inr ⟨by omega, by omega⟩)
                                  rw [e73, Option.bind_some]
                                  obtain ⟨r62, e75, q74⟩ := t_fX11_made r58 r60 
                                  rw [e75, Option.bind_some]
                                  exact ⟨_, rfl, trivial⟩
                              · rw [if_neg h63]
                                exact ⟨_, rfl, trivial⟩
                            · rw [if_neg h59]
                              by_cases h76 : x2 = (nI 13)
                              · rw [if_pos h76]
                                have q77 := zq_eq h76
                                obtain ⟨r65, e79, q78⟩ := t_fX11_of t_now x1 (nI 9) ⟨by omega, by omega⟩ ⟨by omega, by omega⟩ (by first | assumption | omega | exact Or.inl rfl | exact Or.inr ⟨by omega, by omega⟩)
                                rw [e79, Option.bind_some]
                                exact ⟨_, rfl, trivial⟩
                              · rw [if_neg h76]
                                exact ⟨_, rfl, trivial⟩
theorem t_fX11_split (t_thrown : Int32) (t_now : Nat → Int32) (x1 : Int32) (x2 : Int32) (g0 : zNowOk t_now) : ∃ r, fX11_split t_thrown t_now x1 x2 = some r ∧ (True) := by
  unfold fX11_split
  have k0 : (0 : Int32).toInt = 0 := rfl
  have km : (-1 : Int32).toInt = -1 := rfl
  have zz0 := g0.1
  obtain ⟨⟨b1, t_thrown_r2⟩, e2, q1⟩ := t_fX11_isRunner t_thrown t_now x1 (by first | assumption | omega | exact Or.inl rfl | exact Or.inr ⟨by omega, by omega⟩)
  rw [e2, Option.bind_some]
  dsimp only
  dsimp only at q1
  by_cases h3 : (zb b1) = 0
  · rw [if_pos h3]
    exact ⟨_, rfl, trivial⟩
  · rw [if_neg h3]
    have q4 := q1 h3
    obtain ⟨b5, e6, q5⟩ := t_fX11_isMat t_now x2 (by first | assumption | omega | exact Or.inl rfl | exact Or.inr ⟨by omega, by omega⟩)
    rw [e6, Option.bind_some]
    by_cases h7 : (zb b5) = 0
    · rw [if_pos h7]
      exact ⟨_, rfl, trivial⟩
    · rw [if_neg h7]
      have q8 := q5 h7
      obtain ⟨r8, e10, q9⟩ := t_fX11_splitOf t_now x1 x2 ⟨by omega, by omega⟩ ⟨by omega, by omega⟩ (by first | assumption | omega | exact Or.inl rfl | exact Or.inr ⟨by omega, by omega⟩)
      rw [e10, Option.bind_some]
      exact ⟨_, rfl, trivial⟩
theorem t_fX11_guessOf_L56 (t_now : Nat → Int32) (x1 : Int32) (K56_82 : Int32 → Option (Int32)) (h_x1 : 0 ≤ x1.toInt ∧ x1.toInt ≤ 59) (g0 : x1.toInt < (t_now 1).toInt) (g1 : zNowOk t_now) (hK : ∀ (v5_56 : Int32), (0 ≤ v5_56.toInt ∧ v5_56.toInt ≤ 12) → ∃ r, K56_82 v5_56 = some r ∧ (True)) : ∀ (n : Nat) (v5_56 : Int32), (0 ≤ v5_56.toInt ∧ v5_56.toInt ≤ 12) → (1 ≤ n ∧ 13 - v5_56.toInt ≤ (n : Int)) → ∃ r, fX11_guessOf_L56 t_now x1 K56_82 n v5_56 = some r ∧ (True) := by
  intro n
  induction n with
  | zero => intro v5_56 iv5_56 im; exact absurd im.1 (by decide)
  | succ n56 ih =>
    intro v5_56 iv5_56 im
    rw [fX11_guessOf_L56]
    have im2 := im.2
    have k0 : (0 : Int32).toInt = 0 := rfl
    have km : (-1 : Int32).toInt = -1 := rfl
    have k_0 := zq_k 0 (by decide)
    have k_1 := zq_k 1 (by decide)
    have zz1 := g1.1
    obtain ⟨r38, e2, q1⟩ := t_fX11_mats t_now 
    rw [e2, Option.bind_some]
    by_cases h3 : r38 ≤ v5_56
    · rw [if_pos h3]
      have q4 := zq_le h3
      exact hK v5_56 ⟨by omega, by omega⟩
    · rw [if_neg h3]
      have q5 := zq_nle h3
      obtain ⟨r41, e7, q6⟩ := t_fX11_seen t_now x1 v5_56 ⟨by omega, by omega⟩ ⟨by omega, by omega⟩ (by first | assumption | omega | exact Or.inl rfl | exact Or.inr ⟨by omega, by omega⟩) (by first | assumption | omega | exact Or.inl rfl | exact Or.inr ⟨by omega, by omega⟩)
      rw [e7, Option.bind_some]
      by_cases h8 : r41 = (-1 : Int32)
      · rw [if_pos h8]
        have q9 := zq_eq h8
        try have a10 := zq_add (x := v5_56) (y := (nI 1)) (by omega) (by omega)
        exact ih (v5_56 + (nI 1)) ⟨by omega, by omega⟩ ⟨by omega, by omega⟩
      · rw [if_neg h8]
        have q11 := zq_ne h8
        exact hK v5_56 ⟨by omega, by omega⟩
theorem t_fX11_guessOf_L22 (t_now : Nat → Int32) (x1 : Int32) (K22_44 : Int32 → Option (Int32)) (h_x1 : 0 ≤ x1.toInt ∧ x1.toInt ≤ 59) (g0 : x1.toInt < (t_now 1).toInt) (g1 : zNowOk t_now) (hK : ∀ (v4_22 : Int32), (-1 ≤ v4_22.toInt ∧ v4_22.toInt ≤ 11) → ∃ r, K22_44 v4_22 = some r ∧ (True)) : ∀ (n : Nat) (v4_22 : Int32), (-1 ≤ v4_22.toInt ∧ v4_22.toInt ≤ 11) → (1 ≤ n ∧ v4_22.toInt + 2 ≤ (n : Int)) → ∃ r, fX11_guessOf_L22 t_now x1 K22_44 n v4_22 = some r ∧ (True) := by
  intro n
  induction n with
  | zero => intro v4_22 iv4_22 im; exact absurd im.1 (by decide)
  | succ n22 ih =>
    intro v4_22 iv4_22 im
    rw [fX11_guessOf_L22]
    have im2 := im.2
    have k0 : (0 : Int32).toInt = 0 := rfl
    have km : (-1 : Int32).toInt = -1 := rfl
    have k_0 := zq_k 0 (by decide)
    have zz1 := g1.1
    by_cases h1 : v4_22 < 0
    · rw [if_pos h1]
      have q2 := zq_lt h1
      exact hK v4_22 ⟨by omega, by omega⟩
    · rw [if_neg h1]
      have q3 := zq_nlt h1
      obtain ⟨r45, e5, q4⟩ := t_fX11_seen t_now x1 v4_22 ⟨by omega, by omega⟩ ⟨by omega, by omega⟩ (by first | assumption | omega | exact Or.inl rfl | exact Or.inr ⟨by omega, by omega⟩) (by first | assumption | omega | exact Or.inl rfl | exact Or.inr ⟨by omega, by omega⟩)
      rw [e5, Option.bind_some]
      by_cases h6 : r45 = (-1 : Int32)
      · rw [if_pos h6]
        have q7 := zq_eq h6
        try have a8 := zq_add (x := v4_22) (y := (-1 : Int32)) (by omega) (by omega)
        exact ih (v4_22 + (-1 : Int32)) ⟨by omega, by omega⟩ ⟨by omega, by omega⟩
      · rw [if_neg h6]
        have q9 := zq_ne h6
        exact hK v4_22 ⟨by omega, by omega⟩
theorem t_fX11_guessOf (N : Nat) (t_now : Nat → Int32) (x1 : Int32) (x2 : Int32) (x3 : Int32) (hN : 10000 ≤ N) (h_x1 : 0 ≤ x1.toInt ∧ x1.toInt ≤ 59) (h_x2 : 0 ≤ x2.toInt ∧ x2.toInt ≤ 11) (g0 : x1.toInt < (t_now 1).toInt) (g1 : x2.toInt < (t_now 0).toInt) (g2 : zNowOk t_now) : ∃ r, fX11_guessOf N t_now x1 x2 x3 = some r ∧ (True) := by
  unfold fX11_guessOf
  have k0 : (0 : Int32).toInt = 0 := rfl
  have km : (-1 : Int32).toInt = -1 := rfl
  have k_0 := zq_k 0 (by decide)
  have k_1 := zq_k 1 (by decide)
  have zz2 := g2.1
  obtain ⟨r1, e2, q1⟩ := t_fX11_seen t_now x1 x2 ⟨by omega, by omega⟩ ⟨by omega, by omega⟩ (by first | assumption | omega | exact Or.inl rfl | exact Or.inr ⟨by omega, by omega⟩) (by first | assumption | omega | exact Or.inl rfl | exact Or.inr ⟨by omega, by omega⟩)
  rw [e2, Option.bind_some]
  by_cases h3 : r1 = (-1 : Int32)
  · rw [if_pos h3]
    have q4 := zq_eq h3
    try have a5 := zq_sub (x := x2) (y := (nI 1)) (by omega) (by omega)
    refine t_fX11_guessOf_L22 t_now x1 _ ⟨by omega, by omega⟩ (by first | assumption | omega | exact Or.inl rfl | exact Or.inr ⟨by omega, by omega⟩) (by first | assumption | omega | exact Or.inl rfl | exact Or.inr ⟨by omega, by omega⟩) ?_ _ (x2 - (nI 1)) ⟨by omega, by omega⟩ ⟨by omega, by omega⟩
    intro v4_22 iv4_22
    by_cases h6 : 0 ≤ v4_22
    · rw [if_pos h6]
      have q7 := zq_le h6
      try have a8 := zq_add (x := x2) (y := (nI 1)) (by omega) (by omega)
      refine t_fX11_guessOf_L56 t_now x1 _ ⟨by omega, by omega⟩ (by first | assumption | omega | exact Or.inl rfl | exact Or.inr ⟨by omega, by omega⟩) (by first | assumption | omega | exact Or.inl rfl | exact Or.inr ⟨by omega, by omega⟩) ?_ _ (x2 + (nI 1)) ⟨by omega, by omega⟩ ⟨by omega, by omega⟩
      intro v5_56 iv5_56
      obtain ⟨r5, e10, q9⟩ := t_fX11_of t_now x1 (nI 0) ⟨by omega, by omega⟩ ⟨by omega, by omega⟩ (by first | assumption | omega | exact Or.inl rfl | exact Or.inr ⟨by omega, by omega⟩)
      rw [e10, Option.bind_some]
      have z11 : zin r5 4 := zq_in (by omega) (by omega)
      rw [if_pos z11]
      first | rw [e10, Option.bind_some] | rw [Option.bind_some]
      have z12 : zin r5 4 := zq_in (by omega) (by omega)
      rw [if_pos z12]
      obtain ⟨r11, e14, q13⟩ := t_fX11_ofMat t_now x2 (nI 0) ⟨by omega, by omega⟩ ⟨by omega, by omega⟩ (by first | assumption | omega | exact Or.inl rfl | exact Or.inr ⟨by omega, by omega⟩)
      rw [e14, Option.bind_some]
      obtain ⟨r13, e16, q15⟩ := t_fX11_ofMat t_now v4_22 (nI 0) ⟨by omega, by omega⟩ ⟨by omega, by omega⟩ (by first | assumption | omega | exact Or.inl rfl | exact Or.inr ⟨by omega, by omega⟩)
      rw [e16, Option.bind_some]
      obtain ⟨r15, e18, q17⟩ := t_fX11_seen t_now x1 v4_22 ⟨by omega, by omega⟩ ⟨by omega, by omega⟩ (by first | assumption | omega | exact Or.inl rfl | exact Or.inr ⟨by omega, by omega⟩) (by first | assumption | omega | exact Or.inl rfl | exact Or.inr ⟨by omega, by omega⟩)
      rw [e18, Option.bind_some]
      by_cases h19 : x3 = 0
      · rw [if_pos h19]
        have q20 := zq_eq h19
        obtain ⟨r34, e22, q21⟩ := t_fX11_madeUp (r11 - r13) (zfL (r5).toNatClampNeg) 
        rw [e22, Option.bind_some]
        unfold fX11_guessOf_J150
        obtain ⟨r17, e24, q23⟩ := t_fX11_mats t_now 
        rw [e24, Option.bind_some]
        by_cases h25 : r17 ≤ v5_56
        · rw [if_pos h25]
          have q26 := zq_le h25
          unfold fX11_guessOf_J232
          exact ⟨_, rfl, trivial⟩
        · rw [if_neg h25]
          have q27 := zq_nle h25
          obtain ⟨r20, e29, q28⟩ := t_fX11_ofMat t_now v5_56 (nI 0) ⟨by omega, by omega⟩ ⟨by omega, by omega⟩ (by first | assumption | omega | exact Or.inl rfl | exact Or.inr ⟨by omega, by omega⟩)
          rw [e29, Option.bind_some]
          first | rw [e14, Option.bind_some] | rw [Option.bind_some]
          obtain ⟨r24, e31, q30⟩ := t_fX11_seen t_now x1 v5_56 ⟨by omega, by omega⟩ ⟨by omega, by omega⟩ (by first | assumption | omega | exact Or.inl rfl | exact Or.inr ⟨by omega, by omega⟩) (by first | assumption | omega | exact Or.inl rfl | exact Or.inr ⟨by omega, by omega⟩)
          rw [e31, Option.bind_some]
          by_cases h32 : x3 = 0
          · rw [if_pos h32]
            have q33 := zq_eq h32
            obtain ⟨r27, e35, q34⟩ := t_fX11_made (r20 - r11) (zfG (r5).toNatClampNeg) 
            rw [e35, Option.bind_some]
            by_cases h36 : x3 = 0
            · rw [if_pos h36]
              have q37 := zq_eq h36
              unfold fX11_guessOf_J232
              exact ⟨_, rfl, trivial⟩
            · rw [if_neg h36]
              have q38 := zq_ne h36
              unfold fX11_guessOf_J232
              exact ⟨_, rfl, trivial⟩
          · rw [if_neg h32]
            have q39 := zq_ne h32
            obtain ⟨r30, e41, q40⟩ := t_fX11_madeUp (r20 - r11) (zfL (r5).toNatClampNeg) 
            rw [e41, Option.bind_some]
            by_cases h42 : x3 = 0
            · rw [if_pos h42]
              have q43 := zq_eq h42
              unfold fX11_guessOf_J232
              exact ⟨_, rfl, trivial⟩
            · rw [if_neg h42]
              have q44 := zq_ne h42
              unfold fX11_guessOf_J232
              exact ⟨_, rfl, trivial⟩
      · rw [if_neg h19]
        have q45 := zq_ne h19
        obtain ⟨r36, e47, q46⟩ := t_fX11_made (r11 - r13) (zfG (r5).toNatClampNeg) 
        rw [e47, Option.bind_some]
        unfold fX11_guessOf_J150
        obtain ⟨r17, e49, q48⟩ := t_fX11_mats t_now 
        rw [e49, Option.bind_some]
        by_cases h50 : r17 ≤ v5_56
        · rw [if_pos h50]
          have q51 := zq_le h50
          unfold fX11_guessOf_J232
          exact ⟨_, rfl, trivial⟩
        · rw [if_neg h50]
          have q52 := zq_nle h50
          obtain ⟨r20, e54, q53⟩ := t_fX11_ofMat t_now v5_56 (nI 0) ⟨by omega, by omega⟩ ⟨by omega, by omega⟩ (by first | assumption | omega | exact Or.inl rfl | exact Or.inr ⟨by omega, by omega⟩)
          rw [e54, Option.bind_some]
          first | rw [e14, Option.bind_some] | rw [Option.bind_some]
          obtain ⟨r24, e56, q55⟩ := t_fX11_seen t_now x1 v5_56 ⟨by omega, by omega⟩ ⟨by omega, by omega⟩ (by first | assumption | omega | exact Or.inl rfl | exact Or.inr ⟨by omega, by omega⟩) (by first | assumption | omega | exact Or.inl rfl | exact Or.inr ⟨by omega, by omega⟩)
          rw [e56, Option.bind_some]
          by_cases h57 : x3 = 0
          · rw [if_pos h57]
            have q58 := zq_eq h57
            obtain ⟨r27, e60, q59⟩ := t_fX11_made (r20 - r11) (zfG (r5).toNatClampNeg) 
            rw [e60, Option.bind_some]
            by_cases h61 : x3 = 0
            · rw [if_pos h61]
              have q62 := zq_eq h61
              unfold fX11_guessOf_J232
              exact ⟨_, rfl, trivial⟩
            · rw [if_neg h61]
              have q63 := zq_ne h61
              unfold fX11_guessOf_J232
              exact ⟨_, rfl, trivial⟩
          · rw [if_neg h57]
            have q64 := zq_ne h57
            obtain ⟨r30, e66, q65⟩ := t_fX11_madeUp (r20 - r11) (zfL (r5).toNatClampNeg) 
            rw [e66, Option.bind_some]
            by_cases h67 : x3 = 0
            · rw [if_pos h67]
              have q68 := zq_eq h67
              unfold fX11_guessOf_J232
              exact ⟨_, rfl, trivial⟩
            · rw [if_neg h67]
              have q69 := zq_ne h67
              unfold fX11_guessOf_J232
              exact ⟨_, rfl, trivial⟩
    · rw [if_neg h6]
      have q70 := zq_nle h6
      exact ⟨_, rfl, trivial⟩
  · rw [if_neg h3]
    have q71 := zq_ne h3
    first | rw [e2, Option.bind_some] | rw [Option.bind_some]
    exact ⟨_, rfl, trivial⟩
theorem t_fX11_guess (N : Nat) (t_thrown : Int32) (t_now : Nat → Int32) (x1 : Int32) (x2 : Int32) (x3 : Int32) (hN : 10000 ≤ N) (g0 : zNowOk t_now) : ∃ r, fX11_guess N t_thrown t_now x1 x2 x3 = some r ∧ (True) := by
  unfold fX11_guess
  have k0 : (0 : Int32).toInt = 0 := rfl
  have km : (-1 : Int32).toInt = -1 := rfl
  have zz0 := g0.1
  obtain ⟨⟨b1, t_thrown_r2⟩, e2, q1⟩ := t_fX11_isRunner t_thrown t_now x1 (by first | assumption | omega | exact Or.inl rfl | exact Or.inr ⟨by omega, by omega⟩)
  rw [e2, Option.bind_some]
  dsimp only
  dsimp only at q1
  by_cases h3 : (zb b1) = 0
  · rw [if_pos h3]
    exact ⟨_, rfl, trivial⟩
  · rw [if_neg h3]
    have q4 := q1 h3
    obtain ⟨b5, e6, q5⟩ := t_fX11_isMat t_now x2 (by first | assumption | omega | exact Or.inl rfl | exact Or.inr ⟨by omega, by omega⟩)
    rw [e6, Option.bind_some]
    by_cases h7 : (zb b5) = 0
    · rw [if_pos h7]
      exact ⟨_, rfl, trivial⟩
    · rw [if_neg h7]
      have q8 := q5 h7
      obtain ⟨r8, e10, q9⟩ := t_fX11_guessOf N t_now x1 x2 x3 hN ⟨by omega, by omega⟩ ⟨by omega, by omega⟩ (by first | assumption | omega | exact Or.inl rfl | exact Or.inr ⟨by omega, by omega⟩) (by first | assumption | omega | exact Or.inl rfl | exact Or.inr ⟨by omega, by omega⟩) (by first | assumption | omega | exact Or.inl rfl | exact Or.inr ⟨by omega, by omega⟩)
      rw [e10, Option.bind_some]
      exact ⟨_, rfl, trivial⟩
theorem t_fX11_isDoubt_L122 (t_now : Nat → Int32) (x1 : Int32) (K122_144 : Int32 → Option (Bool)) (h_x1 : 0 ≤ x1.toInt ∧ x1.toInt ≤ 59) (g0 : x1.toInt < (t_now 1).toInt) (g1 : zNowOk t_now) (hK : ∀ (v5_122 : Int32), (-1 ≤ v5_122.toInt ∧ v5_122.toInt ≤ 11) → ∃ r, K122_144 v5_122 = some r ∧ (True)) : ∀ (n : Nat) (v5_122 : Int32), (-1 ≤ v5_122.toInt ∧ v5_122.toInt ≤ 11) → (1 ≤ n ∧ v5_122.toInt + 2 ≤ (n : Int)) → ∃ r, fX11_isDoubt_L122 t_now x1 K122_144 n v5_122 = some r ∧ (True) := by
  intro n
  induction n with
  | zero => intro v5_122 iv5_122 im; exact absurd im.1 (by decide)
  | succ n122 ih =>
    intro v5_122 iv5_122 im
    rw [fX11_isDoubt_L122]
    have im2 := im.2
    have k0 : (0 : Int32).toInt = 0 := rfl
    have km : (-1 : Int32).toInt = -1 := rfl
    have k_0 := zq_k 0 (by decide)
    have k_1 := zq_k 1 (by decide)
    have k_3 := zq_k 3 (by decide)
    have zz1 := g1.1
    by_cases h1 : v5_122 < 0
    · rw [if_pos h1]
      have q2 := zq_lt h1
      exact hK v5_122 ⟨by omega, by omega⟩
    · rw [if_neg h1]
      have q3 := zq_nlt h1
      obtain ⟨r22, e5, q4⟩ := t_fX11_seen t_now x1 v5_122 ⟨by omega, by omega⟩ ⟨by omega, by omega⟩ (by first | assumption | omega | exact Or.inl rfl | exact Or.inr ⟨by omega, by omega⟩) (by first | assumption | omega | exact Or.inl rfl | exact Or.inr ⟨by omega, by omega⟩)
      rw [e5, Option.bind_some]
      by_cases h6 : r22 = (-1 : Int32)
      · rw [if_pos h6]
        have q7 := zq_eq h6
        try have a8 := zq_add (x := v5_122) (y := (-1 : Int32)) (by omega) (by omega)
        exact ih (v5_122 + (-1 : Int32)) ⟨by omega, by omega⟩ ⟨by omega, by omega⟩
      · rw [if_neg h6]
        have q9 := zq_ne h6
        exact hK v5_122 ⟨by omega, by omega⟩
theorem t_fX11_isDoubt_L30 (t_now : Nat → Int32) (x1 : Int32) (K30_68 : Bool → Int32 → Option (Bool)) (h_x1 : 0 ≤ x1.toInt ∧ x1.toInt ≤ 59) (g0 : x1.toInt < (t_now 1).toInt) (g1 : zNowOk t_now) (hK : ∀ (v5_30 : Bool) (v6_30 : Int32), (0 ≤ v6_30.toInt ∧ v6_30.toInt ≤ 12) → ∃ r, K30_68 v5_30 v6_30 = some r ∧ (True)) : ∀ (n : Nat) (v5_30 : Bool) (v6_30 : Int32), (0 ≤ v6_30.toInt ∧ v6_30.toInt ≤ 12) → (1 ≤ n ∧ 13 - v6_30.toInt ≤ (n : Int)) → ∃ r, fX11_isDoubt_L30 t_now x1 K30_68 n v5_30 v6_30 = some r ∧ (True) := by
  intro n
  induction n with
  | zero => intro v5_30 v6_30 iv6_30 im; exact absurd im.1 (by decide)
  | succ n30 ih =>
    intro v5_30 v6_30 iv6_30 im
    rw [fX11_isDoubt_L30]
    have im2 := im.2
    have k0 : (0 : Int32).toInt = 0 := rfl
    have km : (-1 : Int32).toInt = -1 := rfl
    have k_0 := zq_k 0 (by decide)
    have k_1 := zq_k 1 (by decide)
    have k_3 := zq_k 3 (by decide)
    have zz1 := g1.1
    obtain ⟨r33, e2, q1⟩ := t_fX11_mats t_now 
    rw [e2, Option.bind_some]
    by_cases h3 : r33 ≤ v6_30
    · rw [if_pos h3]
      have q4 := zq_le h3
      exact hK v5_30 v6_30 ⟨by omega, by omega⟩
    · rw [if_neg h3]
      have q5 := zq_nle h3
      by_cases h6 : (zb v5_30) = 0
      · rw [if_pos h6]
        obtain ⟨r37, e8, q7⟩ := t_fX11_seen t_now x1 v6_30 ⟨by omega, by omega⟩ ⟨by omega, by omega⟩ (by first | assumption | omega | exact Or.inl rfl | exact Or.inr ⟨by omega, by omega⟩) (by first | assumption | omega | exact Or.inl rfl | exact Or.inr ⟨by omega, by omega⟩)
        rw [e8, Option.bind_some]
        by_cases h9 : r37 = (-1 : Int32)
        · rw [if_pos h9]
          have q10 := zq_eq h9
          try have a11 := zq_add (x := v6_30) (y := (nI 1)) (by omega) (by omega)
          exact ih false (v6_30 + (nI 1)) ⟨by omega, by omega⟩ ⟨by omega, by omega⟩
        · rw [if_neg h9]
          have q12 := zq_ne h9
          try have a13 := zq_add (x := v6_30) (y := (nI 1)) (by omega) (by omega)
          exact ih true (v6_30 + (nI 1)) ⟨by omega, by omega⟩ ⟨by omega, by omega⟩
      · rw [if_neg h6]
        try have a14 := zq_add (x := v6_30) (y := (nI 1)) (by omega) (by omega)
        exact ih true (v6_30 + (nI 1)) ⟨by omega, by omega⟩ ⟨by omega, by omega⟩
theorem t_fX11_isDoubt (N : Nat) (t_now : Nat → Int32) (x1 : Int32) (x2 : Int32) (x3 : Int32) (hN : 10000 ≤ N) (h_x1 : 0 ≤ x1.toInt ∧ x1.toInt ≤ 59) (h_x2 : 0 ≤ x2.toInt ∧ x2.toInt ≤ 11) (g0 : x1.toInt < (t_now 1).toInt) (g1 : x2.toInt < (t_now 0).toInt) (g2 : zNowOk t_now) : ∃ r, fX11_isDoubt N t_now x1 x2 x3 = some r ∧ (True) := by
  unfold fX11_isDoubt
  have k0 : (0 : Int32).toInt = 0 := rfl
  have km : (-1 : Int32).toInt = -1 := rfl
  have k_0 := zq_k 0 (by decide)
  have k_1 := zq_k 1 (by decide)
  have k_3 := zq_k 3 (by decide)
  have zz2 := g2.1
  obtain ⟨r1, e2, q1⟩ := t_fX11_seen t_now x1 x2 ⟨by omega, by omega⟩ ⟨by omega, by omega⟩ (by first | assumption | omega | exact Or.inl rfl | exact Or.inr ⟨by omega, by omega⟩) (by first | assumption | omega | exact Or.inl rfl | exact Or.inr ⟨by omega, by omega⟩)
  rw [e2, Option.bind_some]
  by_cases h3 : r1 = (-1 : Int32)
  · rw [if_pos h3]
    have q4 := zq_eq h3
    unfold fX11_isDoubt_J15
    by_cases h5 : x3 = (nI 1)
    · rw [if_pos h5]
      have q6 := zq_eq h5
      try have a7 := zq_add (x := x2) (y := (nI 1)) (by omega) (by omega)
      refine t_fX11_isDoubt_L30 t_now x1 _ ⟨by omega, by omega⟩ (by first | assumption | omega | exact Or.inl rfl | exact Or.inr ⟨by omega, by omega⟩) (by first | assumption | omega | exact Or.inl rfl | exact Or.inr ⟨by omega, by omega⟩) ?_ _ false (x2 + (nI 1)) ⟨by omega, by omega⟩ ⟨by omega, by omega⟩
      intro v5_30 v6_30 iv6_30
      by_cases h8 : (zb false) = 0
      · rw [if_pos h8]
        by_cases h9 : (zb v5_30) = 0
        · rw [if_pos h9]
          exact ⟨_, rfl, trivial⟩
        · rw [if_neg h9]
          exact ⟨_, rfl, trivial⟩
      · rw [if_neg h8]
        exact ⟨_, rfl, trivial⟩
    · rw [if_neg h5]
      by_cases h10 : x3 = (nI 3)
      · rw [if_pos h10]
        have q11 := zq_eq h10
        by_cases h12 : (zb false) = 0
        · rw [if_pos h12]
          obtain ⟨r26, e14, q13⟩ := t_fX11_guessOf N t_now x1 x2 (nI 0) hN ⟨by omega, by omega⟩ ⟨by omega, by omega⟩ (by first | assumption | omega | exact Or.inl rfl | exact Or.inr ⟨by omega, by omega⟩) (by first | assumption | omega | exact Or.inl rfl | exact Or.inr ⟨by omega, by omega⟩) (by first | assumption | omega | exact Or.inl rfl | exact Or.inr ⟨by omega, by omega⟩)
          rw [e14, Option.bind_some]
          obtain ⟨r28, e16, q15⟩ := t_fX11_guessOf N t_now x1 x2 (nI 1) hN ⟨by omega, by omega⟩ ⟨by omega, by omega⟩ (by first | assumption | omega | exact Or.inl rfl | exact Or.inr ⟨by omega, by omega⟩) (by first | assumption | omega | exact Or.inl rfl | exact Or.inr ⟨by omega, by omega⟩) (by first | assumption | omega | exact Or.inl rfl | exact Or.inr ⟨by omega, by omega⟩)
          rw [e16, Option.bind_some]
          by_cases h17 : r26 ≤ r28
          · rw [if_pos h17]
            have q18 := zq_le h17
            exact ⟨_, rfl, trivial⟩
          · rw [if_neg h17]
            have q19 := zq_nle h17
            exact ⟨_, rfl, trivial⟩
        · rw [if_neg h12]
          exact ⟨_, rfl, trivial⟩
      · rw [if_neg h10]
        try have a20 := zq_sub (x := x2) (y := (nI 1)) (by omega) (by omega)
        refine t_fX11_isDoubt_L122 t_now x1 _ ⟨by omega, by omega⟩ (by first | assumption | omega | exact Or.inl rfl | exact Or.inr ⟨by omega, by omega⟩) (by first | assumption | omega | exact Or.inl rfl | exact Or.inr ⟨by omega, by omega⟩) ?_ _ (x2 - (nI 1)) ⟨by omega, by omega⟩ ⟨by omega, by omega⟩
        intro v5_122 iv5_122
        by_cases h21 : (zb false) = 0
        · rw [if_pos h21]
          exact ⟨_, rfl, trivial⟩
        · rw [if_neg h21]
          by_cases h22 : 0 ≤ v5_122
          · rw [if_pos h22]
            have q23 := zq_le h22
            first | rw [e2, Option.bind_some] | rw [Option.bind_some]
            obtain ⟨r9, e25, q24⟩ := t_fX11_seen t_now x1 v5_122 ⟨by omega, by omega⟩ ⟨by omega, by omega⟩ (by first | assumption | omega | exact Or.inl rfl | exact Or.inr ⟨by omega, by omega⟩) (by first | assumption | omega | exact Or.inl rfl | exact Or.inr ⟨by omega, by omega⟩)
            rw [e25, Option.bind_some]
            obtain ⟨r11, e27, q26⟩ := t_fX11_ofMat t_now x2 (nI 0) ⟨by omega, by omega⟩ ⟨by omega, by omega⟩ (by first | assumption | omega | exact Or.inl rfl | exact Or.inr ⟨by omega, by omega⟩)
            rw [e27, Option.bind_some]
            obtain ⟨r13, e29, q28⟩ := t_fX11_ofMat t_now v5_122 (nI 0) ⟨by omega, by omega⟩ ⟨by omega, by omega⟩ (by first | assumption | omega | exact Or.inl rfl | exact Or.inr ⟨by omega, by omega⟩)
            rw [e29, Option.bind_some]
            obtain ⟨r15, e31, q30⟩ := t_fX11_of t_now x1 (nI 0) ⟨by omega, by omega⟩ ⟨by omega, by omega⟩ (by first | assumption | omega | exact Or.inl rfl | exact Or.inr ⟨by omega, by omega⟩)
            rw [e31, Option.bind_some]
            have z32 : zin r15 4 := zq_in (by omega) (by omega)
            rw [if_pos z32]
            obtain ⟨r18, e34, q33⟩ := t_fX11_madeUp (r11 - r13) (zfL (r15).toNatClampNeg) 
            rw [e34, Option.bind_some]
            by_cases h35 : r18 ≤ (r1 - r9)
            · rw [if_pos h35]
              have q36 := zq_le h35
              exact ⟨_, rfl, trivial⟩
            · rw [if_neg h35]
              have q37 := zq_nle h35
              exact ⟨_, rfl, trivial⟩
          · rw [if_neg h22]
            have q38 := zq_nle h22
            exact ⟨_, rfl, trivial⟩
  · rw [if_neg h3]
    have q39 := zq_ne h3
    unfold fX11_isDoubt_J15
    by_cases h40 : x3 = (nI 1)
    · rw [if_pos h40]
      have q41 := zq_eq h40
      try have a42 := zq_add (x := x2) (y := (nI 1)) (by omega) (by omega)
      refine t_fX11_isDoubt_L30 t_now x1 _ ⟨by omega, by omega⟩ (by first | assumption | omega | exact Or.inl rfl | exact Or.inr ⟨by omega, by omega⟩) (by first | assumption | omega | exact Or.inl rfl | exact Or.inr ⟨by omega, by omega⟩) ?_ _ false (x2 + (nI 1)) ⟨by omega, by omega⟩ ⟨by omega, by omega⟩
      intro v5_30 v6_30 iv6_30
      by_cases h43 : (zb true) = 0
      · rw [if_pos h43]
        by_cases h44 : (zb v5_30) = 0
        · rw [if_pos h44]
          exact ⟨_, rfl, trivial⟩
        · rw [if_neg h44]
          exact ⟨_, rfl, trivial⟩
      · rw [if_neg h43]
        exact ⟨_, rfl, trivial⟩
    · rw [if_neg h40]
      by_cases h45 : x3 = (nI 3)
      · rw [if_pos h45]
        have q46 := zq_eq h45
        by_cases h47 : (zb true) = 0
        · rw [if_pos h47]
          obtain ⟨r26, e49, q48⟩ := t_fX11_guessOf N t_now x1 x2 (nI 0) hN ⟨by omega, by omega⟩ ⟨by omega, by omega⟩ (by first | assumption | omega | exact Or.inl rfl | exact Or.inr ⟨by omega, by omega⟩) (by first | assumption | omega | exact Or.inl rfl | exact Or.inr ⟨by omega, by omega⟩) (by first | assumption | omega | exact Or.inl rfl | exact Or.inr ⟨by omega, by omega⟩)
          rw [e49, Option.bind_some]
          obtain ⟨r28, e51, q50⟩ := t_fX11_guessOf N t_now x1 x2 (nI 1) hN ⟨by omega, by omega⟩ ⟨by omega, by omega⟩ (by first | assumption | omega | exact Or.inl rfl | exact Or.inr ⟨by omega, by omega⟩) (by first | assumption | omega | exact Or.inl rfl | exact Or.inr ⟨by omega, by omega⟩) (by first | assumption | omega | exact Or.inl rfl | exact Or.inr ⟨by omega, by omega⟩)
          rw [e51, Option.bind_some]
          by_cases h52 : r26 ≤ r28
          · rw [if_pos h52]
            have q53 := zq_le h52
            exact ⟨_, rfl, trivial⟩
          · rw [if_neg h52]
            have q54 := zq_nle h52
            exact ⟨_, rfl, trivial⟩
        · rw [if_neg h47]
          exact ⟨_, rfl, trivial⟩
      · rw [if_neg h45]
        try have a55 := zq_sub (x := x2) (y := (nI 1)) (by omega) (by omega)
        refine t_fX11_isDoubt_L122 t_now x1 _ ⟨by omega, by omega⟩ (by first | assumption | omega | exact Or.inl rfl | exact Or.inr ⟨by omega, by omega⟩) (by first | assumption | omega | exact Or.inl rfl | exact Or.inr ⟨by omega, by omega⟩) ?_ _ (x2 - (nI 1)) ⟨by omega, by omega⟩ ⟨by omega, by omega⟩
        intro v5_122 iv5_122
        by_cases h56 : (zb true) = 0
        · rw [if_pos h56]
          exact ⟨_, rfl, trivial⟩
        · rw [if_neg h56]
          by_cases h57 : 0 ≤ v5_122
          · rw [if_pos h57]
            have q58 := zq_le h57
            first | rw [e2, Option.bind_some] | rw [Option.bind_some]
            obtain ⟨r9, e60, q59⟩ := t_fX11_seen t_now x1 v5_122 ⟨by omega, by omega⟩ ⟨by omega, by omega⟩ (by first | assumption | omega | exact Or.inl rfl | exact Or.inr ⟨by omega, by omega⟩) (by first | assumption | omega | exact Or.inl rfl | exact Or.inr ⟨by omega, by omega⟩)
            rw [e60, Option.bind_some]
            obtain ⟨r11, e62, q61⟩ := t_fX11_ofMat t_now x2 (nI 0) ⟨by omega, by omega⟩ ⟨by omega, by omega⟩ (by first | assumption | omega | exact Or.inl rfl | exact Or.inr ⟨by omega, by omega⟩)
            rw [e62, Option.bind_some]
            obtain ⟨r13, e64, q63⟩ := t_fX11_ofMat t_now v5_122 (nI 0) ⟨by omega, by omega⟩ ⟨by omega, by omega⟩ (by first | assumption | omega | exact Or.inl rfl | exact Or.inr ⟨by omega, by omega⟩)
            rw [e64, Option.bind_some]
            obtain ⟨r15, e66, q65⟩ := t_fX11_of t_now x1 (nI 0) ⟨by omega, by omega⟩ ⟨by omega, by omega⟩ (by first | assumption | omega | exact Or.inl rfl | exact Or.inr ⟨by omega, by omega⟩)
            rw [e66, Option.bind_some]
            have z67 : zin r15 4 := zq_in (by omega) (by omega)
            rw [if_pos z67]
            obtain ⟨r18, e69, q68⟩ := t_fX11_madeUp (r11 - r13) (zfL (r15).toNatClampNeg) 
            rw [e69, Option.bind_some]
            by_cases h70 : r18 ≤ (r1 - r9)
            · rw [if_pos h70]
              have q71 := zq_le h70
              exact ⟨_, rfl, trivial⟩
            · rw [if_neg h70]
              have q72 := zq_nle h70
              exact ⟨_, rfl, trivial⟩
          · rw [if_neg h57]
            have q73 := zq_nle h57
            exact ⟨_, rfl, trivial⟩
theorem t_fX11_doubts_L29 (N : Nat) (t_now : Nat → Int32) (x1 : Int32) (x2 : Int32) (v4_5 : Int32) (v5_17 : Int32) (K29_96 : Int32 → Int32 → Option (Int32)) (hN : 10000 ≤ N) (h_v4_5 : 0 ≤ v4_5.toInt ∧ v4_5.toInt ≤ 59) (h_v5_17 : 0 ≤ v5_17.toInt ∧ v5_17.toInt ≤ 11) (g0 : v4_5.toInt < (t_now 1).toInt) (g1 : v5_17.toInt < (t_now 0).toInt) (g2 : zNowOk t_now) (hK : ∀ (v3_29 : Int32) (v6_29 : Int32), (0 ≤ v6_29.toInt ∧ v6_29.toInt ≤ 4) → ∃ r, K29_96 v3_29 v6_29 = some r ∧ (True)) : ∀ (n : Nat) (v3_29 : Int32) (v6_29 : Int32), (0 ≤ v6_29.toInt ∧ v6_29.toInt ≤ 4) → (1 ≤ n ∧ 5 - v6_29.toInt ≤ (n : Int)) → ∃ r, fX11_doubts_L29 N t_now x1 x2 v4_5 v5_17 K29_96 n v3_29 v6_29 = some r ∧ (True) := by
  intro n
  induction n with
  | zero => intro v3_29 v6_29 iv6_29 im; exact absurd im.1 (by decide)
  | succ n29 ih =>
    intro v3_29 v6_29 iv6_29 im
    rw [fX11_doubts_L29]
    have im2 := im.2
    have k0 : (0 : Int32).toInt = 0 := rfl
    have km : (-1 : Int32).toInt = -1 := rfl
    have k_1 := zq_k 1 (by decide)
    have k_2 := zq_k 2 (by decide)
    have k_4 := zq_k 4 (by decide)
    have zz2 := g2.1
    by_cases h1 : (nI 4) ≤ v6_29
    · rw [if_pos h1]
      have q2 := zq_le h1
      exact hK v3_29 v6_29 ⟨by omega, by omega⟩
    · rw [if_neg h1]
      have q3 := zq_nle h1
      obtain ⟨b9, e5, q4⟩ := t_fX11_isDoubt N t_now v4_5 v5_17 v6_29 hN ⟨by omega, by omega⟩ ⟨by omega, by omega⟩ (by first | assumption | omega | exact Or.inl rfl | exact Or.inr ⟨by omega, by omega⟩) (by first | assumption | omega | exact Or.inl rfl | exact Or.inr ⟨by omega, by omega⟩) (by first | assumption | omega | exact Or.inl rfl | exact Or.inr ⟨by omega, by omega⟩)
      rw [e5, Option.bind_some]
      by_cases h6 : (zb b9) = 0
      · rw [if_pos h6]
        try have a7 := zq_add (x := v6_29) (y := (nI 1)) (by omega) (by omega)
        exact ih v3_29 (v6_29 + (nI 1)) ⟨by omega, by omega⟩ ⟨by omega, by omega⟩
      · rw [if_neg h6]
        by_cases h8 : v3_29 = x1
        · rw [if_pos h8]
          have q9 := zq_eq h8
          by_cases h10 : x2 = 0
          · rw [if_pos h10]
            have q11 := zq_eq h10
            exact ⟨_, rfl, trivial⟩
          · rw [if_neg h10]
            have q12 := zq_ne h10
            by_cases h13 : x2 = (nI 1)
            · rw [if_pos h13]
              have q14 := zq_eq h13
              exact ⟨_, rfl, trivial⟩
            · rw [if_neg h13]
              by_cases h15 : x2 = (nI 2)
              · rw [if_pos h15]
                have q16 := zq_eq h15
                exact ⟨_, rfl, trivial⟩
              · rw [if_neg h15]
                exact ⟨_, rfl, trivial⟩
        · rw [if_neg h8]
          have q17 := zq_ne h8
          try have a18 := zq_add (x := v6_29) (y := (nI 1)) (by omega) (by omega)
          exact ih (v3_29 + (nI 1)) (v6_29 + (nI 1)) ⟨by omega, by omega⟩ ⟨by omega, by omega⟩
theorem t_fX11_doubts_L17 (N : Nat) (t_now : Nat → Int32) (x1 : Int32) (x2 : Int32) (v4_5 : Int32) (K17_102 : Int32 → Int32 → Option (Int32)) (hN : 10000 ≤ N) (h_v4_5 : 0 ≤ v4_5.toInt ∧ v4_5.toInt ≤ 59) (g0 : v4_5.toInt < (t_now 1).toInt) (g1 : zNowOk t_now) (hK : ∀ (v3_17 : Int32) (v5_17 : Int32), (0 ≤ v5_17.toInt ∧ v5_17.toInt ≤ 12) → ∃ r, K17_102 v3_17 v5_17 = some r ∧ (True)) : ∀ (n : Nat) (v3_17 : Int32) (v5_17 : Int32), (0 ≤ v5_17.toInt ∧ v5_17.toInt ≤ 12) → (1 ≤ n ∧ 13 - v5_17.toInt ≤ (n : Int)) → ∃ r, fX11_doubts_L17 N t_now x1 x2 v4_5 K17_102 n v3_17 v5_17 = some r ∧ (True) := by
  intro n
  induction n with
  | zero => intro v3_17 v5_17 iv5_17 im; exact absurd im.1 (by decide)
  | succ n17 ih =>
    intro v3_17 v5_17 iv5_17 im
    rw [fX11_doubts_L17]
    have im2 := im.2
    have k0 : (0 : Int32).toInt = 0 := rfl
    have km : (-1 : Int32).toInt = -1 := rfl
    have k_1 := zq_k 1 (by decide)
    have zz1 := g1.1
    obtain ⟨r5, e2, q1⟩ := t_fX11_mats t_now 
    rw [e2, Option.bind_some]
    by_cases h3 : r5 ≤ v5_17
    · rw [if_pos h3]
      have q4 := zq_le h3
      exact hK v3_17 v5_17 ⟨by omega, by omega⟩
    · rw [if_neg h3]
      have q5 := zq_nle h3
      refine t_fX11_doubts_L29 N t_now x1 x2 v4_5 v5_17 _ hN ⟨by omega, by omega⟩ ⟨by omega, by omega⟩ (by first | assumption | omega | exact Or.inl rfl | exact Or.inr ⟨by omega, by omega⟩) (by first | assumption | omega | exact Or.inl rfl | exact Or.inr ⟨by omega, by omega⟩) (by first | assumption | omega | exact Or.inl rfl | exact Or.inr ⟨by omega, by omega⟩) ?_ _ v3_17 (nI 1) ⟨by omega, by omega⟩ ⟨by omega, by omega⟩
      intro v3_29 v6_29 iv6_29
      try have a6 := zq_add (x := v5_17) (y := (nI 1)) (by omega) (by omega)
      exact ih v3_29 (v5_17 + (nI 1)) ⟨by omega, by omega⟩ ⟨by omega, by omega⟩
theorem t_fX11_doubts_L5 (N : Nat) (t_now : Nat → Int32) (x1 : Int32) (x2 : Int32) (K5_108 : Int32 → Int32 → Option (Int32)) (hN : 10000 ≤ N) (g0 : zNowOk t_now) (hK : ∀ (v3_5 : Int32) (v4_5 : Int32), (0 ≤ v4_5.toInt ∧ v4_5.toInt ≤ 60) → ∃ r, K5_108 v3_5 v4_5 = some r ∧ (True)) : ∀ (n : Nat) (v3_5 : Int32) (v4_5 : Int32), (0 ≤ v4_5.toInt ∧ v4_5.toInt ≤ 60) → (1 ≤ n ∧ 61 - v4_5.toInt ≤ (n : Int)) → ∃ r, fX11_doubts_L5 N t_now x1 x2 K5_108 n v3_5 v4_5 = some r ∧ (True) := by
  intro n
  induction n with
  | zero => intro v3_5 v4_5 iv4_5 im; exact absurd im.1 (by decide)
  | succ n5 ih =>
    intro v3_5 v4_5 iv4_5 im
    rw [fX11_doubts_L5]
    have im2 := im.2
    have k0 : (0 : Int32).toInt = 0 := rfl
    have km : (-1 : Int32).toInt = -1 := rfl
    have k_0 := zq_k 0 (by decide)
    have k_1 := zq_k 1 (by decide)
    have zz0 := g0.1
    obtain ⟨r2, e2, q1⟩ := t_fX11_runners t_now 
    rw [e2, Option.bind_some]
    by_cases h3 : r2 ≤ v4_5
    · rw [if_pos h3]
      have q4 := zq_le h3
      exact hK v3_5 v4_5 ⟨by omega, by omega⟩
    · rw [if_neg h3]
      have q5 := zq_nle h3
      refine t_fX11_doubts_L17 N t_now x1 x2 v4_5 _ hN ⟨by omega, by omega⟩ (by first | assumption | omega | exact Or.inl rfl | exact Or.inr ⟨by omega, by omega⟩) (by first | assumption | omega | exact Or.inl rfl | exact Or.inr ⟨by omega, by omega⟩) ?_ _ v3_5 (nI 0) ⟨by omega, by omega⟩ ⟨by omega, by omega⟩
      intro v3_17 v5_17 iv5_17
      try have a6 := zq_add (x := v4_5) (y := (nI 1)) (by omega) (by omega)
      exact ih v3_17 (v4_5 + (nI 1)) ⟨by omega, by omega⟩ ⟨by omega, by omega⟩
theorem t_fX11_doubts (N : Nat) (t_now : Nat → Int32) (x1 : Int32) (x2 : Int32) (hN : 10000 ≤ N) (g0 : zNowOk t_now) : ∃ r, fX11_doubts N t_now x1 x2 = some r ∧ (True) := by
  unfold fX11_doubts
  have k0 : (0 : Int32).toInt = 0 := rfl
  have km : (-1 : Int32).toInt = -1 := rfl
  have k_0 := zq_k 0 (by decide)
  have zz0 := g0.1
  refine t_fX11_doubts_L5 N t_now x1 x2 _ hN (by first | assumption | omega | exact Or.inl rfl | exact Or.inr ⟨by omega, by omega⟩) ?_ _ (nI 0) (nI 0) ⟨by omega, by omega⟩ ⟨by omega, by omega⟩
  intro v3_5 v4_5 iv4_5
  by_cases h1 : 0 ≤ x1
  · rw [if_pos h1]
    have q2 := zq_le h1
    exact ⟨_, rfl, trivial⟩
  · rw [if_neg h1]
    have q3 := zq_nle h1
    exact ⟨_, rfl, trivial⟩
theorem t_fX11_doubt (N : Nat) (t_thrown : Int32) (t_now : Nat → Int32) (x1 : Int32) (x2 : Int32) (hN : 10000 ≤ N) (g0 : zNowOk t_now) : ∃ r, fX11_doubt N t_thrown t_now x1 x2 = some r ∧ (True) := by
  unfold fX11_doubt
  have k0 : (0 : Int32).toInt = 0 := rfl
  have km : (-1 : Int32).toInt = -1 := rfl
  have k_0 := zq_k 0 (by decide)
  have zz0 := g0.1
  by_cases h1 : 0 ≤ x1
  · rw [if_pos h1]
    have q2 := zq_le h1
    obtain ⟨r2, e4, q3⟩ := t_fX11_doubts N t_now x1 x2 hN (by first | assumption | omega | exact Or.inl rfl | exact Or.inr ⟨by omega, by omega⟩)
    rw [e4, Option.bind_some]
    exact ⟨_, rfl, trivial⟩
  · rw [if_neg h1]
    have q5 := zq_nle h1
    exact ⟨_, rfl, trivial⟩
theorem t_fX11_passes (t_now : Nat → Int32) (x1 : Int32) (x2 : Int32) (h_x1 : 0 ≤ x1.toInt ∧ x1.toInt ≤ 59) (h_x2 : 0 ≤ x2.toInt ∧ x2.toInt ≤ 11) (g0 : x1.toInt < (t_now 1).toInt) (g1 : x2.toInt < (t_now 0).toInt) (g2 : zNowOk t_now) : ∃ r, fX11_passes t_now x1 x2 = some r ∧ (r.toInt = -1 ∨ (0 ≤ r.toInt ∧ r.toInt ≤ 240000)) := by
  unfold fX11_passes
  have k0 : (0 : Int32).toInt = 0 := rfl
  have km : (-1 : Int32).toInt = -1 := rfl
  have k_0 := zq_k 0 (by decide)
  have k_1 := zq_k 1 (by decide)
  have k_5 := zq_k 5 (by decide)
  have zz2 := g2.1
  obtain ⟨r1, e2, q1⟩ := t_fX11_of t_now x1 (nI 5) ⟨by omega, by omega⟩ ⟨by omega, by omega⟩ (by first | assumption | omega | exact Or.inl rfl | exact Or.inr ⟨by omega, by omega⟩)
  rw [e2, Option.bind_some]
  obtain ⟨r3, e4, q3⟩ := t_fX11_gunOf t_now r1 ⟨by omega, by omega⟩ (by first | assumption | omega | exact Or.inl rfl | exact Or.inr ⟨by omega, by omega⟩)
  rw [e4, Option.bind_some]
  by_cases h5 : r3 = (-1 : Int32)
  · rw [if_pos h5]
    have q6 := zq_eq h5
    refine ⟨_, rfl, ?_⟩
    first | omega | assumption | (constructor <;> omega)
  · rw [if_neg h5]
    have q7 := zq_ne h5
    obtain ⟨r6, e9, q8⟩ := t_fX11_ofMat t_now x2 (nI 0) ⟨by omega, by omega⟩ ⟨by omega, by omega⟩ (by first | assumption | omega | exact Or.inl rfl | exact Or.inr ⟨by omega, by omega⟩)
    rw [e9, Option.bind_some]
    obtain ⟨r8, e11, q10⟩ := t_fX11_of t_now x1 (nI 1) ⟨by omega, by omega⟩ ⟨by omega, by omega⟩ (by first | assumption | omega | exact Or.inl rfl | exact Or.inr ⟨by omega, by omega⟩)
    rw [e11, Option.bind_some]
    obtain ⟨r10, e13, q12⟩ := t_fX11_made r6 r8 
    rw [e13, Option.bind_some]
    try have a14 := zq_add (x := r3) (y := r10) (by omega) (by omega)
    refine ⟨_, rfl, ?_⟩
    first | omega | assumption | (constructor <;> omega)
theorem t_fX11_foretold_L24 (t_now : Nat → Int32) (x1 : Int32) (x2 : Int32) (K24_72 : Int32 → Int32 → Option (Int32 × Int32)) (h_x1 : 0 ≤ x1.toInt ∧ x1.toInt ≤ 11) (g0 : x1.toInt < (t_now 0).toInt) (g1 : zNowOk t_now) (hK : ∀ (v3_24 : Int32) (v4_24 : Int32), (0 ≤ v4_24.toInt ∧ v4_24.toInt ≤ 60) → ∃ r, K24_72 v3_24 v4_24 = some r ∧ (True)) : ∀ (n : Nat) (v3_24 : Int32) (v4_24 : Int32), (0 ≤ v4_24.toInt ∧ v4_24.toInt ≤ 60) → (1 ≤ n ∧ 61 - v4_24.toInt ≤ (n : Int)) → ∃ r, fX11_foretold_L24 t_now x1 x2 K24_72 n v3_24 v4_24 = some r ∧ (True) := by
  intro n
  induction n with
  | zero => intro v3_24 v4_24 iv4_24 im; exact absurd im.1 (by decide)
  | succ n24 ih =>
    intro v3_24 v4_24 iv4_24 im
    rw [fX11_foretold_L24]
    have im2 := im.2
    have k0 : (0 : Int32).toInt = 0 := rfl
    have km : (-1 : Int32).toInt = -1 := rfl
    have k_0 := zq_k 0 (by decide)
    have k_1 := zq_k 1 (by decide)
    have k_60 := zq_k 60 (by decide)
    have zz1 := g1.1
    obtain ⟨r5, e2, q1⟩ := t_fX11_runners t_now 
    rw [e2, Option.bind_some]
    by_cases h3 : r5 ≤ v4_24
    · rw [if_pos h3]
      have q4 := zq_le h3
      exact hK v3_24 v4_24 ⟨by omega, by omega⟩
    · rw [if_neg h3]
      have q5 := zq_nle h3
      obtain ⟨r8, e7, q6⟩ := t_fX11_passes t_now v4_24 x1 ⟨by omega, by omega⟩ ⟨by omega, by omega⟩ (by first | assumption | omega | exact Or.inl rfl | exact Or.inr ⟨by omega, by omega⟩) (by first | assumption | omega | exact Or.inl rfl | exact Or.inr ⟨by omega, by omega⟩) (by first | assumption | omega | exact Or.inl rfl | exact Or.inr ⟨by omega, by omega⟩)
      rw [e7, Option.bind_some]
      by_cases h8 : r8 = (-1 : Int32)
      · rw [if_pos h8]
        have q9 := zq_eq h8
        try have a10 := zq_add (x := v4_24) (y := (nI 1)) (by omega) (by omega)
        exact ih (v3_24 + (nI 0)) (v4_24 + (nI 1)) ⟨by omega, by omega⟩ ⟨by omega, by omega⟩
      · rw [if_neg h8]
        have q11 := zq_ne h8
        first | rw [e7, Option.bind_some] | rw [Option.bind_some]
        by_cases h12 : (r8 / (nI 60)) = x2
        · rw [if_pos h12]
          have q13 := zq_eq h12
          try have a14 := zq_add (x := v4_24) (y := (nI 1)) (by omega) (by omega)
          exact ih (v3_24 + (nI 1)) (v4_24 + (nI 1)) ⟨by omega, by omega⟩ ⟨by omega, by omega⟩
        · rw [if_neg h12]
          have q15 := zq_ne h12
          try have a16 := zq_add (x := v4_24) (y := (nI 1)) (by omega) (by omega)
          exact ih (v3_24 + (nI 0)) (v4_24 + (nI 1)) ⟨by omega, by omega⟩ ⟨by omega, by omega⟩
theorem t_fX11_foretold (N : Nat) (t_thrown : Int32) (t_now : Nat → Int32) (x1 : Int32) (x2 : Int32) (hN : 10000 ≤ N) (g0 : zNowOk t_now) : ∃ r, fX11_foretold N t_thrown t_now x1 x2 = some r ∧ (True) := by
  unfold fX11_foretold
  have k0 : (0 : Int32).toInt = 0 := rfl
  have km : (-1 : Int32).toInt = -1 := rfl
  have k_0 := zq_k 0 (by decide)
  have zz0 := g0.1
  obtain ⟨b1, e2, q1⟩ := t_fX11_isMat t_now x1 (by first | assumption | omega | exact Or.inl rfl | exact Or.inr ⟨by omega, by omega⟩)
  rw [e2, Option.bind_some]
  by_cases h3 : (zb b1) = 0
  · rw [if_pos h3]
    exact ⟨_, rfl, trivial⟩
  · rw [if_neg h3]
    have q4 := q1 h3
    by_cases h5 : 0 ≤ x2
    · rw [if_pos h5]
      have q6 := zq_le h5
      refine t_fX11_foretold_L24 t_now x1 x2 _ ⟨by omega, by omega⟩ (by first | assumption | omega | exact Or.inl rfl | exact Or.inr ⟨by omega, by omega⟩) (by first | assumption | omega | exact Or.inl rfl | exact Or.inr ⟨by omega, by omega⟩) ?_ _ (nI 0) (nI 0) ⟨by omega, by omega⟩ ⟨by omega, by omega⟩
      intro v3_24 v4_24 iv4_24
      exact ⟨_, rfl, trivial⟩
    · rw [if_neg h5]
      have q7 := zq_nle h5
      exact ⟨_, rfl, trivial⟩
theorem t_fX11_firstTight_L90 (t_now : Nat → Int32) (x1 : Int32) (K90_129 : Int32 → (Nat → Int32) → Option (Int32 × (Nat → Int32))) (h_x1 : 0 ≤ x1.toInt ∧ x1.toInt ≤ 11) (g0 : x1.toInt < (t_now 0).toInt) (g1 : zNowOk t_now) (hK : ∀ (v3_90 : Int32) (t_passing_l90 : Nat → Int32), (0 ≤ v3_90.toInt ∧ v3_90.toInt ≤ 60) → ∃ r, K90_129 v3_90 t_passing_l90 = some r ∧ (True)) : ∀ (n : Nat) (v3_90 : Int32) (t_passing_l90 : Nat → Int32), (0 ≤ v3_90.toInt ∧ v3_90.toInt ≤ 60) → (1 ≤ n ∧ 61 - v3_90.toInt ≤ (n : Int)) → ∃ r, fX11_firstTight_L90 t_now x1 K90_129 n v3_90 t_passing_l90 = some r ∧ (True) := by
  intro n
  induction n with
  | zero => intro v3_90 t_passing_l90 iv3_90 im; exact absurd im.1 (by decide)
  | succ n90 ih =>
    intro v3_90 t_passing_l90 iv3_90 im
    rw [fX11_firstTight_L90]
    have im2 := im.2
    have k0 : (0 : Int32).toInt = 0 := rfl
    have km : (-1 : Int32).toInt = -1 := rfl
    have k_0 := zq_k 0 (by decide)
    have k_1 := zq_k 1 (by decide)
    have k_60 := zq_k 60 (by decide)
    have zz1 := g1.1
    obtain ⟨r1, e2, q1⟩ := t_fX11_runners t_now 
    rw [e2, Option.bind_some]
    by_cases h3 : r1 ≤ v3_90
    · rw [if_pos h3]
      have q4 := zq_le h3
      exact hK v3_90 t_passing_l90 ⟨by omega, by omega⟩
    · rw [if_neg h3]
      have q5 := zq_nle h3
      obtain ⟨r4, e7, q6⟩ := t_fX11_passes t_now v3_90 x1 ⟨by omega, by omega⟩ ⟨by omega, by omega⟩ (by first | assumption | omega | exact Or.inl rfl | exact Or.inr ⟨by omega, by omega⟩) (by first | assumption | omega | exact Or.inl rfl | exact Or.inr ⟨by omega, by omega⟩) (by first | assumption | omega | exact Or.inl rfl | exact Or.inr ⟨by omega, by omega⟩)
      rw [e7, Option.bind_some]
      by_cases h8 : r4 = (-1 : Int32)
      · rw [if_pos h8]
        have q9 := zq_eq h8
        try have a10 := zq_add (x := v3_90) (y := (nI 1)) (by omega) (by omega)
        exact ih (v3_90 + (nI 1)) t_passing_l90 ⟨by omega, by omega⟩ ⟨by omega, by omega⟩
      · rw [if_neg h8]
        have q11 := zq_ne h8
        first | rw [e7, Option.bind_some] | rw [Option.bind_some]
        try have a12 := zq_div (x := r4) (k := 60) (by decide) (by decide) (by omega)
        have z13 : zin (r4 / (nI 60)) 5000 := zq_in (by omega) (by omega)
        rw [if_pos z13]
        try have a14 := zq_add (x := v3_90) (y := (nI 1)) (by omega) (by omega)
        exact ih (v3_90 + (nI 1)) (upd t_passing_l90 ((r4 / (nI 60))).toNatClampNeg (nI 0)) ⟨by omega, by omega⟩ ⟨by omega, by omega⟩
theorem t_fX11_firstTight_L4 (t_now : Nat → Int32) (x1 : Int32) (K4_88 : Int32 → Int32 → (Nat → Int32) → Option (Int32 × (Nat → Int32))) (h_x1 : 0 ≤ x1.toInt ∧ x1.toInt ≤ 11) (g0 : x1.toInt < (t_now 0).toInt) (g1 : zNowOk t_now) (hK : ∀ (v2_4 : Int32) (v3_4 : Int32) (t_passing_l4 : Nat → Int32), (0 ≤ v3_4.toInt ∧ v3_4.toInt ≤ 60) → ∃ r, K4_88 v2_4 v3_4 t_passing_l4 = some r ∧ (True)) : ∀ (n : Nat) (v2_4 : Int32) (v3_4 : Int32) (t_passing_l4 : Nat → Int32), (0 ≤ v3_4.toInt ∧ v3_4.toInt ≤ 60) → (1 ≤ n ∧ 61 - v3_4.toInt ≤ (n : Int)) → ∃ r, fX11_firstTight_L4 t_now x1 K4_88 n v2_4 v3_4 t_passing_l4 = some r ∧ (True) := by
  intro n
  induction n with
  | zero => intro v2_4 v3_4 t_passing_l4 iv3_4 im; exact absurd im.1 (by decide)
  | succ n4 ih =>
    intro v2_4 v3_4 t_passing_l4 iv3_4 im
    rw [fX11_firstTight_L4]
    have im2 := im.2
    have k0 : (0 : Int32).toInt = 0 := rfl
    have km : (-1 : Int32).toInt = -1 := rfl
    have k_1 := zq_k 1 (by decide)
    have k_60 := zq_k 60 (by decide)
    have zz1 := g1.1
    obtain ⟨r10, e2, q1⟩ := t_fX11_runners t_now 
    rw [e2, Option.bind_some]
    by_cases h3 : r10 ≤ v3_4
    · rw [if_pos h3]
      have q4 := zq_le h3
      exact hK v2_4 v3_4 t_passing_l4 ⟨by omega, by omega⟩
    · rw [if_neg h3]
      have q5 := zq_nle h3
      obtain ⟨r13, e7, q6⟩ := t_fX11_passes t_now v3_4 x1 ⟨by omega, by omega⟩ ⟨by omega, by omega⟩ (by first | assumption | omega | exact Or.inl rfl | exact Or.inr ⟨by omega, by omega⟩) (by first | assumption | omega | exact Or.inl rfl | exact Or.inr ⟨by omega, by omega⟩) (by first | assumption | omega | exact Or.inl rfl | exact Or.inr ⟨by omega, by omega⟩)
      rw [e7, Option.bind_some]
      by_cases h8 : r13 = (-1 : Int32)
      · rw [if_pos h8]
        have q9 := zq_eq h8
        try have a10 := zq_add (x := v3_4) (y := (nI 1)) (by omega) (by omega)
        exact ih v2_4 (v3_4 + (nI 1)) t_passing_l4 ⟨by omega, by omega⟩ ⟨by omega, by omega⟩
      · rw [if_neg h8]
        have q11 := zq_ne h8
        try have a12 := zq_div (x := r13) (k := 60) (by decide) (by decide) (by omega)
        have z13 : zin (r13 / (nI 60)) 5000 := zq_in (by omega) (by omega)
        rw [if_pos z13]
        try have a14 := zq_div (x := r13) (k := 60) (by decide) (by decide) (by omega)
        have z15 : zin (r13 / (nI 60)) 5000 := zq_in (by omega) (by omega)
        rw [if_pos z15]
        try have a16 := zq_div (x := r13) (k := 60) (by decide) (by decide) (by omega)
        have z17 : zin (r13 / (nI 60)) 5000 := zq_in (by omega) (by omega)
        rw [if_pos z17]
        obtain ⟨r19, e19, q18⟩ := t_fX11_ofMat t_now x1 (nI 1) ⟨by omega, by omega⟩ ⟨by omega, by omega⟩ (by first | assumption | omega | exact Or.inl rfl | exact Or.inr ⟨by omega, by omega⟩)
        rw [e19, Option.bind_some]
        by_cases h20 : ((upd t_passing_l4 ((r13 / (nI 60))).toNatClampNeg ((t_passing_l4 ((r13 / (nI 60))).toNatClampNeg) + (nI 1))) ((r13 / (nI 60))).toNatClampNeg) ≤ r19
        · rw [if_pos h20]
          have q21 := zq_le h20
          try have a22 := zq_add (x := v3_4) (y := (nI 1)) (by omega) (by omega)
          exact ih v2_4 (v3_4 + (nI 1)) (upd t_passing_l4 ((r13 / (nI 60))).toNatClampNeg ((t_passing_l4 ((r13 / (nI 60))).toNatClampNeg) + (nI 1))) ⟨by omega, by omega⟩ ⟨by omega, by omega⟩
        · rw [if_neg h20]
          have q23 := zq_nle h20
          by_cases h24 : v2_4 = (-1 : Int32)
          · rw [if_pos h24]
            have q25 := zq_eq h24
            try have a26 := zq_add (x := v3_4) (y := (nI 1)) (by omega) (by omega)
            exact ih (r13 / (nI 60)) (v3_4 + (nI 1)) (upd t_passing_l4 ((r13 / (nI 60))).toNatClampNeg ((t_passing_l4 ((r13 / (nI 60))).toNatClampNeg) + (nI 1))) ⟨by omega, by omega⟩ ⟨by omega, by omega⟩
          · rw [if_neg h24]
            have q27 := zq_ne h24
            by_cases h28 : v2_4 ≤ (r13 / (nI 60))
            · rw [if_pos h28]
              have q29 := zq_le h28
              try have a30 := zq_add (x := v3_4) (y := (nI 1)) (by omega) (by omega)
              exact ih v2_4 (v3_4 + (nI 1)) (upd t_passing_l4 ((r13 / (nI 60))).toNatClampNeg ((t_passing_l4 ((r13 / (nI 60))).toNatClampNeg) + (nI 1))) ⟨by omega, by omega⟩ ⟨by omega, by omega⟩
            · rw [if_neg h28]
              have q31 := zq_nle h28
              try have a32 := zq_add (x := v3_4) (y := (nI 1)) (by omega) (by omega)
              exact ih (r13 / (nI 60)) (v3_4 + (nI 1)) (upd t_passing_l4 ((r13 / (nI 60))).toNatClampNeg ((t_passing_l4 ((r13 / (nI 60))).toNatClampNeg) + (nI 1))) ⟨by omega, by omega⟩ ⟨by omega, by omega⟩
theorem t_fX11_firstTight (N : Nat) (t_now : Nat → Int32) (t_passing : Nat → Int32) (x1 : Int32) (hN : 10000 ≤ N) (h_x1 : 0 ≤ x1.toInt ∧ x1.toInt ≤ 11) (g0 : x1.toInt < (t_now 0).toInt) (g1 : zNowOk t_now) : ∃ r, fX11_firstTight N t_now t_passing x1 = some r ∧ (True) := by
  unfold fX11_firstTight
  have k0 : (0 : Int32).toInt = 0 := rfl
  have km : (-1 : Int32).toInt = -1 := rfl
  have k_0 := zq_k 0 (by decide)
  have zz1 := g1.1
  refine t_fX11_firstTight_L4 t_now x1 _ ⟨by omega, by omega⟩ (by first | assumption | omega | exact Or.inl rfl | exact Or.inr ⟨by omega, by omega⟩) (by first | assumption | omega | exact Or.inl rfl | exact Or.inr ⟨by omega, by omega⟩) ?_ _ (-1 : Int32) (nI 0) t_passing ⟨by omega, by omega⟩ ⟨by omega, by omega⟩
  intro v2_4 v3_4 t_passing_l4 iv3_4
  refine t_fX11_firstTight_L90 t_now x1 _ ⟨by omega, by omega⟩ (by first | assumption | omega | exact Or.inl rfl | exact Or.inr ⟨by omega, by omega⟩) (by first | assumption | omega | exact Or.inl rfl | exact Or.inr ⟨by omega, by omega⟩) ?_ _ (nI 0) t_passing_l4 ⟨by omega, by omega⟩ ⟨by omega, by omega⟩
  intro v3_90 t_passing_l90 iv3_90
  exact ⟨_, rfl, trivial⟩
theorem t_fX11_tight (N : Nat) (t_thrown : Int32) (t_now : Nat → Int32) (t_passing : Nat → Int32) (x1 : Int32) (hN : 10000 ≤ N) (g0 : zNowOk t_now) : ∃ r, fX11_tight N t_thrown t_now t_passing x1 = some r ∧ (True) := by
  unfold fX11_tight
  have k0 : (0 : Int32).toInt = 0 := rfl
  have km : (-1 : Int32).toInt = -1 := rfl
  have k_0 := zq_k 0 (by decide)
  have zz0 := g0.1
  obtain ⟨b1, e2, q1⟩ := t_fX11_isMat t_now x1 (by first | assumption | omega | exact Or.inl rfl | exact Or.inr ⟨by omega, by omega⟩)
  rw [e2, Option.bind_some]
  by_cases h3 : (zb b1) = 0
  · rw [if_pos h3]
    exact ⟨_, rfl, trivial⟩
  · rw [if_neg h3]
    have q4 := q1 h3
    obtain ⟨⟨r4, t_passing_r5⟩, e6, q5⟩ := t_fX11_firstTight N t_now t_passing x1 hN ⟨by omega, by omega⟩ (by first | assumption | omega | exact Or.inl rfl | exact Or.inr ⟨by omega, by omega⟩) (by first | assumption | omega | exact Or.inl rfl | exact Or.inr ⟨by omega, by omega⟩)
    rw [e6, Option.bind_some]
    dsimp only
    exact ⟨_, rfl, trivial⟩
theorem t_fX11_isFine (t_fault : Int32)  : ∃ r, fX11_isFine t_fault = some r ∧ (True) := by
  unfold fX11_isFine
  have k0 : (0 : Int32).toInt = 0 := rfl
  have km : (-1 : Int32).toInt = -1 := rfl
  by_cases h1 : t_fault = (-1 : Int32)
  · rw [if_pos h1]
    have q2 := zq_eq h1
    exact ⟨_, rfl, trivial⟩
  · rw [if_neg h1]
    have q3 := zq_ne h1
    exact ⟨_, rfl, trivial⟩
theorem t_fX11_wrong (t_at : Int32) (t_fault : Int32)  : ∃ r, fX11_wrong t_at t_fault = some r ∧ (True) := by
  unfold fX11_wrong
  have k0 : (0 : Int32).toInt = 0 := rfl
  have km : (-1 : Int32).toInt = -1 := rfl
  by_cases h1 : t_fault = (-1 : Int32)
  · rw [if_pos h1]
    have q2 := zq_eq h1
    exact ⟨_, rfl, trivial⟩
  · rw [if_neg h1]
    have q3 := zq_ne h1
    exact ⟨_, rfl, trivial⟩
theorem t_fX11_isDigit (x1 : Int32)  : ∃ r, fX11_isDigit x1 = some r ∧ (True) := by
  unfold fX11_isDigit
  have k0 : (0 : Int32).toInt = 0 := rfl
  have km : (-1 : Int32).toInt = -1 := rfl
  have k_48 := zq_k 48 (by decide)
  have k_57 := zq_k 57 (by decide)
  by_cases h1 : x1 < (nI 48)
  · rw [if_pos h1]
    have q2 := zq_lt h1
    exact ⟨_, rfl, trivial⟩
  · rw [if_neg h1]
    have q3 := zq_nlt h1
    by_cases h4 : (nI 57) < x1
    · rw [if_pos h4]
      have q5 := zq_lt h4
      exact ⟨_, rfl, trivial⟩
    · rw [if_neg h4]
      have q6 := zq_nlt h4
      exact ⟨_, rfl, trivial⟩
theorem t_fX11_look_L0 (t_length : Int32) (t_text : Nat → Int32) (K : Int32 → Option (Int32 × Int32)) (P : Int32 × Int32 → Prop) (B : Int) (hl : 0 ≤ t_length.toInt ∧ t_length.toInt ≤ 200) (hK : ∀ v : Int32, 0 ≤ v.toInt ∧ v.toInt ≤ 200 → B ≤ v.toInt → ∃ r, K v = some r ∧ P r) : ∀ (n : Nat) (v : Int32), 0 ≤ v.toInt ∧ v.toInt ≤ 200 → B ≤ v.toInt → (1 ≤ n ∧ 201 - v.toInt ≤ (n : Int)) → ∃ r, fX11_look_L0 t_length t_text K n v = some r ∧ P r := by
  intro n
  induction n with
  | zero => intro v _ _ im; exact absurd im.1 (by decide)
  | succ n ih =>
    intro v iv ib im
    have im2 := im.2
    rw [fX11_look_L0]
    have k_1 := zq_k 1 (by decide)
    by_cases h : t_length ≤ v
    · rw [if_pos h]; exact hK v iv ib
    · rw [if_neg h]
      have q := zq_nle h
      rw [if_pos (zq_in (by omega) (by omega))]
      by_cases h2 : (t_text (v).toNatClampNeg) = (nI 32)
      · rw [if_pos h2]
        have a := zq_add (x := v) (y := nI 1) (by omega) (by omega)
        exact ih _ ⟨by omega, by omega⟩ (by omega) ⟨by omega, by omega⟩
      · rw [if_neg h2]; exact hK v iv ib
theorem t_fX11_look (N : Nat) (t_at : Int32) (t_length : Int32) (t_text : Nat → Int32) (hN : 10000 ≤ N) (h_t_at : 0 ≤ t_at.toInt ∧ t_at.toInt ≤ 200) (h_t_length : 0 ≤ t_length.toInt ∧ t_length.toInt ≤ 200) : ∃ r, fX11_look N t_at t_length t_text = some r ∧ (t_at.toInt ≤ r.2.toInt ∧ r.2.toInt ≤ 200 ∧ (r.1.toInt = -1 ∨ r.2.toInt ≤ 199)) := by
  unfold fX11_look
  refine t_fX11_look_L0 t_length t_text _ (fun r => t_at.toInt ≤ r.2.toInt ∧ r.2.toInt ≤ 200 ∧ (r.1.toInt = -1 ∨ r.2.toInt ≤ 199)) t_at.toInt h_t_length ?_ _ _ h_t_at (by omega) ⟨by omega, by omega⟩
  intro v iv ib
  by_cases h : t_length ≤ v
  · rw [if_pos h]; exact ⟨_, rfl, ib, iv.2, Or.inl rfl⟩
  · rw [if_neg h]
    have q := zq_nle h
    rw [if_pos (zq_in (by omega) (by omega))]
    exact ⟨_, rfl, ib, iv.2, Or.inr (by show v.toInt ≤ 199; omega)⟩
theorem t_fX11_number_L20 (t_length : Int32) (t_text : Nat → Int32) (K : Int32 → Int32 → Int32 → Int32 → Option (Int32 × Int32 × Int32)) (B : Int) (hl : 0 ≤ t_length.toInt ∧ t_length.toInt ≤ 200) (hK : ∀ (v1 v2 v f : Int32), 0 ≤ v.toInt ∧ v.toInt ≤ 200 → B ≤ v.toInt → ∃ r, K v1 v2 v f = some r ∧ (B ≤ r.2.1.toInt ∧ r.2.1.toInt ≤ 200)) : ∀ (n : Nat) (v1 v2 v f : Int32), 0 ≤ v.toInt ∧ v.toInt ≤ 200 → B ≤ v.toInt → (1 ≤ n ∧ 201 - v.toInt ≤ (n : Int)) → ∃ r, fX11_number_L20 t_length t_text K n v1 v2 v f = some r ∧ (B ≤ r.2.1.toInt ∧ r.2.1.toInt ≤ 200) := by
  intro n
  induction n with
  | zero => intro v1 v2 v f _ _ im; exact absurd im.1 (by decide)
  | succ n ih =>
    intro v1 v2 v f iv ib im
    have im2 := im.2
    rw [fX11_number_L20]
    have k_1 := zq_k 1 (by decide)
    by_cases h : t_length ≤ v
    · rw [if_pos h]; exact hK v1 v2 v f iv ib
    · rw [if_neg h]
      have q := zq_nle h
      have z : zin v 200 := zq_in (by omega) (by omega)
      rw [if_pos z]
      obtain ⟨b, e, _⟩ := t_fX11_isDigit (t_text (v).toNatClampNeg)
      rw [e, Option.bind_some]
      by_cases h2 : (zb b) = 0
      · rw [if_pos h2]; exact hK v1 v2 v f iv ib
      · rw [if_neg h2]
        by_cases h3 : v2 = (nI 5)
        · rw [if_pos h3]
          obtain ⟨w, e2, _⟩ := t_fX11_wrong v f
          rw [e2, Option.bind_some]
          exact ⟨_, rfl, ib, iv.2⟩
        · rw [if_neg h3, if_pos z]
          have a := zq_add (x := v) (y := nI 1) (by omega) (by omega)
          exact ih _ _ _ _ ⟨by omega, by omega⟩ (by omega) ⟨by omega, by omega⟩
theorem t_fX11_number (N : Nat) (t_at : Int32) (t_fault : Int32) (t_length : Int32) (t_text : Nat → Int32) (hN : 10000 ≤ N) (h_t_at : 0 ≤ t_at.toInt ∧ t_at.toInt ≤ 200) (h_t_length : 0 ≤ t_length.toInt ∧ t_length.toInt ≤ 200) : ∃ r, fX11_number N t_at t_fault t_length t_text = some r ∧ (t_at.toInt ≤ r.2.1.toInt ∧ r.2.1.toInt ≤ 200) := by
  unfold fX11_number
  obtain ⟨⟨r1, a2⟩, e, q⟩ := t_fX11_look N t_at t_length t_text hN h_t_at h_t_length
  rw [e, Option.bind_some]
  dsimp only at q
  dsimp only
  obtain ⟨b4, e4, _⟩ := t_fX11_isDigit r1
  rw [e4, Option.bind_some]
  by_cases h : (zb b4) = 0
  · rw [if_pos h]
    obtain ⟨w, e5, _⟩ := t_fX11_wrong a2 t_fault
    rw [e5, Option.bind_some]
    exact ⟨_, rfl, q.1, q.2.1⟩
  · rw [if_neg h]
    exact t_fX11_number_L20 t_length t_text _ t_at.toInt h_t_length (fun v1 v2 v f iv ib => ⟨_, rfl, ib, iv.2⟩) N _ _ a2 t_fault ⟨by omega, by omega⟩ q.1 ⟨by omega, by omega⟩
def zAsk (a : Int32) : Prop := a.toInt = -1 ∨ (0 ≤ a.toInt ∧ a.toInt ≤ 59)
/-- the tests inside a bracket answer, where at least lo brackets are open -/
def zTs (T : Int32 → Int32 → Int32 → Int32 → Int32 → (Nat → Int32) → (Nat → Int32) → Option (Bool × Int32 × Int32 × Int32)) (lo : Int) : Prop :=
  ∀ (a at_ f l o : Int32) (w x : Nat → Int32), zAsk a → 0 ≤ at_.toInt ∧ at_.toInt ≤ 200 → 0 ≤ l.toInt ∧ l.toInt ≤ 200 → lo ≤ o.toInt ∧ o.toInt ≤ 8 → zNowOk w →
    ∃ r, T a at_ f l o w x = some r ∧ (at_.toInt ≤ r.2.1.toInt ∧ r.2.1.toInt ≤ 200 ∧ r.2.2.2.toInt = o.toInt)
theorem t_fX11_sign (N : Nat) (t_at : Int32) (t_fault : Int32) (t_length : Int32) (t_text : Nat → Int32) (x1 : Int32) (hN : 10000 ≤ N) (h_t_at : 0 ≤ t_at.toInt ∧ t_at.toInt ≤ 200) (h_t_length : 0 ≤ t_length.toInt ∧ t_length.toInt ≤ 200) (g0 : 0 ≤ x1.toInt) : ∃ r, fX11_sign N t_at t_fault t_length t_text x1 = some r ∧ (t_at.toInt ≤ r.1.toInt ∧ r.1.toInt ≤ 200) := by
  unfold fX11_sign
  have k0 : (0 : Int32).toInt = 0 := rfl
  have km : (-1 : Int32).toInt = -1 := rfl
  have k_1 := zq_k 1 (by decide)
  obtain ⟨b1, e2, q1⟩ := t_fX11_isFine t_fault 
  rw [e2, Option.bind_some]
  by_cases h3 : (zb b1) = 0
  · rw [if_pos h3]
    refine ⟨_, rfl, ?_⟩
    dsimp only
    first | omega | assumption | (constructor <;> omega)
  · rw [if_neg h3]
    obtain ⟨⟨r4, t_at_r5⟩, e5, q4⟩ := t_fX11_look N t_at t_length t_text hN ⟨by omega, by omega⟩ ⟨by omega, by omega⟩
    rw [e5, Option.bind_some]
    dsimp only
    dsimp only at q4
    by_cases h6 : r4 = x1
    · rw [if_pos h6]
      have q7 := zq_eq h6
      try have a8 := zq_add (x := t_at_r5) (y := (nI 1)) (by omega) (by omega)
      refine ⟨_, rfl, ?_⟩
      dsimp only
      first | omega | assumption | (constructor <;> omega)
    · rw [if_neg h6]
      have q9 := zq_ne h6
      obtain ⟨t_fault_r8, e11, q10⟩ := t_fX11_wrong t_at_r5 t_fault 
      rw [e11, Option.bind_some]
      refine ⟨_, rfl, ?_⟩
      dsimp only
      first | omega | assumption | (constructor <;> omega)
set_option maxHeartbeats 20000000 in
set_option maxRecDepth 20000 in
theorem t_fX11_unit (T : Int32 → Int32 → Int32 → Int32 → Int32 → (Nat → Int32) → (Nat → Int32) → Option (Bool × Int32 × Int32 × Int32)) (N : Nat) (t_asked : Int32) (t_at : Int32) (t_fault : Int32) (t_length : Int32) (t_open : Int32) (t_now : Nat → Int32) (t_text : Nat → Int32) (hN : 10000 ≤ N) (h_t_at : 0 ≤ t_at.toInt ∧ t_at.toInt ≤ 200) (h_t_length : 0 ≤ t_length.toInt ∧ t_length.toInt ≤ 200) (h_t_open : 0 ≤ t_open.toInt ∧ t_open.toInt ≤ 8) (g0 : zAsk t_asked) (g1 : zTs T (t_open.toInt + 1)) (g2 : zNowOk t_now) : ∃ r, fX11_unit T N t_asked t_at t_fault t_length t_open t_now t_text = some r ∧ (t_at.toInt ≤ r.2.1.toInt ∧ r.2.1.toInt ≤ 200 ∧ r.2.2.2.toInt = t_open.toInt) := by
  unfold fX11_unit
  have k0 : (0 : Int32).toInt = 0 := rfl
  have km : (-1 : Int32).toInt = -1 := rfl
  have k_0 := zq_k 0 (by decide)
  have k_1 := zq_k 1 (by decide)
  have k_2 := zq_k 2 (by decide)
  have k_3 := zq_k 3 (by decide)
  have k_4 := zq_k 4 (by decide)
  have k_5 := zq_k 5 (by decide)
  have k_8 := zq_k 8 (by decide)
  have k_40 := zq_k 40 (by decide)
  have k_41 := zq_k 41 (by decide)
  have k_60 := zq_k 60 (by decide)
  have k_61 := zq_k 61 (by decide)
  have k_62 := zq_k 62 (by decide)
  have k_107 := zq_k 107 (by decide)
  have k_112 := zq_k 112 (by decide)
  have k_115 := zq_k 115 (by decide)
  have k_116 := zq_k 116 (by decide)
  have k_121 := zq_k 121 (by decide)
  have za : t_asked.toInt = -1 ∨ (0 ≤ t_asked.toInt ∧ t_asked.toInt ≤ 59) := g0
  have gT := g1
  have zz2 := g2.1
  obtain ⟨⟨r1, t_at_r2⟩, e2, q1⟩ := t_fX11_look N t_at t_length t_text hN ⟨by omega, by omega⟩ ⟨by omega, by omega⟩
  rw [e2, Option.bind_some]
  dsimp only
  dsimp only at q1
  by_cases h3 : r1 = (nI 40)
  · rw [if_pos h3]
    have q4 := zq_eq h3
    by_cases h5 : t_open = (nI 8)
    · rw [if_pos h5]
      have q6 := zq_eq h5
      obtain ⟨t_fault_r47, e8, q7⟩ := t_fX11_wrong t_at_r2 t_fault 
      rw [e8, Option.bind_some]
      refine ⟨_, rfl, ?_⟩
      dsimp only
      first | omega | assumption | (constructor <;> omega)
    · rw [if_neg h5]
      have q9 := zq_ne h5
      try have a10 := zq_add (x := t_at_r2) (y := (nI 1)) (by omega) (by omega)
      try have a11 := zq_add (x := t_open) (y := (nI 1)) (by omega) (by omega)
      obtain ⟨⟨b39, t_at_r40, t_fault_r41, t_open_r42⟩, e13, q12⟩ := gT t_asked (t_at_r2 + (nI 1)) t_fault t_length (t_open + (nI 1)) t_now t_text (by first | assumption | omega) ⟨by omega, by omega⟩ ⟨by omega, by omega⟩ ⟨by omega, by omega⟩ (by assumption)
      rw [e13, Option.bind_some]
      dsimp only
      dsimp only at q12
      obtain ⟨⟨t_at_r44, t_fault_r45⟩, e15, q14⟩ := t_fX11_sign N t_at_r40 t_fault_r41 t_length t_text (nI 41) hN ⟨by omega, by omega⟩ ⟨by omega, by omega⟩ (by first | assumption | omega | exact Or.inl rfl | exact Or.inr ⟨by omega, by omega⟩)
      rw [e15, Option.bind_some]
      dsimp only
      dsimp only at q14
      try have a16 := zq_sub (x := t_open_r42) (y := (nI 1)) (by omega) (by omega)
      refine ⟨_, rfl, ?_⟩
      dsimp only
      first | omega | assumption | (constructor <;> omega)
  · rw [if_neg h3]
    by_cases h17 : r1 = (nI 115)
    · rw [if_pos h17]
      have q18 := zq_eq h17
      unfold fX11_unit_J120
      by_cases h19 : (nI 3) = (-1 : Int32)
      · rw [if_pos h19]
        have q20 := zq_eq h19
        obtain ⟨t_fault_r31, e22, q21⟩ := t_fX11_wrong t_at_r2 t_fault 
        rw [e22, Option.bind_some]
        refine ⟨_, rfl, ?_⟩
        dsimp only
        first | omega | assumption | (constructor <;> omega)
      · rw [if_neg h19]
        have q23 := zq_ne h19
        try have a24 := zq_add (x := t_at_r2) (y := (nI 1)) (by omega) (by omega)
        obtain ⟨⟨r6, t_at_r7⟩, e26, q25⟩ := t_fX11_look N (t_at_r2 + (nI 1)) t_length t_text hN ⟨by omega, by omega⟩ ⟨by omega, by omega⟩
        rw [e26, Option.bind_some]
        dsimp only
        dsimp only at q25
        by_cases h27 : r6 = (nI 61)
        · rw [if_pos h27]
          have q28 := zq_eq h27
          unfold fX11_unit_J171
          try have a29 := zq_add (x := t_at_r7) (y := (nI 1)) (by omega) (by omega)
          obtain ⟨⟨r9, t_at_r10, t_fault_r11⟩, e31, q30⟩ := t_fX11_number N (t_at_r7 + (nI 1)) t_fault t_length t_text hN ⟨by omega, by omega⟩ ⟨by omega, by omega⟩
          rw [e31, Option.bind_some]
          dsimp only
          dsimp only at q30
          by_cases h32 : t_asked = (-1 : Int32)
          · rw [if_pos h32]
            have q33 := zq_eq h32
            by_cases h34 : r6 = (nI 61)
            · rw [if_pos h34]
              have q35 := zq_eq h34
              by_cases h36 : (nI 0) = r9
              · rw [if_pos h36]
                have q37 := zq_eq h36
                refine ⟨_, rfl, ?_⟩
                dsimp only
                first | omega | assumption | (constructor <;> omega)
              · rw [if_neg h36]
                have q38 := zq_ne h36
                refine ⟨_, rfl, ?_⟩
                dsimp only
                first | omega | assumption | (constructor <;> omega)
            · rw [if_neg h34]
              by_cases h39 : r6 = (nI 60)
              · rw [if_pos h39]
                have q40 := zq_eq h39
                by_cases h41 : r9 ≤ (nI 0)
                · rw [if_pos h41]
                  have q42 := zq_le h41
                  refine ⟨_, rfl, ?_⟩
                  dsimp only
                  first | omega | assumption | (constructor <;> omega)
                · rw [if_neg h41]
                  have q43 := zq_nle h41
                  refine ⟨_, rfl, ?_⟩
                  dsimp only
                  first | omega | assumption | (constructor <;> omega)
              · rw [if_neg h39]
                by_cases h44 : (nI 0) ≤ r9
                · rw [if_pos h44]
                  have q45 := zq_le h44
                  refine ⟨_, rfl, ?_⟩
                  dsimp only
                  first | omega | assumption | (constructor <;> omega)
                · rw [if_neg h44]
                  have q46 := zq_nle h44
                  refine ⟨_, rfl, ?_⟩
                  dsimp only
                  first | omega | assumption | (constructor <;> omega)
          · rw [if_neg h32]
            have q47 := zq_ne h32
            obtain ⟨r14, e49, q48⟩ := t_fX11_of t_now t_asked (nI 3) ⟨by omega, by omega⟩ ⟨by omega, by omega⟩ (by first | assumption | omega | exact Or.inl rfl | exact Or.inr ⟨by omega, by omega⟩)
            rw [e49, Option.bind_some]
            by_cases h50 : r6 = (nI 61)
            · rw [if_pos h50]
              have q51 := zq_eq h50
              by_cases h52 : r14 = r9
              · rw [if_pos h52]
                have q53 := zq_eq h52
                refine ⟨_, rfl, ?_⟩
                dsimp only
                first | omega | assumption | (constructor <;> omega)
              · rw [if_neg h52]
                have q54 := zq_ne h52
                refine ⟨_, rfl, ?_⟩
                dsimp only
                first | omega | assumption | (constructor <;> omega)
            · rw [if_neg h50]
              by_cases h55 : r6 = (nI 60)
              · rw [if_pos h55]
                have q56 := zq_eq h55
                by_cases h57 : r9 ≤ r14
                · rw [if_pos h57]
                  have q58 := zq_le h57
                  refine ⟨_, rfl, ?_⟩
                  dsimp only
                  first | omega | assumption | (constructor <;> omega)
                · rw [if_neg h57]
                  have q59 := zq_nle h57
                  refine ⟨_, rfl, ?_⟩
                  dsimp only
                  first | omega | assumption | (constructor <;> omega)
              · rw [if_neg h55]
                by_cases h60 : r14 ≤ r9
                · rw [if_pos h60]
                  have q61 := zq_le h60
                  refine ⟨_, rfl, ?_⟩
                  dsimp only
                  first | omega | assumption | (constructor <;> omega)
                · rw [if_neg h60]
                  have q62 := zq_nle h60
                  refine ⟨_, rfl, ?_⟩
                  dsimp only
                  first | omega | assumption | (constructor <;> omega)
        · rw [if_neg h27]
          by_cases h63 : r6 = (nI 60)
          · rw [if_pos h63]
            have q64 := zq_eq h63
            unfold fX11_unit_J171
            try have a65 := zq_add (x := t_at_r7) (y := (nI 1)) (by omega) (by omega)
            obtain ⟨⟨r9, t_at_r10, t_fault_r11⟩, e67, q66⟩ := t_fX11_number N (t_at_r7 + (nI 1)) t_fault t_length t_text hN ⟨by omega, by omega⟩ ⟨by omega, by omega⟩
            rw [e67, Option.bind_some]
            dsimp only
            dsimp only at q66
            by_cases h68 : t_asked = (-1 : Int32)
            · rw [if_pos h68]
              have q69 := zq_eq h68
              by_cases h70 : r6 = (nI 61)
              · rw [if_pos h70]
                have q71 := zq_eq h70
                by_cases h72 : (nI 0) = r9
                · rw [if_pos h72]
                  have q73 := zq_eq h72
                  refine ⟨_, rfl, ?_⟩
                  dsimp only
                  first | omega | assumption | (constructor <;> omega)
                · rw [if_neg h72]
                  have q74 := zq_ne h72
                  refine ⟨_, rfl, ?_⟩
                  dsimp only
                  first | omega | assumption | (constructor <;> omega)
              · rw [if_neg h70]
                by_cases h75 : r6 = (nI 60)
                · rw [if_pos h75]
                  have q76 := zq_eq h75
                  by_cases h77 : r9 ≤ (nI 0)
                  · rw [if_pos h77]
                    have q78 := zq_le h77
                    refine ⟨_, rfl, ?_⟩
                    dsimp only
                    first | omega | assumption | (constructor <;> omega)
                  · rw [if_neg h77]
                    have q79 := zq_nle h77
                    refine ⟨_, rfl, ?_⟩
                    dsimp only
                    first | omega | assumption | (constructor <;> omega)
                · rw [if_neg h75]
                  by_cases h80 : (nI 0) ≤ r9
                  · rw [if_pos h80]
                    have q81 := zq_le h80
                    refine ⟨_, rfl, ?_⟩
                    dsimp only
                    first | omega | assumption | (constructor <;> omega)
                  · rw [if_neg h80]
                    have q82 := zq_nle h80
                    refine ⟨_, rfl, ?_⟩
                    dsimp only
                    first | omega | assumption | (constructor <;> omega)
            · rw [if_neg h68]
              have q83 := zq_ne h68
              obtain ⟨r14, e85, q84⟩ := t_fX11_of t_now t_asked (nI 3) ⟨by omega, by omega⟩ ⟨by omega, by omega⟩ (by first | assumption | omega | exact Or.inl rfl | exact Or.inr ⟨by omega, by omega⟩)
              rw [e85, Option.bind_some]
              by_cases h86 : r6 = (nI 61)
              · rw [if_pos h86]
                have q87 := zq_eq h86
                by_cases h88 : r14 = r9
                · rw [if_pos h88]
                  have q89 := zq_eq h88
                  refine ⟨_, rfl, ?_⟩
                  dsimp only
                  first | omega | assumption | (constructor <;> omega)
                · rw [if_neg h88]
                  have q90 := zq_ne h88
                  refine ⟨_, rfl, ?_⟩
                  dsimp only
                  first | omega | assumption | (constructor <;> omega)
              · rw [if_neg h86]
                by_cases h91 : r6 = (nI 60)
                · rw [if_pos h91]
                  have q92 := zq_eq h91
                  by_cases h93 : r9 ≤ r14
                  · rw [if_pos h93]
                    have q94 := zq_le h93
                    refine ⟨_, rfl, ?_⟩
                    dsimp only
                    first | omega | assumption | (constructor <;> omega)
                  · rw [if_neg h93]
                    have q95 := zq_nle h93
                    refine ⟨_, rfl, ?_⟩
                    dsimp only
                    first | omega | assumption | (constructor <;> omega)
                · rw [if_neg h91]
                  by_cases h96 : r14 ≤ r9
                  · rw [if_pos h96]
                    have q97 := zq_le h96
                    refine ⟨_, rfl, ?_⟩
                    dsimp only
                    first | omega | assumption | (constructor <;> omega)
                  · rw [if_neg h96]
                    have q98 := zq_nle h96
                    refine ⟨_, rfl, ?_⟩
                    dsimp only
                    first | omega | assumption | (constructor <;> omega)
          · rw [if_neg h63]
            by_cases h99 : r6 = (nI 62)
            · rw [if_pos h99]
              have q100 := zq_eq h99
              unfold fX11_unit_J171
              try have a101 := zq_add (x := t_at_r7) (y := (nI 1)) (by omega) (by omega)
              obtain ⟨⟨r9, t_at_r10, t_fault_r11⟩, e103, q102⟩ := t_fX11_number N (t_at_r7 + (nI 1)) t_fault t_length t_text hN ⟨by omega, by omega⟩ ⟨by omega, by omega⟩
              rw [e103, Option.bind_some]
              dsimp only
              dsimp only at q102
              by_cases h104 : t_asked = (-1 : Int32)
              · rw [if_pos h104]
                have q105 := zq_eq h104
                by_cases h106 : r6 = (nI 61)
                · rw [if_pos h106]
                  have q107 := zq_eq h106
                  by_cases h108 : (nI 0) = r9
                  · rw [if_pos h108]
                    have q109 := zq_eq h108
                    refine ⟨_, rfl, ?_⟩
                    dsimp only
                    first | omega | assumption | (constructor <;> omega)
                  · rw [if_neg h108]
                    have q110 := zq_ne h108
                    refine ⟨_, rfl, ?_⟩
                    dsimp only
                    first | omega | assumption | (constructor <;> omega)
                · rw [if_neg h106]
                  by_cases h111 : r6 = (nI 60)
                  · rw [if_pos h111]
                    have q112 := zq_eq h111
                    by_cases h113 : r9 ≤ (nI 0)
                    · rw [if_pos h113]
                      have q114 := zq_le h113
                      refine ⟨_, rfl, ?_⟩
                      dsimp only
                      first | omega | assumption | (constructor <;> omega)
                    · rw [if_neg h113]
                      have q115 := zq_nle h113
                      refine ⟨_, rfl, ?_⟩
                      dsimp only
                      first | omega | assumption | (constructor <;> omega)
                  · rw [if_neg h111]
                    by_cases h116 : (nI 0) ≤ r9
                    · rw [if_pos h116]
                      have q117 := zq_le h116
                      refine ⟨_, rfl, ?_⟩
                      dsimp only
                      first | omega | assumption | (constructor <;> omega)
                    · rw [if_neg h116]
                      have q118 := zq_nle h116
                      refine ⟨_, rfl, ?_⟩
                      dsimp only
                      first | omega | assumption | (constructor <;> omega)
              · rw [if_neg h104]
                have q119 := zq_ne h104
                obtain ⟨r14, e121, q120⟩ := t_fX11_of t_now t_asked (nI 3) ⟨by omega, by omega⟩ ⟨by omega, by omega⟩ (by first | assumption | omega | exact Or.inl rfl | exact Or.inr ⟨by omega, by omega⟩)
                rw [e121, Option.bind_some]
                by_cases h122 : r6 = (nI 61)
                · rw [if_pos h122]
                  have q123 := zq_eq h122
                  by_cases h124 : r14 = r9
                  · rw [if_pos h124]
                    have q125 := zq_eq h124
                    refine ⟨_, rfl, ?_⟩
                    dsimp only
                    first | omega | assumption | (constructor <;> omega)
                  · rw [if_neg h124]
                    have q126 := zq_ne h124
                    refine ⟨_, rfl, ?_⟩
                    dsimp only
                    first | omega | assumption | (constructor <;> omega)
                · rw [if_neg h122]
                  by_cases h127 : r6 = (nI 60)
                  · rw [if_pos h127]
                    have q128 := zq_eq h127
                    by_cases h129 : r9 ≤ r14
                    · rw [if_pos h129]
                      have q130 := zq_le h129
                      refine ⟨_, rfl, ?_⟩
                      dsimp only
                      first | omega | assumption | (constructor <;> omega)
                    · rw [if_neg h129]
                      have q131 := zq_nle h129
                      refine ⟨_, rfl, ?_⟩
                      dsimp only
                      first | omega | assumption | (constructor <;> omega)
                  · rw [if_neg h127]
                    by_cases h132 : r14 ≤ r9
                    · rw [if_pos h132]
                      have q133 := zq_le h132
                      refine ⟨_, rfl, ?_⟩
                      dsimp only
                      first | omega | assumption | (constructor <;> omega)
                    · rw [if_neg h132]
                      have q134 := zq_nle h132
                      refine ⟨_, rfl, ?_⟩
                      dsimp only
                      first | omega | assumption | (constructor <;> omega)
            · rw [if_neg h99]
              obtain ⟨t_fault_r29, e136, q135⟩ := t_fX11_wrong t_at_r7 t_fault 
              rw [e136, Option.bind_some]
              refine ⟨_, rfl, ?_⟩
              dsimp only
              first | omega | assumption | (constructor <;> omega)
    · rw [if_neg h17]
      by_cases h137 : r1 = (nI 121)
      · rw [if_pos h137]
        have q138 := zq_eq h137
        unfold fX11_unit_J120
        by_cases h139 : (nI 2) = (-1 : Int32)
        · rw [if_pos h139]
          have q140 := zq_eq h139
          obtain ⟨t_fault_r31, e142, q141⟩ := t_fX11_wrong t_at_r2 t_fault 
          rw [e142, Option.bind_some]
          refine ⟨_, rfl, ?_⟩
          dsimp only
          first | omega | assumption | (constructor <;> omega)
        · rw [if_neg h139]
          have q143 := zq_ne h139
          try have a144 := zq_add (x := t_at_r2) (y := (nI 1)) (by omega) (by omega)
          obtain ⟨⟨r6, t_at_r7⟩, e146, q145⟩ := t_fX11_look N (t_at_r2 + (nI 1)) t_length t_text hN ⟨by omega, by omega⟩ ⟨by omega, by omega⟩
          rw [e146, Option.bind_some]
          dsimp only
          dsimp only at q145
          by_cases h147 : r6 = (nI 61)
          · rw [if_pos h147]
            have q148 := zq_eq h147
            unfold fX11_unit_J171
            try have a149 := zq_add (x := t_at_r7) (y := (nI 1)) (by omega) (by omega)
            obtain ⟨⟨r9, t_at_r10, t_fault_r11⟩, e151, q150⟩ := t_fX11_number N (t_at_r7 + (nI 1)) t_fault t_length t_text hN ⟨by omega, by omega⟩ ⟨by omega, by omega⟩
            rw [e151, Option.bind_some]
            dsimp only
            dsimp only at q150
            by_cases h152 : t_asked = (-1 : Int32)
            · rw [if_pos h152]
              have q153 := zq_eq h152
              by_cases h154 : r6 = (nI 61)
              · rw [if_pos h154]
                have q155 := zq_eq h154
                by_cases h156 : (nI 0) = r9
                · rw [if_pos h156]
                  have q157 := zq_eq h156
                  refine ⟨_, rfl, ?_⟩
                  dsimp only
                  first | omega | assumption | (constructor <;> omega)
                · rw [if_neg h156]
                  have q158 := zq_ne h156
                  refine ⟨_, rfl, ?_⟩
                  dsimp only
                  first | omega | assumption | (constructor <;> omega)
              · rw [if_neg h154]
                by_cases h159 : r6 = (nI 60)
                · rw [if_pos h159]
                  have q160 := zq_eq h159
                  by_cases h161 : r9 ≤ (nI 0)
                  · rw [if_pos h161]
                    have q162 := zq_le h161
                    refine ⟨_, rfl, ?_⟩
                    dsimp only
                    first | omega | assumption | (constructor <;> omega)
                  · rw [if_neg h161]
                    have q163 := zq_nle h161
                    refine ⟨_, rfl, ?_⟩
                    dsimp only
                    first | omega | assumption | (constructor <;> omega)
                · rw [if_neg h159]
                  by_cases h164 : (nI 0) ≤ r9
                  · rw [if_pos h164]
                    have q165 := zq_le h164
                    refine ⟨_, rfl, ?_⟩
                    dsimp only
                    first | omega | assumption | (constructor <;> omega)
                  · rw [if_neg h164]
                    have q166 := zq_nle h164
                    refine ⟨_, rfl, ?_⟩
                    dsimp only
                    first | omega | assumption | (constructor <;> omega)
            · rw [if_neg h152]
              have q167 := zq_ne h152
              obtain ⟨r14, e169, q168⟩ := t_fX11_of t_now t_asked (nI 2) ⟨by omega, by omega⟩ ⟨by omega, by omega⟩ (by first | assumption | omega | exact Or.inl rfl | exact Or.inr ⟨by omega, by omega⟩)
              rw [e169, Option.bind_some]
              by_cases h170 : r6 = (nI 61)
              · rw [if_pos h170]
                have q171 := zq_eq h170
                by_cases h172 : r14 = r9
                · rw [if_pos h172]
                  have q173 := zq_eq h172
                  refine ⟨_, rfl, ?_⟩
                  dsimp only
                  first | omega | assumption | (constructor <;> omega)
                · rw [if_neg h172]
                  have q174 := zq_ne h172
                  refine ⟨_, rfl, ?_⟩
                  dsimp only
                  first | omega | assumption | (constructor <;> omega)
              · rw [if_neg h170]
                by_cases h175 : r6 = (nI 60)
                · rw [if_pos h175]
                  have q176 := zq_eq h175
                  by_cases h177 : r9 ≤ r14
                  · rw [if_pos h177]
                    have q178 := zq_le h177
                    refine ⟨_, rfl, ?_⟩
                    dsimp only
                    first | omega | assumption | (constructor <;> omega)
                  · rw [if_neg h177]
                    have q179 := zq_nle h177
                    refine ⟨_, rfl, ?_⟩
                    dsimp only
                    first | omega | assumption | (constructor <;> omega)
                · rw [if_neg h175]
                  by_cases h180 : r14 ≤ r9
                  · rw [if_pos h180]
                    have q181 := zq_le h180
                    refine ⟨_, rfl, ?_⟩
                    dsimp only
                    first | omega | assumption | (constructor <;> omega)
                  · rw [if_neg h180]
                    have q182 := zq_nle h180
                    refine ⟨_, rfl, ?_⟩
                    dsimp only
                    first | omega | assumption | (constructor <;> omega)
          · rw [if_neg h147]
            by_cases h183 : r6 = (nI 60)
            · rw [if_pos h183]
              have q184 := zq_eq h183
              unfold fX11_unit_J171
              try have a185 := zq_add (x := t_at_r7) (y := (nI 1)) (by omega) (by omega)
              obtain ⟨⟨r9, t_at_r10, t_fault_r11⟩, e187, q186⟩ := t_fX11_number N (t_at_r7 + (nI 1)) t_fault t_length t_text hN ⟨by omega, by omega⟩ ⟨by omega, by omega⟩
              rw [e187, Option.bind_some]
              dsimp only
              dsimp only at q186
              by_cases h188 : t_asked = (-1 : Int32)
              · rw [if_pos h188]
                have q189 := zq_eq h188
                by_cases h190 : r6 = (nI 61)
                · rw [if_pos h190]
                  have q191 := zq_eq h190
                  by_cases h192 : (nI 0) = r9
                  · rw [if_pos h192]
                    have q193 := zq_eq h192
                    refine ⟨_, rfl, ?_⟩
                    dsimp only
                    first | omega | assumption | (constructor <;> omega)
                  · rw [if_neg h192]
                    have q194 := zq_ne h192
                    refine ⟨_, rfl, ?_⟩
                    dsimp only
                    first | omega | assumption | (constructor <;> omega)
                · rw [if_neg h190]
                  by_cases h195 : r6 = (nI 60)
                  · rw [if_pos h195]
                    have q196 := zq_eq h195
                    by_cases h197 : r9 ≤ (nI 0)
                    · rw [if_pos h197]
                      have q198 := zq_le h197
                      refine ⟨_, rfl, ?_⟩
                      dsimp only
                      first | omega | assumption | (constructor <;> omega)
                    · rw [if_neg h197]
                      have q199 := zq_nle h197
                      refine ⟨_, rfl, ?_⟩
                      dsimp only
                      first | omega | assumption | (constructor <;> omega)
                  · rw [if_neg h195]
                    by_cases h200 : (nI 0) ≤ r9
                    · rw [if_pos h200]
                      have q201 := zq_le h200
                      refine ⟨_, rfl, ?_⟩
                      dsimp only
                      first | omega | assumption | (constructor <;> omega)
                    · rw [if_neg h200]
                      have q202 := zq_nle h200
                      refine ⟨_, rfl, ?_⟩
                      dsimp only
                      first | omega | assumption | (constructor <;> omega)
              · rw [if_neg h188]
                have q203 := zq_ne h188
                obtain ⟨r14, e205, q204⟩ := t_fX11_of t_now t_asked (nI 2) ⟨by omega, by omega⟩ ⟨by omega, by omega⟩ (by first | assumption | omega | exact Or.inl rfl | exact Or.inr ⟨by omega, by omega⟩)
                rw [e205, Option.bind_some]
                by_cases h206 : r6 = (nI 61)
                · rw [if_pos h206]
                  have q207 := zq_eq h206
                  by_cases h208 : r14 = r9
                  · rw [if_pos h208]
                    have q209 := zq_eq h208
                    refine ⟨_, rfl, ?_⟩
                    dsimp only
                    first | omega | assumption | (constructor <;> omega)
                  · rw [if_neg h208]
                    have q210 := zq_ne h208
                    refine ⟨_, rfl, ?_⟩
                    dsimp only
                    first | omega | assumption | (constructor <;> omega)
                · rw [if_neg h206]
                  by_cases h211 : r6 = (nI 60)
                  · rw [if_pos h211]
                    have q212 := zq_eq h211
                    by_cases h213 : r9 ≤ r14
                    · rw [if_pos h213]
                      have q214 := zq_le h213
                      refine ⟨_, rfl, ?_⟩
                      dsimp only
                      first | omega | assumption | (constructor <;> omega)
                    · rw [if_neg h213]
                      have q215 := zq_nle h213
                      refine ⟨_, rfl, ?_⟩
                      dsimp only
                      first | omega | assumption | (constructor <;> omega)
                  · rw [if_neg h211]
                    by_cases h216 : r14 ≤ r9
                    · rw [if_pos h216]
                      have q217 := zq_le h216
                      refine ⟨_, rfl, ?_⟩
                      dsimp only
                      first | omega | assumption | (constructor <;> omega)
                    · rw [if_neg h216]
                      have q218 := zq_nle h216
                      refine ⟨_, rfl, ?_⟩
                      dsimp only
                      first | omega | assumption | (constructor <;> omega)
            · rw [if_neg h183]
              by_cases h219 : r6 = (nI 62)
              · rw [if_pos h219]
                have q220 := zq_eq h219
                unfold fX11_unit_J171
                try have a221 := zq_add (x := t_at_r7) (y := (nI 1)) (by omega) (by omega)
                obtain ⟨⟨r9, t_at_r10, t_fault_r11⟩, e223, q222⟩ := t_fX11_number N (t_at_r7 + (nI 1)) t_fault t_length t_text hN ⟨by omega, by omega⟩ ⟨by omega, by omega⟩
                rw [e223, Option.bind_some]
                dsimp only
                dsimp only at q222
                by_cases h224 : t_asked = (-1 : Int32)
                · rw [if_pos h224]
                  have q225 := zq_eq h224
                  by_cases h226 : r6 = (nI 61)
                  · rw [if_pos h226]
                    have q227 := zq_eq h226
                    by_cases h228 : (nI 0) = r9
                    · rw [if_pos h228]
                      have q229 := zq_eq h228
                      refine ⟨_, rfl, ?_⟩
                      dsimp only
                      first | omega | assumption | (constructor <;> omega)
                    · rw [if_neg h228]
                      have q230 := zq_ne h228
                      refine ⟨_, rfl, ?_⟩
                      dsimp only
                      first | omega | assumption | (constructor <;> omega)
                  · rw [if_neg h226]
                    by_cases h231 : r6 = (nI 60)
                    · rw [if_pos h231]
                      have q232 := zq_eq h231
                      by_cases h233 : r9 ≤ (nI 0)
                      · rw [if_pos h233]
                        have q234 := zq_le h233
                        refine ⟨_, rfl, ?_⟩
                        dsimp only
                        first | omega | assumption | (constructor <;> omega)
                      · rw [if_neg h233]
                        have q235 := zq_nle h233
                        refine ⟨_, rfl, ?_⟩
                        dsimp only
                        first | omega | assumption | (constructor <;> omega)
                    · rw [if_neg h231]
                      by_cases h236 : (nI 0) ≤ r9
                      · rw [if_pos h236]
                        have q237 := zq_le h236
                        refine ⟨_, rfl, ?_⟩
                        dsimp only
                        first | omega | assumption | (constructor <;> omega)
                      · rw [if_neg h236]
                        have q238 := zq_nle h236
                        refine ⟨_, rfl, ?_⟩
                        dsimp only
                        first | omega | assumption | (constructor <;> omega)
                · rw [if_neg h224]
                  have q239 := zq_ne h224
                  obtain ⟨r14, e241, q240⟩ := t_fX11_of t_now t_asked (nI 2) ⟨by omega, by omega⟩ ⟨by omega, by omega⟩ (by first | assumption | omega | exact Or.inl rfl | exact Or.inr ⟨by omega, by omega⟩)
                  rw [e241, Option.bind_some]
                  by_cases h242 : r6 = (nI 61)
                  · rw [if_pos h242]
                    have q243 := zq_eq h242
                    by_cases h244 : r14 = r9
                    · rw [if_pos h244]
                      have q245 := zq_eq h244
                      refine ⟨_, rfl, ?_⟩
                      dsimp only
                      first | omega | assumption | (constructor <;> omega)
                    · rw [if_neg h244]
                      have q246 := zq_ne h244
                      refine ⟨_, rfl, ?_⟩
                      dsimp only
                      first | omega | assumption | (constructor <;> omega)
                  · rw [if_neg h242]
                    by_cases h247 : r6 = (nI 60)
                    · rw [if_pos h247]
                      have q248 := zq_eq h247
                      by_cases h249 : r9 ≤ r14
                      · rw [if_pos h249]
                        have q250 := zq_le h249
                        refine ⟨_, rfl, ?_⟩
                        dsimp only
                        first | omega | assumption | (constructor <;> omega)
                      · rw [if_neg h249]
                        have q251 := zq_nle h249
                        refine ⟨_, rfl, ?_⟩
                        dsimp only
                        first | omega | assumption | (constructor <;> omega)
                    · rw [if_neg h247]
                      by_cases h252 : r14 ≤ r9
                      · rw [if_pos h252]
                        have q253 := zq_le h252
                        refine ⟨_, rfl, ?_⟩
                        dsimp only
                        first | omega | assumption | (constructor <;> omega)
                      · rw [if_neg h252]
                        have q254 := zq_nle h252
                        refine ⟨_, rfl, ?_⟩
                        dsimp only
                        first | omega | assumption | (constructor <;> omega)
              · rw [if_neg h219]
                obtain ⟨t_fault_r29, e256, q255⟩ := t_fX11_wrong t_at_r7 t_fault 
                rw [e256, Option.bind_some]
                refine ⟨_, rfl, ?_⟩
                dsimp only
                first | omega | assumption | (constructor <;> omega)
      · rw [if_neg h137]
        by_cases h257 : r1 = (nI 116)
        · rw [if_pos h257]
          have q258 := zq_eq h257
          unfold fX11_unit_J120
          by_cases h259 : (nI 4) = (-1 : Int32)
          · rw [if_pos h259]
            have q260 := zq_eq h259
            obtain ⟨t_fault_r31, e262, q261⟩ := t_fX11_wrong t_at_r2 t_fault 
            rw [e262, Option.bind_some]
            refine ⟨_, rfl, ?_⟩
            dsimp only
            first | omega | assumption | (constructor <;> omega)
          · rw [if_neg h259]
            have q263 := zq_ne h259
            try have a264 := zq_add (x := t_at_r2) (y := (nI 1)) (by omega) (by omega)
            obtain ⟨⟨r6, t_at_r7⟩, e266, q265⟩ := t_fX11_look N (t_at_r2 + (nI 1)) t_length t_text hN ⟨by omega, by omega⟩ ⟨by omega, by omega⟩
            rw [e266, Option.bind_some]
            dsimp only
            dsimp only at q265
            by_cases h267 : r6 = (nI 61)
            · rw [if_pos h267]
              have q268 := zq_eq h267
              unfold fX11_unit_J171
              try have a269 := zq_add (x := t_at_r7) (y := (nI 1)) (by omega) (by omega)
              obtain ⟨⟨r9, t_at_r10, t_fault_r11⟩, e271, q270⟩ := t_fX11_number N (t_at_r7 + (nI 1)) t_fault t_length t_text hN ⟨by omega, by omega⟩ ⟨by omega, by omega⟩
              rw [e271, Option.bind_some]
              dsimp only
              dsimp only at q270
              by_cases h272 : t_asked = (-1 : Int32)
              · rw [if_pos h272]
                have q273 := zq_eq h272
                by_cases h274 : r6 = (nI 61)
                · rw [if_pos h274]
                  have q275 := zq_eq h274
                  by_cases h276 : (nI 0) = r9
                  · rw [if_pos h276]
                    have q277 := zq_eq h276
                    refine ⟨_, rfl, ?_⟩
                    dsimp only
                    first | omega | assumption | (constructor <;> omega)
                  · rw [if_neg h276]
                    have q278 := zq_ne h276
                    refine ⟨_, rfl, ?_⟩
                    dsimp only
                    first | omega | assumption | (constructor <;> omega)
                · rw [if_neg h274]
                  by_cases h279 : r6 = (nI 60)
                  · rw [if_pos h279]
                    have q280 := zq_eq h279
                    by_cases h281 : r9 ≤ (nI 0)
                    · rw [if_pos h281]
                      have q282 := zq_le h281
                      refine ⟨_, rfl, ?_⟩
                      dsimp only
                      first | omega | assumption | (constructor <;> omega)
                    · rw [if_neg h281]
                      have q283 := zq_nle h281
                      refine ⟨_, rfl, ?_⟩
                      dsimp only
                      first | omega | assumption | (constructor <;> omega)
                  · rw [if_neg h279]
                    by_cases h284 : (nI 0) ≤ r9
                    · rw [if_pos h284]
                      have q285 := zq_le h284
                      refine ⟨_, rfl, ?_⟩
                      dsimp only
                      first | omega | assumption | (constructor <;> omega)
                    · rw [if_neg h284]
                      have q286 := zq_nle h284
                      refine ⟨_, rfl, ?_⟩
                      dsimp only
                      first | omega | assumption | (constructor <;> omega)
              · rw [if_neg h272]
                have q287 := zq_ne h272
                obtain ⟨r14, e289, q288⟩ := t_fX11_of t_now t_asked (nI 4) ⟨by omega, by omega⟩ ⟨by omega, by omega⟩ (by first | assumption | omega | exact Or.inl rfl | exact Or.inr ⟨by omega, by omega⟩)
                rw [e289, Option.bind_some]
                by_cases h290 : r6 = (nI 61)
                · rw [if_pos h290]
                  have q291 := zq_eq h290
                  by_cases h292 : r14 = r9
                  · rw [if_pos h292]
                    have q293 := zq_eq h292
                    refine ⟨_, rfl, ?_⟩
                    dsimp only
                    first | omega | assumption | (constructor <;> omega)
                  · rw [if_neg h292]
                    have q294 := zq_ne h292
                    refine ⟨_, rfl, ?_⟩
                    dsimp only
                    first | omega | assumption | (constructor <;> omega)
                · rw [if_neg h290]
                  by_cases h295 : r6 = (nI 60)
                  · rw [if_pos h295]
                    have q296 := zq_eq h295
                    by_cases h297 : r9 ≤ r14
                    · rw [if_pos h297]
                      have q298 := zq_le h297
                      refine ⟨_, rfl, ?_⟩
                      dsimp only
                      first | omega | assumption | (constructor <;> omega)
                    · rw [if_neg h297]
                      have q299 := zq_nle h297
                      refine ⟨_, rfl, ?_⟩
                      dsimp only
                      first | omega | assumption | (constructor <;> omega)
                  · rw [if_neg h295]
                    by_cases h300 : r14 ≤ r9
                    · rw [if_pos h300]
                      have q301 := zq_le h300
                      refine ⟨_, rfl, ?_⟩
                      dsimp only
                      first | omega | assumption | (constructor <;> omega)
                    · rw [if_neg h300]
                      have q302 := zq_nle h300
                      refine ⟨_, rfl, ?_⟩
                      dsimp only
                      first | omega | assumption | (constructor <;> omega)
            · rw [if_neg h267]
              by_cases h303 : r6 = (nI 60)
              · rw [if_pos h303]
                have q304 := zq_eq h303
                unfold fX11_unit_J171
                try have a305 := zq_add (x := t_at_r7) (y := (nI 1)) (by omega) (by omega)
                obtain ⟨⟨r9, t_at_r10, t_fault_r11⟩, e307, q306⟩ := t_fX11_number N (t_at_r7 + (nI 1)) t_fault t_length t_text hN ⟨by omega, by omega⟩ ⟨by omega, by omega⟩
                rw [e307, Option.bind_some]
                dsimp only
                dsimp only at q306
                by_cases h308 : t_asked = (-1 : Int32)
                · rw [if_pos h308]
                  have q309 := zq_eq h308
                  by_cases h310 : r6 = (nI 61)
                  · rw [if_pos h310]
                    have q311 := zq_eq h310
                    by_cases h312 : (nI 0) = r9
                    · rw [if_pos h312]
                      have q313 := zq_eq h312
                      refine ⟨_, rfl, ?_⟩
                      dsimp only
                      first | omega | assumption | (constructor <;> omega)
                    · rw [if_neg h312]
                      have q314 := zq_ne h312
                      refine ⟨_, rfl, ?_⟩
                      dsimp only
                      first | omega | assumption | (constructor <;> omega)
                  · rw [if_neg h310]
                    by_cases h315 : r6 = (nI 60)
                    · rw [if_pos h315]
                      have q316 := zq_eq h315
                      by_cases h317 : r9 ≤ (nI 0)
                      · rw [if_pos h317]
                        have q318 := zq_le h317
                        refine ⟨_, rfl, ?_⟩
                        dsimp only
                        first | omega | assumption | (constructor <;> omega)
                      · rw [if_neg h317]
                        have q319 := zq_nle h317
                        refine ⟨_, rfl, ?_⟩
                        dsimp only
                        first | omega | assumption | (constructor <;> omega)
                    · rw [if_neg h315]
                      by_cases h320 : (nI 0) ≤ r9
                      · rw [if_pos h320]
                        have q321 := zq_le h320
                        refine ⟨_, rfl, ?_⟩
                        dsimp only
                        first | omega | assumption | (constructor <;> omega)
                      · rw [if_neg h320]
                        have q322 := zq_nle h320
                        refine ⟨_, rfl, ?_⟩
                        dsimp only
                        first | omega | assumption | (constructor <;> omega)
                · rw [if_neg h308]
                  have q323 := zq_ne h308
                  obtain ⟨r14, e325, q324⟩ := t_fX11_of t_now t_asked (nI 4) ⟨by omega, by omega⟩ ⟨by omega, by omega⟩ (by first | assumption | omega | exact Or.inl rfl | exact Or.inr ⟨by omega, by omega⟩)
                  rw [e325, Option.bind_some]
                  by_cases h326 : r6 = (nI 61)
                  · rw [if_pos h326]
                    have q327 := zq_eq h326
                    by_cases h328 : r14 = r9
                    · rw [if_pos h328]
                      have q329 := zq_eq h328
                      refine ⟨_, rfl, ?_⟩
                      dsimp only
                      first | omega | assumption | (constructor <;> omega)
                    · rw [if_neg h328]
                      have q330 := zq_ne h328
                      refine ⟨_, rfl, ?_⟩
                      dsimp only
                      first | omega | assumption | (constructor <;> omega)
                  · rw [if_neg h326]
                    by_cases h331 : r6 = (nI 60)
                    · rw [if_pos h331]
                      have q332 := zq_eq h331
                      by_cases h333 : r9 ≤ r14
                      · rw [if_pos h333]
                        have q334 := zq_le h333
                        refine ⟨_, rfl, ?_⟩
                        dsimp only
                        first | omega | assumption | (constructor <;> omega)
                      · rw [if_neg h333]
                        have q335 := zq_nle h333
                        refine ⟨_, rfl, ?_⟩
                        dsimp only
                        first | omega | assumption | (constructor <;> omega)
                    · rw [if_neg h331]
                      by_cases h336 : r14 ≤ r9
                      · rw [if_pos h336]
                        have q337 := zq_le h336
                        refine ⟨_, rfl, ?_⟩
                        dsimp only
                        first | omega | assumption | (constructor <;> omega)
                      · rw [if_neg h336]
                        have q338 := zq_nle h336
                        refine ⟨_, rfl, ?_⟩
                        dsimp only
                        first | omega | assumption | (constructor <;> omega)
              · rw [if_neg h303]
                by_cases h339 : r6 = (nI 62)
                · rw [if_pos h339]
                  have q340 := zq_eq h339
                  unfold fX11_unit_J171
                  try have a341 := zq_add (x := t_at_r7) (y := (nI 1)) (by omega) (by omega)
                  obtain ⟨⟨r9, t_at_r10, t_fault_r11⟩, e343, q342⟩ := t_fX11_number N (t_at_r7 + (nI 1)) t_fault t_length t_text hN ⟨by omega, by omega⟩ ⟨by omega, by omega⟩
                  rw [e343, Option.bind_some]
                  dsimp only
                  dsimp only at q342
                  by_cases h344 : t_asked = (-1 : Int32)
                  · rw [if_pos h344]
                    have q345 := zq_eq h344
                    by_cases h346 : r6 = (nI 61)
                    · rw [if_pos h346]
                      have q347 := zq_eq h346
                      by_cases h348 : (nI 0) = r9
                      · rw [if_pos h348]
                        have q349 := zq_eq h348
                        refine ⟨_, rfl, ?_⟩
                        dsimp only
                        first | omega | assumption | (constructor <;> omega)
                      · rw [if_neg h348]
                        have q350 := zq_ne h348
                        refine ⟨_, rfl, ?_⟩
                        dsimp only
                        first | omega | assumption | (constructor <;> omega)
                    · rw [if_neg h346]
                      by_cases h351 : r6 = (nI 60)
                      · rw [if_pos h351]
                        have q352 := zq_eq h351
                        by_cases h353 : r9 ≤ (nI 0)
                        · rw [if_pos h353]
                          have q354 := zq_le h353
                          refine ⟨_, rfl, ?_⟩
                          dsimp only
                          first | omega | assumption | (constructor <;> omega)
                        · rw [if_neg h353]
                          have q355 := zq_nle h353
                          refine ⟨_, rfl, ?_⟩
                          dsimp only
                          first | omega | assumption | (constructor <;> omega)
                      · rw [if_neg h351]
                        by_cases h356 : (nI 0) ≤ r9
                        · rw [if_pos h356]
                          have q357 := zq_le h356
                          refine ⟨_, rfl, ?_⟩
                          dsimp only
                          first | omega | assumption | (constructor <;> omega)
                        · rw [if_neg h356]
                          have q358 := zq_nle h356
                          refine ⟨_, rfl, ?_⟩
                          dsimp only
                          first | omega | assumption | (constructor <;> omega)
                  · rw [if_neg h344]
                    have q359 := zq_ne h344
                    obtain ⟨r14, e361, q360⟩ := t_fX11_of t_now t_asked (nI 4) ⟨by omega, by omega⟩ ⟨by omega, by omega⟩ (by first | assumption | omega | exact Or.inl rfl | exact Or.inr ⟨by omega, by omega⟩)
                    rw [e361, Option.bind_some]
                    by_cases h362 : r6 = (nI 61)
                    · rw [if_pos h362]
                      have q363 := zq_eq h362
                      by_cases h364 : r14 = r9
                      · rw [if_pos h364]
                        have q365 := zq_eq h364
                        refine ⟨_, rfl, ?_⟩
                        dsimp only
                        first | omega | assumption | (constructor <;> omega)
                      · rw [if_neg h364]
                        have q366 := zq_ne h364
                        refine ⟨_, rfl, ?_⟩
                        dsimp only
                        first | omega | assumption | (constructor <;> omega)
                    · rw [if_neg h362]
                      by_cases h367 : r6 = (nI 60)
                      · rw [if_pos h367]
                        have q368 := zq_eq h367
                        by_cases h369 : r9 ≤ r14
                        · rw [if_pos h369]
                          have q370 := zq_le h369
                          refine ⟨_, rfl, ?_⟩
                          dsimp only
                          first | omega | assumption | (constructor <;> omega)
                        · rw [if_neg h369]
                          have q371 := zq_nle h369
                          refine ⟨_, rfl, ?_⟩
                          dsimp only
                          first | omega | assumption | (constructor <;> omega)
                      · rw [if_neg h367]
                        by_cases h372 : r14 ≤ r9
                        · rw [if_pos h372]
                          have q373 := zq_le h372
                          refine ⟨_, rfl, ?_⟩
                          dsimp only
                          first | omega | assumption | (constructor <;> omega)
                        · rw [if_neg h372]
                          have q374 := zq_nle h372
                          refine ⟨_, rfl, ?_⟩
                          dsimp only
                          first | omega | assumption | (constructor <;> omega)
                · rw [if_neg h339]
                  obtain ⟨t_fault_r29, e376, q375⟩ := t_fX11_wrong t_at_r7 t_fault 
                  rw [e376, Option.bind_some]
                  refine ⟨_, rfl, ?_⟩
                  dsimp only
                  first | omega | assumption | (constructor <;> omega)
        · rw [if_neg h257]
          by_cases h377 : r1 = (nI 112)
          · rw [if_pos h377]
            have q378 := zq_eq h377
            unfold fX11_unit_J120
            by_cases h379 : (nI 5) = (-1 : Int32)
            · rw [if_pos h379]
              have q380 := zq_eq h379
              obtain ⟨t_fault_r31, e382, q381⟩ := t_fX11_wrong t_at_r2 t_fault 
              rw [e382, Option.bind_some]
              refine ⟨_, rfl, ?_⟩
              dsimp only
              first | omega | assumption | (constructor <;> omega)
            · rw [if_neg h379]
              have q383 := zq_ne h379
              try have a384 := zq_add (x := t_at_r2) (y := (nI 1)) (by omega) (by omega)
              obtain ⟨⟨r6, t_at_r7⟩, e386, q385⟩ := t_fX11_look N (t_at_r2 + (nI 1)) t_length t_text hN ⟨by omega, by omega⟩ ⟨by omega, by omega⟩
              rw [e386, Option.bind_some]
              dsimp only
              dsimp only at q385
              by_cases h387 : r6 = (nI 61)
              · rw [if_pos h387]
                have q388 := zq_eq h387
                unfold fX11_unit_J171
                try have a389 := zq_add (x := t_at_r7) (y := (nI 1)) (by omega) (by omega)
                obtain ⟨⟨r9, t_at_r10, t_fault_r11⟩, e391, q390⟩ := t_fX11_number N (t_at_r7 + (nI 1)) t_fault t_length t_text hN ⟨by omega, by omega⟩ ⟨by omega, by omega⟩
                rw [e391, Option.bind_some]
                dsimp only
                dsimp only at q390
                by_cases h392 : t_asked = (-1 : Int32)
                · rw [if_pos h392]
                  have q393 := zq_eq h392
                  by_cases h394 : r6 = (nI 61)
                  · rw [if_pos h394]
                    have q395 := zq_eq h394
                    by_cases h396 : (nI 0) = r9
                    · rw [if_pos h396]
                      have q397 := zq_eq h396
                      refine ⟨_, rfl, ?_⟩
                      dsimp only
                      first | omega | assumption | (constructor <;> omega)
                    · rw [if_neg h396]
                      have q398 := zq_ne h396
                      refine ⟨_, rfl, ?_⟩
                      dsimp only
                      first | omega | assumption | (constructor <;> omega)
                  · rw [if_neg h394]
                    by_cases h399 : r6 = (nI 60)
                    · rw [if_pos h399]
                      have q400 := zq_eq h399
                      by_cases h401 : r9 ≤ (nI 0)
                      · rw [if_pos h401]
                        have q402 := zq_le h401
                        refine ⟨_, rfl, ?_⟩
                        dsimp only
                        first | omega | assumption | (constructor <;> omega)
                      · rw [if_neg h401]
                        have q403 := zq_nle h401
                        refine ⟨_, rfl, ?_⟩
                        dsimp only
                        first | omega | assumption | (constructor <;> omega)
                    · rw [if_neg h399]
                      by_cases h404 : (nI 0) ≤ r9
                      · rw [if_pos h404]
                        have q405 := zq_le h404
                        refine ⟨_, rfl, ?_⟩
                        dsimp only
                        first | omega | assumption | (constructor <;> omega)
                      · rw [if_neg h404]
                        have q406 := zq_nle h404
                        refine ⟨_, rfl, ?_⟩
                        dsimp only
                        first | omega | assumption | (constructor <;> omega)
                · rw [if_neg h392]
                  have q407 := zq_ne h392
                  obtain ⟨r14, e409, q408⟩ := t_fX11_of t_now t_asked (nI 5) ⟨by omega, by omega⟩ ⟨by omega, by omega⟩ (by first | assumption | omega | exact Or.inl rfl | exact Or.inr ⟨by omega, by omega⟩)
                  rw [e409, Option.bind_some]
                  by_cases h410 : r6 = (nI 61)
                  · rw [if_pos h410]
                    have q411 := zq_eq h410
                    by_cases h412 : r14 = r9
                    · rw [if_pos h412]
                      have q413 := zq_eq h412
                      refine ⟨_, rfl, ?_⟩
                      dsimp only
                      first | omega | assumption | (constructor <;> omega)
                    · rw [if_neg h412]
                      have q414 := zq_ne h412
                      refine ⟨_, rfl, ?_⟩
                      dsimp only
                      first | omega | assumption | (constructor <;> omega)
                  · rw [if_neg h410]
                    by_cases h415 : r6 = (nI 60)
                    · rw [if_pos h415]
                      have q416 := zq_eq h415
                      by_cases h417 : r9 ≤ r14
                      · rw [if_pos h417]
                        have q418 := zq_le h417
                        refine ⟨_, rfl, ?_⟩
                        dsimp only
                        first | omega | assumption | (constructor <;> omega)
                      · rw [if_neg h417]
                        have q419 := zq_nle h417
                        refine ⟨_, rfl, ?_⟩
                        dsimp only
                        first | omega | assumption | (constructor <;> omega)
                    · rw [if_neg h415]
                      by_cases h420 : r14 ≤ r9
                      · rw [if_pos h420]
                        have q421 := zq_le h420
                        refine ⟨_, rfl, ?_⟩
                        dsimp only
                        first | omega | assumption | (constructor <;> omega)
                      · rw [if_neg h420]
                        have q422 := zq_nle h420
                        refine ⟨_, rfl, ?_⟩
                        dsimp only
                        first | omega | assumption | (constructor <;> omega)
              · rw [if_neg h387]
                by_cases h423 : r6 = (nI 60)
                · rw [if_pos h423]
                  have q424 := zq_eq h423
                  unfold fX11_unit_J171
                  try have a425 := zq_add (x := t_at_r7) (y := (nI 1)) (by omega) (by omega)
                  obtain ⟨⟨r9, t_at_r10, t_fault_r11⟩, e427, q426⟩ := t_fX11_number N (t_at_r7 + (nI 1)) t_fault t_length t_text hN ⟨by omega, by omega⟩ ⟨by omega, by omega⟩
                  rw [e427, Option.bind_some]
                  dsimp only
                  dsimp only at q426
                  by_cases h428 : t_asked = (-1 : Int32)
                  · rw [if_pos h428]
                    have q429 := zq_eq h428
                    by_cases h430 : r6 = (nI 61)
                    · rw [if_pos h430]
                      have q431 := zq_eq h430
                      by_cases h432 : (nI 0) = r9
                      · rw [if_pos h432]
                        have q433 := zq_eq h432
                        refine ⟨_, rfl, ?_⟩
                        dsimp only
                        first | omega | assumption | (constructor <;> omega)
                      · rw [if_neg h432]
                        have q434 := zq_ne h432
                        refine ⟨_, rfl, ?_⟩
                        dsimp only
                        first | omega | assumption | (constructor <;> omega)
                    · rw [if_neg h430]
                      by_cases h435 : r6 = (nI 60)
                      · rw [if_pos h435]
                        have q436 := zq_eq h435
                        by_cases h437 : r9 ≤ (nI 0)
                        · rw [if_pos h437]
                          have q438 := zq_le h437
                          refine ⟨_, rfl, ?_⟩
                          dsimp only
                          first | omega | assumption | (constructor <;> omega)
                        · rw [if_neg h437]
                          have q439 := zq_nle h437
                          refine ⟨_, rfl, ?_⟩
                          dsimp only
                          first | omega | assumption | (constructor <;> omega)
                      · rw [if_neg h435]
                        by_cases h440 : (nI 0) ≤ r9
                        · rw [if_pos h440]
                          have q441 := zq_le h440
                          refine ⟨_, rfl, ?_⟩
                          dsimp only
                          first | omega | assumption | (constructor <;> omega)
                        · rw [if_neg h440]
                          have q442 := zq_nle h440
                          refine ⟨_, rfl, ?_⟩
                          dsimp only
                          first | omega | assumption | (constructor <;> omega)
                  · rw [if_neg h428]
                    have q443 := zq_ne h428
                    obtain ⟨r14, e445, q444⟩ := t_fX11_of t_now t_asked (nI 5) ⟨by omega, by omega⟩ ⟨by omega, by omega⟩ (by first | assumption | omega | exact Or.inl rfl | exact Or.inr ⟨by omega, by omega⟩)
                    rw [e445, Option.bind_some]
                    by_cases h446 : r6 = (nI 61)
                    · rw [if_pos h446]
                      have q447 := zq_eq h446
                      by_cases h448 : r14 = r9
                      · rw [if_pos h448]
                        have q449 := zq_eq h448
                        refine ⟨_, rfl, ?_⟩
                        dsimp only
                        first | omega | assumption | (constructor <;> omega)
                      · rw [if_neg h448]
                        have q450 := zq_ne h448
                        refine ⟨_, rfl, ?_⟩
                        dsimp only
                        first | omega | assumption | (constructor <;> omega)
                    · rw [if_neg h446]
                      by_cases h451 : r6 = (nI 60)
                      · rw [if_pos h451]
                        have q452 := zq_eq h451
                        by_cases h453 : r9 ≤ r14
                        · rw [if_pos h453]
                          have q454 := zq_le h453
                          refine ⟨_, rfl, ?_⟩
                          dsimp only
                          first | omega | assumption | (constructor <;> omega)
                        · rw [if_neg h453]
                          have q455 := zq_nle h453
                          refine ⟨_, rfl, ?_⟩
                          dsimp only
                          first | omega | assumption | (constructor <;> omega)
                      · rw [if_neg h451]
                        by_cases h456 : r14 ≤ r9
                        · rw [if_pos h456]
                          have q457 := zq_le h456
                          refine ⟨_, rfl, ?_⟩
                          dsimp only
                          first | omega | assumption | (constructor <;> omega)
                        · rw [if_neg h456]
                          have q458 := zq_nle h456
                          refine ⟨_, rfl, ?_⟩
                          dsimp only
                          first | omega | assumption | (constructor <;> omega)
                · rw [if_neg h423]
                  by_cases h459 : r6 = (nI 62)
                  · rw [if_pos h459]
                    have q460 := zq_eq h459
                    unfold fX11_unit_J171
                    try have a461 := zq_add (x := t_at_r7) (y := (nI 1)) (by omega) (by omega)
                    obtain ⟨⟨r9, t_at_r10, t_fault_r11⟩, e463, q462⟩ := t_fX11_number N (t_at_r7 + (nI 1)) t_fault t_length t_text hN ⟨by omega, by omega⟩ ⟨by omega, by omega⟩
                    rw [e463, Option.bind_some]
                    dsimp only
                    dsimp only at q462
                    by_cases h464 : t_asked = (-1 : Int32)
                    · rw [if_pos h464]
                      have q465 := zq_eq h464
                      by_cases h466 : r6 = (nI 61)
                      · rw [if_pos h466]
                        have q467 := zq_eq h466
                        by_cases h468 : (nI 0) = r9
                        · rw [if_pos h468]
                          have q469 := zq_eq h468
                          refine ⟨_, rfl, ?_⟩
                          dsimp only
                          first | omega | assumption | (constructor <;> omega)
                        · rw [if_neg h468]
                          have q470 := zq_ne h468
                          refine ⟨_, rfl, ?_⟩
                          dsimp only
                          first | omega | assumption | (constructor <;> omega)
                      · rw [if_neg h466]
                        by_cases h471 : r6 = (nI 60)
                        · rw [if_pos h471]
                          have q472 := zq_eq h471
                          by_cases h473 : r9 ≤ (nI 0)
                          · rw [if_pos h473]
                            have q474 := zq_le h473
                            refine ⟨_, rfl, ?_⟩
                            dsimp only
                            first | omega | assumption | (constructor <;> omega)
                          · rw [if_neg h473]
                            have q475 := zq_nle h473
                            refine ⟨_, rfl, ?_⟩
                            dsimp only
                            first | omega | assumption | (constructor <;> omega)
                        · rw [if_neg h471]
                          by_cases h476 : (nI 0) ≤ r9
                          · rw [if_pos h476]
                            have q477 := zq_le h476
                            refine ⟨_, rfl, ?_⟩
                            dsimp only
                            first | omega | assumption | (constructor <;> omega)
                          · rw [if_neg h476]
                            have q478 := zq_nle h476
                            refine ⟨_, rfl, ?_⟩
                            dsimp only
                            first | omega | assumption | (constructor <;> omega)
                    · rw [if_neg h464]
                      have q479 := zq_ne h464
                      obtain ⟨r14, e481, q480⟩ := t_fX11_of t_now t_asked (nI 5) ⟨by omega, by omega⟩ ⟨by omega, by omega⟩ (by first | assumption | omega | exact Or.inl rfl | exact Or.inr ⟨by omega, by omega⟩)
                      rw [e481, Option.bind_some]
                      by_cases h482 : r6 = (nI 61)
                      · rw [if_pos h482]
                        have q483 := zq_eq h482
                        by_cases h484 : r14 = r9
                        · rw [if_pos h484]
                          have q485 := zq_eq h484
                          refine ⟨_, rfl, ?_⟩
                          dsimp only
                          first | omega | assumption | (constructor <;> omega)
                        · rw [if_neg h484]
                          have q486 := zq_ne h484
                          refine ⟨_, rfl, ?_⟩
                          dsimp only
                          first | omega | assumption | (constructor <;> omega)
                      · rw [if_neg h482]
                        by_cases h487 : r6 = (nI 60)
                        · rw [if_pos h487]
                          have q488 := zq_eq h487
                          by_cases h489 : r9 ≤ r14
                          · rw [if_pos h489]
                            have q490 := zq_le h489
                            refine ⟨_, rfl, ?_⟩
                            dsimp only
                            first | omega | assumption | (constructor <;> omega)
                          · rw [if_neg h489]
                            have q491 := zq_nle h489
                            refine ⟨_, rfl, ?_⟩
                            dsimp only
                            first | omega | assumption | (constructor <;> omega)
                        · rw [if_neg h487]
                          by_cases h492 : r14 ≤ r9
                          · rw [if_pos h492]
                            have q493 := zq_le h492
                            refine ⟨_, rfl, ?_⟩
                            dsimp only
                            first | omega | assumption | (constructor <;> omega)
                          · rw [if_neg h492]
                            have q494 := zq_nle h492
                            refine ⟨_, rfl, ?_⟩
                            dsimp only
                            first | omega | assumption | (constructor <;> omega)
                  · rw [if_neg h459]
                    obtain ⟨t_fault_r29, e496, q495⟩ := t_fX11_wrong t_at_r7 t_fault 
                    rw [e496, Option.bind_some]
                    refine ⟨_, rfl, ?_⟩
                    dsimp only
                    first | omega | assumption | (constructor <;> omega)
          · rw [if_neg h377]
            by_cases h497 : r1 = (nI 107)
            · rw [if_pos h497]
              have q498 := zq_eq h497
              unfold fX11_unit_J120
              by_cases h499 : (nI 0) = (-1 : Int32)
              · rw [if_pos h499]
                have q500 := zq_eq h499
                obtain ⟨t_fault_r31, e502, q501⟩ := t_fX11_wrong t_at_r2 t_fault 
                rw [e502, Option.bind_some]
                refine ⟨_, rfl, ?_⟩
                dsimp only
                first | omega | assumption | (constructor <;> omega)
              · rw [if_neg h499]
                have q503 := zq_ne h499
                try have a504 := zq_add (x := t_at_r2) (y := (nI 1)) (by omega) (by omega)
                obtain ⟨⟨r6, t_at_r7⟩, e506, q505⟩ := t_fX11_look N (t_at_r2 + (nI 1)) t_length t_text hN ⟨by omega, by omega⟩ ⟨by omega, by omega⟩
                rw [e506, Option.bind_some]
                dsimp only
                dsimp only at q505
                by_cases h507 : r6 = (nI 61)
                · rw [if_pos h507]
                  have q508 := zq_eq h507
                  unfold fX11_unit_J171
                  try have a509 := zq_add (x := t_at_r7) (y := (nI 1)) (by omega) (by omega)
                  obtain ⟨⟨r9, t_at_r10, t_fault_r11⟩, e511, q510⟩ := t_fX11_number N (t_at_r7 + (nI 1)) t_fault t_length t_text hN ⟨by omega, by omega⟩ ⟨by omega, by omega⟩
                  rw [e511, Option.bind_some]
                  dsimp only
                  dsimp only at q510
                  by_cases h512 : t_asked = (-1 : Int32)
                  · rw [if_pos h512]
                    have q513 := zq_eq h512
                    by_cases h514 : r6 = (nI 61)
                    · rw [if_pos h514]
                      have q515 := zq_eq h514
                      by_cases h516 : (nI 0) = r9
                      · rw [if_pos h516]
                        have q517 := zq_eq h516
                        refine ⟨_, rfl, ?_⟩
                        dsimp only
                        first | omega | assumption | (constructor <;> omega)
                      · rw [if_neg h516]
                        have q518 := zq_ne h516
                        refine ⟨_, rfl, ?_⟩
                        dsimp only
                        first | omega | assumption | (constructor <;> omega)
                    · rw [if_neg h514]
                      by_cases h519 : r6 = (nI 60)
                      · rw [if_pos h519]
                        have q520 := zq_eq h519
                        by_cases h521 : r9 ≤ (nI 0)
                        · rw [if_pos h521]
                          have q522 := zq_le h521
                          refine ⟨_, rfl, ?_⟩
                          dsimp only
                          first | omega | assumption | (constructor <;> omega)
                        · rw [if_neg h521]
                          have q523 := zq_nle h521
                          refine ⟨_, rfl, ?_⟩
                          dsimp only
                          first | omega | assumption | (constructor <;> omega)
                      · rw [if_neg h519]
                        by_cases h524 : (nI 0) ≤ r9
                        · rw [if_pos h524]
                          have q525 := zq_le h524
                          refine ⟨_, rfl, ?_⟩
                          dsimp only
                          first | omega | assumption | (constructor <;> omega)
                        · rw [if_neg h524]
                          have q526 := zq_nle h524
                          refine ⟨_, rfl, ?_⟩
                          dsimp only
                          first | omega | assumption | (constructor <;> omega)
                  · rw [if_neg h512]
                    have q527 := zq_ne h512
                    obtain ⟨r14, e529, q528⟩ := t_fX11_of t_now t_asked (nI 0) ⟨by omega, by omega⟩ ⟨by omega, by omega⟩ (by first | assumption | omega | exact Or.inl rfl | exact Or.inr ⟨by omega, by omega⟩)
                    rw [e529, Option.bind_some]
                    by_cases h530 : r6 = (nI 61)
                    · rw [if_pos h530]
                      have q531 := zq_eq h530
                      by_cases h532 : r14 = r9
                      · rw [if_pos h532]
                        have q533 := zq_eq h532
                        refine ⟨_, rfl, ?_⟩
                        dsimp only
                        first | omega | assumption | (constructor <;> omega)
                      · rw [if_neg h532]
                        have q534 := zq_ne h532
                        refine ⟨_, rfl, ?_⟩
                        dsimp only
                        first | omega | assumption | (constructor <;> omega)
                    · rw [if_neg h530]
                      by_cases h535 : r6 = (nI 60)
                      · rw [if_pos h535]
                        have q536 := zq_eq h535
                        by_cases h537 : r9 ≤ r14
                        · rw [if_pos h537]
                          have q538 := zq_le h537
                          refine ⟨_, rfl, ?_⟩
                          dsimp only
                          first | omega | assumption | (constructor <;> omega)
                        · rw [if_neg h537]
                          have q539 := zq_nle h537
                          refine ⟨_, rfl, ?_⟩
                          dsimp only
                          first | omega | assumption | (constructor <;> omega)
                      · rw [if_neg h535]
                        by_cases h540 : r14 ≤ r9
                        · rw [if_pos h540]
                          have q541 := zq_le h540
                          refine ⟨_, rfl, ?_⟩
                          dsimp only
                          first | omega | assumption | (constructor <;> omega)
                        · rw [if_neg h540]
                          have q542 := zq_nle h540
                          refine ⟨_, rfl, ?_⟩
                          dsimp only
                          first | omega | assumption | (constructor <;> omega)
                · rw [if_neg h507]
                  by_cases h543 : r6 = (nI 60)
                  · rw [if_pos h543]
                    have q544 := zq_eq h543
                    unfold fX11_unit_J171
                    try have a545 := zq_add (x := t_at_r7) (y := (nI 1)) (by omega) (by omega)
                    obtain ⟨⟨r9, t_at_r10, t_fault_r11⟩, e547, q546⟩ := t_fX11_number N (t_at_r7 + (nI 1)) t_fault t_length t_text hN ⟨by omega, by omega⟩ ⟨by omega, by omega⟩
                    rw [e547, Option.bind_some]
                    dsimp only
                    dsimp only at q546
                    by_cases h548 : t_asked = (-1 : Int32)
                    · rw [if_pos h548]
                      have q549 := zq_eq h548
                      by_cases h550 : r6 = (nI 61)
                      · rw [if_pos h550]
                        have q551 := zq_eq h550
                        by_cases h552 : (nI 0) = r9
                        · rw [if_pos h552]
                          have q553 := zq_eq h552
                          refine ⟨_, rfl, ?_⟩
                          dsimp only
                          first | omega | assumption | (constructor <;> omega)
                        · rw [if_neg h552]
                          have q554 := zq_ne h552
                          refine ⟨_, rfl, ?_⟩
                          dsimp only
                          first | omega | assumption | (constructor <;> omega)
                      · rw [if_neg h550]
                        by_cases h555 : r6 = (nI 60)
                        · rw [if_pos h555]
                          have q556 := zq_eq h555
                          by_cases h557 : r9 ≤ (nI 0)
                          · rw [if_pos h557]
                            have q558 := zq_le h557
                            refine ⟨_, rfl, ?_⟩
                            dsimp only
                            first | omega | assumption | (constructor <;> omega)
                          · rw [if_neg h557]
                            have q559 := zq_nle h557
                            refine ⟨_, rfl, ?_⟩
                            dsimp only
                            first | omega | assumption | (constructor <;> omega)
                        · rw [if_neg h555]
                          by_cases h560 : (nI 0) ≤ r9
                          · rw [if_pos h560]
                            have q561 := zq_le h560
                            refine ⟨_, rfl, ?_⟩
                            dsimp only
                            first | omega | assumption | (constructor <;> omega)
                          · rw [if_neg h560]
                            have q562 := zq_nle h560
                            refine ⟨_, rfl, ?_⟩
                            dsimp only
                            first | omega | assumption | (constructor <;> omega)
                    · rw [if_neg h548]
                      have q563 := zq_ne h548
                      obtain ⟨r14, e565, q564⟩ := t_fX11_of t_now t_asked (nI 0) ⟨by omega, by omega⟩ ⟨by omega, by omega⟩ (by first | assumption | omega | exact Or.inl rfl | exact Or.inr ⟨by omega, by omega⟩)
                      rw [e565, Option.bind_some]
                      by_cases h566 : r6 = (nI 61)
                      · rw [if_pos h566]
                        have q567 := zq_eq h566
                        by_cases h568 : r14 = r9
                        · rw [if_pos h568]
                          have q569 := zq_eq h568
                          refine ⟨_, rfl, ?_⟩
                          dsimp only
                          first | omega | assumption | (constructor <;> omega)
                        · rw [if_neg h568]
                          have q570 := zq_ne h568
                          refine ⟨_, rfl, ?_⟩
                          dsimp only
                          first | omega | assumption | (constructor <;> omega)
                      · rw [if_neg h566]
                        by_cases h571 : r6 = (nI 60)
                        · rw [if_pos h571]
                          have q572 := zq_eq h571
                          by_cases h573 : r9 ≤ r14
                          · rw [if_pos h573]
                            have q574 := zq_le h573
                            refine ⟨_, rfl, ?_⟩
                            dsimp only
                            first | omega | assumption | (constructor <;> omega)
                          · rw [if_neg h573]
                            have q575 := zq_nle h573
                            refine ⟨_, rfl, ?_⟩
                            dsimp only
                            first | omega | assumption | (constructor <;> omega)
                        · rw [if_neg h571]
                          by_cases h576 : r14 ≤ r9
                          · rw [if_pos h576]
                            have q577 := zq_le h576
                            refine ⟨_, rfl, ?_⟩
                            dsimp only
                            first | omega | assumption | (constructor <;> omega)
                          · rw [if_neg h576]
                            have q578 := zq_nle h576
                            refine ⟨_, rfl, ?_⟩
                            dsimp only
                            first | omega | assumption | (constructor <;> omega)
                  · rw [if_neg h543]
                    by_cases h579 : r6 = (nI 62)
                    · rw [if_pos h579]
                      have q580 := zq_eq h579
                      unfold fX11_unit_J171
                      try have a581 := zq_add (x := t_at_r7) (y := (nI 1)) (by omega) (by omega)
                      obtain ⟨⟨r9, t_at_r10, t_fault_r11⟩, e583, q582⟩ := t_fX11_number N (t_at_r7 + (nI 1)) t_fault t_length t_text hN ⟨by omega, by omega⟩ ⟨by omega, by omega⟩
                      rw [e583, Option.bind_some]
                      dsimp only
                      dsimp only at q582
                      by_cases h584 : t_asked = (-1 : Int32)
                      · rw [if_pos h584]
                        have q585 := zq_eq h584
                        by_cases h586 : r6 = (nI 61)
                        · rw [if_pos h586]
                          have q587 := zq_eq h586
                          by_cases h588 : (nI 0) = r9
                          · rw [if_pos h588]
                            have q589 := zq_eq h588
                            refine ⟨_, rfl, ?_⟩
                            dsimp only
                            first | omega | assumption | (constructor <;> omega)
                          · rw [if_neg h588]
                            have q590 := zq_ne h588
                            refine ⟨_, rfl, ?_⟩
                            dsimp only
                            first | omega | assumption | (constructor <;> omega)
                        · rw [if_neg h586]
                          by_cases h591 : r6 = (nI 60)
                          · rw [if_pos h591]
                            have q592 := zq_eq h591
                            by_cases h593 : r9 ≤ (nI 0)
                            · rw [if_pos h593]
                              have q594 := zq_le h593
                              refine ⟨_, rfl, ?_⟩
                              dsimp only
                              first | omega | assumption | (constructor <;> omega)
                            · rw [if_neg h593]
                              have q595 := zq_nle h593
                              refine ⟨_, rfl, ?_⟩
                              dsimp only
                              first | omega | assumption | (constructor <;> omega)
                          · rw [if_neg h591]
                            by_cases h596 : (nI 0) ≤ r9
                            · rw [if_pos h596]
                              have q597 := zq_le h596
                              refine ⟨_, rfl, ?_⟩
                              dsimp only
                              first | omega | assumption | (constructor <;> omega)
                            · rw [if_neg h596]
                              have q598 := zq_nle h596
                              refine ⟨_, rfl, ?_⟩
                              dsimp only
                              first | omega | assumption | (constructor <;> omega)
                      · rw [if_neg h584]
                        have q599 := zq_ne h584
                        obtain ⟨r14, e601, q600⟩ := t_fX11_of t_now t_asked (nI 0) ⟨by omega, by omega⟩ ⟨by omega, by omega⟩ (by first | assumption | omega | exact Or.inl rfl | exact Or.inr ⟨by omega, by omega⟩)
                        rw [e601, Option.bind_some]
                        by_cases h602 : r6 = (nI 61)
                        · rw [if_pos h602]
                          have q603 := zq_eq h602
                          by_cases h604 : r14 = r9
                          · rw [if_pos h604]
                            have q605 := zq_eq h604
                            refine ⟨_, rfl, ?_⟩
                            dsimp only
                            first | omega | assumption | (constructor <;> omega)
                          · rw [if_neg h604]
                            have q606 := zq_ne h604
                            refine ⟨_, rfl, ?_⟩
                            dsimp only
                            first | omega | assumption | (constructor <;> omega)
                        · rw [if_neg h602]
                          by_cases h607 : r6 = (nI 60)
                          · rw [if_pos h607]
                            have q608 := zq_eq h607
                            by_cases h609 : r9 ≤ r14
                            · rw [if_pos h609]
                              have q610 := zq_le h609
                              refine ⟨_, rfl, ?_⟩
                              dsimp only
                              first | omega | assumption | (constructor <;> omega)
                            · rw [if_neg h609]
                              have q611 := zq_nle h609
                              refine ⟨_, rfl, ?_⟩
                              dsimp only
                              first | omega | assumption | (constructor <;> omega)
                          · rw [if_neg h607]
                            by_cases h612 : r14 ≤ r9
                            · rw [if_pos h612]
                              have q613 := zq_le h612
                              refine ⟨_, rfl, ?_⟩
                              dsimp only
                              first | omega | assumption | (constructor <;> omega)
                            · rw [if_neg h612]
                              have q614 := zq_nle h612
                              refine ⟨_, rfl, ?_⟩
                              dsimp only
                              first | omega | assumption | (constructor <;> omega)
                    · rw [if_neg h579]
                      obtain ⟨t_fault_r29, e616, q615⟩ := t_fX11_wrong t_at_r7 t_fault 
                      rw [e616, Option.bind_some]
                      refine ⟨_, rfl, ?_⟩
                      dsimp only
                      first | omega | assumption | (constructor <;> omega)
            · rw [if_neg h497]
              unfold fX11_unit_J120
              by_cases h617 : (-1 : Int32) = (-1 : Int32)
              · rw [if_pos h617]
                have q618 := zq_eq h617
                obtain ⟨t_fault_r31, e620, q619⟩ := t_fX11_wrong t_at_r2 t_fault 
                rw [e620, Option.bind_some]
                refine ⟨_, rfl, ?_⟩
                dsimp only
                first | omega | assumption | (constructor <;> omega)
              · rw [if_neg h617]
                have q621 := zq_ne h617
                try have a622 := zq_add (x := t_at_r2) (y := (nI 1)) (by omega) (by omega)
                obtain ⟨⟨r6, t_at_r7⟩, e624, q623⟩ := t_fX11_look N (t_at_r2 + (nI 1)) t_length t_text hN ⟨by omega, by omega⟩ ⟨by omega, by omega⟩
                rw [e624, Option.bind_some]
                dsimp only
                dsimp only at q623
                by_cases h625 : r6 = (nI 61)
                · rw [if_pos h625]
                  have q626 := zq_eq h625
                  unfold fX11_unit_J171
                  try have a627 := zq_add (x := t_at_r7) (y := (nI 1)) (by omega) (by omega)
                  obtain ⟨⟨r9, t_at_r10, t_fault_r11⟩, e629, q628⟩ := t_fX11_number N (t_at_r7 + (nI 1)) t_fault t_length t_text hN ⟨by omega, by omega⟩ ⟨by omega, by omega⟩
                  rw [e629, Option.bind_some]
                  dsimp only
                  dsimp only at q628
                  by_cases h630 : t_asked = (-1 : Int32)
                  · rw [if_pos h630]
                    have q631 := zq_eq h630
                    by_cases h632 : r6 = (nI 61)
                    · rw [if_pos h632]
                      have q633 := zq_eq h632
                      by_cases h634 : (nI 0) = r9
                      · rw [if_pos h634]
                        have q635 := zq_eq h634
                        refine ⟨_, rfl, ?_⟩
                        dsimp only
                        first | omega | assumption | (constructor <;> omega)
                      · rw [if_neg h634]
                        have q636 := zq_ne h634
                        refine ⟨_, rfl, ?_⟩
                        dsimp only
                        first | omega | assumption | (constructor <;> omega)
                    · rw [if_neg h632]
                      by_cases h637 : r6 = (nI 60)
                      · rw [if_pos h637]
                        have q638 := zq_eq h637
                        by_cases h639 : r9 ≤ (nI 0)
                        · rw [if_pos h639]
                          have q640 := zq_le h639
                          refine ⟨_, rfl, ?_⟩
                          dsimp only
                          first | omega | assumption | (constructor <;> omega)
                        · rw [if_neg h639]
                          have q641 := zq_nle h639
                          refine ⟨_, rfl, ?_⟩
                          dsimp only
                          first | omega | assumption | (constructor <;> omega)
                      · rw [if_neg h637]
                        by_cases h642 : (nI 0) ≤ r9
                        · rw [if_pos h642]
                          have q643 := zq_le h642
                          refine ⟨_, rfl, ?_⟩
                          dsimp only
                          first | omega | assumption | (constructor <;> omega)
                        · rw [if_neg h642]
                          have q644 := zq_nle h642
                          refine ⟨_, rfl, ?_⟩
                          dsimp only
                          first | omega | assumption | (constructor <;> omega)
                  · rw [if_neg h630]
                    have q645 := zq_ne h630
                    obtain ⟨r14, e647, q646⟩ := t_fX11_of t_now t_asked (-1 : Int32) ⟨by omega, by omega⟩ ⟨by omega, by omega⟩ (by first | assumption | omega | exact Or.inl rfl | exact Or.inr ⟨by omega, by omega⟩)
                    rw [e647, Option.bind_some]
                    by_cases h648 : r6 = (nI 61)
                    · rw [if_pos h648]
                      have q649 := zq_eq h648
                      by_cases h650 : r14 = r9
                      · rw [if_pos h650]
                        have q651 := zq_eq h650
                        refine ⟨_, rfl, ?_⟩
                        dsimp only
                        first | omega | assumption | (constructor <;> omega)
                      · rw [if_neg h650]
                        have q652 := zq_ne h650
                        refine ⟨_, rfl, ?_⟩
                        dsimp only
                        first | omega | assumption | (constructor <;> omega)
                    · rw [if_neg h648]
                      by_cases h653 : r6 = (nI 60)
                      · rw [if_pos h653]
                        have q654 := zq_eq h653
                        by_cases h655 : r9 ≤ r14
                        · rw [if_pos h655]
                          have q656 := zq_le h655
                          refine ⟨_, rfl, ?_⟩
                          dsimp only
                          first | omega | assumption | (constructor <;> omega)
                        · rw [if_neg h655]
                          have q657 := zq_nle h655
                          refine ⟨_, rfl, ?_⟩
                          dsimp only
                          first | omega | assumption | (constructor <;> omega)
                      · rw [if_neg h653]
                        by_cases h658 : r14 ≤ r9
                        · rw [if_pos h658]
                          have q659 := zq_le h658
                          refine ⟨_, rfl, ?_⟩
                          dsimp only
                          first | omega | assumption | (constructor <;> omega)
                        · rw [if_neg h658]
                          have q660 := zq_nle h658
                          refine ⟨_, rfl, ?_⟩
                          dsimp only
                          first | omega | assumption | (constructor <;> omega)
                · rw [if_neg h625]
                  by_cases h661 : r6 = (nI 60)
                  · rw [if_pos h661]
                    have q662 := zq_eq h661
                    unfold fX11_unit_J171
                    try have a663 := zq_add (x := t_at_r7) (y := (nI 1)) (by omega) (by omega)
                    obtain ⟨⟨r9, t_at_r10, t_fault_r11⟩, e665, q664⟩ := t_fX11_number N (t_at_r7 + (nI 1)) t_fault t_length t_text hN ⟨by omega, by omega⟩ ⟨by omega, by omega⟩
                    rw [e665, Option.bind_some]
                    dsimp only
                    dsimp only at q664
                    by_cases h666 : t_asked = (-1 : Int32)
                    · rw [if_pos h666]
                      have q667 := zq_eq h666
                      by_cases h668 : r6 = (nI 61)
                      · rw [if_pos h668]
                        have q669 := zq_eq h668
                        by_cases h670 : (nI 0) = r9
                        · rw [if_pos h670]
                          have q671 := zq_eq h670
                          refine ⟨_, rfl, ?_⟩
                          dsimp only
                          first | omega | assumption | (constructor <;> omega)
                        · rw [if_neg h670]
                          have q672 := zq_ne h670
                          refine ⟨_, rfl, ?_⟩
                          dsimp only
                          first | omega | assumption | (constructor <;> omega)
                      · rw [if_neg h668]
                        by_cases h673 : r6 = (nI 60)
                        · rw [if_pos h673]
                          have q674 := zq_eq h673
                          by_cases h675 : r9 ≤ (nI 0)
                          · rw [if_pos h675]
                            have q676 := zq_le h675
                            refine ⟨_, rfl, ?_⟩
                            dsimp only
                            first | omega | assumption | (constructor <;> omega)
                          · rw [if_neg h675]
                            have q677 := zq_nle h675
                            refine ⟨_, rfl, ?_⟩
                            dsimp only
                            first | omega | assumption | (constructor <;> omega)
                        · rw [if_neg h673]
                          by_cases h678 : (nI 0) ≤ r9
                          · rw [if_pos h678]
                            have q679 := zq_le h678
                            refine ⟨_, rfl, ?_⟩
                            dsimp only
                            first | omega | assumption | (constructor <;> omega)
                          · rw [if_neg h678]
                            have q680 := zq_nle h678
                            refine ⟨_, rfl, ?_⟩
                            dsimp only
                            first | omega | assumption | (constructor <;> omega)
                    · rw [if_neg h666]
                      have q681 := zq_ne h666
                      obtain ⟨r14, e683, q682⟩ := t_fX11_of t_now t_asked (-1 : Int32) ⟨by omega, by omega⟩ ⟨by omega, by omega⟩ (by first | assumption | omega | exact Or.inl rfl | exact Or.inr ⟨by omega, by omega⟩)
                      rw [e683, Option.bind_some]
                      by_cases h684 : r6 = (nI 61)
                      · rw [if_pos h684]
                        have q685 := zq_eq h684
                        by_cases h686 : r14 = r9
                        · rw [if_pos h686]
                          have q687 := zq_eq h686
                          refine ⟨_, rfl, ?_⟩
                          dsimp only
                          first | omega | assumption | (constructor <;> omega)
                        · rw [if_neg h686]
                          have q688 := zq_ne h686
                          refine ⟨_, rfl, ?_⟩
                          dsimp only
                          first | omega | assumption | (constructor <;> omega)
                      · rw [if_neg h684]
                        by_cases h689 : r6 = (nI 60)
                        · rw [if_pos h689]
                          have q690 := zq_eq h689
                          by_cases h691 : r9 ≤ r14
                          · rw [if_pos h691]
                            have q692 := zq_le h691
                            refine ⟨_, rfl, ?_⟩
                            dsimp only
                            first | omega | assumption | (constructor <;> omega)
                          · rw [if_neg h691]
                            have q693 := zq_nle h691
                            refine ⟨_, rfl, ?_⟩
                            dsimp only
                            first | omega | assumption | (constructor <;> omega)
                        · rw [if_neg h689]
                          by_cases h694 : r14 ≤ r9
                          · rw [if_pos h694]
                            have q695 := zq_le h694
                            refine ⟨_, rfl, ?_⟩
                            dsimp only
                            first | omega | assumption | (constructor <;> omega)
                          · rw [if_neg h694]
                            have q696 := zq_nle h694
                            refine ⟨_, rfl, ?_⟩
                            dsimp only
                            first | omega | assumption | (constructor <;> omega)
                  · rw [if_neg h661]
                    by_cases h697 : r6 = (nI 62)
                    · rw [if_pos h697]
                      have q698 := zq_eq h697
                      unfold fX11_unit_J171
                      try have a699 := zq_add (x := t_at_r7) (y := (nI 1)) (by omega) (by omega)
                      obtain ⟨⟨r9, t_at_r10, t_fault_r11⟩, e701, q700⟩ := t_fX11_number N (t_at_r7 + (nI 1)) t_fault t_length t_text hN ⟨by omega, by omega⟩ ⟨by omega, by omega⟩
                      rw [e701, Option.bind_some]
                      dsimp only
                      dsimp only at q700
                      by_cases h702 : t_asked = (-1 : Int32)
                      · rw [if_pos h702]
                        have q703 := zq_eq h702
                        by_cases h704 : r6 = (nI 61)
                        · rw [if_pos h704]
                          have q705 := zq_eq h704
                          by_cases h706 : (nI 0) = r9
                          · rw [if_pos h706]
                            have q707 := zq_eq h706
                            refine ⟨_, rfl, ?_⟩
                            dsimp only
                            first | omega | assumption | (constructor <;> omega)
                          · rw [if_neg h706]
                            have q708 := zq_ne h706
                            refine ⟨_, rfl, ?_⟩
                            dsimp only
                            first | omega | assumption | (constructor <;> omega)
                        · rw [if_neg h704]
                          by_cases h709 : r6 = (nI 60)
                          · rw [if_pos h709]
                            have q710 := zq_eq h709
                            by_cases h711 : r9 ≤ (nI 0)
                            · rw [if_pos h711]
                              have q712 := zq_le h711
                              refine ⟨_, rfl, ?_⟩
                              dsimp only
                              first | omega | assumption | (constructor <;> omega)
                            · rw [if_neg h711]
                              have q713 := zq_nle h711
                              refine ⟨_, rfl, ?_⟩
                              dsimp only
                              first | omega | assumption | (constructor <;> omega)
                          · rw [if_neg h709]
                            by_cases h714 : (nI 0) ≤ r9
                            · rw [if_pos h714]
                              have q715 := zq_le h714
                              refine ⟨_, rfl, ?_⟩
                              dsimp only
                              first | omega | assumption | (constructor <;> omega)
                            · rw [if_neg h714]
                              have q716 := zq_nle h714
                              refine ⟨_, rfl, ?_⟩
                              dsimp only
                              first | omega | assumption | (constructor <;> omega)
                      · rw [if_neg h702]
                        have q717 := zq_ne h702
                        obtain ⟨r14, e719, q718⟩ := t_fX11_of t_now t_asked (-1 : Int32) ⟨by omega, by omega⟩ ⟨by omega, by omega⟩ (by first | assumption | omega | exact Or.inl rfl | exact Or.inr ⟨by omega, by omega⟩)
                        rw [e719, Option.bind_some]
                        by_cases h720 : r6 = (nI 61)
                        · rw [if_pos h720]
                          have q721 := zq_eq h720
                          by_cases h722 : r14 = r9
                          · rw [if_pos h722]
                            have q723 := zq_eq h722
                            refine ⟨_, rfl, ?_⟩
                            dsimp only
                            first | omega | assumption | (constructor <;> omega)
                          · rw [if_neg h722]
                            have q724 := zq_ne h722
                            refine ⟨_, rfl, ?_⟩
                            dsimp only
                            first | omega | assumption | (constructor <;> omega)
                        · rw [if_neg h720]
                          by_cases h725 : r6 = (nI 60)
                          · rw [if_pos h725]
                            have q726 := zq_eq h725
                            by_cases h727 : r9 ≤ r14
                            · rw [if_pos h727]
                              have q728 := zq_le h727
                              refine ⟨_, rfl, ?_⟩
                              dsimp only
                              first | omega | assumption | (constructor <;> omega)
                            · rw [if_neg h727]
                              have q729 := zq_nle h727
                              refine ⟨_, rfl, ?_⟩
                              dsimp only
                              first | omega | assumption | (constructor <;> omega)
                          · rw [if_neg h725]
                            by_cases h730 : r14 ≤ r9
                            · rw [if_pos h730]
                              have q731 := zq_le h730
                              refine ⟨_, rfl, ?_⟩
                              dsimp only
                              first | omega | assumption | (constructor <;> omega)
                            · rw [if_neg h730]
                              have q732 := zq_nle h730
                              refine ⟨_, rfl, ?_⟩
                              dsimp only
                              first | omega | assumption | (constructor <;> omega)
                    · rw [if_neg h697]
                      obtain ⟨t_fault_r29, e734, q733⟩ := t_fX11_wrong t_at_r7 t_fault 
                      rw [e734, Option.bind_some]
                      refine ⟨_, rfl, ?_⟩
                      dsimp only
                      first | omega | assumption | (constructor <;> omega)
theorem t_fX11_part_L5 (N : Nat) (T : Int32 → Int32 → Int32 → Int32 → Int32 → (Nat → Int32) → (Nat → Int32) → Option (Bool × Int32 × Int32 × Int32)) (t_length : Int32) (t_asked : Int32) (t_now : Nat → Int32) (t_text : Nat → Int32) (B O : Int) (hN : 10000 ≤ N) (hl : 0 ≤ t_length.toInt ∧ t_length.toInt ≤ 200) (hO : 0 ≤ O ∧ O ≤ 8) (ha : zAsk t_asked) (hT : zTs T (O + 1)) (hw : zNowOk t_now) : ∀ (n : Nat) (v1 : Bool) (v f o : Int32), 0 ≤ v.toInt ∧ v.toInt ≤ 200 → B ≤ v.toInt → o.toInt = O → (1 ≤ n ∧ 201 - v.toInt ≤ (n : Int)) → ∃ r, fX11_part_L5 N T t_length t_asked t_now t_text (fun (v1_5 : Bool) (t_at_l5 : Int32) (t_fault_l5 : Int32) (t_open_l5 : Int32) => some (v1_5, t_at_l5, t_fault_l5, t_open_l5)) n v1 v f o = some r ∧ (B ≤ r.2.1.toInt ∧ r.2.1.toInt ≤ 200 ∧ r.2.2.2.toInt = O) := by
  intro n
  induction n with
  | zero => intro v1 v f o _ _ _ im; exact absurd im.1 (by decide)
  | succ n ih =>
    intro v1 v f o iv ib io im
    have im2 := im.2
    rw [fX11_part_L5]
    have k_1 := zq_k 1 (by decide)
    have k_38 := zq_k 38 (by decide)
    obtain ⟨b6, e6, _⟩ := t_fX11_isFine f
    rw [e6, Option.bind_some]
    by_cases h : (zb b6) = 0
    · rw [if_pos h]; exact ⟨_, rfl, ib, iv.2, io⟩
    · rw [if_neg h]
      obtain ⟨⟨r9, a10⟩, e9, q⟩ := t_fX11_look N v t_length t_text hN iv hl
      rw [e9, Option.bind_some]
      dsimp only at q
      dsimp only
      by_cases h2 : r9 = (nI 38)
      · rw [if_pos h2]
        have q2 := zq_eq h2
        have a := zq_add (x := a10) (y := nI 1) (by omega) (by omega)
        obtain ⟨⟨b13, a14, f15, o16⟩, e13, p⟩ := t_fX11_unit T N t_asked (a10 + (nI 1)) f t_length o t_now t_text hN ⟨by omega, by omega⟩ hl ⟨by omega, by omega⟩ ha (by rw [io]; exact hT) hw
        rw [e13, Option.bind_some]
        dsimp only at p
        dsimp only
        have hh := fun x => ih x a14 f15 o16 ⟨by omega, by omega⟩ (by omega) (by omega) ⟨by omega, by omega⟩
        by_cases h3 : (zb v1) = 0
        · rw [if_pos h3]; exact hh false
        · rw [if_neg h3]
          by_cases h4 : (zb b13) = 0
          · rw [if_pos h4]; exact hh false
          · rw [if_neg h4]; exact hh true
      · rw [if_neg h2]; exact ⟨_, rfl, by show B ≤ a10.toInt; omega, q.2.1, io⟩
theorem t_fX11_part (T : Int32 → Int32 → Int32 → Int32 → Int32 → (Nat → Int32) → (Nat → Int32) → Option (Bool × Int32 × Int32 × Int32)) (N : Nat) (t_asked : Int32) (t_at : Int32) (t_fault : Int32) (t_length : Int32) (t_open : Int32) (t_now : Nat → Int32) (t_text : Nat → Int32) (hN : 10000 ≤ N) (h_t_at : 0 ≤ t_at.toInt ∧ t_at.toInt ≤ 200) (hl : 0 ≤ t_length.toInt ∧ t_length.toInt ≤ 200) (h_t_open : 0 ≤ t_open.toInt ∧ t_open.toInt ≤ 8) (ha : zAsk t_asked) (hT : zTs T (t_open.toInt + 1)) (hw : zNowOk t_now) : ∃ r, fX11_part T N t_asked t_at t_fault t_length t_open t_now t_text = some r ∧ (t_at.toInt ≤ r.2.1.toInt ∧ r.2.1.toInt ≤ 200 ∧ r.2.2.2.toInt = t_open.toInt) := by
  unfold fX11_part
  obtain ⟨⟨b1, a2, f3, o4⟩, e, p⟩ := t_fX11_unit T N t_asked t_at t_fault t_length t_open t_now t_text hN h_t_at hl h_t_open ha hT hw
  rw [e, Option.bind_some]
  dsimp only at p
  dsimp only
  exact t_fX11_part_L5 N T t_length t_asked t_now t_text t_at.toInt t_open.toInt hN hl h_t_open ha hT hw N b1 a2 f3 o4 ⟨by omega, p.2.1⟩ p.1 p.2.2 ⟨by omega, by omega⟩
theorem t_fX11_tests_L5 (N : Nat) (T : Int32 → Int32 → Int32 → Int32 → Int32 → (Nat → Int32) → (Nat → Int32) → Option (Bool × Int32 × Int32 × Int32)) (t_length : Int32) (t_asked : Int32) (t_now : Nat → Int32) (t_text : Nat → Int32) (B O : Int) (hN : 10000 ≤ N) (hl : 0 ≤ t_length.toInt ∧ t_length.toInt ≤ 200) (hO : 0 ≤ O ∧ O ≤ 8) (ha : zAsk t_asked) (hT : zTs T (O + 1)) (hw : zNowOk t_now) : ∀ (n : Nat) (v1 : Bool) (v f o : Int32), 0 ≤ v.toInt ∧ v.toInt ≤ 200 → B ≤ v.toInt → o.toInt = O → (1 ≤ n ∧ 201 - v.toInt ≤ (n : Int)) → ∃ r, fX11_tests_L5 N T t_length t_asked t_now t_text (fun (v1_5 : Bool) (t_at_l5 : Int32) (t_fault_l5 : Int32) (t_open_l5 : Int32) => some (v1_5, t_at_l5, t_fault_l5, t_open_l5)) n v1 v f o = some r ∧ (B ≤ r.2.1.toInt ∧ r.2.1.toInt ≤ 200 ∧ r.2.2.2.toInt = O) := by
  intro n
  induction n with
  | zero => intro v1 v f o _ _ _ im; exact absurd im.1 (by decide)
  | succ n ih =>
    intro v1 v f o iv ib io im
    have im2 := im.2
    rw [fX11_tests_L5]
    have k_1 := zq_k 1 (by decide)
    have k_124 := zq_k 124 (by decide)
    obtain ⟨b6, e6, _⟩ := t_fX11_isFine f
    rw [e6, Option.bind_some]
    by_cases h : (zb b6) = 0
    · rw [if_pos h]; exact ⟨_, rfl, ib, iv.2, io⟩
    · rw [if_neg h]
      obtain ⟨⟨r9, a10⟩, e9, q⟩ := t_fX11_look N v t_length t_text hN iv hl
      rw [e9, Option.bind_some]
      dsimp only at q
      dsimp only
      by_cases h2 : r9 = (nI 124)
      · rw [if_pos h2]
        have q2 := zq_eq h2
        have a := zq_add (x := a10) (y := nI 1) (by omega) (by omega)
        obtain ⟨⟨b13, a14, f15, o16⟩, e13, p⟩ := t_fX11_part T N t_asked (a10 + (nI 1)) f t_length o t_now t_text hN ⟨by omega, by omega⟩ hl ⟨by omega, by omega⟩ ha (by rw [io]; exact hT) hw
        rw [e13, Option.bind_some]
        dsimp only at p
        dsimp only
        have hh := fun x => ih x a14 f15 o16 ⟨by omega, by omega⟩ (by omega) (by omega) ⟨by omega, by omega⟩
        by_cases h3 : (zb v1) = 0
        · rw [if_pos h3]
          by_cases h4 : (zb b13) = 0
          · rw [if_pos h4]; exact hh false
          · rw [if_neg h4]; exact hh true
        · rw [if_neg h3]; exact hh true
      · rw [if_neg h2]; exact ⟨_, rfl, by show B ≤ a10.toInt; omega, q.2.1, io⟩
theorem t_fX11_tests_ (T : Int32 → Int32 → Int32 → Int32 → Int32 → (Nat → Int32) → (Nat → Int32) → Option (Bool × Int32 × Int32 × Int32)) (N : Nat) (t_asked : Int32) (t_at : Int32) (t_fault : Int32) (t_length : Int32) (t_open : Int32) (t_now : Nat → Int32) (t_text : Nat → Int32) (hN : 10000 ≤ N) (h_t_at : 0 ≤ t_at.toInt ∧ t_at.toInt ≤ 200) (hl : 0 ≤ t_length.toInt ∧ t_length.toInt ≤ 200) (h_t_open : 0 ≤ t_open.toInt ∧ t_open.toInt ≤ 8) (ha : zAsk t_asked) (hT : zTs T (t_open.toInt + 1)) (hw : zNowOk t_now) : ∃ r, fX11_tests_ T N t_asked t_at t_fault t_length t_open t_now t_text = some r ∧ (t_at.toInt ≤ r.2.1.toInt ∧ r.2.1.toInt ≤ 200 ∧ r.2.2.2.toInt = t_open.toInt) := by
  unfold fX11_tests_
  obtain ⟨⟨b1, a2, f3, o4⟩, e, p⟩ := t_fX11_part T N t_asked t_at t_fault t_length t_open t_now t_text hN h_t_at hl h_t_open ha hT hw
  rw [e, Option.bind_some]
  dsimp only at p
  dsimp only
  exact t_fX11_tests_L5 N T t_length t_asked t_now t_text t_at.toInt t_open.toInt hN hl h_t_open ha hT hw N b1 a2 f3 o4 ⟨by omega, p.2.1⟩ p.1 p.2.2 ⟨by omega, by omega⟩
theorem t_fX11_testsD (N : Nat) (hN : 10000 ≤ N) : ∀ d : Nat, d ≤ 9 → zTs (fX11_testsD N d) (9 - (d : Int)) := by
  intro d
  induction d with
  | zero => intro _ a at_ f l o w x _ _ _ ho _; omega
  | succ d ih =>
    intro hd a at_ f l o w x ha h1 h2 ho hw
    rw [fX11_testsD]
    exact t_fX11_tests_ (fX11_testsD N d) N a at_ f l o w x hN h1 h2 ⟨by omega, ho.2⟩ ha (fun a at_ f l o2 w x ha h1 h2 ho2 hw => ih (by omega) a at_ f l o2 w x ha h1 h2 ⟨by omega, ho2.2⟩ hw) hw
theorem t_fX11_read (N : Nat) (t_asked : Int32) (t_at : Int32) (t_byGun : Int32) (t_fault : Int32) (t_length : Int32) (t_open : Int32) (t_prizeMost : Int32) (t_now : Nat → Int32) (t_text : Nat → Int32) (x1 : Int32) (hN : 10000 ≤ N) (h_t_length : 0 ≤ t_length.toInt ∧ t_length.toInt ≤ 200) (g0 : zAsk x1) (g1 : zNowOk t_now) : ∃ r, fX11_read N t_asked t_at t_byGun t_fault t_length t_open t_prizeMost t_now t_text x1 = some r ∧ (True) := by
  unfold fX11_read
  have k0 : (0 : Int32).toInt = 0 := rfl
  have km : (-1 : Int32).toInt = -1 := rfl
  have k_0 := zq_k 0 (by decide)
  have k_1 := zq_k 1 (by decide)
  have k_59 := zq_k 59 (by decide)
  have k_103 := zq_k 103 (by decide)
  have k_110 := zq_k 110 (by decide)
  have za : x1.toInt = -1 ∨ (0 ≤ x1.toInt ∧ x1.toInt ≤ 59) := g0
  have zz1 := g1.1
  obtain ⟨⟨b1, t_at_r2, t_fault_r3, t_open_r4⟩, e2, q1⟩ := t_fX11_testsD N hN 9 (by decide) x1 (nI 0) (-1 : Int32) t_length (nI 0) t_now t_text (by first | assumption | omega) ⟨by omega, by omega⟩ ⟨by omega, by omega⟩ ⟨by omega, by omega⟩ (by assumption)
  rw [e2, Option.bind_some]
  dsimp only
  dsimp only at q1
  obtain ⟨⟨t_at_r6, t_fault_r7⟩, e4, q3⟩ := t_fX11_sign N t_at_r2 t_fault_r3 t_length t_text (nI 59) hN ⟨by omega, by omega⟩ ⟨by omega, by omega⟩ (by first | assumption | omega | exact Or.inl rfl | exact Or.inr ⟨by omega, by omega⟩)
  rw [e4, Option.bind_some]
  dsimp only
  dsimp only at q3
  obtain ⟨b9, e6, q5⟩ := t_fX11_isFine t_fault_r7 
  rw [e6, Option.bind_some]
  by_cases h7 : (zb b9) = 0
  · rw [if_pos h7]
    exact ⟨_, rfl, trivial⟩
  · rw [if_neg h7]
    obtain ⟨⟨r12, t_at_r13⟩, e9, q8⟩ := t_fX11_look N t_at_r6 t_length t_text hN ⟨by omega, by omega⟩ ⟨by omega, by omega⟩
    rw [e9, Option.bind_some]
    dsimp only
    dsimp only at q8
    by_cases h10 : r12 = (nI 110)
    · rw [if_pos h10]
      have q11 := zq_eq h10
      unfold fX11_read_J73
      by_cases h12 : r12 = (nI 103)
      · rw [if_pos h12]
        have q13 := zq_eq h12
        unfold fX11_read_J85
        try have a14 := zq_add (x := t_at_r13) (y := (nI 1)) (by omega) (by omega)
        obtain ⟨⟨r15, t_at_r16⟩, e16, q15⟩ := t_fX11_look N (t_at_r13 + (nI 1)) t_length t_text hN ⟨by omega, by omega⟩ ⟨by omega, by omega⟩
        rw [e16, Option.bind_some]
        dsimp only
        dsimp only at q15
        by_cases h17 : r15 = (nI 59)
        · rw [if_pos h17]
          have q18 := zq_eq h17
          try have a19 := zq_add (x := t_at_r16) (y := (nI 1)) (by omega) (by omega)
          obtain ⟨⟨r40, t_at_r41, t_fault_r42⟩, e21, q20⟩ := t_fX11_number N (t_at_r16 + (nI 1)) t_fault_r7 t_length t_text hN ⟨by omega, by omega⟩ ⟨by omega, by omega⟩
          rw [e21, Option.bind_some]
          dsimp only
          dsimp only at q20
          unfold fX11_read_J125
          obtain ⟨b18, e23, q22⟩ := t_fX11_isFine t_fault_r42 
          rw [e23, Option.bind_some]
          by_cases h24 : (zb b18) = 0
          · rw [if_pos h24]
            by_cases h25 : (zb b1) = 0
            · rw [if_pos h25]
              exact ⟨_, rfl, trivial⟩
            · rw [if_neg h25]
              first | rw [e23, Option.bind_some] | rw [Option.bind_some]
              by_cases h26 : (zb b18) = 0
              · rw [if_pos h26]
                exact ⟨_, rfl, trivial⟩
              · rw [if_neg h26]
                exact ⟨_, rfl, trivial⟩
          · rw [if_neg h24]
            obtain ⟨⟨r25, t_at_r26⟩, e28, q27⟩ := t_fX11_look N t_at_r41 t_length t_text hN ⟨by omega, by omega⟩ ⟨by omega, by omega⟩
            rw [e28, Option.bind_some]
            dsimp only
            dsimp only at q27
            by_cases h29 : r25 = (-1 : Int32)
            · rw [if_pos h29]
              have q30 := zq_eq h29
              by_cases h31 : (zb b1) = 0
              · rw [if_pos h31]
                exact ⟨_, rfl, trivial⟩
              · rw [if_neg h31]
                first | rw [e23, Option.bind_some] | rw [Option.bind_some]
                by_cases h32 : (zb b18) = 0
                · rw [if_pos h32]
                  exact ⟨_, rfl, trivial⟩
                · rw [if_neg h32]
                  exact ⟨_, rfl, trivial⟩
            · rw [if_neg h29]
              have q33 := zq_ne h29
              obtain ⟨t_fault_r33, e35, q34⟩ := t_fX11_wrong t_at_r26 t_fault_r42 
              rw [e35, Option.bind_some]
              by_cases h36 : (zb b1) = 0
              · rw [if_pos h36]
                exact ⟨_, rfl, trivial⟩
              · rw [if_neg h36]
                obtain ⟨b36, e38, q37⟩ := t_fX11_isFine t_fault_r33 
                rw [e38, Option.bind_some]
                by_cases h39 : (zb b36) = 0
                · rw [if_pos h39]
                  exact ⟨_, rfl, trivial⟩
                · rw [if_neg h39]
                  exact ⟨_, rfl, trivial⟩
        · rw [if_neg h17]
          unfold fX11_read_J125
          first | rw [e6, Option.bind_some] | rw [Option.bind_some]
          by_cases h40 : (zb b9) = 0
          · rw [if_pos h40]
            by_cases h41 : (zb b1) = 0
            · rw [if_pos h41]
              exact ⟨_, rfl, trivial⟩
            · rw [if_neg h41]
              first | rw [e6, Option.bind_some] | rw [Option.bind_some]
              by_cases h42 : (zb b9) = 0
              · rw [if_pos h42]
                exact ⟨_, rfl, trivial⟩
              · rw [if_neg h42]
                exact ⟨_, rfl, trivial⟩
          · rw [if_neg h40]
            obtain ⟨⟨r25, t_at_r26⟩, e44, q43⟩ := t_fX11_look N t_at_r16 t_length t_text hN ⟨by omega, by omega⟩ ⟨by omega, by omega⟩
            rw [e44, Option.bind_some]
            dsimp only
            dsimp only at q43
            by_cases h45 : r25 = (-1 : Int32)
            · rw [if_pos h45]
              have q46 := zq_eq h45
              by_cases h47 : (zb b1) = 0
              · rw [if_pos h47]
                exact ⟨_, rfl, trivial⟩
              · rw [if_neg h47]
                first | rw [e6, Option.bind_some] | rw [Option.bind_some]
                by_cases h48 : (zb b9) = 0
                · rw [if_pos h48]
                  exact ⟨_, rfl, trivial⟩
                · rw [if_neg h48]
                  exact ⟨_, rfl, trivial⟩
            · rw [if_neg h45]
              have q49 := zq_ne h45
              obtain ⟨t_fault_r33, e51, q50⟩ := t_fX11_wrong t_at_r26 t_fault_r7 
              rw [e51, Option.bind_some]
              by_cases h52 : (zb b1) = 0
              · rw [if_pos h52]
                exact ⟨_, rfl, trivial⟩
              · rw [if_neg h52]
                obtain ⟨b36, e54, q53⟩ := t_fX11_isFine t_fault_r33 
                rw [e54, Option.bind_some]
                by_cases h55 : (zb b36) = 0
                · rw [if_pos h55]
                  exact ⟨_, rfl, trivial⟩
                · rw [if_neg h55]
                  exact ⟨_, rfl, trivial⟩
      · rw [if_neg h12]
        unfold fX11_read_J85
        try have a56 := zq_add (x := t_at_r13) (y := (nI 1)) (by omega) (by omega)
        obtain ⟨⟨r15, t_at_r16⟩, e58, q57⟩ := t_fX11_look N (t_at_r13 + (nI 1)) t_length t_text hN ⟨by omega, by omega⟩ ⟨by omega, by omega⟩
        rw [e58, Option.bind_some]
        dsimp only
        dsimp only at q57
        by_cases h59 : r15 = (nI 59)
        · rw [if_pos h59]
          have q60 := zq_eq h59
          try have a61 := zq_add (x := t_at_r16) (y := (nI 1)) (by omega) (by omega)
          obtain ⟨⟨r40, t_at_r41, t_fault_r42⟩, e63, q62⟩ := t_fX11_number N (t_at_r16 + (nI 1)) t_fault_r7 t_length t_text hN ⟨by omega, by omega⟩ ⟨by omega, by omega⟩
          rw [e63, Option.bind_some]
          dsimp only
          dsimp only at q62
          unfold fX11_read_J125
          obtain ⟨b18, e65, q64⟩ := t_fX11_isFine t_fault_r42 
          rw [e65, Option.bind_some]
          by_cases h66 : (zb b18) = 0
          · rw [if_pos h66]
            by_cases h67 : (zb b1) = 0
            · rw [if_pos h67]
              exact ⟨_, rfl, trivial⟩
            · rw [if_neg h67]
              first | rw [e65, Option.bind_some] | rw [Option.bind_some]
              by_cases h68 : (zb b18) = 0
              · rw [if_pos h68]
                exact ⟨_, rfl, trivial⟩
              · rw [if_neg h68]
                exact ⟨_, rfl, trivial⟩
          · rw [if_neg h66]
            obtain ⟨⟨r25, t_at_r26⟩, e70, q69⟩ := t_fX11_look N t_at_r41 t_length t_text hN ⟨by omega, by omega⟩ ⟨by omega, by omega⟩
            rw [e70, Option.bind_some]
            dsimp only
            dsimp only at q69
            by_cases h71 : r25 = (-1 : Int32)
            · rw [if_pos h71]
              have q72 := zq_eq h71
              by_cases h73 : (zb b1) = 0
              · rw [if_pos h73]
                exact ⟨_, rfl, trivial⟩
              · rw [if_neg h73]
                first | rw [e65, Option.bind_some] | rw [Option.bind_some]
                by_cases h74 : (zb b18) = 0
                · rw [if_pos h74]
                  exact ⟨_, rfl, trivial⟩
                · rw [if_neg h74]
                  exact ⟨_, rfl, trivial⟩
            · rw [if_neg h71]
              have q75 := zq_ne h71
              obtain ⟨t_fault_r33, e77, q76⟩ := t_fX11_wrong t_at_r26 t_fault_r42 
              rw [e77, Option.bind_some]
              by_cases h78 : (zb b1) = 0
              · rw [if_pos h78]
                exact ⟨_, rfl, trivial⟩
              · rw [if_neg h78]
                obtain ⟨b36, e80, q79⟩ := t_fX11_isFine t_fault_r33 
                rw [e80, Option.bind_some]
                by_cases h81 : (zb b36) = 0
                · rw [if_pos h81]
                  exact ⟨_, rfl, trivial⟩
                · rw [if_neg h81]
                  exact ⟨_, rfl, trivial⟩
        · rw [if_neg h59]
          unfold fX11_read_J125
          first | rw [e6, Option.bind_some] | rw [Option.bind_some]
          by_cases h82 : (zb b9) = 0
          · rw [if_pos h82]
            by_cases h83 : (zb b1) = 0
            · rw [if_pos h83]
              exact ⟨_, rfl, trivial⟩
            · rw [if_neg h83]
              first | rw [e6, Option.bind_some] | rw [Option.bind_some]
              by_cases h84 : (zb b9) = 0
              · rw [if_pos h84]
                exact ⟨_, rfl, trivial⟩
              · rw [if_neg h84]
                exact ⟨_, rfl, trivial⟩
          · rw [if_neg h82]
            obtain ⟨⟨r25, t_at_r26⟩, e86, q85⟩ := t_fX11_look N t_at_r16 t_length t_text hN ⟨by omega, by omega⟩ ⟨by omega, by omega⟩
            rw [e86, Option.bind_some]
            dsimp only
            dsimp only at q85
            by_cases h87 : r25 = (-1 : Int32)
            · rw [if_pos h87]
              have q88 := zq_eq h87
              by_cases h89 : (zb b1) = 0
              · rw [if_pos h89]
                exact ⟨_, rfl, trivial⟩
              · rw [if_neg h89]
                first | rw [e6, Option.bind_some] | rw [Option.bind_some]
                by_cases h90 : (zb b9) = 0
                · rw [if_pos h90]
                  exact ⟨_, rfl, trivial⟩
                · rw [if_neg h90]
                  exact ⟨_, rfl, trivial⟩
            · rw [if_neg h87]
              have q91 := zq_ne h87
              obtain ⟨t_fault_r33, e93, q92⟩ := t_fX11_wrong t_at_r26 t_fault_r7 
              rw [e93, Option.bind_some]
              by_cases h94 : (zb b1) = 0
              · rw [if_pos h94]
                exact ⟨_, rfl, trivial⟩
              · rw [if_neg h94]
                obtain ⟨b36, e96, q95⟩ := t_fX11_isFine t_fault_r33 
                rw [e96, Option.bind_some]
                by_cases h97 : (zb b36) = 0
                · rw [if_pos h97]
                  exact ⟨_, rfl, trivial⟩
                · rw [if_neg h97]
                  exact ⟨_, rfl, trivial⟩
    · rw [if_neg h10]
      by_cases h98 : r12 = (nI 103)
      · rw [if_pos h98]
        have q99 := zq_eq h98
        unfold fX11_read_J73
        by_cases h100 : r12 = (nI 103)
        · rw [if_pos h100]
          have q101 := zq_eq h100
          unfold fX11_read_J85
          try have a102 := zq_add (x := t_at_r13) (y := (nI 1)) (by omega) (by omega)
          obtain ⟨⟨r15, t_at_r16⟩, e104, q103⟩ := t_fX11_look N (t_at_r13 + (nI 1)) t_length t_text hN ⟨by omega, by omega⟩ ⟨by omega, by omega⟩
          rw [e104, Option.bind_some]
          dsimp only
          dsimp only at q103
          by_cases h105 : r15 = (nI 59)
          · rw [if_pos h105]
            have q106 := zq_eq h105
            try have a107 := zq_add (x := t_at_r16) (y := (nI 1)) (by omega) (by omega)
            obtain ⟨⟨r40, t_at_r41, t_fault_r42⟩, e109, q108⟩ := t_fX11_number N (t_at_r16 + (nI 1)) t_fault_r7 t_length t_text hN ⟨by omega, by omega⟩ ⟨by omega, by omega⟩
            rw [e109, Option.bind_some]
            dsimp only
            dsimp only at q108
            unfold fX11_read_J125
            obtain ⟨b18, e111, q110⟩ := t_fX11_isFine t_fault_r42 
            rw [e111, Option.bind_some]
            by_cases h112 : (zb b18) = 0
            · rw [if_pos h112]
              by_cases h113 : (zb b1) = 0
              · rw [if_pos h113]
                exact ⟨_, rfl, trivial⟩
              · rw [if_neg h113]
                first | rw [e111, Option.bind_some] | rw [Option.bind_some]
                by_cases h114 : (zb b18) = 0
                · rw [if_pos h114]
                  exact ⟨_, rfl, trivial⟩
                · rw [if_neg h114]
                  exact ⟨_, rfl, trivial⟩
            · rw [if_neg h112]
              obtain ⟨⟨r25, t_at_r26⟩, e116, q115⟩ := t_fX11_look N t_at_r41 t_length t_text hN ⟨by omega, by omega⟩ ⟨by omega, by omega⟩
              rw [e116, Option.bind_some]
              dsimp only
              dsimp only at q115
              by_cases h117 : r25 = (-1 : Int32)
              · rw [if_pos h117]
                have q118 := zq_eq h117
                by_cases h119 : (zb b1) = 0
                · rw [if_pos h119]
                  exact ⟨_, rfl, trivial⟩
                · rw [if_neg h119]
                  first | rw [e111, Option.bind_some] | rw [Option.bind_some]
                  by_cases h120 : (zb b18) = 0
                  · rw [if_pos h120]
                    exact ⟨_, rfl, trivial⟩
                  · rw [if_neg h120]
                    exact ⟨_, rfl, trivial⟩
              · rw [if_neg h117]
                have q121 := zq_ne h117
                obtain ⟨t_fault_r33, e123, q122⟩ := t_fX11_wrong t_at_r26 t_fault_r42 
                rw [e123, Option.bind_some]
                by_cases h124 : (zb b1) = 0
                · rw [if_pos h124]
                  exact ⟨_, rfl, trivial⟩
                · rw [if_neg h124]
                  obtain ⟨b36, e126, q125⟩ := t_fX11_isFine t_fault_r33 
                  rw [e126, Option.bind_some]
                  by_cases h127 : (zb b36) = 0
                  · rw [if_pos h127]
                    exact ⟨_, rfl, trivial⟩
                  · rw [if_neg h127]
                    exact ⟨_, rfl, trivial⟩
          · rw [if_neg h105]
            unfold fX11_read_J125
            first | rw [e6, Option.bind_some] | rw [Option.bind_some]
            by_cases h128 : (zb b9) = 0
            · rw [if_pos h128]
              by_cases h129 : (zb b1) = 0
              · rw [if_pos h129]
                exact ⟨_, rfl, trivial⟩
              · rw [if_neg h129]
                first | rw [e6, Option.bind_some] | rw [Option.bind_some]
                by_cases h130 : (zb b9) = 0
                · rw [if_pos h130]
                  exact ⟨_, rfl, trivial⟩
                · rw [if_neg h130]
                  exact ⟨_, rfl, trivial⟩
            · rw [if_neg h128]
              obtain ⟨⟨r25, t_at_r26⟩, e132, q131⟩ := t_fX11_look N t_at_r16 t_length t_text hN ⟨by omega, by omega⟩ ⟨by omega, by omega⟩
              rw [e132, Option.bind_some]
              dsimp only
              dsimp only at q131
              by_cases h133 : r25 = (-1 : Int32)
              · rw [if_pos h133]
                have q134 := zq_eq h133
                by_cases h135 : (zb b1) = 0
                · rw [if_pos h135]
                  exact ⟨_, rfl, trivial⟩
                · rw [if_neg h135]
                  first | rw [e6, Option.bind_some] | rw [Option.bind_some]
                  by_cases h136 : (zb b9) = 0
                  · rw [if_pos h136]
                    exact ⟨_, rfl, trivial⟩
                  · rw [if_neg h136]
                    exact ⟨_, rfl, trivial⟩
              · rw [if_neg h133]
                have q137 := zq_ne h133
                obtain ⟨t_fault_r33, e139, q138⟩ := t_fX11_wrong t_at_r26 t_fault_r7 
                rw [e139, Option.bind_some]
                by_cases h140 : (zb b1) = 0
                · rw [if_pos h140]
                  exact ⟨_, rfl, trivial⟩
                · rw [if_neg h140]
                  obtain ⟨b36, e142, q141⟩ := t_fX11_isFine t_fault_r33 
                  rw [e142, Option.bind_some]
                  by_cases h143 : (zb b36) = 0
                  · rw [if_pos h143]
                    exact ⟨_, rfl, trivial⟩
                  · rw [if_neg h143]
                    exact ⟨_, rfl, trivial⟩
        · rw [if_neg h100]
          unfold fX11_read_J85
          try have a144 := zq_add (x := t_at_r13) (y := (nI 1)) (by omega) (by omega)
          obtain ⟨⟨r15, t_at_r16⟩, e146, q145⟩ := t_fX11_look N (t_at_r13 + (nI 1)) t_length t_text hN ⟨by omega, by omega⟩ ⟨by omega, by omega⟩
          rw [e146, Option.bind_some]
          dsimp only
          dsimp only at q145
          by_cases h147 : r15 = (nI 59)
          · rw [if_pos h147]
            have q148 := zq_eq h147
            try have a149 := zq_add (x := t_at_r16) (y := (nI 1)) (by omega) (by omega)
            obtain ⟨⟨r40, t_at_r41, t_fault_r42⟩, e151, q150⟩ := t_fX11_number N (t_at_r16 + (nI 1)) t_fault_r7 t_length t_text hN ⟨by omega, by omega⟩ ⟨by omega, by omega⟩
            rw [e151, Option.bind_some]
            dsimp only
            dsimp only at q150
            unfold fX11_read_J125
            obtain ⟨b18, e153, q152⟩ := t_fX11_isFine t_fault_r42 
            rw [e153, Option.bind_some]
            by_cases h154 : (zb b18) = 0
            · rw [if_pos h154]
              by_cases h155 : (zb b1) = 0
              · rw [if_pos h155]
                exact ⟨_, rfl, trivial⟩
              · rw [if_neg h155]
                first | rw [e153, Option.bind_some] | rw [Option.bind_some]
                by_cases h156 : (zb b18) = 0
                · rw [if_pos h156]
                  exact ⟨_, rfl, trivial⟩
                · rw [if_neg h156]
                  exact ⟨_, rfl, trivial⟩
            · rw [if_neg h154]
              obtain ⟨⟨r25, t_at_r26⟩, e158, q157⟩ := t_fX11_look N t_at_r41 t_length t_text hN ⟨by omega, by omega⟩ ⟨by omega, by omega⟩
              rw [e158, Option.bind_some]
              dsimp only
              dsimp only at q157
              by_cases h159 : r25 = (-1 : Int32)
              · rw [if_pos h159]
                have q160 := zq_eq h159
                by_cases h161 : (zb b1) = 0
                · rw [if_pos h161]
                  exact ⟨_, rfl, trivial⟩
                · rw [if_neg h161]
                  first | rw [e153, Option.bind_some] | rw [Option.bind_some]
                  by_cases h162 : (zb b18) = 0
                  · rw [if_pos h162]
                    exact ⟨_, rfl, trivial⟩
                  · rw [if_neg h162]
                    exact ⟨_, rfl, trivial⟩
              · rw [if_neg h159]
                have q163 := zq_ne h159
                obtain ⟨t_fault_r33, e165, q164⟩ := t_fX11_wrong t_at_r26 t_fault_r42 
                rw [e165, Option.bind_some]
                by_cases h166 : (zb b1) = 0
                · rw [if_pos h166]
                  exact ⟨_, rfl, trivial⟩
                · rw [if_neg h166]
                  obtain ⟨b36, e168, q167⟩ := t_fX11_isFine t_fault_r33 
                  rw [e168, Option.bind_some]
                  by_cases h169 : (zb b36) = 0
                  · rw [if_pos h169]
                    exact ⟨_, rfl, trivial⟩
                  · rw [if_neg h169]
                    exact ⟨_, rfl, trivial⟩
          · rw [if_neg h147]
            unfold fX11_read_J125
            first | rw [e6, Option.bind_some] | rw [Option.bind_some]
            by_cases h170 : (zb b9) = 0
            · rw [if_pos h170]
              by_cases h171 : (zb b1) = 0
              · rw [if_pos h171]
                exact ⟨_, rfl, trivial⟩
              · rw [if_neg h171]
                first | rw [e6, Option.bind_some] | rw [Option.bind_some]
                by_cases h172 : (zb b9) = 0
                · rw [if_pos h172]
                  exact ⟨_, rfl, trivial⟩
                · rw [if_neg h172]
                  exact ⟨_, rfl, trivial⟩
            · rw [if_neg h170]
              obtain ⟨⟨r25, t_at_r26⟩, e174, q173⟩ := t_fX11_look N t_at_r16 t_length t_text hN ⟨by omega, by omega⟩ ⟨by omega, by omega⟩
              rw [e174, Option.bind_some]
              dsimp only
              dsimp only at q173
              by_cases h175 : r25 = (-1 : Int32)
              · rw [if_pos h175]
                have q176 := zq_eq h175
                by_cases h177 : (zb b1) = 0
                · rw [if_pos h177]
                  exact ⟨_, rfl, trivial⟩
                · rw [if_neg h177]
                  first | rw [e6, Option.bind_some] | rw [Option.bind_some]
                  by_cases h178 : (zb b9) = 0
                  · rw [if_pos h178]
                    exact ⟨_, rfl, trivial⟩
                  · rw [if_neg h178]
                    exact ⟨_, rfl, trivial⟩
              · rw [if_neg h175]
                have q179 := zq_ne h175
                obtain ⟨t_fault_r33, e181, q180⟩ := t_fX11_wrong t_at_r26 t_fault_r7 
                rw [e181, Option.bind_some]
                by_cases h182 : (zb b1) = 0
                · rw [if_pos h182]
                  exact ⟨_, rfl, trivial⟩
                · rw [if_neg h182]
                  obtain ⟨b36, e184, q183⟩ := t_fX11_isFine t_fault_r33 
                  rw [e184, Option.bind_some]
                  by_cases h185 : (zb b36) = 0
                  · rw [if_pos h185]
                    exact ⟨_, rfl, trivial⟩
                  · rw [if_neg h185]
                    exact ⟨_, rfl, trivial⟩
      · rw [if_neg h98]
        obtain ⟨t_fault_r47, e187, q186⟩ := t_fX11_wrong t_at_r13 t_fault_r7 
        rw [e187, Option.bind_some]
        exact ⟨_, rfl, trivial⟩
theorem t_fX11_fault (N : Nat) (t_asked : Int32) (t_at : Int32) (t_byGun : Int32) (t_fault : Int32) (t_length : Int32) (t_open : Int32) (t_prizeMost : Int32) (t_thrown : Int32) (t_now : Nat → Int32) (t_text : Nat → Int32) (hN : 10000 ≤ N) (h_t_length : 0 ≤ t_length.toInt ∧ t_length.toInt ≤ 200) (g0 : zNowOk t_now) : ∃ r, fX11_fault N t_asked t_at t_byGun t_fault t_length t_open t_prizeMost t_thrown t_now t_text = some r ∧ (True) := by
  unfold fX11_fault
  have k0 : (0 : Int32).toInt = 0 := rfl
  have km : (-1 : Int32).toInt = -1 := rfl
  have k_0 := zq_k 0 (by decide)
  have zz0 := g0.1
  obtain ⟨⟨b1, t_asked_r2, t_at_r3, t_byGun_r4, t_fault_r5, t_open_r6, t_prizeMost_r7⟩, e2, q1⟩ := t_fX11_read N t_asked t_at t_byGun t_fault t_length t_open t_prizeMost t_now t_text (-1 : Int32) hN ⟨by omega, by omega⟩ (by first | assumption | omega | exact Or.inl rfl | exact Or.inr ⟨by omega, by omega⟩) (by first | assumption | omega | exact Or.inl rfl | exact Or.inr ⟨by omega, by omega⟩)
  rw [e2, Option.bind_some]
  dsimp only
  exact ⟨_, rfl, trivial⟩
theorem zq_c {x : Int32} (h : 0 ≤ x.toInt) : ((x.toNatClampNeg : Nat) : Int) = x.toInt := by
  obtain ⟨j, hj, e, i⟩ := zq_nat h
  rw [i, e, zl_c (by omega)]
def zOrd (o : Nat → Int32) (L : Int) : Prop := ∀ i : Nat, (i : Int) < L → 0 ≤ (o i).toInt ∧ (o i).toInt ≤ 59
def zHole (o : Nat → Int32) (L v : Int) : Prop := ∀ i : Nat, (i : Int) ≤ L → (i : Int) ≠ v → 0 ≤ (o i).toInt ∧ (o i).toInt ≤ 59
theorem t_fX11_list_L80 (r28 : Int32) (K : Int32 → (Nat → Int32) → (Nat → Int32) → Option (Bool × Int32 × Int32 × Int32 × Int32 × Int32 × Int32 × Int32 × (Nat → Int32) × (Nat → Int32))) (L : Int) (Q : (Bool × Int32 × Int32 × Int32 × Int32 × Int32 × Int32 × Int32 × (Nat → Int32) × (Nat → Int32)) → Prop) (hL : 0 ≤ L ∧ L ≤ 59) (hK : ∀ (v : Int32) (o t : Nat → Int32), 0 ≤ v.toInt ∧ v.toInt ≤ L → zHole o L v.toInt → ∃ r, K v o t = some r ∧ Q r) : ∀ (n : Nat) (v : Int32) (o t : Nat → Int32), 0 ≤ v.toInt ∧ v.toInt ≤ L → zHole o L v.toInt → (1 ≤ n ∧ v.toInt + 2 ≤ (n : Int)) → ∃ r, fX11_list_L80 r28 K n v o t = some r ∧ Q r := by
  intro n
  induction n with
  | zero => intro v o t _ _ im; exact absurd im.1 (by decide)
  | succ n ih =>
    intro v o t iv ih2 im
    have im2 := im.2
    rw [fX11_list_L80]
    have k_1 := zq_k 1 (by decide)
    have k0 : (0 : Int32).toInt = 0 := rfl
    have km : (-1 : Int32).toInt = -1 := rfl
    by_cases h : v ≤ 0
    · rw [if_pos h]; exact hK v o t iv ih2
    · rw [if_neg h]
      have q := zq_nle h
      have a1 := zq_sub (x := v) (y := nI 1) (by omega) (by omega)
      have z1 : zin (v - (nI 1)) 60 := zq_in (by omega) (by omega)
      have z2 : zin v 60 := zq_in (by omega) (by omega)
      rw [if_pos z1]
      by_cases h2 : (t ((v - (nI 1))).toNatClampNeg) ≤ r28
      · rw [if_pos h2]; exact hK v o t iv ih2
      · rw [if_neg h2, if_pos z1, if_pos z2, if_pos z1, if_pos z2]
        have a2 := zq_add (x := v) (y := -1) (by omega) (by omega)
        have c1 := zq_c (x := v) (by omega)
        have c2 := zq_c (x := v - (nI 1)) (by omega)
        refine ih _ _ _ ⟨by omega, by omega⟩ ?_ ⟨by omega, by omega⟩
        intro i hi hn
        by_cases hv : i = v.toNatClampNeg
        · rw [hv, zup_s]
          exact ih2 _ (by omega) (by omega)
        · rw [zup_n hv]
          exact ih2 _ hi (by omega)
def zListed (r : Bool × Int32 × Int32 × Int32 × Int32 × Int32 × Int32 × Int32 × (Nat → Int32) × (Nat → Int32)) : Prop := ¬ (zb r.1 = 0) → 0 ≤ r.2.2.2.2.2.1.toInt ∧ r.2.2.2.2.2.1.toInt ≤ 60 ∧ zOrd r.2.2.2.2.2.2.2.2.1 r.2.2.2.2.2.1.toInt
theorem t_fX11_list_L23 (N : Nat) (t_length : Int32) (t_now : Nat → Int32) (t_text : Nat → Int32) (hN : 10000 ≤ N) (hl : 0 ≤ t_length.toInt ∧ t_length.toInt ≤ 200) (hw : zNowOk t_now) : ∀ (n : Nat) (v a f o s g p l : Int32) (od ti : Nat → Int32), 0 ≤ v.toInt ∧ v.toInt ≤ 60 → 0 ≤ l.toInt ∧ l.toInt ≤ v.toInt → zOrd od l.toInt → (1 ≤ n ∧ 61 - v.toInt ≤ (n : Int)) → ∃ r, fX11_list_L23 N t_length t_now t_text (fun (v2_23 : Int32) (t_at_l23 : Int32) (t_fault_l23 : Int32) (t_open_l23 : Int32) (t_asked_l23 : Int32) (t_byGun_l23 : Int32) (t_prizeMost_l23 : Int32) (t_listed_l23 : Int32) (t_order_l23 : Nat → Int32) (t_times_l23 : Nat → Int32) => some (true, t_asked_l23, t_at_l23, t_byGun_l23, t_fault_l23, t_listed_l23, t_open_l23, t_prizeMost_l23, t_order_l23, t_times_l23)) n v a f o s g p l od ti = some r ∧ zListed r := by
  have zz := hw.1
  intro n
  induction n with
  | zero => intro v a f o s g p l od ti _ _ _ im; exact absurd im.1 (by decide)
  | succ n ih =>
    intro v a f o s g p l od ti iv il iO im
    have im2 := im.2
    have k_1 := zq_k 1 (by decide)
    rw [fX11_list_L23]
    obtain ⟨r10, e1, q1⟩ := t_fX11_runners t_now
    rw [e1, Option.bind_some]
    by_cases h : r10 ≤ v
    · rw [if_pos h]; exact ⟨_, rfl, fun _ => ⟨il.1, by show l.toInt ≤ 60; omega, iO⟩⟩
    · rw [if_neg h]
      have q := zq_nle h
      have av := zq_add (x := v) (y := nI 1) (by omega) (by omega)
      obtain ⟨r13, e2, _⟩ := t_fX11_stateOf N t_now v hN ⟨by omega, by omega⟩ (by omega) hw
      rw [e2, Option.bind_some]
      by_cases h2 : r13 = (nI 2)
      · rw [if_pos h2]
        obtain ⟨⟨b16, s17, a18, g19, f20, o21, p22⟩, e3, _⟩ := t_fX11_read N s a g f t_length o p t_now t_text v hN hl (Or.inr ⟨by omega, by omega⟩) hw
        rw [e3, Option.bind_some]
        dsimp only
        have again := ih (v + (nI 1)) a18 f20 o21 s17 g19 p22 l od ti ⟨by omega, by omega⟩ ⟨by omega, by omega⟩ iO ⟨by omega, by omega⟩
        by_cases h3 : (zb b16) = 0
        · rw [if_pos h3]; exact again
        · rw [if_neg h3]
          obtain ⟨r25, e4, _⟩ := t_fX11_timeOf N t_now v g19 hN ⟨by omega, by omega⟩ (by omega) hw
          rw [e4, Option.bind_some]
          by_cases h4 : r25 = (-1 : Int32)
          · rw [if_pos h4]; exact again
          · rw [if_neg h4]
            first | rw [e4, Option.bind_some] | rw [Option.bind_some]
            have al := zq_add (x := l) (y := nI 1) (by omega) (by omega)
            refine t_fX11_list_L80 _ _ l.toInt _ ⟨by omega, by omega⟩ ?_ N l od ti ⟨by omega, by omega⟩ ?_ ⟨by omega, by omega⟩
            · intro w od2 ti2 iw hh
              have zw : zin w 60 := zq_in (by omega) (by omega)
              rw [if_pos zw, if_pos zw]
              refine ih _ _ _ _ _ _ _ _ _ _ ⟨by omega, by omega⟩ ⟨by omega, by omega⟩ ?_ ⟨by omega, by omega⟩
              intro i hi
              have cw := zq_c (x := w) (by omega)
              by_cases hv : i = w.toNatClampNeg
              · rw [hv, zup_s]; exact ⟨by omega, by omega⟩
              · rw [zup_n hv]; exact hh i (by omega) (by omega)
            · intro i hi hn
              exact iO i (by omega)
      · rw [if_neg h2]
        exact ih (v + (nI 1)) a f o s g p l od ti ⟨by omega, by omega⟩ ⟨by omega, by omega⟩ iO ⟨by omega, by omega⟩
theorem t_fX11_list (N : Nat) (t_asked : Int32) (t_at : Int32) (t_byGun : Int32) (t_fault : Int32) (t_length : Int32) (t_listed : Int32) (t_open : Int32) (t_prizeMost : Int32) (t_now : Nat → Int32) (t_order : Nat → Int32) (t_text : Nat → Int32) (t_times : Nat → Int32) (hN : 10000 ≤ N) (hl : 0 ≤ t_length.toInt ∧ t_length.toInt ≤ 200) (hw : zNowOk t_now) : ∃ r, fX11_list N t_asked t_at t_byGun t_fault t_length t_listed t_open t_prizeMost t_now t_order t_text t_times = some r ∧ zListed r := by
  unfold fX11_list
  have k_0 := zq_k 0 (by decide)
  obtain ⟨⟨b1, s2, a3, g4, f5, o6, p7⟩, e1, _⟩ := t_fX11_read N t_asked t_at t_byGun t_fault t_length t_open t_prizeMost t_now t_text (-1) hN hl (Or.inl rfl) hw
  rw [e1, Option.bind_some]
  dsimp only
  by_cases h : f5 = (-1 : Int32)
  · rw [if_pos h]
    exact t_fX11_list_L23 N t_length t_now t_text hN hl hw N (nI 0) a3 f5 o6 s2 g4 p7 (nI 0) t_order t_times ⟨by omega, by omega⟩ ⟨by omega, by omega⟩ (fun i hi => by omega) ⟨by omega, by omega⟩
  · rw [if_neg h]
    exact ⟨_, rfl, fun q => absurd zl_f0 q⟩
theorem t_fX11_placeOf_L4 (t_listed : Int32) (t_times : Nat → Int32) (x1 : Int32) (K4_41 : Int32 → Int32 → Option (Int32)) (h_t_listed : 0 ≤ t_listed.toInt ∧ t_listed.toInt ≤ 60) (h_x1 : 0 ≤ x1.toInt ∧ x1.toInt ≤ 59) (hK : ∀ (v2_4 : Int32) (v3_4 : Int32), (0 ≤ v3_4.toInt ∧ v3_4.toInt ≤ 60) → ∃ r, K4_41 v2_4 v3_4 = some r ∧ (True)) : ∀ (n : Nat) (v2_4 : Int32) (v3_4 : Int32), (0 ≤ v3_4.toInt ∧ v3_4.toInt ≤ 60) → (1 ≤ n ∧ 61 - v3_4.toInt ≤ (n : Int)) → ∃ r, fX11_placeOf_L4 t_listed t_times x1 K4_41 n v2_4 v3_4 = some r ∧ (True) := by
  intro n
  induction n with
  | zero => intro v2_4 v3_4 iv3_4 im; exact absurd im.1 (by decide)
  | succ n4 ih =>
    intro v2_4 v3_4 iv3_4 im
    rw [fX11_placeOf_L4]
    have im2 := im.2
    have k0 : (0 : Int32).toInt = 0 := rfl
    have km : (-1 : Int32).toInt = -1 := rfl
    have k_0 := zq_k 0 (by decide)
    have k_1 := zq_k 1 (by decide)
    by_cases h1 : t_listed ≤ v3_4
    · rw [if_pos h1]
      have q2 := zq_le h1
      exact hK v2_4 v3_4 ⟨by omega, by omega⟩
    · rw [if_neg h1]
      have q3 := zq_nle h1
      have z4 : zin v3_4 60 := zq_in (by omega) (by omega)
      rw [if_pos z4]
      have z5 : zin x1 60 := zq_in (by omega) (by omega)
      rw [if_pos z5]
      by_cases h6 : (t_times (x1).toNatClampNeg) ≤ (t_times (v3_4).toNatClampNeg)
      · rw [if_pos h6]
        have q7 := zq_le h6
        try have a8 := zq_add (x := v3_4) (y := (nI 1)) (by omega) (by omega)
        exact ih (v2_4 + (nI 0)) (v3_4 + (nI 1)) ⟨by omega, by omega⟩ ⟨by omega, by omega⟩
      · rw [if_neg h6]
        have q9 := zq_nle h6
        try have a10 := zq_add (x := v3_4) (y := (nI 1)) (by omega) (by omega)
        exact ih (v2_4 + (nI 1)) (v3_4 + (nI 1)) ⟨by omega, by omega⟩ ⟨by omega, by omega⟩
theorem t_fX11_placeOf (N : Nat) (t_listed : Int32) (t_times : Nat → Int32) (x1 : Int32) (hN : 10000 ≤ N) (h_t_listed : 0 ≤ t_listed.toInt ∧ t_listed.toInt ≤ 60) (h_x1 : 0 ≤ x1.toInt ∧ x1.toInt ≤ 59) : ∃ r, fX11_placeOf N t_listed t_times x1 = some r ∧ (True) := by
  unfold fX11_placeOf
  have k0 : (0 : Int32).toInt = 0 := rfl
  have km : (-1 : Int32).toInt = -1 := rfl
  have k_0 := zq_k 0 (by decide)
  have k_1 := zq_k 1 (by decide)
  refine t_fX11_placeOf_L4 t_listed t_times x1 _ ⟨by omega, by omega⟩ ⟨by omega, by omega⟩ ?_ _ (nI 1) (nI 0) ⟨by omega, by omega⟩ ⟨by omega, by omega⟩
  intro v2_4 v3_4 iv3_4
  exact ⟨_, rfl, trivial⟩
theorem t_fX11_list_ (N : Nat) (t_asked : Int32) (t_at : Int32) (t_byGun : Int32) (t_fault : Int32) (t_length : Int32) (t_listed : Int32) (t_open : Int32) (t_prizeMost : Int32) (t_thrown : Int32) (t_now : Nat → Int32) (t_order : Nat → Int32) (t_text : Nat → Int32) (t_times : Nat → Int32) (x1 : Int32) (hN : 10000 ≤ N) (h_t_length : 0 ≤ t_length.toInt ∧ t_length.toInt ≤ 200) (g0 : zNowOk t_now) : ∃ r, fX11_list_ N t_asked t_at t_byGun t_fault t_length t_listed t_open t_prizeMost t_thrown t_now t_order t_text t_times x1 = some r ∧ (True) := by
  unfold fX11_list_
  have k0 : (0 : Int32).toInt = 0 := rfl
  have km : (-1 : Int32).toInt = -1 := rfl
  have k_0 := zq_k 0 (by decide)
  have zz0 := g0.1
  obtain ⟨⟨b1, t_asked_r2, t_at_r3, t_byGun_r4, t_fault_r5, t_listed_r6, t_open_r7, t_prizeMost_r8, t_order_r9, t_times_r10⟩, e2, q1⟩ := t_fX11_list N t_asked t_at t_byGun t_fault t_length t_listed t_open t_prizeMost t_now t_order t_text t_times hN ⟨by omega, by omega⟩ (by first | assumption | omega | exact Or.inl rfl | exact Or.inr ⟨by omega, by omega⟩)
  rw [e2, Option.bind_some]
  dsimp only
  by_cases h3 : (zb b1) = 0
  · rw [if_pos h3]
    exact ⟨_, rfl, trivial⟩
  · rw [if_neg h3]
    obtain ⟨ql0, ql1, qlo⟩ := q1 h3
    dsimp only at ql0 ql1 qlo
    by_cases h4 : x1 < 0
    · rw [if_pos h4]
      have q5 := zq_lt h4
      exact ⟨_, rfl, trivial⟩
    · rw [if_neg h4]
      have q6 := zq_nlt h4
      by_cases h7 : t_listed_r6 ≤ x1
      · rw [if_pos h7]
        have q8 := zq_le h7
        exact ⟨_, rfl, trivial⟩
      · rw [if_neg h7]
        have q9 := zq_nle h7
        have z10 : zin x1 60 := zq_in (by omega) (by omega)
        rw [if_pos z10]
        exact ⟨_, rfl, trivial⟩
theorem t_fX11_place_L16 (N : Nat) (x1 : Int32) (t_asked_r2 : Int32) (t_at_r3 : Int32) (t_byGun_r4 : Int32) (t_fault_r5 : Int32) (t_listed_r6 : Int32) (t_open_r7 : Int32) (t_prizeMost_r8 : Int32) (t_order_r9 : Nat → Int32) (t_times_r10 : Nat → Int32) (K16_46 : Int32 → Option (Int32 × Int32 × Int32 × Int32 × Int32 × Int32 × Int32 × Int32 × Int32 × (Nat → Int32) × (Nat → Int32))) (hN : 10000 ≤ N) (h_t_listed_r6 : 0 ≤ t_listed_r6.toInt ∧ t_listed_r6.toInt ≤ 60) (hK : ∀ (v2_16 : Int32), (0 ≤ v2_16.toInt ∧ v2_16.toInt ≤ 60) → ∃ r, K16_46 v2_16 = some r ∧ (True)) : ∀ (n : Nat) (v2_16 : Int32), (0 ≤ v2_16.toInt ∧ v2_16.toInt ≤ 60) → (1 ≤ n ∧ 61 - v2_16.toInt ≤ (n : Int)) → ∃ r, fX11_place_L16 N x1 t_asked_r2 t_at_r3 t_byGun_r4 t_fault_r5 t_listed_r6 t_open_r7 t_prizeMost_r8 t_order_r9 t_times_r10 K16_46 n v2_16 = some r ∧ (True) := by
  intro n
  induction n with
  | zero => intro v2_16 iv2_16 im; exact absurd im.1 (by decide)
  | succ n16 ih =>
    intro v2_16 iv2_16 im
    rw [fX11_place_L16]
    have im2 := im.2
    have k0 : (0 : Int32).toInt = 0 := rfl
    have km : (-1 : Int32).toInt = -1 := rfl
    have k_0 := zq_k 0 (by decide)
    have k_1 := zq_k 1 (by decide)
    by_cases h1 : t_listed_r6 ≤ v2_16
    · rw [if_pos h1]
      have q2 := zq_le h1
      exact hK v2_16 ⟨by omega, by omega⟩
    · rw [if_neg h1]
      have q3 := zq_nle h1
      have z4 : zin v2_16 60 := zq_in (by omega) (by omega)
      rw [if_pos z4]
      by_cases h5 : (t_order_r9 (v2_16).toNatClampNeg) = x1
      · rw [if_pos h5]
        have q6 := zq_eq h5
        obtain ⟨r16, e8, q7⟩ := t_fX11_placeOf N t_listed_r6 t_times_r10 v2_16 hN ⟨by omega, by omega⟩ ⟨by omega, by omega⟩
        rw [e8, Option.bind_some]
        exact ⟨_, rfl, trivial⟩
      · rw [if_neg h5]
        have q9 := zq_ne h5
        try have a10 := zq_add (x := v2_16) (y := (nI 1)) (by omega) (by omega)
        exact ih (v2_16 + (nI 1)) ⟨by omega, by omega⟩ ⟨by omega, by omega⟩
theorem t_fX11_place (N : Nat) (t_asked : Int32) (t_at : Int32) (t_byGun : Int32) (t_fault : Int32) (t_length : Int32) (t_listed : Int32) (t_open : Int32) (t_prizeMost : Int32) (t_thrown : Int32) (t_now : Nat → Int32) (t_order : Nat → Int32) (t_text : Nat → Int32) (t_times : Nat → Int32) (x1 : Int32) (hN : 10000 ≤ N) (h_t_length : 0 ≤ t_length.toInt ∧ t_length.toInt ≤ 200) (g0 : zNowOk t_now) : ∃ r, fX11_place N t_asked t_at t_byGun t_fault t_length t_listed t_open t_prizeMost t_thrown t_now t_order t_text t_times x1 = some r ∧ (True) := by
  unfold fX11_place
  have k0 : (0 : Int32).toInt = 0 := rfl
  have km : (-1 : Int32).toInt = -1 := rfl
  have k_0 := zq_k 0 (by decide)
  have zz0 := g0.1
  obtain ⟨⟨b1, t_asked_r2, t_at_r3, t_byGun_r4, t_fault_r5, t_listed_r6, t_open_r7, t_prizeMost_r8, t_order_r9, t_times_r10⟩, e2, q1⟩ := t_fX11_list N t_asked t_at t_byGun t_fault t_length t_listed t_open t_prizeMost t_now t_order t_text t_times hN ⟨by omega, by omega⟩ (by first | assumption | omega | exact Or.inl rfl | exact Or.inr ⟨by omega, by omega⟩)
  rw [e2, Option.bind_some]
  dsimp only
  by_cases h3 : (zb b1) = 0
  · rw [if_pos h3]
    exact ⟨_, rfl, trivial⟩
  · rw [if_neg h3]
    obtain ⟨ql0, ql1, qlo⟩ := q1 h3
    dsimp only at ql0 ql1 qlo
    refine t_fX11_place_L16 N x1 t_asked_r2 t_at_r3 t_byGun_r4 t_fault_r5 t_listed_r6 t_open_r7 t_prizeMost_r8 t_order_r9 t_times_r10 _ hN ⟨by omega, by omega⟩ ?_ _ (nI 0) ⟨by omega, by omega⟩ ⟨by omega, by omega⟩
    intro v2_16 iv2_16
    exact ⟨_, rfl, trivial⟩
theorem t_fX11_many (N : Nat) (t_asked : Int32) (t_at : Int32) (t_byGun : Int32) (t_fault : Int32) (t_length : Int32) (t_listed : Int32) (t_open : Int32) (t_prizeMost : Int32) (t_thrown : Int32) (t_now : Nat → Int32) (t_order : Nat → Int32) (t_text : Nat → Int32) (t_times : Nat → Int32) (hN : 10000 ≤ N) (h_t_length : 0 ≤ t_length.toInt ∧ t_length.toInt ≤ 200) (g0 : zNowOk t_now) : ∃ r, fX11_many N t_asked t_at t_byGun t_fault t_length t_listed t_open t_prizeMost t_thrown t_now t_order t_text t_times = some r ∧ (True) := by
  unfold fX11_many
  have k0 : (0 : Int32).toInt = 0 := rfl
  have km : (-1 : Int32).toInt = -1 := rfl
  have k_0 := zq_k 0 (by decide)
  have zz0 := g0.1
  obtain ⟨⟨b1, t_asked_r2, t_at_r3, t_byGun_r4, t_fault_r5, t_listed_r6, t_open_r7, t_prizeMost_r8, t_order_r9, t_times_r10⟩, e2, q1⟩ := t_fX11_list N t_asked t_at t_byGun t_fault t_length t_listed t_open t_prizeMost t_now t_order t_text t_times hN ⟨by omega, by omega⟩ (by first | assumption | omega | exact Or.inl rfl | exact Or.inr ⟨by omega, by omega⟩)
  rw [e2, Option.bind_some]
  dsimp only
  by_cases h3 : (zb b1) = 0
  · rw [if_pos h3]
    exact ⟨_, rfl, trivial⟩
  · rw [if_neg h3]
    obtain ⟨ql0, ql1, qlo⟩ := q1 h3
    dsimp only at ql0 ql1 qlo
    exact ⟨_, rfl, trivial⟩
theorem t_fX11_prizes_L23 (N : Nat) (t_listed_r6 : Int32) (t_prizeMost_r8 : Int32) (t_times_r10 : Nat → Int32) (K23_54 : Int32 → Int32 → Option (Int32 × Int32 × Int32 × Int32 × Int32 × Int32 × Int32 × Int32 × Int32 × (Nat → Int32) × (Nat → Int32))) (hN : 10000 ≤ N) (h_t_listed_r6 : 0 ≤ t_listed_r6.toInt ∧ t_listed_r6.toInt ≤ 60) (hK : ∀ (v2_23 : Int32) (v3_23 : Int32), (0 ≤ v3_23.toInt ∧ v3_23.toInt ≤ 60) → ∃ r, K23_54 v2_23 v3_23 = some r ∧ (True)) : ∀ (n : Nat) (v2_23 : Int32) (v3_23 : Int32), (0 ≤ v3_23.toInt ∧ v3_23.toInt ≤ 60) → (1 ≤ n ∧ 61 - v3_23.toInt ≤ (n : Int)) → ∃ r, fX11_prizes_L23 N t_listed_r6 t_prizeMost_r8 t_times_r10 K23_54 n v2_23 v3_23 = some r ∧ (True) := by
  intro n
  induction n with
  | zero => intro v2_23 v3_23 iv3_23 im; exact absurd im.1 (by decide)
  | succ n23 ih =>
    intro v2_23 v3_23 iv3_23 im
    rw [fX11_prizes_L23]
    have im2 := im.2
    have k0 : (0 : Int32).toInt = 0 := rfl
    have km : (-1 : Int32).toInt = -1 := rfl
    have k_0 := zq_k 0 (by decide)
    have k_1 := zq_k 1 (by decide)
    by_cases h1 : t_listed_r6 ≤ v3_23
    · rw [if_pos h1]
      have q2 := zq_le h1
      exact hK v2_23 v3_23 ⟨by omega, by omega⟩
    · rw [if_neg h1]
      have q3 := zq_nle h1
      obtain ⟨r14, e5, q4⟩ := t_fX11_placeOf N t_listed_r6 t_times_r10 v3_23 hN ⟨by omega, by omega⟩ ⟨by omega, by omega⟩
      rw [e5, Option.bind_some]
      by_cases h6 : t_prizeMost_r8 < r14
      · rw [if_pos h6]
        have q7 := zq_lt h6
        try have a8 := zq_add (x := v3_23) (y := (nI 1)) (by omega) (by omega)
        exact ih (v2_23 + (nI 0)) (v3_23 + (nI 1)) ⟨by omega, by omega⟩ ⟨by omega, by omega⟩
      · rw [if_neg h6]
        have q9 := zq_nlt h6
        try have a10 := zq_add (x := v3_23) (y := (nI 1)) (by omega) (by omega)
        exact ih (v2_23 + (nI 1)) (v3_23 + (nI 1)) ⟨by omega, by omega⟩ ⟨by omega, by omega⟩
theorem t_fX11_prizes (N : Nat) (t_asked : Int32) (t_at : Int32) (t_byGun : Int32) (t_fault : Int32) (t_length : Int32) (t_listed : Int32) (t_open : Int32) (t_prizeMost : Int32) (t_thrown : Int32) (t_now : Nat → Int32) (t_order : Nat → Int32) (t_text : Nat → Int32) (t_times : Nat → Int32) (hN : 10000 ≤ N) (h_t_length : 0 ≤ t_length.toInt ∧ t_length.toInt ≤ 200) (g0 : zNowOk t_now) : ∃ r, fX11_prizes N t_asked t_at t_byGun t_fault t_length t_listed t_open t_prizeMost t_thrown t_now t_order t_text t_times = some r ∧ (True) := by
  unfold fX11_prizes
  have k0 : (0 : Int32).toInt = 0 := rfl
  have km : (-1 : Int32).toInt = -1 := rfl
  have k_0 := zq_k 0 (by decide)
  have zz0 := g0.1
  obtain ⟨⟨b1, t_asked_r2, t_at_r3, t_byGun_r4, t_fault_r5, t_listed_r6, t_open_r7, t_prizeMost_r8, t_order_r9, t_times_r10⟩, e2, q1⟩ := t_fX11_list N t_asked t_at t_byGun t_fault t_length t_listed t_open t_prizeMost t_now t_order t_text t_times hN ⟨by omega, by omega⟩ (by first | assumption | omega | exact Or.inl rfl | exact Or.inr ⟨by omega, by omega⟩)
  rw [e2, Option.bind_some]
  dsimp only
  by_cases h3 : (zb b1) = 0
  · rw [if_pos h3]
    exact ⟨_, rfl, trivial⟩
  · rw [if_neg h3]
    obtain ⟨ql0, ql1, qlo⟩ := q1 h3
    dsimp only at ql0 ql1 qlo
    refine t_fX11_prizes_L23 N t_listed_r6 t_prizeMost_r8 t_times_r10 _ hN ⟨by omega, by omega⟩ ?_ _ (nI 0) (nI 0) ⟨by omega, by omega⟩ ⟨by omega, by omega⟩
    intro v2_23 v3_23 iv3_23
    exact ⟨_, rfl, trivial⟩
theorem t_fX11_team_L42 (t_now : Nat → Int32) (x1 : Int32) (x2 : Int32) (t_listed_r12 : Int32) (t_order_r15 : Nat → Int32) (t_times_r16 : Nat → Int32) (K42_96 : Int32 → Int32 → Int32 → Option (Int32 × Int32 × Int32 × Int32 × Int32 × Int32 × Int32 × Int32 × Int32 × (Nat → Int32) × (Nat → Int32))) (h_t_listed_r12 : 0 ≤ t_listed_r12.toInt ∧ t_listed_r12.toInt ≤ 60) (g0 : zOrd t_order_r15 t_listed_r12.toInt) (g1 : zNowOk t_now) (hK : ∀ (v3_42 : Int32) (v4_42 : Int32) (v5_42 : Int32), (0 ≤ v5_42.toInt ∧ v5_42.toInt ≤ 60) → ∃ r, K42_96 v3_42 v4_42 v5_42 = some r ∧ (True)) : ∀ (n : Nat) (v3_42 : Int32) (v4_42 : Int32) (v5_42 : Int32), (0 ≤ v5_42.toInt ∧ v5_42.toInt ≤ 60) → (1 ≤ n ∧ 61 - v5_42.toInt ≤ (n : Int)) → ∃ r, fX11_team_L42 t_now x1 x2 t_listed_r12 t_order_r15 t_times_r16 K42_96 n v3_42 v4_42 v5_42 = some r ∧ (True) := by
  intro n
  induction n with
  | zero => intro v3_42 v4_42 v5_42 iv5_42 im; exact absurd im.1 (by decide)
  | succ n42 ih =>
    intro v3_42 v4_42 v5_42 iv5_42 im
    rw [fX11_team_L42]
    have im2 := im.2
    have k0 : (0 : Int32).toInt = 0 := rfl
    have km : (-1 : Int32).toInt = -1 := rfl
    have k_1 := zq_k 1 (by decide)
    have k_4 := zq_k 4 (by decide)
    have zz1 := g1.1
    by_cases h1 : t_listed_r12 ≤ v5_42
    · rw [if_pos h1]
      have q2 := zq_le h1
      exact hK v3_42 v4_42 v5_42 ⟨by omega, by omega⟩
    · rw [if_neg h1]
      have q3 := zq_nle h1
      by_cases h4 : x2 ≤ v3_42
      · rw [if_pos h4]
        have q5 := zq_le h4
        exact hK v3_42 v4_42 v5_42 ⟨by omega, by omega⟩
      · rw [if_neg h4]
        have q6 := zq_nle h4
        have z7 : zin v5_42 60 := zq_in (by omega) (by omega)
        rw [if_pos z7]
        have zo := g0 (v5_42).toNatClampNeg (by rw [zq_c (by omega)]; omega)
        obtain ⟨r23, e9, q8⟩ := t_fX11_of t_now (t_order_r15 (v5_42).toNatClampNeg) (nI 4) ⟨by omega, by omega⟩ ⟨by omega, by omega⟩ (by first | assumption | omega | exact Or.inl rfl | exact Or.inr ⟨by omega, by omega⟩)
        rw [e9, Option.bind_some]
        by_cases h10 : r23 = x1
        · rw [if_pos h10]
          have q11 := zq_eq h10
          have z12 : zin v5_42 60 := zq_in (by omega) (by omega)
          rw [if_pos z12]
          try have a13 := zq_add (x := v5_42) (y := (nI 1)) (by omega) (by omega)
          exact ih (v3_42 + (nI 1)) (v4_42 + (t_times_r16 (v5_42).toNatClampNeg)) (v5_42 + (nI 1)) ⟨by omega, by omega⟩ ⟨by omega, by omega⟩
        · rw [if_neg h10]
          have q14 := zq_ne h10
          try have a15 := zq_add (x := v5_42) (y := (nI 1)) (by omega) (by omega)
          exact ih v3_42 v4_42 (v5_42 + (nI 1)) ⟨by omega, by omega⟩ ⟨by omega, by omega⟩
theorem t_fX11_team (N : Nat) (t_asked : Int32) (t_at : Int32) (t_byGun : Int32) (t_fault : Int32) (t_length : Int32) (t_listed : Int32) (t_open : Int32) (t_prizeMost : Int32) (t_thrown : Int32) (t_now : Nat → Int32) (t_order : Nat → Int32) (t_text : Nat → Int32) (t_times : Nat → Int32) (x1 : Int32) (x2 : Int32) (hN : 10000 ≤ N) (h_t_length : 0 ≤ t_length.toInt ∧ t_length.toInt ≤ 200) (g0 : zNowOk t_now) : ∃ r, fX11_team N t_asked t_at t_byGun t_fault t_length t_listed t_open t_prizeMost t_thrown t_now t_order t_text t_times x1 x2 = some r ∧ (True) := by
  unfold fX11_team
  have k0 : (0 : Int32).toInt = 0 := rfl
  have km : (-1 : Int32).toInt = -1 := rfl
  have k_0 := zq_k 0 (by decide)
  have k_1 := zq_k 1 (by decide)
  have k_9 := zq_k 9 (by decide)
  have k_10 := zq_k 10 (by decide)
  have zz0 := g0.1
  obtain ⟨b1, e2, q1⟩ := t_fX11_isIn x1 (nI 1) (nI 9) 
  rw [e2, Option.bind_some]
  by_cases h3 : (zb b1) = 0
  · rw [if_pos h3]
    exact ⟨_, rfl, trivial⟩
  · rw [if_neg h3]
    have q4 := q1 h3
    obtain ⟨b4, e6, q5⟩ := t_fX11_isIn x2 (nI 1) (nI 10) 
    rw [e6, Option.bind_some]
    by_cases h7 : (zb b4) = 0
    · rw [if_pos h7]
      exact ⟨_, rfl, trivial⟩
    · rw [if_neg h7]
      have q8 := q5 h7
      obtain ⟨⟨b7, t_asked_r8, t_at_r9, t_byGun_r10, t_fault_r11, t_listed_r12, t_open_r13, t_prizeMost_r14, t_order_r15, t_times_r16⟩, e10, q9⟩ := t_fX11_list N t_asked t_at t_byGun t_fault t_length t_listed t_open t_prizeMost t_now t_order t_text t_times hN ⟨by omega, by omega⟩ (by first | assumption | omega | exact Or.inl rfl | exact Or.inr ⟨by omega, by omega⟩)
      rw [e10, Option.bind_some]
      dsimp only
      by_cases h11 : (zb b7) = 0
      · rw [if_pos h11]
        exact ⟨_, rfl, trivial⟩
      · rw [if_neg h11]
        obtain ⟨ql0, ql1, qlo⟩ := q9 h11
        dsimp only at ql0 ql1 qlo
        refine t_fX11_team_L42 t_now x1 x2 t_listed_r12 t_order_r15 t_times_r16 _ ⟨by omega, by omega⟩ (by first | assumption | omega | exact Or.inl rfl | exact Or.inr ⟨by omega, by omega⟩) (by first | assumption | omega | exact Or.inl rfl | exact Or.inr ⟨by omega, by omega⟩) ?_ _ (nI 0) (nI 0) (nI 0) ⟨by omega, by omega⟩ ⟨by omega, by omega⟩
        intro v3_42 v4_42 v5_42 iv5_42
        by_cases h12 : v3_42 = x2
        · rw [if_pos h12]
          have q13 := zq_eq h12
          exact ⟨_, rfl, trivial⟩
        · rw [if_neg h12]
          have q14 := zq_ne h12
          exact ⟨_, rfl, trivial⟩
theorem t_fX11_state_L9 (N : Nat) (t_now : Nat → Int32) (x1 : Int32) (K9_40 : Int32 → Int32 → Option (Int32 × Int32)) (hN : 10000 ≤ N) (g0 : zNowOk t_now) (hK : ∀ (v2_9 : Int32) (v3_9 : Int32), (0 ≤ v3_9.toInt ∧ v3_9.toInt ≤ 60) → ∃ r, K9_40 v2_9 v3_9 = some r ∧ (True)) : ∀ (n : Nat) (v2_9 : Int32) (v3_9 : Int32), (0 ≤ v3_9.toInt ∧ v3_9.toInt ≤ 60) → (1 ≤ n ∧ 61 - v3_9.toInt ≤ (n : Int)) → ∃ r, fX11_state_L9 N t_now x1 K9_40 n v2_9 v3_9 = some r ∧ (True) := by
  intro n
  induction n with
  | zero => intro v2_9 v3_9 iv3_9 im; exact absurd im.1 (by decide)
  | succ n9 ih =>
    intro v2_9 v3_9 iv3_9 im
    rw [fX11_state_L9]
    have im2 := im.2
    have k0 : (0 : Int32).toInt = 0 := rfl
    have km : (-1 : Int32).toInt = -1 := rfl
    have k_0 := zq_k 0 (by decide)
    have k_1 := zq_k 1 (by decide)
    have zz0 := g0.1
    obtain ⟨r1, e2, q1⟩ := t_fX11_runners t_now 
    rw [e2, Option.bind_some]
    by_cases h3 : r1 ≤ v3_9
    · rw [if_pos h3]
      have q4 := zq_le h3
      exact hK v2_9 v3_9 ⟨by omega, by omega⟩
    · rw [if_neg h3]
      have q5 := zq_nle h3
      obtain ⟨r4, e7, q6⟩ := t_fX11_stateOf N t_now v3_9 hN ⟨by omega, by omega⟩ (by first | assumption | omega | exact Or.inl rfl | exact Or.inr ⟨by omega, by omega⟩) (by first | assumption | omega | exact Or.inl rfl | exact Or.inr ⟨by omega, by omega⟩)
      rw [e7, Option.bind_some]
      by_cases h8 : r4 = x1
      · rw [if_pos h8]
        have q9 := zq_eq h8
        try have a10 := zq_add (x := v3_9) (y := (nI 1)) (by omega) (by omega)
        exact ih (v2_9 + (nI 1)) (v3_9 + (nI 1)) ⟨by omega, by omega⟩ ⟨by omega, by omega⟩
      · rw [if_neg h8]
        have q11 := zq_ne h8
        try have a12 := zq_add (x := v3_9) (y := (nI 1)) (by omega) (by omega)
        exact ih (v2_9 + (nI 0)) (v3_9 + (nI 1)) ⟨by omega, by omega⟩ ⟨by omega, by omega⟩
theorem t_fX11_state (N : Nat) (t_thrown : Int32) (t_now : Nat → Int32) (x1 : Int32) (hN : 10000 ≤ N) (g0 : zNowOk t_now) : ∃ r, fX11_state N t_thrown t_now x1 = some r ∧ (True) := by
  unfold fX11_state
  have k0 : (0 : Int32).toInt = 0 := rfl
  have km : (-1 : Int32).toInt = -1 := rfl
  have k_0 := zq_k 0 (by decide)
  have zz0 := g0.1
  refine t_fX11_state_L9 N t_now x1 _ hN (by first | assumption | omega | exact Or.inl rfl | exact Or.inr ⟨by omega, by omega⟩) ?_ _ (nI 0) (nI 0) ⟨by omega, by omega⟩ ⟨by omega, by omega⟩
  intro v2_9 v3_9 iv3_9
  exact ⟨_, rfl, trivial⟩
theorem t_fX11_count_L92 (t_now : Nat → Int32) (v3_81 : Int32) (K92_126 : Int32 → Int32 → Option (Int32 × Int32)) (h_v3_81 : 0 ≤ v3_81.toInt ∧ v3_81.toInt ≤ 59) (g0 : v3_81.toInt < (t_now 1).toInt) (g1 : zNowOk t_now) (hK : ∀ (v2_92 : Int32) (v4_92 : Int32), (0 ≤ v4_92.toInt ∧ v4_92.toInt ≤ 12) → ∃ r, K92_126 v2_92 v4_92 = some r ∧ (True)) : ∀ (n : Nat) (v2_92 : Int32) (v4_92 : Int32), (0 ≤ v4_92.toInt ∧ v4_92.toInt ≤ 12) → (1 ≤ n ∧ 13 - v4_92.toInt ≤ (n : Int)) → ∃ r, fX11_count_L92 t_now v3_81 K92_126 n v2_92 v4_92 = some r ∧ (True) := by
  intro n
  induction n with
  | zero => intro v2_92 v4_92 iv4_92 im; exact absurd im.1 (by decide)
  | succ n92 ih =>
    intro v2_92 v4_92 iv4_92 im
    rw [fX11_count_L92]
    have im2 := im.2
    have k0 : (0 : Int32).toInt = 0 := rfl
    have km : (-1 : Int32).toInt = -1 := rfl
    have k_0 := zq_k 0 (by decide)
    have k_1 := zq_k 1 (by decide)
    have zz1 := g1.1
    obtain ⟨r17, e2, q1⟩ := t_fX11_mats t_now 
    rw [e2, Option.bind_some]
    by_cases h3 : r17 ≤ v4_92
    · rw [if_pos h3]
      have q4 := zq_le h3
      exact hK v2_92 v4_92 ⟨by omega, by omega⟩
    · rw [if_neg h3]
      have q5 := zq_nle h3
      obtain ⟨r20, e7, q6⟩ := t_fX11_splitOf t_now v3_81 v4_92 ⟨by omega, by omega⟩ ⟨by omega, by omega⟩ (by first | assumption | omega | exact Or.inl rfl | exact Or.inr ⟨by omega, by omega⟩)
      rw [e7, Option.bind_some]
      by_cases h8 : r20 = (-1 : Int32)
      · rw [if_pos h8]
        have q9 := zq_eq h8
        try have a10 := zq_add (x := v4_92) (y := (nI 1)) (by omega) (by omega)
        exact ih (v2_92 + (nI 0)) (v4_92 + (nI 1)) ⟨by omega, by omega⟩ ⟨by omega, by omega⟩
      · rw [if_neg h8]
        have q11 := zq_ne h8
        try have a12 := zq_add (x := v4_92) (y := (nI 1)) (by omega) (by omega)
        exact ih (v2_92 + (nI 1)) (v4_92 + (nI 1)) ⟨by omega, by omega⟩ ⟨by omega, by omega⟩
theorem t_fX11_count_L81 (N : Nat) (t_now : Nat → Int32) (K81_132 : Int32 → Int32 → Option (Int32 × Int32)) (hN : 10000 ≤ N) (g0 : zNowOk t_now) (hK : ∀ (v2_81 : Int32) (v3_81 : Int32), (0 ≤ v3_81.toInt ∧ v3_81.toInt ≤ 60) → ∃ r, K81_132 v2_81 v3_81 = some r ∧ (True)) : ∀ (n : Nat) (v2_81 : Int32) (v3_81 : Int32), (0 ≤ v3_81.toInt ∧ v3_81.toInt ≤ 60) → (1 ≤ n ∧ 61 - v3_81.toInt ≤ (n : Int)) → ∃ r, fX11_count_L81 N t_now K81_132 n v2_81 v3_81 = some r ∧ (True) := by
  intro n
  induction n with
  | zero => intro v2_81 v3_81 iv3_81 im; exact absurd im.1 (by decide)
  | succ n81 ih =>
    intro v2_81 v3_81 iv3_81 im
    rw [fX11_count_L81]
    have im2 := im.2
    have k0 : (0 : Int32).toInt = 0 := rfl
    have km : (-1 : Int32).toInt = -1 := rfl
    have k_0 := zq_k 0 (by decide)
    have k_1 := zq_k 1 (by decide)
    have zz0 := g0.1
    obtain ⟨r14, e2, q1⟩ := t_fX11_runners t_now 
    rw [e2, Option.bind_some]
    by_cases h3 : r14 ≤ v3_81
    · rw [if_pos h3]
      have q4 := zq_le h3
      exact hK v2_81 v3_81 ⟨by omega, by omega⟩
    · rw [if_neg h3]
      have q5 := zq_nle h3
      refine t_fX11_count_L92 t_now v3_81 _ ⟨by omega, by omega⟩ (by first | assumption | omega | exact Or.inl rfl | exact Or.inr ⟨by omega, by omega⟩) (by first | assumption | omega | exact Or.inl rfl | exact Or.inr ⟨by omega, by omega⟩) ?_ _ v2_81 (nI 0) ⟨by omega, by omega⟩ ⟨by omega, by omega⟩
      intro v2_92 v4_92 iv4_92
      try have a6 := zq_add (x := v3_81) (y := (nI 1)) (by omega) (by omega)
      exact ih v2_92 (v3_81 + (nI 1)) ⟨by omega, by omega⟩ ⟨by omega, by omega⟩
theorem t_fX11_count (N : Nat) (t_length : Int32) (t_thrown : Int32) (t_now : Nat → Int32) (x1 : Int32) (hN : 10000 ≤ N) (h_t_length : 0 ≤ t_length.toInt ∧ t_length.toInt ≤ 200) (g0 : zNowOk t_now) : ∃ r, fX11_count N t_length t_thrown t_now x1 = some r ∧ (True) := by
  unfold fX11_count
  have k0 : (0 : Int32).toInt = 0 := rfl
  have km : (-1 : Int32).toInt = -1 := rfl
  have k_0 := zq_k 0 (by decide)
  have k_1 := zq_k 1 (by decide)
  have k_2 := zq_k 2 (by decide)
  have k_3 := zq_k 3 (by decide)
  have k_4 := zq_k 4 (by decide)
  have k_5 := zq_k 5 (by decide)
  have k_6 := zq_k 6 (by decide)
  have zz0 := g0.1
  by_cases h1 : x1 = (nI 0)
  · rw [if_pos h1]
    have q2 := zq_eq h1
    obtain ⟨r2, e4, q3⟩ := t_fX11_mats t_now 
    rw [e4, Option.bind_some]
    exact ⟨_, rfl, trivial⟩
  · rw [if_neg h1]
    by_cases h5 : x1 = (nI 1)
    · rw [if_pos h5]
      have q6 := zq_eq h5
      obtain ⟨r5, e8, q7⟩ := t_fX11_runners t_now 
      rw [e8, Option.bind_some]
      exact ⟨_, rfl, trivial⟩
    · rw [if_neg h5]
      by_cases h9 : x1 = (nI 2)
      · rw [if_pos h9]
        have q10 := zq_eq h9
        obtain ⟨r8, e12, q11⟩ := t_fX11_doubts N t_now (-1 : Int32) (nI 0) hN (by first | assumption | omega | exact Or.inl rfl | exact Or.inr ⟨by omega, by omega⟩)
        rw [e12, Option.bind_some]
        exact ⟨_, rfl, trivial⟩
      · rw [if_neg h9]
        by_cases h13 : x1 = (nI 3)
        · rw [if_pos h13]
          have q14 := zq_eq h13
          exact ⟨_, rfl, trivial⟩
        · rw [if_neg h13]
          by_cases h15 : x1 = (nI 4)
          · rw [if_pos h15]
            have q16 := zq_eq h15
            have z17 : zin (nI 2) 1562 := zq_in (by omega) (by omega)
            rw [if_pos z17]
            exact ⟨_, rfl, trivial⟩
          · rw [if_neg h15]
            by_cases h18 : x1 = (nI 5)
            · rw [if_pos h18]
              have q19 := zq_eq h18
              refine t_fX11_count_L81 N t_now _ hN (by first | assumption | omega | exact Or.inl rfl | exact Or.inr ⟨by omega, by omega⟩) ?_ _ (nI 0) (nI 0) ⟨by omega, by omega⟩ ⟨by omega, by omega⟩
              intro v2_81 v3_81 iv3_81
              exact ⟨_, rfl, trivial⟩
            · rw [if_neg h18]
              by_cases h20 : x1 = (nI 6)
              · rw [if_pos h20]
                have q21 := zq_eq h20
                obtain ⟨r24, e23, q22⟩ := t_fX11_wayLength t_now (by first | assumption | omega | exact Or.inl rfl | exact Or.inr ⟨by omega, by omega⟩)
                rw [e23, Option.bind_some]
                exact ⟨_, rfl, trivial⟩
              · rw [if_neg h20]
                exact ⟨_, rfl, trivial⟩
