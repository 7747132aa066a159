theorem p_enter1 {R : Nat} (hR : R < 60) : ∀ (n k : Nat) (sp : Nat → Int32), k ≤ 12 → 13 ≤ n + k → ∃ sp' : Nat → Int32, (∀ K, fX6_enter_L118 (nI R) K n (nI k) sp = K (nI 12) sp') ∧ ∀ i, ((12 * R + k ≤ i ∧ i < 12 * R + 12) → sp' i = -1) ∧ (¬ (12 * R + k ≤ i ∧ i < 12 * R + 12) → sp' i = sp i) := by
  intro n
  induction n with
  | zero => intro k sp h1 h2; omega
  | succ n ih =>
    intro k sp h1 h2
    by_cases hk : k = 12
    · subst hk
      refine ⟨sp, fun K => ?_, fun i => ⟨fun h => by omega, fun _ => rfl⟩⟩
      rw [fX6_enter_L118, if_pos (by rw [zl_le (by omega) (by omega)]; exact Nat.le_refl 12)]
    · have ix : ((nI R * nI 12) + nI k) = nI (12 * R + k) := by rw [pk_mul, nI_add, show R * 12 + k = 12 * R + k by omega]
      obtain ⟨sp', e, q⟩ := ih (k + 1) (upd sp (12 * R + k) (-1)) (by omega) (by omega)
      refine ⟨sp', fun K => ?_, fun i => ⟨fun h => ?_, fun h => ?_⟩⟩
      · rw [fX6_enter_L118, if_neg (by rw [zl_le (by omega) (by omega)]; omega), ix, if_pos (zin_k (show 12 * R + k < 720 by omega) (by omega)), zl_c (show 12 * R + k < 2 ^ 31 by omega), nI_add]
        exact e K
      · by_cases hi : i = 12 * R + k
        · rw [(q i).2 (by omega), hi, zup_s]
        · exact (q i).1 (by omega)
      · rw [(q i).2 (by omega), zup_n (by omega)]
/-- the twelve numbers that the reference writes for a new runner -/
def zRow (x1 x2 x3 x4 x5 x6 : Int32) (i : Nat) : Int32 := (upd (upd (upd (upd (upd (upd (upd (upd (upd (upd (upd (upd (fun _ => 0) ((nI 0)).toNatClampNeg x1) ((nI 1)).toNatClampNeg x2) ((nI 2)).toNatClampNeg x3) ((nI 3)).toNatClampNeg x4) ((nI 4)).toNatClampNeg x5) ((nI 5)).toNatClampNeg x6) ((nI 6)).toNatClampNeg (nI 0)) ((nI 7)).toNatClampNeg (nI 0)) ((nI 8)).toNatClampNeg (nI 0)) ((nI 9)).toNatClampNeg (-1 : Int32)) ((nI 10)).toNatClampNeg (nI 0)) ((nI 11)).toNatClampNeg (nI 0)) i
theorem p_runner1 {R : Nat} {x1 x2 x3 x4 x5 x6 : Int32} (hR : R < 60) : ∀ (n k : Nat) (w : Nat → Int32), k ≤ 12 → 13 ≤ n + k → ∃ w' : Nat → Int32, (∀ K, fX11_runner_L150 x1 x2 x3 x4 x5 x6 (nI R) K n (nI k) w = K (nI 12) w') ∧ (∀ c, k ≤ c → c < 12 → w' (122 + 24 * R + c) = zRow x1 x2 x3 x4 x5 x6 c) ∧ ∀ i, ¬ (122 + 24 * R + k ≤ i ∧ i < 122 + 24 * R + 12) → w' i = w i := by
  intro n
  induction n with
  | zero => intro k w h1 h2; omega
  | succ n ih =>
    intro k w h1 h2
    by_cases hk : k = 12
    · subst hk
      refine ⟨w, fun K => ?_, fun c h3 h4 => by omega, fun _ _ => rfl⟩
      rw [fX11_runner_L150, if_pos (by rw [zl_le (by omega) (by omega)]; exact Nat.le_refl 12)]
    · obtain ⟨w', e, q1, q2⟩ := ih (k + 1) (upd w (122 + 24 * R + k) (zRow x1 x2 x3 x4 x5 x6 k)) (by omega) (by omega)
      refine ⟨w', fun K => ?_, fun c h3 h4 => ?_, fun i h => ?_⟩
      · rw [fX11_runner_L150, if_neg (by rw [zl_le (by omega) (by omega)]; omega), if_pos (zin_k (show k < 12 by omega) (by omega)), g_put (by omega) (by omega), Option.bind_some, nI_add, zl_c (show k < 2 ^ 31 by omega)]
        exact e K
      · by_cases hc : c = k
        · rw [hc, q2 _ (by omega), zup_s]
        · exact q1 c (by omega) h4
      · rw [q2 i (by omega), zup_n (by omega)]
theorem p_runner2 {R : Nat} (hR : R < 60) : ∀ (n k : Nat) (w : Nat → Int32), k ≤ 12 → 13 ≤ n + k → ∃ w' : Nat → Int32, (∀ K, fX11_runner_L179 (nI R) K n (nI k) w = K (nI 12) w') ∧ (∀ c, k ≤ c → c < 12 → w' (122 + 24 * R + (12 + c)) = -1) ∧ ∀ i, ¬ (122 + 24 * R + 12 + k ≤ i ∧ i < 122 + 24 * R + 24) → w' i = w i := by
  intro n
  induction n with
  | zero => intro k w h1 h2; omega
  | succ n ih =>
    intro k w h1 h2
    by_cases hk : k = 12
    · subst hk
      refine ⟨w, fun K => ?_, fun c h3 h4 => by omega, fun _ _ => rfl⟩
      rw [fX11_runner_L179, if_pos (by rw [zl_le (by omega) (by omega)]; exact Nat.le_refl 12)]
    · obtain ⟨w', e, q1, q2⟩ := ih (k + 1) (upd w (122 + 24 * R + (12 + k)) (-1)) (by omega) (by omega)
      refine ⟨w', fun K => ?_, fun c h3 h4 => ?_, fun i h => ?_⟩
      · rw [fX11_runner_L179, if_neg (by rw [zl_le (by omega) (by omega)]; omega), nI_add, g_put (by omega) (by omega), Option.bind_some, nI_add]
        exact e K
      · by_cases hc : c = k
        · rw [hc, q2 _ (by omega), zup_s]
        · exact q1 c (by omega) h4
      · rw [q2 i (by omega), zup_n (by omega)]
theorem p_row {x1 x2 x3 x4 x5 x6 : Int32} : zRow x1 x2 x3 x4 x5 x6 0 = x1 ∧ zRow x1 x2 x3 x4 x5 x6 1 = x2 ∧ zRow x1 x2 x3 x4 x5 x6 2 = x3 ∧ zRow x1 x2 x3 x4 x5 x6 3 = x4 ∧ zRow x1 x2 x3 x4 x5 x6 4 = x5 ∧ zRow x1 x2 x3 x4 x5 x6 5 = x6 ∧ zRow x1 x2 x3 x4 x5 x6 6 = nI 0 ∧ zRow x1 x2 x3 x4 x5 x6 7 = nI 0 ∧ zRow x1 x2 x3 x4 x5 x6 8 = nI 0 ∧ zRow x1 x2 x3 x4 x5 x6 9 = -1 := ⟨rfl, rfl, rfl, rfl, rfl, rfl, rfl, rfl, rfl, rfl⟩
theorem p_enter2 {R : Nat} {dropped facts splits struck torn waved : Nat → Int32} {N : Nat} {x1 x2 x3 x4 x5 x6 : Int32} (hN : 10000 ≤ N) (hR : R < 60) :
    ∃ sp' : Nat → Int32, fX6_enter N (nI R) dropped facts splits struck torn waved x1 x2 x3 x4 x5 x6 = some (nI R, nI (R + 1), upd dropped R 0, upd (upd (upd (upd (upd (upd facts (6 * R + 0) x1) (6 * R + 1) x2) (6 * R + 2) x3) (6 * R + 3) x4) (6 * R + 4) x5) (6 * R + 5) x6, sp', upd struck R 0, upd torn R (-1), upd waved R 0) ∧ ∀ i, ((12 * R ≤ i ∧ i < 12 * R + 12) → sp' i = -1) ∧ (¬ (12 * R ≤ i ∧ i < 12 * R + 12) → sp' i = splits i) := by
  obtain ⟨sp', e, q⟩ := p_enter1 hR N 0 splits (by omega) (by omega)
  have ix : ∀ k, ((nI R * nI 6) + nI k) = nI (6 * R + k) := fun k => by rw [pk_mul, nI_add, show R * 6 + k = 6 * R + k by omega]
  have zx : ∀ k, k < 6 → zin ((nI R * nI 6) + nI k) 360 := fun k hk => by rw [ix k]; exact zin_k (by omega) (by omega)
  have z6 : zin (nI R) 60 := zin_k (by omega) (by omega)
  refine ⟨sp', ?_, q⟩
  unfold fX6_enter
  rw [if_neg (nI_pos (by omega)), if_pos (show nI R < nI 60 by rw [zl_lt (by omega) (by omega)]; omega), if_pos (zx 0 (by omega)), if_pos (zx 1 (by omega)), if_pos (zx 2 (by omega)), if_pos (zx 3 (by omega)), if_pos (zx 4 (by omega)), if_pos (zx 5 (by omega)), e, if_pos z6, if_pos z6, if_pos z6, if_pos z6, ix 0, ix 1, ix 2, ix 3, ix 4, ix 5, zl_c (show R < 2 ^ 31 by omega), zl_c (show 6 * R + 0 < 2 ^ 31 by omega), zl_c (show 6 * R + 1 < 2 ^ 31 by omega), zl_c (show 6 * R + 2 < 2 ^ 31 by omega), zl_c (show 6 * R + 3 < 2 ^ 31 by omega), zl_c (show 6 * R + 4 < 2 ^ 31 by omega), zl_c (show 6 * R + 5 < 2 ^ 31 by omega), p_bit0, nI_add]
