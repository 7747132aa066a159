/-! back: the reference's copy of what was kept -/
theorem p_cp4 {w : Nat → Int32} {v : Int32} (hv : ¬ v = 0) : ∀ (n k : Nat) (d : Nat → Int32), k ≤ 1562 → 1563 ≤ n + k → ∃ d' : Nat → Int32, (∀ K, fX11_back_L18 v w K n (nI k) d = K (nI 1562) d') ∧ ∀ i, (k ≤ i ∧ i < 1562 → d' i = w i) ∧ (i < k → d' i = d i) := by
  intro n
  induction n with
  | zero => intro k d h1 h2; omega
  | succ n ih =>
    intro k d h1 h2
    by_cases hk : k = 1562
    · subst hk
      refine ⟨d, fun K => ?_, fun i => ⟨fun h => by omega, fun _ => rfl⟩⟩
      rw [fX11_back_L18, if_pos (by rw [zl_le (by omega) (by omega)]; exact Nat.le_refl _)]
    · obtain ⟨d', e, q⟩ := ih (k + 1) (upd d k (w k)) (by omega) (by omega)
      have z : zin (nI k) 1562 := zin_k (by omega) (by omega)
      refine ⟨d', fun K => ?_, fun i => ⟨fun h => ?_, fun h => ?_⟩⟩
      · rw [fX11_back_L18, if_neg (by rw [zl_le (by omega) (by omega)]; omega), if_neg hv, if_pos z, if_pos z, zl_c (show k < 2 ^ 31 by omega), nI_add]
        exact e K
      · by_cases hi : i = k
        · rw [(q i).2 (by omega), hi, zup_s]
        · exact (q i).1 (by omega)
      · rw [(q i).2 (by omega), zup_n (by omega)]
theorem p_cp0 {w d : Nat → Int32} {v : Int32} {N : Nat} (hv : v = 0) (hN : 10000 ≤ N) {K : Int32 → (Nat → Int32) → Option (Int32 × (Nat → Int32))} : fX11_back_L18 v w K N (nI 0) d = K (nI 0) d := by
  cases N with
  | zero => omega
  | succ n => rw [fX11_back_L18, if_neg (by rw [zl_le (by omega) (by omega)]; omega), if_pos hv]
