theorem zneg_le2 {x : Int32} {a : Nat} (h : x < 0) (ha : a < 2 ^ 31) : x ≤ nI a := by
  have q := zq_lt (zneg_le h ha)
  exact Int32.le_iff_toInt_le.mpr (by omega)
theorem p_adds1 {M R : Nat} (hM : M < 12) (hR : R ≤ 60) {K : Int32 → (Nat → Int32) → Option (Nat → Int32)} : ∀ (n k : Nat) (w : Nat → Int32), k ≤ R → R + 1 ≤ n + k → w 0 = nI M → w 1 = nI R → ∃ w' : Nat → Int32, fX11_adds_L49 K n (nI k) w = K (nI R) w' ∧ (∀ r, k ≤ r → r < R → w' (122 + 24 * r + (12 + M)) = -1) ∧ (∀ q, (∀ r, k ≤ r → r < R → q ≠ 122 + 24 * r + (12 + M)) → w' q = w q) := by
  intro n
  induction n with
  | zero => intro k w h1 h2; omega
  | succ n ih =>
    intro k w h1 h2 w0 w1
    rw [fX11_adds_L49, g_runners, Option.bind_some, w1]
    by_cases hk : k = R
    · subst hk
      rw [if_pos (by rw [zl_le (by omega) (by omega)]; exact Nat.le_refl _)]
      exact ⟨w, rfl, fun r h3 h4 => by omega, fun _ _ => rfl⟩
    · rw [if_neg (by rw [zl_le (by omega) (by omega)]; omega), g_mats, Option.bind_some, w0, nI_add, g_put (by omega) (by omega), Option.bind_some, nI_add]
      obtain ⟨w', e, q1, q2⟩ := ih (k + 1) (upd w (122 + 24 * k + (12 + M)) (-1)) (by omega) (by omega) (by rw [zup_n (by omega)]; exact w0) (by rw [zup_n (by omega)]; exact w1)
      refine ⟨w', e, fun r h3 h4 => ?_, fun q h => ?_⟩
      · by_cases hr : r = k
        · subst hr
          rw [q2 _ (fun r2 h5 h6 => by omega), zup_s]
        · exact q1 r (by omega) h4
      · rw [q2 q (fun r h5 h6 => h r (by omega) h6), zup_n (h k (Nat.le_refl _) (by omega))]
theorem p_adds {N M R : Nat} {now : Nat → Int32} {x1 x2 : Int32} (hN : 10000 ≤ N) (hM : M < 12) (hR : R ≤ 60) (h0 : now 0 = nI M) (h1 : now 1 = nI R) :
    ∃ b : Nat → Int32, fX11_adds N now x1 x2 = some b ∧ b 0 = nI (M + 1) ∧ b (8 + 4 * M) = x1 ∧ b (9 + 4 * M) = x2 ∧ b (10 + 4 * M) = nI 0 ∧ b (11 + 4 * M) = -1 ∧ (∀ r, r < R → b (122 + 24 * r + (12 + M)) = -1) ∧ (∀ q, q ≠ 0 → (q < 8 + 4 * M ∨ 12 + 4 * M ≤ q) → (∀ r, r < R → q ≠ 122 + 24 * r + (12 + M)) → b q = now q) := by
  have ix : ∀ w, (((nI 8) + ((nI 4) * nI M)) + (nI w)) = nI (8 + 4 * M + w) := fun w => by rw [pk_mul, nI_add, nI_add]
  have W0 : upd (upd (upd (upd now (8 + 4 * M + 0) x1) (8 + 4 * M + 1) x2) (8 + 4 * M + 2) (nI 0)) (8 + 4 * M + 3) (-1) 0 = nI M := by
    rw [zup_n (by omega), zup_n (by omega), zup_n (by omega), zup_n (by omega)]; exact h0
  have W1 : upd (upd (upd (upd now (8 + 4 * M + 0) x1) (8 + 4 * M + 1) x2) (8 + 4 * M + 2) (nI 0)) (8 + 4 * M + 3) (-1) 1 = nI R := by
    rw [zup_n (by omega), zup_n (by omega), zup_n (by omega), zup_n (by omega)]; exact h1
  obtain ⟨w', e, q1, q2⟩ := p_adds1 hM hR (K := fun (v4_49 : Int32) (t_now_l49 : Nat → Int32) => (if zin (nI 0) 1562 then (if zin (nI 0) 1562 then some ((upd t_now_l49 ((nI 0)).toNatClampNeg ((t_now_l49 ((nI 0)).toNatClampNeg) + (nI 1)))) else none) else none)) N 0 _ (by omega) (by omega) W0 W1
  have z0 : zin (nI 0) 1562 := zin_k (by omega) (by omega)
  have c0 : (nI 0).toNatClampNeg = 0 := zl_c (by omega)
  have w0 : w' 0 = nI M := by rw [q2 0 (fun r _ _ => by omega)]; exact W0
  have E : fX11_adds N now x1 x2 = some (upd w' 0 (nI (M + 1))) := by
    unfold fX11_adds
    rw [g_mats, Option.bind_some, h0, if_pos (show zin (((nI 8) + ((nI 4) * nI M)) + (nI 0)) 1562 by rw [ix 0]; exact zin_k (by omega) (by omega)), if_pos (show zin (((nI 8) + ((nI 4) * nI M)) + (nI 1)) 1562 by rw [ix 1]; exact zin_k (by omega) (by omega)), if_pos (show zin (((nI 8) + ((nI 4) * nI M)) + (nI 2)) 1562 by rw [ix 2]; exact zin_k (by omega) (by omega)), if_pos (show zin (((nI 8) + ((nI 4) * nI M)) + (nI 3)) 1562 by rw [ix 3]; exact zin_k (by omega) (by omega)), ix 0, ix 1, ix 2, ix 3, zl_c (show 8 + 4 * M + 0 < 2 ^ 31 by omega), zl_c (show 8 + 4 * M + 1 < 2 ^ 31 by omega), zl_c (show 8 + 4 * M + 2 < 2 ^ 31 by omega), zl_c (show 8 + 4 * M + 3 < 2 ^ 31 by omega)]
    rw [e, if_pos z0, if_pos z0, c0, w0, nI_add]
  have far : ∀ q, q ≠ 0 → (∀ r, r < R → q ≠ 122 + 24 * r + (12 + M)) → upd w' 0 (nI (M + 1)) q = upd (upd (upd (upd now (8 + 4 * M + 0) x1) (8 + 4 * M + 1) x2) (8 + 4 * M + 2) (nI 0)) (8 + 4 * M + 3) (-1) q := fun q h h2 => by
    rw [zup_n h, q2 q (fun r _ h4 => h2 r h4)]
  refine ⟨_, E, zup_s, ?_, ?_, ?_, ?_, fun r hr => ?_, fun q h h2 h3 => ?_⟩
  · rw [far _ (by omega) (fun r hr => by omega), zup_n (by omega), zup_n (by omega), zup_n (by omega), show 8 + 4 * M = 8 + 4 * M + 0 from rfl, zup_s]
  · rw [far _ (by omega) (fun r hr => by omega), show 9 + 4 * M = 8 + 4 * M + 1 by omega, zup_n (by omega), zup_n (by omega), zup_s]
  · rw [far _ (by omega) (fun r hr => by omega), show 10 + 4 * M = 8 + 4 * M + 2 by omega, zup_n (by omega), zup_s]
  · rw [far _ (by omega) (fun r hr => by omega), show 11 + 4 * M = 8 + 4 * M + 3 by omega, zup_s]
  · rw [zup_n (by omega)]; exact q1 r (Nat.zero_le _) hr
  · rw [far q h h3, zup_n (by omega), zup_n (by omega), zup_n (by omega), zup_n (by omega)]
theorem p_added {M R : Nat} {places bearings deaths cuts facts dropped waved struck torn splits now b : Nat → Int32} {x1 x2 : Int32} {p v : Nat} (hM : M < 12) (hp : p ≤ 100000) (e1 : x1 = nI p) (hv : 1 ≤ v ∧ v ≤ 1000) (e2 : x2 = nI v) (h0 : M = 0 → p = 0) (hfar : ∀ a, a < M → places a < x1)
    (b8 : b (8 + 4 * M) = x1) (b9 : b (9 + 4 * M) = x2) (b10 : b (10 + 4 * M) = nI 0) (b11 : b (11 + 4 * M) = -1) (br : ∀ r, r < R → b (122 + 24 * r + (12 + M)) = -1) (bo : ∀ q, q ≠ 0 → (q < 8 + 4 * M ∨ 12 + 4 * M ≤ q) → (∀ r, r < R → q ≠ 122 + 24 * r + (12 + M)) → b q = now q)
    (hm : M = 0 ∨ zMats M places bearings deaths cuts now) (hr : zRuns M R facts dropped waved struck torn splits now) :
    zMats (M + 1) (upd places M x1) (upd bearings M x2) (upd deaths M 0) (upd cuts M (-1)) b ∧ zRuns (M + 1) R facts dropped waved struck torn splits b := by
  have hm1 : ∀ m, m < M → zMats M places bearings deaths cuts now := fun m h => by
    rcases hm with q | q
    · omega
    · exact q
  refine ⟨⟨fun m hlt => ?_, fun a c hac hc => ?_, ?_⟩, fun r hlt => ?_⟩
  · by_cases hmM : m = M
    · subst hmM
      rw [zup_s, zup_s, zup_s, zup_s]
      exact ⟨b8, b9, by rw [b10]; exact p_zero, b11, ⟨p, hp, e1⟩, ⟨v, hv.1, hv.2, e2⟩, Or.inl rfl, Or.inl rfl⟩
    · obtain ⟨a1, a2, a3, a4, a5⟩ := (hm1 m (by omega)).1 m (by omega)
      rw [zup_n hmM, zup_n hmM, zup_n hmM, zup_n hmM]
      refine ⟨?_, ?_, ?_, ?_, a5⟩
      · rw [bo _ (by omega) (by omega) (fun r _ => by omega)]; exact a1
      · rw [bo _ (by omega) (by omega) (fun r _ => by omega)]; exact a2
      · rw [bo _ (by omega) (by omega) (fun r _ => by omega)]; exact a3
      · rw [bo _ (by omega) (by omega) (fun r _ => by omega)]; exact a4
  · rw [zup_n (show a ≠ M by omega)]
    by_cases hcM : c = M
    · rw [hcM, zup_s]; exact hfar a (by omega)
    · rw [zup_n hcM]; exact (hm1 a (by omega)).2.1 a c hac (by omega)
  · by_cases hz : M = 0
    · subst hz; rw [zup_s, e1, h0 rfl]; exact p_zero
    · rw [zup_n (by omega)]; exact (hm1 0 (by omega)).2.2
  · obtain ⟨a1, a2, a3, a4, a5, a6, a7, a8, a9, a10, a11, a12⟩ := hr r hlt
    have fo : ∀ k, k < 24 → k ≠ 12 + M → b (122 + 24 * r + k) = now (122 + 24 * r + k) := fun k hk hne => bo _ (by omega) (by omega) (fun r2 _ => by omega)
    refine ⟨fun k hk => by rw [fo k (by omega) (by omega)]; exact a1 k hk, a2, a3, a4, a5, a6, a7, by rw [fo _ (by omega) (by omega)]; exact a8, by rw [fo _ (by omega) (by omega)]; exact a9, by rw [fo _ (by omega) (by omega)]; exact a10, by rw [fo _ (by omega) (by omega)]; exact a11, fun k hk => ?_⟩
    obtain ⟨c1, c2, c3⟩ := a12 k hk
    refine ⟨?_, c2, fun q => c3 (by omega)⟩
    rw [show 122 + 24 * r + 12 + k = 122 + 24 * r + (12 + k) by omega]
    by_cases hkM : k = M
    · subst hkM
      rw [br r hlt, c3 (Nat.le_refl _)]
    · rw [fo _ (by omega) (by omega), ← c1, show 122 + 24 * r + 12 + k = 122 + 24 * r + (12 + k) by omega]
theorem p_mat {N M R : Nat} {places bearings deaths cuts facts dropped waved struck torn splits now : Nat → Int32} {T x1 x2 : Int32} (hN : 10000 ≤ N) (hM1 : 1 ≤ M) (hM : M ≤ 12) (hR : R ≤ 60) (h0 : now 0 = nI M) (h1 : now 1 = nI R) (hm : zMats M places bearings deaths cuts now) (hr : zRuns M R facts dropped waved struck torn splits now) :
    ∃ (r : Int32) (M' : Nat) (be cu de pl b : Nat → Int32), fX10_mat (nI M) bearings cuts deaths places x1 x2 = some (r, nI M', be, cu, de, pl) ∧ fX11_mat N T now x1 x2 = some (r, nI 0, b) ∧ 1 ≤ M' ∧ M' ≤ 12 ∧ b 0 = nI M' ∧ zMats M' pl be de cu b ∧ zRuns M' R facts dropped waved struck torn splits b ∧ (∀ q, q ≠ 0 → (q < 8 ∨ (56 ≤ q ∧ q < 122)) → b q = now q) := by
  have no : fX10_mat (nI M) bearings cuts deaths places x1 x2 = some (-1, nI M, bearings, cuts, deaths, places) → fX11_mat N T now x1 x2 = some (-1, nI 0, now) → ∃ (r : Int32) (M' : Nat) (be cu de pl b : Nat → Int32), fX10_mat (nI M) bearings cuts deaths places x1 x2 = some (r, nI M', be, cu, de, pl) ∧ fX11_mat N T now x1 x2 = some (r, nI 0, b) ∧ 1 ≤ M' ∧ M' ≤ 12 ∧ b 0 = nI M' ∧ zMats M' pl be de cu b ∧ zRuns M' R facts dropped waved struck torn splits b ∧ (∀ q, q ≠ 0 → (q < 8 ∨ (56 ≤ q ∧ q < 122)) → b q = now q) :=
    fun e1 e2 => ⟨-1, M, bearings, cuts, deaths, places, now, e1, e2, hM1, hM, h0, hm, hr, fun _ _ _ => rfl⟩
  obtain ⟨K, hK⟩ : ∃ K, M = K + 1 := ⟨M - 1, by omega⟩
  obtain ⟨a1, a2, a3, a4, ⟨f, hf, ef⟩, a6⟩ := hm.1 K (by omega)
  have F1 : fX9_farthest (nI M) places = some (nI f) := by
    unfold fX9_farthest fX9_placeAt
    rw [hK, pk_sub (by omega), show K + 1 - 1 = K from rfl, c_hasM (by omega) (by omega), decide_eq_true (show K < K + 1 by omega), Option.bind_some, if_neg zl_t0, if_pos (zin_k (show K < 12 by omega) (by omega)), zl_c (show K < 2 ^ 31 by omega), ef, Option.bind_some]
  have F2 : fX11_ofMat now (nI M - nI 1) (nI 0) = some (nI f) := by
    rw [hK, pk_sub (by omega), show K + 1 - 1 = K from rfl, g_ofMat (by omega) (by omega), show 8 + 4 * K + 0 = 8 + 4 * K from rfl, a1, ef]
  -- the class asks for the bearing first, the reference for a free place
  have A : ∀ y : Int32, (∃ v, (1 ≤ v ∧ v ≤ 1000) ∧ y = nI v) ∨ (fX10_within y (nI 1) (nI 1000) = some false ∧ fX11_isIn y (nI 1) (nI 1000) = some false) := fun y => by
    rcases zarg y with q | ⟨j, hj, e⟩
    · exact Or.inr ⟨zw_neg (by omega) q, zi_neg (by omega) q⟩
    · by_cases h : 1 ≤ j ∧ j ≤ 1000
      · exact Or.inl ⟨j, h, e⟩
      · exact Or.inr ⟨by rw [e, zw_n (by omega) (by omega) hj, decide_eq_false h], by rw [e, zi_n (by omega) (by omega) hj, decide_eq_false h]⟩
  have C1 : fX10_mat (nI M) bearings cuts deaths places x1 x2 = (fX10_within x2 (nI 1) (nI 1000)).bind (fun b1 => (if (zb b1) = 0 then some ((-1 : Int32), nI M, bearings, cuts, deaths, places) else ((fX10_within x1 (nI (f + 1)) (nI 100000)).bind (fun b6 => (if (zb b6) = 0 then some ((-1 : Int32), nI M, bearings, cuts, deaths, places) else ((fX9_append (nI M) bearings cuts deaths places x1 x2).bind (fun (r9, t_race_way_mats_r10, t_race_way_bearings_r11, t_race_way_cuts_r12, t_race_way_deaths_r13, t_race_way_places_r14) => some (r9, t_race_way_mats_r10, t_race_way_bearings_r11, t_race_way_cuts_r12, t_race_way_deaths_r13, t_race_way_places_r14)))))))) := by
    unfold fX10_mat
    rw [F1, Option.bind_some, nI_add]
  have C2 : fX11_mat N T now x1 x2 = (if nI M = (nI 12) then some ((-1 : Int32), (nI 0), now) else (if x1 ≤ nI f then some ((-1 : Int32), (nI 0), now) else (if (nI 100000) < x1 then some ((-1 : Int32), (nI 0), now) else ((fX11_isIn x2 (nI 1) (nI 1000)).bind (fun b10 => (if (zb b10) = 0 then some ((-1 : Int32), (nI 0), now) else ((fX11_adds N now x1 x2).bind (fun t_now_r13 => ((fX11_mats t_now_r13).bind (fun r15 => some ((r15 - (nI 1)), (nI 0), t_now_r13)))))))))))  := by
    unfold fX11_mat
    rw [g_mats, Option.bind_some, h0]
    first | rw [Option.bind_some, F2, Option.bind_some] | rw [g_mats, Option.bind_some, h0, F2, Option.bind_some]
  rcases A x2 with ⟨v, hv, ev⟩ | ⟨n1, n2⟩
  case inr =>
    refine no ?_ ?_
    · rw [C1, n1, Option.bind_some, if_pos zl_f0]
    · rw [C2, n2, Option.bind_some, if_pos zl_f0]
      by_cases q1 : nI M = nI 12
      · rw [if_pos q1]
      · rw [if_neg q1]
        by_cases q2 : x1 ≤ nI f
        · rw [if_pos q2]
        · rw [if_neg q2]
          by_cases q3 : nI 100000 < x1
          · rw [if_pos q3]
          · rw [if_neg q3]
  have V1 : fX10_within x2 (nI 1) (nI 1000) = some true := by rw [ev, zw_n (by omega) (by omega) (by omega), decide_eq_true hv]
  have V2 : fX11_isIn x2 (nI 1) (nI 1000) = some true := V1
  rw [V1, Option.bind_some, if_neg zl_t0] at C1
  rw [V2, Option.bind_some, if_neg zl_t0] at C2
  rcases zarg x1 with h | ⟨p, hp, ep⟩
  · refine no ?_ ?_
    · rw [C1, zw_neg (by omega) h, Option.bind_some, if_pos zl_f0]
    · rw [C2]
      by_cases q1 : nI M = nI 12
      · rw [if_pos q1]
      · rw [if_neg q1, if_pos (zneg_le2 h (by omega))]
  by_cases hpp : f + 1 ≤ p ∧ p ≤ 100000
  case neg =>
    refine no ?_ ?_
    · rw [C1, ep, zw_n (by omega) (by omega) hp, decide_eq_false hpp, Option.bind_some, if_pos zl_f0]
    · rw [C2]
      by_cases q1 : nI M = nI 12
      · rw [if_pos q1]
      · rw [if_neg q1]
        by_cases q2 : x1 ≤ nI f
        · rw [if_pos q2]
        · have q3 : nI 100000 < x1 := by
            rw [ep, zl_le hp (by omega)] at q2
            rw [ep, zl_lt (by omega) hp]; omega
          rw [if_neg q2, if_pos q3]
  have P1 : fX10_within x1 (nI (f + 1)) (nI 100000) = some true := by rw [ep, zw_n (by omega) (by omega) hp, decide_eq_true hpp]
  rw [P1, Option.bind_some, if_neg zl_t0] at C1
  by_cases h12 : M = 12
  · refine no ?_ ?_
    · rw [C1]
      unfold fX9_append
      rw [if_neg (nI_pos (by omega)), if_neg (by rw [zl_lt (by omega) (by omega)]; omega), Option.bind_some]
    · rw [C2, if_pos (by rw [h12])]
  · have hne : ¬ (nI M = nI 12) := by rw [zl_eq (by omega) (by omega)]; exact h12
    have q2 : ¬ (x1 ≤ nI f) := by rw [ep, zl_le hp (by omega)]; omega
    have q3 : ¬ (nI 100000 < x1) := by rw [ep, zl_lt (by omega) hp]; omega
    rw [if_neg hne, if_neg q2, if_neg q3] at C2
    obtain ⟨b, E, b0, b8, b9, b10, b11, br, bo⟩ := p_adds (x1 := x1) (x2 := x2) hN (show M < 12 by omega) hR h0 h1
    have zM : zin (nI M) 12 := zin_k (by omega) (by omega)
    have D1 : fX10_mat (nI M) bearings cuts deaths places x1 x2 = some (nI M, nI (M + 1), upd bearings M x2, upd cuts M (-1), upd deaths M 0, upd places M x1) := by
      rw [C1]
      unfold fX9_append
      rw [if_neg (nI_pos (by omega)), if_pos (show nI M < nI 12 by rw [zl_lt (by omega) (by omega)]; omega), if_pos zM, if_pos zM, if_pos zM, if_pos zM, Option.bind_some, zl_c (show M < 2 ^ 31 by omega), p_bit0, nI_add, pk_sub (by omega)]
      rfl
    have D2 : fX11_mat N T now x1 x2 = some (nI M, nI 0, b) := by
      rw [C2, E, Option.bind_some, g_mats, Option.bind_some, b0, pk_sub (by omega)]
      rfl
    have hfar : ∀ a, a < M → places a < x1 := fun a ha => by
      have hKx : places K < x1 := by rw [ef, ep, zl_lt (by omega) hp]; omega
      by_cases haK : a = K
      · rw [haK]; exact hKx
      · have t := zq_lt (hm.2.1 a K (by omega) (by omega))
        have t2 := zq_lt hKx
        exact Int32.lt_iff_toInt_lt.mpr (by omega)
    obtain ⟨R1, R2⟩ := p_added (M := M) (R := R) (p := p) (v := v) (by omega) hpp.2 ep hv ev (fun q => by omega) hfar b8 b9 b10 b11 br bo (Or.inr hm) hr
    exact ⟨nI M, M + 1, _, _, _, _, b, D1, D2, by omega, by omega, b0, R1, R2, fun q hq h => bo q hq (by omega) (fun r _ => by omega)⟩
