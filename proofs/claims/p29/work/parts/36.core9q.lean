/-! lists: the reference's reader says of a runner what the class lays -/
theorem s_unit {N n p op R r : Nat} {V : Nat → Nat} {bytes text now facts : Nat → Int32} {T : Int32 → Int32 → Int32 → Int32 → Int32 → (Nat → Int32) → (Nat → Int32) → Option (Bool × Int32 × Int32 × Int32)} (hN : 10000 ≤ N) (h : zVb n V bytes text) (hR : R ≤ 60) (hr : r < R) (hfa : ∀ k, k < 6 → fX11_of now (nI r) (nI k) = some (facts (6 * r + k))) (hop : op ≤ 8)
    (hT : op < 8 → ∀ p, p ≤ n → zOutS n V bytes R r facts p (zRn n V p 0 (op + 1) 0) (op + 1) (zQt n V) (zFt (op + 1)) (T (nI r) (nI p) (-1) (nI n) (nI (op + 1)) now text)) (hp : p ≤ n) : zOutS n V bytes R r facts p (zRn n V p 0 op 0) op (fun _ => True) (zFx op) (fX11_unit T N (nI r) (nI p) (-1) (nI n) (nI op) now text) := by
  have hn := h.1
  obtain ⟨q, a1, a2, a3, a4, a5⟩ := g_look hN h hp
  have eL : zRn n V p 0 op 0 = zRn n V q 0 op 0 := zRn_look (by omega) (by omega) a1 a2 a3
  unfold fX11_unit
  rw [a5, Option.bind_some]
  dsimp only
  by_cases k40 : zCh n V q = nI 40
  · obtain ⟨hqn, hVq⟩ := (zCh_eq h a2 (by omega)).mp k40
    rw [if_pos k40]
    by_cases h8 : op = 8
    · rw [if_pos (zeq_k h8), g_wrong, Option.bind_some]
      refine Or.inl ⟨_, _, q, _, rfl, a2, eL.trans (zRn_none hqn ?_)⟩
      unfold zA
      rw [if_neg (a4 hqn)]
      show (if V q = 40 then (if 8 < op + 1 then none else some (0, op + 1, 0)) else _) = none
      rw [if_pos hVq, if_pos (by omega)]
    · rw [if_neg (by rw [zl_eq (by omega) (by omega)]; exact h8), nI_add, nI_add]
      have e2 : zRn n V q 0 op 0 = zRn n V (q + 1) 0 (op + 1) 0 := zRn_some hqn (by
        unfold zA
        rw [if_neg (a4 hqn)]
        show (if V q = 40 then (if 8 < op + 1 then none else some (0, op + 1, 0)) else _) = _
        rw [if_pos hVq, if_neg (by omega)])
      rcases hT (by omega) (q + 1) (by omega) with ⟨b, a, f, o, c1, c2, c3⟩ | ⟨b, e, c1, c2, c3, c4, c5, c6⟩
      · rw [c1, Option.bind_some]
        dsimp only
        unfold fX11_sign
        rw [g_unfine (by omega), Option.bind_some, if_pos zl_f0, Option.bind_some]
        exact Or.inl ⟨_, _, f, _, rfl, c2, eL.trans (e2.trans c3)⟩
      · obtain ⟨e2', b1, b2, b3, b4, b5⟩ := g_look hN h c3
        have hee : e2' = e := by
          rcases Nat.lt_or_ge e e2' with g | g
          · exact absurd (b3 e (Nat.le_refl e) g) ((c5 (by omega)).1)
          · omega
        subst hee
        rw [c1, Option.bind_some]
        dsimp only
        unfold fX11_sign
        rw [g_fine, Option.bind_some, if_neg zl_t0, b5, Option.bind_some]
        dsimp only
        by_cases k41 : zCh n V e2' = nI 41
        · obtain ⟨hen, hVe⟩ := (zCh_eq h b2 (by omega)).mp k41
          rw [if_pos k41, Option.bind_some, nI_add, pk_sub (by omega), show op + 1 - 1 = op by omega]
          refine Or.inr ⟨b, e2' + 1, rfl, by omega, by omega, eL.trans (e2.trans (c4.trans (zRn_some hen ?_))), trivial, zSg.paren h (by omega) a1 hqn a3 hVq c2 hen hVe c6⟩
          unfold zA
          rw [if_neg (b4 hen)]
          show zJo (op + 1) (V e2') = _
          unfold zJo
          rw [if_neg (by omega), if_pos hVe, if_neg (by omega), show op + 1 - 1 = op by omega]
        · rw [if_neg k41, g_wrong, Option.bind_some, Option.bind_some]
          refine Or.inl ⟨_, _, e2', _, rfl, b2, eL.trans (e2.trans (c4.trans ?_))⟩
          rcases Nat.lt_or_ge e2' n with g | g
          · refine zRn_none g ?_
            have hne : ¬ V e2' = 41 := fun z => k41 ((zCh_eq h b2 (by omega)).mpr ⟨g, z⟩)
            obtain ⟨w1, w2, w3⟩ := c5 g
            unfold zA
            rw [if_neg w1]
            show zJo (op + 1) (V e2') = none
            unfold zJo
            rw [if_neg w2, if_neg hne]
            by_cases w4 : V e2' = 59
            · rw [if_pos w4, if_neg (by omega)]
            · rw [if_neg w4, if_neg w3]
          · obtain rfl : e2' = n := by omega
            rw [zRn_end, if_neg (by omega)]
  · rw [if_neg k40]
    have word : ∀ (v w : Nat), (v = 107 ∨ v = 112 ∨ v = 115 ∨ v = 116 ∨ v = 121) → w < 6 → fX5_factNamed (nI v) = some (nI w) → zCh n V q = nI v → zOutS n V bytes R r facts p (zRn n V p 0 op 0) op (fun _ => True) (zFx op) (fX11_unit_J120 N (nI n) (-1) (nI op) (nI r) now text (nI q) (nI w)) := by
      intro v w hv hw hf ev
      obtain ⟨hqn, hVq⟩ := (zCh_eq h a2 (by omega)).mp ev
      exact s_word hN h hR hr hop hw hfa a1 a3 hqn (by omega) (by rw [hVq]; exact hf)
    by_cases k1 : zCh n V q = nI 115
    · rw [if_pos k1]; exact word 115 3 (by omega) (by omega) (by decide) k1
    rw [if_neg k1]
    by_cases k2 : zCh n V q = nI 121
    · rw [if_pos k2]; exact word 121 2 (by omega) (by omega) (by decide) k2
    rw [if_neg k2]
    by_cases k3 : zCh n V q = nI 116
    · rw [if_pos k3]; exact word 116 4 (by omega) (by omega) (by decide) k3
    rw [if_neg k3]
    by_cases k4 : zCh n V q = nI 112
    · rw [if_pos k4]; exact word 112 5 (by omega) (by omega) (by decide) k4
    rw [if_neg k4]
    by_cases k5 : zCh n V q = nI 107
    · rw [if_pos k5]; exact word 107 0 (by omega) (by omega) (by decide) k5
    rw [if_neg k5]
    unfold fX11_unit_J120
    rw [if_pos rfl, g_wrong, Option.bind_some]
    refine Or.inl ⟨_, _, q, _, rfl, a2, eL.trans ?_⟩
    rcases Nat.lt_or_ge q n with g | g
    · refine zRn_none g ?_
      unfold zA
      rw [if_neg (a4 g)]
      show (if V q = 40 then (if 8 < op + 1 then none else some (0, op + 1, 0)) else if V q = 107 ∨ V q = 112 ∨ V q = 115 ∨ V q = 116 ∨ V q = 121 then some (1, op, 0) else none) = none
      rw [if_neg (fun z => k40 ((zCh_eq h a2 (by omega)).mpr ⟨g, z⟩))]
      refine if_neg (fun z => ?_)
      rcases z with z | z | z | z | z
      · exact k5 ((zCh_eq h a2 (by omega)).mpr ⟨g, z⟩)
      · exact k4 ((zCh_eq h a2 (by omega)).mpr ⟨g, z⟩)
      · exact k1 ((zCh_eq h a2 (by omega)).mpr ⟨g, z⟩)
      · exact k3 ((zCh_eq h a2 (by omega)).mpr ⟨g, z⟩)
      · exact k2 ((zCh_eq h a2 (by omega)).mpr ⟨g, z⟩)
    · obtain rfl : q = n := by omega
      rw [zRn_end, if_neg (by omega)]
theorem s_pL5 {N n op R r : Nat} {V : Nat → Nat} {bytes text now facts : Nat → Int32} {T : Int32 → Int32 → Int32 → Int32 → Int32 → (Nat → Int32) → (Nat → Int32) → Option (Bool × Int32 × Int32 × Int32)} (hN : 10000 ≤ N) (h : zVb n V bytes text) (hR : R ≤ 60) (hr : r < R) (hfa : ∀ k, k < 6 → fX11_of now (nI r) (nI k) = some (facts (6 * r + k))) (hop : op ≤ 8)
    (hT : op < 8 → ∀ p, p ≤ n → zOutS n V bytes R r facts p (zRn n V p 0 (op + 1) 0) (op + 1) (zQt n V) (zFt (op + 1)) (T (nI r) (nI p) (-1) (nI n) (nI (op + 1)) now text)) : ∀ (k p e m : Nat) (b : Bool), e + k = n → k + 2 ≤ m → p ≤ e → zSg n V bytes R r facts (zFx op b) op p e → zOutS n V bytes R r facts p (zRn n V e 4 op 0) op (zQp n V) (zFx op) (fX11_part_L5 N T (nI n) (nI r) now text (fun (v1_5 : Bool) (t_at_l5 : Int32) (t_fault_l5 : Int32) (t_open_l5 : Int32) => some (v1_5, t_at_l5, t_fault_l5, t_open_l5)) m b (nI e) (-1) (nI op)) := by
  intro k
  have hn := h.1
  induction k using Nat.strongRecOn with
  | _ k ih =>
    intro p e m b h1 h2 hpe hS
    have bad : ∀ (m f : Nat) (b : Bool) (a o : Int32), 1 ≤ m → f ≤ n → fX11_part_L5 N T (nI n) (nI r) now text (fun (v1_5 : Bool) (t_at_l5 : Int32) (t_fault_l5 : Int32) (t_open_l5 : Int32) => some (v1_5, t_at_l5, t_fault_l5, t_open_l5)) m b a (nI f) o = some (b, a, nI f, o) := by
      intro m f b a o hm hf
      cases m with
      | zero => omega
      | succ m => rw [fX11_part_L5, g_unfine (by omega), Option.bind_some, if_pos zl_f0]
    cases m with
    | zero => omega
    | succ m =>
      obtain ⟨q, a1, a2, a3, a4, a5⟩ := g_look hN h (show e ≤ n by omega)
      have eL : zRn n V e 4 op 0 = zRn n V q 4 op 0 := zRn_look (by omega) (by omega) a1 a2 a3
      rw [fX11_part_L5, g_fine, Option.bind_some, if_neg zl_t0, a5, Option.bind_some]
      dsimp only
      by_cases kc : zCh n V q = nI 38
      · obtain ⟨hqn, hVq⟩ := (zCh_eq h a2 (by omega)).mp kc
        have e2 : zRn n V q 4 op 0 = zRn n V (q + 1) 0 op 0 := zRn_some hqn (by
          unfold zA
          rw [if_neg (a4 hqn)]
          show zJo op (V q) = _
          unfold zJo
          rw [if_pos hVq])
        rw [if_pos kc, nI_add]
        rcases s_unit hN h hR hr hfa hop hT (show q + 1 ≤ n by omega) with ⟨b', a, f, o, c1, c2, c3⟩ | ⟨b', e', c1, c2, c3, c4, c5, c6⟩
        · rw [c1, Option.bind_some]
          dsimp only
          rw [bad m f false a o (by omega) c2, bad m f true a o (by omega) c2]
          have st : zRn n V e 4 op 0 = some f := eL.trans (e2.trans c3)
          by_cases z1 : zb b = 0
          · rw [if_pos z1]; exact Or.inl ⟨_, _, f, _, rfl, c2, st⟩
          · rw [if_neg z1]
            by_cases z2 : zb b' = 0
            · rw [if_pos z2]; exact Or.inl ⟨_, _, f, _, rfl, c2, st⟩
            · rw [if_neg z2]; exact Or.inl ⟨_, _, f, _, rfl, c2, st⟩
        · rw [c1, Option.bind_some]
          dsimp only
          have hS2 : zSg n V bytes R r facts (zFx op (b && b')) op p e' := hS.and h hpe a1 hqn a3 hVq c2 c6
          have rec_ : zOutS n V bytes R r facts p (zRn n V e 4 op 0) op (zQp n V) (zFx op) (fX11_part_L5 N T (nI n) (nI r) now text (fun (v1_5 : Bool) (t_at_l5 : Int32) (t_fault_l5 : Int32) (t_open_l5 : Int32) => some (v1_5, t_at_l5, t_fault_l5, t_open_l5)) m (b && b') (nI e') (-1) (nI op)) := by
            rcases ih (n - e') (by omega) p e' m (b && b') (by omega) (by omega) (by omega) hS2 with ⟨b2, x2, f2, o2, d1, d2, d3⟩ | ⟨b2, y2, d1, d2, d3, d4, d5, d6⟩
            · exact Or.inl ⟨b2, x2, f2, o2, d1, d2, eL.trans (e2.trans (c4.trans d3))⟩
            · exact Or.inr ⟨b2, y2, d1, d2, d3, eL.trans (e2.trans (c4.trans d4)), d5, d6⟩
          cases b with
          | false => rw [if_pos zl_f0]; exact rec_
          | true =>
            rw [if_neg zl_t0]
            cases b' with
            | false => rw [if_pos zl_f0]; exact rec_
            | true => rw [if_neg zl_t0]; exact rec_
      · rw [if_neg kc]
        exact Or.inr ⟨_, q, rfl, by omega, a2, eL, fun g => ⟨a4 g, fun z => kc ((zCh_eq h a2 (by omega)).mpr ⟨g, z⟩)⟩, hS.look h hpe a1 a2 a3⟩
theorem s_part {N n op R r : Nat} {V : Nat → Nat} {bytes text now facts : Nat → Int32} {T : Int32 → Int32 → Int32 → Int32 → Int32 → (Nat → Int32) → (Nat → Int32) → Option (Bool × Int32 × Int32 × Int32)} (hN : 10000 ≤ N) (h : zVb n V bytes text) (hR : R ≤ 60) (hr : r < R) (hfa : ∀ k, k < 6 → fX11_of now (nI r) (nI k) = some (facts (6 * r + k))) (hop : op ≤ 8)
    (hT : op < 8 → ∀ p, p ≤ n → zOutS n V bytes R r facts p (zRn n V p 0 (op + 1) 0) (op + 1) (zQt n V) (zFt (op + 1)) (T (nI r) (nI p) (-1) (nI n) (nI (op + 1)) now text)) {p : Nat} (hp : p ≤ n) : zOutS n V bytes R r facts p (zRn n V p 0 op 0) op (zQp n V) (zFx op) (fX11_part T N (nI r) (nI p) (-1) (nI n) (nI op) now text) := by
  have hn := h.1
  unfold fX11_part
  rcases s_unit hN h hR hr hfa hop hT hp with ⟨b, a, f, o, c1, c2, c3⟩ | ⟨b, e, c1, c2, c3, c4, _, c6⟩
  · rw [c1, Option.bind_some]
    dsimp only
    cases N with
    | zero => omega
    | succ N =>
      rw [fX11_part_L5, g_unfine (by omega), Option.bind_some, if_pos zl_f0]
      exact Or.inl ⟨_, _, f, _, rfl, c2, c3⟩
  · rw [c1, Option.bind_some]
    dsimp only
    rcases s_pL5 hN h hR hr hfa hop hT (n - e) p e N b (by omega) (by omega) c2 c6 with ⟨b2, x2, f2, o2, d1, d2, d3⟩ | ⟨b2, y2, d1, d2, d3, d4, d5, d6⟩
    · exact Or.inl ⟨b2, x2, f2, o2, d1, d2, c4.trans d3⟩
    · exact Or.inr ⟨b2, y2, d1, d2, d3, c4.trans d4, d5, d6⟩
theorem s_tL5 {N n op R r : Nat} {V : Nat → Nat} {bytes text now facts : Nat → Int32} {T : Int32 → Int32 → Int32 → Int32 → Int32 → (Nat → Int32) → (Nat → Int32) → Option (Bool × Int32 × Int32 × Int32)} (hN : 10000 ≤ N) (h : zVb n V bytes text) (hR : R ≤ 60) (hr : r < R) (hfa : ∀ k, k < 6 → fX11_of now (nI r) (nI k) = some (facts (6 * r + k))) (hop : op ≤ 8)
    (hT : op < 8 → ∀ p, p ≤ n → zOutS n V bytes R r facts p (zRn n V p 0 (op + 1) 0) (op + 1) (zQt n V) (zFt (op + 1)) (T (nI r) (nI p) (-1) (nI n) (nI (op + 1)) now text)) : ∀ (k p e m : Nat) (b : Bool), e + k = n → k + 2 ≤ m → p ≤ e → zQp n V e → zSg n V bytes R r facts (zFt op b) op p e → zOutS n V bytes R r facts p (zRn n V e 4 op 0) op (zQt n V) (zFt op) (fX11_tests_L5 N T (nI n) (nI r) now text (fun (v1_5 : Bool) (t_at_l5 : Int32) (t_fault_l5 : Int32) (t_open_l5 : Int32) => some (v1_5, t_at_l5, t_fault_l5, t_open_l5)) m b (nI e) (-1) (nI op)) := by
  intro k
  have hn := h.1
  induction k using Nat.strongRecOn with
  | _ k ih =>
    intro p e m b h1 h2 hpe hQ hS
    have bad : ∀ (m f : Nat) (b : Bool) (a o : Int32), 1 ≤ m → f ≤ n → fX11_tests_L5 N T (nI n) (nI r) now text (fun (v1_5 : Bool) (t_at_l5 : Int32) (t_fault_l5 : Int32) (t_open_l5 : Int32) => some (v1_5, t_at_l5, t_fault_l5, t_open_l5)) m b a (nI f) o = some (b, a, nI f, o) := by
      intro m f b a o hm hf
      cases m with
      | zero => omega
      | succ m => rw [fX11_tests_L5, g_unfine (by omega), Option.bind_some, if_pos zl_f0]
    cases m with
    | zero => omega
    | succ m =>
      obtain ⟨q, a1, a2, a3, a4, a5⟩ := g_look hN h (show e ≤ n by omega)
      have hqe : q = e := by
        rcases Nat.lt_or_ge e q with g | g
        · exact absurd (a3 e (Nat.le_refl e) g) ((hQ (by omega)).1)
        · omega
      subst hqe
      rw [fX11_tests_L5, g_fine, Option.bind_some, if_neg zl_t0, a5, Option.bind_some]
      dsimp only
      by_cases kc : zCh n V q = nI 124
      · obtain ⟨hqn, hVq⟩ := (zCh_eq h a2 (by omega)).mp kc
        have e2 : zRn n V q 4 op 0 = zRn n V (q + 1) 0 op 0 := zRn_some hqn (by
          unfold zA
          rw [if_neg (a4 hqn)]
          show zJo op (V q) = _
          unfold zJo
          rw [if_neg (by omega), if_neg (by omega), if_neg (by omega), if_pos hVq])
        rw [if_pos kc, nI_add]
        rcases s_part hN h hR hr hfa hop hT (show q + 1 ≤ n by omega) with ⟨b', a, f, o, c1, c2, c3⟩ | ⟨b', e', c1, c2, c3, c4, c5, c6⟩
        · rw [c1, Option.bind_some]
          dsimp only
          rw [bad m f false a o (by omega) c2, bad m f true a o (by omega) c2]
          have st : zRn n V q 4 op 0 = some f := e2.trans c3
          by_cases z1 : zb b = 0
          · rw [if_pos z1]
            by_cases z2 : zb b' = 0
            · rw [if_pos z2]; exact Or.inl ⟨_, _, f, _, rfl, c2, st⟩
            · rw [if_neg z2]; exact Or.inl ⟨_, _, f, _, rfl, c2, st⟩
          · rw [if_neg z1]; exact Or.inl ⟨_, _, f, _, rfl, c2, st⟩
        · rw [c1, Option.bind_some]
          dsimp only
          have hS2 : zSg n V bytes R r facts (zFt op (b || b')) op p e' := hS.or h hop hpe (Nat.le_refl q) hqn (fun i x y => by omega) hVq c2 c6
          have rec_ : zOutS n V bytes R r facts p (zRn n V q 4 op 0) op (zQt n V) (zFt op) (fX11_tests_L5 N T (nI n) (nI r) now text (fun (v1_5 : Bool) (t_at_l5 : Int32) (t_fault_l5 : Int32) (t_open_l5 : Int32) => some (v1_5, t_at_l5, t_fault_l5, t_open_l5)) m (b || b') (nI e') (-1) (nI op)) := by
            rcases ih (n - e') (by omega) p e' m (b || b') (by omega) (by omega) (by omega) c5 hS2 with ⟨b2, x2, f2, o2, d1, d2, d3⟩ | ⟨b2, y2, d1, d2, d3, d4, d5, d6⟩
            · exact Or.inl ⟨b2, x2, f2, o2, d1, d2, e2.trans (c4.trans d3)⟩
            · exact Or.inr ⟨b2, y2, d1, d2, d3, e2.trans (c4.trans d4), d5, d6⟩
          cases b with
          | false =>
            rw [if_pos zl_f0]
            cases b' with
            | false => rw [if_pos zl_f0]; exact rec_
            | true => rw [if_neg zl_t0]; exact rec_
          | true => rw [if_neg zl_t0]; exact rec_
      · rw [if_neg kc]
        exact Or.inr ⟨_, q, rfl, hpe, a2, rfl, fun g => ⟨a4 g, (hQ g).2, fun z => kc ((zCh_eq h a2 (by omega)).mpr ⟨g, z⟩)⟩, hS⟩
theorem s_testsD {N n R r : Nat} {V : Nat → Nat} {bytes text now facts : Nat → Int32} (hN : 10000 ≤ N) (h : zVb n V bytes text) (hR : R ≤ 60) (hr : r < R) (hfa : ∀ k, k < 6 → fX11_of now (nI r) (nI k) = some (facts (6 * r + k))) : ∀ (d op p : Nat), 9 ≤ op + d → op ≤ 8 → p ≤ n → zOutS n V bytes R r facts p (zRn n V p 0 op 0) op (zQt n V) (zFt op) (fX11_testsD N d (nI r) (nI p) (-1) (nI n) (nI op) now text) := by
  intro d
  have hn := h.1
  induction d with
  | zero => intro op p h1 h2 h3; omega
  | succ d ih =>
    intro op p h1 h2 h3
    have hT : op < 8 → ∀ p, p ≤ n → zOutS n V bytes R r facts p (zRn n V p 0 (op + 1) 0) (op + 1) (zQt n V) (zFt (op + 1)) (fX11_testsD N d (nI r) (nI p) (-1) (nI n) (nI (op + 1)) now text) := fun g p hp => ih (op + 1) p (by omega) (by omega) hp
    rw [fX11_testsD]
    unfold fX11_tests_
    rcases s_part hN h hR hr hfa h2 hT h3 with ⟨b, a, f, o, c1, c2, c3⟩ | ⟨b, e, c1, c2, c3, c4, c5, c6⟩
    · rw [c1, Option.bind_some]
      dsimp only
      cases N with
      | zero => omega
      | succ N =>
        rw [fX11_tests_L5, g_unfine (by omega), Option.bind_some, if_pos zl_f0]
        exact Or.inl ⟨_, _, f, _, rfl, c2, c3⟩
    · rw [c1, Option.bind_some]
      dsimp only
      rcases s_tL5 hN h hR hr hfa h2 hT (n - e) p e N b (by omega) (by omega) c2 c5 (c6.mono (fun _ _ _ _ => zFx_ft)) with ⟨b2, x2, f2, o2, d1, d2, d3⟩ | ⟨b2, y2, d1, d2, d3, d4, d5, d6⟩
      · exact Or.inl ⟨b2, x2, f2, o2, d1, d2, c4.trans d3⟩
      · exact Or.inr ⟨b2, y2, d1, d2, d3, c4.trans d4, d5, d6⟩
