/-! lists: the class's reading, byte by byte -/
def zMv (n : Nat) (bytes : Nat → Int32) (p st op l : Nat) (di od pr : Int32) (nu pa si : Nat → Int32) (p' st' op' l' : Nat) (di' od' pr' : Int32) (nu' pa' si' : Nat → Int32) : Prop :=
  ∀ (K : Int32 → Int32 → Int32 → Int32 → Int32 → Int32 → Int32 → (Nat → Int32) → (Nat → Int32) → (Nat → Int32) → Option (Int32 × Int32 × Int32 × Int32 × Int32 × Int32 × Int32 × (Nat → Int32) × (Nat → Int32) × (Nat → Int32))) (m : Nat), fX5_read_L32 (nI n) bytes K (m + (p' - p)) (nI p) (nI l) (nI st) (nI op) di od pr nu pa si = fX5_read_L32 (nI n) bytes K m (nI p') (nI l') (nI st') (nI op') di' od' pr' nu' pa' si'
theorem zMv.refl {n : Nat} {bytes : Nat → Int32} {p st op l : Nat} {di od pr : Int32} {nu pa si : Nat → Int32} : zMv n bytes p st op l di od pr nu pa si p st op l di od pr nu pa si := by
  intro K m
  rw [Nat.sub_self]; rfl
theorem zMv.trans {n : Nat} {bytes : Nat → Int32} {p st op l p1 st1 op1 l1 p2 st2 op2 l2 : Nat} {di od pr di1 od1 pr1 di2 od2 pr2 : Int32} {nu pa si nu1 pa1 si1 nu2 pa2 si2 : Nat → Int32} (h1 : p ≤ p1) (h2 : p1 ≤ p2) (a : zMv n bytes p st op l di od pr nu pa si p1 st1 op1 l1 di1 od1 pr1 nu1 pa1 si1) (b : zMv n bytes p1 st1 op1 l1 di1 od1 pr1 nu1 pa1 si1 p2 st2 op2 l2 di2 od2 pr2 nu2 pa2 si2) : zMv n bytes p st op l di od pr nu pa si p2 st2 op2 l2 di2 od2 pr2 nu2 pa2 si2 := by
  intro K m
  have e1 := a K (m + (p2 - p1))
  rw [show m + (p2 - p1) + (p1 - p) = m + (p2 - p) by omega] at e1
  rw [e1, b K m]
theorem m_step {n p st op l st' op' l' : Nat} {V : Nat → Nat} {bytes text : Nat → Int32} {di od pr di' od' pr' : Int32} {nu pa si nu' pa' si' : Nat → Int32} (h : zVb n V bytes text) (hp : p < n) (e : fX5_take di (nI l) (nI op) od pr (nI st) nu pa si (nI (V p)) = some (true, di', nI l', nI op', od', pr', nI st', nu', pa', si')) : zMv n bytes p st op l di od pr nu pa si (p + 1) st' op' l' di' od' pr' nu' pa' si' := by
  intro K m
  have hn := h.1
  rw [show m + (p + 1 - p) = m + 1 by omega, fX5_read_L32]
  unfold fX7_size
  rw [Option.bind_some, if_neg (show ¬ nI n ≤ nI p by rw [zl_le (by omega) (by omega)]; omega), c_byteAt h hp, Option.bind_some, e, Option.bind_some]
  dsimp only
  rw [if_neg zl_t0, nI_add]
theorem t_blank {st op l : Nat} {di od pr : Int32} {nu pa si : Nat → Int32} (hs : st ≤ 9) (h3 : ¬ st = 3) (h8 : ¬ st = 8) : fX5_take di (nI l) (nI op) od pr (nI st) nu pa si (nI 32) = some (true, di, nI l, nI op, od, pr, nI st, nu, pa, si) := by
  unfold fX5_take fX5_endNumber
  rw [if_pos (show nI 32 = nI 32 from rfl), if_neg (show ¬ nI st = nI 3 by rw [zl_eq (by omega) (by omega)]; exact h3), if_neg (show ¬ nI st = nI 8 by rw [zl_eq (by omega) (by omega)]; exact h8), Option.bind_some]
theorem t_blank3 {op l : Nat} {di od pr : Int32} {nu pa si : Nat → Int32} : fX5_take di (nI l) (nI op) od pr (nI 3) nu pa si (nI 32) = some (true, di, nI l, nI op, od, pr, nI 4, nu, pa, si) := by
  unfold fX5_take fX5_endNumber
  rw [if_pos (show nI 32 = nI 32 from rfl), if_pos (show nI 3 = nI 3 from rfl), Option.bind_some]
theorem tk_lay {l : Nat} {x : Int32} {nu pa si : Nat → Int32} (hl : l < 200) : fX5_lay (nI l) nu pa si x = some (nI (l + 1), upd nu l (nI 0), upd pa l x, upd si l (-1)) := by
  have z : zin (nI l) 200 := zin_k hl (by omega)
  unfold fX5_lay
  rw [zw_n (by omega) (by omega) (by omega), Option.bind_some, decide_eq_true (show 0 ≤ l ∧ l ≤ 199 by omega), if_neg zl_t0, if_pos z, if_pos z, if_pos z, zl_c (by omega), nI_add]
theorem t_open {op l : Nat} {di od pr : Int32} {nu pa si : Nat → Int32} (hl : l < 200) (ho : op < 8) : fX5_take di (nI l) (nI op) od pr (nI 0) nu pa si (nI 40) = some (true, di, nI (l + 1), nI (op + 1), od, pr, nI 0, upd nu l (nI 0), upd pa l (nI 40), upd si l (-1)) := by
  unfold fX5_take fX5_takeUnit
  rw [if_neg (show ¬ nI 40 = nI 32 by decide), if_pos (show nI 0 = nI 0 from rfl), if_pos (show nI 40 = nI 40 from rfl), tk_lay hl, Option.bind_some]
  dsimp only
  rw [nI_add, if_neg (show ¬ nI 8 < nI (op + 1) by rw [zl_lt (by omega) (by omega)]; omega), Option.bind_some]
theorem t_word {op l v w : Nat} {di od pr : Int32} {nu pa si : Nat → Int32} (hl : l < 200) (hv : v ≤ 255) (h32 : ¬ v = 32) (h40 : ¬ v = 40) (hw : w < 6) (hf : fX5_factNamed (nI v) = some (nI w)) : fX5_take di (nI l) (nI op) od pr (nI 0) nu pa si (nI v) = some (true, di, nI (l + 1), nI op, od, pr, nI 1, upd nu l (nI 0), upd pa l (nI v), upd si l (-1)) := by
  unfold fX5_take fX5_takeUnit
  rw [if_neg (zne_k hv (by omega) h32), if_pos (show nI 0 = nI 0 from rfl), if_neg (zne_k hv (by omega) h40), tk_lay hl, Option.bind_some]
  dsimp only
  rw [hf, Option.bind_some, if_neg (nm1 (show w < 2147483648 by omega)), Option.bind_some]
theorem t_sign {op l v : Nat} {di od pr : Int32} {nu pa si : Nat → Int32} (hl0 : 1 ≤ l) (hl : l ≤ 200) (hv : v = 61 ∨ v = 60 ∨ v = 62) : fX5_take di (nI l) (nI op) od pr (nI 1) nu pa si (nI v) = some (true, nI 0, nI l, nI op, od, pr, nI 2, nu, pa, upd si (l - 1) (nI v)) := by
  have z : zin (nI (l - 1)) 200 := zin_k (by omega) (by omega)
  unfold fX5_take fX5_takeSign
  rw [if_neg (show ¬ nI v = nI 32 by rw [zl_eq (by omega) (by omega)]; omega), if_neg (show ¬ nI 1 = nI 0 by decide), if_pos (show nI 1 = nI 1 from rfl), zw_n (by omega) (by omega) (by omega), Option.bind_some, decide_eq_true (show 1 ≤ l ∧ l ≤ 200 by omega), if_neg zl_t0, pk_sub hl0, if_pos z, zl_c (by omega)]
  rcases hv with rfl | rfl | rfl
  · rw [if_pos (show nI 61 = nI 61 from rfl), Option.bind_some]
  · rw [if_neg (show ¬ nI 60 = nI 61 by decide), if_pos (show nI 60 = nI 60 from rfl), Option.bind_some]
  · rw [if_neg (show ¬ nI 62 = nI 61 by decide), if_neg (show ¬ nI 62 = nI 60 by decide), if_pos (show nI 62 = nI 62 from rfl), Option.bind_some]
theorem t_dig0 {l v dg : Nat} {stage : Int32} {nu : Nat → Int32} (hl0 : 1 ≤ l) (hl : l ≤ 200) (hv : 48 ≤ v ∧ v ≤ 57) (hd : dg + 1 ≤ 5) : fX5_takeDigit (nI dg) (nI l) stage nu (nI v) = some (true, nI (dg + 1), nI 3, upd nu (l - 1) (nu (l - 1) * nI 10 + nI v - nI 48)) := by
  have z : zin (nI (l - 1)) 200 := zin_k (by omega) (by omega)
  unfold fX5_takeDigit
  rw [c_digit5 (by omega), Option.bind_some, decide_eq_true hv, if_neg zl_t0, nI_add, if_pos (show nI (dg + 1) ≤ nI 5 by rw [zl_le (by omega) (by omega)]; exact hd), zw_n (by omega) (by omega) (by omega), Option.bind_some, decide_eq_true (show 1 ≤ l ∧ l ≤ 200 by omega), if_neg zl_t0, pk_sub hl0, if_pos z, if_pos z, zl_c (by omega)]
theorem t_dig2 {op l v dg : Nat} {od pr : Int32} {nu pa si : Nat → Int32} (hl0 : 1 ≤ l) (hl : l ≤ 200) (hv : 48 ≤ v ∧ v ≤ 57) (hd : dg + 1 ≤ 5) : fX5_take (nI dg) (nI l) (nI op) od pr (nI 2) nu pa si (nI v) = some (true, nI (dg + 1), nI l, nI op, od, pr, nI 3, upd nu (l - 1) (nu (l - 1) * nI 10 + nI v - nI 48), pa, si) := by
  unfold fX5_take
  rw [if_neg (zne_k (by omega) (by omega) (show ¬ v = 32 by omega)), if_neg (show ¬ nI 2 = nI 0 by decide), if_neg (show ¬ nI 2 = nI 1 by decide), if_pos (show nI 2 = nI 2 from rfl), t_dig0 hl0 hl hv hd, Option.bind_some]
theorem t_dig3 {op l v dg : Nat} {od pr : Int32} {nu pa si : Nat → Int32} (hl0 : 1 ≤ l) (hl : l ≤ 200) (hv : 48 ≤ v ∧ v ≤ 57) (hd : dg + 1 ≤ 5) : fX5_take (nI dg) (nI l) (nI op) od pr (nI 3) nu pa si (nI v) = some (true, nI (dg + 1), nI l, nI op, od, pr, nI 3, upd nu (l - 1) (nu (l - 1) * nI 10 + nI v - nI 48), pa, si) := by
  unfold fX5_take
  rw [if_neg (zne_k (by omega) (by omega) (show ¬ v = 32 by omega)), if_neg (show ¬ nI 3 = nI 0 by decide), if_neg (show ¬ nI 3 = nI 1 by decide), if_neg (show ¬ nI 3 = nI 2 by decide), if_pos (show nI 3 = nI 3 from rfl), c_digit5 (by omega), Option.bind_some, decide_eq_true hv, if_neg zl_t0, t_dig0 hl0 hl hv hd, Option.bind_some]
/-- stage 3 (a number may go on) and stage 4 take what joins alike, where no digit comes -/
theorem t_joint {st op l v : Nat} {di od pr : Int32} {nu pa si : Nat → Int32} (hs : st = 3 ∨ st = 4) (hv : v ≤ 255) (h32 : ¬ v = 32) (hd : ¬ (48 ≤ v ∧ v ≤ 57)) : fX5_take di (nI l) (nI op) od pr (nI st) nu pa si (nI v) = (fX5_takeJoint (nI l) (nI op) (nI st) nu pa si (nI v)).bind (fun (b27, t_laid_r28, t_open_r29, t_stage_r30, t_numbers_r31, t_parts_r32, t_signs_r33) => some (b27, di, t_laid_r28, t_open_r29, od, pr, t_stage_r30, t_numbers_r31, t_parts_r32, t_signs_r33)) := by
  unfold fX5_take
  rcases hs with rfl | rfl
  · rw [if_neg (zne_k hv (by omega) h32), if_neg (show ¬ nI 3 = nI 0 by decide), if_neg (show ¬ nI 3 = nI 1 by decide), if_neg (show ¬ nI 3 = nI 2 by decide), if_pos (show nI 3 = nI 3 from rfl), c_digit5 hv, Option.bind_some, decide_eq_false hd, if_pos zl_f0]
  · rw [if_neg (zne_k hv (by omega) h32), if_neg (show ¬ nI 4 = nI 0 by decide), if_neg (show ¬ nI 4 = nI 1 by decide), if_neg (show ¬ nI 4 = nI 2 by decide), if_neg (show ¬ nI 4 = nI 3 by decide), if_pos (show nI 4 = nI 4 from rfl)]
theorem t_and {st op l : Nat} {di od pr : Int32} {nu pa si : Nat → Int32} (hs : st = 3 ∨ st = 4) : fX5_take di (nI l) (nI op) od pr (nI st) nu pa si (nI 38) = some (true, di, nI l, nI op, od, pr, nI 0, nu, pa, si) := by
  rw [t_joint hs (by omega) (by omega) (by omega)]
  unfold fX5_takeJoint
  rw [if_pos (show nI 38 = nI 38 from rfl), Option.bind_some]
theorem t_close {st op l : Nat} {di od pr : Int32} {nu pa si : Nat → Int32} (hs : st = 3 ∨ st = 4) (hl : l < 200) (ho : op ≤ 8) : fX5_take di (nI l) (nI (op + 1)) od pr (nI st) nu pa si (nI 41) = some (true, di, nI (l + 1), nI op, od, pr, nI 4, upd nu l (nI 0), upd pa l (nI 41), upd si l (-1)) := by
  rw [t_joint hs (by omega) (by omega) (by omega)]
  unfold fX5_takeJoint
  rw [if_neg (show ¬ nI 41 = nI 38 by decide), if_pos (show nI 41 = nI 41 from rfl), tk_lay hl, Option.bind_some]
  dsimp only
  rw [pk_sub (show 1 ≤ op + 1 by omega), show op + 1 - 1 = op by omega, if_neg (nI_pos (by omega)), Option.bind_some]
theorem t_or {st op l : Nat} {di od pr : Int32} {nu pa si : Nat → Int32} (hs : st = 3 ∨ st = 4) (hl : l < 200) : fX5_take di (nI l) (nI op) od pr (nI st) nu pa si (nI 124) = some (true, di, nI (l + 1), nI op, od, pr, nI 0, upd nu l (nI 0), upd pa l (nI 124), upd si l (-1)) := by
  rw [t_joint hs (by omega) (by omega) (by omega)]
  unfold fX5_takeJoint
  rw [if_neg (show ¬ nI 124 = nI 38 by decide), if_neg (show ¬ nI 124 = nI 41 by decide), if_neg (show ¬ nI 124 = nI 59 by decide), if_pos (show nI 124 = nI 124 from rfl), tk_lay hl, Option.bind_some, Option.bind_some]
theorem t_semi {st l : Nat} {di od pr : Int32} {nu pa si : Nat → Int32} (hs : st = 3 ∨ st = 4) : fX5_take di (nI l) (nI 0) od pr (nI st) nu pa si (nI 59) = some (true, di, nI l, nI 0, od, pr, nI 5, nu, pa, si) := by
  rw [t_joint hs (by omega) (by omega) (by omega)]
  unfold fX5_takeJoint
  rw [if_neg (show ¬ nI 59 = nI 38 by decide), if_neg (show ¬ nI 59 = nI 41 by decide), if_pos (show nI 59 = nI 59 from rfl), if_pos p_zero, Option.bind_some]
/-- blanks: a stage 3 becomes 4, what else a unit leaves stays -/
theorem m_blanks {n op l : Nat} {V : Nat → Nat} {bytes text : Nat → Int32} {di od pr : Int32} {nu pa si : Nat → Int32} (h : zVb n V bytes text) {st : Nat} (hs : st ≤ 9) (h3 : ¬ st = 3) (h8 : ¬ st = 8) : ∀ (k p : Nat), p + k ≤ n → (∀ i, p ≤ i → i < p + k → V i = 32) → zMv n bytes p st op l di od pr nu pa si (p + k) st op l di od pr nu pa si
  | 0, _, _, _ => zMv.refl
  | k + 1, p, h1, h2 => by
    have e : zMv n bytes p st op l di od pr nu pa si (p + 1) st op l di od pr nu pa si := m_step h (by omega) (by
      rw [h2 p (Nat.le_refl p) (by omega)]
      exact t_blank hs h3 h8)
    have e2 := m_blanks (op := op) (l := l) (di := di) (od := od) (pr := pr) (nu := nu) (pa := pa) (si := si) h hs h3 h8 k (p + 1) (by omega) (fun i a b => h2 i (by omega) (by omega))
    rw [show p + 1 + k = p + (k + 1) by omega] at e2
    exact e.trans (by omega) (by omega) e2
/-- the stage behind a unit: 4, or 3 where no digit comes -/
def zSb (n : Nat) (V : Nat → Nat) (e st : Nat) : Prop := st = 4 ∨ (st = 3 ∧ (e < n → ¬ (48 ≤ V e ∧ V e ≤ 57)))
theorem m_look {n op l p q st : Nat} {V : Nat → Nat} {bytes text : Nat → Int32} {di od pr : Int32} {nu pa si : Nat → Int32} (h : zVb n V bytes text) (hs : zSb n V p st) (a1 : p ≤ q) (a2 : q ≤ n) (a3 : ∀ i, p ≤ i → i < q → V i = 32) : ∃ st', zSb n V q st' ∧ zMv n bytes p st op l di od pr nu pa si q st' op l di od pr nu pa si := by
  rcases Nat.lt_or_ge p q with g | g
  · rcases hs with rfl | ⟨rfl, _⟩
    · have e := m_blanks (op := op) (l := l) (di := di) (od := od) (pr := pr) (nu := nu) (pa := pa) (si := si) h (show 4 ≤ 9 by omega) (by omega) (by omega) (q - p) p (by omega) (fun i a b => a3 i a (by omega))
      rw [show p + (q - p) = q by omega] at e
      exact ⟨4, Or.inl rfl, e⟩
    · have e1 : zMv n bytes p 3 op l di od pr nu pa si (p + 1) 4 op l di od pr nu pa si := m_step h (by omega) (by
        rw [a3 p (Nat.le_refl p) g]
        exact t_blank3)
      have e := m_blanks (op := op) (l := l) (di := di) (od := od) (pr := pr) (nu := nu) (pa := pa) (si := si) h (show 4 ≤ 9 by omega) (by omega) (by omega) (q - (p + 1)) (p + 1) (by omega) (fun i a b => a3 i (by omega) (by omega))
      rw [show p + 1 + (q - (p + 1)) = q by omega] at e
      exact ⟨4, Or.inl rfl, e1.trans (by omega) (by omega) e⟩
  · obtain rfl : q = p := by omega
    exact ⟨st, hs, zMv.refl⟩
