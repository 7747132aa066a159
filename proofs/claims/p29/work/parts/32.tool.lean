/-! numbers: comparisons, places, sums of written numbers -/
theorem zl_pos {a : Nat} (h : a < 2 ^ 31) : (nI a < 0) = False := eq_false (nI_pos h)
theorem zl_ne1 {a : Nat} (h : a < 2 ^ 31) : (nI a = -1) = False := eq_false (fun q => by
  have h1 := nI_toInt h
  rw [q] at h1
  have h2 : (-1 : Int32).toInt = -1 := rfl
  omega)
theorem zl_lt {a b : Nat} (ha : a < 2 ^ 31) (hb : b < 2 ^ 31) : (nI a < nI b) = (a < b) := propext (nI_ltI ha hb)
theorem zl_le {a b : Nat} (ha : a < 2 ^ 31) (hb : b < 2 ^ 31) : (nI a ≤ nI b) = (a ≤ b) := propext (nI_leI ha hb)
theorem zl_eq {a b : Nat} (ha : a < 2 ^ 31) (hb : b < 2 ^ 31) : (nI a = nI b) = (a = b) := propext (nI_eq ha hb)
theorem zl_in {a N : Nat} (ha : a < 2 ^ 31) : (zin (nI a) N) = (a < N) := propext ⟨fun h => Nat.lt_of_not_le (fun q => h (Or.inr (by rw [nI_clamp ha]; exact q))), fun h => by
  rintro (q | q)
  · exact nI_pos ha q
  · rw [nI_clamp ha] at q; omega⟩
theorem zl_c {a : Nat} (h : a < 2 ^ 31) : (nI a).toNatClampNeg = a := nI_clamp h
theorem zl_m1 : ((-1 : Int32) < 0) = True := eq_true (by decide)
theorem zl_t : (zb true = 0) = False := eq_false (by decide)
theorem zl_f : (zb false = 0) = True := eq_true (by decide)
theorem zl_f0 : zb false = 0 := rfl
theorem zl_t0 : ¬ (zb true = 0) := of_eq_false zl_t
theorem zl_d {P : Prop} [Decidable P] : (zb (decide P) = 0) = ¬ P := by
  by_cases h : P
  · rw [decide_eq_true h]; exact propext ⟨fun q => absurd q zl_t0, fun q => absurd h q⟩
  · rw [decide_eq_false h]; exact propext ⟨fun _ => h, fun _ => zl_f0⟩
theorem zarg (x : Int32) : x < 0 ∨ ∃ j : Nat, j < 2 ^ 31 ∧ x = nI j := by
  by_cases h : x < 0
  · exact Or.inl h
  · exact Or.inr (nI_of h)
theorem zneg_le {x : Int32} {a : Nat} (h : x < 0) (ha : a < 2 ^ 31) : x < nI a := by
  rw [Int32.lt_iff_toInt_lt] at *
  rw [nI_toInt ha]
  have : (0 : Int32).toInt = 0 := rfl
  omega
theorem zup_s {f : Nat → Int32} {k : Nat} {x : Int32} : upd f k x k = x := pk_us
theorem zup_n {f : Nat → Int32} {k j : Nat} {x : Int32} (h : j ≠ k) : upd f k x j = f j := pk_un h
theorem zw_n {a b j : Nat} (ha : a < 2 ^ 31) (hb : b < 2 ^ 31) (hj : j < 2 ^ 31) : fX10_within (nI j) (nI a) (nI b) = some (decide (a ≤ j ∧ j ≤ b)) := by
  unfold fX10_within
  simp only [zl_lt hj ha, zl_lt hb hj]
  by_cases h1 : j < a
  · rw [if_pos h1, decide_eq_false (by omega)]
  · rw [if_neg h1]
    by_cases h2 : b < j
    · rw [if_pos h2, decide_eq_false (by omega)]
    · rw [if_neg h2, decide_eq_true (by omega)]
theorem zw_neg {a : Nat} {x y : Int32} (ha : a < 2 ^ 31) (hx : x < 0) : fX10_within x (nI a) y = some false := by
  unfold fX10_within
  rw [if_pos (zneg_le hx ha)]
theorem zi_n {a b j : Nat} (ha : a < 2 ^ 31) (hb : b < 2 ^ 31) (hj : j < 2 ^ 31) : fX11_isIn (nI j) (nI a) (nI b) = some (decide (a ≤ j ∧ j ≤ b)) := zw_n ha hb hj
theorem zi_neg {a : Nat} {x y : Int32} (ha : a < 2 ^ 31) (hx : x < 0) : fX11_isIn x (nI a) y = some false := zw_neg ha hx
/-! the reference's places -/
theorem g_of {now : Nat → Int32} {r w : Nat} (hr : r < 60) (hw : w < 24) : fX11_of now (nI r) (nI w) = some (now (122 + 24 * r + w)) := by
  unfold fX11_of
  rw [pk_mul, nI_add, nI_add, if_pos (by rw [zl_in (by omega)]; omega), zl_c (by omega)]
theorem g_put {now : Nat → Int32} {r w : Nat} {v : Int32} (hr : r < 60) (hw : w < 24) : fX11_put now (nI r) (nI w) v = some (upd now (122 + 24 * r + w) v) := by
  unfold fX11_put
  rw [pk_mul, nI_add, nI_add, if_pos (by rw [zl_in (by omega)]; omega), zl_c (by omega)]
theorem g_ofMat {now : Nat → Int32} {m w : Nat} (hm : m ≤ 12) (hw : w < 4) : fX11_ofMat now (nI m) (nI w) = some (now (8 + 4 * m + w)) := by
  unfold fX11_ofMat
  rw [pk_mul, nI_add, nI_add, if_pos (by rw [zl_in (by omega)]; omega), zl_c (by omega)]
theorem g_gunOf {now : Nat → Int32} {p : Nat} (hp : p < 6) : fX11_gunOf now (nI p) = some (now (56 + p)) := by
  unfold fX11_gunOf
  rw [nI_add, if_pos (by rw [zl_in (by omega)]; omega), zl_c (by omega)]
theorem g_mats {now : Nat → Int32} : fX11_mats now = some (now 0) := by
  unfold fX11_mats
  rw [if_pos (by rw [zl_in (by omega)]; omega), zl_c (by omega)]
theorem g_runners {now : Nat → Int32} : fX11_runners now = some (now 1) := by
  unfold fX11_runners
  rw [if_pos (by rw [zl_in (by omega)]; omega), zl_c (by omega)]
/-! which mats, which runners there are -/
theorem c_hasM {M j : Nat} (hM : M ≤ 12) (hj : j < 2 ^ 31) : fX9_has (nI M) (nI j) = some (decide (j < M)) := by
  unfold fX9_has
  rw [if_neg (nI_pos hj)]
  simp only [zl_le (show M < 2 ^ 31 by omega) hj, zl_le (show 12 < 2 ^ 31 by omega) hj]
  by_cases h : j < M
  · rw [if_neg (by omega), if_neg (by omega), decide_eq_true h]
  · rw [if_pos (by omega), decide_eq_false h]
theorem c_hasMn {y x : Int32} (h : x < 0) : fX9_has y x = some false := by
  unfold fX9_has
  rw [if_pos h]
theorem c_hasR {R j : Nat} (hR : R ≤ 60) (hj : j < 2 ^ 31) : fX6_has (nI R) (nI j) = some (decide (j < R)) := by
  unfold fX6_has
  rw [if_neg (nI_pos hj)]
  simp only [zl_le (show R < 2 ^ 31 by omega) hj, zl_le (show 60 < 2 ^ 31 by omega) hj]
  by_cases h : j < R
  · rw [if_neg (by omega), if_neg (by omega), decide_eq_true h]
  · rw [if_pos (by omega), decide_eq_false h]
theorem c_hasRn {y x : Int32} (h : x < 0) : fX6_has y x = some false := by
  unfold fX6_has
  rw [if_pos h]
theorem g_isMat {now : Nat → Int32} {M j : Nat} (h0 : now 0 = nI M) (hM : M ≤ 12) (hj : j < 2 ^ 31) : fX11_isMat now (nI j) = some (decide (j < M)) := by
  unfold fX11_isMat
  rw [if_neg (nI_pos hj), g_mats, Option.bind_some, h0]
  simp only [zl_le (show M < 2 ^ 31 by omega) hj]
  by_cases h : j < M
  · rw [if_neg (by omega), decide_eq_true h]
  · rw [if_pos (by omega), decide_eq_false h]
theorem g_isMatn {now : Nat → Int32} {x : Int32} (h : x < 0) : fX11_isMat now x = some false := by
  unfold fX11_isMat
  rw [if_pos h]
theorem g_isRunner {now : Nat → Int32} {t : Int32} {R j : Nat} (h1 : now 1 = nI R) (hR : R ≤ 60) (hj : j < 2 ^ 31) : fX11_isRunner t now (nI j) = some (decide (j < R), nI 0) := by
  unfold fX11_isRunner
  rw [if_neg (nI_pos hj), g_runners, Option.bind_some, h1]
  simp only [zl_le (show R < 2 ^ 31 by omega) hj]
  by_cases h : j < R
  · rw [if_neg (by omega), decide_eq_true h]
  · rw [if_pos (by omega), decide_eq_false h]
theorem g_isRunnern {now : Nat → Int32} {t x : Int32} (h : x < 0) : fX11_isRunner t now x = some (false, nI 0) := by
  unfold fX11_isRunner
  rw [if_pos h]
