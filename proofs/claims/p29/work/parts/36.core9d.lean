theorem p_nat (z : Int32) : z = nI z.toBitVec.toNat := by
  apply Int32.toBitVec_inj.mp
  show z.toBitVec = BitVec.ofNat 32 z.toBitVec.toNat
  rw [BitVec.ofNat_toNat, BitVec.setWidth_eq]
theorem p_255 : nI 255 = 255 := by decide
theorem p_byte {n : Nat} (hn : n ≤ 24) (x : Int32) : (x.toUInt32 >>> ((nI n).toUInt32 &&& Int32.toUInt32 31)).toInt32 &&& nI 255 = (x >>> (nI n &&& 31)) &&& nI 255 := by
  rw [p_255]
  apply b_ext
  intro i hi
  rw [b_and, b_and, b_255]
  by_cases h : i < 8
  · rw [b_ushr n (by omega), b_sshr n (by omega) x hi, if_pos (by omega)]
  · rw [decide_eq_false h, Bool.and_false, Bool.and_false]
theorem p_low (y : Int32) : ∃ v : Nat, v ≤ 255 ∧ y &&& nI 255 = nI v ∧ y.toInt8.toInt32 = (nI v).toInt8.toInt32 := by
  refine ⟨(y &&& nI 255).toBitVec.toNat, ?_, p_nat _, ?_⟩
  · rw [Int32.toBitVec_and, BitVec.toNat_and]
    exact Nat.and_le_right
  · rw [← p_nat, p_255, fa_byte_low]
def zB (x : Int32) (j : Nat) : Int32 := (x >>> (nI (8 * j) &&& 31)) &&& nI 255
def zC (x : Int32) : Nat → Nat
  | 0 => 0
  | j + 1 => zC x j + (if zB x j = 0 then 0 else 1)
def zPos : Nat → Int32
  | 0 => -8
  | j + 1 => nI (8 * j)
theorem zpos_next : ∀ j, j < 4 → zPos (j + 1) + (-8 : Int32) = zPos j := by decide +kernel
theorem zpos_0 : zPos 0 < 0 := by decide
theorem zpos_s {j : Nat} (h : j < 4) : ¬ (zPos (j + 1) < 0) := nI_pos (show 8 * j < 2 ^ 31 by omega)
theorem zB1 {x : Int32} {j : Nat} (h : j < 4) : (x.toUInt32 >>> ((zPos (j + 1)).toUInt32 &&& Int32.toUInt32 31)).toInt32 &&& nI 255 = zB x j := p_byte (by omega) x
theorem p_cnt1 {x : Int32} {K : Int32 → Int32 → Option Int32} : ∀ (j : Nat), j ≤ 4 → ∀ (n a : Nat), j < n → fX7_howManyStand_L5 x K n (nI a) (zPos j) = K (nI (a + zC x j)) (-8) := by
  intro j
  induction j with
  | zero =>
    intro _ n a h
    obtain ⟨m, rfl⟩ : ∃ m, n = m + 1 := ⟨n - 1, by omega⟩
    rw [fX7_howManyStand_L5, if_pos zpos_0]; rfl
  | succ j ih =>
    intro hj n a h
    obtain ⟨m, rfl⟩ : ∃ m, n = m + 1 := ⟨n - 1, by omega⟩
    rw [fX7_howManyStand_L5, if_neg (zpos_s (by omega))]
    by_cases hz : zB x j = 0
    · rw [if_pos ((zB1 (by omega)).trans hz), zpos_next j (by omega), ih (by omega) m a (by omega), zC, if_pos hz]; rfl
    · rw [if_neg (fun q => hz ((zB1 (by omega)).symm.trans q)), zpos_next j (by omega), nI_add, ih (by omega) m (a + 1) (by omega), zC, if_neg hz, show a + 1 + zC x j = a + (zC x j + 1) by omega]
theorem p_cnt2 {x : Int32} {K : Int32 → Int32 → Option (Int32 × Int32 × Int32 × (Nat → Int32))} : ∀ (j : Nat), j ≤ 4 → ∀ (n a : Nat), j < n → fX11_feed_L10 x K n (nI a) (zPos j) = K (nI (a + zC x j)) (-8) := by
  intro j
  induction j with
  | zero =>
    intro _ n a h
    obtain ⟨m, rfl⟩ : ∃ m, n = m + 1 := ⟨n - 1, by omega⟩
    rw [fX11_feed_L10, if_pos zpos_0]; rfl
  | succ j ih =>
    intro hj n a h
    obtain ⟨m, rfl⟩ : ∃ m, n = m + 1 := ⟨n - 1, by omega⟩
    rw [fX11_feed_L10, if_neg (zpos_s (by omega))]
    by_cases hz : zB x j = 0
    · rw [if_pos (show (x >>> (zPos (j + 1) &&& 31)) &&& nI 255 = 0 from hz), zpos_next j (by omega), nI_add, ih (by omega) m (a + 0) (by omega), zC, if_pos hz]; rfl
    · rw [if_neg (show ¬ ((x >>> (zPos (j + 1) &&& 31)) &&& nI 255 = 0) from hz), zpos_next j (by omega), nI_add, ih (by omega) m (a + 1) (by omega), zC, if_neg hz, show a + 1 + zC x j = a + (zC x j + 1) by omega]
def zByte (b t : Int32) : Prop := ∃ v : Nat, 1 ≤ v ∧ v ≤ 255 ∧ b = nI v ∧ t = (nI v).toInt8.toInt32
theorem p_app {x : Int32} : ∀ (j : Nat), j ≤ 4 → ∀ (n L : Nat) (by_ tx : Nat → Int32), j < n → L + zC x j ≤ 200 → (∀ k, k < L → zByte (by_ k) (tx k)) →
    ∃ b' t' : Nat → Int32, (∀ K, fX7_append_L20 x K n (zPos j) (nI L) by_ = K (-8) (nI (L + zC x j)) b') ∧ (∀ K, fX11_feed_L55 x K n (zPos j) (nI L) tx = K (-8) (nI (L + zC x j)) t') ∧ ∀ k, k < L + zC x j → zByte (b' k) (t' k) := by
  intro j
  induction j with
  | zero =>
    intro _ n L by_ tx h hL hb
    obtain ⟨m, rfl⟩ : ∃ m, n = m + 1 := ⟨n - 1, by omega⟩
    refine ⟨by_, tx, fun K => ?_, fun K => ?_, hb⟩
    · rw [fX7_append_L20, if_pos zpos_0]; rfl
    · rw [fX11_feed_L55, if_pos zpos_0]; rfl
  | succ j ih =>
    intro hj n L by_ tx h hL hb
    obtain ⟨m, rfl⟩ : ∃ m, n = m + 1 := ⟨n - 1, by omega⟩
    by_cases hz : zB x j = 0
    · rw [zC, if_pos hz] at hL
      obtain ⟨b', t', e1, e2, q⟩ := ih (by omega) m L by_ tx (by omega) (by omega) hb
      rw [zC, if_pos hz]
      refine ⟨b', t', fun K => ?_, fun K => ?_, q⟩
      · rw [fX7_append_L20, if_neg (zpos_s (by omega)), if_pos ((zB1 (by omega)).trans hz), zpos_next j (by omega)]; exact e1 K
      · rw [fX11_feed_L55, if_neg (zpos_s (by omega)), if_pos (show (x >>> (zPos (j + 1) &&& 31)) &&& nI 255 = 0 from hz), zpos_next j (by omega)]; exact e2 K
    · rw [zC, if_neg hz] at hL
      obtain ⟨v, hv, ev, et⟩ := p_low (x >>> (zPos (j + 1) &&& 31))
      have hzv : zB x j = nI v := ev
      have hv1 : 1 ≤ v := by
        rcases Nat.eq_zero_or_pos v with q | q
        · exact absurd (by rw [hzv, q]; exact p_zero) hz
        · exact q
      obtain ⟨b', t', e1, e2, q⟩ := ih (by omega) m (L + 1) (upd by_ L (nI v)) (upd tx L (nI v).toInt8.toInt32) (by omega) (by omega) (fun k hk => by
        by_cases hkL : k = L
        · subst hkL; rw [zup_s, zup_s]; exact ⟨v, hv1, hv, rfl, rfl⟩
        · rw [zup_n hkL, zup_n hkL]; exact hb k (by omega))
      rw [zC, if_neg hz, show L + (zC x j + 1) = L + 1 + zC x j by omega]
      refine ⟨b', t', fun K => ?_, fun K => ?_, q⟩
      · rw [fX7_append_L20, if_neg (zpos_s (by omega)), if_neg (fun q => hz ((zB1 (by omega)).symm.trans q)), if_neg (nI_pos (by omega)), if_neg (by rw [zl_le (by omega) (by omega)]; omega), if_pos (zin_k (show L < 200 by omega) (by omega)), zB1 (by omega), hzv, zpos_next j (by omega), nI_add, zl_c (show L < 2 ^ 31 by omega)]
        exact e1 K
      · rw [fX11_feed_L55, if_neg (zpos_s (by omega)), if_neg (show ¬ ((x >>> (zPos (j + 1) &&& 31)) &&& nI 255 = 0) from hz), if_pos (zin_k (show L < 200 by omega) (by omega)), pk_vb, et, zpos_next j (by omega), nI_add, zl_c (show L < 2 ^ 31 by omega)]
        exact e2 K
theorem r_feed {N : Nat} {length mlength T x1 : Int32} {bytes text : Nat → Int32} (hN : 10000 ≤ N) (hx : zText length bytes mlength text) : ∃ (r a : Int32) (b t : Nat → Int32), fX10_feed N length bytes x1 = some (r, a, b) ∧ fX11_feed N mlength T text x1 = some (r, a, nI 0, t) ∧ zText a b a t := by
  obtain ⟨n, hn, e1, e2, h⟩ := hx
  subst e1; subst e2
  have C1 : fX7_howManyStand N x1 = some (nI (zC x1 4)) := by
    unfold fX7_howManyStand
    have := p_cnt1 (x := x1) (K := fun (v1_5 : Int32) (v2_5 : Int32) => some (v1_5)) 4 (by omega) N 0 (by omega)
    rw [Nat.zero_add] at this
    exact this
  have hc : ∀ j, zC x1 j ≤ j := fun j => by
    induction j with
    | zero => exact Nat.le_refl 0
    | succ j ih =>
      rw [zC]
      by_cases hz : zB x1 j = 0
      · rw [if_pos hz]; omega
      · rw [if_neg hz]; omega
  have hc4 := hc 4
  have C2 := p_cnt2 (x := x1) (K := (fun (v2_10 : Int32) (v3_10 : Int32) => (if (nI n + v2_10) ≤ (nI 200) then fX11_feed_L55 x1 (fun (v3_55 : Int32) (t_length_l55 : Int32) (t_text_l55 : Nat → Int32) => some (t_length_l55, t_length_l55, (nI 0), t_text_l55)) N (nI 24) (nI n) text else some ((-1 : Int32), nI n, (nI 0), text)))) 4 (by omega) N 0 (by omega)
  rw [Nat.zero_add] at C2
  have F2 : fX11_feed N (nI n) T text x1 = (if (nI n + nI (zC x1 4)) ≤ (nI 200) then fX11_feed_L55 x1 (fun (v3_55 : Int32) (t_length_l55 : Int32) (t_text_l55 : Nat → Int32) => some (t_length_l55, t_length_l55, (nI 0), t_text_l55)) N (nI 24) (nI n) text else some ((-1 : Int32), nI n, (nI 0), text)) := C2
  have F1 : fX10_feed N (nI n) bytes x1 = (if (nI n + nI (zC x1 4)) ≤ (nI 200) then fX7_append_L20 x1 (fun (v2_20 : Int32) (t_length_l20 : Int32) (t_bytes_l20 : Nat → Int32) => some (t_length_l20, t_length_l20, t_bytes_l20)) N (nI 24) (nI n) bytes else some ((-1 : Int32), nI n, bytes)).bind (fun (r1, t_text_length_r2, t_text_bytes_r3) => some (r1, t_text_length_r2, t_text_bytes_r3)) := by
    unfold fX10_feed fX7_append
    rw [C1, Option.bind_some]
  by_cases hle : n + zC x1 4 ≤ 200
  · have hq : nI n + nI (zC x1 4) ≤ nI 200 := by rw [nI_add, zl_le (by omega) (by omega)]; exact hle
    obtain ⟨b', t', a1, a2, q⟩ := p_app (x := x1) 4 (by omega) N n bytes text (by omega) hle h
    rw [if_pos hq] at F1 F2
    refine ⟨nI (n + zC x1 4), nI (n + zC x1 4), b', t', ?_, ?_, n + zC x1 4, hle, rfl, rfl, q⟩
    · rw [F1, show nI 24 = zPos 4 from rfl, a1, Option.bind_some]
    · rw [F2, show nI 24 = zPos 4 from rfl, a2]
  · have hq : ¬ (nI n + nI (zC x1 4) ≤ nI 200) := by rw [nI_add, zl_le (by omega) (by omega)]; exact hle
    rw [if_neg hq] at F1 F2
    refine ⟨-1, nI n, bytes, text, ?_, F2, n, hn, rfl, rfl, h⟩
    rw [F1, Option.bind_some]
