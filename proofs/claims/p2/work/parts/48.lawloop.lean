set_option maxHeartbeats 4000000 in
set_option maxRecDepth 100000 in
theorem zlaw_30 {p : Program} {l : Launch} {e : Env} {s : State} {m : MethodId} {below : List Frame} {meth : Method} {c : Code} {b L : Nat} {xs : Nat → Int32} {D : va_G} {cB cI cZ : ClassId} (hfl : l.flags = flags0) (C0 : lw_At p s m meth c b L xs) (hK : va_K D vwCl (zT cB cI cZ) s) (hN : zNest s) (hZ : zStat (fun q : Nat => s.heap.size ≤ q) s s.heap) (A : Nat → Nat) (I : Nat → Int32) (F : Nat → Nat → Int32) (j : Nat) (i : Int32) (hi : i = nI j) (hj : j + 7 ≤ L) (hL : L ≤ 3584) (hI : zIF I F) (cells slots : Nat) (hc : cells + 10 ≤ 601024) (hs : slots + 100 ≤ 7293034) (H : Heap) (locs : List Loc) (hP : va_P D vwCl (zWd cB cI cZ A I F) H) (hD : va_D (fun q : Nat => s.heap.size ≤ q) (zWd cB cI cZ A I F)) (hS : va_S (fun q : Nat => s.heap.size ≤ q) s.heap H locs) (ls : Array Slot) (hl : lv_has ls 5 [(3, .int i), (2, .ref (A 53)), (1, .ref (A 0)), (0, .ref b)]) (kk : ∀ (I : Nat → Int32) (F : Nat → Nat → Int32) (H : Heap) (locs : List Loc) (ls : Array Slot), zIF I F → va_P D vwCl (zWd cB cI cZ A I F) H → va_D (fun q : Nat => s.heap.size ≤ q) (zWd cB cI cZ A I F) → va_S (fun q : Nat => s.heap.size ≤ q) s.heap H locs → lv_has ls 5 [(3, .int i), (2, .ref (A 53)), (1, .ref (A 0)), (0, .ref b)] → W p l e room_1 s m #[Value.ref b] below meth c H locs (cells + 2) (slots + 20) (lw_Z below #[Value.ref b] s) (F0 m 1109 ls [])) : W p l e room_1 s m #[Value.ref b] below meth c H locs cells slots (lw_Z below #[Value.ref b] s) (F0 m 1096 ls []) := by
  sorry
set_option maxHeartbeats 4000000 in
set_option maxRecDepth 100000 in
theorem zlaw_loop {p : Program} {l : Launch} {e : Env} {s : State} {m : MethodId} {below : List Frame} {meth : Method} {c : Code} {b L : Nat} {xs : Nat → Int32} {D : va_G} {cB cI cZ : ClassId} (hfl : l.flags = flags0) (C0 : lw_At p s m meth c b L xs) (hK : va_K D vwCl (zT cB cI cZ) s) (hN : zNest s) (hZ : zStat (fun q : Nat => s.heap.size ≤ q) s s.heap) (A : Nat → Nat) (hL : L ≤ 3584) : ∀ (n j : Nat) (i : Int32) (I : Nat → Int32) (F : Nat → Nat → Int32) (H : Heap) (ls : Array Slot), i = nI (7 * j) → 7 * j ≤ L + 6 → L + 7 < 7 * j + 7 * n → zIF I F → va_P D vwCl (zWd cB cI cZ A I F) H → va_D (fun q : Nat => s.heap.size ≤ q) (zWd cB cI cZ A I F) → va_S (fun q : Nat => s.heap.size ≤ q) s.heap H [] → lv_has ls 5 [(3, .int i), (2, .ref (A 53)), (1, .ref (A 0)), (0, .ref b)] → W p l e room_1 s m #[Value.ref b] below meth c H [] (60 + 2 * j) (19289 + 20 * j) (lw_Z below #[Value.ref b] s) (F0 m 18 ls []) := by
  intro n
  induction n with
  | zero => intro j i I F H ls hi h1 h2; exact absurd h2 (by omega)
  | succ n ih =>
    intro j i I F H ls hi h1 h2 hI hP hD hS hl
    have C1 := C0
    obtain ⟨hx, hb, hr, hml, hown, hts, hX, hbl, hlocks, hgv⟩ := C1
    have hA : ∀ q : Nat, s.heap.size ≤ q → (fun q : Nat => s.heap.size ≤ q) q := fun _ h => h
    have hbA : ¬ (fun q : Nat => s.heap.size ≤ q) b := Nat.not_le.mpr hbl
    refine lv_iload_n hx hb dL_law_18 rfl (lv_at hl 0 rfl) ?_
    refine lv_aload_n hx hb dL_law_19 rfl (lv_at hl 3 rfl) ?_
    refine va_slen hx hb hX hbl hbA hS dL_law_20 ?_
    refine lv_bipush (v := (7 : Int32)) hx hb dL_law_21 rfl ?_
    refine lv_isub hx hb dL_law_23 ?_
    refine lv_icmp_gt (tgt := 1115) hx hb dL_law_24 (by decide) (fun c_ => ?_) (fun c_ => ?_)
    · refine lv_iconst (v := (1 : Int32)) hx hb dL_law_1115 rfl ?_
      refine va_forget (fun q hq => hS.2.2 q hq) ?_
      refine W.widen (k := 601024) (n := 7293034) (by omega) (by omega) ?_
      exact lw_ret hx hb hr hlocks dL_law_1116
    · have hj : 7 * j + 7 ≤ L := zle_head hL (by omega) (by rw [← hi]; exact c_)
      have h0_ : vp_in i L := by rw [hi]; exact vp_in_nI (by omega) (by omega)
      have KK : ∀ (I : Nat → Int32) (F : Nat → Nat → Int32) (H : Heap) (locs : List Loc) (ls : Array Slot), zIF I F → va_P D vwCl (zWd cB cI cZ A I F) H → va_D (fun q : Nat => s.heap.size ≤ q) (zWd cB cI cZ A I F) → va_S (fun q : Nat => s.heap.size ≤ q) s.heap H locs → lv_has ls 5 [(3, .int i), (2, .ref (A 53)), (1, .ref (A 0)), (0, .ref b)] → W p l e room_1 s m #[Value.ref b] below meth c H locs (60 + 2 * j + 2) (19289 + 20 * j + 20) (lw_Z below #[Value.ref b] s) (F0 m 1109 ls []) := by
        intro I F H locs ls hI hP hD hS hl
        refine lv_iinc (v := i + 7) (lv' := [(3, .int (i + 7)), (2, .ref (A 53)), (1, .ref (A 0)), (0, .ref b)]) hx hb dL_law_1109 hl (k := 0) rfl rfl (by decide) rfl (fun ls hl => ?_)
        refine lv_goto (tgt := 18) hx hb dL_law_1112 (by decide) ?_
        refine va_forget (fun q hq => hS.2.2 q hq) ?_
        have hk := ih (j + 1) (i + 7) I F H ls (by rw [hi]; show nI (7 * j) + nI 7 = _; rw [nI_add]; exact congrArg nI (by omega)) (by omega) (by omega) hI hP hD ⟨hS.1, hS.2.1, fun _ h => by cases h⟩ hl
        exact W.widen (by omega) (by omega) hk
      refine lv_aload_n hx hb dL_law_27 rfl (lv_at hl 3 rfl) ?_
      refine lv_iload_n hx hb dL_law_28 rfl (lv_at hl 0 rfl) ?_
      refine va_sld hx hb hX hbl hbA hS h0_ dL_law_29 ?_
      refine lv_bipush (v := (31 : Int32)) hx hb dL_law_30 rfl ?_
      refine lv_iand hx hb dL_law_32 ?_
      generalize xs i.toNatClampNeg &&& 31 = sw
      by_cases c0 : sw = (nI 0)
      · refine lv_tableIn (off := 139) (tgt := 172) hx hb dL_law_33 (by rw [c0]; decide) (by rw [c0]; decide) (by rw [c0]; rfl) (by decide) ?_
        exact zlaw_0 C0 hK hN hZ A I F (7 * j) i hi hj hL hI _ _ (by omega) (by omega) H [] hP hD hS ls hl KK
      by_cases c1 : sw = (nI 1)
      · refine lv_tableIn (off := 162) (tgt := 195) hx hb dL_law_33 (by rw [c1]; decide) (by rw [c1]; decide) (by rw [c1]; rfl) (by decide) ?_
        exact zlaw_1 C0 hK hN hZ A I F (7 * j) i hi hj hL hI _ _ (by omega) (by omega) H [] hP hD hS ls hl KK
      by_cases c2 : sw = (nI 2)
      · refine lv_tableIn (off := 195) (tgt := 228) hx hb dL_law_33 (by rw [c2]; decide) (by rw [c2]; decide) (by rw [c2]; rfl) (by decide) ?_
        exact zlaw_2 C0 hK hN hZ A I F (7 * j) i hi hj hL hI _ _ (by omega) (by omega) H [] hP hD hS ls hl KK
      by_cases c3 : sw = (nI 3)
      · refine lv_tableIn (off := 270) (tgt := 303) hx hb dL_law_33 (by rw [c3]; decide) (by rw [c3]; decide) (by rw [c3]; rfl) (by decide) ?_
        exact zlaw_3 C0 hK hN hZ A I F (7 * j) i hi hj hL hI _ _ (by omega) (by omega) H [] hP hD hS ls hl KK
      by_cases c4 : sw = (nI 4)
      · refine lv_tableIn (off := 303) (tgt := 336) hx hb dL_law_33 (by rw [c4]; decide) (by rw [c4]; decide) (by rw [c4]; rfl) (by decide) ?_
        exact zlaw_4 C0 hK hN hZ A I F (7 * j) i hi hj hL hI _ _ (by omega) (by omega) H [] hP hD hS ls hl KK
      by_cases c5 : sw = (nI 5)
      · refine lv_tableIn (off := 346) (tgt := 379) hx hb dL_law_33 (by rw [c5]; decide) (by rw [c5]; decide) (by rw [c5]; rfl) (by decide) ?_
        exact zlaw_5 C0 hK hN hZ A I F (7 * j) i hi hj hL hI _ _ (by omega) (by omega) H [] hP hD hS ls hl KK
      by_cases c6 : sw = (nI 6)
      · refine lv_tableIn (off := 395) (tgt := 428) hx hb dL_law_33 (by rw [c6]; decide) (by rw [c6]; decide) (by rw [c6]; rfl) (by decide) ?_
        exact zlaw_6 C0 hK hN hZ A I F (7 * j) i hi hj hL hI _ _ (by omega) (by omega) H [] hP hD hS ls hl KK
      by_cases c7 : sw = (nI 7)
      · refine lv_tableIn (off := 428) (tgt := 461) hx hb dL_law_33 (by rw [c7]; decide) (by rw [c7]; decide) (by rw [c7]; rfl) (by decide) ?_
        exact zlaw_7 C0 hK hN hZ A I F (7 * j) i hi hj hL hI _ _ (by omega) (by omega) H [] hP hD hS ls hl KK
      by_cases c8 : sw = (nI 8)
      · refine lv_tableIn (off := 477) (tgt := 510) hx hb dL_law_33 (by rw [c8]; decide) (by rw [c8]; decide) (by rw [c8]; rfl) (by decide) ?_
        exact zlaw_8 C0 hK hN hZ A I F (7 * j) i hi hj hL hI _ _ (by omega) (by omega) H [] hP hD hS ls hl KK
      by_cases c9 : sw = (nI 9)
      · refine lv_tableIn (off := 510) (tgt := 543) hx hb dL_law_33 (by rw [c9]; decide) (by rw [c9]; decide) (by rw [c9]; rfl) (by decide) ?_
        exact zlaw_9 C0 hK hN hZ A I F (7 * j) i hi hj hL hI _ _ (by omega) (by omega) H [] hP hD hS ls hl KK
      by_cases c10 : sw = (nI 10)
      · refine lv_tableIn (off := 559) (tgt := 592) hx hb dL_law_33 (by rw [c10]; decide) (by rw [c10]; decide) (by rw [c10]; rfl) (by decide) ?_
        exact zlaw_10 C0 hK hN hZ A I F (7 * j) i hi hj hL hI _ _ (by omega) (by omega) H [] hP hD hS ls hl KK
      by_cases c11 : sw = (nI 11)
      · refine lv_tableIn (off := 582) (tgt := 615) hx hb dL_law_33 (by rw [c11]; decide) (by rw [c11]; decide) (by rw [c11]; rfl) (by decide) ?_
        exact zlaw_11 C0 hK hN hZ A I F (7 * j) i hi hj hL hI _ _ (by omega) (by omega) H [] hP hD hS ls hl KK
      by_cases c12 : sw = (nI 12)
      · refine lv_tableIn (off := 595) (tgt := 628) hx hb dL_law_33 (by rw [c12]; decide) (by rw [c12]; decide) (by rw [c12]; rfl) (by decide) ?_
        exact zlaw_12 C0 hK hN hZ A I F (7 * j) i hi hj hL hI _ _ (by omega) (by omega) H [] hP hD hS ls hl KK
      by_cases c13 : sw = (nI 13)
      · refine lv_tableIn (off := 628) (tgt := 661) hx hb dL_law_33 (by rw [c13]; decide) (by rw [c13]; decide) (by rw [c13]; rfl) (by decide) ?_
        exact zlaw_13 C0 hK hN hZ A I F (7 * j) i hi hj hL hI _ _ (by omega) (by omega) H [] hP hD hS ls hl KK
      by_cases c14 : sw = (nI 14)
      · refine lv_tableIn (off := 661) (tgt := 694) hx hb dL_law_33 (by rw [c14]; decide) (by rw [c14]; decide) (by rw [c14]; rfl) (by decide) ?_
        exact zlaw_14 C0 hK hN hZ A I F (7 * j) i hi hj hL hI _ _ (by omega) (by omega) H [] hP hD hS ls hl KK
      by_cases c15 : sw = (nI 15)
      · refine lv_tableIn (off := 720) (tgt := 753) hx hb dL_law_33 (by rw [c15]; decide) (by rw [c15]; decide) (by rw [c15]; rfl) (by decide) ?_
        exact zlaw_15 C0 hK hN hZ A I F (7 * j) i hi hj hL hI _ _ (by omega) (by omega) H [] hP hD hS ls hl KK
      by_cases c16 : sw = (nI 16)
      · refine lv_tableIn (off := 753) (tgt := 786) hx hb dL_law_33 (by rw [c16]; decide) (by rw [c16]; decide) (by rw [c16]; rfl) (by decide) ?_
        exact zlaw_16 C0 hK hN hZ A I F (7 * j) i hi hj hL hI _ _ (by omega) (by omega) H [] hP hD hS ls hl KK
      by_cases c17 : sw = (nI 17)
      · refine lv_tableIn (off := 786) (tgt := 819) hx hb dL_law_33 (by rw [c17]; decide) (by rw [c17]; decide) (by rw [c17]; rfl) (by decide) ?_
        exact zlaw_17 C0 hK hN hZ A I F (7 * j) i hi hj hL hI _ _ (by omega) (by omega) H [] hP hD hS ls hl KK
      by_cases c18 : sw = (nI 18)
      · refine lv_tableIn (off := 809) (tgt := 842) hx hb dL_law_33 (by rw [c18]; decide) (by rw [c18]; decide) (by rw [c18]; rfl) (by decide) ?_
        exact zlaw_18 C0 hK hN hZ A I F (7 * j) i hi hj hL hI _ _ (by omega) (by omega) H [] hP hD hS ls hl KK
      by_cases c19 : sw = (nI 19)
      · refine lv_tableIn (off := 842) (tgt := 875) hx hb dL_law_33 (by rw [c19]; decide) (by rw [c19]; decide) (by rw [c19]; rfl) (by decide) ?_
        exact zlaw_19 C0 hK hN hZ A I F (7 * j) i hi hj hL hI _ _ (by omega) (by omega) H [] hP hD hS ls hl KK
      by_cases c20 : sw = (nI 20)
      · refine lv_tableIn (off := 865) (tgt := 898) hx hb dL_law_33 (by rw [c20]; decide) (by rw [c20]; decide) (by rw [c20]; rfl) (by decide) ?_
        exact zlaw_20 C0 hK hN hZ A I F (7 * j) i hi hj hL hI _ _ (by omega) (by omega) H [] hP hD hS ls hl KK
      by_cases c21 : sw = (nI 21)
      · refine lv_tableIn (off := 888) (tgt := 921) hx hb dL_law_33 (by rw [c21]; decide) (by rw [c21]; decide) (by rw [c21]; rfl) (by decide) ?_
        exact zlaw_21 C0 hK hN hZ A I F (7 * j) i hi hj hL hI _ _ (by omega) (by omega) H [] hP hD hS ls hl KK
      by_cases c22 : sw = (nI 22)
      · refine lv_tableIn (off := 901) (tgt := 934) hx hb dL_law_33 (by rw [c22]; decide) (by rw [c22]; decide) (by rw [c22]; rfl) (by decide) ?_
        exact zlaw_22 C0 hK hN hZ A I F (7 * j) i hi hj hL hI _ _ (by omega) (by omega) H [] hP hD hS ls hl KK
      by_cases c23 : sw = (nI 23)
      · refine lv_tableIn (off := 924) (tgt := 957) hx hb dL_law_33 (by rw [c23]; decide) (by rw [c23]; decide) (by rw [c23]; rfl) (by decide) ?_
        exact zlaw_23 C0 hK hN hZ A I F (7 * j) i hi hj hL hI _ _ (by omega) (by omega) H [] hP hD hS ls hl KK
      by_cases c24 : sw = (nI 24)
      · refine lv_tableIn (off := 947) (tgt := 980) hx hb dL_law_33 (by rw [c24]; decide) (by rw [c24]; decide) (by rw [c24]; rfl) (by decide) ?_
        exact zlaw_24 C0 hK hN hZ A I F (7 * j) i hi hj hL hI _ _ (by omega) (by omega) H [] hP hD hS ls hl KK
      by_cases c25 : sw = (nI 25)
      · refine lv_tableIn (off := 960) (tgt := 993) hx hb dL_law_33 (by rw [c25]; decide) (by rw [c25]; decide) (by rw [c25]; rfl) (by decide) ?_
        exact zlaw_25 C0 hK hN hZ A I F (7 * j) i hi hj hL hI _ _ (by omega) (by omega) H [] hP hD hS ls hl KK
      by_cases c26 : sw = (nI 26)
      · refine lv_tableIn (off := 973) (tgt := 1006) hx hb dL_law_33 (by rw [c26]; decide) (by rw [c26]; decide) (by rw [c26]; rfl) (by decide) ?_
        exact zlaw_26 C0 hK hN hZ A I F (7 * j) i hi hj hL hI _ _ (by omega) (by omega) H [] hP hD hS ls hl KK
      by_cases c27 : sw = (nI 27)
      · refine lv_tableIn (off := 1006) (tgt := 1039) hx hb dL_law_33 (by rw [c27]; decide) (by rw [c27]; decide) (by rw [c27]; rfl) (by decide) ?_
        exact zlaw_27 C0 hK hN hZ A I F (7 * j) i hi hj hL hI _ _ (by omega) (by omega) H [] hP hD hS ls hl KK
      by_cases c28 : sw = (nI 28)
      · refine lv_tableIn (off := 1029) (tgt := 1062) hx hb dL_law_33 (by rw [c28]; decide) (by rw [c28]; decide) (by rw [c28]; rfl) (by decide) ?_
        exact zlaw_28 C0 hK hN hZ A I F (7 * j) i hi hj hL hI _ _ (by omega) (by omega) H [] hP hD hS ls hl KK
      by_cases c29 : sw = (nI 29)
      · refine lv_tableIn (off := 1052) (tgt := 1085) hx hb dL_law_33 (by rw [c29]; decide) (by rw [c29]; decide) (by rw [c29]; rfl) (by decide) ?_
        exact zlaw_29 C0 hK hN hZ A I F (7 * j) i hi hj hL hI _ _ (by omega) (by omega) H [] hP hD hS ls hl KK
      by_cases c30 : sw = (nI 30)
      · refine lv_tableIn (off := 1063) (tgt := 1096) hx hb dL_law_33 (by rw [c30]; decide) (by rw [c30]; decide) (by rw [c30]; rfl) (by decide) ?_
        exact zlaw_30 hfl C0 hK hN hZ A I F (7 * j) i hi hj hL hI _ _ (by omega) (by omega) H [] hP hD hS ls hl KK
      refine lv_tableOut (tgt := 1109) hx hb dL_law_33 (by have n0_ := lv_neT c0 (a := 0) rfl; have n1_ := lv_neT c1 (a := 1) rfl; have n2_ := lv_neT c2 (a := 2) rfl; have n3_ := lv_neT c3 (a := 3) rfl; have n4_ := lv_neT c4 (a := 4) rfl; have n5_ := lv_neT c5 (a := 5) rfl; have n6_ := lv_neT c6 (a := 6) rfl; have n7_ := lv_neT c7 (a := 7) rfl; have n8_ := lv_neT c8 (a := 8) rfl; have n9_ := lv_neT c9 (a := 9) rfl; have n10_ := lv_neT c10 (a := 10) rfl; have n11_ := lv_neT c11 (a := 11) rfl; have n12_ := lv_neT c12 (a := 12) rfl; have n13_ := lv_neT c13 (a := 13) rfl; have n14_ := lv_neT c14 (a := 14) rfl; have n15_ := lv_neT c15 (a := 15) rfl; have n16_ := lv_neT c16 (a := 16) rfl; have n17_ := lv_neT c17 (a := 17) rfl; have n18_ := lv_neT c18 (a := 18) rfl; have n19_ := lv_neT c19 (a := 19) rfl; have n20_ := lv_neT c20 (a := 20) rfl; have n21_ := lv_neT c21 (a := 21) rfl; have n22_ := lv_neT c22 (a := 22) rfl; have n23_ := lv_neT c23 (a := 23) rfl; have n24_ := lv_neT c24 (a := 24) rfl; have n25_ := lv_neT c25 (a := 25) rfl; have n26_ := lv_neT c26 (a := 26) rfl; have n27_ := lv_neT c27 (a := 27) rfl; have n28_ := lv_neT c28 (a := 28) rfl; have n29_ := lv_neT c29 (a := 29) rfl; have n30_ := lv_neT c30 (a := 30) rfl; omega) (by decide) ?_
      exact W.widen (by omega) (by omega) (KK I F H [] ls hI hP hD hS hl)
