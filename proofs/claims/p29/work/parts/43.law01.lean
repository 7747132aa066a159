set_option maxHeartbeats 4000000 in
set_option maxRecDepth 100000 in
theorem zlaw_10 {p : Program} {l : Launch} {e : Env} {s : State} {m : MethodId} {below : List Frame} {meth : Method} {c : Code} {b L : Nat} {xs : Nat → Int32} {D : va_G} {cB cI cZ : ClassId} (C0 : lw_At p s m meth c b L xs) (hK : va_K D vwCl (zT cB cI cZ) s) (hN : zNest s) (hZ : zStat (fun q : Nat => s.heap.size ≤ q) s s.heap) (A : Nat → Nat) (I : Nat → Int32) (F : Nat → Nat → Int32) (j : Nat) (i : Int32) (hi : i = nI j) (hj : j + 7 ≤ L) (hL : L ≤ 3584) (hI : zIF I F) (cells slots : Nat) (hc : cells + 10 ≤ 601024) (hs : slots + 100 ≤ 7293034) (H : Heap) (locs : List Loc) (hP : va_P D vwCl (zWd cB cI cZ A I F) H) (hD : va_D (fun q : Nat => s.heap.size ≤ q) (zWd cB cI cZ A I F)) (hS : va_S (fun q : Nat => s.heap.size ≤ q) s.heap H locs) (ls : Array Slot) (hl : lv_has ls 5 [(3, .int i), (2, .ref (A 53)), (1, .ref (A 0)), (0, .ref b)]) (kk : ∀ (I : Nat → Int32) (F : Nat → Nat → Int32) (H : Heap) (locs : List Loc) (ls : Array Slot), zIF I F → va_P D vwCl (zWd cB cI cZ A I F) H → va_D (fun q : Nat => s.heap.size ≤ q) (zWd cB cI cZ A I F) → va_S (fun q : Nat => s.heap.size ≤ q) s.heap H locs → lv_has ls 5 [(3, .int i), (2, .ref (A 53)), (1, .ref (A 0)), (0, .ref b)] → W p l e room_1 s m #[Value.ref b] below meth c H locs (cells + 2) (slots + 20) (lw_Z below #[Value.ref b] s) (F0 m 1109 ls [])) : W p l e room_1 s m #[Value.ref b] below meth c H locs cells slots (lw_Z below #[Value.ref b] s) (F0 m 592 ls []) := by
  obtain ⟨hx, hb, hr, hml, hown, hts, hX, hbl, hlocks, hgv⟩ := C0
  have hA : ∀ q : Nat, s.heap.size ≤ q → (fun q : Nat => s.heap.size ≤ q) q := fun _ h => h
  have hbA : ¬ (fun q : Nat => s.heap.size ≤ q) b := Nat.not_le.mpr hbl
  have hts_ : ∀ w ∈ wsL_law, w.before #[Value.ref b] s = true := fun w h => hts w (wsL_law_in w h)
  have h1_ : vp_in (i + (nI 1)) L := by rw [hi]; show vp_in (nI j + nI 1) L; rw [nI_add]; exact vp_in_nI (by omega) (by omega)
  refine lv_aload_n hx hb dL_law_592 rfl (lv_at hl 2 rfl) ?_
  refine lv_aload_n hx hb dL_law_593 rfl (lv_at hl 3 rfl) ?_
  refine lv_iload_n hx hb dL_law_594 rfl (lv_at hl 0 rfl) ?_
  refine lv_iconst (v := (nI 1)) hx hb dL_law_595 rfl ?_
  refine lv_iadd hx hb dL_law_596 ?_
  refine va_sld hx hb hX hbl hbA hS h1_ dL_law_597 ?_
  obtain ⟨r_x, x_race_runners_strikings_n, x_race_runners_strikingOrder_n, x_race_runners_struck_n, r_m, m_thrown_n, m_now_n, e1_, e2_, hI_⟩ := zs_10 (I 0) (F 2) (F 6) (I 2) (I 3) (F 7) (F 8) (F 9) (F 10) (F 11) (F 12) (F 13) (I 4) (F 14) (F 15) (F 16) (F 17) (F 22) (I 11) (I 12) (F 23) (F 24) (F 25) (F 26) (F 27) (F 28) (F 29) (I 13) (F 30) (F 31) (F 32) (F 33) (I 14) (F 34) (I 18) (I 19) (I 20) (F 37) (F 38) (F 40) (F 41) (xs (i + (nI 1)).toNatClampNeg) hI
  refine zVi (As := [.int (xs (i + (nI 1)).toNatClampNeg)]) (rest := []) (C := RX10) (wr := zrst [1, 2, 3, 4, 5, 6, 7, 8, 9, 10, 11, 12, 13, 14, 15, 16, 17, 18, 19, 20, 21, 22, 23, 24, 25, 26, 27, 28, 29, 30, 31, 33, 34, 36, 37, 38, 41, 42, 43, 44, 45, 46, 47, 48, 49, 50, 51, 52, 53, 54, 55, 56, 57, 58, 59] (zWd cB cI cZ A I F)) [0, 32, 35, 39, 40] [1, 2, 3, 4, 5, 6, 7, 8, 9, 10, 11, 12, 13, 14, 15, 16, 17, 18, 19, 20, 21, 22, 23, 24, 25, 26, 27, 28, 29, 30, 31, 33, 34, 36, 37, 38, 41, 42, 43, 44, 45, 46, 47, 48, 49, 50, 51, 52, 53, 54, 55, 56, 57, 58, 59] 0 ⟨hx, hb, hml, hown, hts_⟩ (mX10_strike l D cB cI cZ (A 0) (A 32) (A 10) (A 50) (A 1) (A 3) (A 48) (A 26) (A 43) (A 33) (A 35) (A 37) (A 38) (A 41) (A 36) (A 42) (A 40) (A 39) (I 0) (I 11) (I 12) (F 26) (F 27) H.size (xs (i + (nI 1)).toNatClampNeg) r_x x_race_runners_strikings_n x_race_runners_strikingOrder_n x_race_runners_struck_n e1_) (cwV 1 hts_ gL_law_X10_strike rfl rfl rfl (by decide +kernel) ⟨Nat.le_of_ble_eq_true rfl, Nat.le_of_ble_eq_true rfl⟩) hK hN hZ hP hD hS hA rfl rfl (zrst_map zWd_len rfl) rfl rfl rfl rfl rfl hl.1 rfl (lv_room (Nat.le_of_ble_eq_true rfl)) dL_law_598 (zfit (by omega) (by omega)) (fun H locs hP1 hD1 hS => ?_)
  replace hD := zWd_D (zups [(12, x_race_runners_strikings_n)] I) (zups [(26, x_race_runners_strikingOrder_n), (27, x_race_runners_struck_n)] F) hD
  have hP := zback (W := zWd cB cI cZ A I F) (W' := zWd cB cI cZ A (zups [(12, x_race_runners_strikings_n)] I) (zups [(26, x_race_runners_strikingOrder_n), (27, x_race_runners_struck_n)] F)) [0, 32, 35, 39, 40] [1, 2, 3, 4, 5, 6, 7, 8, 9, 10, 11, 12, 13, 14, 15, 16, 17, 18, 19, 20, 21, 22, 23, 24, 25, 26, 27, 28, 29, 30, 31, 33, 34, 36, 37, 38, 41, 42, 43, 44, 45, 46, 47, 48, 49, 50, 51, 52, 53, 54, 55, 56, 57, 58, 59] zWd_len zWd_len (by decide +kernel) (zWd_same (I := I) (F := F) [(12, x_race_runners_strikings_n)] [(26, x_race_runners_strikingOrder_n), (27, x_race_runners_struck_n)] [12] [26, 27] _ rfl rfl (by decide +kernel)) rfl hP1
  clear hP1 hD1
  refine lv_pop hx hb dL_law_601 rfl ?_
  refine lv_aload_n hx hb dL_law_602 rfl (lv_at hl 1 rfl) ?_
  refine lv_aload_n hx hb dL_law_603 rfl (lv_at hl 3 rfl) ?_
  refine lv_iload_n hx hb dL_law_604 rfl (lv_at hl 0 rfl) ?_
  refine lv_iconst (v := (nI 1)) hx hb dL_law_605 rfl ?_
  refine lv_iadd hx hb dL_law_606 ?_
  refine va_sld hx hb hX hbl hbA hS h1_ dL_law_607 ?_
  refine zVi (As := [.int (xs (i + (nI 1)).toNatClampNeg)]) (rest := []) (C := RX11) (wr := zrst [0, 1, 2, 3, 4, 5, 6, 7, 8, 9, 10, 11, 12, 13, 14, 15, 16, 17, 18, 19, 20, 21, 22, 23, 24, 25, 26, 27, 28, 29, 30, 31, 32, 33, 34, 35, 36, 37, 38, 39, 40, 41, 42, 43, 44, 45, 46, 47, 48, 49, 50, 51, 52, 54, 56, 57, 58, 59] (zWd cB cI cZ A (zups [(12, x_race_runners_strikings_n)] I) (zups [(26, x_race_runners_strikingOrder_n), (27, x_race_runners_struck_n)] F))) [53, 55] [0, 1, 2, 3, 4, 5, 6, 7, 8, 9, 10, 11, 12, 13, 14, 15, 16, 17, 18, 19, 20, 21, 22, 23, 24, 25, 26, 27, 28, 29, 30, 31, 32, 33, 34, 35, 36, 37, 38, 39, 40, 41, 42, 43, 44, 45, 46, 47, 48, 49, 50, 51, 52, 54, 56, 57, 58, 59] 0 ⟨hx, hb, hml, hown, hts_⟩ (mX11_strike l D cB cI cZ (A 53) (A 55) (A 54) (A 58) (A 57) (A 56) (A 59) (I 18) (I 19) (I 20) (I 21) (I 22) (I 23) (I 24) (I 25) (I 26) (I 27) (F 38) H.size (xs (i + (nI 1)).toNatClampNeg) r_m m_thrown_n m_now_n e2_) (cwV 1 hts_ gL_law_X11_strike rfl rfl rfl (by decide +kernel) ⟨Nat.le_of_ble_eq_true rfl, Nat.le_of_ble_eq_true rfl⟩) hK hN hZ hP hD hS hA rfl rfl (zrst_map zWd_len rfl) rfl rfl rfl rfl rfl hl.1 rfl (lv_room (Nat.le_of_ble_eq_true rfl)) dL_law_608 (zfit (by omega) (by omega)) (fun H locs hP1 hD1 hS => ?_)
  replace hD := zWd_D (zups [(18, m_thrown_n)] (zups [(12, x_race_runners_strikings_n)] I)) (zups [(38, m_now_n)] (zups [(26, x_race_runners_strikingOrder_n), (27, x_race_runners_struck_n)] F)) hD
  have hP := zback (W := zWd cB cI cZ A (zups [(12, x_race_runners_strikings_n)] I) (zups [(26, x_race_runners_strikingOrder_n), (27, x_race_runners_struck_n)] F)) (W' := zWd cB cI cZ A (zups [(18, m_thrown_n)] (zups [(12, x_race_runners_strikings_n)] I)) (zups [(38, m_now_n)] (zups [(26, x_race_runners_strikingOrder_n), (27, x_race_runners_struck_n)] F))) [53, 55] [0, 1, 2, 3, 4, 5, 6, 7, 8, 9, 10, 11, 12, 13, 14, 15, 16, 17, 18, 19, 20, 21, 22, 23, 24, 25, 26, 27, 28, 29, 30, 31, 32, 33, 34, 35, 36, 37, 38, 39, 40, 41, 42, 43, 44, 45, 46, 47, 48, 49, 50, 51, 52, 54, 56, 57, 58, 59] zWd_len zWd_len (by decide +kernel) (zWd_same (I := (zups [(12, x_race_runners_strikings_n)] I)) (F := (zups [(26, x_race_runners_strikingOrder_n), (27, x_race_runners_struck_n)] F)) [(18, m_thrown_n)] [(38, m_now_n)] [18] [38] _ rfl rfl (by decide +kernel)) rfl hP1
  clear hP1 hD1
  refine lv_pop hx hb dL_law_611 rfl ?_
  refine lv_goto (tgt := 1109) hx hb dL_law_612 (by decide) ?_
  refine W.widen (k := cells + 2) (n := slots + 20) (by omega) (by omega) ?_
  exact kk (zups [(18, m_thrown_n)] (zups [(12, x_race_runners_strikings_n)] I)) (zups [(38, m_now_n)] (zups [(26, x_race_runners_strikingOrder_n), (27, x_race_runners_struck_n)] F)) H locs _ hI_ hP hD hS (lv_sub hl [0, 1, 2, 3] rfl)
set_option maxHeartbeats 4000000 in
set_option maxRecDepth 100000 in
theorem zlaw_11 {p : Program} {l : Launch} {e : Env} {s : State} {m : MethodId} {below : List Frame} {meth : Method} {c : Code} {b L : Nat} {xs : Nat → Int32} {D : va_G} {cB cI cZ : ClassId} (C0 : lw_At p s m meth c b L xs) (hK : va_K D vwCl (zT cB cI cZ) s) (hN : zNest s) (hZ : zStat (fun q : Nat => s.heap.size ≤ q) s s.heap) (A : Nat → Nat) (I : Nat → Int32) (F : Nat → Nat → Int32) (j : Nat) (i : Int32) (hi : i = nI j) (hj : j + 7 ≤ L) (hL : L ≤ 3584) (hI : zIF I F) (cells slots : Nat) (hc : cells + 10 ≤ 601024) (hs : slots + 100 ≤ 7293034) (H : Heap) (locs : List Loc) (hP : va_P D vwCl (zWd cB cI cZ A I F) H) (hD : va_D (fun q : Nat => s.heap.size ≤ q) (zWd cB cI cZ A I F)) (hS : va_S (fun q : Nat => s.heap.size ≤ q) s.heap H locs) (ls : Array Slot) (hl : lv_has ls 5 [(3, .int i), (2, .ref (A 53)), (1, .ref (A 0)), (0, .ref b)]) (kk : ∀ (I : Nat → Int32) (F : Nat → Nat → Int32) (H : Heap) (locs : List Loc) (ls : Array Slot), zIF I F → va_P D vwCl (zWd cB cI cZ A I F) H → va_D (fun q : Nat => s.heap.size ≤ q) (zWd cB cI cZ A I F) → va_S (fun q : Nat => s.heap.size ≤ q) s.heap H locs → lv_has ls 5 [(3, .int i), (2, .ref (A 53)), (1, .ref (A 0)), (0, .ref b)] → W p l e room_1 s m #[Value.ref b] below meth c H locs (cells + 2) (slots + 20) (lw_Z below #[Value.ref b] s) (F0 m 1109 ls [])) : W p l e room_1 s m #[Value.ref b] below meth c H locs cells slots (lw_Z below #[Value.ref b] s) (F0 m 615 ls []) := by
  obtain ⟨hx, hb, hr, hml, hown, hts, hX, hbl, hlocks, hgv⟩ := C0
  have hA : ∀ q : Nat, s.heap.size ≤ q → (fun q : Nat => s.heap.size ≤ q) q := fun _ h => h
  have hbA : ¬ (fun q : Nat => s.heap.size ≤ q) b := Nat.not_le.mpr hbl
  have hts_ : ∀ w ∈ wsL_law, w.before #[Value.ref b] s = true := fun w h => hts w (wsL_law_in w h)
  refine lv_aload_n hx hb dL_law_615 rfl (lv_at hl 2 rfl) ?_
  obtain ⟨r_x, x_race_runners_strikings_n, x_race_runners_struck_n, r_m, m_thrown_n, m_now_n, e1_, e2_, hI_⟩ := zs_11 (I 0) (F 2) (F 6) (I 2) (I 3) (F 7) (F 8) (F 9) (F 10) (F 11) (F 12) (F 13) (I 4) (F 14) (F 15) (F 16) (F 17) (F 22) (I 11) (I 12) (F 23) (F 24) (F 25) (F 26) (F 27) (F 28) (F 29) (I 13) (F 30) (F 31) (F 32) (F 33) (I 14) (F 34) (I 18) (I 19) (I 20) (F 37) (F 38) (F 40) (F 41)  hI
  refine zVi (As := []) (rest := []) (C := RX10) (wr := zrst [1, 2, 3, 4, 5, 6, 7, 8, 9, 10, 11, 12, 13, 14, 15, 16, 17, 18, 19, 20, 21, 22, 23, 24, 25, 26, 27, 28, 29, 30, 31, 33, 34, 36, 37, 38, 41, 42, 43, 44, 45, 46, 47, 48, 49, 50, 51, 52, 53, 54, 55, 56, 57, 58, 59] (zWd cB cI cZ A I F)) [0, 32, 35, 39, 40] [1, 2, 3, 4, 5, 6, 7, 8, 9, 10, 11, 12, 13, 14, 15, 16, 17, 18, 19, 20, 21, 22, 23, 24, 25, 26, 27, 28, 29, 30, 31, 33, 34, 36, 37, 38, 41, 42, 43, 44, 45, 46, 47, 48, 49, 50, 51, 52, 53, 54, 55, 56, 57, 58, 59] 0 ⟨hx, hb, hml, hown, hts_⟩ (mX10_pardon l D cB cI cZ (A 0) (A 32) (A 10) (A 50) (A 1) (A 3) (A 48) (A 26) (A 43) (A 33) (A 35) (A 37) (A 38) (A 41) (A 36) (A 42) (A 40) (A 39) (I 0) (I 11) (I 12) (F 26) (F 27) H.size r_x x_race_runners_strikings_n x_race_runners_struck_n e1_) (cwV 0 hts_ gL_law_X10_pardon rfl rfl rfl (by decide +kernel) ⟨Nat.le_of_ble_eq_true rfl, Nat.le_of_ble_eq_true rfl⟩) hK hN hZ hP hD hS hA rfl rfl (zrst_map zWd_len rfl) rfl rfl rfl rfl rfl hl.1 rfl (lv_room (Nat.le_of_ble_eq_true rfl)) dL_law_616 (zfit (by omega) (by omega)) (fun H locs hP1 hD1 hS => ?_)
  replace hD := zWd_D (zups [(12, x_race_runners_strikings_n)] I) (zups [(27, x_race_runners_struck_n)] F) hD
  have hP := zback (W := zWd cB cI cZ A I F) (W' := zWd cB cI cZ A (zups [(12, x_race_runners_strikings_n)] I) (zups [(27, x_race_runners_struck_n)] F)) [0, 32, 35, 39, 40] [1, 2, 3, 4, 5, 6, 7, 8, 9, 10, 11, 12, 13, 14, 15, 16, 17, 18, 19, 20, 21, 22, 23, 24, 25, 26, 27, 28, 29, 30, 31, 33, 34, 36, 37, 38, 41, 42, 43, 44, 45, 46, 47, 48, 49, 50, 51, 52, 53, 54, 55, 56, 57, 58, 59] zWd_len zWd_len (by decide +kernel) (zWd_same (I := I) (F := F) [(12, x_race_runners_strikings_n)] [(27, x_race_runners_struck_n)] [12] [27] _ rfl rfl (by decide +kernel)) rfl hP1
  clear hP1 hD1
  refine lv_pop hx hb dL_law_619 rfl ?_
  refine lv_aload_n hx hb dL_law_620 rfl (lv_at hl 1 rfl) ?_
  refine zVi (As := []) (rest := []) (C := RX11) (wr := zrst [0, 1, 2, 3, 4, 5, 6, 7, 8, 9, 10, 11, 12, 13, 14, 15, 16, 17, 18, 19, 20, 21, 22, 23, 24, 25, 26, 27, 28, 29, 30, 31, 32, 33, 34, 35, 36, 37, 38, 39, 40, 41, 42, 43, 44, 45, 46, 47, 48, 49, 50, 51, 52, 54, 56, 57, 58, 59] (zWd cB cI cZ A (zups [(12, x_race_runners_strikings_n)] I) (zups [(27, x_race_runners_struck_n)] F))) [53, 55] [0, 1, 2, 3, 4, 5, 6, 7, 8, 9, 10, 11, 12, 13, 14, 15, 16, 17, 18, 19, 20, 21, 22, 23, 24, 25, 26, 27, 28, 29, 30, 31, 32, 33, 34, 35, 36, 37, 38, 39, 40, 41, 42, 43, 44, 45, 46, 47, 48, 49, 50, 51, 52, 54, 56, 57, 58, 59] 0 ⟨hx, hb, hml, hown, hts_⟩ (mX11_pardon l D cB cI cZ (A 53) (A 55) (A 54) (A 58) (A 57) (A 56) (A 59) (I 18) (I 19) (I 20) (I 21) (I 22) (I 23) (I 24) (I 25) (I 26) (I 27) (F 38) H.size r_m m_thrown_n m_now_n e2_) (cwV 0 hts_ gL_law_X11_pardon rfl rfl rfl (by decide +kernel) ⟨Nat.le_of_ble_eq_true rfl, Nat.le_of_ble_eq_true rfl⟩) hK hN hZ hP hD hS hA rfl rfl (zrst_map zWd_len rfl) rfl rfl rfl rfl rfl hl.1 rfl (lv_room (Nat.le_of_ble_eq_true rfl)) dL_law_621 (zfit (by omega) (by omega)) (fun H locs hP1 hD1 hS => ?_)
  replace hD := zWd_D (zups [(18, m_thrown_n)] (zups [(12, x_race_runners_strikings_n)] I)) (zups [(38, m_now_n)] (zups [(27, x_race_runners_struck_n)] F)) hD
  have hP := zback (W := zWd cB cI cZ A (zups [(12, x_race_runners_strikings_n)] I) (zups [(27, x_race_runners_struck_n)] F)) (W' := zWd cB cI cZ A (zups [(18, m_thrown_n)] (zups [(12, x_race_runners_strikings_n)] I)) (zups [(38, m_now_n)] (zups [(27, x_race_runners_struck_n)] F))) [53, 55] [0, 1, 2, 3, 4, 5, 6, 7, 8, 9, 10, 11, 12, 13, 14, 15, 16, 17, 18, 19, 20, 21, 22, 23, 24, 25, 26, 27, 28, 29, 30, 31, 32, 33, 34, 35, 36, 37, 38, 39, 40, 41, 42, 43, 44, 45, 46, 47, 48, 49, 50, 51, 52, 54, 56, 57, 58, 59] zWd_len zWd_len (by decide +kernel) (zWd_same (I := (zups [(12, x_race_runners_strikings_n)] I)) (F := (zups [(27, x_race_runners_struck_n)] F)) [(18, m_thrown_n)] [(38, m_now_n)] [18] [38] _ rfl rfl (by decide +kernel)) rfl hP1
  clear hP1 hD1
  refine lv_pop hx hb dL_law_624 rfl ?_
  refine lv_goto (tgt := 1109) hx hb dL_law_625 (by decide) ?_
  refine W.widen (k := cells + 2) (n := slots + 20) (by omega) (by omega) ?_
  exact kk (zups [(18, m_thrown_n)] (zups [(12, x_race_runners_strikings_n)] I)) (zups [(38, m_now_n)] (zups [(27, x_race_runners_struck_n)] F)) H locs _ hI_ hP hD hS (lv_sub hl [0, 1, 2, 3] rfl)
set_option maxHeartbeats 4000000 in
set_option maxRecDepth 100000 in
theorem zlaw_12 {p : Program} {l : Launch} {e : Env} {s : State} {m : MethodId} {below : List Frame} {meth : Method} {c : Code} {b L : Nat} {xs : Nat → Int32} {D : va_G} {cB cI cZ : ClassId} (C0 : lw_At p s m meth c b L xs) (hK : va_K D vwCl (zT cB cI cZ) s) (hN : zNest s) (hZ : zStat (fun q : Nat => s.heap.size ≤ q) s s.heap) (A : Nat → Nat) (I : Nat → Int32) (F : Nat → Nat → Int32) (j : Nat) (i : Int32) (hi : i = nI j) (hj : j + 7 ≤ L) (hL : L ≤ 3584) (hI : zIF I F) (cells slots : Nat) (hc : cells + 10 ≤ 601024) (hs : slots + 100 ≤ 7293034) (H : Heap) (locs : List Loc) (hP : va_P D vwCl (zWd cB cI cZ A I F) H) (hD : va_D (fun q : Nat => s.heap.size ≤ q) (zWd cB cI cZ A I F)) (hS : va_S (fun q : Nat => s.heap.size ≤ q) s.heap H locs) (ls : Array Slot) (hl : lv_has ls 5 [(3, .int i), (2, .ref (A 53)), (1, .ref (A 0)), (0, .ref b)]) (kk : ∀ (I : Nat → Int32) (F : Nat → Nat → Int32) (H : Heap) (locs : List Loc) (ls : Array Slot), zIF I F → va_P D vwCl (zWd cB cI cZ A I F) H → va_D (fun q : Nat => s.heap.size ≤ q) (zWd cB cI cZ A I F) → va_S (fun q : Nat => s.heap.size ≤ q) s.heap H locs → lv_has ls 5 [(3, .int i), (2, .ref (A 53)), (1, .ref (A 0)), (0, .ref b)] → W p l e room_1 s m #[Value.ref b] below meth c H locs (cells + 2) (slots + 20) (lw_Z below #[Value.ref b] s) (F0 m 1109 ls [])) : W p l e room_1 s m #[Value.ref b] below meth c H locs cells slots (lw_Z below #[Value.ref b] s) (F0 m 628 ls []) := by
  obtain ⟨hx, hb, hr, hml, hown, hts, hX, hbl, hlocks, hgv⟩ := C0
  have hA : ∀ q : Nat, s.heap.size ≤ q → (fun q : Nat => s.heap.size ≤ q) q := fun _ h => h
  have hbA : ¬ (fun q : Nat => s.heap.size ≤ q) b := Nat.not_le.mpr hbl
  have hts_ : ∀ w ∈ wsL_law, w.before #[Value.ref b] s = true := fun w h => hts w (wsL_law_in w h)
  have h1_ : vp_in (i + (nI 1)) L := by rw [hi]; show vp_in (nI j + nI 1) L; rw [nI_add]; exact vp_in_nI (by omega) (by omega)
  have h2_ : vp_in (i + (nI 2)) L := by rw [hi]; show vp_in (nI j + nI 2) L; rw [nI_add]; exact vp_in_nI (by omega) (by omega)
  refine lv_aload_n hx hb dL_law_628 rfl (lv_at hl 2 rfl) ?_
  refine lv_aload_n hx hb dL_law_629 rfl (lv_at hl 3 rfl) ?_
  refine lv_iload_n hx hb dL_law_630 rfl (lv_at hl 0 rfl) ?_
  refine lv_iconst (v := (nI 1)) hx hb dL_law_631 rfl ?_
  refine lv_iadd hx hb dL_law_632 ?_
  refine va_sld hx hb hX hbl hbA hS h1_ dL_law_633 ?_
  refine lv_aload_n hx hb dL_law_634 rfl (lv_at hl 3 rfl) ?_
  refine lv_iload_n hx hb dL_law_635 rfl (lv_at hl 0 rfl) ?_
  refine lv_iconst (v := (nI 2)) hx hb dL_law_636 rfl ?_
  refine lv_iadd hx hb dL_law_637 ?_
  refine va_sld hx hb hX hbl hbA hS h2_ dL_law_638 ?_
  obtain ⟨r_x, r_m, m_thrown_n, e1_, e2_, hI_⟩ := zs_12 (I 0) (F 2) (F 6) (I 2) (I 3) (F 7) (F 8) (F 9) (F 10) (F 11) (F 12) (F 13) (I 4) (F 14) (F 15) (F 16) (F 17) (F 22) (I 11) (I 12) (F 23) (F 24) (F 25) (F 26) (F 27) (F 28) (F 29) (I 13) (F 30) (F 31) (F 32) (F 33) (I 14) (F 34) (I 18) (I 19) (I 20) (F 37) (F 38) (F 40) (F 41) (xs (i + (nI 1)).toNatClampNeg) (xs (i + (nI 2)).toNatClampNeg) hI
  refine zVi (As := [.int (xs (i + (nI 1)).toNatClampNeg), .int (xs (i + (nI 2)).toNatClampNeg)]) (rest := []) (C := RX10) (wr := zrst [1, 2, 3, 4, 5, 6, 7, 8, 9, 10, 11, 12, 13, 14, 15, 16, 17, 18, 19, 20, 21, 22, 23, 24, 25, 26, 27, 28, 29, 30, 31, 39, 44, 46, 48, 49, 50, 51, 52, 53, 54, 55, 56, 57, 58, 59] (zWd cB cI cZ A I F)) [0, 32, 33, 34, 35, 36, 37, 38, 40, 41, 42, 43, 45, 47] [1, 2, 3, 4, 5, 6, 7, 8, 9, 10, 11, 12, 13, 14, 15, 16, 17, 18, 19, 20, 21, 22, 23, 24, 25, 26, 27, 28, 29, 30, 31, 39, 44, 46, 48, 49, 50, 51, 52, 53, 54, 55, 56, 57, 58, 59] 0 ⟨hx, hb, hml, hown, hts_⟩ (mX10_told l D cB cI cZ (A 0) (A 32) (A 10) (A 50) (A 1) (A 3) (A 48) (A 26) (A 43) (A 33) (A 35) (A 34) (A 37) (A 38) (A 41) (A 36) (A 42) (A 40) (A 39) (A 47) (A 44) (A 45) (A 46) (I 0) (F 22) (I 11) (I 12) (F 23) (F 24) (F 25) (F 27) (F 28) (F 29) (I 13) (F 31) (F 33) H.size (xs (i + (nI 1)).toNatClampNeg) (xs (i + (nI 2)).toNatClampNeg) zN r_x e1_) (cwV 2 hts_ gL_law_X10_told rfl rfl rfl (by decide +kernel) ⟨Nat.le_of_ble_eq_true rfl, Nat.le_of_ble_eq_true rfl⟩) hK hN hZ hP hD hS hA rfl rfl (zrst_map zWd_len rfl) rfl rfl rfl rfl rfl hl.1 rfl (lv_room (Nat.le_of_ble_eq_true rfl)) dL_law_639 (zfit (by omega) (by omega)) (fun H locs hP1 hD1 hS => ?_)
  replace hD := zWd_D (zups [] I) (zups [] F) hD
  have hP := zback (W := zWd cB cI cZ A I F) (W' := zWd cB cI cZ A (zups [] I) (zups [] F)) [0, 32, 33, 34, 35, 36, 37, 38, 40, 41, 42, 43, 45, 47] [1, 2, 3, 4, 5, 6, 7, 8, 9, 10, 11, 12, 13, 14, 15, 16, 17, 18, 19, 20, 21, 22, 23, 24, 25, 26, 27, 28, 29, 30, 31, 39, 44, 46, 48, 49, 50, 51, 52, 53, 54, 55, 56, 57, 58, 59] zWd_len zWd_len (by decide +kernel) (zWd_same (I := I) (F := F) [] [] [] [] _ rfl rfl (by decide +kernel)) rfl hP1
  clear hP1 hD1
  refine lv_pop hx hb dL_law_642 rfl ?_
  refine lv_aload_n hx hb dL_law_643 rfl (lv_at hl 1 rfl) ?_
  refine lv_aload_n hx hb dL_law_644 rfl (lv_at hl 3 rfl) ?_
  refine lv_iload_n hx hb dL_law_645 rfl (lv_at hl 0 rfl) ?_
  refine lv_iconst (v := (nI 1)) hx hb dL_law_646 rfl ?_
  refine lv_iadd hx hb dL_law_647 ?_
  refine va_sld hx hb hX hbl hbA hS h1_ dL_law_648 ?_
  refine lv_aload_n hx hb dL_law_649 rfl (lv_at hl 3 rfl) ?_
  refine lv_iload_n hx hb dL_law_650 rfl (lv_at hl 0 rfl) ?_
  refine lv_iconst (v := (nI 2)) hx hb dL_law_651 rfl ?_
  refine lv_iadd hx hb dL_law_652 ?_
  refine va_sld hx hb hX hbl hbA hS h2_ dL_law_653 ?_
  refine zVi (As := [.int (xs (i + (nI 1)).toNatClampNeg), .int (xs (i + (nI 2)).toNatClampNeg)]) (rest := []) (C := RX11) (wr := zrst [0, 1, 2, 3, 4, 5, 6, 7, 8, 9, 10, 11, 12, 13, 14, 15, 16, 17, 18, 19, 20, 21, 22, 23, 24, 25, 26, 27, 28, 29, 30, 31, 32, 33, 34, 35, 36, 37, 38, 39, 40, 41, 42, 43, 44, 45, 46, 47, 48, 49, 50, 51, 52, 54, 56, 57, 58, 59] (zWd cB cI cZ A (zups [] I) (zups [] F))) [53, 55] [0, 1, 2, 3, 4, 5, 6, 7, 8, 9, 10, 11, 12, 13, 14, 15, 16, 17, 18, 19, 20, 21, 22, 23, 24, 25, 26, 27, 28, 29, 30, 31, 32, 33, 34, 35, 36, 37, 38, 39, 40, 41, 42, 43, 44, 45, 46, 47, 48, 49, 50, 51, 52, 54, 56, 57, 58, 59] 0 ⟨hx, hb, hml, hown, hts_⟩ (mX11_told l D cB cI cZ (A 53) (A 55) (A 54) (A 58) (A 57) (A 56) (A 59) (I 18) (I 19) (I 20) (I 21) (I 22) (I 23) (I 24) (I 25) (I 26) (I 27) (F 38) H.size (xs (i + (nI 1)).toNatClampNeg) (xs (i + (nI 2)).toNatClampNeg) zN r_m m_thrown_n e2_) (cwV 2 hts_ gL_law_X11_told rfl rfl rfl (by decide +kernel) ⟨Nat.le_of_ble_eq_true rfl, Nat.le_of_ble_eq_true rfl⟩) hK hN hZ hP hD hS hA rfl rfl (zrst_map zWd_len rfl) rfl rfl rfl rfl rfl hl.1 rfl (lv_room (Nat.le_of_ble_eq_true rfl)) dL_law_654 (zfit (by omega) (by omega)) (fun H locs hP1 hD1 hS => ?_)
  replace hD := zWd_D (zups [(18, m_thrown_n)] (zups [] I)) (zups [] (zups [] F)) hD
  have hP := zback (W := zWd cB cI cZ A (zups [] I) (zups [] F)) (W' := zWd cB cI cZ A (zups [(18, m_thrown_n)] (zups [] I)) (zups [] (zups [] F))) [53, 55] [0, 1, 2, 3, 4, 5, 6, 7, 8, 9, 10, 11, 12, 13, 14, 15, 16, 17, 18, 19, 20, 21, 22, 23, 24, 25, 26, 27, 28, 29, 30, 31, 32, 33, 34, 35, 36, 37, 38, 39, 40, 41, 42, 43, 44, 45, 46, 47, 48, 49, 50, 51, 52, 54, 56, 57, 58, 59] zWd_len zWd_len (by decide +kernel) (zWd_same (I := (zups [] I)) (F := (zups [] F)) [(18, m_thrown_n)] [] [18] [] _ rfl rfl (by decide +kernel)) rfl hP1
  clear hP1 hD1
  refine lv_pop hx hb dL_law_657 rfl ?_
  refine lv_goto (tgt := 1109) hx hb dL_law_658 (by decide) ?_
  refine W.widen (k := cells + 2) (n := slots + 20) (by omega) (by omega) ?_
  exact kk (zups [(18, m_thrown_n)] (zups [] I)) (zups [] (zups [] F)) H locs _ hI_ hP hD hS (lv_sub hl [0, 1, 2, 3] rfl)
set_option maxHeartbeats 4000000 in
set_option maxRecDepth 100000 in
theorem zlaw_13 {p : Program} {l : Launch} {e : Env} {s : State} {m : MethodId} {below : List Frame} {meth : Method} {c : Code} {b L : Nat} {xs : Nat → Int32} {D : va_G} {cB cI cZ : ClassId} (C0 : lw_At p s m meth c b L xs) (hK : va_K D vwCl (zT cB cI cZ) s) (hN : zNest s) (hZ : zStat (fun q : Nat => s.heap.size ≤ q) s s.heap) (A : Nat → Nat) (I : Nat → Int32) (F : Nat → Nat → Int32) (j : Nat) (i : Int32) (hi : i = nI j) (hj : j + 7 ≤ L) (hL : L ≤ 3584) (hI : zIF I F) (cells slots : Nat) (hc : cells + 10 ≤ 601024) (hs : slots + 100 ≤ 7293034) (H : Heap) (locs : List Loc) (hP : va_P D vwCl (zWd cB cI cZ A I F) H) (hD : va_D (fun q : Nat => s.heap.size ≤ q) (zWd cB cI cZ A I F)) (hS : va_S (fun q : Nat => s.heap.size ≤ q) s.heap H locs) (ls : Array Slot) (hl : lv_has ls 5 [(3, .int i), (2, .ref (A 53)), (1, .ref (A 0)), (0, .ref b)]) (kk : ∀ (I : Nat → Int32) (F : Nat → Nat → Int32) (H : Heap) (locs : List Loc) (ls : Array Slot), zIF I F → va_P D vwCl (zWd cB cI cZ A I F) H → va_D (fun q : Nat => s.heap.size ≤ q) (zWd cB cI cZ A I F) → va_S (fun q : Nat => s.heap.size ≤ q) s.heap H locs → lv_has ls 5 [(3, .int i), (2, .ref (A 53)), (1, .ref (A 0)), (0, .ref b)] → W p l e room_1 s m #[Value.ref b] below meth c H locs (cells + 2) (slots + 20) (lw_Z below #[Value.ref b] s) (F0 m 1109 ls [])) : W p l e room_1 s m #[Value.ref b] below meth c H locs cells slots (lw_Z below #[Value.ref b] s) (F0 m 661 ls []) := by
  obtain ⟨hx, hb, hr, hml, hown, hts, hX, hbl, hlocks, hgv⟩ := C0
  have hA : ∀ q : Nat, s.heap.size ≤ q → (fun q : Nat => s.heap.size ≤ q) q := fun _ h => h
  have hbA : ¬ (fun q : Nat => s.heap.size ≤ q) b := Nat.not_le.mpr hbl
  have hts_ : ∀ w ∈ wsL_law, w.before #[Value.ref b] s = true := fun w h => hts w (wsL_law_in w h)
  have h1_ : vp_in (i + (nI 1)) L := by rw [hi]; show vp_in (nI j + nI 1) L; rw [nI_add]; exact vp_in_nI (by omega) (by omega)
  have h2_ : vp_in (i + (nI 2)) L := by rw [hi]; show vp_in (nI j + nI 2) L; rw [nI_add]; exact vp_in_nI (by omega) (by omega)
  refine lv_aload_n hx hb dL_law_661 rfl (lv_at hl 2 rfl) ?_
  refine lv_aload_n hx hb dL_law_662 rfl (lv_at hl 3 rfl) ?_
  refine lv_iload_n hx hb dL_law_663 rfl (lv_at hl 0 rfl) ?_
  refine lv_iconst (v := (nI 1)) hx hb dL_law_664 rfl ?_
  refine lv_iadd hx hb dL_law_665 ?_
  refine va_sld hx hb hX hbl hbA hS h1_ dL_law_666 ?_
  refine lv_aload_n hx hb dL_law_667 rfl (lv_at hl 3 rfl) ?_
  refine lv_iload_n hx hb dL_law_668 rfl (lv_at hl 0 rfl) ?_
  refine lv_iconst (v := (nI 2)) hx hb dL_law_669 rfl ?_
  refine lv_iadd hx hb dL_law_670 ?_
  refine va_sld hx hb hX hbl hbA hS h2_ dL_law_671 ?_
  obtain ⟨r_x, r_m, m_thrown_n, e1_, e2_, hI_⟩ := zs_13 (I 0) (F 2) (F 6) (I 2) (I 3) (F 7) (F 8) (F 9) (F 10) (F 11) (F 12) (F 13) (I 4) (F 14) (F 15) (F 16) (F 17) (F 22) (I 11) (I 12) (F 23) (F 24) (F 25) (F 26) (F 27) (F 28) (F 29) (I 13) (F 30) (F 31) (F 32) (F 33) (I 14) (F 34) (I 18) (I 19) (I 20) (F 37) (F 38) (F 40) (F 41) (xs (i + (nI 1)).toNatClampNeg) (xs (i + (nI 2)).toNatClampNeg) hI
  refine zVi (As := [.int (xs (i + (nI 1)).toNatClampNeg), .int (xs (i + (nI 2)).toNatClampNeg)]) (rest := []) (C := RX10) (wr := zrst [1, 2, 3, 4, 5, 6, 7, 8, 9, 10, 11, 12, 13, 14, 15, 16, 17, 18, 19, 20, 21, 22, 23, 24, 25, 26, 27, 28, 29, 30, 31, 33, 34, 36, 37, 39, 40, 41, 42, 44, 45, 46, 47, 48, 49, 50, 51, 52, 53, 54, 55, 56, 57, 58, 59] (zWd cB cI cZ A I F)) [0, 32, 35, 38, 43] [1, 2, 3, 4, 5, 6, 7, 8, 9, 10, 11, 12, 13, 14, 15, 16, 17, 18, 19, 20, 21, 22, 23, 24, 25, 26, 27, 28, 29, 30, 31, 33, 34, 36, 37, 39, 40, 41, 42, 44, 45, 46, 47, 48, 49, 50, 51, 52, 53, 54, 55, 56, 57, 58, 59] 0 ⟨hx, hb, hml, hown, hts_⟩ (mX10_split l D cB cI cZ (A 0) (A 32) (A 10) (A 50) (A 1) (A 3) (A 48) (A 26) (A 43) (A 33) (A 35) (A 37) (A 38) (A 41) (A 36) (A 42) (A 40) (A 39) (A 47) (A 44) (A 45) (A 46) (I 0) (I 11) (I 12) (F 25) (I 13) H.size (xs (i + (nI 1)).toNatClampNeg) (xs (i + (nI 2)).toNatClampNeg) r_x e1_) (cwV 2 hts_ gL_law_X10_split rfl rfl rfl (by decide +kernel) ⟨Nat.le_of_ble_eq_true rfl, Nat.le_of_ble_eq_true rfl⟩) hK hN hZ hP hD hS hA rfl rfl (zrst_map zWd_len rfl) rfl rfl rfl rfl rfl hl.1 rfl (lv_room (Nat.le_of_ble_eq_true rfl)) dL_law_672 (zfit (by omega) (by omega)) (fun H locs hP1 hD1 hS => ?_)
  replace hD := zWd_D (zups [] I) (zups [] F) hD
  have hP := zback (W := zWd cB cI cZ A I F) (W' := zWd cB cI cZ A (zups [] I) (zups [] F)) [0, 32, 35, 38, 43] [1, 2, 3, 4, 5, 6, 7, 8, 9, 10, 11, 12, 13, 14, 15, 16, 17, 18, 19, 20, 21, 22, 23, 24, 25, 26, 27, 28, 29, 30, 31, 33, 34, 36, 37, 39, 40, 41, 42, 44, 45, 46, 47, 48, 49, 50, 51, 52, 53, 54, 55, 56, 57, 58, 59] zWd_len zWd_len (by decide +kernel) (zWd_same (I := I) (F := F) [] [] [] [] _ rfl rfl (by decide +kernel)) rfl hP1
  clear hP1 hD1
  refine lv_pop hx hb dL_law_675 rfl ?_
  refine lv_aload_n hx hb dL_law_676 rfl (lv_at hl 1 rfl) ?_
  refine lv_aload_n hx hb dL_law_677 rfl (lv_at hl 3 rfl) ?_
  refine lv_iload_n hx hb dL_law_678 rfl (lv_at hl 0 rfl) ?_
  refine lv_iconst (v := (nI 1)) hx hb dL_law_679 rfl ?_
  refine lv_iadd hx hb dL_law_680 ?_
  refine va_sld hx hb hX hbl hbA hS h1_ dL_law_681 ?_
  refine lv_aload_n hx hb dL_law_682 rfl (lv_at hl 3 rfl) ?_
  refine lv_iload_n hx hb dL_law_683 rfl (lv_at hl 0 rfl) ?_
  refine lv_iconst (v := (nI 2)) hx hb dL_law_684 rfl ?_
  refine lv_iadd hx hb dL_law_685 ?_
  refine va_sld hx hb hX hbl hbA hS h2_ dL_law_686 ?_
  refine zVi (As := [.int (xs (i + (nI 1)).toNatClampNeg), .int (xs (i + (nI 2)).toNatClampNeg)]) (rest := []) (C := RX11) (wr := zrst [0, 1, 2, 3, 4, 5, 6, 7, 8, 9, 10, 11, 12, 13, 14, 15, 16, 17, 18, 19, 20, 21, 22, 23, 24, 25, 26, 27, 28, 29, 30, 31, 32, 33, 34, 35, 36, 37, 38, 39, 40, 41, 42, 43, 44, 45, 46, 47, 48, 49, 50, 51, 52, 54, 56, 57, 58, 59] (zWd cB cI cZ A (zups [] I) (zups [] F))) [53, 55] [0, 1, 2, 3, 4, 5, 6, 7, 8, 9, 10, 11, 12, 13, 14, 15, 16, 17, 18, 19, 20, 21, 22, 23, 24, 25, 26, 27, 28, 29, 30, 31, 32, 33, 34, 35, 36, 37, 38, 39, 40, 41, 42, 43, 44, 45, 46, 47, 48, 49, 50, 51, 52, 54, 56, 57, 58, 59] 0 ⟨hx, hb, hml, hown, hts_⟩ (mX11_split l D cB cI cZ (A 53) (A 55) (A 54) (A 58) (A 57) (A 56) (A 59) (I 18) (I 19) (I 20) (I 21) (I 22) (I 23) (I 24) (I 25) (I 26) (I 27) (F 38) H.size (xs (i + (nI 1)).toNatClampNeg) (xs (i + (nI 2)).toNatClampNeg) r_m m_thrown_n e2_) (cwV 2 hts_ gL_law_X11_split rfl rfl rfl (by decide +kernel) ⟨Nat.le_of_ble_eq_true rfl, Nat.le_of_ble_eq_true rfl⟩) hK hN hZ hP hD hS hA rfl rfl (zrst_map zWd_len rfl) rfl rfl rfl rfl rfl hl.1 rfl (lv_room (Nat.le_of_ble_eq_true rfl)) dL_law_687 (zfit (by omega) (by omega)) (fun H locs hP1 hD1 hS => ?_)
  replace hD := zWd_D (zups [(18, m_thrown_n)] (zups [] I)) (zups [] (zups [] F)) hD
  have hP := zback (W := zWd cB cI cZ A (zups [] I) (zups [] F)) (W' := zWd cB cI cZ A (zups [(18, m_thrown_n)] (zups [] I)) (zups [] (zups [] F))) [53, 55] [0, 1, 2, 3, 4, 5, 6, 7, 8, 9, 10, 11, 12, 13, 14, 15, 16, 17, 18, 19, 20, 21, 22, 23, 24, 25, 26, 27, 28, 29, 30, 31, 32, 33, 34, 35, 36, 37, 38, 39, 40, 41, 42, 43, 44, 45, 46, 47, 48, 49, 50, 51, 52, 54, 56, 57, 58, 59] zWd_len zWd_len (by decide +kernel) (zWd_same (I := (zups [] I)) (F := (zups [] F)) [(18, m_thrown_n)] [] [18] [] _ rfl rfl (by decide +kernel)) rfl hP1
  clear hP1 hD1
  refine lv_pop hx hb dL_law_690 rfl ?_
  refine lv_goto (tgt := 1109) hx hb dL_law_691 (by decide) ?_
  refine W.widen (k := cells + 2) (n := slots + 20) (by omega) (by omega) ?_
  exact kk (zups [(18, m_thrown_n)] (zups [] I)) (zups [] (zups [] F)) H locs _ hI_ hP hD hS (lv_sub hl [0, 1, 2, 3] rfl)
set_option maxHeartbeats 4000000 in
set_option maxRecDepth 100000 in
theorem zlaw_14 {p : Program} {l : Launch} {e : Env} {s : State} {m : MethodId} {below : List Frame} {meth : Method} {c : Code} {b L : Nat} {xs : Nat → Int32} {D : va_G} {cB cI cZ : ClassId} (C0 : lw_At p s m meth c b L xs) (hK : va_K D vwCl (zT cB cI cZ) s) (hN : zNest s) (hZ : zStat (fun q : Nat => s.heap.size ≤ q) s s.heap) (A : Nat → Nat) (I : Nat → Int32) (F : Nat → Nat → Int32) (j : Nat) (i : Int32) (hi : i = nI j) (hj : j + 7 ≤ L) (hL : L ≤ 3584) (hI : zIF I F) (cells slots : Nat) (hc : cells + 10 ≤ 601024) (hs : slots + 100 ≤ 7293034) (H : Heap) (locs : List Loc) (hP : va_P D vwCl (zWd cB cI cZ A I F) H) (hD : va_D (fun q : Nat => s.heap.size ≤ q) (zWd cB cI cZ A I F)) (hS : va_S (fun q : Nat => s.heap.size ≤ q) s.heap H locs) (ls : Array Slot) (hl : lv_has ls 5 [(3, .int i), (2, .ref (A 53)), (1, .ref (A 0)), (0, .ref b)]) (kk : ∀ (I : Nat → Int32) (F : Nat → Nat → Int32) (H : Heap) (locs : List Loc) (ls : Array Slot), zIF I F → va_P D vwCl (zWd cB cI cZ A I F) H → va_D (fun q : Nat => s.heap.size ≤ q) (zWd cB cI cZ A I F) → va_S (fun q : Nat => s.heap.size ≤ q) s.heap H locs → lv_has ls 5 [(3, .int i), (2, .ref (A 53)), (1, .ref (A 0)), (0, .ref b)] → W p l e room_1 s m #[Value.ref b] below meth c H locs (cells + 2) (slots + 20) (lw_Z below #[Value.ref b] s) (F0 m 1109 ls [])) : W p l e room_1 s m #[Value.ref b] below meth c H locs cells slots (lw_Z below #[Value.ref b] s) (F0 m 694 ls []) := by
  obtain ⟨hx, hb, hr, hml, hown, hts, hX, hbl, hlocks, hgv⟩ := C0
  have hA : ∀ q : Nat, s.heap.size ≤ q → (fun q : Nat => s.heap.size ≤ q) q := fun _ h => h
  have hbA : ¬ (fun q : Nat => s.heap.size ≤ q) b := Nat.not_le.mpr hbl
  have hts_ : ∀ w ∈ wsL_law, w.before #[Value.ref b] s = true := fun w h => hts w (wsL_law_in w h)
  have h1_ : vp_in (i + (nI 1)) L := by rw [hi]; show vp_in (nI j + nI 1) L; rw [nI_add]; exact vp_in_nI (by omega) (by omega)
  have h2_ : vp_in (i + (nI 2)) L := by rw [hi]; show vp_in (nI j + nI 2) L; rw [nI_add]; exact vp_in_nI (by omega) (by omega)
  have h3_ : vp_in (i + (nI 3)) L := by rw [hi]; show vp_in (nI j + nI 3) L; rw [nI_add]; exact vp_in_nI (by omega) (by omega)
  refine lv_aload_n hx hb dL_law_694 rfl (lv_at hl 2 rfl) ?_
  refine lv_aload_n hx hb dL_law_695 rfl (lv_at hl 3 rfl) ?_
  refine lv_iload_n hx hb dL_law_696 rfl (lv_at hl 0 rfl) ?_
  refine lv_iconst (v := (nI 1)) hx hb dL_law_697 rfl ?_
  refine lv_iadd hx hb dL_law_698 ?_
  refine va_sld hx hb hX hbl hbA hS h1_ dL_law_699 ?_
  refine lv_aload_n hx hb dL_law_700 rfl (lv_at hl 3 rfl) ?_
  refine lv_iload_n hx hb dL_law_701 rfl (lv_at hl 0 rfl) ?_
  refine lv_iconst (v := (nI 2)) hx hb dL_law_702 rfl ?_
  refine lv_iadd hx hb dL_law_703 ?_
  refine va_sld hx hb hX hbl hbA hS h2_ dL_law_704 ?_
  refine lv_aload_n hx hb dL_law_705 rfl (lv_at hl 3 rfl) ?_
  refine lv_iload_n hx hb dL_law_706 rfl (lv_at hl 0 rfl) ?_
  refine lv_iconst (v := (nI 3)) hx hb dL_law_707 rfl ?_
  refine lv_iadd hx hb dL_law_708 ?_
  refine va_sld hx hb hX hbl hbA hS h3_ dL_law_709 ?_
  refine lv_if_eq (tgt := 717) hx hb dL_law_710 (by decide) (fun c1 => ?_) (fun c1 => ?_)
  · refine lv_iconst (v := (nI 0)) hx hb dL_law_717 rfl ?_
    obtain ⟨r_x, x_trail_greatest_n, x_trail_least_n, x_trail_mats_n, x_trail_places_n, x_trail_ticks_n, r_m, m_thrown_n, e1_, e2_, hI_⟩ := zs_14 (I 0) (F 2) (F 6) (I 2) (I 3) (F 7) (F 8) (F 9) (F 10) (F 11) (F 12) (F 13) (I 4) (F 14) (F 15) (F 16) (F 17) (F 22) (I 11) (I 12) (F 23) (F 24) (F 25) (F 26) (F 27) (F 28) (F 29) (I 13) (F 30) (F 31) (F 32) (F 33) (I 14) (F 34) (I 15) (I 16) (I 17) (F 35) (F 36) (I 18) (I 19) (I 20) (F 37) (F 38) (F 40) (F 41) (xs (i + (nI 1)).toNatClampNeg) (xs (i + (nI 2)).toNatClampNeg) (nI 0) (by decide) hI
    refine zVi (As := [.int (xs (i + (nI 1)).toNatClampNeg), .int (xs (i + (nI 2)).toNatClampNeg), .int (nI 0)]) (rest := []) (C := RX10) (wr := zrst [1, 2, 3, 4, 5, 6, 7, 8, 9, 10, 11, 12, 13, 14, 15, 16, 17, 18, 19, 20, 21, 22, 23, 24, 25, 26, 27, 28, 29, 30, 31, 36, 39, 40, 41, 42, 44, 45, 46, 48, 49, 53, 54, 55, 56, 57, 58, 59] (zWd cB cI cZ A I F)) [0, 32, 33, 34, 35, 37, 38, 43, 47, 50, 51, 52] [1, 2, 3, 4, 5, 6, 7, 8, 9, 10, 11, 12, 13, 14, 15, 16, 17, 18, 19, 20, 21, 22, 23, 24, 25, 26, 27, 28, 29, 30, 31, 36, 39, 40, 41, 42, 44, 45, 46, 48, 49, 53, 54, 55, 56, 57, 58, 59] 0 ⟨hx, hb, hml, hown, hts_⟩ (mX10_guess l D cB cI cZ (A 0) (A 32) (A 10) (A 50) (A 1) (A 3) (A 48) (A 26) (A 43) (A 33) (A 35) (A 34) (A 37) (A 38) (A 41) (A 36) (A 42) (A 40) (A 39) (A 47) (A 44) (A 45) (A 46) (A 52) (A 51) (I 0) (F 22) (I 11) (I 12) (F 24) (F 25) (I 13) (F 33) (I 15) (I 16) (I 17) (F 35) (F 36) H.size (xs (i + (nI 1)).toNatClampNeg) (xs (i + (nI 2)).toNatClampNeg) (nI 0) zN r_x x_trail_greatest_n x_trail_least_n x_trail_mats_n x_trail_places_n x_trail_ticks_n e1_) (cwV 3 hts_ gL_law_X10_guess rfl rfl rfl (by decide +kernel) ⟨Nat.le_of_ble_eq_true rfl, Nat.le_of_ble_eq_true rfl⟩) hK hN hZ hP hD hS hA rfl rfl (zrst_map zWd_len rfl) rfl rfl rfl rfl rfl hl.1 rfl (lv_room (Nat.le_of_ble_eq_true rfl)) dL_law_718 (zfit (by omega) (by omega)) (fun H locs hP1 hD1 hS => ?_)
    replace hD := zWd_D (zups [(17, x_trail_greatest_n), (16, x_trail_least_n), (15, x_trail_mats_n)] I) (zups [(35, x_trail_places_n), (36, x_trail_ticks_n)] F) hD
    have hP := zback (W := zWd cB cI cZ A I F) (W' := zWd cB cI cZ A (zups [(17, x_trail_greatest_n), (16, x_trail_least_n), (15, x_trail_mats_n)] I) (zups [(35, x_trail_places_n), (36, x_trail_ticks_n)] F)) [0, 32, 33, 34, 35, 37, 38, 43, 47, 50, 51, 52] [1, 2, 3, 4, 5, 6, 7, 8, 9, 10, 11, 12, 13, 14, 15, 16, 17, 18, 19, 20, 21, 22, 23, 24, 25, 26, 27, 28, 29, 30, 31, 36, 39, 40, 41, 42, 44, 45, 46, 48, 49, 53, 54, 55, 56, 57, 58, 59] zWd_len zWd_len (by decide +kernel) (zWd_same (I := I) (F := F) [(17, x_trail_greatest_n), (16, x_trail_least_n), (15, x_trail_mats_n)] [(35, x_trail_places_n), (36, x_trail_ticks_n)] [17, 16, 15] [35, 36] _ rfl rfl (by decide +kernel)) rfl hP1
    clear hP1 hD1
    refine lv_pop hx hb dL_law_721 rfl ?_
    refine lv_aload_n hx hb dL_law_722 rfl (lv_at hl 1 rfl) ?_
    refine lv_aload_n hx hb dL_law_723 rfl (lv_at hl 3 rfl) ?_
    refine lv_iload_n hx hb dL_law_724 rfl (lv_at hl 0 rfl) ?_
    refine lv_iconst (v := (nI 1)) hx hb dL_law_725 rfl ?_
    refine lv_iadd hx hb dL_law_726 ?_
    refine va_sld hx hb hX hbl hbA hS h1_ dL_law_727 ?_
    refine lv_aload_n hx hb dL_law_728 rfl (lv_at hl 3 rfl) ?_
    refine lv_iload_n hx hb dL_law_729 rfl (lv_at hl 0 rfl) ?_
    refine lv_iconst (v := (nI 2)) hx hb dL_law_730 rfl ?_
    refine lv_iadd hx hb dL_law_731 ?_
    refine va_sld hx hb hX hbl hbA hS h2_ dL_law_732 ?_
    refine lv_aload_n hx hb dL_law_733 rfl (lv_at hl 3 rfl) ?_
    refine lv_iload_n hx hb dL_law_734 rfl (lv_at hl 0 rfl) ?_
    refine lv_iconst (v := (nI 3)) hx hb dL_law_735 rfl ?_
    refine lv_iadd hx hb dL_law_736 ?_
    refine va_sld hx hb hX hbl hbA hS h3_ dL_law_737 ?_
    refine lv_if_eq (tgt := 745) hx hb dL_law_738 (by decide) (fun _ => ?_) (fun c_ => absurd c1 c_)
    refine lv_iconst (v := (nI 0)) hx hb dL_law_745 rfl ?_
    refine zVi (As := [.int (xs (i + (nI 1)).toNatClampNeg), .int (xs (i + (nI 2)).toNatClampNeg), .int (nI 0)]) (rest := []) (C := RX11) (wr := zrst [0, 1, 2, 3, 4, 5, 6, 7, 8, 9, 10, 11, 12, 13, 14, 15, 16, 17, 18, 19, 20, 21, 22, 23, 24, 25, 26, 27, 28, 29, 30, 31, 32, 33, 34, 35, 36, 37, 38, 39, 40, 41, 42, 43, 44, 45, 46, 47, 48, 49, 50, 51, 52, 54, 56, 57, 58, 59] (zWd cB cI cZ A (zups [(17, x_trail_greatest_n), (16, x_trail_least_n), (15, x_trail_mats_n)] I) (zups [(35, x_trail_places_n), (36, x_trail_ticks_n)] F))) [53, 55] [0, 1, 2, 3, 4, 5, 6, 7, 8, 9, 10, 11, 12, 13, 14, 15, 16, 17, 18, 19, 20, 21, 22, 23, 24, 25, 26, 27, 28, 29, 30, 31, 32, 33, 34, 35, 36, 37, 38, 39, 40, 41, 42, 43, 44, 45, 46, 47, 48, 49, 50, 51, 52, 54, 56, 57, 58, 59] 0 ⟨hx, hb, hml, hown, hts_⟩ (mX11_guess l D cB cI cZ (A 53) (A 55) (A 54) (A 58) (A 57) (A 56) (A 59) (I 18) (I 19) (I 20) (I 21) (I 22) (I 23) (I 24) (I 25) (I 26) (I 27) (F 38) H.size (xs (i + (nI 1)).toNatClampNeg) (xs (i + (nI 2)).toNatClampNeg) (nI 0) zN r_m m_thrown_n e2_) (cwV 3 hts_ gL_law_X11_guess rfl rfl rfl (by decide +kernel) ⟨Nat.le_of_ble_eq_true rfl, Nat.le_of_ble_eq_true rfl⟩) hK hN hZ hP hD hS hA rfl rfl (zrst_map zWd_len rfl) rfl rfl rfl rfl rfl hl.1 rfl (lv_room (Nat.le_of_ble_eq_true rfl)) dL_law_746 (zfit (by omega) (by omega)) (fun H locs hP1 hD1 hS => ?_)
    replace hD := zWd_D (zups [(18, m_thrown_n)] (zups [(17, x_trail_greatest_n), (16, x_trail_least_n), (15, x_trail_mats_n)] I)) (zups [] (zups [(35, x_trail_places_n), (36, x_trail_ticks_n)] F)) hD
    have hP := zback (W := zWd cB cI cZ A (zups [(17, x_trail_greatest_n), (16, x_trail_least_n), (15, x_trail_mats_n)] I) (zups [(35, x_trail_places_n), (36, x_trail_ticks_n)] F)) (W' := zWd cB cI cZ A (zups [(18, m_thrown_n)] (zups [(17, x_trail_greatest_n), (16, x_trail_least_n), (15, x_trail_mats_n)] I)) (zups [] (zups [(35, x_trail_places_n), (36, x_trail_ticks_n)] F))) [53, 55] [0, 1, 2, 3, 4, 5, 6, 7, 8, 9, 10, 11, 12, 13, 14, 15, 16, 17, 18, 19, 20, 21, 22, 23, 24, 25, 26, 27, 28, 29, 30, 31, 32, 33, 34, 35, 36, 37, 38, 39, 40, 41, 42, 43, 44, 45, 46, 47, 48, 49, 50, 51, 52, 54, 56, 57, 58, 59] zWd_len zWd_len (by decide +kernel) (zWd_same (I := (zups [(17, x_trail_greatest_n), (16, x_trail_least_n), (15, x_trail_mats_n)] I)) (F := (zups [(35, x_trail_places_n), (36, x_trail_ticks_n)] F)) [(18, m_thrown_n)] [] [18] [] _ rfl rfl (by decide +kernel)) rfl hP1
    clear hP1 hD1
    refine lv_pop hx hb dL_law_749 rfl ?_
    refine lv_goto (tgt := 1109) hx hb dL_law_750 (by decide) ?_
    refine W.widen (k := cells + 2) (n := slots + 20) (by omega) (by omega) ?_
    exact kk (zups [(18, m_thrown_n)] (zups [(17, x_trail_greatest_n), (16, x_trail_least_n), (15, x_trail_mats_n)] I)) (zups [] (zups [(35, x_trail_places_n), (36, x_trail_ticks_n)] F)) H locs _ hI_ hP hD hS (lv_sub hl [0, 1, 2, 3] rfl)
  · refine lv_iconst (v := (nI 1)) hx hb dL_law_713 rfl ?_
    refine lv_goto (tgt := 718) hx hb dL_law_714 (by decide) ?_
    obtain ⟨r_x, x_trail_greatest_n, x_trail_least_n, x_trail_mats_n, x_trail_places_n, x_trail_ticks_n, r_m, m_thrown_n, e1_, e2_, hI_⟩ := zs_14 (I 0) (F 2) (F 6) (I 2) (I 3) (F 7) (F 8) (F 9) (F 10) (F 11) (F 12) (F 13) (I 4) (F 14) (F 15) (F 16) (F 17) (F 22) (I 11) (I 12) (F 23) (F 24) (F 25) (F 26) (F 27) (F 28) (F 29) (I 13) (F 30) (F 31) (F 32) (F 33) (I 14) (F 34) (I 15) (I 16) (I 17) (F 35) (F 36) (I 18) (I 19) (I 20) (F 37) (F 38) (F 40) (F 41) (xs (i + (nI 1)).toNatClampNeg) (xs (i + (nI 2)).toNatClampNeg) (nI 1) (by decide) hI
    refine zVi (As := [.int (xs (i + (nI 1)).toNatClampNeg), .int (xs (i + (nI 2)).toNatClampNeg), .int (nI 1)]) (rest := []) (C := RX10) (wr := zrst [1, 2, 3, 4, 5, 6, 7, 8, 9, 10, 11, 12, 13, 14, 15, 16, 17, 18, 19, 20, 21, 22, 23, 24, 25, 26, 27, 28, 29, 30, 31, 36, 39, 40, 41, 42, 44, 45, 46, 48, 49, 53, 54, 55, 56, 57, 58, 59] (zWd cB cI cZ A I F)) [0, 32, 33, 34, 35, 37, 38, 43, 47, 50, 51, 52] [1, 2, 3, 4, 5, 6, 7, 8, 9, 10, 11, 12, 13, 14, 15, 16, 17, 18, 19, 20, 21, 22, 23, 24, 25, 26, 27, 28, 29, 30, 31, 36, 39, 40, 41, 42, 44, 45, 46, 48, 49, 53, 54, 55, 56, 57, 58, 59] 0 ⟨hx, hb, hml, hown, hts_⟩ (mX10_guess l D cB cI cZ (A 0) (A 32) (A 10) (A 50) (A 1) (A 3) (A 48) (A 26) (A 43) (A 33) (A 35) (A 34) (A 37) (A 38) (A 41) (A 36) (A 42) (A 40) (A 39) (A 47) (A 44) (A 45) (A 46) (A 52) (A 51) (I 0) (F 22) (I 11) (I 12) (F 24) (F 25) (I 13) (F 33) (I 15) (I 16) (I 17) (F 35) (F 36) H.size (xs (i + (nI 1)).toNatClampNeg) (xs (i + (nI 2)).toNatClampNeg) (nI 1) zN r_x x_trail_greatest_n x_trail_least_n x_trail_mats_n x_trail_places_n x_trail_ticks_n e1_) (cwV 3 hts_ gL_law_X10_guess rfl rfl rfl (by decide +kernel) ⟨Nat.le_of_ble_eq_true rfl, Nat.le_of_ble_eq_true rfl⟩) hK hN hZ hP hD hS hA rfl rfl (zrst_map zWd_len rfl) rfl rfl rfl rfl rfl hl.1 rfl (lv_room (Nat.le_of_ble_eq_true rfl)) dL_law_718 (zfit (by omega) (by omega)) (fun H locs hP1 hD1 hS => ?_)
    replace hD := zWd_D (zups [(17, x_trail_greatest_n), (16, x_trail_least_n), (15, x_trail_mats_n)] I) (zups [(35, x_trail_places_n), (36, x_trail_ticks_n)] F) hD
    have hP := zback (W := zWd cB cI cZ A I F) (W' := zWd cB cI cZ A (zups [(17, x_trail_greatest_n), (16, x_trail_least_n), (15, x_trail_mats_n)] I) (zups [(35, x_trail_places_n), (36, x_trail_ticks_n)] F)) [0, 32, 33, 34, 35, 37, 38, 43, 47, 50, 51, 52] [1, 2, 3, 4, 5, 6, 7, 8, 9, 10, 11, 12, 13, 14, 15, 16, 17, 18, 19, 20, 21, 22, 23, 24, 25, 26, 27, 28, 29, 30, 31, 36, 39, 40, 41, 42, 44, 45, 46, 48, 49, 53, 54, 55, 56, 57, 58, 59] zWd_len zWd_len (by decide +kernel) (zWd_same (I := I) (F := F) [(17, x_trail_greatest_n), (16, x_trail_least_n), (15, x_trail_mats_n)] [(35, x_trail_places_n), (36, x_trail_ticks_n)] [17, 16, 15] [35, 36] _ rfl rfl (by decide +kernel)) rfl hP1
    clear hP1 hD1
    refine lv_pop hx hb dL_law_721 rfl ?_
    refine lv_aload_n hx hb dL_law_722 rfl (lv_at hl 1 rfl) ?_
    refine lv_aload_n hx hb dL_law_723 rfl (lv_at hl 3 rfl) ?_
    refine lv_iload_n hx hb dL_law_724 rfl (lv_at hl 0 rfl) ?_
    refine lv_iconst (v := (nI 1)) hx hb dL_law_725 rfl ?_
    refine lv_iadd hx hb dL_law_726 ?_
    refine va_sld hx hb hX hbl hbA hS h1_ dL_law_727 ?_
    refine lv_aload_n hx hb dL_law_728 rfl (lv_at hl 3 rfl) ?_
    refine lv_iload_n hx hb dL_law_729 rfl (lv_at hl 0 rfl) ?_
    refine lv_iconst (v := (nI 2)) hx hb dL_law_730 rfl ?_
    refine lv_iadd hx hb dL_law_731 ?_
    refine va_sld hx hb hX hbl hbA hS h2_ dL_law_732 ?_
    refine lv_aload_n hx hb dL_law_733 rfl (lv_at hl 3 rfl) ?_
    refine lv_iload_n hx hb dL_law_734 rfl (lv_at hl 0 rfl) ?_
    refine lv_iconst (v := (nI 3)) hx hb dL_law_735 rfl ?_
    refine lv_iadd hx hb dL_law_736 ?_
    refine va_sld hx hb hX hbl hbA hS h3_ dL_law_737 ?_
    refine lv_if_eq (tgt := 745) hx hb dL_law_738 (by decide) (fun c_ => absurd c_ c1) (fun _ => ?_)
    refine lv_iconst (v := (nI 1)) hx hb dL_law_741 rfl ?_
    refine lv_goto (tgt := 746) hx hb dL_law_742 (by decide) ?_
    refine zVi (As := [.int (xs (i + (nI 1)).toNatClampNeg), .int (xs (i + (nI 2)).toNatClampNeg), .int (nI 1)]) (rest := []) (C := RX11) (wr := zrst [0, 1, 2, 3, 4, 5, 6, 7, 8, 9, 10, 11, 12, 13, 14, 15, 16, 17, 18, 19, 20, 21, 22, 23, 24, 25, 26, 27, 28, 29, 30, 31, 32, 33, 34, 35, 36, 37, 38, 39, 40, 41, 42, 43, 44, 45, 46, 47, 48, 49, 50, 51, 52, 54, 56, 57, 58, 59] (zWd cB cI cZ A (zups [(17, x_trail_greatest_n), (16, x_trail_least_n), (15, x_trail_mats_n)] I) (zups [(35, x_trail_places_n), (36, x_trail_ticks_n)] F))) [53, 55] [0, 1, 2, 3, 4, 5, 6, 7, 8, 9, 10, 11, 12, 13, 14, 15, 16, 17, 18, 19, 20, 21, 22, 23, 24, 25, 26, 27, 28, 29, 30, 31, 32, 33, 34, 35, 36, 37, 38, 39, 40, 41, 42, 43, 44, 45, 46, 47, 48, 49, 50, 51, 52, 54, 56, 57, 58, 59] 0 ⟨hx, hb, hml, hown, hts_⟩ (mX11_guess l D cB cI cZ (A 53) (A 55) (A 54) (A 58) (A 57) (A 56) (A 59) (I 18) (I 19) (I 20) (I 21) (I 22) (I 23) (I 24) (I 25) (I 26) (I 27) (F 38) H.size (xs (i + (nI 1)).toNatClampNeg) (xs (i + (nI 2)).toNatClampNeg) (nI 1) zN r_m m_thrown_n e2_) (cwV 3 hts_ gL_law_X11_guess rfl rfl rfl (by decide +kernel) ⟨Nat.le_of_ble_eq_true rfl, Nat.le_of_ble_eq_true rfl⟩) hK hN hZ hP hD hS hA rfl rfl (zrst_map zWd_len rfl) rfl rfl rfl rfl rfl hl.1 rfl (lv_room (Nat.le_of_ble_eq_true rfl)) dL_law_746 (zfit (by omega) (by omega)) (fun H locs hP1 hD1 hS => ?_)
    replace hD := zWd_D (zups [(18, m_thrown_n)] (zups [(17, x_trail_greatest_n), (16, x_trail_least_n), (15, x_trail_mats_n)] I)) (zups [] (zups [(35, x_trail_places_n), (36, x_trail_ticks_n)] F)) hD
    have hP := zback (W := zWd cB cI cZ A (zups [(17, x_trail_greatest_n), (16, x_trail_least_n), (15, x_trail_mats_n)] I) (zups [(35, x_trail_places_n), (36, x_trail_ticks_n)] F)) (W' := zWd cB cI cZ A (zups [(18, m_thrown_n)] (zups [(17, x_trail_greatest_n), (16, x_trail_least_n), (15, x_trail_mats_n)] I)) (zups [] (zups [(35, x_trail_places_n), (36, x_trail_ticks_n)] F))) [53, 55] [0, 1, 2, 3, 4, 5, 6, 7, 8, 9, 10, 11, 12, 13, 14, 15, 16, 17, 18, 19, 20, 21, 22, 23, 24, 25, 26, 27, 28, 29, 30, 31, 32, 33, 34, 35, 36, 37, 38, 39, 40, 41, 42, 43, 44, 45, 46, 47, 48, 49, 50, 51, 52, 54, 56, 57, 58, 59] zWd_len zWd_len (by decide +kernel) (zWd_same (I := (zups [(17, x_trail_greatest_n), (16, x_trail_least_n), (15, x_trail_mats_n)] I)) (F := (zups [(35, x_trail_places_n), (36, x_trail_ticks_n)] F)) [(18, m_thrown_n)] [] [18] [] _ rfl rfl (by decide +kernel)) rfl hP1
    clear hP1 hD1
    refine lv_pop hx hb dL_law_749 rfl ?_
    refine lv_goto (tgt := 1109) hx hb dL_law_750 (by decide) ?_
    refine W.widen (k := cells + 2) (n := slots + 20) (by omega) (by omega) ?_
    exact kk (zups [(18, m_thrown_n)] (zups [(17, x_trail_greatest_n), (16, x_trail_least_n), (15, x_trail_mats_n)] I)) (zups [] (zups [(35, x_trail_places_n), (36, x_trail_ticks_n)] F)) H locs _ hI_ hP hD hS (lv_sub hl [0, 1, 2, 3] rfl)
set_option maxHeartbeats 4000000 in
set_option maxRecDepth 100000 in
theorem zlaw_15 {p : Program} {l : Launch} {e : Env} {s : State} {m : MethodId} {below : List Frame} {meth : Method} {c : Code} {b L : Nat} {xs : Nat → Int32} {D : va_G} {cB cI cZ : ClassId} (C0 : lw_At p s m meth c b L xs) (hK : va_K D vwCl (zT cB cI cZ) s) (hN : zNest s) (hZ : zStat (fun q : Nat => s.heap.size ≤ q) s s.heap) (A : Nat → Nat) (I : Nat → Int32) (F : Nat → Nat → Int32) (j : Nat) (i : Int32) (hi : i = nI j) (hj : j + 7 ≤ L) (hL : L ≤ 3584) (hI : zIF I F) (cells slots : Nat) (hc : cells + 10 ≤ 601024) (hs : slots + 100 ≤ 7293034) (H : Heap) (locs : List Loc) (hP : va_P D vwCl (zWd cB cI cZ A I F) H) (hD : va_D (fun q : Nat => s.heap.size ≤ q) (zWd cB cI cZ A I F)) (hS : va_S (fun q : Nat => s.heap.size ≤ q) s.heap H locs) (ls : Array Slot) (hl : lv_has ls 5 [(3, .int i), (2, .ref (A 53)), (1, .ref (A 0)), (0, .ref b)]) (kk : ∀ (I : Nat → Int32) (F : Nat → Nat → Int32) (H : Heap) (locs : List Loc) (ls : Array Slot), zIF I F → va_P D vwCl (zWd cB cI cZ A I F) H → va_D (fun q : Nat => s.heap.size ≤ q) (zWd cB cI cZ A I F) → va_S (fun q : Nat => s.heap.size ≤ q) s.heap H locs → lv_has ls 5 [(3, .int i), (2, .ref (A 53)), (1, .ref (A 0)), (0, .ref b)] → W p l e room_1 s m #[Value.ref b] below meth c H locs (cells + 2) (slots + 20) (lw_Z below #[Value.ref b] s) (F0 m 1109 ls [])) : W p l e room_1 s m #[Value.ref b] below meth c H locs cells slots (lw_Z below #[Value.ref b] s) (F0 m 753 ls []) := by
  obtain ⟨hx, hb, hr, hml, hown, hts, hX, hbl, hlocks, hgv⟩ := C0
  have hA : ∀ q : Nat, s.heap.size ≤ q → (fun q : Nat => s.heap.size ≤ q) q := fun _ h => h
  have hbA : ¬ (fun q : Nat => s.heap.size ≤ q) b := Nat.not_le.mpr hbl
  have hts_ : ∀ w ∈ wsL_law, w.before #[Value.ref b] s = true := fun w h => hts w (wsL_law_in w h)
  have h1_ : vp_in (i + (nI 1)) L := by rw [hi]; show vp_in (nI j + nI 1) L; rw [nI_add]; exact vp_in_nI (by omega) (by omega)
  have h2_ : vp_in (i + (nI 2)) L := by rw [hi]; show vp_in (nI j + nI 2) L; rw [nI_add]; exact vp_in_nI (by omega) (by omega)
  refine lv_aload_n hx hb dL_law_753 rfl (lv_at hl 2 rfl) ?_
  refine lv_aload_n hx hb dL_law_754 rfl (lv_at hl 3 rfl) ?_
  refine lv_iload_n hx hb dL_law_755 rfl (lv_at hl 0 rfl) ?_
  refine lv_iconst (v := (nI 1)) hx hb dL_law_756 rfl ?_
  refine lv_iadd hx hb dL_law_757 ?_
  refine va_sld hx hb hX hbl hbA hS h1_ dL_law_758 ?_
  refine lv_aload_n hx hb dL_law_759 rfl (lv_at hl 3 rfl) ?_
  refine lv_iload_n hx hb dL_law_760 rfl (lv_at hl 0 rfl) ?_
  refine lv_iconst (v := (nI 2)) hx hb dL_law_761 rfl ?_
  refine lv_iadd hx hb dL_law_762 ?_
  refine va_sld hx hb hX hbl hbA hS h2_ dL_law_763 ?_
  obtain ⟨r_x, x_doubts_doubts_n, x_doubts_codes_n, x_trail_greatest_n, x_trail_least_n, x_trail_mats_n, x_trail_places_n, x_trail_ticks_n, r_m, m_thrown_n, e1_, e2_, hI_⟩ := zs_15 (I 0) (I 1) (F 0) (F 2) (F 6) (I 2) (I 3) (F 7) (F 8) (F 9) (F 10) (F 11) (F 12) (F 13) (I 4) (F 14) (F 15) (F 16) (F 17) (F 22) (I 11) (I 12) (F 23) (F 24) (F 25) (F 26) (F 27) (F 28) (F 29) (I 13) (F 30) (F 31) (F 32) (F 33) (I 14) (F 34) (I 15) (I 16) (I 17) (F 35) (F 36) (I 18) (I 19) (I 20) (F 37) (F 38) (F 40) (F 41) (xs (i + (nI 1)).toNatClampNeg) (xs (i + (nI 2)).toNatClampNeg) hI
  refine zVi (As := [.int (xs (i + (nI 1)).toNatClampNeg), .int (xs (i + (nI 2)).toNatClampNeg)]) (rest := []) (C := RX10) (wr := zrst [3, 4, 5, 6, 7, 8, 9, 10, 11, 12, 13, 14, 15, 16, 17, 18, 19, 20, 21, 22, 23, 24, 25, 26, 27, 28, 29, 30, 31, 36, 39, 40, 41, 42, 44, 45, 46, 48, 49, 53, 54, 55, 56, 57, 58, 59] (zWd cB cI cZ A I F)) [0, 1, 2, 32, 33, 34, 35, 37, 38, 43, 47, 50, 51, 52] [3, 4, 5, 6, 7, 8, 9, 10, 11, 12, 13, 14, 15, 16, 17, 18, 19, 20, 21, 22, 23, 24, 25, 26, 27, 28, 29, 30, 31, 36, 39, 40, 41, 42, 44, 45, 46, 48, 49, 53, 54, 55, 56, 57, 58, 59] 0 ⟨hx, hb, hml, hown, hts_⟩ (mX10_doubt l D cB cI cZ (A 0) (A 32) (A 10) (A 50) (A 1) (A 3) (A 48) (A 26) (A 2) (A 43) (A 33) (A 35) (A 34) (A 37) (A 38) (A 41) (A 36) (A 42) (A 40) (A 39) (A 47) (A 44) (A 45) (A 46) (A 52) (A 51) (I 0) (I 1) (F 0) (F 22) (I 11) (I 12) (F 24) (F 25) (I 13) (F 33) (I 15) (I 16) (I 17) (F 35) (F 36) H.size (xs (i + (nI 1)).toNatClampNeg) (xs (i + (nI 2)).toNatClampNeg) zN r_x x_doubts_doubts_n x_doubts_codes_n x_trail_greatest_n x_trail_least_n x_trail_mats_n x_trail_places_n x_trail_ticks_n e1_) (cwV 2 hts_ gL_law_X10_doubt rfl rfl rfl (by decide +kernel) ⟨Nat.le_of_ble_eq_true rfl, Nat.le_of_ble_eq_true rfl⟩) hK hN hZ hP hD hS hA rfl rfl (zrst_map zWd_len rfl) rfl rfl rfl rfl rfl hl.1 rfl (lv_room (Nat.le_of_ble_eq_true rfl)) dL_law_764 (zfit (by omega) (by omega)) (fun H locs hP1 hD1 hS => ?_)
  replace hD := zWd_D (zups [(1, x_doubts_doubts_n), (17, x_trail_greatest_n), (16, x_trail_least_n), (15, x_trail_mats_n)] I) (zups [(0, x_doubts_codes_n), (35, x_trail_places_n), (36, x_trail_ticks_n)] F) hD
  have hP := zback (W := zWd cB cI cZ A I F) (W' := zWd cB cI cZ A (zups [(1, x_doubts_doubts_n), (17, x_trail_greatest_n), (16, x_trail_least_n), (15, x_trail_mats_n)] I) (zups [(0, x_doubts_codes_n), (35, x_trail_places_n), (36, x_trail_ticks_n)] F)) [0, 1, 2, 32, 33, 34, 35, 37, 38, 43, 47, 50, 51, 52] [3, 4, 5, 6, 7, 8, 9, 10, 11, 12, 13, 14, 15, 16, 17, 18, 19, 20, 21, 22, 23, 24, 25, 26, 27, 28, 29, 30, 31, 36, 39, 40, 41, 42, 44, 45, 46, 48, 49, 53, 54, 55, 56, 57, 58, 59] zWd_len zWd_len (by decide +kernel) (zWd_same (I := I) (F := F) [(1, x_doubts_doubts_n), (17, x_trail_greatest_n), (16, x_trail_least_n), (15, x_trail_mats_n)] [(0, x_doubts_codes_n), (35, x_trail_places_n), (36, x_trail_ticks_n)] [1, 17, 16, 15] [0, 35, 36] _ rfl rfl (by decide +kernel)) rfl hP1
  clear hP1 hD1
  refine lv_pop hx hb dL_law_767 rfl ?_
  refine lv_aload_n hx hb dL_law_768 rfl (lv_at hl 1 rfl) ?_
  refine lv_aload_n hx hb dL_law_769 rfl (lv_at hl 3 rfl) ?_
  refine lv_iload_n hx hb dL_law_770 rfl (lv_at hl 0 rfl) ?_
  refine lv_iconst (v := (nI 1)) hx hb dL_law_771 rfl ?_
  refine lv_iadd hx hb dL_law_772 ?_
  refine va_sld hx hb hX hbl hbA hS h1_ dL_law_773 ?_
  refine lv_aload_n hx hb dL_law_774 rfl (lv_at hl 3 rfl) ?_
  refine lv_iload_n hx hb dL_law_775 rfl (lv_at hl 0 rfl) ?_
  refine lv_iconst (v := (nI 2)) hx hb dL_law_776 rfl ?_
  refine lv_iadd hx hb dL_law_777 ?_
  refine va_sld hx hb hX hbl hbA hS h2_ dL_law_778 ?_
  refine zVi (As := [.int (xs (i + (nI 1)).toNatClampNeg), .int (xs (i + (nI 2)).toNatClampNeg)]) (rest := []) (C := RX11) (wr := zrst [0, 1, 2, 3, 4, 5, 6, 7, 8, 9, 10, 11, 12, 13, 14, 15, 16, 17, 18, 19, 20, 21, 22, 23, 24, 25, 26, 27, 28, 29, 30, 31, 32, 33, 34, 35, 36, 37, 38, 39, 40, 41, 42, 43, 44, 45, 46, 47, 48, 49, 50, 51, 52, 54, 56, 57, 58, 59] (zWd cB cI cZ A (zups [(1, x_doubts_doubts_n), (17, x_trail_greatest_n), (16, x_trail_least_n), (15, x_trail_mats_n)] I) (zups [(0, x_doubts_codes_n), (35, x_trail_places_n), (36, x_trail_ticks_n)] F))) [53, 55] [0, 1, 2, 3, 4, 5, 6, 7, 8, 9, 10, 11, 12, 13, 14, 15, 16, 17, 18, 19, 20, 21, 22, 23, 24, 25, 26, 27, 28, 29, 30, 31, 32, 33, 34, 35, 36, 37, 38, 39, 40, 41, 42, 43, 44, 45, 46, 47, 48, 49, 50, 51, 52, 54, 56, 57, 58, 59] 0 ⟨hx, hb, hml, hown, hts_⟩ (mX11_doubt l D cB cI cZ (A 53) (A 55) (A 54) (A 58) (A 57) (A 56) (A 59) (I 18) (I 19) (I 20) (I 21) (I 22) (I 23) (I 24) (I 25) (I 26) (I 27) (F 38) H.size (xs (i + (nI 1)).toNatClampNeg) (xs (i + (nI 2)).toNatClampNeg) zN r_m m_thrown_n e2_) (cwV 2 hts_ gL_law_X11_doubt rfl rfl rfl (by decide +kernel) ⟨Nat.le_of_ble_eq_true rfl, Nat.le_of_ble_eq_true rfl⟩) hK hN hZ hP hD hS hA rfl rfl (zrst_map zWd_len rfl) rfl rfl rfl rfl rfl hl.1 rfl (lv_room (Nat.le_of_ble_eq_true rfl)) dL_law_779 (zfit (by omega) (by omega)) (fun H locs hP1 hD1 hS => ?_)
  replace hD := zWd_D (zups [(18, m_thrown_n)] (zups [(1, x_doubts_doubts_n), (17, x_trail_greatest_n), (16, x_trail_least_n), (15, x_trail_mats_n)] I)) (zups [] (zups [(0, x_doubts_codes_n), (35, x_trail_places_n), (36, x_trail_ticks_n)] F)) hD
  have hP := zback (W := zWd cB cI cZ A (zups [(1, x_doubts_doubts_n), (17, x_trail_greatest_n), (16, x_trail_least_n), (15, x_trail_mats_n)] I) (zups [(0, x_doubts_codes_n), (35, x_trail_places_n), (36, x_trail_ticks_n)] F)) (W' := zWd cB cI cZ A (zups [(18, m_thrown_n)] (zups [(1, x_doubts_doubts_n), (17, x_trail_greatest_n), (16, x_trail_least_n), (15, x_trail_mats_n)] I)) (zups [] (zups [(0, x_doubts_codes_n), (35, x_trail_places_n), (36, x_trail_ticks_n)] F))) [53, 55] [0, 1, 2, 3, 4, 5, 6, 7, 8, 9, 10, 11, 12, 13, 14, 15, 16, 17, 18, 19, 20, 21, 22, 23, 24, 25, 26, 27, 28, 29, 30, 31, 32, 33, 34, 35, 36, 37, 38, 39, 40, 41, 42, 43, 44, 45, 46, 47, 48, 49, 50, 51, 52, 54, 56, 57, 58, 59] zWd_len zWd_len (by decide +kernel) (zWd_same (I := (zups [(1, x_doubts_doubts_n), (17, x_trail_greatest_n), (16, x_trail_least_n), (15, x_trail_mats_n)] I)) (F := (zups [(0, x_doubts_codes_n), (35, x_trail_places_n), (36, x_trail_ticks_n)] F)) [(18, m_thrown_n)] [] [18] [] _ rfl rfl (by decide +kernel)) rfl hP1
  clear hP1 hD1
  refine lv_pop hx hb dL_law_782 rfl ?_
  refine lv_goto (tgt := 1109) hx hb dL_law_783 (by decide) ?_
  refine W.widen (k := cells + 2) (n := slots + 20) (by omega) (by omega) ?_
  exact kk (zups [(18, m_thrown_n)] (zups [(1, x_doubts_doubts_n), (17, x_trail_greatest_n), (16, x_trail_least_n), (15, x_trail_mats_n)] I)) (zups [] (zups [(0, x_doubts_codes_n), (35, x_trail_places_n), (36, x_trail_ticks_n)] F)) H locs _ hI_ hP hD hS (lv_sub hl [0, 1, 2, 3] rfl)
set_option maxHeartbeats 4000000 in
set_option maxRecDepth 100000 in
theorem zlaw_16 {p : Program} {l : Launch} {e : Env} {s : State} {m : MethodId} {below : List Frame} {meth : Method} {c : Code} {b L : Nat} {xs : Nat → Int32} {D : va_G} {cB cI cZ : ClassId} (C0 : lw_At p s m meth c b L xs) (hK : va_K D vwCl (zT cB cI cZ) s) (hN : zNest s) (hZ : zStat (fun q : Nat => s.heap.size ≤ q) s s.heap) (A : Nat → Nat) (I : Nat → Int32) (F : Nat → Nat → Int32) (j : Nat) (i : Int32) (hi : i = nI j) (hj : j + 7 ≤ L) (hL : L ≤ 3584) (hI : zIF I F) (cells slots : Nat) (hc : cells + 10 ≤ 601024) (hs : slots + 100 ≤ 7293034) (H : Heap) (locs : List Loc) (hP : va_P D vwCl (zWd cB cI cZ A I F) H) (hD : va_D (fun q : Nat => s.heap.size ≤ q) (zWd cB cI cZ A I F)) (hS : va_S (fun q : Nat => s.heap.size ≤ q) s.heap H locs) (ls : Array Slot) (hl : lv_has ls 5 [(3, .int i), (2, .ref (A 53)), (1, .ref (A 0)), (0, .ref b)]) (kk : ∀ (I : Nat → Int32) (F : Nat → Nat → Int32) (H : Heap) (locs : List Loc) (ls : Array Slot), zIF I F → va_P D vwCl (zWd cB cI cZ A I F) H → va_D (fun q : Nat => s.heap.size ≤ q) (zWd cB cI cZ A I F) → va_S (fun q : Nat => s.heap.size ≤ q) s.heap H locs → lv_has ls 5 [(3, .int i), (2, .ref (A 53)), (1, .ref (A 0)), (0, .ref b)] → W p l e room_1 s m #[Value.ref b] below meth c H locs (cells + 2) (slots + 20) (lw_Z below #[Value.ref b] s) (F0 m 1109 ls [])) : W p l e room_1 s m #[Value.ref b] below meth c H locs cells slots (lw_Z below #[Value.ref b] s) (F0 m 786 ls []) := by
  obtain ⟨hx, hb, hr, hml, hown, hts, hX, hbl, hlocks, hgv⟩ := C0
  have hA : ∀ q : Nat, s.heap.size ≤ q → (fun q : Nat => s.heap.size ≤ q) q := fun _ h => h
  have hbA : ¬ (fun q : Nat => s.heap.size ≤ q) b := Nat.not_le.mpr hbl
  have hts_ : ∀ w ∈ wsL_law, w.before #[Value.ref b] s = true := fun w h => hts w (wsL_law_in w h)
  have h1_ : vp_in (i + (nI 1)) L := by rw [hi]; show vp_in (nI j + nI 1) L; rw [nI_add]; exact vp_in_nI (by omega) (by omega)
  have h2_ : vp_in (i + (nI 2)) L := by rw [hi]; show vp_in (nI j + nI 2) L; rw [nI_add]; exact vp_in_nI (by omega) (by omega)
  refine lv_aload_n hx hb dL_law_786 rfl (lv_at hl 2 rfl) ?_
  refine lv_aload_n hx hb dL_law_787 rfl (lv_at hl 3 rfl) ?_
  refine lv_iload_n hx hb dL_law_788 rfl (lv_at hl 0 rfl) ?_
  refine lv_iconst (v := (nI 1)) hx hb dL_law_789 rfl ?_
  refine lv_iadd hx hb dL_law_790 ?_
  refine va_sld hx hb hX hbl hbA hS h1_ dL_law_791 ?_
  refine lv_aload_n hx hb dL_law_792 rfl (lv_at hl 3 rfl) ?_
  refine lv_iload_n hx hb dL_law_793 rfl (lv_at hl 0 rfl) ?_
  refine lv_iconst (v := (nI 2)) hx hb dL_law_794 rfl ?_
  refine lv_iadd hx hb dL_law_795 ?_
  refine va_sld hx hb hX hbl hbA hS h2_ dL_law_796 ?_
  obtain ⟨r_x, r_m, m_thrown_n, e1_, e2_, hI_⟩ := zs_16 (I 0) (F 2) (F 6) (I 2) (I 3) (F 7) (F 8) (F 9) (F 10) (F 11) (F 12) (F 13) (I 4) (F 14) (F 15) (F 16) (F 17) (F 22) (I 11) (I 12) (F 23) (F 24) (F 25) (F 26) (F 27) (F 28) (F 29) (I 13) (F 30) (F 31) (F 32) (F 33) (I 14) (F 34) (I 18) (I 19) (I 20) (F 37) (F 38) (F 40) (F 41) (xs (i + (nI 1)).toNatClampNeg) (xs (i + (nI 2)).toNatClampNeg) hI
  refine zVi (As := [.int (xs (i + (nI 1)).toNatClampNeg), .int (xs (i + (nI 2)).toNatClampNeg)]) (rest := []) (C := RX10) (wr := zrst [1, 2, 4, 5, 6, 7, 8, 9, 10, 11, 12, 13, 14, 15, 16, 17, 18, 19, 20, 21, 22, 23, 24, 25, 26, 27, 28, 29, 30, 31, 36, 38, 39, 40, 41, 42, 44, 45, 46, 48, 49, 50, 51, 52, 53, 54, 55, 56, 57, 58, 59] (zWd cB cI cZ A I F)) [0, 3, 32, 33, 34, 35, 37, 43, 47] [1, 2, 4, 5, 6, 7, 8, 9, 10, 11, 12, 13, 14, 15, 16, 17, 18, 19, 20, 21, 22, 23, 24, 25, 26, 27, 28, 29, 30, 31, 36, 38, 39, 40, 41, 42, 44, 45, 46, 48, 49, 50, 51, 52, 53, 54, 55, 56, 57, 58, 59] 0 ⟨hx, hb, hml, hown, hts_⟩ (mX10_foretold l D cB cI cZ (A 0) (A 32) (A 10) (A 50) (A 1) (A 3) (A 48) (A 26) (A 7) (A 6) (A 4) (A 5) (A 8) (A 43) (A 33) (A 35) (A 34) (A 37) (A 38) (A 41) (A 36) (A 42) (A 40) (A 39) (A 47) (A 44) (A 45) (A 46) (I 0) (F 22) (I 11) (I 12) (F 24) (I 13) (F 33) H.size (xs (i + (nI 1)).toNatClampNeg) (xs (i + (nI 2)).toNatClampNeg) zN r_x e1_) (cwV 2 hts_ gL_law_X10_foretold rfl rfl rfl (by decide +kernel) ⟨Nat.le_of_ble_eq_true rfl, Nat.le_of_ble_eq_true rfl⟩) hK hN hZ hP hD hS hA rfl rfl (zrst_map zWd_len rfl) rfl rfl rfl rfl rfl hl.1 rfl (lv_room (Nat.le_of_ble_eq_true rfl)) dL_law_797 (zfit (by omega) (by omega)) (fun H locs hP1 hD1 hS => ?_)
  replace hD := zWd_D (zups [] I) (zups [] F) hD
  have hP := zback (W := zWd cB cI cZ A I F) (W' := zWd cB cI cZ A (zups [] I) (zups [] F)) [0, 3, 32, 33, 34, 35, 37, 43, 47] [1, 2, 4, 5, 6, 7, 8, 9, 10, 11, 12, 13, 14, 15, 16, 17, 18, 19, 20, 21, 22, 23, 24, 25, 26, 27, 28, 29, 30, 31, 36, 38, 39, 40, 41, 42, 44, 45, 46, 48, 49, 50, 51, 52, 53, 54, 55, 56, 57, 58, 59] zWd_len zWd_len (by decide +kernel) (zWd_same (I := I) (F := F) [] [] [] [] _ rfl rfl (by decide +kernel)) rfl hP1
  clear hP1 hD1
  refine lv_pop hx hb dL_law_800 rfl ?_
  refine lv_aload_n hx hb dL_law_801 rfl (lv_at hl 1 rfl) ?_
  refine lv_aload_n hx hb dL_law_802 rfl (lv_at hl 3 rfl) ?_
  refine lv_iload_n hx hb dL_law_803 rfl (lv_at hl 0 rfl) ?_
  refine lv_iconst (v := (nI 1)) hx hb dL_law_804 rfl ?_
  refine lv_iadd hx hb dL_law_805 ?_
  refine va_sld hx hb hX hbl hbA hS h1_ dL_law_806 ?_
  refine lv_aload_n hx hb dL_law_807 rfl (lv_at hl 3 rfl) ?_
  refine lv_iload_n hx hb dL_law_808 rfl (lv_at hl 0 rfl) ?_
  refine lv_iconst (v := (nI 2)) hx hb dL_law_809 rfl ?_
  refine lv_iadd hx hb dL_law_810 ?_
  refine va_sld hx hb hX hbl hbA hS h2_ dL_law_811 ?_
  refine zVi (As := [.int (xs (i + (nI 1)).toNatClampNeg), .int (xs (i + (nI 2)).toNatClampNeg)]) (rest := []) (C := RX11) (wr := zrst [0, 1, 2, 3, 4, 5, 6, 7, 8, 9, 10, 11, 12, 13, 14, 15, 16, 17, 18, 19, 20, 21, 22, 23, 24, 25, 26, 27, 28, 29, 30, 31, 32, 33, 34, 35, 36, 37, 38, 39, 40, 41, 42, 43, 44, 45, 46, 47, 48, 49, 50, 51, 52, 54, 56, 57, 58, 59] (zWd cB cI cZ A (zups [] I) (zups [] F))) [53, 55] [0, 1, 2, 3, 4, 5, 6, 7, 8, 9, 10, 11, 12, 13, 14, 15, 16, 17, 18, 19, 20, 21, 22, 23, 24, 25, 26, 27, 28, 29, 30, 31, 32, 33, 34, 35, 36, 37, 38, 39, 40, 41, 42, 43, 44, 45, 46, 47, 48, 49, 50, 51, 52, 54, 56, 57, 58, 59] 0 ⟨hx, hb, hml, hown, hts_⟩ (mX11_foretold l D cB cI cZ (A 53) (A 55) (A 54) (A 58) (A 57) (A 56) (A 59) (I 18) (I 19) (I 20) (I 21) (I 22) (I 23) (I 24) (I 25) (I 26) (I 27) (F 38) H.size (xs (i + (nI 1)).toNatClampNeg) (xs (i + (nI 2)).toNatClampNeg) zN r_m m_thrown_n e2_) (cwV 2 hts_ gL_law_X11_foretold rfl rfl rfl (by decide +kernel) ⟨Nat.le_of_ble_eq_true rfl, Nat.le_of_ble_eq_true rfl⟩) hK hN hZ hP hD hS hA rfl rfl (zrst_map zWd_len rfl) rfl rfl rfl rfl rfl hl.1 rfl (lv_room (Nat.le_of_ble_eq_true rfl)) dL_law_812 (zfit (by omega) (by omega)) (fun H locs hP1 hD1 hS => ?_)
  replace hD := zWd_D (zups [(18, m_thrown_n)] (zups [] I)) (zups [] (zups [] F)) hD
  have hP := zback (W := zWd cB cI cZ A (zups [] I) (zups [] F)) (W' := zWd cB cI cZ A (zups [(18, m_thrown_n)] (zups [] I)) (zups [] (zups [] F))) [53, 55] [0, 1, 2, 3, 4, 5, 6, 7, 8, 9, 10, 11, 12, 13, 14, 15, 16, 17, 18, 19, 20, 21, 22, 23, 24, 25, 26, 27, 28, 29, 30, 31, 32, 33, 34, 35, 36, 37, 38, 39, 40, 41, 42, 43, 44, 45, 46, 47, 48, 49, 50, 51, 52, 54, 56, 57, 58, 59] zWd_len zWd_len (by decide +kernel) (zWd_same (I := (zups [] I)) (F := (zups [] F)) [(18, m_thrown_n)] [] [18] [] _ rfl rfl (by decide +kernel)) rfl hP1
  clear hP1 hD1
  refine lv_pop hx hb dL_law_815 rfl ?_
  refine lv_goto (tgt := 1109) hx hb dL_law_816 (by decide) ?_
  refine W.widen (k := cells + 2) (n := slots + 20) (by omega) (by omega) ?_
  exact kk (zups [(18, m_thrown_n)] (zups [] I)) (zups [] (zups [] F)) H locs _ hI_ hP hD hS (lv_sub hl [0, 1, 2, 3] rfl)
set_option maxHeartbeats 4000000 in
set_option maxRecDepth 100000 in
theorem zlaw_17 {p : Program} {l : Launch} {e : Env} {s : State} {m : MethodId} {below : List Frame} {meth : Method} {c : Code} {b L : Nat} {xs : Nat → Int32} {D : va_G} {cB cI cZ : ClassId} (C0 : lw_At p s m meth c b L xs) (hK : va_K D vwCl (zT cB cI cZ) s) (hN : zNest s) (hZ : zStat (fun q : Nat => s.heap.size ≤ q) s s.heap) (A : Nat → Nat) (I : Nat → Int32) (F : Nat → Nat → Int32) (j : Nat) (i : Int32) (hi : i = nI j) (hj : j + 7 ≤ L) (hL : L ≤ 3584) (hI : zIF I F) (cells slots : Nat) (hc : cells + 10 ≤ 601024) (hs : slots + 100 ≤ 7293034) (H : Heap) (locs : List Loc) (hP : va_P D vwCl (zWd cB cI cZ A I F) H) (hD : va_D (fun q : Nat => s.heap.size ≤ q) (zWd cB cI cZ A I F)) (hS : va_S (fun q : Nat => s.heap.size ≤ q) s.heap H locs) (ls : Array Slot) (hl : lv_has ls 5 [(3, .int i), (2, .ref (A 53)), (1, .ref (A 0)), (0, .ref b)]) (kk : ∀ (I : Nat → Int32) (F : Nat → Nat → Int32) (H : Heap) (locs : List Loc) (ls : Array Slot), zIF I F → va_P D vwCl (zWd cB cI cZ A I F) H → va_D (fun q : Nat => s.heap.size ≤ q) (zWd cB cI cZ A I F) → va_S (fun q : Nat => s.heap.size ≤ q) s.heap H locs → lv_has ls 5 [(3, .int i), (2, .ref (A 53)), (1, .ref (A 0)), (0, .ref b)] → W p l e room_1 s m #[Value.ref b] below meth c H locs (cells + 2) (slots + 20) (lw_Z below #[Value.ref b] s) (F0 m 1109 ls [])) : W p l e room_1 s m #[Value.ref b] below meth c H locs cells slots (lw_Z below #[Value.ref b] s) (F0 m 819 ls []) := by
  obtain ⟨hx, hb, hr, hml, hown, hts, hX, hbl, hlocks, hgv⟩ := C0
  have hA : ∀ q : Nat, s.heap.size ≤ q → (fun q : Nat => s.heap.size ≤ q) q := fun _ h => h
  have hbA : ¬ (fun q : Nat => s.heap.size ≤ q) b := Nat.not_le.mpr hbl
  have hts_ : ∀ w ∈ wsL_law, w.before #[Value.ref b] s = true := fun w h => hts w (wsL_law_in w h)
  have h1_ : vp_in (i + (nI 1)) L := by rw [hi]; show vp_in (nI j + nI 1) L; rw [nI_add]; exact vp_in_nI (by omega) (by omega)
  refine lv_aload_n hx hb dL_law_819 rfl (lv_at hl 2 rfl) ?_
  refine lv_aload_n hx hb dL_law_820 rfl (lv_at hl 3 rfl) ?_
  refine lv_iload_n hx hb dL_law_821 rfl (lv_at hl 0 rfl) ?_
  refine lv_iconst (v := (nI 1)) hx hb dL_law_822 rfl ?_
  refine lv_iadd hx hb dL_law_823 ?_
  refine va_sld hx hb hX hbl hbA hS h1_ dL_law_824 ?_
  obtain ⟨r_x, x_foretelling_minutes_n, x_foretelling_passers_n, x_foretelling_pens_n, x_foretelling_seconds_n, r_m, m_thrown_n, m_passing_n, e1_, e2_, hI_⟩ := zs_17 (I 0) (F 1) (F 2) (F 3) (F 4) (F 6) (I 2) (I 3) (F 7) (F 8) (F 9) (F 10) (F 11) (F 12) (F 13) (I 4) (F 14) (F 15) (F 16) (F 17) (F 22) (I 11) (I 12) (F 23) (F 24) (F 25) (F 26) (F 27) (F 28) (F 29) (I 13) (F 30) (F 31) (F 32) (F 33) (I 14) (F 34) (I 18) (I 19) (I 20) (F 37) (F 38) (F 40) (F 41) (xs (i + (nI 1)).toNatClampNeg) hI
  refine zVi (As := [.int (xs (i + (nI 1)).toNatClampNeg)]) (rest := []) (C := RX10) (wr := zrst [1, 2, 8, 9, 10, 11, 12, 13, 14, 15, 16, 17, 18, 19, 20, 21, 22, 23, 24, 25, 26, 27, 28, 29, 30, 31, 36, 38, 39, 40, 41, 42, 45, 46, 48, 49, 50, 51, 52, 53, 54, 55, 56, 57, 58, 59] (zWd cB cI cZ A I F)) [0, 3, 4, 5, 6, 7, 32, 33, 34, 35, 37, 43, 44, 47] [1, 2, 8, 9, 10, 11, 12, 13, 14, 15, 16, 17, 18, 19, 20, 21, 22, 23, 24, 25, 26, 27, 28, 29, 30, 31, 36, 38, 39, 40, 41, 42, 45, 46, 48, 49, 50, 51, 52, 53, 54, 55, 56, 57, 58, 59] 0 ⟨hx, hb, hml, hown, hts_⟩ (mX10_tight l D cB cI cZ (A 0) (A 32) (A 10) (A 50) (A 1) (A 3) (A 48) (A 26) (A 7) (A 6) (A 4) (A 5) (A 8) (A 43) (A 33) (A 35) (A 34) (A 37) (A 38) (A 41) (A 36) (A 42) (A 40) (A 39) (A 47) (A 44) (A 45) (A 46) (I 0) (F 1) (F 2) (F 3) (F 4) (F 22) (I 11) (I 12) (F 24) (I 13) (F 30) (F 33) H.size (xs (i + (nI 1)).toNatClampNeg) zN r_x x_foretelling_minutes_n x_foretelling_passers_n x_foretelling_pens_n x_foretelling_seconds_n e1_) (cwV 1 hts_ gL_law_X10_tight rfl rfl rfl (by decide +kernel) ⟨Nat.le_of_ble_eq_true rfl, Nat.le_of_ble_eq_true rfl⟩) hK hN hZ hP hD hS hA rfl rfl (zrst_map zWd_len rfl) rfl rfl rfl rfl rfl hl.1 rfl (lv_room (Nat.le_of_ble_eq_true rfl)) dL_law_825 (zfit (by omega) (by omega)) (fun H locs hP1 hD1 hS => ?_)
  replace hD := zWd_D (zups [] I) (zups [(1, x_foretelling_minutes_n), (2, x_foretelling_passers_n), (3, x_foretelling_pens_n), (4, x_foretelling_seconds_n)] F) hD
  have hP := zback (W := zWd cB cI cZ A I F) (W' := zWd cB cI cZ A (zups [] I) (zups [(1, x_foretelling_minutes_n), (2, x_foretelling_passers_n), (3, x_foretelling_pens_n), (4, x_foretelling_seconds_n)] F)) [0, 3, 4, 5, 6, 7, 32, 33, 34, 35, 37, 43, 44, 47] [1, 2, 8, 9, 10, 11, 12, 13, 14, 15, 16, 17, 18, 19, 20, 21, 22, 23, 24, 25, 26, 27, 28, 29, 30, 31, 36, 38, 39, 40, 41, 42, 45, 46, 48, 49, 50, 51, 52, 53, 54, 55, 56, 57, 58, 59] zWd_len zWd_len (by decide +kernel) (zWd_same (I := I) (F := F) [] [(1, x_foretelling_minutes_n), (2, x_foretelling_passers_n), (3, x_foretelling_pens_n), (4, x_foretelling_seconds_n)] [] [1, 2, 3, 4] _ rfl rfl (by decide +kernel)) rfl hP1
  clear hP1 hD1
  refine lv_pop hx hb dL_law_828 rfl ?_
  refine lv_aload_n hx hb dL_law_829 rfl (lv_at hl 1 rfl) ?_
  refine lv_aload_n hx hb dL_law_830 rfl (lv_at hl 3 rfl) ?_
  refine lv_iload_n hx hb dL_law_831 rfl (lv_at hl 0 rfl) ?_
  refine lv_iconst (v := (nI 1)) hx hb dL_law_832 rfl ?_
  refine lv_iadd hx hb dL_law_833 ?_
  refine va_sld hx hb hX hbl hbA hS h1_ dL_law_834 ?_
  refine zVi (As := [.int (xs (i + (nI 1)).toNatClampNeg)]) (rest := []) (C := RX11) (wr := zrst [0, 1, 2, 3, 4, 5, 6, 7, 8, 9, 10, 11, 12, 13, 14, 15, 16, 17, 18, 19, 20, 21, 22, 23, 24, 25, 26, 27, 28, 29, 30, 31, 32, 33, 34, 35, 36, 37, 38, 39, 40, 41, 42, 43, 44, 45, 46, 47, 48, 49, 50, 51, 52, 54, 56, 58, 59] (zWd cB cI cZ A (zups [] I) (zups [(1, x_foretelling_minutes_n), (2, x_foretelling_passers_n), (3, x_foretelling_pens_n), (4, x_foretelling_seconds_n)] F))) [53, 55, 57] [0, 1, 2, 3, 4, 5, 6, 7, 8, 9, 10, 11, 12, 13, 14, 15, 16, 17, 18, 19, 20, 21, 22, 23, 24, 25, 26, 27, 28, 29, 30, 31, 32, 33, 34, 35, 36, 37, 38, 39, 40, 41, 42, 43, 44, 45, 46, 47, 48, 49, 50, 51, 52, 54, 56, 58, 59] 0 ⟨hx, hb, hml, hown, hts_⟩ (mX11_tight l D cB cI cZ (A 53) (A 55) (A 54) (A 58) (A 57) (A 56) (A 59) (I 18) (I 19) (I 20) (I 21) (I 22) (I 23) (I 24) (I 25) (I 26) (I 27) (F 38) (F 40) H.size (xs (i + (nI 1)).toNatClampNeg) zN r_m m_thrown_n m_passing_n e2_) (cwV 1 hts_ gL_law_X11_tight rfl rfl rfl (by decide +kernel) ⟨Nat.le_of_ble_eq_true rfl, Nat.le_of_ble_eq_true rfl⟩) hK hN hZ hP hD hS hA rfl rfl (zrst_map zWd_len rfl) rfl rfl rfl rfl rfl hl.1 rfl (lv_room (Nat.le_of_ble_eq_true rfl)) dL_law_835 (zfit (by omega) (by omega)) (fun H locs hP1 hD1 hS => ?_)
  replace hD := zWd_D (zups [(18, m_thrown_n)] (zups [] I)) (zups [(40, m_passing_n)] (zups [(1, x_foretelling_minutes_n), (2, x_foretelling_passers_n), (3, x_foretelling_pens_n), (4, x_foretelling_seconds_n)] F)) hD
  have hP := zback (W := zWd cB cI cZ A (zups [] I) (zups [(1, x_foretelling_minutes_n), (2, x_foretelling_passers_n), (3, x_foretelling_pens_n), (4, x_foretelling_seconds_n)] F)) (W' := zWd cB cI cZ A (zups [(18, m_thrown_n)] (zups [] I)) (zups [(40, m_passing_n)] (zups [(1, x_foretelling_minutes_n), (2, x_foretelling_passers_n), (3, x_foretelling_pens_n), (4, x_foretelling_seconds_n)] F))) [53, 55, 57] [0, 1, 2, 3, 4, 5, 6, 7, 8, 9, 10, 11, 12, 13, 14, 15, 16, 17, 18, 19, 20, 21, 22, 23, 24, 25, 26, 27, 28, 29, 30, 31, 32, 33, 34, 35, 36, 37, 38, 39, 40, 41, 42, 43, 44, 45, 46, 47, 48, 49, 50, 51, 52, 54, 56, 58, 59] zWd_len zWd_len (by decide +kernel) (zWd_same (I := (zups [] I)) (F := (zups [(1, x_foretelling_minutes_n), (2, x_foretelling_passers_n), (3, x_foretelling_pens_n), (4, x_foretelling_seconds_n)] F)) [(18, m_thrown_n)] [(40, m_passing_n)] [18] [40] _ rfl rfl (by decide +kernel)) rfl hP1
  clear hP1 hD1
  refine lv_pop hx hb dL_law_838 rfl ?_
  refine lv_goto (tgt := 1109) hx hb dL_law_839 (by decide) ?_
  refine W.widen (k := cells + 2) (n := slots + 20) (by omega) (by omega) ?_
  exact kk (zups [(18, m_thrown_n)] (zups [] I)) (zups [(40, m_passing_n)] (zups [(1, x_foretelling_minutes_n), (2, x_foretelling_passers_n), (3, x_foretelling_pens_n), (4, x_foretelling_seconds_n)] F)) H locs _ hI_ hP hD hS (lv_sub hl [0, 1, 2, 3] rfl)
set_option maxHeartbeats 4000000 in
set_option maxRecDepth 100000 in
theorem zlaw_18 {p : Program} {l : Launch} {e : Env} {s : State} {m : MethodId} {below : List Frame} {meth : Method} {c : Code} {b L : Nat} {xs : Nat → Int32} {D : va_G} {cB cI cZ : ClassId} (C0 : lw_At p s m meth c b L xs) (hK : va_K D vwCl (zT cB cI cZ) s) (hN : zNest s) (hZ : zStat (fun q : Nat => s.heap.size ≤ q) s s.heap) (A : Nat → Nat) (I : Nat → Int32) (F : Nat → Nat → Int32) (j : Nat) (i : Int32) (hi : i = nI j) (hj : j + 7 ≤ L) (hL : L ≤ 3584) (hI : zIF I F) (cells slots : Nat) (hc : cells + 10 ≤ 601024) (hs : slots + 100 ≤ 7293034) (H : Heap) (locs : List Loc) (hP : va_P D vwCl (zWd cB cI cZ A I F) H) (hD : va_D (fun q : Nat => s.heap.size ≤ q) (zWd cB cI cZ A I F)) (hS : va_S (fun q : Nat => s.heap.size ≤ q) s.heap H locs) (ls : Array Slot) (hl : lv_has ls 5 [(3, .int i), (2, .ref (A 53)), (1, .ref (A 0)), (0, .ref b)]) (kk : ∀ (I : Nat → Int32) (F : Nat → Nat → Int32) (H : Heap) (locs : List Loc) (ls : Array Slot), zIF I F → va_P D vwCl (zWd cB cI cZ A I F) H → va_D (fun q : Nat => s.heap.size ≤ q) (zWd cB cI cZ A I F) → va_S (fun q : Nat => s.heap.size ≤ q) s.heap H locs → lv_has ls 5 [(3, .int i), (2, .ref (A 53)), (1, .ref (A 0)), (0, .ref b)] → W p l e room_1 s m #[Value.ref b] below meth c H locs (cells + 2) (slots + 20) (lw_Z below #[Value.ref b] s) (F0 m 1109 ls [])) : W p l e room_1 s m #[Value.ref b] below meth c H locs cells slots (lw_Z below #[Value.ref b] s) (F0 m 842 ls []) := by
  obtain ⟨hx, hb, hr, hml, hown, hts, hX, hbl, hlocks, hgv⟩ := C0
  have hA : ∀ q : Nat, s.heap.size ≤ q → (fun q : Nat => s.heap.size ≤ q) q := fun _ h => h
  have hbA : ¬ (fun q : Nat => s.heap.size ≤ q) b := Nat.not_le.mpr hbl
  have hts_ : ∀ w ∈ wsL_law, w.before #[Value.ref b] s = true := fun w h => hts w (wsL_law_in w h)
  have h1_ : vp_in (i + (nI 1)) L := by rw [hi]; show vp_in (nI j + nI 1) L; rw [nI_add]; exact vp_in_nI (by omega) (by omega)
  have h2_ : vp_in (i + (nI 2)) L := by rw [hi]; show vp_in (nI j + nI 2) L; rw [nI_add]; exact vp_in_nI (by omega) (by omega)
  refine lv_aload_n hx hb dL_law_842 rfl (lv_at hl 2 rfl) ?_
  refine lv_aload_n hx hb dL_law_843 rfl (lv_at hl 3 rfl) ?_
  refine lv_iload_n hx hb dL_law_844 rfl (lv_at hl 0 rfl) ?_
  refine lv_iconst (v := (nI 1)) hx hb dL_law_845 rfl ?_
  refine lv_iadd hx hb dL_law_846 ?_
  refine va_sld hx hb hX hbl hbA hS h1_ dL_law_847 ?_
  refine lv_aload_n hx hb dL_law_848 rfl (lv_at hl 3 rfl) ?_
  refine lv_iload_n hx hb dL_law_849 rfl (lv_at hl 0 rfl) ?_
  refine lv_iconst (v := (nI 2)) hx hb dL_law_850 rfl ?_
  refine lv_iadd hx hb dL_law_851 ?_
  refine va_sld hx hb hX hbl hbA hS h2_ dL_law_852 ?_
  obtain ⟨r_x, x_foretelling_minutes_n, x_foretelling_passers_n, x_foretelling_pens_n, x_foretelling_seconds_n, x_foretelling_tried_ticks_n, x_race_guns_ticks_n, r_m, m_thrown_n, m_now_n, m_passing_n, e1_, e2_, hI_⟩ := zs_18 (I 0) (F 1) (F 2) (F 3) (F 4) (F 5) (F 6) (I 2) (I 3) (F 7) (F 8) (F 9) (F 10) (F 11) (F 12) (F 13) (I 4) (F 14) (F 15) (F 16) (F 17) (F 22) (I 11) (I 12) (F 23) (F 24) (F 25) (F 26) (F 27) (F 28) (F 29) (I 13) (F 30) (F 31) (F 32) (F 33) (I 14) (F 34) (I 18) (I 19) (I 20) (F 37) (F 38) (F 40) (F 41) (xs (i + (nI 1)).toNatClampNeg) (xs (i + (nI 2)).toNatClampNeg) hI
  refine zVi (As := [.int (xs (i + (nI 1)).toNatClampNeg), .int (xs (i + (nI 2)).toNatClampNeg)]) (rest := []) (C := RX10) (wr := zrst [1, 2, 10, 11, 12, 13, 14, 15, 16, 17, 18, 19, 20, 21, 22, 23, 24, 25, 26, 27, 28, 29, 30, 31, 36, 38, 39, 40, 41, 42, 45, 46, 48, 49, 50, 51, 52, 53, 54, 55, 56, 57, 58, 59] (zWd cB cI cZ A I F)) [0, 3, 4, 5, 6, 7, 8, 9, 32, 33, 34, 35, 37, 43, 44, 47] [1, 2, 10, 11, 12, 13, 14, 15, 16, 17, 18, 19, 20, 21, 22, 23, 24, 25, 26, 27, 28, 29, 30, 31, 36, 38, 39, 40, 41, 42, 45, 46, 48, 49, 50, 51, 52, 53, 54, 55, 56, 57, 58, 59] 0 ⟨hx, hb, hml, hown, hts_⟩ (mX10_plan l D cB cI cZ (A 0) (A 32) (A 10) (A 50) (A 1) (A 3) (A 48) (A 26) (A 7) (A 6) (A 4) (A 5) (A 8) (A 9) (A 43) (A 33) (A 35) (A 34) (A 37) (A 38) (A 41) (A 36) (A 42) (A 40) (A 39) (A 47) (A 44) (A 45) (A 46) (I 0) (F 1) (F 2) (F 3) (F 4) (F 5) (F 22) (I 11) (I 12) (F 24) (I 13) (F 30) (F 33) H.size (xs (i + (nI 1)).toNatClampNeg) (xs (i + (nI 2)).toNatClampNeg) zN r_x x_foretelling_minutes_n x_foretelling_passers_n x_foretelling_pens_n x_foretelling_seconds_n x_foretelling_tried_ticks_n x_race_guns_ticks_n e1_) (cwV 2 hts_ gL_law_X10_plan rfl rfl rfl (by decide +kernel) ⟨Nat.le_of_ble_eq_true rfl, Nat.le_of_ble_eq_true rfl⟩) hK hN hZ hP hD hS hA rfl rfl (zrst_map zWd_len rfl) rfl rfl rfl rfl rfl hl.1 rfl (lv_room (Nat.le_of_ble_eq_true rfl)) dL_law_853 (zfit (by omega) (by omega)) (fun H locs hP1 hD1 hS => ?_)
  replace hD := zWd_D (zups [] I) (zups [(1, x_foretelling_minutes_n), (2, x_foretelling_passers_n), (3, x_foretelling_pens_n), (4, x_foretelling_seconds_n), (5, x_foretelling_tried_ticks_n), (22, x_race_guns_ticks_n)] F) hD
  have hP := zback (W := zWd cB cI cZ A I F) (W' := zWd cB cI cZ A (zups [] I) (zups [(1, x_foretelling_minutes_n), (2, x_foretelling_passers_n), (3, x_foretelling_pens_n), (4, x_foretelling_seconds_n), (5, x_foretelling_tried_ticks_n), (22, x_race_guns_ticks_n)] F)) [0, 3, 4, 5, 6, 7, 8, 9, 32, 33, 34, 35, 37, 43, 44, 47] [1, 2, 10, 11, 12, 13, 14, 15, 16, 17, 18, 19, 20, 21, 22, 23, 24, 25, 26, 27, 28, 29, 30, 31, 36, 38, 39, 40, 41, 42, 45, 46, 48, 49, 50, 51, 52, 53, 54, 55, 56, 57, 58, 59] zWd_len zWd_len (by decide +kernel) (zWd_same (I := I) (F := F) [] [(1, x_foretelling_minutes_n), (2, x_foretelling_passers_n), (3, x_foretelling_pens_n), (4, x_foretelling_seconds_n), (5, x_foretelling_tried_ticks_n), (22, x_race_guns_ticks_n)] [] [1, 2, 3, 4, 5, 22] _ rfl rfl (by decide +kernel)) rfl hP1
  clear hP1 hD1
  refine lv_pop hx hb dL_law_856 rfl ?_
  refine lv_aload_n hx hb dL_law_857 rfl (lv_at hl 1 rfl) ?_
  refine lv_aload_n hx hb dL_law_858 rfl (lv_at hl 3 rfl) ?_
  refine lv_iload_n hx hb dL_law_859 rfl (lv_at hl 0 rfl) ?_
  refine lv_iconst (v := (nI 1)) hx hb dL_law_860 rfl ?_
  refine lv_iadd hx hb dL_law_861 ?_
  refine va_sld hx hb hX hbl hbA hS h1_ dL_law_862 ?_
  refine lv_aload_n hx hb dL_law_863 rfl (lv_at hl 3 rfl) ?_
  refine lv_iload_n hx hb dL_law_864 rfl (lv_at hl 0 rfl) ?_
  refine lv_iconst (v := (nI 2)) hx hb dL_law_865 rfl ?_
  refine lv_iadd hx hb dL_law_866 ?_
  refine va_sld hx hb hX hbl hbA hS h2_ dL_law_867 ?_
  refine zVi (As := [.int (xs (i + (nI 1)).toNatClampNeg), .int (xs (i + (nI 2)).toNatClampNeg)]) (rest := []) (C := RX11) (wr := zrst [0, 1, 2, 3, 4, 5, 6, 7, 8, 9, 10, 11, 12, 13, 14, 15, 16, 17, 18, 19, 20, 21, 22, 23, 24, 25, 26, 27, 28, 29, 30, 31, 32, 33, 34, 35, 36, 37, 38, 39, 40, 41, 42, 43, 44, 45, 46, 47, 48, 49, 50, 51, 52, 54, 56, 58, 59] (zWd cB cI cZ A (zups [] I) (zups [(1, x_foretelling_minutes_n), (2, x_foretelling_passers_n), (3, x_foretelling_pens_n), (4, x_foretelling_seconds_n), (5, x_foretelling_tried_ticks_n), (22, x_race_guns_ticks_n)] F))) [53, 55, 57] [0, 1, 2, 3, 4, 5, 6, 7, 8, 9, 10, 11, 12, 13, 14, 15, 16, 17, 18, 19, 20, 21, 22, 23, 24, 25, 26, 27, 28, 29, 30, 31, 32, 33, 34, 35, 36, 37, 38, 39, 40, 41, 42, 43, 44, 45, 46, 47, 48, 49, 50, 51, 52, 54, 56, 58, 59] 0 ⟨hx, hb, hml, hown, hts_⟩ (mX11_plan l D cB cI cZ (A 53) (A 55) (A 54) (A 58) (A 57) (A 56) (A 59) (I 18) (I 19) (I 20) (I 21) (I 22) (I 23) (I 24) (I 25) (I 26) (I 27) (F 38) (F 40) H.size (xs (i + (nI 1)).toNatClampNeg) (xs (i + (nI 2)).toNatClampNeg) zN r_m m_thrown_n m_now_n m_passing_n e2_) (cwV 2 hts_ gL_law_X11_plan rfl rfl rfl (by decide +kernel) ⟨Nat.le_of_ble_eq_true rfl, Nat.le_of_ble_eq_true rfl⟩) hK hN hZ hP hD hS hA rfl rfl (zrst_map zWd_len rfl) rfl rfl rfl rfl rfl hl.1 rfl (lv_room (Nat.le_of_ble_eq_true rfl)) dL_law_868 (zfit (by omega) (by omega)) (fun H locs hP1 hD1 hS => ?_)
  replace hD := zWd_D (zups [(18, m_thrown_n)] (zups [] I)) (zups [(38, m_now_n), (40, m_passing_n)] (zups [(1, x_foretelling_minutes_n), (2, x_foretelling_passers_n), (3, x_foretelling_pens_n), (4, x_foretelling_seconds_n), (5, x_foretelling_tried_ticks_n), (22, x_race_guns_ticks_n)] F)) hD
  have hP := zback (W := zWd cB cI cZ A (zups [] I) (zups [(1, x_foretelling_minutes_n), (2, x_foretelling_passers_n), (3, x_foretelling_pens_n), (4, x_foretelling_seconds_n), (5, x_foretelling_tried_ticks_n), (22, x_race_guns_ticks_n)] F)) (W' := zWd cB cI cZ A (zups [(18, m_thrown_n)] (zups [] I)) (zups [(38, m_now_n), (40, m_passing_n)] (zups [(1, x_foretelling_minutes_n), (2, x_foretelling_passers_n), (3, x_foretelling_pens_n), (4, x_foretelling_seconds_n), (5, x_foretelling_tried_ticks_n), (22, x_race_guns_ticks_n)] F))) [53, 55, 57] [0, 1, 2, 3, 4, 5, 6, 7, 8, 9, 10, 11, 12, 13, 14, 15, 16, 17, 18, 19, 20, 21, 22, 23, 24, 25, 26, 27, 28, 29, 30, 31, 32, 33, 34, 35, 36, 37, 38, 39, 40, 41, 42, 43, 44, 45, 46, 47, 48, 49, 50, 51, 52, 54, 56, 58, 59] zWd_len zWd_len (by decide +kernel) (zWd_same (I := (zups [] I)) (F := (zups [(1, x_foretelling_minutes_n), (2, x_foretelling_passers_n), (3, x_foretelling_pens_n), (4, x_foretelling_seconds_n), (5, x_foretelling_tried_ticks_n), (22, x_race_guns_ticks_n)] F)) [(18, m_thrown_n)] [(38, m_now_n), (40, m_passing_n)] [18] [38, 40] _ rfl rfl (by decide +kernel)) rfl hP1
  clear hP1 hD1
  refine lv_pop hx hb dL_law_871 rfl ?_
  refine lv_goto (tgt := 1109) hx hb dL_law_872 (by decide) ?_
  refine W.widen (k := cells + 2) (n := slots + 20) (by omega) (by omega) ?_
  exact kk (zups [(18, m_thrown_n)] (zups [] I)) (zups [(38, m_now_n), (40, m_passing_n)] (zups [(1, x_foretelling_minutes_n), (2, x_foretelling_passers_n), (3, x_foretelling_pens_n), (4, x_foretelling_seconds_n), (5, x_foretelling_tried_ticks_n), (22, x_race_guns_ticks_n)] F)) H locs _ hI_ hP hD hS (lv_sub hl [0, 1, 2, 3] rfl)
set_option maxHeartbeats 4000000 in
set_option maxRecDepth 100000 in
theorem zlaw_19 {p : Program} {l : Launch} {e : Env} {s : State} {m : MethodId} {below : List Frame} {meth : Method} {c : Code} {b L : Nat} {xs : Nat → Int32} {D : va_G} {cB cI cZ : ClassId} (C0 : lw_At p s m meth c b L xs) (hK : va_K D vwCl (zT cB cI cZ) s) (hN : zNest s) (hZ : zStat (fun q : Nat => s.heap.size ≤ q) s s.heap) (A : Nat → Nat) (I : Nat → Int32) (F : Nat → Nat → Int32) (j : Nat) (i : Int32) (hi : i = nI j) (hj : j + 7 ≤ L) (hL : L ≤ 3584) (hI : zIF I F) (cells slots : Nat) (hc : cells + 10 ≤ 601024) (hs : slots + 100 ≤ 7293034) (H : Heap) (locs : List Loc) (hP : va_P D vwCl (zWd cB cI cZ A I F) H) (hD : va_D (fun q : Nat => s.heap.size ≤ q) (zWd cB cI cZ A I F)) (hS : va_S (fun q : Nat => s.heap.size ≤ q) s.heap H locs) (ls : Array Slot) (hl : lv_has ls 5 [(3, .int i), (2, .ref (A 53)), (1, .ref (A 0)), (0, .ref b)]) (kk : ∀ (I : Nat → Int32) (F : Nat → Nat → Int32) (H : Heap) (locs : List Loc) (ls : Array Slot), zIF I F → va_P D vwCl (zWd cB cI cZ A I F) H → va_D (fun q : Nat => s.heap.size ≤ q) (zWd cB cI cZ A I F) → va_S (fun q : Nat => s.heap.size ≤ q) s.heap H locs → lv_has ls 5 [(3, .int i), (2, .ref (A 53)), (1, .ref (A 0)), (0, .ref b)] → W p l e room_1 s m #[Value.ref b] below meth c H locs (cells + 2) (slots + 20) (lw_Z below #[Value.ref b] s) (F0 m 1109 ls [])) : W p l e room_1 s m #[Value.ref b] below meth c H locs cells slots (lw_Z below #[Value.ref b] s) (F0 m 875 ls []) := by
  obtain ⟨hx, hb, hr, hml, hown, hts, hX, hbl, hlocks, hgv⟩ := C0
  have hA : ∀ q : Nat, s.heap.size ≤ q → (fun q : Nat => s.heap.size ≤ q) q := fun _ h => h
  have hbA : ¬ (fun q : Nat => s.heap.size ≤ q) b := Nat.not_le.mpr hbl
  have hts_ : ∀ w ∈ wsL_law, w.before #[Value.ref b] s = true := fun w h => hts w (wsL_law_in w h)
  have h1_ : vp_in (i + (nI 1)) L := by rw [hi]; show vp_in (nI j + nI 1) L; rw [nI_add]; exact vp_in_nI (by omega) (by omega)
  refine lv_aload_n hx hb dL_law_875 rfl (lv_at hl 2 rfl) ?_
  refine lv_aload_n hx hb dL_law_876 rfl (lv_at hl 3 rfl) ?_
  refine lv_iload_n hx hb dL_law_877 rfl (lv_at hl 0 rfl) ?_
  refine lv_iconst (v := (nI 1)) hx hb dL_law_878 rfl ?_
  refine lv_iadd hx hb dL_law_879 ?_
  refine va_sld hx hb hX hbl hbA hS h1_ dL_law_880 ?_
  obtain ⟨r_x, x_text_length_n, x_text_bytes_n, r_m, m_length_n, m_thrown_n, m_text_n, e1_, e2_, hI_⟩ := zs_19 (I 0) (F 2) (F 6) (I 2) (I 3) (F 7) (F 8) (F 9) (F 10) (F 11) (F 12) (F 13) (I 4) (F 14) (F 15) (F 16) (F 17) (F 22) (I 11) (I 12) (F 23) (F 24) (F 25) (F 26) (F 27) (F 28) (F 29) (I 13) (F 30) (F 31) (F 32) (F 33) (I 14) (F 34) (I 18) (I 19) (I 20) (F 37) (F 38) (F 40) (F 41) (xs (i + (nI 1)).toNatClampNeg) hI
  refine zVi (As := [.int (xs (i + (nI 1)).toNatClampNeg)]) (rest := []) (C := RX10) (wr := zrst [1, 2, 3, 4, 5, 6, 7, 8, 9, 10, 11, 12, 13, 14, 15, 16, 17, 18, 19, 20, 21, 22, 23, 24, 25, 26, 27, 28, 29, 30, 31, 32, 33, 34, 35, 36, 37, 38, 39, 40, 41, 42, 43, 44, 45, 46, 47, 50, 51, 52, 53, 54, 55, 56, 57, 58, 59] (zWd cB cI cZ A I F)) [0, 48, 49] [1, 2, 3, 4, 5, 6, 7, 8, 9, 10, 11, 12, 13, 14, 15, 16, 17, 18, 19, 20, 21, 22, 23, 24, 25, 26, 27, 28, 29, 30, 31, 32, 33, 34, 35, 36, 37, 38, 39, 40, 41, 42, 43, 44, 45, 46, 47, 50, 51, 52, 53, 54, 55, 56, 57, 58, 59] 0 ⟨hx, hb, hml, hown, hts_⟩ (mX10_feed l D cB cI cZ (A 0) (A 32) (A 10) (A 50) (A 1) (A 3) (A 48) (A 26) (A 49) (I 0) (I 14) (F 34) H.size (xs (i + (nI 1)).toNatClampNeg) zN r_x x_text_length_n x_text_bytes_n e1_) (cwV 1 hts_ gL_law_X10_feed rfl rfl rfl (by decide +kernel) ⟨Nat.le_of_ble_eq_true rfl, Nat.le_of_ble_eq_true rfl⟩) hK hN hZ hP hD hS hA rfl rfl (zrst_map zWd_len rfl) rfl rfl rfl rfl rfl hl.1 rfl (lv_room (Nat.le_of_ble_eq_true rfl)) dL_law_881 (zfit (by omega) (by omega)) (fun H locs hP1 hD1 hS => ?_)
  replace hD := zWd_D (zups [(14, x_text_length_n)] I) (zups [(34, x_text_bytes_n)] F) hD
  have hP := zback (W := zWd cB cI cZ A I F) (W' := zWd cB cI cZ A (zups [(14, x_text_length_n)] I) (zups [(34, x_text_bytes_n)] F)) [0, 48, 49] [1, 2, 3, 4, 5, 6, 7, 8, 9, 10, 11, 12, 13, 14, 15, 16, 17, 18, 19, 20, 21, 22, 23, 24, 25, 26, 27, 28, 29, 30, 31, 32, 33, 34, 35, 36, 37, 38, 39, 40, 41, 42, 43, 44, 45, 46, 47, 50, 51, 52, 53, 54, 55, 56, 57, 58, 59] zWd_len zWd_len (by decide +kernel) (zWd_same (I := I) (F := F) [(14, x_text_length_n)] [(34, x_text_bytes_n)] [14] [34] _ rfl rfl (by decide +kernel)) rfl hP1
  clear hP1 hD1
  refine lv_pop hx hb dL_law_884 rfl ?_
  refine lv_aload_n hx hb dL_law_885 rfl (lv_at hl 1 rfl) ?_
  refine lv_aload_n hx hb dL_law_886 rfl (lv_at hl 3 rfl) ?_
  refine lv_iload_n hx hb dL_law_887 rfl (lv_at hl 0 rfl) ?_
  refine lv_iconst (v := (nI 1)) hx hb dL_law_888 rfl ?_
  refine lv_iadd hx hb dL_law_889 ?_
  refine va_sld hx hb hX hbl hbA hS h1_ dL_law_890 ?_
  refine zVi (As := [.int (xs (i + (nI 1)).toNatClampNeg)]) (rest := []) (C := RX11) (wr := zrst [0, 1, 2, 3, 4, 5, 6, 7, 8, 9, 10, 11, 12, 13, 14, 15, 16, 17, 18, 19, 20, 21, 22, 23, 24, 25, 26, 27, 28, 29, 30, 31, 32, 33, 34, 35, 36, 37, 38, 39, 40, 41, 42, 43, 44, 45, 46, 47, 48, 49, 50, 51, 52, 54, 55, 56, 57, 59] (zWd cB cI cZ A (zups [(14, x_text_length_n)] I) (zups [(34, x_text_bytes_n)] F))) [53, 58] [0, 1, 2, 3, 4, 5, 6, 7, 8, 9, 10, 11, 12, 13, 14, 15, 16, 17, 18, 19, 20, 21, 22, 23, 24, 25, 26, 27, 28, 29, 30, 31, 32, 33, 34, 35, 36, 37, 38, 39, 40, 41, 42, 43, 44, 45, 46, 47, 48, 49, 50, 51, 52, 54, 55, 56, 57, 59] 0 ⟨hx, hb, hml, hown, hts_⟩ (mX11_feed l D cB cI cZ (A 53) (A 55) (A 54) (A 58) (A 57) (A 56) (A 59) (I 18) (I 19) (I 20) (I 21) (I 22) (I 23) (I 24) (I 25) (I 26) (I 27) (F 41) H.size (xs (i + (nI 1)).toNatClampNeg) zN r_m m_length_n m_thrown_n m_text_n e2_) (cwV 1 hts_ gL_law_X11_feed rfl rfl rfl (by decide +kernel) ⟨Nat.le_of_ble_eq_true rfl, Nat.le_of_ble_eq_true rfl⟩) hK hN hZ hP hD hS hA rfl rfl (zrst_map zWd_len rfl) rfl rfl rfl rfl rfl hl.1 rfl (lv_room (Nat.le_of_ble_eq_true rfl)) dL_law_891 (zfit (by omega) (by omega)) (fun H locs hP1 hD1 hS => ?_)
  replace hD := zWd_D (zups [(20, m_length_n), (18, m_thrown_n)] (zups [(14, x_text_length_n)] I)) (zups [(41, m_text_n)] (zups [(34, x_text_bytes_n)] F)) hD
  have hP := zback (W := zWd cB cI cZ A (zups [(14, x_text_length_n)] I) (zups [(34, x_text_bytes_n)] F)) (W' := zWd cB cI cZ A (zups [(20, m_length_n), (18, m_thrown_n)] (zups [(14, x_text_length_n)] I)) (zups [(41, m_text_n)] (zups [(34, x_text_bytes_n)] F))) [53, 58] [0, 1, 2, 3, 4, 5, 6, 7, 8, 9, 10, 11, 12, 13, 14, 15, 16, 17, 18, 19, 20, 21, 22, 23, 24, 25, 26, 27, 28, 29, 30, 31, 32, 33, 34, 35, 36, 37, 38, 39, 40, 41, 42, 43, 44, 45, 46, 47, 48, 49, 50, 51, 52, 54, 55, 56, 57, 59] zWd_len zWd_len (by decide +kernel) (zWd_same (I := (zups [(14, x_text_length_n)] I)) (F := (zups [(34, x_text_bytes_n)] F)) [(20, m_length_n), (18, m_thrown_n)] [(41, m_text_n)] [20, 18] [41] _ rfl rfl (by decide +kernel)) rfl hP1
  clear hP1 hD1
  refine lv_pop hx hb dL_law_894 rfl ?_
  refine lv_goto (tgt := 1109) hx hb dL_law_895 (by decide) ?_
  refine W.widen (k := cells + 2) (n := slots + 20) (by omega) (by omega) ?_
  exact kk (zups [(20, m_length_n), (18, m_thrown_n)] (zups [(14, x_text_length_n)] I)) (zups [(41, m_text_n)] (zups [(34, x_text_bytes_n)] F)) H locs _ hI_ hP hD hS (lv_sub hl [0, 1, 2, 3] rfl)
