set_option maxHeartbeats 4000000 in
set_option maxRecDepth 100000 in
theorem zlaw_0 {p : Program} {l : Launch} {e : Env} {s : State} {m : MethodId} {below : List Frame} {meth : Method} {c : Code} {b L : Nat} {xs : Nat → Int32} {D : va_G} {cB cI cZ : ClassId} (C0 : lw_At p s m meth c b L xs) (hK : va_K D vwCl (zT cB cI cZ) s) (hN : zNest s) (hZ : zStat (fun q : Nat => s.heap.size ≤ q) s s.heap) (A : Nat → Nat) (I : Nat → Int32) (F : Nat → Nat → Int32) (j : Nat) (i : Int32) (hi : i = nI j) (hj : j + 7 ≤ L) (hL : L ≤ 3584) (hI : zIF I F) (cells slots : Nat) (hc : cells + 10 ≤ 601024) (hs : slots + 100 ≤ 7293034) (H : Heap) (locs : List Loc) (hP : va_P D vwCl (zWd cB cI cZ A I F) H) (hD : va_D (fun q : Nat => s.heap.size ≤ q) (zWd cB cI cZ A I F)) (hS : va_S (fun q : Nat => s.heap.size ≤ q) s.heap H locs) (ls : Array Slot) (hl : lv_has ls 5 [(3, .int i), (2, .ref (A 53)), (1, .ref (A 0)), (0, .ref b)]) (kk : ∀ (I : Nat → Int32) (F : Nat → Nat → Int32) (H : Heap) (locs : List Loc) (ls : Array Slot), zIF I F → va_P D vwCl (zWd cB cI cZ A I F) H → va_D (fun q : Nat => s.heap.size ≤ q) (zWd cB cI cZ A I F) → va_S (fun q : Nat => s.heap.size ≤ q) s.heap H locs → lv_has ls 5 [(3, .int i), (2, .ref (A 53)), (1, .ref (A 0)), (0, .ref b)] → W p l e room_1 s m #[Value.ref b] below meth c H locs (cells + 2) (slots + 20) (lw_Z below #[Value.ref b] s) (F0 m 1109 ls [])) : W p l e room_1 s m #[Value.ref b] below meth c H locs cells slots (lw_Z below #[Value.ref b] s) (F0 m 172 ls []) := by
  obtain ⟨hx, hb, hr, hml, hown, hts, hX, hbl, hlocks, hgv⟩ := C0
  have hA : ∀ q : Nat, s.heap.size ≤ q → (fun q : Nat => s.heap.size ≤ q) q := fun _ h => h
  have hbA : ¬ (fun q : Nat => s.heap.size ≤ q) b := Nat.not_le.mpr hbl
  have hts_ : ∀ w ∈ wsL_law, w.before #[Value.ref b] s = true := fun w h => hts w (wsL_law_in w h)
  have h1_ : vp_in (i + (nI 1)) L := by rw [hi]; show vp_in (nI j + nI 1) L; rw [nI_add]; exact vp_in_nI (by omega) (by omega)
  refine lv_aload_n hx hb dL_law_172 rfl (lv_at hl 2 rfl) ?_
  refine lv_aload_n hx hb dL_law_173 rfl (lv_at hl 3 rfl) ?_
  refine lv_iload_n hx hb dL_law_174 rfl (lv_at hl 0 rfl) ?_
  refine lv_iconst (v := (nI 1)) hx hb dL_law_175 rfl ?_
  refine lv_iadd hx hb dL_law_176 ?_
  refine va_sld hx hb hX hbl hbA hS h1_ dL_law_177 ?_
  obtain ⟨r_x, x_race_guns_ticks_n, x_race_runners_entered_n, x_race_runners_strikings_n, x_race_way_mats_n, x_race_way_bearings_n, x_race_way_cuts_n, x_race_way_deaths_n, x_race_way_places_n, r_m, m_thrown_n, m_now_n, e1_, e2_, hI_⟩ := zs_0 (I 0) (F 2) (F 6) (I 2) (I 3) (F 7) (F 8) (F 9) (F 10) (F 11) (F 12) (F 13) (I 4) (F 14) (F 15) (F 16) (F 17) (F 22) (I 11) (I 12) (F 23) (F 24) (F 25) (F 26) (F 27) (F 28) (F 29) (I 13) (F 30) (F 31) (F 32) (F 33) (I 14) (F 34) (I 18) (I 19) (I 20) (F 37) (F 38) (F 40) (F 41) (xs (i + (nI 1)).toNatClampNeg) hI
  refine zVi (As := [.int (xs (i + (nI 1)).toNatClampNeg)]) (rest := []) (C := RX10) (wr := zrst [1, 2, 3, 4, 5, 6, 7, 8, 9, 10, 11, 12, 13, 14, 15, 16, 17, 18, 19, 20, 21, 22, 23, 24, 25, 26, 27, 28, 29, 30, 31, 36, 37, 38, 39, 40, 41, 42, 48, 49, 50, 51, 52, 53, 54, 55, 56, 57, 58, 59] (zWd cB cI cZ A I F)) [0, 32, 33, 34, 35, 43, 44, 45, 46, 47] [1, 2, 3, 4, 5, 6, 7, 8, 9, 10, 11, 12, 13, 14, 15, 16, 17, 18, 19, 20, 21, 22, 23, 24, 25, 26, 27, 28, 29, 30, 31, 36, 37, 38, 39, 40, 41, 42, 48, 49, 50, 51, 52, 53, 54, 55, 56, 57, 58, 59] 0 ⟨hx, hb, hml, hown, hts_⟩ (mX10_way l D cB cI cZ (A 0) (A 32) (A 10) (A 50) (A 1) (A 3) (A 48) (A 26) (A 43) (A 33) (A 35) (A 34) (A 37) (A 38) (A 41) (A 36) (A 42) (A 40) (A 39) (A 47) (A 44) (A 45) (A 46) (I 0) (F 22) (I 11) (I 12) (I 13) (F 30) (F 31) (F 32) (F 33) H.size (xs (i + (nI 1)).toNatClampNeg) zN r_x x_race_guns_ticks_n x_race_runners_entered_n x_race_runners_strikings_n x_race_way_mats_n x_race_way_bearings_n x_race_way_cuts_n x_race_way_deaths_n x_race_way_places_n e1_) (cwV 1 hts_ gL_law_X10_way rfl rfl rfl (by decide +kernel) ⟨Nat.le_of_ble_eq_true rfl, Nat.le_of_ble_eq_true rfl⟩) hK hN hZ hP hD hS hA rfl rfl (zrst_map zWd_len rfl) rfl rfl rfl rfl rfl hl.1 rfl (lv_room (Nat.le_of_ble_eq_true rfl)) dL_law_178 (zfit (by omega) (by omega)) (fun H locs hP1 hD1 hS => ?_)
  replace hD := zWd_D (zups [(11, x_race_runners_entered_n), (12, x_race_runners_strikings_n), (13, x_race_way_mats_n)] I) (zups [(22, x_race_guns_ticks_n), (30, x_race_way_bearings_n), (31, x_race_way_cuts_n), (32, x_race_way_deaths_n), (33, x_race_way_places_n)] F) hD
  have hP := zback (W := zWd cB cI cZ A I F) (W' := zWd cB cI cZ A (zups [(11, x_race_runners_entered_n), (12, x_race_runners_strikings_n), (13, x_race_way_mats_n)] I) (zups [(22, x_race_guns_ticks_n), (30, x_race_way_bearings_n), (31, x_race_way_cuts_n), (32, x_race_way_deaths_n), (33, x_race_way_places_n)] F)) [0, 32, 33, 34, 35, 43, 44, 45, 46, 47] [1, 2, 3, 4, 5, 6, 7, 8, 9, 10, 11, 12, 13, 14, 15, 16, 17, 18, 19, 20, 21, 22, 23, 24, 25, 26, 27, 28, 29, 30, 31, 36, 37, 38, 39, 40, 41, 42, 48, 49, 50, 51, 52, 53, 54, 55, 56, 57, 58, 59] zWd_len zWd_len (by decide +kernel) (zWd_same (I := I) (F := F) [(11, x_race_runners_entered_n), (12, x_race_runners_strikings_n), (13, x_race_way_mats_n)] [(22, x_race_guns_ticks_n), (30, x_race_way_bearings_n), (31, x_race_way_cuts_n), (32, x_race_way_deaths_n), (33, x_race_way_places_n)] [11, 12, 13] [22, 30, 31, 32, 33] _ rfl rfl (by decide +kernel)) rfl hP1
  clear hP1 hD1
  refine lv_pop hx hb dL_law_181 rfl ?_
  refine lv_aload_n hx hb dL_law_182 rfl (lv_at hl 1 rfl) ?_
  refine lv_aload_n hx hb dL_law_183 rfl (lv_at hl 3 rfl) ?_
  refine lv_iload_n hx hb dL_law_184 rfl (lv_at hl 0 rfl) ?_
  refine lv_iconst (v := (nI 1)) hx hb dL_law_185 rfl ?_
  refine lv_iadd hx hb dL_law_186 ?_
  refine va_sld hx hb hX hbl hbA hS h1_ dL_law_187 ?_
  refine zVi (As := [.int (xs (i + (nI 1)).toNatClampNeg)]) (rest := []) (C := RX11) (wr := zrst [0, 1, 2, 3, 4, 5, 6, 7, 8, 9, 10, 11, 12, 13, 14, 15, 16, 17, 18, 19, 20, 21, 22, 23, 24, 25, 26, 27, 28, 29, 30, 31, 32, 33, 34, 35, 36, 37, 38, 39, 40, 41, 42, 43, 44, 45, 46, 47, 48, 49, 50, 51, 52, 54, 56, 57, 58, 59] (zWd cB cI cZ A (zups [(11, x_race_runners_entered_n), (12, x_race_runners_strikings_n), (13, x_race_way_mats_n)] I) (zups [(22, x_race_guns_ticks_n), (30, x_race_way_bearings_n), (31, x_race_way_cuts_n), (32, x_race_way_deaths_n), (33, x_race_way_places_n)] F))) [53, 55] [0, 1, 2, 3, 4, 5, 6, 7, 8, 9, 10, 11, 12, 13, 14, 15, 16, 17, 18, 19, 20, 21, 22, 23, 24, 25, 26, 27, 28, 29, 30, 31, 32, 33, 34, 35, 36, 37, 38, 39, 40, 41, 42, 43, 44, 45, 46, 47, 48, 49, 50, 51, 52, 54, 56, 57, 58, 59] 0 ⟨hx, hb, hml, hown, hts_⟩ (mX11_way l D cB cI cZ (A 53) (A 55) (A 54) (A 58) (A 57) (A 56) (A 59) (I 18) (I 19) (I 20) (I 21) (I 22) (I 23) (I 24) (I 25) (I 26) (I 27) (F 38) H.size (xs (i + (nI 1)).toNatClampNeg) zN r_m m_thrown_n m_now_n e2_) (cwV 1 hts_ gL_law_X11_way rfl rfl rfl (by decide +kernel) ⟨Nat.le_of_ble_eq_true rfl, Nat.le_of_ble_eq_true rfl⟩) hK hN hZ hP hD hS hA rfl rfl (zrst_map zWd_len rfl) rfl rfl rfl rfl rfl hl.1 rfl (lv_room (Nat.le_of_ble_eq_true rfl)) dL_law_188 (zfit (by omega) (by omega)) (fun H locs hP1 hD1 hS => ?_)
  replace hD := zWd_D (zups [(18, m_thrown_n)] (zups [(11, x_race_runners_entered_n), (12, x_race_runners_strikings_n), (13, x_race_way_mats_n)] I)) (zups [(38, m_now_n)] (zups [(22, x_race_guns_ticks_n), (30, x_race_way_bearings_n), (31, x_race_way_cuts_n), (32, x_race_way_deaths_n), (33, x_race_way_places_n)] F)) hD
  have hP := zback (W := zWd cB cI cZ A (zups [(11, x_race_runners_entered_n), (12, x_race_runners_strikings_n), (13, x_race_way_mats_n)] I) (zups [(22, x_race_guns_ticks_n), (30, x_race_way_bearings_n), (31, x_race_way_cuts_n), (32, x_race_way_deaths_n), (33, x_race_way_places_n)] F)) (W' := zWd cB cI cZ A (zups [(18, m_thrown_n)] (zups [(11, x_race_runners_entered_n), (12, x_race_runners_strikings_n), (13, x_race_way_mats_n)] I)) (zups [(38, m_now_n)] (zups [(22, x_race_guns_ticks_n), (30, x_race_way_bearings_n), (31, x_race_way_cuts_n), (32, x_race_way_deaths_n), (33, x_race_way_places_n)] F))) [53, 55] [0, 1, 2, 3, 4, 5, 6, 7, 8, 9, 10, 11, 12, 13, 14, 15, 16, 17, 18, 19, 20, 21, 22, 23, 24, 25, 26, 27, 28, 29, 30, 31, 32, 33, 34, 35, 36, 37, 38, 39, 40, 41, 42, 43, 44, 45, 46, 47, 48, 49, 50, 51, 52, 54, 56, 57, 58, 59] zWd_len zWd_len (by decide +kernel) (zWd_same (I := (zups [(11, x_race_runners_entered_n), (12, x_race_runners_strikings_n), (13, x_race_way_mats_n)] I)) (F := (zups [(22, x_race_guns_ticks_n), (30, x_race_way_bearings_n), (31, x_race_way_cuts_n), (32, x_race_way_deaths_n), (33, x_race_way_places_n)] F)) [(18, m_thrown_n)] [(38, m_now_n)] [18] [38] _ rfl rfl (by decide +kernel)) rfl hP1
  clear hP1 hD1
  refine lv_pop hx hb dL_law_191 rfl ?_
  refine lv_goto (tgt := 1109) hx hb dL_law_192 (by decide) ?_
  refine W.widen (k := cells + 2) (n := slots + 20) (by omega) (by omega) ?_
  exact kk (zups [(18, m_thrown_n)] (zups [(11, x_race_runners_entered_n), (12, x_race_runners_strikings_n), (13, x_race_way_mats_n)] I)) (zups [(38, m_now_n)] (zups [(22, x_race_guns_ticks_n), (30, x_race_way_bearings_n), (31, x_race_way_cuts_n), (32, x_race_way_deaths_n), (33, x_race_way_places_n)] F)) H locs _ hI_ hP hD hS (lv_sub hl [0, 1, 2, 3] rfl)
set_option maxHeartbeats 4000000 in
set_option maxRecDepth 100000 in
theorem zlaw_1 {p : Program} {l : Launch} {e : Env} {s : State} {m : MethodId} {below : List Frame} {meth : Method} {c : Code} {b L : Nat} {xs : Nat → Int32} {D : va_G} {cB cI cZ : ClassId} (C0 : lw_At p s m meth c b L xs) (hK : va_K D vwCl (zT cB cI cZ) s) (hN : zNest s) (hZ : zStat (fun q : Nat => s.heap.size ≤ q) s s.heap) (A : Nat → Nat) (I : Nat → Int32) (F : Nat → Nat → Int32) (j : Nat) (i : Int32) (hi : i = nI j) (hj : j + 7 ≤ L) (hL : L ≤ 3584) (hI : zIF I F) (cells slots : Nat) (hc : cells + 10 ≤ 601024) (hs : slots + 100 ≤ 7293034) (H : Heap) (locs : List Loc) (hP : va_P D vwCl (zWd cB cI cZ A I F) H) (hD : va_D (fun q : Nat => s.heap.size ≤ q) (zWd cB cI cZ A I F)) (hS : va_S (fun q : Nat => s.heap.size ≤ q) s.heap H locs) (ls : Array Slot) (hl : lv_has ls 5 [(3, .int i), (2, .ref (A 53)), (1, .ref (A 0)), (0, .ref b)]) (kk : ∀ (I : Nat → Int32) (F : Nat → Nat → Int32) (H : Heap) (locs : List Loc) (ls : Array Slot), zIF I F → va_P D vwCl (zWd cB cI cZ A I F) H → va_D (fun q : Nat => s.heap.size ≤ q) (zWd cB cI cZ A I F) → va_S (fun q : Nat => s.heap.size ≤ q) s.heap H locs → lv_has ls 5 [(3, .int i), (2, .ref (A 53)), (1, .ref (A 0)), (0, .ref b)] → W p l e room_1 s m #[Value.ref b] below meth c H locs (cells + 2) (slots + 20) (lw_Z below #[Value.ref b] s) (F0 m 1109 ls [])) : W p l e room_1 s m #[Value.ref b] below meth c H locs cells slots (lw_Z below #[Value.ref b] s) (F0 m 195 ls []) := by
  obtain ⟨hx, hb, hr, hml, hown, hts, hX, hbl, hlocks, hgv⟩ := C0
  have hA : ∀ q : Nat, s.heap.size ≤ q → (fun q : Nat => s.heap.size ≤ q) q := fun _ h => h
  have hbA : ¬ (fun q : Nat => s.heap.size ≤ q) b := Nat.not_le.mpr hbl
  have hts_ : ∀ w ∈ wsL_law, w.before #[Value.ref b] s = true := fun w h => hts w (wsL_law_in w h)
  have h1_ : vp_in (i + (nI 1)) L := by rw [hi]; show vp_in (nI j + nI 1) L; rw [nI_add]; exact vp_in_nI (by omega) (by omega)
  have h2_ : vp_in (i + (nI 2)) L := by rw [hi]; show vp_in (nI j + nI 2) L; rw [nI_add]; exact vp_in_nI (by omega) (by omega)
  refine lv_aload_n hx hb dL_law_195 rfl (lv_at hl 2 rfl) ?_
  refine lv_aload_n hx hb dL_law_196 rfl (lv_at hl 3 rfl) ?_
  refine lv_iload_n hx hb dL_law_197 rfl (lv_at hl 0 rfl) ?_
  refine lv_iconst (v := (nI 1)) hx hb dL_law_198 rfl ?_
  refine lv_iadd hx hb dL_law_199 ?_
  refine va_sld hx hb hX hbl hbA hS h1_ dL_law_200 ?_
  refine lv_aload_n hx hb dL_law_201 rfl (lv_at hl 3 rfl) ?_
  refine lv_iload_n hx hb dL_law_202 rfl (lv_at hl 0 rfl) ?_
  refine lv_iconst (v := (nI 2)) hx hb dL_law_203 rfl ?_
  refine lv_iadd hx hb dL_law_204 ?_
  refine va_sld hx hb hX hbl hbA hS h2_ dL_law_205 ?_
  obtain ⟨r_x, x_race_way_mats_n, x_race_way_bearings_n, x_race_way_cuts_n, x_race_way_deaths_n, x_race_way_places_n, r_m, m_thrown_n, m_now_n, e1_, e2_, hI_⟩ := zs_1 (I 0) (F 2) (F 6) (I 2) (I 3) (F 7) (F 8) (F 9) (F 10) (F 11) (F 12) (F 13) (I 4) (F 14) (F 15) (F 16) (F 17) (F 22) (I 11) (I 12) (F 23) (F 24) (F 25) (F 26) (F 27) (F 28) (F 29) (I 13) (F 30) (F 31) (F 32) (F 33) (I 14) (F 34) (I 18) (I 19) (I 20) (F 37) (F 38) (F 40) (F 41) (xs (i + (nI 1)).toNatClampNeg) (xs (i + (nI 2)).toNatClampNeg) hI
  refine zVi (As := [.int (xs (i + (nI 1)).toNatClampNeg), .int (xs (i + (nI 2)).toNatClampNeg)]) (rest := []) (C := RX10) (wr := zrst [1, 2, 3, 4, 5, 6, 7, 8, 9, 10, 11, 12, 13, 14, 15, 16, 17, 18, 19, 20, 21, 22, 23, 24, 25, 26, 27, 28, 29, 30, 31, 33, 34, 35, 36, 37, 38, 39, 40, 41, 42, 48, 49, 50, 51, 52, 53, 54, 55, 56, 57, 58, 59] (zWd cB cI cZ A I F)) [0, 32, 43, 44, 45, 46, 47] [1, 2, 3, 4, 5, 6, 7, 8, 9, 10, 11, 12, 13, 14, 15, 16, 17, 18, 19, 20, 21, 22, 23, 24, 25, 26, 27, 28, 29, 30, 31, 33, 34, 35, 36, 37, 38, 39, 40, 41, 42, 48, 49, 50, 51, 52, 53, 54, 55, 56, 57, 58, 59] 0 ⟨hx, hb, hml, hown, hts_⟩ (mX10_mat l D cB cI cZ (A 0) (A 32) (A 10) (A 50) (A 1) (A 3) (A 48) (A 26) (A 43) (A 33) (A 35) (A 47) (A 44) (A 45) (A 46) (I 0) (I 13) (F 30) (F 31) (F 32) (F 33) H.size (xs (i + (nI 1)).toNatClampNeg) (xs (i + (nI 2)).toNatClampNeg) r_x x_race_way_mats_n x_race_way_bearings_n x_race_way_cuts_n x_race_way_deaths_n x_race_way_places_n e1_) (cwV 2 hts_ gL_law_X10_mat rfl rfl rfl (by decide +kernel) ⟨Nat.le_of_ble_eq_true rfl, Nat.le_of_ble_eq_true rfl⟩) hK hN hZ hP hD hS hA rfl rfl (zrst_map zWd_len rfl) rfl rfl rfl rfl rfl hl.1 rfl (lv_room (Nat.le_of_ble_eq_true rfl)) dL_law_206 (zfit (by omega) (by omega)) (fun H locs hP1 hD1 hS => ?_)
  replace hD := zWd_D (zups [(13, x_race_way_mats_n)] I) (zups [(30, x_race_way_bearings_n), (31, x_race_way_cuts_n), (32, x_race_way_deaths_n), (33, x_race_way_places_n)] F) hD
  have hP := zback (W := zWd cB cI cZ A I F) (W' := zWd cB cI cZ A (zups [(13, x_race_way_mats_n)] I) (zups [(30, x_race_way_bearings_n), (31, x_race_way_cuts_n), (32, x_race_way_deaths_n), (33, x_race_way_places_n)] F)) [0, 32, 43, 44, 45, 46, 47] [1, 2, 3, 4, 5, 6, 7, 8, 9, 10, 11, 12, 13, 14, 15, 16, 17, 18, 19, 20, 21, 22, 23, 24, 25, 26, 27, 28, 29, 30, 31, 33, 34, 35, 36, 37, 38, 39, 40, 41, 42, 48, 49, 50, 51, 52, 53, 54, 55, 56, 57, 58, 59] zWd_len zWd_len (by decide +kernel) (zWd_same (I := I) (F := F) [(13, x_race_way_mats_n)] [(30, x_race_way_bearings_n), (31, x_race_way_cuts_n), (32, x_race_way_deaths_n), (33, x_race_way_places_n)] [13] [30, 31, 32, 33] _ rfl rfl (by decide +kernel)) rfl hP1
  clear hP1 hD1
  refine lv_pop hx hb dL_law_209 rfl ?_
  refine lv_aload_n hx hb dL_law_210 rfl (lv_at hl 1 rfl) ?_
  refine lv_aload_n hx hb dL_law_211 rfl (lv_at hl 3 rfl) ?_
  refine lv_iload_n hx hb dL_law_212 rfl (lv_at hl 0 rfl) ?_
  refine lv_iconst (v := (nI 1)) hx hb dL_law_213 rfl ?_
  refine lv_iadd hx hb dL_law_214 ?_
  refine va_sld hx hb hX hbl hbA hS h1_ dL_law_215 ?_
  refine lv_aload_n hx hb dL_law_216 rfl (lv_at hl 3 rfl) ?_
  refine lv_iload_n hx hb dL_law_217 rfl (lv_at hl 0 rfl) ?_
  refine lv_iconst (v := (nI 2)) hx hb dL_law_218 rfl ?_
  refine lv_iadd hx hb dL_law_219 ?_
  refine va_sld hx hb hX hbl hbA hS h2_ dL_law_220 ?_
  refine zVi (As := [.int (xs (i + (nI 1)).toNatClampNeg), .int (xs (i + (nI 2)).toNatClampNeg)]) (rest := []) (C := RX11) (wr := zrst [0, 1, 2, 3, 4, 5, 6, 7, 8, 9, 10, 11, 12, 13, 14, 15, 16, 17, 18, 19, 20, 21, 22, 23, 24, 25, 26, 27, 28, 29, 30, 31, 32, 33, 34, 35, 36, 37, 38, 39, 40, 41, 42, 43, 44, 45, 46, 47, 48, 49, 50, 51, 52, 54, 56, 57, 58, 59] (zWd cB cI cZ A (zups [(13, x_race_way_mats_n)] I) (zups [(30, x_race_way_bearings_n), (31, x_race_way_cuts_n), (32, x_race_way_deaths_n), (33, x_race_way_places_n)] F))) [53, 55] [0, 1, 2, 3, 4, 5, 6, 7, 8, 9, 10, 11, 12, 13, 14, 15, 16, 17, 18, 19, 20, 21, 22, 23, 24, 25, 26, 27, 28, 29, 30, 31, 32, 33, 34, 35, 36, 37, 38, 39, 40, 41, 42, 43, 44, 45, 46, 47, 48, 49, 50, 51, 52, 54, 56, 57, 58, 59] 0 ⟨hx, hb, hml, hown, hts_⟩ (mX11_mat l D cB cI cZ (A 53) (A 55) (A 54) (A 58) (A 57) (A 56) (A 59) (I 18) (I 19) (I 20) (I 21) (I 22) (I 23) (I 24) (I 25) (I 26) (I 27) (F 38) H.size (xs (i + (nI 1)).toNatClampNeg) (xs (i + (nI 2)).toNatClampNeg) zN r_m m_thrown_n m_now_n e2_) (cwV 2 hts_ gL_law_X11_mat rfl rfl rfl (by decide +kernel) ⟨Nat.le_of_ble_eq_true rfl, Nat.le_of_ble_eq_true rfl⟩) hK hN hZ hP hD hS hA rfl rfl (zrst_map zWd_len rfl) rfl rfl rfl rfl rfl hl.1 rfl (lv_room (Nat.le_of_ble_eq_true rfl)) dL_law_221 (zfit (by omega) (by omega)) (fun H locs hP1 hD1 hS => ?_)
  replace hD := zWd_D (zups [(18, m_thrown_n)] (zups [(13, x_race_way_mats_n)] I)) (zups [(38, m_now_n)] (zups [(30, x_race_way_bearings_n), (31, x_race_way_cuts_n), (32, x_race_way_deaths_n), (33, x_race_way_places_n)] F)) hD
  have hP := zback (W := zWd cB cI cZ A (zups [(13, x_race_way_mats_n)] I) (zups [(30, x_race_way_bearings_n), (31, x_race_way_cuts_n), (32, x_race_way_deaths_n), (33, x_race_way_places_n)] F)) (W' := zWd cB cI cZ A (zups [(18, m_thrown_n)] (zups [(13, x_race_way_mats_n)] I)) (zups [(38, m_now_n)] (zups [(30, x_race_way_bearings_n), (31, x_race_way_cuts_n), (32, x_race_way_deaths_n), (33, x_race_way_places_n)] F))) [53, 55] [0, 1, 2, 3, 4, 5, 6, 7, 8, 9, 10, 11, 12, 13, 14, 15, 16, 17, 18, 19, 20, 21, 22, 23, 24, 25, 26, 27, 28, 29, 30, 31, 32, 33, 34, 35, 36, 37, 38, 39, 40, 41, 42, 43, 44, 45, 46, 47, 48, 49, 50, 51, 52, 54, 56, 57, 58, 59] zWd_len zWd_len (by decide +kernel) (zWd_same (I := (zups [(13, x_race_way_mats_n)] I)) (F := (zups [(30, x_race_way_bearings_n), (31, x_race_way_cuts_n), (32, x_race_way_deaths_n), (33, x_race_way_places_n)] F)) [(18, m_thrown_n)] [(38, m_now_n)] [18] [38] _ rfl rfl (by decide +kernel)) rfl hP1
  clear hP1 hD1
  refine lv_pop hx hb dL_law_224 rfl ?_
  refine lv_goto (tgt := 1109) hx hb dL_law_225 (by decide) ?_
  refine W.widen (k := cells + 2) (n := slots + 20) (by omega) (by omega) ?_
  exact kk (zups [(18, m_thrown_n)] (zups [(13, x_race_way_mats_n)] I)) (zups [(38, m_now_n)] (zups [(30, x_race_way_bearings_n), (31, x_race_way_cuts_n), (32, x_race_way_deaths_n), (33, x_race_way_places_n)] F)) H locs _ hI_ hP hD hS (lv_sub hl [0, 1, 2, 3] rfl)
set_option maxHeartbeats 4000000 in
set_option maxRecDepth 100000 in
theorem zlaw_2 {p : Program} {l : Launch} {e : Env} {s : State} {m : MethodId} {below : List Frame} {meth : Method} {c : Code} {b L : Nat} {xs : Nat → Int32} {D : va_G} {cB cI cZ : ClassId} (C0 : lw_At p s m meth c b L xs) (hK : va_K D vwCl (zT cB cI cZ) s) (hN : zNest s) (hZ : zStat (fun q : Nat => s.heap.size ≤ q) s s.heap) (A : Nat → Nat) (I : Nat → Int32) (F : Nat → Nat → Int32) (j : Nat) (i : Int32) (hi : i = nI j) (hj : j + 7 ≤ L) (hL : L ≤ 3584) (hI : zIF I F) (cells slots : Nat) (hc : cells + 10 ≤ 601024) (hs : slots + 100 ≤ 7293034) (H : Heap) (locs : List Loc) (hP : va_P D vwCl (zWd cB cI cZ A I F) H) (hD : va_D (fun q : Nat => s.heap.size ≤ q) (zWd cB cI cZ A I F)) (hS : va_S (fun q : Nat => s.heap.size ≤ q) s.heap H locs) (ls : Array Slot) (hl : lv_has ls 5 [(3, .int i), (2, .ref (A 53)), (1, .ref (A 0)), (0, .ref b)]) (kk : ∀ (I : Nat → Int32) (F : Nat → Nat → Int32) (H : Heap) (locs : List Loc) (ls : Array Slot), zIF I F → va_P D vwCl (zWd cB cI cZ A I F) H → va_D (fun q : Nat => s.heap.size ≤ q) (zWd cB cI cZ A I F) → va_S (fun q : Nat => s.heap.size ≤ q) s.heap H locs → lv_has ls 5 [(3, .int i), (2, .ref (A 53)), (1, .ref (A 0)), (0, .ref b)] → W p l e room_1 s m #[Value.ref b] below meth c H locs (cells + 2) (slots + 20) (lw_Z below #[Value.ref b] s) (F0 m 1109 ls [])) : W p l e room_1 s m #[Value.ref b] below meth c H locs cells slots (lw_Z below #[Value.ref b] s) (F0 m 228 ls []) := by
  obtain ⟨hx, hb, hr, hml, hown, hts, hX, hbl, hlocks, hgv⟩ := C0
  have hA : ∀ q : Nat, s.heap.size ≤ q → (fun q : Nat => s.heap.size ≤ q) q := fun _ h => h
  have hbA : ¬ (fun q : Nat => s.heap.size ≤ q) b := Nat.not_le.mpr hbl
  have hts_ : ∀ w ∈ wsL_law, w.before #[Value.ref b] s = true := fun w h => hts w (wsL_law_in w h)
  have h1_ : vp_in (i + (nI 1)) L := by rw [hi]; show vp_in (nI j + nI 1) L; rw [nI_add]; exact vp_in_nI (by omega) (by omega)
  have h2_ : vp_in (i + (nI 2)) L := by rw [hi]; show vp_in (nI j + nI 2) L; rw [nI_add]; exact vp_in_nI (by omega) (by omega)
  have h3_ : vp_in (i + (nI 3)) L := by rw [hi]; show vp_in (nI j + nI 3) L; rw [nI_add]; exact vp_in_nI (by omega) (by omega)
  have h4_ : vp_in (i + (nI 4)) L := by rw [hi]; show vp_in (nI j + nI 4) L; rw [nI_add]; exact vp_in_nI (by omega) (by omega)
  have h5_ : vp_in (i + (nI 5)) L := by rw [hi]; show vp_in (nI j + nI 5) L; rw [nI_add]; exact vp_in_nI (by omega) (by omega)
  have h6_ : vp_in (i + (nI 6)) L := by rw [hi]; show vp_in (nI j + nI 6) L; rw [nI_add]; exact vp_in_nI (by omega) (by omega)
  refine lv_aload_n hx hb dL_law_228 rfl (lv_at hl 2 rfl) ?_
  refine lv_aload_n hx hb dL_law_229 rfl (lv_at hl 3 rfl) ?_
  refine lv_iload_n hx hb dL_law_230 rfl (lv_at hl 0 rfl) ?_
  refine lv_iconst (v := (nI 1)) hx hb dL_law_231 rfl ?_
  refine lv_iadd hx hb dL_law_232 ?_
  refine va_sld hx hb hX hbl hbA hS h1_ dL_law_233 ?_
  refine lv_aload_n hx hb dL_law_234 rfl (lv_at hl 3 rfl) ?_
  refine lv_iload_n hx hb dL_law_235 rfl (lv_at hl 0 rfl) ?_
  refine lv_iconst (v := (nI 2)) hx hb dL_law_236 rfl ?_
  refine lv_iadd hx hb dL_law_237 ?_
  refine va_sld hx hb hX hbl hbA hS h2_ dL_law_238 ?_
  refine lv_aload_n hx hb dL_law_239 rfl (lv_at hl 3 rfl) ?_
  refine lv_iload_n hx hb dL_law_240 rfl (lv_at hl 0 rfl) ?_
  refine lv_iconst (v := (nI 3)) hx hb dL_law_241 rfl ?_
  refine lv_iadd hx hb dL_law_242 ?_
  refine va_sld hx hb hX hbl hbA hS h3_ dL_law_243 ?_
  refine lv_aload_n hx hb dL_law_244 rfl (lv_at hl 3 rfl) ?_
  refine lv_iload_n hx hb dL_law_245 rfl (lv_at hl 0 rfl) ?_
  refine lv_iconst (v := (nI 4)) hx hb dL_law_246 rfl ?_
  refine lv_iadd hx hb dL_law_247 ?_
  refine va_sld hx hb hX hbl hbA hS h4_ dL_law_248 ?_
  refine lv_aload_n hx hb dL_law_249 rfl (lv_at hl 3 rfl) ?_
  refine lv_iload_n hx hb dL_law_250 rfl (lv_at hl 0 rfl) ?_
  refine lv_iconst (v := (nI 5)) hx hb dL_law_251 rfl ?_
  refine lv_iadd hx hb dL_law_252 ?_
  refine va_sld hx hb hX hbl hbA hS h5_ dL_law_253 ?_
  refine lv_aload_n hx hb dL_law_254 rfl (lv_at hl 3 rfl) ?_
  refine lv_iload_n hx hb dL_law_255 rfl (lv_at hl 0 rfl) ?_
  refine lv_bipush (v := (nI 6)) hx hb dL_law_256 rfl ?_
  refine lv_iadd hx hb dL_law_258 ?_
  refine va_sld hx hb hX hbl hbA hS h6_ dL_law_259 ?_
  obtain ⟨r_x, x_race_runners_entered_n, x_race_runners_dropped_n, x_race_runners_facts_n, x_race_runners_splits_n, x_race_runners_struck_n, x_race_runners_torn_n, x_race_runners_waved_n, r_m, m_thrown_n, m_now_n, e1_, e2_, hI_⟩ := zs_2 (I 0) (F 2) (F 6) (I 2) (I 3) (F 7) (F 8) (F 9) (F 10) (F 11) (F 12) (F 13) (I 4) (F 14) (F 15) (F 16) (F 17) (F 22) (I 11) (I 12) (F 23) (F 24) (F 25) (F 26) (F 27) (F 28) (F 29) (I 13) (F 30) (F 31) (F 32) (F 33) (I 14) (F 34) (I 18) (I 19) (I 20) (F 37) (F 38) (F 40) (F 41) (xs (i + (nI 1)).toNatClampNeg) (xs (i + (nI 2)).toNatClampNeg) (xs (i + (nI 3)).toNatClampNeg) (xs (i + (nI 4)).toNatClampNeg) (xs (i + (nI 5)).toNatClampNeg) (xs (i + (nI 6)).toNatClampNeg) hI
  refine zVi (As := [.int (xs (i + (nI 1)).toNatClampNeg), .int (xs (i + (nI 2)).toNatClampNeg), .int (xs (i + (nI 3)).toNatClampNeg), .int (xs (i + (nI 4)).toNatClampNeg), .int (xs (i + (nI 5)).toNatClampNeg), .int (xs (i + (nI 6)).toNatClampNeg)]) (rest := []) (C := RX10) (wr := zrst [1, 2, 3, 4, 5, 6, 7, 8, 9, 10, 11, 12, 13, 14, 15, 16, 17, 18, 19, 20, 21, 22, 23, 24, 25, 26, 27, 28, 29, 30, 31, 33, 34, 39, 43, 44, 45, 46, 47, 48, 49, 50, 51, 52, 53, 54, 55, 56, 57, 58, 59] (zWd cB cI cZ A I F)) [0, 32, 35, 36, 37, 38, 40, 41, 42] [1, 2, 3, 4, 5, 6, 7, 8, 9, 10, 11, 12, 13, 14, 15, 16, 17, 18, 19, 20, 21, 22, 23, 24, 25, 26, 27, 28, 29, 30, 31, 33, 34, 39, 43, 44, 45, 46, 47, 48, 49, 50, 51, 52, 53, 54, 55, 56, 57, 58, 59] 0 ⟨hx, hb, hml, hown, hts_⟩ (mX10_runner l D cB cI cZ (A 0) (A 32) (A 10) (A 50) (A 1) (A 3) (A 48) (A 26) (A 43) (A 33) (A 35) (A 37) (A 38) (A 41) (A 36) (A 42) (A 40) (A 39) (I 0) (I 11) (I 12) (F 23) (F 24) (F 25) (F 27) (F 28) (F 29) H.size (xs (i + (nI 1)).toNatClampNeg) (xs (i + (nI 2)).toNatClampNeg) (xs (i + (nI 3)).toNatClampNeg) (xs (i + (nI 4)).toNatClampNeg) (xs (i + (nI 5)).toNatClampNeg) (xs (i + (nI 6)).toNatClampNeg) zN r_x x_race_runners_entered_n x_race_runners_dropped_n x_race_runners_facts_n x_race_runners_splits_n x_race_runners_struck_n x_race_runners_torn_n x_race_runners_waved_n e1_) (cwV 6 hts_ gL_law_X10_runner rfl rfl rfl (by decide +kernel) ⟨Nat.le_of_ble_eq_true rfl, Nat.le_of_ble_eq_true rfl⟩) hK hN hZ hP hD hS hA rfl rfl (zrst_map zWd_len rfl) rfl rfl rfl rfl rfl hl.1 rfl (lv_room (Nat.le_of_ble_eq_true rfl)) dL_law_260 (zfit (by omega) (by omega)) (fun H locs hP1 hD1 hS => ?_)
  replace hD := zWd_D (zups [(11, x_race_runners_entered_n)] I) (zups [(23, x_race_runners_dropped_n), (24, x_race_runners_facts_n), (25, x_race_runners_splits_n), (27, x_race_runners_struck_n), (28, x_race_runners_torn_n), (29, x_race_runners_waved_n)] F) hD
  have hP := zback (W := zWd cB cI cZ A I F) (W' := zWd cB cI cZ A (zups [(11, x_race_runners_entered_n)] I) (zups [(23, x_race_runners_dropped_n), (24, x_race_runners_facts_n), (25, x_race_runners_splits_n), (27, x_race_runners_struck_n), (28, x_race_runners_torn_n), (29, x_race_runners_waved_n)] F)) [0, 32, 35, 36, 37, 38, 40, 41, 42] [1, 2, 3, 4, 5, 6, 7, 8, 9, 10, 11, 12, 13, 14, 15, 16, 17, 18, 19, 20, 21, 22, 23, 24, 25, 26, 27, 28, 29, 30, 31, 33, 34, 39, 43, 44, 45, 46, 47, 48, 49, 50, 51, 52, 53, 54, 55, 56, 57, 58, 59] zWd_len zWd_len (by decide +kernel) (zWd_same (I := I) (F := F) [(11, x_race_runners_entered_n)] [(23, x_race_runners_dropped_n), (24, x_race_runners_facts_n), (25, x_race_runners_splits_n), (27, x_race_runners_struck_n), (28, x_race_runners_torn_n), (29, x_race_runners_waved_n)] [11] [23, 24, 25, 27, 28, 29] _ rfl rfl (by decide +kernel)) rfl hP1
  clear hP1 hD1
  refine lv_pop hx hb dL_law_263 rfl ?_
  refine lv_aload_n hx hb dL_law_264 rfl (lv_at hl 1 rfl) ?_
  refine lv_aload_n hx hb dL_law_265 rfl (lv_at hl 3 rfl) ?_
  refine lv_iload_n hx hb dL_law_266 rfl (lv_at hl 0 rfl) ?_
  refine lv_iconst (v := (nI 1)) hx hb dL_law_267 rfl ?_
  refine lv_iadd hx hb dL_law_268 ?_
  refine va_sld hx hb hX hbl hbA hS h1_ dL_law_269 ?_
  refine lv_aload_n hx hb dL_law_270 rfl (lv_at hl 3 rfl) ?_
  refine lv_iload_n hx hb dL_law_271 rfl (lv_at hl 0 rfl) ?_
  refine lv_iconst (v := (nI 2)) hx hb dL_law_272 rfl ?_
  refine lv_iadd hx hb dL_law_273 ?_
  refine va_sld hx hb hX hbl hbA hS h2_ dL_law_274 ?_
  refine lv_aload_n hx hb dL_law_275 rfl (lv_at hl 3 rfl) ?_
  refine lv_iload_n hx hb dL_law_276 rfl (lv_at hl 0 rfl) ?_
  refine lv_iconst (v := (nI 3)) hx hb dL_law_277 rfl ?_
  refine lv_iadd hx hb dL_law_278 ?_
  refine va_sld hx hb hX hbl hbA hS h3_ dL_law_279 ?_
  refine lv_aload_n hx hb dL_law_280 rfl (lv_at hl 3 rfl) ?_
  refine lv_iload_n hx hb dL_law_281 rfl (lv_at hl 0 rfl) ?_
  refine lv_iconst (v := (nI 4)) hx hb dL_law_282 rfl ?_
  refine lv_iadd hx hb dL_law_283 ?_
  refine va_sld hx hb hX hbl hbA hS h4_ dL_law_284 ?_
  refine lv_aload_n hx hb dL_law_285 rfl (lv_at hl 3 rfl) ?_
  refine lv_iload_n hx hb dL_law_286 rfl (lv_at hl 0 rfl) ?_
  refine lv_iconst (v := (nI 5)) hx hb dL_law_287 rfl ?_
  refine lv_iadd hx hb dL_law_288 ?_
  refine va_sld hx hb hX hbl hbA hS h5_ dL_law_289 ?_
  refine lv_aload_n hx hb dL_law_290 rfl (lv_at hl 3 rfl) ?_
  refine lv_iload_n hx hb dL_law_291 rfl (lv_at hl 0 rfl) ?_
  refine lv_bipush (v := (nI 6)) hx hb dL_law_292 rfl ?_
  refine lv_iadd hx hb dL_law_294 ?_
  refine va_sld hx hb hX hbl hbA hS h6_ dL_law_295 ?_
  refine zVi (As := [.int (xs (i + (nI 1)).toNatClampNeg), .int (xs (i + (nI 2)).toNatClampNeg), .int (xs (i + (nI 3)).toNatClampNeg), .int (xs (i + (nI 4)).toNatClampNeg), .int (xs (i + (nI 5)).toNatClampNeg), .int (xs (i + (nI 6)).toNatClampNeg)]) (rest := []) (C := RX11) (wr := zrst [0, 1, 2, 3, 4, 5, 6, 7, 8, 9, 10, 11, 12, 13, 14, 15, 16, 17, 18, 19, 20, 21, 22, 23, 24, 25, 26, 27, 28, 29, 30, 31, 32, 33, 34, 35, 36, 37, 38, 39, 40, 41, 42, 43, 44, 45, 46, 47, 48, 49, 50, 51, 52, 54, 56, 57, 58, 59] (zWd cB cI cZ A (zups [(11, x_race_runners_entered_n)] I) (zups [(23, x_race_runners_dropped_n), (24, x_race_runners_facts_n), (25, x_race_runners_splits_n), (27, x_race_runners_struck_n), (28, x_race_runners_torn_n), (29, x_race_runners_waved_n)] F))) [53, 55] [0, 1, 2, 3, 4, 5, 6, 7, 8, 9, 10, 11, 12, 13, 14, 15, 16, 17, 18, 19, 20, 21, 22, 23, 24, 25, 26, 27, 28, 29, 30, 31, 32, 33, 34, 35, 36, 37, 38, 39, 40, 41, 42, 43, 44, 45, 46, 47, 48, 49, 50, 51, 52, 54, 56, 57, 58, 59] 0 ⟨hx, hb, hml, hown, hts_⟩ (mX11_runner l D cB cI cZ (A 53) (A 55) (A 54) (A 58) (A 57) (A 56) (A 59) (I 18) (I 19) (I 20) (I 21) (I 22) (I 23) (I 24) (I 25) (I 26) (I 27) (F 38) H.size (xs (i + (nI 1)).toNatClampNeg) (xs (i + (nI 2)).toNatClampNeg) (xs (i + (nI 3)).toNatClampNeg) (xs (i + (nI 4)).toNatClampNeg) (xs (i + (nI 5)).toNatClampNeg) (xs (i + (nI 6)).toNatClampNeg) zN r_m m_thrown_n m_now_n e2_) (cwV 6 hts_ gL_law_X11_runner rfl rfl rfl (by decide +kernel) ⟨Nat.le_of_ble_eq_true rfl, Nat.le_of_ble_eq_true rfl⟩) hK hN hZ hP hD hS hA rfl rfl (zrst_map zWd_len rfl) rfl rfl rfl rfl rfl hl.1 rfl (lv_room (Nat.le_of_ble_eq_true rfl)) dL_law_296 (zfit (by omega) (by omega)) (fun H locs hP1 hD1 hS => ?_)
  replace hD := zWd_D (zups [(18, m_thrown_n)] (zups [(11, x_race_runners_entered_n)] I)) (zups [(38, m_now_n)] (zups [(23, x_race_runners_dropped_n), (24, x_race_runners_facts_n), (25, x_race_runners_splits_n), (27, x_race_runners_struck_n), (28, x_race_runners_torn_n), (29, x_race_runners_waved_n)] F)) hD
  have hP := zback (W := zWd cB cI cZ A (zups [(11, x_race_runners_entered_n)] I) (zups [(23, x_race_runners_dropped_n), (24, x_race_runners_facts_n), (25, x_race_runners_splits_n), (27, x_race_runners_struck_n), (28, x_race_runners_torn_n), (29, x_race_runners_waved_n)] F)) (W' := zWd cB cI cZ A (zups [(18, m_thrown_n)] (zups [(11, x_race_runners_entered_n)] I)) (zups [(38, m_now_n)] (zups [(23, x_race_runners_dropped_n), (24, x_race_runners_facts_n), (25, x_race_runners_splits_n), (27, x_race_runners_struck_n), (28, x_race_runners_torn_n), (29, x_race_runners_waved_n)] F))) [53, 55] [0, 1, 2, 3, 4, 5, 6, 7, 8, 9, 10, 11, 12, 13, 14, 15, 16, 17, 18, 19, 20, 21, 22, 23, 24, 25, 26, 27, 28, 29, 30, 31, 32, 33, 34, 35, 36, 37, 38, 39, 40, 41, 42, 43, 44, 45, 46, 47, 48, 49, 50, 51, 52, 54, 56, 57, 58, 59] zWd_len zWd_len (by decide +kernel) (zWd_same (I := (zups [(11, x_race_runners_entered_n)] I)) (F := (zups [(23, x_race_runners_dropped_n), (24, x_race_runners_facts_n), (25, x_race_runners_splits_n), (27, x_race_runners_struck_n), (28, x_race_runners_torn_n), (29, x_race_runners_waved_n)] F)) [(18, m_thrown_n)] [(38, m_now_n)] [18] [38] _ rfl rfl (by decide +kernel)) rfl hP1
  clear hP1 hD1
  refine lv_pop hx hb dL_law_299 rfl ?_
  refine lv_goto (tgt := 1109) hx hb dL_law_300 (by decide) ?_
  refine W.widen (k := cells + 2) (n := slots + 20) (by omega) (by omega) ?_
  exact kk (zups [(18, m_thrown_n)] (zups [(11, x_race_runners_entered_n)] I)) (zups [(38, m_now_n)] (zups [(23, x_race_runners_dropped_n), (24, x_race_runners_facts_n), (25, x_race_runners_splits_n), (27, x_race_runners_struck_n), (28, x_race_runners_torn_n), (29, x_race_runners_waved_n)] F)) H locs _ hI_ hP hD hS (lv_sub hl [0, 1, 2, 3] rfl)
set_option maxHeartbeats 4000000 in
set_option maxRecDepth 100000 in
theorem zlaw_3 {p : Program} {l : Launch} {e : Env} {s : State} {m : MethodId} {below : List Frame} {meth : Method} {c : Code} {b L : Nat} {xs : Nat → Int32} {D : va_G} {cB cI cZ : ClassId} (C0 : lw_At p s m meth c b L xs) (hK : va_K D vwCl (zT cB cI cZ) s) (hN : zNest s) (hZ : zStat (fun q : Nat => s.heap.size ≤ q) s s.heap) (A : Nat → Nat) (I : Nat → Int32) (F : Nat → Nat → Int32) (j : Nat) (i : Int32) (hi : i = nI j) (hj : j + 7 ≤ L) (hL : L ≤ 3584) (hI : zIF I F) (cells slots : Nat) (hc : cells + 10 ≤ 601024) (hs : slots + 100 ≤ 7293034) (H : Heap) (locs : List Loc) (hP : va_P D vwCl (zWd cB cI cZ A I F) H) (hD : va_D (fun q : Nat => s.heap.size ≤ q) (zWd cB cI cZ A I F)) (hS : va_S (fun q : Nat => s.heap.size ≤ q) s.heap H locs) (ls : Array Slot) (hl : lv_has ls 5 [(3, .int i), (2, .ref (A 53)), (1, .ref (A 0)), (0, .ref b)]) (kk : ∀ (I : Nat → Int32) (F : Nat → Nat → Int32) (H : Heap) (locs : List Loc) (ls : Array Slot), zIF I F → va_P D vwCl (zWd cB cI cZ A I F) H → va_D (fun q : Nat => s.heap.size ≤ q) (zWd cB cI cZ A I F) → va_S (fun q : Nat => s.heap.size ≤ q) s.heap H locs → lv_has ls 5 [(3, .int i), (2, .ref (A 53)), (1, .ref (A 0)), (0, .ref b)] → W p l e room_1 s m #[Value.ref b] below meth c H locs (cells + 2) (slots + 20) (lw_Z below #[Value.ref b] s) (F0 m 1109 ls [])) : W p l e room_1 s m #[Value.ref b] below meth c H locs cells slots (lw_Z below #[Value.ref b] s) (F0 m 303 ls []) := by
  obtain ⟨hx, hb, hr, hml, hown, hts, hX, hbl, hlocks, hgv⟩ := C0
  have hA : ∀ q : Nat, s.heap.size ≤ q → (fun q : Nat => s.heap.size ≤ q) q := fun _ h => h
  have hbA : ¬ (fun q : Nat => s.heap.size ≤ q) b := Nat.not_le.mpr hbl
  have hts_ : ∀ w ∈ wsL_law, w.before #[Value.ref b] s = true := fun w h => hts w (wsL_law_in w h)
  have h1_ : vp_in (i + (nI 1)) L := by rw [hi]; show vp_in (nI j + nI 1) L; rw [nI_add]; exact vp_in_nI (by omega) (by omega)
  have h2_ : vp_in (i + (nI 2)) L := by rw [hi]; show vp_in (nI j + nI 2) L; rw [nI_add]; exact vp_in_nI (by omega) (by omega)
  refine lv_aload_n hx hb dL_law_303 rfl (lv_at hl 2 rfl) ?_
  refine lv_aload_n hx hb dL_law_304 rfl (lv_at hl 3 rfl) ?_
  refine lv_iload_n hx hb dL_law_305 rfl (lv_at hl 0 rfl) ?_
  refine lv_iconst (v := (nI 1)) hx hb dL_law_306 rfl ?_
  refine lv_iadd hx hb dL_law_307 ?_
  refine va_sld hx hb hX hbl hbA hS h1_ dL_law_308 ?_
  refine lv_aload_n hx hb dL_law_309 rfl (lv_at hl 3 rfl) ?_
  refine lv_iload_n hx hb dL_law_310 rfl (lv_at hl 0 rfl) ?_
  refine lv_iconst (v := (nI 2)) hx hb dL_law_311 rfl ?_
  refine lv_iadd hx hb dL_law_312 ?_
  refine va_sld hx hb hX hbl hbA hS h2_ dL_law_313 ?_
  obtain ⟨r_x, x_race_guns_ticks_n, r_m, m_thrown_n, m_now_n, e1_, e2_, hI_⟩ := zs_3 (I 0) (F 2) (F 6) (I 2) (I 3) (F 7) (F 8) (F 9) (F 10) (F 11) (F 12) (F 13) (I 4) (F 14) (F 15) (F 16) (F 17) (F 22) (I 11) (I 12) (F 23) (F 24) (F 25) (F 26) (F 27) (F 28) (F 29) (I 13) (F 30) (F 31) (F 32) (F 33) (I 14) (F 34) (I 18) (I 19) (I 20) (F 37) (F 38) (F 40) (F 41) (xs (i + (nI 1)).toNatClampNeg) (xs (i + (nI 2)).toNatClampNeg) hI
  refine zVi (As := [.int (xs (i + (nI 1)).toNatClampNeg), .int (xs (i + (nI 2)).toNatClampNeg)]) (rest := []) (C := RX10) (wr := zrst [1, 2, 3, 4, 5, 6, 7, 8, 9, 10, 11, 12, 13, 14, 15, 16, 17, 18, 19, 20, 21, 22, 23, 24, 25, 26, 27, 28, 29, 30, 31, 35, 36, 37, 38, 39, 40, 41, 42, 43, 44, 45, 46, 47, 48, 49, 50, 51, 52, 53, 54, 55, 56, 57, 58, 59] (zWd cB cI cZ A I F)) [0, 32, 33, 34] [1, 2, 3, 4, 5, 6, 7, 8, 9, 10, 11, 12, 13, 14, 15, 16, 17, 18, 19, 20, 21, 22, 23, 24, 25, 26, 27, 28, 29, 30, 31, 35, 36, 37, 38, 39, 40, 41, 42, 43, 44, 45, 46, 47, 48, 49, 50, 51, 52, 53, 54, 55, 56, 57, 58, 59] 0 ⟨hx, hb, hml, hown, hts_⟩ (mX10_gun l D cB cI cZ (A 0) (A 32) (A 10) (A 50) (A 1) (A 3) (A 48) (A 26) (A 43) (A 33) (A 35) (A 34) (I 0) (F 22) H.size (xs (i + (nI 1)).toNatClampNeg) (xs (i + (nI 2)).toNatClampNeg) r_x x_race_guns_ticks_n e1_) (cwV 2 hts_ gL_law_X10_gun rfl rfl rfl (by decide +kernel) ⟨Nat.le_of_ble_eq_true rfl, Nat.le_of_ble_eq_true rfl⟩) hK hN hZ hP hD hS hA rfl rfl (zrst_map zWd_len rfl) rfl rfl rfl rfl rfl hl.1 rfl (lv_room (Nat.le_of_ble_eq_true rfl)) dL_law_314 (zfit (by omega) (by omega)) (fun H locs hP1 hD1 hS => ?_)
  replace hD := zWd_D (zups [] I) (zups [(22, x_race_guns_ticks_n)] F) hD
  have hP := zback (W := zWd cB cI cZ A I F) (W' := zWd cB cI cZ A (zups [] I) (zups [(22, x_race_guns_ticks_n)] F)) [0, 32, 33, 34] [1, 2, 3, 4, 5, 6, 7, 8, 9, 10, 11, 12, 13, 14, 15, 16, 17, 18, 19, 20, 21, 22, 23, 24, 25, 26, 27, 28, 29, 30, 31, 35, 36, 37, 38, 39, 40, 41, 42, 43, 44, 45, 46, 47, 48, 49, 50, 51, 52, 53, 54, 55, 56, 57, 58, 59] zWd_len zWd_len (by decide +kernel) (zWd_same (I := I) (F := F) [] [(22, x_race_guns_ticks_n)] [] [22] _ rfl rfl (by decide +kernel)) rfl hP1
  clear hP1 hD1
  refine lv_pop hx hb dL_law_317 rfl ?_
  refine lv_aload_n hx hb dL_law_318 rfl (lv_at hl 1 rfl) ?_
  refine lv_aload_n hx hb dL_law_319 rfl (lv_at hl 3 rfl) ?_
  refine lv_iload_n hx hb dL_law_320 rfl (lv_at hl 0 rfl) ?_
  refine lv_iconst (v := (nI 1)) hx hb dL_law_321 rfl ?_
  refine lv_iadd hx hb dL_law_322 ?_
  refine va_sld hx hb hX hbl hbA hS h1_ dL_law_323 ?_
  refine lv_aload_n hx hb dL_law_324 rfl (lv_at hl 3 rfl) ?_
  refine lv_iload_n hx hb dL_law_325 rfl (lv_at hl 0 rfl) ?_
  refine lv_iconst (v := (nI 2)) hx hb dL_law_326 rfl ?_
  refine lv_iadd hx hb dL_law_327 ?_
  refine va_sld hx hb hX hbl hbA hS h2_ dL_law_328 ?_
  refine zVi (As := [.int (xs (i + (nI 1)).toNatClampNeg), .int (xs (i + (nI 2)).toNatClampNeg)]) (rest := []) (C := RX11) (wr := zrst [0, 1, 2, 3, 4, 5, 6, 7, 8, 9, 10, 11, 12, 13, 14, 15, 16, 17, 18, 19, 20, 21, 22, 23, 24, 25, 26, 27, 28, 29, 30, 31, 32, 33, 34, 35, 36, 37, 38, 39, 40, 41, 42, 43, 44, 45, 46, 47, 48, 49, 50, 51, 52, 54, 56, 57, 58, 59] (zWd cB cI cZ A (zups [] I) (zups [(22, x_race_guns_ticks_n)] F))) [53, 55] [0, 1, 2, 3, 4, 5, 6, 7, 8, 9, 10, 11, 12, 13, 14, 15, 16, 17, 18, 19, 20, 21, 22, 23, 24, 25, 26, 27, 28, 29, 30, 31, 32, 33, 34, 35, 36, 37, 38, 39, 40, 41, 42, 43, 44, 45, 46, 47, 48, 49, 50, 51, 52, 54, 56, 57, 58, 59] 0 ⟨hx, hb, hml, hown, hts_⟩ (mX11_gun l D cB cI cZ (A 53) (A 55) (A 54) (A 58) (A 57) (A 56) (A 59) (I 18) (I 19) (I 20) (I 21) (I 22) (I 23) (I 24) (I 25) (I 26) (I 27) (F 38) H.size (xs (i + (nI 1)).toNatClampNeg) (xs (i + (nI 2)).toNatClampNeg) r_m m_thrown_n m_now_n e2_) (cwV 2 hts_ gL_law_X11_gun rfl rfl rfl (by decide +kernel) ⟨Nat.le_of_ble_eq_true rfl, Nat.le_of_ble_eq_true rfl⟩) hK hN hZ hP hD hS hA rfl rfl (zrst_map zWd_len rfl) rfl rfl rfl rfl rfl hl.1 rfl (lv_room (Nat.le_of_ble_eq_true rfl)) dL_law_329 (zfit (by omega) (by omega)) (fun H locs hP1 hD1 hS => ?_)
  replace hD := zWd_D (zups [(18, m_thrown_n)] (zups [] I)) (zups [(38, m_now_n)] (zups [(22, x_race_guns_ticks_n)] F)) hD
  have hP := zback (W := zWd cB cI cZ A (zups [] I) (zups [(22, x_race_guns_ticks_n)] F)) (W' := zWd cB cI cZ A (zups [(18, m_thrown_n)] (zups [] I)) (zups [(38, m_now_n)] (zups [(22, x_race_guns_ticks_n)] F))) [53, 55] [0, 1, 2, 3, 4, 5, 6, 7, 8, 9, 10, 11, 12, 13, 14, 15, 16, 17, 18, 19, 20, 21, 22, 23, 24, 25, 26, 27, 28, 29, 30, 31, 32, 33, 34, 35, 36, 37, 38, 39, 40, 41, 42, 43, 44, 45, 46, 47, 48, 49, 50, 51, 52, 54, 56, 57, 58, 59] zWd_len zWd_len (by decide +kernel) (zWd_same (I := (zups [] I)) (F := (zups [(22, x_race_guns_ticks_n)] F)) [(18, m_thrown_n)] [(38, m_now_n)] [18] [38] _ rfl rfl (by decide +kernel)) rfl hP1
  clear hP1 hD1
  refine lv_pop hx hb dL_law_332 rfl ?_
  refine lv_goto (tgt := 1109) hx hb dL_law_333 (by decide) ?_
  refine W.widen (k := cells + 2) (n := slots + 20) (by omega) (by omega) ?_
  exact kk (zups [(18, m_thrown_n)] (zups [] I)) (zups [(38, m_now_n)] (zups [(22, x_race_guns_ticks_n)] F)) H locs _ hI_ hP hD hS (lv_sub hl [0, 1, 2, 3] rfl)
set_option maxHeartbeats 4000000 in
set_option maxRecDepth 100000 in
theorem zlaw_4 {p : Program} {l : Launch} {e : Env} {s : State} {m : MethodId} {below : List Frame} {meth : Method} {c : Code} {b L : Nat} {xs : Nat → Int32} {D : va_G} {cB cI cZ : ClassId} (C0 : lw_At p s m meth c b L xs) (hK : va_K D vwCl (zT cB cI cZ) s) (hN : zNest s) (hZ : zStat (fun q : Nat => s.heap.size ≤ q) s s.heap) (A : Nat → Nat) (I : Nat → Int32) (F : Nat → Nat → Int32) (j : Nat) (i : Int32) (hi : i = nI j) (hj : j + 7 ≤ L) (hL : L ≤ 3584) (hI : zIF I F) (cells slots : Nat) (hc : cells + 10 ≤ 601024) (hs : slots + 100 ≤ 7293034) (H : Heap) (locs : List Loc) (hP : va_P D vwCl (zWd cB cI cZ A I F) H) (hD : va_D (fun q : Nat => s.heap.size ≤ q) (zWd cB cI cZ A I F)) (hS : va_S (fun q : Nat => s.heap.size ≤ q) s.heap H locs) (ls : Array Slot) (hl : lv_has ls 5 [(3, .int i), (2, .ref (A 53)), (1, .ref (A 0)), (0, .ref b)]) (kk : ∀ (I : Nat → Int32) (F : Nat → Nat → Int32) (H : Heap) (locs : List Loc) (ls : Array Slot), zIF I F → va_P D vwCl (zWd cB cI cZ A I F) H → va_D (fun q : Nat => s.heap.size ≤ q) (zWd cB cI cZ A I F) → va_S (fun q : Nat => s.heap.size ≤ q) s.heap H locs → lv_has ls 5 [(3, .int i), (2, .ref (A 53)), (1, .ref (A 0)), (0, .ref b)] → W p l e room_1 s m #[Value.ref b] below meth c H locs (cells + 2) (slots + 20) (lw_Z below #[Value.ref b] s) (F0 m 1109 ls [])) : W p l e room_1 s m #[Value.ref b] below meth c H locs cells slots (lw_Z below #[Value.ref b] s) (F0 m 336 ls []) := by
  obtain ⟨hx, hb, hr, hml, hown, hts, hX, hbl, hlocks, hgv⟩ := C0
  have hA : ∀ q : Nat, s.heap.size ≤ q → (fun q : Nat => s.heap.size ≤ q) q := fun _ h => h
  have hbA : ¬ (fun q : Nat => s.heap.size ≤ q) b := Nat.not_le.mpr hbl
  have hts_ : ∀ w ∈ wsL_law, w.before #[Value.ref b] s = true := fun w h => hts w (wsL_law_in w h)
  have h1_ : vp_in (i + (nI 1)) L := by rw [hi]; show vp_in (nI j + nI 1) L; rw [nI_add]; exact vp_in_nI (by omega) (by omega)
  have h2_ : vp_in (i + (nI 2)) L := by rw [hi]; show vp_in (nI j + nI 2) L; rw [nI_add]; exact vp_in_nI (by omega) (by omega)
  have h3_ : vp_in (i + (nI 3)) L := by rw [hi]; show vp_in (nI j + nI 3) L; rw [nI_add]; exact vp_in_nI (by omega) (by omega)
  refine lv_aload_n hx hb dL_law_336 rfl (lv_at hl 2 rfl) ?_
  refine lv_aload_n hx hb dL_law_337 rfl (lv_at hl 3 rfl) ?_
  refine lv_iload_n hx hb dL_law_338 rfl (lv_at hl 0 rfl) ?_
  refine lv_iconst (v := (nI 1)) hx hb dL_law_339 rfl ?_
  refine lv_iadd hx hb dL_law_340 ?_
  refine va_sld hx hb hX hbl hbA hS h1_ dL_law_341 ?_
  refine lv_aload_n hx hb dL_law_342 rfl (lv_at hl 3 rfl) ?_
  refine lv_iload_n hx hb dL_law_343 rfl (lv_at hl 0 rfl) ?_
  refine lv_iconst (v := (nI 2)) hx hb dL_law_344 rfl ?_
  refine lv_iadd hx hb dL_law_345 ?_
  refine va_sld hx hb hX hbl hbA hS h2_ dL_law_346 ?_
  refine lv_aload_n hx hb dL_law_347 rfl (lv_at hl 3 rfl) ?_
  refine lv_iload_n hx hb dL_law_348 rfl (lv_at hl 0 rfl) ?_
  refine lv_iconst (v := (nI 3)) hx hb dL_law_349 rfl ?_
  refine lv_iadd hx hb dL_law_350 ?_
  refine va_sld hx hb hX hbl hbA hS h3_ dL_law_351 ?_
  obtain ⟨r_x, x_race_runners_splits_n, r_m, m_thrown_n, m_now_n, e1_, e2_, hI_⟩ := zs_4 (I 0) (F 2) (F 6) (I 2) (I 3) (F 7) (F 8) (F 9) (F 10) (F 11) (F 12) (F 13) (I 4) (F 14) (F 15) (F 16) (F 17) (F 22) (I 11) (I 12) (F 23) (F 24) (F 25) (F 26) (F 27) (F 28) (F 29) (I 13) (F 30) (F 31) (F 32) (F 33) (I 14) (F 34) (I 18) (I 19) (I 20) (F 37) (F 38) (F 40) (F 41) (xs (i + (nI 1)).toNatClampNeg) (xs (i + (nI 2)).toNatClampNeg) (xs (i + (nI 3)).toNatClampNeg) hI
  refine zVi (As := [.int (xs (i + (nI 1)).toNatClampNeg), .int (xs (i + (nI 2)).toNatClampNeg), .int (xs (i + (nI 3)).toNatClampNeg)]) (rest := []) (C := RX10) (wr := zrst [1, 2, 3, 4, 5, 6, 7, 8, 9, 10, 11, 12, 13, 14, 15, 16, 17, 18, 19, 20, 21, 22, 23, 24, 25, 26, 27, 28, 29, 30, 31, 33, 34, 36, 37, 39, 40, 42, 44, 45, 47, 48, 49, 50, 51, 52, 53, 54, 55, 56, 57, 58, 59] (zWd cB cI cZ A I F)) [0, 32, 35, 38, 41, 43, 46] [1, 2, 3, 4, 5, 6, 7, 8, 9, 10, 11, 12, 13, 14, 15, 16, 17, 18, 19, 20, 21, 22, 23, 24, 25, 26, 27, 28, 29, 30, 31, 33, 34, 36, 37, 39, 40, 42, 44, 45, 47, 48, 49, 50, 51, 52, 53, 54, 55, 56, 57, 58, 59] 0 ⟨hx, hb, hml, hown, hts_⟩ (mX10_saw l D cB cI cZ (A 0) (A 32) (A 10) (A 50) (A 1) (A 3) (A 48) (A 26) (A 43) (A 33) (A 35) (A 37) (A 38) (A 41) (A 36) (A 42) (A 40) (A 39) (A 47) (A 44) (A 45) (A 46) (I 0) (I 11) (I 12) (F 25) (F 28) (I 13) (F 32) H.size (xs (i + (nI 1)).toNatClampNeg) (xs (i + (nI 2)).toNatClampNeg) (xs (i + (nI 3)).toNatClampNeg) r_x x_race_runners_splits_n e1_) (cwV 3 hts_ gL_law_X10_saw rfl rfl rfl (by decide +kernel) ⟨Nat.le_of_ble_eq_true rfl, Nat.le_of_ble_eq_true rfl⟩) hK hN hZ hP hD hS hA rfl rfl (zrst_map zWd_len rfl) rfl rfl rfl rfl rfl hl.1 rfl (lv_room (Nat.le_of_ble_eq_true rfl)) dL_law_352 (zfit (by omega) (by omega)) (fun H locs hP1 hD1 hS => ?_)
  replace hD := zWd_D (zups [] I) (zups [(25, x_race_runners_splits_n)] F) hD
  have hP := zback (W := zWd cB cI cZ A I F) (W' := zWd cB cI cZ A (zups [] I) (zups [(25, x_race_runners_splits_n)] F)) [0, 32, 35, 38, 41, 43, 46] [1, 2, 3, 4, 5, 6, 7, 8, 9, 10, 11, 12, 13, 14, 15, 16, 17, 18, 19, 20, 21, 22, 23, 24, 25, 26, 27, 28, 29, 30, 31, 33, 34, 36, 37, 39, 40, 42, 44, 45, 47, 48, 49, 50, 51, 52, 53, 54, 55, 56, 57, 58, 59] zWd_len zWd_len (by decide +kernel) (zWd_same (I := I) (F := F) [] [(25, x_race_runners_splits_n)] [] [25] _ rfl rfl (by decide +kernel)) rfl hP1
  clear hP1 hD1
  refine lv_pop hx hb dL_law_355 rfl ?_
  refine lv_aload_n hx hb dL_law_356 rfl (lv_at hl 1 rfl) ?_
  refine lv_aload_n hx hb dL_law_357 rfl (lv_at hl 3 rfl) ?_
  refine lv_iload_n hx hb dL_law_358 rfl (lv_at hl 0 rfl) ?_
  refine lv_iconst (v := (nI 1)) hx hb dL_law_359 rfl ?_
  refine lv_iadd hx hb dL_law_360 ?_
  refine va_sld hx hb hX hbl hbA hS h1_ dL_law_361 ?_
  refine lv_aload_n hx hb dL_law_362 rfl (lv_at hl 3 rfl) ?_
  refine lv_iload_n hx hb dL_law_363 rfl (lv_at hl 0 rfl) ?_
  refine lv_iconst (v := (nI 2)) hx hb dL_law_364 rfl ?_
  refine lv_iadd hx hb dL_law_365 ?_
  refine va_sld hx hb hX hbl hbA hS h2_ dL_law_366 ?_
  refine lv_aload_n hx hb dL_law_367 rfl (lv_at hl 3 rfl) ?_
  refine lv_iload_n hx hb dL_law_368 rfl (lv_at hl 0 rfl) ?_
  refine lv_iconst (v := (nI 3)) hx hb dL_law_369 rfl ?_
  refine lv_iadd hx hb dL_law_370 ?_
  refine va_sld hx hb hX hbl hbA hS h3_ dL_law_371 ?_
  refine zVi (As := [.int (xs (i + (nI 1)).toNatClampNeg), .int (xs (i + (nI 2)).toNatClampNeg), .int (xs (i + (nI 3)).toNatClampNeg)]) (rest := []) (C := RX11) (wr := zrst [0, 1, 2, 3, 4, 5, 6, 7, 8, 9, 10, 11, 12, 13, 14, 15, 16, 17, 18, 19, 20, 21, 22, 23, 24, 25, 26, 27, 28, 29, 30, 31, 32, 33, 34, 35, 36, 37, 38, 39, 40, 41, 42, 43, 44, 45, 46, 47, 48, 49, 50, 51, 52, 54, 56, 57, 58, 59] (zWd cB cI cZ A (zups [] I) (zups [(25, x_race_runners_splits_n)] F))) [53, 55] [0, 1, 2, 3, 4, 5, 6, 7, 8, 9, 10, 11, 12, 13, 14, 15, 16, 17, 18, 19, 20, 21, 22, 23, 24, 25, 26, 27, 28, 29, 30, 31, 32, 33, 34, 35, 36, 37, 38, 39, 40, 41, 42, 43, 44, 45, 46, 47, 48, 49, 50, 51, 52, 54, 56, 57, 58, 59] 0 ⟨hx, hb, hml, hown, hts_⟩ (mX11_saw l D cB cI cZ (A 53) (A 55) (A 54) (A 58) (A 57) (A 56) (A 59) (I 18) (I 19) (I 20) (I 21) (I 22) (I 23) (I 24) (I 25) (I 26) (I 27) (F 38) H.size (xs (i + (nI 1)).toNatClampNeg) (xs (i + (nI 2)).toNatClampNeg) (xs (i + (nI 3)).toNatClampNeg) r_m m_thrown_n m_now_n e2_) (cwV 3 hts_ gL_law_X11_saw rfl rfl rfl (by decide +kernel) ⟨Nat.le_of_ble_eq_true rfl, Nat.le_of_ble_eq_true rfl⟩) hK hN hZ hP hD hS hA rfl rfl (zrst_map zWd_len rfl) rfl rfl rfl rfl rfl hl.1 rfl (lv_room (Nat.le_of_ble_eq_true rfl)) dL_law_372 (zfit (by omega) (by omega)) (fun H locs hP1 hD1 hS => ?_)
  replace hD := zWd_D (zups [(18, m_thrown_n)] (zups [] I)) (zups [(38, m_now_n)] (zups [(25, x_race_runners_splits_n)] F)) hD
  have hP := zback (W := zWd cB cI cZ A (zups [] I) (zups [(25, x_race_runners_splits_n)] F)) (W' := zWd cB cI cZ A (zups [(18, m_thrown_n)] (zups [] I)) (zups [(38, m_now_n)] (zups [(25, x_race_runners_splits_n)] F))) [53, 55] [0, 1, 2, 3, 4, 5, 6, 7, 8, 9, 10, 11, 12, 13, 14, 15, 16, 17, 18, 19, 20, 21, 22, 23, 24, 25, 26, 27, 28, 29, 30, 31, 32, 33, 34, 35, 36, 37, 38, 39, 40, 41, 42, 43, 44, 45, 46, 47, 48, 49, 50, 51, 52, 54, 56, 57, 58, 59] zWd_len zWd_len (by decide +kernel) (zWd_same (I := (zups [] I)) (F := (zups [(25, x_race_runners_splits_n)] F)) [(18, m_thrown_n)] [(38, m_now_n)] [18] [38] _ rfl rfl (by decide +kernel)) rfl hP1
  clear hP1 hD1
  refine lv_pop hx hb dL_law_375 rfl ?_
  refine lv_goto (tgt := 1109) hx hb dL_law_376 (by decide) ?_
  refine W.widen (k := cells + 2) (n := slots + 20) (by omega) (by omega) ?_
  exact kk (zups [(18, m_thrown_n)] (zups [] I)) (zups [(38, m_now_n)] (zups [(25, x_race_runners_splits_n)] F)) H locs _ hI_ hP hD hS (lv_sub hl [0, 1, 2, 3] rfl)
set_option maxHeartbeats 4000000 in
set_option maxRecDepth 100000 in
theorem zlaw_5 {p : Program} {l : Launch} {e : Env} {s : State} {m : MethodId} {below : List Frame} {meth : Method} {c : Code} {b L : Nat} {xs : Nat → Int32} {D : va_G} {cB cI cZ : ClassId} (C0 : lw_At p s m meth c b L xs) (hK : va_K D vwCl (zT cB cI cZ) s) (hN : zNest s) (hZ : zStat (fun q : Nat => s.heap.size ≤ q) s s.heap) (A : Nat → Nat) (I : Nat → Int32) (F : Nat → Nat → Int32) (j : Nat) (i : Int32) (hi : i = nI j) (hj : j + 7 ≤ L) (hL : L ≤ 3584) (hI : zIF I F) (cells slots : Nat) (hc : cells + 10 ≤ 601024) (hs : slots + 100 ≤ 7293034) (H : Heap) (locs : List Loc) (hP : va_P D vwCl (zWd cB cI cZ A I F) H) (hD : va_D (fun q : Nat => s.heap.size ≤ q) (zWd cB cI cZ A I F)) (hS : va_S (fun q : Nat => s.heap.size ≤ q) s.heap H locs) (ls : Array Slot) (hl : lv_has ls 5 [(3, .int i), (2, .ref (A 53)), (1, .ref (A 0)), (0, .ref b)]) (kk : ∀ (I : Nat → Int32) (F : Nat → Nat → Int32) (H : Heap) (locs : List Loc) (ls : Array Slot), zIF I F → va_P D vwCl (zWd cB cI cZ A I F) H → va_D (fun q : Nat => s.heap.size ≤ q) (zWd cB cI cZ A I F) → va_S (fun q : Nat => s.heap.size ≤ q) s.heap H locs → lv_has ls 5 [(3, .int i), (2, .ref (A 53)), (1, .ref (A 0)), (0, .ref b)] → W p l e room_1 s m #[Value.ref b] below meth c H locs (cells + 2) (slots + 20) (lw_Z below #[Value.ref b] s) (F0 m 1109 ls [])) : W p l e room_1 s m #[Value.ref b] below meth c H locs cells slots (lw_Z below #[Value.ref b] s) (F0 m 379 ls []) := by
  obtain ⟨hx, hb, hr, hml, hown, hts, hX, hbl, hlocks, hgv⟩ := C0
  have hA : ∀ q : Nat, s.heap.size ≤ q → (fun q : Nat => s.heap.size ≤ q) q := fun _ h => h
  have hbA : ¬ (fun q : Nat => s.heap.size ≤ q) b := Nat.not_le.mpr hbl
  have hts_ : ∀ w ∈ wsL_law, w.before #[Value.ref b] s = true := fun w h => hts w (wsL_law_in w h)
  have h1_ : vp_in (i + (nI 1)) L := by rw [hi]; show vp_in (nI j + nI 1) L; rw [nI_add]; exact vp_in_nI (by omega) (by omega)
  have h2_ : vp_in (i + (nI 2)) L := by rw [hi]; show vp_in (nI j + nI 2) L; rw [nI_add]; exact vp_in_nI (by omega) (by omega)
  refine lv_aload_n hx hb dL_law_379 rfl (lv_at hl 2 rfl) ?_
  refine lv_aload_n hx hb dL_law_380 rfl (lv_at hl 3 rfl) ?_
  refine lv_iload_n hx hb dL_law_381 rfl (lv_at hl 0 rfl) ?_
  refine lv_iconst (v := (nI 1)) hx hb dL_law_382 rfl ?_
  refine lv_iadd hx hb dL_law_383 ?_
  refine va_sld hx hb hX hbl hbA hS h1_ dL_law_384 ?_
  refine lv_aload_n hx hb dL_law_385 rfl (lv_at hl 3 rfl) ?_
  refine lv_iload_n hx hb dL_law_386 rfl (lv_at hl 0 rfl) ?_
  refine lv_iconst (v := (nI 2)) hx hb dL_law_387 rfl ?_
  refine lv_iadd hx hb dL_law_388 ?_
  refine va_sld hx hb hX hbl hbA hS h2_ dL_law_389 ?_
  refine lv_if_eq (tgt := 397) hx hb dL_law_390 (by decide) (fun c1 => ?_) (fun c1 => ?_)
  · refine lv_iconst (v := (nI 0)) hx hb dL_law_397 rfl ?_
    obtain ⟨r_x, x_race_way_deaths_n, r_m, m_thrown_n, m_now_n, e1_, e2_, hI_⟩ := zs_5 (I 0) (F 2) (F 6) (I 2) (I 3) (F 7) (F 8) (F 9) (F 10) (F 11) (F 12) (F 13) (I 4) (F 14) (F 15) (F 16) (F 17) (F 22) (I 11) (I 12) (F 23) (F 24) (F 25) (F 26) (F 27) (F 28) (F 29) (I 13) (F 30) (F 31) (F 32) (F 33) (I 14) (F 34) (I 18) (I 19) (I 20) (F 37) (F 38) (F 40) (F 41) (xs (i + (nI 1)).toNatClampNeg) (nI 0) (by decide) hI
    refine zVi (As := [.int (xs (i + (nI 1)).toNatClampNeg), .int (nI 0)]) (rest := []) (C := RX10) (wr := zrst [1, 2, 3, 4, 5, 6, 7, 8, 9, 10, 11, 12, 13, 14, 15, 16, 17, 18, 19, 20, 21, 22, 23, 24, 25, 26, 27, 28, 29, 30, 31, 33, 34, 35, 36, 37, 38, 39, 40, 41, 42, 44, 45, 47, 48, 49, 50, 51, 52, 53, 54, 55, 56, 57, 58, 59] (zWd cB cI cZ A I F)) [0, 32, 43, 46] [1, 2, 3, 4, 5, 6, 7, 8, 9, 10, 11, 12, 13, 14, 15, 16, 17, 18, 19, 20, 21, 22, 23, 24, 25, 26, 27, 28, 29, 30, 31, 33, 34, 35, 36, 37, 38, 39, 40, 41, 42, 44, 45, 47, 48, 49, 50, 51, 52, 53, 54, 55, 56, 57, 58, 59] 0 ⟨hx, hb, hml, hown, hts_⟩ (mX10_dead l D cB cI cZ (A 0) (A 32) (A 10) (A 50) (A 1) (A 3) (A 48) (A 26) (A 43) (A 33) (A 35) (A 47) (A 44) (A 45) (A 46) (I 0) (I 13) (F 32) H.size (xs (i + (nI 1)).toNatClampNeg) (nI 0) r_x x_race_way_deaths_n e1_) (cwV 2 hts_ gL_law_X10_dead rfl rfl rfl (by decide +kernel) ⟨Nat.le_of_ble_eq_true rfl, Nat.le_of_ble_eq_true rfl⟩) hK hN hZ hP hD hS hA rfl rfl (zrst_map zWd_len rfl) rfl rfl rfl rfl rfl hl.1 rfl (lv_room (Nat.le_of_ble_eq_true rfl)) dL_law_398 (zfit (by omega) (by omega)) (fun H locs hP1 hD1 hS => ?_)
    replace hD := zWd_D (zups [] I) (zups [(32, x_race_way_deaths_n)] F) hD
    have hP := zback (W := zWd cB cI cZ A I F) (W' := zWd cB cI cZ A (zups [] I) (zups [(32, x_race_way_deaths_n)] F)) [0, 32, 43, 46] [1, 2, 3, 4, 5, 6, 7, 8, 9, 10, 11, 12, 13, 14, 15, 16, 17, 18, 19, 20, 21, 22, 23, 24, 25, 26, 27, 28, 29, 30, 31, 33, 34, 35, 36, 37, 38, 39, 40, 41, 42, 44, 45, 47, 48, 49, 50, 51, 52, 53, 54, 55, 56, 57, 58, 59] zWd_len zWd_len (by decide +kernel) (zWd_same (I := I) (F := F) [] [(32, x_race_way_deaths_n)] [] [32] _ rfl rfl (by decide +kernel)) rfl hP1
    clear hP1 hD1
    refine lv_pop hx hb dL_law_401 rfl ?_
    refine lv_aload_n hx hb dL_law_402 rfl (lv_at hl 1 rfl) ?_
    refine lv_aload_n hx hb dL_law_403 rfl (lv_at hl 3 rfl) ?_
    refine lv_iload_n hx hb dL_law_404 rfl (lv_at hl 0 rfl) ?_
    refine lv_iconst (v := (nI 1)) hx hb dL_law_405 rfl ?_
    refine lv_iadd hx hb dL_law_406 ?_
    refine va_sld hx hb hX hbl hbA hS h1_ dL_law_407 ?_
    refine lv_aload_n hx hb dL_law_408 rfl (lv_at hl 3 rfl) ?_
    refine lv_iload_n hx hb dL_law_409 rfl (lv_at hl 0 rfl) ?_
    refine lv_iconst (v := (nI 2)) hx hb dL_law_410 rfl ?_
    refine lv_iadd hx hb dL_law_411 ?_
    refine va_sld hx hb hX hbl hbA hS h2_ dL_law_412 ?_
    refine lv_if_eq (tgt := 420) hx hb dL_law_413 (by decide) (fun _ => ?_) (fun c_ => absurd c1 c_)
    refine lv_iconst (v := (nI 0)) hx hb dL_law_420 rfl ?_
    refine zVi (As := [.int (xs (i + (nI 1)).toNatClampNeg), .int (nI 0)]) (rest := []) (C := RX11) (wr := zrst [0, 1, 2, 3, 4, 5, 6, 7, 8, 9, 10, 11, 12, 13, 14, 15, 16, 17, 18, 19, 20, 21, 22, 23, 24, 25, 26, 27, 28, 29, 30, 31, 32, 33, 34, 35, 36, 37, 38, 39, 40, 41, 42, 43, 44, 45, 46, 47, 48, 49, 50, 51, 52, 54, 56, 57, 58, 59] (zWd cB cI cZ A (zups [] I) (zups [(32, x_race_way_deaths_n)] F))) [53, 55] [0, 1, 2, 3, 4, 5, 6, 7, 8, 9, 10, 11, 12, 13, 14, 15, 16, 17, 18, 19, 20, 21, 22, 23, 24, 25, 26, 27, 28, 29, 30, 31, 32, 33, 34, 35, 36, 37, 38, 39, 40, 41, 42, 43, 44, 45, 46, 47, 48, 49, 50, 51, 52, 54, 56, 57, 58, 59] 0 ⟨hx, hb, hml, hown, hts_⟩ (mX11_dead l D cB cI cZ (A 53) (A 55) (A 54) (A 58) (A 57) (A 56) (A 59) (I 18) (I 19) (I 20) (I 21) (I 22) (I 23) (I 24) (I 25) (I 26) (I 27) (F 38) H.size (xs (i + (nI 1)).toNatClampNeg) (nI 0) r_m m_thrown_n m_now_n e2_) (cwV 2 hts_ gL_law_X11_dead rfl rfl rfl (by decide +kernel) ⟨Nat.le_of_ble_eq_true rfl, Nat.le_of_ble_eq_true rfl⟩) hK hN hZ hP hD hS hA rfl rfl (zrst_map zWd_len rfl) rfl rfl rfl rfl rfl hl.1 rfl (lv_room (Nat.le_of_ble_eq_true rfl)) dL_law_421 (zfit (by omega) (by omega)) (fun H locs hP1 hD1 hS => ?_)
    replace hD := zWd_D (zups [(18, m_thrown_n)] (zups [] I)) (zups [(38, m_now_n)] (zups [(32, x_race_way_deaths_n)] F)) hD
    have hP := zback (W := zWd cB cI cZ A (zups [] I) (zups [(32, x_race_way_deaths_n)] F)) (W' := zWd cB cI cZ A (zups [(18, m_thrown_n)] (zups [] I)) (zups [(38, m_now_n)] (zups [(32, x_race_way_deaths_n)] F))) [53, 55] [0, 1, 2, 3, 4, 5, 6, 7, 8, 9, 10, 11, 12, 13, 14, 15, 16, 17, 18, 19, 20, 21, 22, 23, 24, 25, 26, 27, 28, 29, 30, 31, 32, 33, 34, 35, 36, 37, 38, 39, 40, 41, 42, 43, 44, 45, 46, 47, 48, 49, 50, 51, 52, 54, 56, 57, 58, 59] zWd_len zWd_len (by decide +kernel) (zWd_same (I := (zups [] I)) (F := (zups [(32, x_race_way_deaths_n)] F)) [(18, m_thrown_n)] [(38, m_now_n)] [18] [38] _ rfl rfl (by decide +kernel)) rfl hP1
    clear hP1 hD1
    refine lv_pop hx hb dL_law_424 rfl ?_
    refine lv_goto (tgt := 1109) hx hb dL_law_425 (by decide) ?_
    refine W.widen (k := cells + 2) (n := slots + 20) (by omega) (by omega) ?_
    exact kk (zups [(18, m_thrown_n)] (zups [] I)) (zups [(38, m_now_n)] (zups [(32, x_race_way_deaths_n)] F)) H locs _ hI_ hP hD hS (lv_sub hl [0, 1, 2, 3] rfl)
  · refine lv_iconst (v := (nI 1)) hx hb dL_law_393 rfl ?_
    refine lv_goto (tgt := 398) hx hb dL_law_394 (by decide) ?_
    obtain ⟨r_x, x_race_way_deaths_n, r_m, m_thrown_n, m_now_n, e1_, e2_, hI_⟩ := zs_5 (I 0) (F 2) (F 6) (I 2) (I 3) (F 7) (F 8) (F 9) (F 10) (F 11) (F 12) (F 13) (I 4) (F 14) (F 15) (F 16) (F 17) (F 22) (I 11) (I 12) (F 23) (F 24) (F 25) (F 26) (F 27) (F 28) (F 29) (I 13) (F 30) (F 31) (F 32) (F 33) (I 14) (F 34) (I 18) (I 19) (I 20) (F 37) (F 38) (F 40) (F 41) (xs (i + (nI 1)).toNatClampNeg) (nI 1) (by decide) hI
    refine zVi (As := [.int (xs (i + (nI 1)).toNatClampNeg), .int (nI 1)]) (rest := []) (C := RX10) (wr := zrst [1, 2, 3, 4, 5, 6, 7, 8, 9, 10, 11, 12, 13, 14, 15, 16, 17, 18, 19, 20, 21, 22, 23, 24, 25, 26, 27, 28, 29, 30, 31, 33, 34, 35, 36, 37, 38, 39, 40, 41, 42, 44, 45, 47, 48, 49, 50, 51, 52, 53, 54, 55, 56, 57, 58, 59] (zWd cB cI cZ A I F)) [0, 32, 43, 46] [1, 2, 3, 4, 5, 6, 7, 8, 9, 10, 11, 12, 13, 14, 15, 16, 17, 18, 19, 20, 21, 22, 23, 24, 25, 26, 27, 28, 29, 30, 31, 33, 34, 35, 36, 37, 38, 39, 40, 41, 42, 44, 45, 47, 48, 49, 50, 51, 52, 53, 54, 55, 56, 57, 58, 59] 0 ⟨hx, hb, hml, hown, hts_⟩ (mX10_dead l D cB cI cZ (A 0) (A 32) (A 10) (A 50) (A 1) (A 3) (A 48) (A 26) (A 43) (A 33) (A 35) (A 47) (A 44) (A 45) (A 46) (I 0) (I 13) (F 32) H.size (xs (i + (nI 1)).toNatClampNeg) (nI 1) r_x x_race_way_deaths_n e1_) (cwV 2 hts_ gL_law_X10_dead rfl rfl rfl (by decide +kernel) ⟨Nat.le_of_ble_eq_true rfl, Nat.le_of_ble_eq_true rfl⟩) hK hN hZ hP hD hS hA rfl rfl (zrst_map zWd_len rfl) rfl rfl rfl rfl rfl hl.1 rfl (lv_room (Nat.le_of_ble_eq_true rfl)) dL_law_398 (zfit (by omega) (by omega)) (fun H locs hP1 hD1 hS => ?_)
    replace hD := zWd_D (zups [] I) (zups [(32, x_race_way_deaths_n)] F) hD
    have hP := zback (W := zWd cB cI cZ A I F) (W' := zWd cB cI cZ A (zups [] I) (zups [(32, x_race_way_deaths_n)] F)) [0, 32, 43, 46] [1, 2, 3, 4, 5, 6, 7, 8, 9, 10, 11, 12, 13, 14, 15, 16, 17, 18, 19, 20, 21, 22, 23, 24, 25, 26, 27, 28, 29, 30, 31, 33, 34, 35, 36, 37, 38, 39, 40, 41, 42, 44, 45, 47, 48, 49, 50, 51, 52, 53, 54, 55, 56, 57, 58, 59] zWd_len zWd_len (by decide +kernel) (zWd_same (I := I) (F := F) [] [(32, x_race_way_deaths_n)] [] [32] _ rfl rfl (by decide +kernel)) rfl hP1
    clear hP1 hD1
    refine lv_pop hx hb dL_law_401 rfl ?_
    refine lv_aload_n hx hb dL_law_402 rfl (lv_at hl 1 rfl) ?_
    refine lv_aload_n hx hb dL_law_403 rfl (lv_at hl 3 rfl) ?_
    refine lv_iload_n hx hb dL_law_404 rfl (lv_at hl 0 rfl) ?_
    refine lv_iconst (v := (nI 1)) hx hb dL_law_405 rfl ?_
    refine lv_iadd hx hb dL_law_406 ?_
    refine va_sld hx hb hX hbl hbA hS h1_ dL_law_407 ?_
    refine lv_aload_n hx hb dL_law_408 rfl (lv_at hl 3 rfl) ?_
    refine lv_iload_n hx hb dL_law_409 rfl (lv_at hl 0 rfl) ?_
    refine lv_iconst (v := (nI 2)) hx hb dL_law_410 rfl ?_
    refine lv_iadd hx hb dL_law_411 ?_
    refine va_sld hx hb hX hbl hbA hS h2_ dL_law_412 ?_
    refine lv_if_eq (tgt := 420) hx hb dL_law_413 (by decide) (fun c_ => absurd c_ c1) (fun _ => ?_)
    refine lv_iconst (v := (nI 1)) hx hb dL_law_416 rfl ?_
    refine lv_goto (tgt := 421) hx hb dL_law_417 (by decide) ?_
    refine zVi (As := [.int (xs (i + (nI 1)).toNatClampNeg), .int (nI 1)]) (rest := []) (C := RX11) (wr := zrst [0, 1, 2, 3, 4, 5, 6, 7, 8, 9, 10, 11, 12, 13, 14, 15, 16, 17, 18, 19, 20, 21, 22, 23, 24, 25, 26, 27, 28, 29, 30, 31, 32, 33, 34, 35, 36, 37, 38, 39, 40, 41, 42, 43, 44, 45, 46, 47, 48, 49, 50, 51, 52, 54, 56, 57, 58, 59] (zWd cB cI cZ A (zups [] I) (zups [(32, x_race_way_deaths_n)] F))) [53, 55] [0, 1, 2, 3, 4, 5, 6, 7, 8, 9, 10, 11, 12, 13, 14, 15, 16, 17, 18, 19, 20, 21, 22, 23, 24, 25, 26, 27, 28, 29, 30, 31, 32, 33, 34, 35, 36, 37, 38, 39, 40, 41, 42, 43, 44, 45, 46, 47, 48, 49, 50, 51, 52, 54, 56, 57, 58, 59] 0 ⟨hx, hb, hml, hown, hts_⟩ (mX11_dead l D cB cI cZ (A 53) (A 55) (A 54) (A 58) (A 57) (A 56) (A 59) (I 18) (I 19) (I 20) (I 21) (I 22) (I 23) (I 24) (I 25) (I 26) (I 27) (F 38) H.size (xs (i + (nI 1)).toNatClampNeg) (nI 1) r_m m_thrown_n m_now_n e2_) (cwV 2 hts_ gL_law_X11_dead rfl rfl rfl (by decide +kernel) ⟨Nat.le_of_ble_eq_true rfl, Nat.le_of_ble_eq_true rfl⟩) hK hN hZ hP hD hS hA rfl rfl (zrst_map zWd_len rfl) rfl rfl rfl rfl rfl hl.1 rfl (lv_room (Nat.le_of_ble_eq_true rfl)) dL_law_421 (zfit (by omega) (by omega)) (fun H locs hP1 hD1 hS => ?_)
    replace hD := zWd_D (zups [(18, m_thrown_n)] (zups [] I)) (zups [(38, m_now_n)] (zups [(32, x_race_way_deaths_n)] F)) hD
    have hP := zback (W := zWd cB cI cZ A (zups [] I) (zups [(32, x_race_way_deaths_n)] F)) (W' := zWd cB cI cZ A (zups [(18, m_thrown_n)] (zups [] I)) (zups [(38, m_now_n)] (zups [(32, x_race_way_deaths_n)] F))) [53, 55] [0, 1, 2, 3, 4, 5, 6, 7, 8, 9, 10, 11, 12, 13, 14, 15, 16, 17, 18, 19, 20, 21, 22, 23, 24, 25, 26, 27, 28, 29, 30, 31, 32, 33, 34, 35, 36, 37, 38, 39, 40, 41, 42, 43, 44, 45, 46, 47, 48, 49, 50, 51, 52, 54, 56, 57, 58, 59] zWd_len zWd_len (by decide +kernel) (zWd_same (I := (zups [] I)) (F := (zups [(32, x_race_way_deaths_n)] F)) [(18, m_thrown_n)] [(38, m_now_n)] [18] [38] _ rfl rfl (by decide +kernel)) rfl hP1
    clear hP1 hD1
    refine lv_pop hx hb dL_law_424 rfl ?_
    refine lv_goto (tgt := 1109) hx hb dL_law_425 (by decide) ?_
    refine W.widen (k := cells + 2) (n := slots + 20) (by omega) (by omega) ?_
    exact kk (zups [(18, m_thrown_n)] (zups [] I)) (zups [(38, m_now_n)] (zups [(32, x_race_way_deaths_n)] F)) H locs _ hI_ hP hD hS (lv_sub hl [0, 1, 2, 3] rfl)
set_option maxHeartbeats 4000000 in
set_option maxRecDepth 100000 in
theorem zlaw_6 {p : Program} {l : Launch} {e : Env} {s : State} {m : MethodId} {below : List Frame} {meth : Method} {c : Code} {b L : Nat} {xs : Nat → Int32} {D : va_G} {cB cI cZ : ClassId} (C0 : lw_At p s m meth c b L xs) (hK : va_K D vwCl (zT cB cI cZ) s) (hN : zNest s) (hZ : zStat (fun q : Nat => s.heap.size ≤ q) s s.heap) (A : Nat → Nat) (I : Nat → Int32) (F : Nat → Nat → Int32) (j : Nat) (i : Int32) (hi : i = nI j) (hj : j + 7 ≤ L) (hL : L ≤ 3584) (hI : zIF I F) (cells slots : Nat) (hc : cells + 10 ≤ 601024) (hs : slots + 100 ≤ 7293034) (H : Heap) (locs : List Loc) (hP : va_P D vwCl (zWd cB cI cZ A I F) H) (hD : va_D (fun q : Nat => s.heap.size ≤ q) (zWd cB cI cZ A I F)) (hS : va_S (fun q : Nat => s.heap.size ≤ q) s.heap H locs) (ls : Array Slot) (hl : lv_has ls 5 [(3, .int i), (2, .ref (A 53)), (1, .ref (A 0)), (0, .ref b)]) (kk : ∀ (I : Nat → Int32) (F : Nat → Nat → Int32) (H : Heap) (locs : List Loc) (ls : Array Slot), zIF I F → va_P D vwCl (zWd cB cI cZ A I F) H → va_D (fun q : Nat => s.heap.size ≤ q) (zWd cB cI cZ A I F) → va_S (fun q : Nat => s.heap.size ≤ q) s.heap H locs → lv_has ls 5 [(3, .int i), (2, .ref (A 53)), (1, .ref (A 0)), (0, .ref b)] → W p l e room_1 s m #[Value.ref b] below meth c H locs (cells + 2) (slots + 20) (lw_Z below #[Value.ref b] s) (F0 m 1109 ls [])) : W p l e room_1 s m #[Value.ref b] below meth c H locs cells slots (lw_Z below #[Value.ref b] s) (F0 m 428 ls []) := by
  obtain ⟨hx, hb, hr, hml, hown, hts, hX, hbl, hlocks, hgv⟩ := C0
  have hA : ∀ q : Nat, s.heap.size ≤ q → (fun q : Nat => s.heap.size ≤ q) q := fun _ h => h
  have hbA : ¬ (fun q : Nat => s.heap.size ≤ q) b := Nat.not_le.mpr hbl
  have hts_ : ∀ w ∈ wsL_law, w.before #[Value.ref b] s = true := fun w h => hts w (wsL_law_in w h)
  have h1_ : vp_in (i + (nI 1)) L := by rw [hi]; show vp_in (nI j + nI 1) L; rw [nI_add]; exact vp_in_nI (by omega) (by omega)
  have h2_ : vp_in (i + (nI 2)) L := by rw [hi]; show vp_in (nI j + nI 2) L; rw [nI_add]; exact vp_in_nI (by omega) (by omega)
  refine lv_aload_n hx hb dL_law_428 rfl (lv_at hl 2 rfl) ?_
  refine lv_aload_n hx hb dL_law_429 rfl (lv_at hl 3 rfl) ?_
  refine lv_iload_n hx hb dL_law_430 rfl (lv_at hl 0 rfl) ?_
  refine lv_iconst (v := (nI 1)) hx hb dL_law_431 rfl ?_
  refine lv_iadd hx hb dL_law_432 ?_
  refine va_sld hx hb hX hbl hbA hS h1_ dL_law_433 ?_
  refine lv_aload_n hx hb dL_law_434 rfl (lv_at hl 3 rfl) ?_
  refine lv_iload_n hx hb dL_law_435 rfl (lv_at hl 0 rfl) ?_
  refine lv_iconst (v := (nI 2)) hx hb dL_law_436 rfl ?_
  refine lv_iadd hx hb dL_law_437 ?_
  refine va_sld hx hb hX hbl hbA hS h2_ dL_law_438 ?_
  obtain ⟨r_x, x_race_runners_splits_n, x_race_runners_torn_n, r_m, m_thrown_n, m_now_n, e1_, e2_, hI_⟩ := zs_6 (I 0) (F 2) (F 6) (I 2) (I 3) (F 7) (F 8) (F 9) (F 10) (F 11) (F 12) (F 13) (I 4) (F 14) (F 15) (F 16) (F 17) (F 22) (I 11) (I 12) (F 23) (F 24) (F 25) (F 26) (F 27) (F 28) (F 29) (I 13) (F 30) (F 31) (F 32) (F 33) (I 14) (F 34) (I 18) (I 19) (I 20) (F 37) (F 38) (F 40) (F 41) (xs (i + (nI 1)).toNatClampNeg) (xs (i + (nI 2)).toNatClampNeg) hI
  refine zVi (As := [.int (xs (i + (nI 1)).toNatClampNeg), .int (xs (i + (nI 2)).toNatClampNeg)]) (rest := []) (C := RX10) (wr := zrst [1, 2, 3, 4, 5, 6, 7, 8, 9, 10, 11, 12, 13, 14, 15, 16, 17, 18, 19, 20, 21, 22, 23, 24, 25, 26, 27, 28, 29, 30, 31, 33, 34, 36, 37, 39, 40, 42, 44, 45, 46, 47, 48, 49, 50, 51, 52, 53, 54, 55, 56, 57, 58, 59] (zWd cB cI cZ A I F)) [0, 32, 35, 38, 41, 43] [1, 2, 3, 4, 5, 6, 7, 8, 9, 10, 11, 12, 13, 14, 15, 16, 17, 18, 19, 20, 21, 22, 23, 24, 25, 26, 27, 28, 29, 30, 31, 33, 34, 36, 37, 39, 40, 42, 44, 45, 46, 47, 48, 49, 50, 51, 52, 53, 54, 55, 56, 57, 58, 59] 0 ⟨hx, hb, hml, hown, hts_⟩ (mX10_tear l D cB cI cZ (A 0) (A 32) (A 10) (A 50) (A 1) (A 3) (A 48) (A 26) (A 43) (A 33) (A 35) (A 37) (A 38) (A 41) (A 36) (A 42) (A 40) (A 39) (A 47) (A 44) (A 45) (A 46) (I 0) (I 11) (I 12) (F 25) (F 28) (I 13) H.size (xs (i + (nI 1)).toNatClampNeg) (xs (i + (nI 2)).toNatClampNeg) zN r_x x_race_runners_splits_n x_race_runners_torn_n e1_) (cwV 2 hts_ gL_law_X10_tear rfl rfl rfl (by decide +kernel) ⟨Nat.le_of_ble_eq_true rfl, Nat.le_of_ble_eq_true rfl⟩) hK hN hZ hP hD hS hA rfl rfl (zrst_map zWd_len rfl) rfl rfl rfl rfl rfl hl.1 rfl (lv_room (Nat.le_of_ble_eq_true rfl)) dL_law_439 (zfit (by omega) (by omega)) (fun H locs hP1 hD1 hS => ?_)
  replace hD := zWd_D (zups [] I) (zups [(25, x_race_runners_splits_n), (28, x_race_runners_torn_n)] F) hD
  have hP := zback (W := zWd cB cI cZ A I F) (W' := zWd cB cI cZ A (zups [] I) (zups [(25, x_race_runners_splits_n), (28, x_race_runners_torn_n)] F)) [0, 32, 35, 38, 41, 43] [1, 2, 3, 4, 5, 6, 7, 8, 9, 10, 11, 12, 13, 14, 15, 16, 17, 18, 19, 20, 21, 22, 23, 24, 25, 26, 27, 28, 29, 30, 31, 33, 34, 36, 37, 39, 40, 42, 44, 45, 46, 47, 48, 49, 50, 51, 52, 53, 54, 55, 56, 57, 58, 59] zWd_len zWd_len (by decide +kernel) (zWd_same (I := I) (F := F) [] [(25, x_race_runners_splits_n), (28, x_race_runners_torn_n)] [] [25, 28] _ rfl rfl (by decide +kernel)) rfl hP1
  clear hP1 hD1
  refine lv_pop hx hb dL_law_442 rfl ?_
  refine lv_aload_n hx hb dL_law_443 rfl (lv_at hl 1 rfl) ?_
  refine lv_aload_n hx hb dL_law_444 rfl (lv_at hl 3 rfl) ?_
  refine lv_iload_n hx hb dL_law_445 rfl (lv_at hl 0 rfl) ?_
  refine lv_iconst (v := (nI 1)) hx hb dL_law_446 rfl ?_
  refine lv_iadd hx hb dL_law_447 ?_
  refine va_sld hx hb hX hbl hbA hS h1_ dL_law_448 ?_
  refine lv_aload_n hx hb dL_law_449 rfl (lv_at hl 3 rfl) ?_
  refine lv_iload_n hx hb dL_law_450 rfl (lv_at hl 0 rfl) ?_
  refine lv_iconst (v := (nI 2)) hx hb dL_law_451 rfl ?_
  refine lv_iadd hx hb dL_law_452 ?_
  refine va_sld hx hb hX hbl hbA hS h2_ dL_law_453 ?_
  refine zVi (As := [.int (xs (i + (nI 1)).toNatClampNeg), .int (xs (i + (nI 2)).toNatClampNeg)]) (rest := []) (C := RX11) (wr := zrst [0, 1, 2, 3, 4, 5, 6, 7, 8, 9, 10, 11, 12, 13, 14, 15, 16, 17, 18, 19, 20, 21, 22, 23, 24, 25, 26, 27, 28, 29, 30, 31, 32, 33, 34, 35, 36, 37, 38, 39, 40, 41, 42, 43, 44, 45, 46, 47, 48, 49, 50, 51, 52, 54, 56, 57, 58, 59] (zWd cB cI cZ A (zups [] I) (zups [(25, x_race_runners_splits_n), (28, x_race_runners_torn_n)] F))) [53, 55] [0, 1, 2, 3, 4, 5, 6, 7, 8, 9, 10, 11, 12, 13, 14, 15, 16, 17, 18, 19, 20, 21, 22, 23, 24, 25, 26, 27, 28, 29, 30, 31, 32, 33, 34, 35, 36, 37, 38, 39, 40, 41, 42, 43, 44, 45, 46, 47, 48, 49, 50, 51, 52, 54, 56, 57, 58, 59] 0 ⟨hx, hb, hml, hown, hts_⟩ (mX11_tear l D cB cI cZ (A 53) (A 55) (A 54) (A 58) (A 57) (A 56) (A 59) (I 18) (I 19) (I 20) (I 21) (I 22) (I 23) (I 24) (I 25) (I 26) (I 27) (F 38) H.size (xs (i + (nI 1)).toNatClampNeg) (xs (i + (nI 2)).toNatClampNeg) zN r_m m_thrown_n m_now_n e2_) (cwV 2 hts_ gL_law_X11_tear rfl rfl rfl (by decide +kernel) ⟨Nat.le_of_ble_eq_true rfl, Nat.le_of_ble_eq_true rfl⟩) hK hN hZ hP hD hS hA rfl rfl (zrst_map zWd_len rfl) rfl rfl rfl rfl rfl hl.1 rfl (lv_room (Nat.le_of_ble_eq_true rfl)) dL_law_454 (zfit (by omega) (by omega)) (fun H locs hP1 hD1 hS => ?_)
  replace hD := zWd_D (zups [(18, m_thrown_n)] (zups [] I)) (zups [(38, m_now_n)] (zups [(25, x_race_runners_splits_n), (28, x_race_runners_torn_n)] F)) hD
  have hP := zback (W := zWd cB cI cZ A (zups [] I) (zups [(25, x_race_runners_splits_n), (28, x_race_runners_torn_n)] F)) (W' := zWd cB cI cZ A (zups [(18, m_thrown_n)] (zups [] I)) (zups [(38, m_now_n)] (zups [(25, x_race_runners_splits_n), (28, x_race_runners_torn_n)] F))) [53, 55] [0, 1, 2, 3, 4, 5, 6, 7, 8, 9, 10, 11, 12, 13, 14, 15, 16, 17, 18, 19, 20, 21, 22, 23, 24, 25, 26, 27, 28, 29, 30, 31, 32, 33, 34, 35, 36, 37, 38, 39, 40, 41, 42, 43, 44, 45, 46, 47, 48, 49, 50, 51, 52, 54, 56, 57, 58, 59] zWd_len zWd_len (by decide +kernel) (zWd_same (I := (zups [] I)) (F := (zups [(25, x_race_runners_splits_n), (28, x_race_runners_torn_n)] F)) [(18, m_thrown_n)] [(38, m_now_n)] [18] [38] _ rfl rfl (by decide +kernel)) rfl hP1
  clear hP1 hD1
  refine lv_pop hx hb dL_law_457 rfl ?_
  refine lv_goto (tgt := 1109) hx hb dL_law_458 (by decide) ?_
  refine W.widen (k := cells + 2) (n := slots + 20) (by omega) (by omega) ?_
  exact kk (zups [(18, m_thrown_n)] (zups [] I)) (zups [(38, m_now_n)] (zups [(25, x_race_runners_splits_n), (28, x_race_runners_torn_n)] F)) H locs _ hI_ hP hD hS (lv_sub hl [0, 1, 2, 3] rfl)
set_option maxHeartbeats 4000000 in
set_option maxRecDepth 100000 in
theorem zlaw_7 {p : Program} {l : Launch} {e : Env} {s : State} {m : MethodId} {below : List Frame} {meth : Method} {c : Code} {b L : Nat} {xs : Nat → Int32} {D : va_G} {cB cI cZ : ClassId} (C0 : lw_At p s m meth c b L xs) (hK : va_K D vwCl (zT cB cI cZ) s) (hN : zNest s) (hZ : zStat (fun q : Nat => s.heap.size ≤ q) s s.heap) (A : Nat → Nat) (I : Nat → Int32) (F : Nat → Nat → Int32) (j : Nat) (i : Int32) (hi : i = nI j) (hj : j + 7 ≤ L) (hL : L ≤ 3584) (hI : zIF I F) (cells slots : Nat) (hc : cells + 10 ≤ 601024) (hs : slots + 100 ≤ 7293034) (H : Heap) (locs : List Loc) (hP : va_P D vwCl (zWd cB cI cZ A I F) H) (hD : va_D (fun q : Nat => s.heap.size ≤ q) (zWd cB cI cZ A I F)) (hS : va_S (fun q : Nat => s.heap.size ≤ q) s.heap H locs) (ls : Array Slot) (hl : lv_has ls 5 [(3, .int i), (2, .ref (A 53)), (1, .ref (A 0)), (0, .ref b)]) (kk : ∀ (I : Nat → Int32) (F : Nat → Nat → Int32) (H : Heap) (locs : List Loc) (ls : Array Slot), zIF I F → va_P D vwCl (zWd cB cI cZ A I F) H → va_D (fun q : Nat => s.heap.size ≤ q) (zWd cB cI cZ A I F) → va_S (fun q : Nat => s.heap.size ≤ q) s.heap H locs → lv_has ls 5 [(3, .int i), (2, .ref (A 53)), (1, .ref (A 0)), (0, .ref b)] → W p l e room_1 s m #[Value.ref b] below meth c H locs (cells + 2) (slots + 20) (lw_Z below #[Value.ref b] s) (F0 m 1109 ls [])) : W p l e room_1 s m #[Value.ref b] below meth c H locs cells slots (lw_Z below #[Value.ref b] s) (F0 m 461 ls []) := by
  obtain ⟨hx, hb, hr, hml, hown, hts, hX, hbl, hlocks, hgv⟩ := C0
  have hA : ∀ q : Nat, s.heap.size ≤ q → (fun q : Nat => s.heap.size ≤ q) q := fun _ h => h
  have hbA : ¬ (fun q : Nat => s.heap.size ≤ q) b := Nat.not_le.mpr hbl
  have hts_ : ∀ w ∈ wsL_law, w.before #[Value.ref b] s = true := fun w h => hts w (wsL_law_in w h)
  have h1_ : vp_in (i + (nI 1)) L := by rw [hi]; show vp_in (nI j + nI 1) L; rw [nI_add]; exact vp_in_nI (by omega) (by omega)
  have h2_ : vp_in (i + (nI 2)) L := by rw [hi]; show vp_in (nI j + nI 2) L; rw [nI_add]; exact vp_in_nI (by omega) (by omega)
  refine lv_aload_n hx hb dL_law_461 rfl (lv_at hl 2 rfl) ?_
  refine lv_aload_n hx hb dL_law_462 rfl (lv_at hl 3 rfl) ?_
  refine lv_iload_n hx hb dL_law_463 rfl (lv_at hl 0 rfl) ?_
  refine lv_iconst (v := (nI 1)) hx hb dL_law_464 rfl ?_
  refine lv_iadd hx hb dL_law_465 ?_
  refine va_sld hx hb hX hbl hbA hS h1_ dL_law_466 ?_
  refine lv_aload_n hx hb dL_law_467 rfl (lv_at hl 3 rfl) ?_
  refine lv_iload_n hx hb dL_law_468 rfl (lv_at hl 0 rfl) ?_
  refine lv_iconst (v := (nI 2)) hx hb dL_law_469 rfl ?_
  refine lv_iadd hx hb dL_law_470 ?_
  refine va_sld hx hb hX hbl hbA hS h2_ dL_law_471 ?_
  refine lv_if_eq (tgt := 479) hx hb dL_law_472 (by decide) (fun c1 => ?_) (fun c1 => ?_)
  · refine lv_iconst (v := (nI 0)) hx hb dL_law_479 rfl ?_
    obtain ⟨r_x, x_race_runners_dropped_n, r_m, m_thrown_n, m_now_n, e1_, e2_, hI_⟩ := zs_7 (I 0) (F 2) (F 6) (I 2) (I 3) (F 7) (F 8) (F 9) (F 10) (F 11) (F 12) (F 13) (I 4) (F 14) (F 15) (F 16) (F 17) (F 22) (I 11) (I 12) (F 23) (F 24) (F 25) (F 26) (F 27) (F 28) (F 29) (I 13) (F 30) (F 31) (F 32) (F 33) (I 14) (F 34) (I 18) (I 19) (I 20) (F 37) (F 38) (F 40) (F 41) (xs (i + (nI 1)).toNatClampNeg) (nI 0) (by decide) hI
    refine zVi (As := [.int (xs (i + (nI 1)).toNatClampNeg), .int (nI 0)]) (rest := []) (C := RX10) (wr := zrst [1, 2, 3, 4, 5, 6, 7, 8, 9, 10, 11, 12, 13, 14, 15, 16, 17, 18, 19, 20, 21, 22, 23, 24, 25, 26, 27, 28, 29, 30, 31, 33, 34, 37, 38, 39, 40, 41, 42, 43, 44, 45, 46, 47, 48, 49, 50, 51, 52, 53, 54, 55, 56, 57, 58, 59] (zWd cB cI cZ A I F)) [0, 32, 35, 36] [1, 2, 3, 4, 5, 6, 7, 8, 9, 10, 11, 12, 13, 14, 15, 16, 17, 18, 19, 20, 21, 22, 23, 24, 25, 26, 27, 28, 29, 30, 31, 33, 34, 37, 38, 39, 40, 41, 42, 43, 44, 45, 46, 47, 48, 49, 50, 51, 52, 53, 54, 55, 56, 57, 58, 59] 0 ⟨hx, hb, hml, hown, hts_⟩ (mX10_drop l D cB cI cZ (A 0) (A 32) (A 10) (A 50) (A 1) (A 3) (A 48) (A 26) (A 43) (A 33) (A 35) (A 37) (A 38) (A 41) (A 36) (A 42) (A 40) (A 39) (I 0) (I 11) (I 12) (F 23) H.size (xs (i + (nI 1)).toNatClampNeg) (nI 0) r_x x_race_runners_dropped_n e1_) (cwV 2 hts_ gL_law_X10_drop rfl rfl rfl (by decide +kernel) ⟨Nat.le_of_ble_eq_true rfl, Nat.le_of_ble_eq_true rfl⟩) hK hN hZ hP hD hS hA rfl rfl (zrst_map zWd_len rfl) rfl rfl rfl rfl rfl hl.1 rfl (lv_room (Nat.le_of_ble_eq_true rfl)) dL_law_480 (zfit (by omega) (by omega)) (fun H locs hP1 hD1 hS => ?_)
    replace hD := zWd_D (zups [] I) (zups [(23, x_race_runners_dropped_n)] F) hD
    have hP := zback (W := zWd cB cI cZ A I F) (W' := zWd cB cI cZ A (zups [] I) (zups [(23, x_race_runners_dropped_n)] F)) [0, 32, 35, 36] [1, 2, 3, 4, 5, 6, 7, 8, 9, 10, 11, 12, 13, 14, 15, 16, 17, 18, 19, 20, 21, 22, 23, 24, 25, 26, 27, 28, 29, 30, 31, 33, 34, 37, 38, 39, 40, 41, 42, 43, 44, 45, 46, 47, 48, 49, 50, 51, 52, 53, 54, 55, 56, 57, 58, 59] zWd_len zWd_len (by decide +kernel) (zWd_same (I := I) (F := F) [] [(23, x_race_runners_dropped_n)] [] [23] _ rfl rfl (by decide +kernel)) rfl hP1
    clear hP1 hD1
    refine lv_pop hx hb dL_law_483 rfl ?_
    refine lv_aload_n hx hb dL_law_484 rfl (lv_at hl 1 rfl) ?_
    refine lv_aload_n hx hb dL_law_485 rfl (lv_at hl 3 rfl) ?_
    refine lv_iload_n hx hb dL_law_486 rfl (lv_at hl 0 rfl) ?_
    refine lv_iconst (v := (nI 1)) hx hb dL_law_487 rfl ?_
    refine lv_iadd hx hb dL_law_488 ?_
    refine va_sld hx hb hX hbl hbA hS h1_ dL_law_489 ?_
    refine lv_aload_n hx hb dL_law_490 rfl (lv_at hl 3 rfl) ?_
    refine lv_iload_n hx hb dL_law_491 rfl (lv_at hl 0 rfl) ?_
    refine lv_iconst (v := (nI 2)) hx hb dL_law_492 rfl ?_
    refine lv_iadd hx hb dL_law_493 ?_
    refine va_sld hx hb hX hbl hbA hS h2_ dL_law_494 ?_
    refine lv_if_eq (tgt := 502) hx hb dL_law_495 (by decide) (fun _ => ?_) (fun c_ => absurd c1 c_)
    refine lv_iconst (v := (nI 0)) hx hb dL_law_502 rfl ?_
    refine zVi (As := [.int (xs (i + (nI 1)).toNatClampNeg), .int (nI 0)]) (rest := []) (C := RX11) (wr := zrst [0, 1, 2, 3, 4, 5, 6, 7, 8, 9, 10, 11, 12, 13, 14, 15, 16, 17, 18, 19, 20, 21, 22, 23, 24, 25, 26, 27, 28, 29, 30, 31, 32, 33, 34, 35, 36, 37, 38, 39, 40, 41, 42, 43, 44, 45, 46, 47, 48, 49, 50, 51, 52, 54, 56, 57, 58, 59] (zWd cB cI cZ A (zups [] I) (zups [(23, x_race_runners_dropped_n)] F))) [53, 55] [0, 1, 2, 3, 4, 5, 6, 7, 8, 9, 10, 11, 12, 13, 14, 15, 16, 17, 18, 19, 20, 21, 22, 23, 24, 25, 26, 27, 28, 29, 30, 31, 32, 33, 34, 35, 36, 37, 38, 39, 40, 41, 42, 43, 44, 45, 46, 47, 48, 49, 50, 51, 52, 54, 56, 57, 58, 59] 0 ⟨hx, hb, hml, hown, hts_⟩ (mX11_drop l D cB cI cZ (A 53) (A 55) (A 54) (A 58) (A 57) (A 56) (A 59) (I 18) (I 19) (I 20) (I 21) (I 22) (I 23) (I 24) (I 25) (I 26) (I 27) (F 38) H.size (xs (i + (nI 1)).toNatClampNeg) (nI 0) r_m m_thrown_n m_now_n e2_) (cwV 2 hts_ gL_law_X11_drop rfl rfl rfl (by decide +kernel) ⟨Nat.le_of_ble_eq_true rfl, Nat.le_of_ble_eq_true rfl⟩) hK hN hZ hP hD hS hA rfl rfl (zrst_map zWd_len rfl) rfl rfl rfl rfl rfl hl.1 rfl (lv_room (Nat.le_of_ble_eq_true rfl)) dL_law_503 (zfit (by omega) (by omega)) (fun H locs hP1 hD1 hS => ?_)
    replace hD := zWd_D (zups [(18, m_thrown_n)] (zups [] I)) (zups [(38, m_now_n)] (zups [(23, x_race_runners_dropped_n)] F)) hD
    have hP := zback (W := zWd cB cI cZ A (zups [] I) (zups [(23, x_race_runners_dropped_n)] F)) (W' := zWd cB cI cZ A (zups [(18, m_thrown_n)] (zups [] I)) (zups [(38, m_now_n)] (zups [(23, x_race_runners_dropped_n)] F))) [53, 55] [0, 1, 2, 3, 4, 5, 6, 7, 8, 9, 10, 11, 12, 13, 14, 15, 16, 17, 18, 19, 20, 21, 22, 23, 24, 25, 26, 27, 28, 29, 30, 31, 32, 33, 34, 35, 36, 37, 38, 39, 40, 41, 42, 43, 44, 45, 46, 47, 48, 49, 50, 51, 52, 54, 56, 57, 58, 59] zWd_len zWd_len (by decide +kernel) (zWd_same (I := (zups [] I)) (F := (zups [(23, x_race_runners_dropped_n)] F)) [(18, m_thrown_n)] [(38, m_now_n)] [18] [38] _ rfl rfl (by decide +kernel)) rfl hP1
    clear hP1 hD1
    refine lv_pop hx hb dL_law_506 rfl ?_
    refine lv_goto (tgt := 1109) hx hb dL_law_507 (by decide) ?_
    refine W.widen (k := cells + 2) (n := slots + 20) (by omega) (by omega) ?_
    exact kk (zups [(18, m_thrown_n)] (zups [] I)) (zups [(38, m_now_n)] (zups [(23, x_race_runners_dropped_n)] F)) H locs _ hI_ hP hD hS (lv_sub hl [0, 1, 2, 3] rfl)
  · refine lv_iconst (v := (nI 1)) hx hb dL_law_475 rfl ?_
    refine lv_goto (tgt := 480) hx hb dL_law_476 (by decide) ?_
    obtain ⟨r_x, x_race_runners_dropped_n, r_m, m_thrown_n, m_now_n, e1_, e2_, hI_⟩ := zs_7 (I 0) (F 2) (F 6) (I 2) (I 3) (F 7) (F 8) (F 9) (F 10) (F 11) (F 12) (F 13) (I 4) (F 14) (F 15) (F 16) (F 17) (F 22) (I 11) (I 12) (F 23) (F 24) (F 25) (F 26) (F 27) (F 28) (F 29) (I 13) (F 30) (F 31) (F 32) (F 33) (I 14) (F 34) (I 18) (I 19) (I 20) (F 37) (F 38) (F 40) (F 41) (xs (i + (nI 1)).toNatClampNeg) (nI 1) (by decide) hI
    refine zVi (As := [.int (xs (i + (nI 1)).toNatClampNeg), .int (nI 1)]) (rest := []) (C := RX10) (wr := zrst [1, 2, 3, 4, 5, 6, 7, 8, 9, 10, 11, 12, 13, 14, 15, 16, 17, 18, 19, 20, 21, 22, 23, 24, 25, 26, 27, 28, 29, 30, 31, 33, 34, 37, 38, 39, 40, 41, 42, 43, 44, 45, 46, 47, 48, 49, 50, 51, 52, 53, 54, 55, 56, 57, 58, 59] (zWd cB cI cZ A I F)) [0, 32, 35, 36] [1, 2, 3, 4, 5, 6, 7, 8, 9, 10, 11, 12, 13, 14, 15, 16, 17, 18, 19, 20, 21, 22, 23, 24, 25, 26, 27, 28, 29, 30, 31, 33, 34, 37, 38, 39, 40, 41, 42, 43, 44, 45, 46, 47, 48, 49, 50, 51, 52, 53, 54, 55, 56, 57, 58, 59] 0 ⟨hx, hb, hml, hown, hts_⟩ (mX10_drop l D cB cI cZ (A 0) (A 32) (A 10) (A 50) (A 1) (A 3) (A 48) (A 26) (A 43) (A 33) (A 35) (A 37) (A 38) (A 41) (A 36) (A 42) (A 40) (A 39) (I 0) (I 11) (I 12) (F 23) H.size (xs (i + (nI 1)).toNatClampNeg) (nI 1) r_x x_race_runners_dropped_n e1_) (cwV 2 hts_ gL_law_X10_drop rfl rfl rfl (by decide +kernel) ⟨Nat.le_of_ble_eq_true rfl, Nat.le_of_ble_eq_true rfl⟩) hK hN hZ hP hD hS hA rfl rfl (zrst_map zWd_len rfl) rfl rfl rfl rfl rfl hl.1 rfl (lv_room (Nat.le_of_ble_eq_true rfl)) dL_law_480 (zfit (by omega) (by omega)) (fun H locs hP1 hD1 hS => ?_)
    replace hD := zWd_D (zups [] I) (zups [(23, x_race_runners_dropped_n)] F) hD
    have hP := zback (W := zWd cB cI cZ A I F) (W' := zWd cB cI cZ A (zups [] I) (zups [(23, x_race_runners_dropped_n)] F)) [0, 32, 35, 36] [1, 2, 3, 4, 5, 6, 7, 8, 9, 10, 11, 12, 13, 14, 15, 16, 17, 18, 19, 20, 21, 22, 23, 24, 25, 26, 27, 28, 29, 30, 31, 33, 34, 37, 38, 39, 40, 41, 42, 43, 44, 45, 46, 47, 48, 49, 50, 51, 52, 53, 54, 55, 56, 57, 58, 59] zWd_len zWd_len (by decide +kernel) (zWd_same (I := I) (F := F) [] [(23, x_race_runners_dropped_n)] [] [23] _ rfl rfl (by decide +kernel)) rfl hP1
    clear hP1 hD1
    refine lv_pop hx hb dL_law_483 rfl ?_
    refine lv_aload_n hx hb dL_law_484 rfl (lv_at hl 1 rfl) ?_
    refine lv_aload_n hx hb dL_law_485 rfl (lv_at hl 3 rfl) ?_
    refine lv_iload_n hx hb dL_law_486 rfl (lv_at hl 0 rfl) ?_
    refine lv_iconst (v := (nI 1)) hx hb dL_law_487 rfl ?_
    refine lv_iadd hx hb dL_law_488 ?_
    refine va_sld hx hb hX hbl hbA hS h1_ dL_law_489 ?_
    refine lv_aload_n hx hb dL_law_490 rfl (lv_at hl 3 rfl) ?_
    refine lv_iload_n hx hb dL_law_491 rfl (lv_at hl 0 rfl) ?_
    refine lv_iconst (v := (nI 2)) hx hb dL_law_492 rfl ?_
    refine lv_iadd hx hb dL_law_493 ?_
    refine va_sld hx hb hX hbl hbA hS h2_ dL_law_494 ?_
    refine lv_if_eq (tgt := 502) hx hb dL_law_495 (by decide) (fun c_ => absurd c_ c1) (fun _ => ?_)
    refine lv_iconst (v := (nI 1)) hx hb dL_law_498 rfl ?_
    refine lv_goto (tgt := 503) hx hb dL_law_499 (by decide) ?_
    refine zVi (As := [.int (xs (i + (nI 1)).toNatClampNeg), .int (nI 1)]) (rest := []) (C := RX11) (wr := zrst [0, 1, 2, 3, 4, 5, 6, 7, 8, 9, 10, 11, 12, 13, 14, 15, 16, 17, 18, 19, 20, 21, 22, 23, 24, 25, 26, 27, 28, 29, 30, 31, 32, 33, 34, 35, 36, 37, 38, 39, 40, 41, 42, 43, 44, 45, 46, 47, 48, 49, 50, 51, 52, 54, 56, 57, 58, 59] (zWd cB cI cZ A (zups [] I) (zups [(23, x_race_runners_dropped_n)] F))) [53, 55] [0, 1, 2, 3, 4, 5, 6, 7, 8, 9, 10, 11, 12, 13, 14, 15, 16, 17, 18, 19, 20, 21, 22, 23, 24, 25, 26, 27, 28, 29, 30, 31, 32, 33, 34, 35, 36, 37, 38, 39, 40, 41, 42, 43, 44, 45, 46, 47, 48, 49, 50, 51, 52, 54, 56, 57, 58, 59] 0 ⟨hx, hb, hml, hown, hts_⟩ (mX11_drop l D cB cI cZ (A 53) (A 55) (A 54) (A 58) (A 57) (A 56) (A 59) (I 18) (I 19) (I 20) (I 21) (I 22) (I 23) (I 24) (I 25) (I 26) (I 27) (F 38) H.size (xs (i + (nI 1)).toNatClampNeg) (nI 1) r_m m_thrown_n m_now_n e2_) (cwV 2 hts_ gL_law_X11_drop rfl rfl rfl (by decide +kernel) ⟨Nat.le_of_ble_eq_true rfl, Nat.le_of_ble_eq_true rfl⟩) hK hN hZ hP hD hS hA rfl rfl (zrst_map zWd_len rfl) rfl rfl rfl rfl rfl hl.1 rfl (lv_room (Nat.le_of_ble_eq_true rfl)) dL_law_503 (zfit (by omega) (by omega)) (fun H locs hP1 hD1 hS => ?_)
    replace hD := zWd_D (zups [(18, m_thrown_n)] (zups [] I)) (zups [(38, m_now_n)] (zups [(23, x_race_runners_dropped_n)] F)) hD
    have hP := zback (W := zWd cB cI cZ A (zups [] I) (zups [(23, x_race_runners_dropped_n)] F)) (W' := zWd cB cI cZ A (zups [(18, m_thrown_n)] (zups [] I)) (zups [(38, m_now_n)] (zups [(23, x_race_runners_dropped_n)] F))) [53, 55] [0, 1, 2, 3, 4, 5, 6, 7, 8, 9, 10, 11, 12, 13, 14, 15, 16, 17, 18, 19, 20, 21, 22, 23, 24, 25, 26, 27, 28, 29, 30, 31, 32, 33, 34, 35, 36, 37, 38, 39, 40, 41, 42, 43, 44, 45, 46, 47, 48, 49, 50, 51, 52, 54, 56, 57, 58, 59] zWd_len zWd_len (by decide +kernel) (zWd_same (I := (zups [] I)) (F := (zups [(23, x_race_runners_dropped_n)] F)) [(18, m_thrown_n)] [(38, m_now_n)] [18] [38] _ rfl rfl (by decide +kernel)) rfl hP1
    clear hP1 hD1
    refine lv_pop hx hb dL_law_506 rfl ?_
    refine lv_goto (tgt := 1109) hx hb dL_law_507 (by decide) ?_
    refine W.widen (k := cells + 2) (n := slots + 20) (by omega) (by omega) ?_
    exact kk (zups [(18, m_thrown_n)] (zups [] I)) (zups [(38, m_now_n)] (zups [(23, x_race_runners_dropped_n)] F)) H locs _ hI_ hP hD hS (lv_sub hl [0, 1, 2, 3] rfl)
set_option maxHeartbeats 4000000 in
set_option maxRecDepth 100000 in
theorem zlaw_8 {p : Program} {l : Launch} {e : Env} {s : State} {m : MethodId} {below : List Frame} {meth : Method} {c : Code} {b L : Nat} {xs : Nat → Int32} {D : va_G} {cB cI cZ : ClassId} (C0 : lw_At p s m meth c b L xs) (hK : va_K D vwCl (zT cB cI cZ) s) (hN : zNest s) (hZ : zStat (fun q : Nat => s.heap.size ≤ q) s s.heap) (A : Nat → Nat) (I : Nat → Int32) (F : Nat → Nat → Int32) (j : Nat) (i : Int32) (hi : i = nI j) (hj : j + 7 ≤ L) (hL : L ≤ 3584) (hI : zIF I F) (cells slots : Nat) (hc : cells + 10 ≤ 601024) (hs : slots + 100 ≤ 7293034) (H : Heap) (locs : List Loc) (hP : va_P D vwCl (zWd cB cI cZ A I F) H) (hD : va_D (fun q : Nat => s.heap.size ≤ q) (zWd cB cI cZ A I F)) (hS : va_S (fun q : Nat => s.heap.size ≤ q) s.heap H locs) (ls : Array Slot) (hl : lv_has ls 5 [(3, .int i), (2, .ref (A 53)), (1, .ref (A 0)), (0, .ref b)]) (kk : ∀ (I : Nat → Int32) (F : Nat → Nat → Int32) (H : Heap) (locs : List Loc) (ls : Array Slot), zIF I F → va_P D vwCl (zWd cB cI cZ A I F) H → va_D (fun q : Nat => s.heap.size ≤ q) (zWd cB cI cZ A I F) → va_S (fun q : Nat => s.heap.size ≤ q) s.heap H locs → lv_has ls 5 [(3, .int i), (2, .ref (A 53)), (1, .ref (A 0)), (0, .ref b)] → W p l e room_1 s m #[Value.ref b] below meth c H locs (cells + 2) (slots + 20) (lw_Z below #[Value.ref b] s) (F0 m 1109 ls [])) : W p l e room_1 s m #[Value.ref b] below meth c H locs cells slots (lw_Z below #[Value.ref b] s) (F0 m 510 ls []) := by
  obtain ⟨hx, hb, hr, hml, hown, hts, hX, hbl, hlocks, hgv⟩ := C0
  have hA : ∀ q : Nat, s.heap.size ≤ q → (fun q : Nat => s.heap.size ≤ q) q := fun _ h => h
  have hbA : ¬ (fun q : Nat => s.heap.size ≤ q) b := Nat.not_le.mpr hbl
  have hts_ : ∀ w ∈ wsL_law, w.before #[Value.ref b] s = true := fun w h => hts w (wsL_law_in w h)
  have h1_ : vp_in (i + (nI 1)) L := by rw [hi]; show vp_in (nI j + nI 1) L; rw [nI_add]; exact vp_in_nI (by omega) (by omega)
  have h2_ : vp_in (i + (nI 2)) L := by rw [hi]; show vp_in (nI j + nI 2) L; rw [nI_add]; exact vp_in_nI (by omega) (by omega)
  refine lv_aload_n hx hb dL_law_510 rfl (lv_at hl 2 rfl) ?_
  refine lv_aload_n hx hb dL_law_511 rfl (lv_at hl 3 rfl) ?_
  refine lv_iload_n hx hb dL_law_512 rfl (lv_at hl 0 rfl) ?_
  refine lv_iconst (v := (nI 1)) hx hb dL_law_513 rfl ?_
  refine lv_iadd hx hb dL_law_514 ?_
  refine va_sld hx hb hX hbl hbA hS h1_ dL_law_515 ?_
  refine lv_aload_n hx hb dL_law_516 rfl (lv_at hl 3 rfl) ?_
  refine lv_iload_n hx hb dL_law_517 rfl (lv_at hl 0 rfl) ?_
  refine lv_iconst (v := (nI 2)) hx hb dL_law_518 rfl ?_
  refine lv_iadd hx hb dL_law_519 ?_
  refine va_sld hx hb hX hbl hbA hS h2_ dL_law_520 ?_
  obtain ⟨r_x, x_race_way_cuts_n, r_m, m_thrown_n, m_now_n, e1_, e2_, hI_⟩ := zs_8 (I 0) (F 2) (F 6) (I 2) (I 3) (F 7) (F 8) (F 9) (F 10) (F 11) (F 12) (F 13) (I 4) (F 14) (F 15) (F 16) (F 17) (F 22) (I 11) (I 12) (F 23) (F 24) (F 25) (F 26) (F 27) (F 28) (F 29) (I 13) (F 30) (F 31) (F 32) (F 33) (I 14) (F 34) (I 18) (I 19) (I 20) (F 37) (F 38) (F 40) (F 41) (xs (i + (nI 1)).toNatClampNeg) (xs (i + (nI 2)).toNatClampNeg) hI
  refine zVi (As := [.int (xs (i + (nI 1)).toNatClampNeg), .int (xs (i + (nI 2)).toNatClampNeg)]) (rest := []) (C := RX10) (wr := zrst [1, 2, 3, 4, 5, 6, 7, 8, 9, 10, 11, 12, 13, 14, 15, 16, 17, 18, 19, 20, 21, 22, 23, 24, 25, 26, 27, 28, 29, 30, 31, 33, 34, 35, 36, 37, 38, 39, 40, 41, 42, 44, 46, 47, 48, 49, 50, 51, 52, 53, 54, 55, 56, 57, 58, 59] (zWd cB cI cZ A I F)) [0, 32, 43, 45] [1, 2, 3, 4, 5, 6, 7, 8, 9, 10, 11, 12, 13, 14, 15, 16, 17, 18, 19, 20, 21, 22, 23, 24, 25, 26, 27, 28, 29, 30, 31, 33, 34, 35, 36, 37, 38, 39, 40, 41, 42, 44, 46, 47, 48, 49, 50, 51, 52, 53, 54, 55, 56, 57, 58, 59] 0 ⟨hx, hb, hml, hown, hts_⟩ (mX10_cut l D cB cI cZ (A 0) (A 32) (A 10) (A 50) (A 1) (A 3) (A 48) (A 26) (A 43) (A 33) (A 35) (A 47) (A 44) (A 45) (A 46) (I 0) (I 13) (F 31) H.size (xs (i + (nI 1)).toNatClampNeg) (xs (i + (nI 2)).toNatClampNeg) r_x x_race_way_cuts_n e1_) (cwV 2 hts_ gL_law_X10_cut rfl rfl rfl (by decide +kernel) ⟨Nat.le_of_ble_eq_true rfl, Nat.le_of_ble_eq_true rfl⟩) hK hN hZ hP hD hS hA rfl rfl (zrst_map zWd_len rfl) rfl rfl rfl rfl rfl hl.1 rfl (lv_room (Nat.le_of_ble_eq_true rfl)) dL_law_521 (zfit (by omega) (by omega)) (fun H locs hP1 hD1 hS => ?_)
  replace hD := zWd_D (zups [] I) (zups [(31, x_race_way_cuts_n)] F) hD
  have hP := zback (W := zWd cB cI cZ A I F) (W' := zWd cB cI cZ A (zups [] I) (zups [(31, x_race_way_cuts_n)] F)) [0, 32, 43, 45] [1, 2, 3, 4, 5, 6, 7, 8, 9, 10, 11, 12, 13, 14, 15, 16, 17, 18, 19, 20, 21, 22, 23, 24, 25, 26, 27, 28, 29, 30, 31, 33, 34, 35, 36, 37, 38, 39, 40, 41, 42, 44, 46, 47, 48, 49, 50, 51, 52, 53, 54, 55, 56, 57, 58, 59] zWd_len zWd_len (by decide +kernel) (zWd_same (I := I) (F := F) [] [(31, x_race_way_cuts_n)] [] [31] _ rfl rfl (by decide +kernel)) rfl hP1
  clear hP1 hD1
  refine lv_pop hx hb dL_law_524 rfl ?_
  refine lv_aload_n hx hb dL_law_525 rfl (lv_at hl 1 rfl) ?_
  refine lv_aload_n hx hb dL_law_526 rfl (lv_at hl 3 rfl) ?_
  refine lv_iload_n hx hb dL_law_527 rfl (lv_at hl 0 rfl) ?_
  refine lv_iconst (v := (nI 1)) hx hb dL_law_528 rfl ?_
  refine lv_iadd hx hb dL_law_529 ?_
  refine va_sld hx hb hX hbl hbA hS h1_ dL_law_530 ?_
  refine lv_aload_n hx hb dL_law_531 rfl (lv_at hl 3 rfl) ?_
  refine lv_iload_n hx hb dL_law_532 rfl (lv_at hl 0 rfl) ?_
  refine lv_iconst (v := (nI 2)) hx hb dL_law_533 rfl ?_
  refine lv_iadd hx hb dL_law_534 ?_
  refine va_sld hx hb hX hbl hbA hS h2_ dL_law_535 ?_
  refine zVi (As := [.int (xs (i + (nI 1)).toNatClampNeg), .int (xs (i + (nI 2)).toNatClampNeg)]) (rest := []) (C := RX11) (wr := zrst [0, 1, 2, 3, 4, 5, 6, 7, 8, 9, 10, 11, 12, 13, 14, 15, 16, 17, 18, 19, 20, 21, 22, 23, 24, 25, 26, 27, 28, 29, 30, 31, 32, 33, 34, 35, 36, 37, 38, 39, 40, 41, 42, 43, 44, 45, 46, 47, 48, 49, 50, 51, 52, 54, 56, 57, 58, 59] (zWd cB cI cZ A (zups [] I) (zups [(31, x_race_way_cuts_n)] F))) [53, 55] [0, 1, 2, 3, 4, 5, 6, 7, 8, 9, 10, 11, 12, 13, 14, 15, 16, 17, 18, 19, 20, 21, 22, 23, 24, 25, 26, 27, 28, 29, 30, 31, 32, 33, 34, 35, 36, 37, 38, 39, 40, 41, 42, 43, 44, 45, 46, 47, 48, 49, 50, 51, 52, 54, 56, 57, 58, 59] 0 ⟨hx, hb, hml, hown, hts_⟩ (mX11_cut l D cB cI cZ (A 53) (A 55) (A 54) (A 58) (A 57) (A 56) (A 59) (I 18) (I 19) (I 20) (I 21) (I 22) (I 23) (I 24) (I 25) (I 26) (I 27) (F 38) H.size (xs (i + (nI 1)).toNatClampNeg) (xs (i + (nI 2)).toNatClampNeg) r_m m_thrown_n m_now_n e2_) (cwV 2 hts_ gL_law_X11_cut rfl rfl rfl (by decide +kernel) ⟨Nat.le_of_ble_eq_true rfl, Nat.le_of_ble_eq_true rfl⟩) hK hN hZ hP hD hS hA rfl rfl (zrst_map zWd_len rfl) rfl rfl rfl rfl rfl hl.1 rfl (lv_room (Nat.le_of_ble_eq_true rfl)) dL_law_536 (zfit (by omega) (by omega)) (fun H locs hP1 hD1 hS => ?_)
  replace hD := zWd_D (zups [(18, m_thrown_n)] (zups [] I)) (zups [(38, m_now_n)] (zups [(31, x_race_way_cuts_n)] F)) hD
  have hP := zback (W := zWd cB cI cZ A (zups [] I) (zups [(31, x_race_way_cuts_n)] F)) (W' := zWd cB cI cZ A (zups [(18, m_thrown_n)] (zups [] I)) (zups [(38, m_now_n)] (zups [(31, x_race_way_cuts_n)] F))) [53, 55] [0, 1, 2, 3, 4, 5, 6, 7, 8, 9, 10, 11, 12, 13, 14, 15, 16, 17, 18, 19, 20, 21, 22, 23, 24, 25, 26, 27, 28, 29, 30, 31, 32, 33, 34, 35, 36, 37, 38, 39, 40, 41, 42, 43, 44, 45, 46, 47, 48, 49, 50, 51, 52, 54, 56, 57, 58, 59] zWd_len zWd_len (by decide +kernel) (zWd_same (I := (zups [] I)) (F := (zups [(31, x_race_way_cuts_n)] F)) [(18, m_thrown_n)] [(38, m_now_n)] [18] [38] _ rfl rfl (by decide +kernel)) rfl hP1
  clear hP1 hD1
  refine lv_pop hx hb dL_law_539 rfl ?_
  refine lv_goto (tgt := 1109) hx hb dL_law_540 (by decide) ?_
  refine W.widen (k := cells + 2) (n := slots + 20) (by omega) (by omega) ?_
  exact kk (zups [(18, m_thrown_n)] (zups [] I)) (zups [(38, m_now_n)] (zups [(31, x_race_way_cuts_n)] F)) H locs _ hI_ hP hD hS (lv_sub hl [0, 1, 2, 3] rfl)
set_option maxHeartbeats 4000000 in
set_option maxRecDepth 100000 in
theorem zlaw_9 {p : Program} {l : Launch} {e : Env} {s : State} {m : MethodId} {below : List Frame} {meth : Method} {c : Code} {b L : Nat} {xs : Nat → Int32} {D : va_G} {cB cI cZ : ClassId} (C0 : lw_At p s m meth c b L xs) (hK : va_K D vwCl (zT cB cI cZ) s) (hN : zNest s) (hZ : zStat (fun q : Nat => s.heap.size ≤ q) s s.heap) (A : Nat → Nat) (I : Nat → Int32) (F : Nat → Nat → Int32) (j : Nat) (i : Int32) (hi : i = nI j) (hj : j + 7 ≤ L) (hL : L ≤ 3584) (hI : zIF I F) (cells slots : Nat) (hc : cells + 10 ≤ 601024) (hs : slots + 100 ≤ 7293034) (H : Heap) (locs : List Loc) (hP : va_P D vwCl (zWd cB cI cZ A I F) H) (hD : va_D (fun q : Nat => s.heap.size ≤ q) (zWd cB cI cZ A I F)) (hS : va_S (fun q : Nat => s.heap.size ≤ q) s.heap H locs) (ls : Array Slot) (hl : lv_has ls 5 [(3, .int i), (2, .ref (A 53)), (1, .ref (A 0)), (0, .ref b)]) (kk : ∀ (I : Nat → Int32) (F : Nat → Nat → Int32) (H : Heap) (locs : List Loc) (ls : Array Slot), zIF I F → va_P D vwCl (zWd cB cI cZ A I F) H → va_D (fun q : Nat => s.heap.size ≤ q) (zWd cB cI cZ A I F) → va_S (fun q : Nat => s.heap.size ≤ q) s.heap H locs → lv_has ls 5 [(3, .int i), (2, .ref (A 53)), (1, .ref (A 0)), (0, .ref b)] → W p l e room_1 s m #[Value.ref b] below meth c H locs (cells + 2) (slots + 20) (lw_Z below #[Value.ref b] s) (F0 m 1109 ls [])) : W p l e room_1 s m #[Value.ref b] below meth c H locs cells slots (lw_Z below #[Value.ref b] s) (F0 m 543 ls []) := by
  obtain ⟨hx, hb, hr, hml, hown, hts, hX, hbl, hlocks, hgv⟩ := C0
  have hA : ∀ q : Nat, s.heap.size ≤ q → (fun q : Nat => s.heap.size ≤ q) q := fun _ h => h
  have hbA : ¬ (fun q : Nat => s.heap.size ≤ q) b := Nat.not_le.mpr hbl
  have hts_ : ∀ w ∈ wsL_law, w.before #[Value.ref b] s = true := fun w h => hts w (wsL_law_in w h)
  have h1_ : vp_in (i + (nI 1)) L := by rw [hi]; show vp_in (nI j + nI 1) L; rw [nI_add]; exact vp_in_nI (by omega) (by omega)
  have h2_ : vp_in (i + (nI 2)) L := by rw [hi]; show vp_in (nI j + nI 2) L; rw [nI_add]; exact vp_in_nI (by omega) (by omega)
  refine lv_aload_n hx hb dL_law_543 rfl (lv_at hl 2 rfl) ?_
  refine lv_aload_n hx hb dL_law_544 rfl (lv_at hl 3 rfl) ?_
  refine lv_iload_n hx hb dL_law_545 rfl (lv_at hl 0 rfl) ?_
  refine lv_iconst (v := (nI 1)) hx hb dL_law_546 rfl ?_
  refine lv_iadd hx hb dL_law_547 ?_
  refine va_sld hx hb hX hbl hbA hS h1_ dL_law_548 ?_
  refine lv_aload_n hx hb dL_law_549 rfl (lv_at hl 3 rfl) ?_
  refine lv_iload_n hx hb dL_law_550 rfl (lv_at hl 0 rfl) ?_
  refine lv_iconst (v := (nI 2)) hx hb dL_law_551 rfl ?_
  refine lv_iadd hx hb dL_law_552 ?_
  refine va_sld hx hb hX hbl hbA hS h2_ dL_law_553 ?_
  refine lv_if_eq (tgt := 561) hx hb dL_law_554 (by decide) (fun c1 => ?_) (fun c1 => ?_)
  · refine lv_iconst (v := (nI 0)) hx hb dL_law_561 rfl ?_
    obtain ⟨r_x, x_race_runners_waved_n, r_m, m_thrown_n, m_now_n, e1_, e2_, hI_⟩ := zs_9 (I 0) (F 2) (F 6) (I 2) (I 3) (F 7) (F 8) (F 9) (F 10) (F 11) (F 12) (F 13) (I 4) (F 14) (F 15) (F 16) (F 17) (F 22) (I 11) (I 12) (F 23) (F 24) (F 25) (F 26) (F 27) (F 28) (F 29) (I 13) (F 30) (F 31) (F 32) (F 33) (I 14) (F 34) (I 18) (I 19) (I 20) (F 37) (F 38) (F 40) (F 41) (xs (i + (nI 1)).toNatClampNeg) (nI 0) (by decide) hI
    refine zVi (As := [.int (xs (i + (nI 1)).toNatClampNeg), .int (nI 0)]) (rest := []) (C := RX10) (wr := zrst [1, 2, 3, 4, 5, 6, 7, 8, 9, 10, 11, 12, 13, 14, 15, 16, 17, 18, 19, 20, 21, 22, 23, 24, 25, 26, 27, 28, 29, 30, 31, 33, 34, 36, 37, 38, 39, 40, 41, 43, 44, 45, 46, 47, 48, 49, 50, 51, 52, 53, 54, 55, 56, 57, 58, 59] (zWd cB cI cZ A I F)) [0, 32, 35, 42] [1, 2, 3, 4, 5, 6, 7, 8, 9, 10, 11, 12, 13, 14, 15, 16, 17, 18, 19, 20, 21, 22, 23, 24, 25, 26, 27, 28, 29, 30, 31, 33, 34, 36, 37, 38, 39, 40, 41, 43, 44, 45, 46, 47, 48, 49, 50, 51, 52, 53, 54, 55, 56, 57, 58, 59] 0 ⟨hx, hb, hml, hown, hts_⟩ (mX10_wave l D cB cI cZ (A 0) (A 32) (A 10) (A 50) (A 1) (A 3) (A 48) (A 26) (A 43) (A 33) (A 35) (A 37) (A 38) (A 41) (A 36) (A 42) (A 40) (A 39) (I 0) (I 11) (I 12) (F 29) H.size (xs (i + (nI 1)).toNatClampNeg) (nI 0) r_x x_race_runners_waved_n e1_) (cwV 2 hts_ gL_law_X10_wave rfl rfl rfl (by decide +kernel) ⟨Nat.le_of_ble_eq_true rfl, Nat.le_of_ble_eq_true rfl⟩) hK hN hZ hP hD hS hA rfl rfl (zrst_map zWd_len rfl) rfl rfl rfl rfl rfl hl.1 rfl (lv_room (Nat.le_of_ble_eq_true rfl)) dL_law_562 (zfit (by omega) (by omega)) (fun H locs hP1 hD1 hS => ?_)
    replace hD := zWd_D (zups [] I) (zups [(29, x_race_runners_waved_n)] F) hD
    have hP := zback (W := zWd cB cI cZ A I F) (W' := zWd cB cI cZ A (zups [] I) (zups [(29, x_race_runners_waved_n)] F)) [0, 32, 35, 42] [1, 2, 3, 4, 5, 6, 7, 8, 9, 10, 11, 12, 13, 14, 15, 16, 17, 18, 19, 20, 21, 22, 23, 24, 25, 26, 27, 28, 29, 30, 31, 33, 34, 36, 37, 38, 39, 40, 41, 43, 44, 45, 46, 47, 48, 49, 50, 51, 52, 53, 54, 55, 56, 57, 58, 59] zWd_len zWd_len (by decide +kernel) (zWd_same (I := I) (F := F) [] [(29, x_race_runners_waved_n)] [] [29] _ rfl rfl (by decide +kernel)) rfl hP1
    clear hP1 hD1
    refine lv_pop hx hb dL_law_565 rfl ?_
    refine lv_aload_n hx hb dL_law_566 rfl (lv_at hl 1 rfl) ?_
    refine lv_aload_n hx hb dL_law_567 rfl (lv_at hl 3 rfl) ?_
    refine lv_iload_n hx hb dL_law_568 rfl (lv_at hl 0 rfl) ?_
    refine lv_iconst (v := (nI 1)) hx hb dL_law_569 rfl ?_
    refine lv_iadd hx hb dL_law_570 ?_
    refine va_sld hx hb hX hbl hbA hS h1_ dL_law_571 ?_
    refine lv_aload_n hx hb dL_law_572 rfl (lv_at hl 3 rfl) ?_
    refine lv_iload_n hx hb dL_law_573 rfl (lv_at hl 0 rfl) ?_
    refine lv_iconst (v := (nI 2)) hx hb dL_law_574 rfl ?_
    refine lv_iadd hx hb dL_law_575 ?_
    refine va_sld hx hb hX hbl hbA hS h2_ dL_law_576 ?_
    refine lv_if_eq (tgt := 584) hx hb dL_law_577 (by decide) (fun _ => ?_) (fun c_ => absurd c1 c_)
    refine lv_iconst (v := (nI 0)) hx hb dL_law_584 rfl ?_
    refine zVi (As := [.int (xs (i + (nI 1)).toNatClampNeg), .int (nI 0)]) (rest := []) (C := RX11) (wr := zrst [0, 1, 2, 3, 4, 5, 6, 7, 8, 9, 10, 11, 12, 13, 14, 15, 16, 17, 18, 19, 20, 21, 22, 23, 24, 25, 26, 27, 28, 29, 30, 31, 32, 33, 34, 35, 36, 37, 38, 39, 40, 41, 42, 43, 44, 45, 46, 47, 48, 49, 50, 51, 52, 54, 56, 57, 58, 59] (zWd cB cI cZ A (zups [] I) (zups [(29, x_race_runners_waved_n)] F))) [53, 55] [0, 1, 2, 3, 4, 5, 6, 7, 8, 9, 10, 11, 12, 13, 14, 15, 16, 17, 18, 19, 20, 21, 22, 23, 24, 25, 26, 27, 28, 29, 30, 31, 32, 33, 34, 35, 36, 37, 38, 39, 40, 41, 42, 43, 44, 45, 46, 47, 48, 49, 50, 51, 52, 54, 56, 57, 58, 59] 0 ⟨hx, hb, hml, hown, hts_⟩ (mX11_wave l D cB cI cZ (A 53) (A 55) (A 54) (A 58) (A 57) (A 56) (A 59) (I 18) (I 19) (I 20) (I 21) (I 22) (I 23) (I 24) (I 25) (I 26) (I 27) (F 38) H.size (xs (i + (nI 1)).toNatClampNeg) (nI 0) r_m m_thrown_n m_now_n e2_) (cwV 2 hts_ gL_law_X11_wave rfl rfl rfl (by decide +kernel) ⟨Nat.le_of_ble_eq_true rfl, Nat.le_of_ble_eq_true rfl⟩) hK hN hZ hP hD hS hA rfl rfl (zrst_map zWd_len rfl) rfl rfl rfl rfl rfl hl.1 rfl (lv_room (Nat.le_of_ble_eq_true rfl)) dL_law_585 (zfit (by omega) (by omega)) (fun H locs hP1 hD1 hS => ?_)
    replace hD := zWd_D (zups [(18, m_thrown_n)] (zups [] I)) (zups [(38, m_now_n)] (zups [(29, x_race_runners_waved_n)] F)) hD
    have hP := zback (W := zWd cB cI cZ A (zups [] I) (zups [(29, x_race_runners_waved_n)] F)) (W' := zWd cB cI cZ A (zups [(18, m_thrown_n)] (zups [] I)) (zups [(38, m_now_n)] (zups [(29, x_race_runners_waved_n)] F))) [53, 55] [0, 1, 2, 3, 4, 5, 6, 7, 8, 9, 10, 11, 12, 13, 14, 15, 16, 17, 18, 19, 20, 21, 22, 23, 24, 25, 26, 27, 28, 29, 30, 31, 32, 33, 34, 35, 36, 37, 38, 39, 40, 41, 42, 43, 44, 45, 46, 47, 48, 49, 50, 51, 52, 54, 56, 57, 58, 59] zWd_len zWd_len (by decide +kernel) (zWd_same (I := (zups [] I)) (F := (zups [(29, x_race_runners_waved_n)] F)) [(18, m_thrown_n)] [(38, m_now_n)] [18] [38] _ rfl rfl (by decide +kernel)) rfl hP1
    clear hP1 hD1
    refine lv_pop hx hb dL_law_588 rfl ?_
    refine lv_goto (tgt := 1109) hx hb dL_law_589 (by decide) ?_
    refine W.widen (k := cells + 2) (n := slots + 20) (by omega) (by omega) ?_
    exact kk (zups [(18, m_thrown_n)] (zups [] I)) (zups [(38, m_now_n)] (zups [(29, x_race_runners_waved_n)] F)) H locs _ hI_ hP hD hS (lv_sub hl [0, 1, 2, 3] rfl)
  · refine lv_iconst (v := (nI 1)) hx hb dL_law_557 rfl ?_
    refine lv_goto (tgt := 562) hx hb dL_law_558 (by decide) ?_
    obtain ⟨r_x, x_race_runners_waved_n, r_m, m_thrown_n, m_now_n, e1_, e2_, hI_⟩ := zs_9 (I 0) (F 2) (F 6) (I 2) (I 3) (F 7) (F 8) (F 9) (F 10) (F 11) (F 12) (F 13) (I 4) (F 14) (F 15) (F 16) (F 17) (F 22) (I 11) (I 12) (F 23) (F 24) (F 25) (F 26) (F 27) (F 28) (F 29) (I 13) (F 30) (F 31) (F 32) (F 33) (I 14) (F 34) (I 18) (I 19) (I 20) (F 37) (F 38) (F 40) (F 41) (xs (i + (nI 1)).toNatClampNeg) (nI 1) (by decide) hI
    refine zVi (As := [.int (xs (i + (nI 1)).toNatClampNeg), .int (nI 1)]) (rest := []) (C := RX10) (wr := zrst [1, 2, 3, 4, 5, 6, 7, 8, 9, 10, 11, 12, 13, 14, 15, 16, 17, 18, 19, 20, 21, 22, 23, 24, 25, 26, 27, 28, 29, 30, 31, 33, 34, 36, 37, 38, 39, 40, 41, 43, 44, 45, 46, 47, 48, 49, 50, 51, 52, 53, 54, 55, 56, 57, 58, 59] (zWd cB cI cZ A I F)) [0, 32, 35, 42] [1, 2, 3, 4, 5, 6, 7, 8, 9, 10, 11, 12, 13, 14, 15, 16, 17, 18, 19, 20, 21, 22, 23, 24, 25, 26, 27, 28, 29, 30, 31, 33, 34, 36, 37, 38, 39, 40, 41, 43, 44, 45, 46, 47, 48, 49, 50, 51, 52, 53, 54, 55, 56, 57, 58, 59] 0 ⟨hx, hb, hml, hown, hts_⟩ (mX10_wave l D cB cI cZ (A 0) (A 32) (A 10) (A 50) (A 1) (A 3) (A 48) (A 26) (A 43) (A 33) (A 35) (A 37) (A 38) (A 41) (A 36) (A 42) (A 40) (A 39) (I 0) (I 11) (I 12) (F 29) H.size (xs (i + (nI 1)).toNatClampNeg) (nI 1) r_x x_race_runners_waved_n e1_) (cwV 2 hts_ gL_law_X10_wave rfl rfl rfl (by decide +kernel) ⟨Nat.le_of_ble_eq_true rfl, Nat.le_of_ble_eq_true rfl⟩) hK hN hZ hP hD hS hA rfl rfl (zrst_map zWd_len rfl) rfl rfl rfl rfl rfl hl.1 rfl (lv_room (Nat.le_of_ble_eq_true rfl)) dL_law_562 (zfit (by omega) (by omega)) (fun H locs hP1 hD1 hS => ?_)
    replace hD := zWd_D (zups [] I) (zups [(29, x_race_runners_waved_n)] F) hD
    have hP := zback (W := zWd cB cI cZ A I F) (W' := zWd cB cI cZ A (zups [] I) (zups [(29, x_race_runners_waved_n)] F)) [0, 32, 35, 42] [1, 2, 3, 4, 5, 6, 7, 8, 9, 10, 11, 12, 13, 14, 15, 16, 17, 18, 19, 20, 21, 22, 23, 24, 25, 26, 27, 28, 29, 30, 31, 33, 34, 36, 37, 38, 39, 40, 41, 43, 44, 45, 46, 47, 48, 49, 50, 51, 52, 53, 54, 55, 56, 57, 58, 59] zWd_len zWd_len (by decide +kernel) (zWd_same (I := I) (F := F) [] [(29, x_race_runners_waved_n)] [] [29] _ rfl rfl (by decide +kernel)) rfl hP1
    clear hP1 hD1
    refine lv_pop hx hb dL_law_565 rfl ?_
    refine lv_aload_n hx hb dL_law_566 rfl (lv_at hl 1 rfl) ?_
    refine lv_aload_n hx hb dL_law_567 rfl (lv_at hl 3 rfl) ?_
    refine lv_iload_n hx hb dL_law_568 rfl (lv_at hl 0 rfl) ?_
    refine lv_iconst (v := (nI 1)) hx hb dL_law_569 rfl ?_
    refine lv_iadd hx hb dL_law_570 ?_
    refine va_sld hx hb hX hbl hbA hS h1_ dL_law_571 ?_
    refine lv_aload_n hx hb dL_law_572 rfl (lv_at hl 3 rfl) ?_
    refine lv_iload_n hx hb dL_law_573 rfl (lv_at hl 0 rfl) ?_
    refine lv_iconst (v := (nI 2)) hx hb dL_law_574 rfl ?_
    refine lv_iadd hx hb dL_law_575 ?_
    refine va_sld hx hb hX hbl hbA hS h2_ dL_law_576 ?_
    refine lv_if_eq (tgt := 584) hx hb dL_law_577 (by decide) (fun c_ => absurd c_ c1) (fun _ => ?_)
    refine lv_iconst (v := (nI 1)) hx hb dL_law_580 rfl ?_
    refine lv_goto (tgt := 585) hx hb dL_law_581 (by decide) ?_
    refine zVi (As := [.int (xs (i + (nI 1)).toNatClampNeg), .int (nI 1)]) (rest := []) (C := RX11) (wr := zrst [0, 1, 2, 3, 4, 5, 6, 7, 8, 9, 10, 11, 12, 13, 14, 15, 16, 17, 18, 19, 20, 21, 22, 23, 24, 25, 26, 27, 28, 29, 30, 31, 32, 33, 34, 35, 36, 37, 38, 39, 40, 41, 42, 43, 44, 45, 46, 47, 48, 49, 50, 51, 52, 54, 56, 57, 58, 59] (zWd cB cI cZ A (zups [] I) (zups [(29, x_race_runners_waved_n)] F))) [53, 55] [0, 1, 2, 3, 4, 5, 6, 7, 8, 9, 10, 11, 12, 13, 14, 15, 16, 17, 18, 19, 20, 21, 22, 23, 24, 25, 26, 27, 28, 29, 30, 31, 32, 33, 34, 35, 36, 37, 38, 39, 40, 41, 42, 43, 44, 45, 46, 47, 48, 49, 50, 51, 52, 54, 56, 57, 58, 59] 0 ⟨hx, hb, hml, hown, hts_⟩ (mX11_wave l D cB cI cZ (A 53) (A 55) (A 54) (A 58) (A 57) (A 56) (A 59) (I 18) (I 19) (I 20) (I 21) (I 22) (I 23) (I 24) (I 25) (I 26) (I 27) (F 38) H.size (xs (i + (nI 1)).toNatClampNeg) (nI 1) r_m m_thrown_n m_now_n e2_) (cwV 2 hts_ gL_law_X11_wave rfl rfl rfl (by decide +kernel) ⟨Nat.le_of_ble_eq_true rfl, Nat.le_of_ble_eq_true rfl⟩) hK hN hZ hP hD hS hA rfl rfl (zrst_map zWd_len rfl) rfl rfl rfl rfl rfl hl.1 rfl (lv_room (Nat.le_of_ble_eq_true rfl)) dL_law_585 (zfit (by omega) (by omega)) (fun H locs hP1 hD1 hS => ?_)
    replace hD := zWd_D (zups [(18, m_thrown_n)] (zups [] I)) (zups [(38, m_now_n)] (zups [(29, x_race_runners_waved_n)] F)) hD
    have hP := zback (W := zWd cB cI cZ A (zups [] I) (zups [(29, x_race_runners_waved_n)] F)) (W' := zWd cB cI cZ A (zups [(18, m_thrown_n)] (zups [] I)) (zups [(38, m_now_n)] (zups [(29, x_race_runners_waved_n)] F))) [53, 55] [0, 1, 2, 3, 4, 5, 6, 7, 8, 9, 10, 11, 12, 13, 14, 15, 16, 17, 18, 19, 20, 21, 22, 23, 24, 25, 26, 27, 28, 29, 30, 31, 32, 33, 34, 35, 36, 37, 38, 39, 40, 41, 42, 43, 44, 45, 46, 47, 48, 49, 50, 51, 52, 54, 56, 57, 58, 59] zWd_len zWd_len (by decide +kernel) (zWd_same (I := (zups [] I)) (F := (zups [(29, x_race_runners_waved_n)] F)) [(18, m_thrown_n)] [(38, m_now_n)] [18] [38] _ rfl rfl (by decide +kernel)) rfl hP1
    clear hP1 hD1
    refine lv_pop hx hb dL_law_588 rfl ?_
    refine lv_goto (tgt := 1109) hx hb dL_law_589 (by decide) ?_
    refine W.widen (k := cells + 2) (n := slots + 20) (by omega) (by omega) ?_
    exact kk (zups [(18, m_thrown_n)] (zups [] I)) (zups [(38, m_now_n)] (zups [(29, x_race_runners_waved_n)] F)) H locs _ hI_ hP hD hS (lv_sub hl [0, 1, 2, 3] rfl)
