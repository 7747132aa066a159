set_option maxHeartbeats 4000000 in
set_option maxRecDepth 100000 in
theorem zlaw_30 {p : Program} {l : Launch} {e : Env} {s : State} {m : MethodId} {below : List Frame} {meth : Method} {c : Code} {b L : Nat} {xs : Nat → Int32} {D : va_G} {cB cI cZ : ClassId} (hfl : l.flags = flags0) (C0 : lw_At p s m meth c b L xs) (hK : va_K D vwCl (zT cB cI cZ) s) (hN : zNest s) (hZ : zStat (fun q : Nat => s.heap.size ≤ q) s s.heap) (A : Nat → Nat) (I : Nat → Int32) (F : Nat → Nat → Int32) (j : Nat) (i : Int32) (hi : i = nI j) (hj : j + 7 ≤ L) (hL : L ≤ 3584) (hI : zIF I F) (cells slots : Nat) (hc : cells + 10 ≤ 601024) (hs : slots + 100 ≤ 7293034) (H : Heap) (locs : List Loc) (hP : va_P D vwCl (zWd cB cI cZ A I F) H) (hD : va_D (fun q : Nat => s.heap.size ≤ q) (zWd cB cI cZ A I F)) (hS : va_S (fun q : Nat => s.heap.size ≤ q) s.heap H locs) (ls : Array Slot) (hl : lv_has ls 5 [(3, .int i), (2, .ref (A 53)), (1, .ref (A 0)), (0, .ref b)]) (kk : ∀ (I : Nat → Int32) (F : Nat → Nat → Int32) (H : Heap) (locs : List Loc) (ls : Array Slot), zIF I F → va_P D vwCl (zWd cB cI cZ A I F) H → va_D (fun q : Nat => s.heap.size ≤ q) (zWd cB cI cZ A I F) → va_S (fun q : Nat => s.heap.size ≤ q) s.heap H locs → lv_has ls 5 [(3, .int i), (2, .ref (A 53)), (1, .ref (A 0)), (0, .ref b)] → W p l e room_1 s m #[Value.ref b] below meth c H locs (cells + 2) (slots + 20) (lw_Z below #[Value.ref b] s) (F0 m 1109 ls [])) : W p l e room_1 s m #[Value.ref b] below meth c H locs cells slots (lw_Z below #[Value.ref b] s) (F0 m 1096 ls []) := by
  obtain ⟨hx, hb, hr, hml, hown, hts, hX, hbl, hlocks, hgv⟩ := C0
  have hA : ∀ q : Nat, s.heap.size ≤ q → (fun q : Nat => s.heap.size ≤ q) q := fun _ h => h
  have hts_ : ∀ w ∈ wsL_law, w.before #[Value.ref b] s = true := fun w h => hts w (wsL_law_in w h)
  have hT : zThrow (fun q : Nat => s.heap.size ≤ q) s s.heap := zThrow_of hts hgv
  have hfl2 : l.stackTraces = false := zno_traces hfl
  refine lv_aload_n hx hb dL_law_1096 rfl (lv_at hl 2 rfl) ?_
  obtain ⟨r_x, x_race_guns_ticks_n, x_race_runners_entered_n, x_race_runners_strikings_n, x_race_runners_dropped_n, x_race_runners_facts_n, x_race_runners_splits_n, x_race_runners_strikingOrder_n, x_race_runners_struck_n, x_race_runners_torn_n, x_race_runners_waved_n, x_race_way_mats_n, x_race_way_bearings_n, x_race_way_cuts_n, x_race_way_deaths_n, x_race_way_places_n, m_thrown_n, m_now_n, e1_, e2_, hI_⟩ := zs_30 (I 0) (F 2) (F 6) (I 2) (I 3) (F 7) (F 8) (F 9) (F 10) (F 11) (F 12) (F 13) (I 4) (F 14) (F 15) (F 16) (F 17) (F 22) (I 11) (I 12) (F 23) (F 24) (F 25) (F 26) (F 27) (F 28) (F 29) (I 13) (F 30) (F 31) (F 32) (F 33) (I 14) (F 34) (I 18) (I 19) (I 20) (F 37) (F 38) (F 40) (F 41) hI
  have hCw : ([0, 10, 11, 12, 13, 14, 15, 16, 17, 18, 19, 20, 21, 22, 23, 24, 25, 32, 33, 34, 35, 36, 37, 38, 39, 40, 41, 42, 43, 44, 45, 46, 47].map (fun i => (zWd cB cI cZ A I F)[i]?)) = ([((A 0), .inr (10, [.ref (A 32), .ref (A 10), .ref (A 50), .ref (A 1), .ref (A 3), .ref (A 48), .ref (A 26), .int (I 0)])), ((A 10), .inr (4, [.ref (A 21), .ref (A 11), .ref (A 13)])), ((A 11), .inr (2, [.ref (A 12)])), ((A 12), .inl (cI, 6, .inl (F 6))), ((A 13), .inr (6, [.ref (A 15), .ref (A 16), .ref (A 19), .ref (A 14), .ref (A 20), .ref (A 18), .ref (A 17), .int (I 2), .int (I 3)])), ((A 14), .inl (cZ, 60, .inl (F 7))), ((A 15), .inl (cI, 360, .inl (F 8))), ((A 16), .inl (cI, 720, .inl (F 9))), ((A 17), .inl (cI, 60, .inl (F 10))), ((A 18), .inl (cZ, 60, .inl (F 11))), ((A 19), .inl (cI, 60, .inl (F 12))), ((A 20), .inl (cZ, 60, .inl (F 13))), ((A 21), .inr (9, [.ref (A 25), .ref (A 22), .ref (A 23), .ref (A 24), .int (I 4)])), ((A 22), .inl (cI, 12, .inl (F 14))), ((A 23), .inl (cI, 12, .inl (F 15))), ((A 24), .inl (cZ, 12, .inl (F 16))), ((A 25), .inl (cI, 12, .inl (F 17))), ((A 32), .inr (4, [.ref (A 43), .ref (A 33), .ref (A 35)])), ((A 33), .inr (2, [.ref (A 34)])), ((A 34), .inl (cI, 6, .inl (F 22))), ((A 35), .inr (6, [.ref (A 37), .ref (A 38), .ref (A 41), .ref (A 36), .ref (A 42), .ref (A 40), .ref (A 39), .int (I 11), .int (I 12)])), ((A 36), .inl (cZ, 60, .inl (F 23))), ((A 37), .inl (cI, 360, .inl (F 24))), ((A 38), .inl (cI, 720, .inl (F 25))), ((A 39), .inl (cI, 60, .inl (F 26))), ((A 40), .inl (cZ, 60, .inl (F 27))), ((A 41), .inl (cI, 60, .inl (F 28))), ((A 42), .inl (cZ, 60, .inl (F 29))), ((A 43), .inr (9, [.ref (A 47), .ref (A 44), .ref (A 45), .ref (A 46), .int (I 13)])), ((A 44), .inl (cI, 12, .inl (F 30))), ((A 45), .inl (cI, 12, .inl (F 31))), ((A 46), .inl (cZ, 12, .inl (F 32))), ((A 47), .inl (cI, 12, .inl (F 33)))] : va_W).map some := rfl
  have hF := zfree (A0 := (fun q : Nat => s.heap.size ≤ q)) (wc := [((A 0), .inr (10, [.ref (A 32), .ref (A 10), .ref (A 50), .ref (A 1), .ref (A 3), .ref (A 48), .ref (A 26), .int (I 0)])), ((A 10), .inr (4, [.ref (A 21), .ref (A 11), .ref (A 13)])), ((A 11), .inr (2, [.ref (A 12)])), ((A 12), .inl (cI, 6, .inl (F 6))), ((A 13), .inr (6, [.ref (A 15), .ref (A 16), .ref (A 19), .ref (A 14), .ref (A 20), .ref (A 18), .ref (A 17), .int (I 2), .int (I 3)])), ((A 14), .inl (cZ, 60, .inl (F 7))), ((A 15), .inl (cI, 360, .inl (F 8))), ((A 16), .inl (cI, 720, .inl (F 9))), ((A 17), .inl (cI, 60, .inl (F 10))), ((A 18), .inl (cZ, 60, .inl (F 11))), ((A 19), .inl (cI, 60, .inl (F 12))), ((A 20), .inl (cZ, 60, .inl (F 13))), ((A 21), .inr (9, [.ref (A 25), .ref (A 22), .ref (A 23), .ref (A 24), .int (I 4)])), ((A 22), .inl (cI, 12, .inl (F 14))), ((A 23), .inl (cI, 12, .inl (F 15))), ((A 24), .inl (cZ, 12, .inl (F 16))), ((A 25), .inl (cI, 12, .inl (F 17))), ((A 32), .inr (4, [.ref (A 43), .ref (A 33), .ref (A 35)])), ((A 33), .inr (2, [.ref (A 34)])), ((A 34), .inl (cI, 6, .inl (F 22))), ((A 35), .inr (6, [.ref (A 37), .ref (A 38), .ref (A 41), .ref (A 36), .ref (A 42), .ref (A 40), .ref (A 39), .int (I 11), .int (I 12)])), ((A 36), .inl (cZ, 60, .inl (F 23))), ((A 37), .inl (cI, 360, .inl (F 24))), ((A 38), .inl (cI, 720, .inl (F 25))), ((A 39), .inl (cI, 60, .inl (F 26))), ((A 40), .inl (cZ, 60, .inl (F 27))), ((A 41), .inl (cI, 60, .inl (F 28))), ((A 42), .inl (cZ, 60, .inl (F 29))), ((A 43), .inr (9, [.ref (A 47), .ref (A 44), .ref (A 45), .ref (A 46), .int (I 13)])), ((A 44), .inl (cI, 12, .inl (F 30))), ((A 45), .inl (cI, 12, .inl (F 31))), ((A 46), .inl (cZ, 12, .inl (F 32))), ((A 47), .inl (cI, 12, .inl (F 33)))]) [0, 10, 11, 12, 13, 14, 15, 16, 17, 18, 19, 20, 21, 22, 23, 24, 25, 32, 33, 34, 35, 36, 37, 38, 39, 40, 41, 42, 43, 44, 45, 46, 47] hD hS hA hCw
  have hp : PreS s H (va_Pc [.ref (A 0)] (zPreT D (zT cB cI cZ) [((A 0), .inr (10, [.ref (A 32), .ref (A 10), .ref (A 50), .ref (A 1), .ref (A 3), .ref (A 48), .ref (A 26), .int (I 0)])), ((A 10), .inr (4, [.ref (A 21), .ref (A 11), .ref (A 13)])), ((A 11), .inr (2, [.ref (A 12)])), ((A 12), .inl (cI, 6, .inl (F 6))), ((A 13), .inr (6, [.ref (A 15), .ref (A 16), .ref (A 19), .ref (A 14), .ref (A 20), .ref (A 18), .ref (A 17), .int (I 2), .int (I 3)])), ((A 14), .inl (cZ, 60, .inl (F 7))), ((A 15), .inl (cI, 360, .inl (F 8))), ((A 16), .inl (cI, 720, .inl (F 9))), ((A 17), .inl (cI, 60, .inl (F 10))), ((A 18), .inl (cZ, 60, .inl (F 11))), ((A 19), .inl (cI, 60, .inl (F 12))), ((A 20), .inl (cZ, 60, .inl (F 13))), ((A 21), .inr (9, [.ref (A 25), .ref (A 22), .ref (A 23), .ref (A 24), .int (I 4)])), ((A 22), .inl (cI, 12, .inl (F 14))), ((A 23), .inl (cI, 12, .inl (F 15))), ((A 24), .inl (cZ, 12, .inl (F 16))), ((A 25), .inl (cI, 12, .inl (F 17))), ((A 32), .inr (4, [.ref (A 43), .ref (A 33), .ref (A 35)])), ((A 33), .inr (2, [.ref (A 34)])), ((A 34), .inl (cI, 6, .inl (F 22))), ((A 35), .inr (6, [.ref (A 37), .ref (A 38), .ref (A 41), .ref (A 36), .ref (A 42), .ref (A 40), .ref (A 39), .int (I 11), .int (I 12)])), ((A 36), .inl (cZ, 60, .inl (F 23))), ((A 37), .inl (cI, 360, .inl (F 24))), ((A 38), .inl (cI, 720, .inl (F 25))), ((A 39), .inl (cI, 60, .inl (F 26))), ((A 40), .inl (cZ, 60, .inl (F 27))), ((A 41), .inl (cI, 60, .inl (F 28))), ((A 42), .inl (cZ, 60, .inl (F 29))), ((A 43), .inr (9, [.ref (A 47), .ref (A 44), .ref (A 45), .ref (A 46), .int (I 13)])), ((A 44), .inl (cI, 12, .inl (F 30))), ((A 45), .inl (cI, 12, .inl (F 31))), ((A 46), .inl (cZ, 12, .inl (F 32))), ((A 47), .inl (cI, 12, .inl (F 33)))] H.size)) [.ref (A 0)] := by
    have h1 := zpre_s (av := [.ref (A 0)]) [0, 10, 11, 12, 13, 14, 15, 16, 17, 18, 19, 20, 21, 22, 23, 24, 25, 32, 33, 34, 35, 36, 37, 38, 39, 40, 41, 42, 43, 44, 45, 46, 47] hP hD hK hN hZ hS hF hCw rfl
    exact ⟨zPreT.blind, fun U hU hW => ⟨(h1.2 U hU hW).1, (h1.2 U hU hW).2, zThrow.to hT hW (by rw [hU]; exact hS.2.1) hF⟩⟩
  refine vx_calli (vx_runSX (As := [.ref (A 0)]) (rest := []) ⟨hx, hb, hml, hown, hts⟩ (mL_back l hfl2 D cB cI cZ (A 0) (A 32) (A 10) (A 50) (A 1) (A 3) (A 48) (A 26) (A 21) (A 11) (A 13) (A 12) (A 15) (A 16) (A 19) (A 14) (A 20) (A 18) (A 17) (A 25) (A 22) (A 23) (A 24) (A 43) (A 33) (A 35) (A 34) (A 37) (A 38) (A 41) (A 36) (A 42) (A 40) (A 39) (A 47) (A 44) (A 45) (A 46) (I 0) (F 6) (I 2) (I 3) (F 7) (F 8) (F 9) (F 10) (F 11) (F 12) (F 13) (I 4) (F 14) (F 15) (F 16) (F 17) (F 22) (I 11) (I 12) (F 23) (F 24) (F 25) (F 26) (F 27) (F 28) (F 29) (I 13) (F 30) (F 31) (F 32) (F 33) H.size zN r_x x_race_guns_ticks_n x_race_runners_entered_n x_race_runners_strikings_n x_race_runners_dropped_n x_race_runners_facts_n x_race_runners_splits_n x_race_runners_strikingOrder_n x_race_runners_struck_n x_race_runners_torn_n x_race_runners_waved_n x_race_way_mats_n x_race_way_bearings_n x_race_way_cuts_n x_race_way_deaths_n x_race_way_places_n e1_) (vx_cwSW 1 hts gL_lawZ_back rfl rfl rfl (by decide +kernel) ⟨Nat.le_of_ble_eq_true rfl, Nat.le_of_ble_eq_true rfl⟩) hp rfl rfl hl.1 rfl (lv_room (Nat.le_of_ble_eq_true rfl)) dL_law_1097 (zfit (by omega) (by omega))) hS (fun q _ h => hF q h) hF (fun q _ h => hF q h) (fun E ce q9 u t H1 locs1 ht hvm hpx hBX hz hk1 hS h9 hv9 hcl9 => hpx.elim) (fun r u t H1 locs1 ht hvm hpx hBX hz hk1 hS => ?_)
  obtain ⟨hP1, hK1, hD1⟩ := hBX
  subst hpx
  rw [ht] at hP1
  obtain ⟨hP2, hD2⟩ := va_join (wr := zrst [1, 2, 3, 4, 5, 6, 7, 8, 9, 26, 27, 28, 29, 30, 31, 48, 49, 50, 51, 52, 53, 54, 55, 56, 57, 58, 59] (zWd cB cI cZ A I F)) hP hD [0, 10, 11, 12, 13, 14, 15, 16, 17, 18, 19, 20, 21, 22, 23, 24, 25, 32, 33, 34, 35, 36, 37, 38, 39, 40, 41, 42, 43, 44, 45, 46, 47] [1, 2, 3, 4, 5, 6, 7, 8, 9, 26, 27, 28, 29, 30, 31, 48, 49, 50, 51, 52, 53, 54, 55, 56, 57, 58, 59] hCw (zrst_map zWd_len rfl) rfl (zdis_ok rfl) hk1 hF hP1 hD1
  replace hD := zWd_D (zups [(11, x_race_runners_entered_n), (12, x_race_runners_strikings_n), (13, x_race_way_mats_n)] I) (zups [(22, x_race_guns_ticks_n), (23, x_race_runners_dropped_n), (24, x_race_runners_facts_n), (25, x_race_runners_splits_n), (26, x_race_runners_strikingOrder_n), (27, x_race_runners_struck_n), (28, x_race_runners_torn_n), (29, x_race_runners_waved_n), (30, x_race_way_bearings_n), (31, x_race_way_cuts_n), (32, x_race_way_deaths_n), (33, x_race_way_places_n)] F) hD
  have hP := zback (W := zWd cB cI cZ A I F) (W' := zWd cB cI cZ A (zups [(11, x_race_runners_entered_n), (12, x_race_runners_strikings_n), (13, x_race_way_mats_n)] I) (zups [(22, x_race_guns_ticks_n), (23, x_race_runners_dropped_n), (24, x_race_runners_facts_n), (25, x_race_runners_splits_n), (26, x_race_runners_strikingOrder_n), (27, x_race_runners_struck_n), (28, x_race_runners_torn_n), (29, x_race_runners_waved_n), (30, x_race_way_bearings_n), (31, x_race_way_cuts_n), (32, x_race_way_deaths_n), (33, x_race_way_places_n)] F)) [0, 10, 11, 12, 13, 14, 15, 16, 17, 18, 19, 20, 21, 22, 23, 24, 25, 32, 33, 34, 35, 36, 37, 38, 39, 40, 41, 42, 43, 44, 45, 46, 47] [1, 2, 3, 4, 5, 6, 7, 8, 9, 26, 27, 28, 29, 30, 31, 48, 49, 50, 51, 52, 53, 54, 55, 56, 57, 58, 59] zWd_len zWd_len (by decide +kernel) (zWd_same (I := I) (F := F) [(11, x_race_runners_entered_n), (12, x_race_runners_strikings_n), (13, x_race_way_mats_n)] [(22, x_race_guns_ticks_n), (23, x_race_runners_dropped_n), (24, x_race_runners_facts_n), (25, x_race_runners_splits_n), (26, x_race_runners_strikingOrder_n), (27, x_race_runners_struck_n), (28, x_race_runners_torn_n), (29, x_race_runners_waved_n), (30, x_race_way_bearings_n), (31, x_race_way_cuts_n), (32, x_race_way_deaths_n), (33, x_race_way_places_n)] [11, 12, 13] [22, 23, 24, 25, 26, 27, 28, 29, 30, 31, 32, 33] _ rfl rfl (by decide +kernel)) rfl hP2
  refine lv_istore (lv' := [(4, .int r), (3, .int i), (2, .ref (A 53)), (1, .ref (A 0)), (0, .ref b)]) hx hb dL_law_1100 hl (by decide) rfl (fun ls hl => ?_)
  refine lv_aload_n hx hb dL_law_1102 rfl (lv_at hl 2 rfl) ?_
  refine zVv (As := []) (rest := []) (C := RX11) (wr := zrst [0, 1, 2, 3, 4, 5, 6, 7, 8, 9, 10, 11, 12, 13, 14, 15, 16, 17, 18, 19, 20, 21, 22, 23, 24, 25, 26, 27, 28, 29, 30, 31, 32, 33, 34, 35, 36, 37, 38, 39, 40, 41, 42, 43, 44, 45, 46, 47, 48, 49, 50, 51, 52, 56, 57, 58, 59] (zWd cB cI cZ A (zups [(11, x_race_runners_entered_n), (12, x_race_runners_strikings_n), (13, x_race_way_mats_n)] I) (zups [(22, x_race_guns_ticks_n), (23, x_race_runners_dropped_n), (24, x_race_runners_facts_n), (25, x_race_runners_splits_n), (26, x_race_runners_strikingOrder_n), (27, x_race_runners_struck_n), (28, x_race_runners_torn_n), (29, x_race_runners_waved_n), (30, x_race_way_bearings_n), (31, x_race_way_cuts_n), (32, x_race_way_deaths_n), (33, x_race_way_places_n)] F))) [53, 54, 55] [0, 1, 2, 3, 4, 5, 6, 7, 8, 9, 10, 11, 12, 13, 14, 15, 16, 17, 18, 19, 20, 21, 22, 23, 24, 25, 26, 27, 28, 29, 30, 31, 32, 33, 34, 35, 36, 37, 38, 39, 40, 41, 42, 43, 44, 45, 46, 47, 48, 49, 50, 51, 52, 56, 57, 58, 59] 0 ⟨hx, hb, hml, hown, hts_⟩ (mX11_back l D cB cI cZ (A 53) (A 55) (A 54) (A 58) (A 57) (A 56) (A 59) (I 18) (I 19) (I 20) (I 21) (I 22) (I 23) (I 24) (I 25) (I 26) (I 27) (F 37) (F 38) H1.size zN m_thrown_n m_now_n e2_) (cwV 0 hts_ gL_law_X11_back rfl rfl rfl (by decide +kernel) ⟨Nat.le_of_ble_eq_true rfl, Nat.le_of_ble_eq_true rfl⟩) hK hN hZ hP hD hS hA rfl rfl (zrst_map zWd_len rfl) rfl rfl rfl rfl rfl hl.1 rfl (lv_room (Nat.le_of_ble_eq_true rfl)) dL_law_1103 (zfit (by omega) (by omega)) (fun H locs hP3 hD3 hS => ?_)
  replace hD := zWd_D (zups [(18, m_thrown_n)] (zups [(11, x_race_runners_entered_n), (12, x_race_runners_strikings_n), (13, x_race_way_mats_n)] I)) (zups [(38, m_now_n)] (zups [(22, x_race_guns_ticks_n), (23, x_race_runners_dropped_n), (24, x_race_runners_facts_n), (25, x_race_runners_splits_n), (26, x_race_runners_strikingOrder_n), (27, x_race_runners_struck_n), (28, x_race_runners_torn_n), (29, x_race_runners_waved_n), (30, x_race_way_bearings_n), (31, x_race_way_cuts_n), (32, x_race_way_deaths_n), (33, x_race_way_places_n)] F)) hD
  have hP := zback (W := zWd cB cI cZ A (zups [(11, x_race_runners_entered_n), (12, x_race_runners_strikings_n), (13, x_race_way_mats_n)] I) (zups [(22, x_race_guns_ticks_n), (23, x_race_runners_dropped_n), (24, x_race_runners_facts_n), (25, x_race_runners_splits_n), (26, x_race_runners_strikingOrder_n), (27, x_race_runners_struck_n), (28, x_race_runners_torn_n), (29, x_race_runners_waved_n), (30, x_race_way_bearings_n), (31, x_race_way_cuts_n), (32, x_race_way_deaths_n), (33, x_race_way_places_n)] F)) (W' := zWd cB cI cZ A (zups [(18, m_thrown_n)] (zups [(11, x_race_runners_entered_n), (12, x_race_runners_strikings_n), (13, x_race_way_mats_n)] I)) (zups [(38, m_now_n)] (zups [(22, x_race_guns_ticks_n), (23, x_race_runners_dropped_n), (24, x_race_runners_facts_n), (25, x_race_runners_splits_n), (26, x_race_runners_strikingOrder_n), (27, x_race_runners_struck_n), (28, x_race_runners_torn_n), (29, x_race_runners_waved_n), (30, x_race_way_bearings_n), (31, x_race_way_cuts_n), (32, x_race_way_deaths_n), (33, x_race_way_places_n)] F))) [53, 54, 55] [0, 1, 2, 3, 4, 5, 6, 7, 8, 9, 10, 11, 12, 13, 14, 15, 16, 17, 18, 19, 20, 21, 22, 23, 24, 25, 26, 27, 28, 29, 30, 31, 32, 33, 34, 35, 36, 37, 38, 39, 40, 41, 42, 43, 44, 45, 46, 47, 48, 49, 50, 51, 52, 56, 57, 58, 59] zWd_len zWd_len (by decide +kernel) (zWd_same (I := (zups [(11, x_race_runners_entered_n), (12, x_race_runners_strikings_n), (13, x_race_way_mats_n)] I)) (F := (zups [(22, x_race_guns_ticks_n), (23, x_race_runners_dropped_n), (24, x_race_runners_facts_n), (25, x_race_runners_splits_n), (26, x_race_runners_strikingOrder_n), (27, x_race_runners_struck_n), (28, x_race_runners_torn_n), (29, x_race_runners_waved_n), (30, x_race_way_bearings_n), (31, x_race_way_cuts_n), (32, x_race_way_deaths_n), (33, x_race_way_places_n)] F)) [(18, m_thrown_n)] [(38, m_now_n)] [18] [38] _ rfl rfl (by decide +kernel)) rfl hP3
  refine lv_goto (tgt := 1109) hx hb dL_law_1106 (by decide) ?_
  refine W.widen (k := cells + 2) (n := slots + 20) (by omega) (by omega) ?_
  exact kk (zups [(18, m_thrown_n)] (zups [(11, x_race_runners_entered_n), (12, x_race_runners_strikings_n), (13, x_race_way_mats_n)] I)) (zups [(38, m_now_n)] (zups [(22, x_race_guns_ticks_n), (23, x_race_runners_dropped_n), (24, x_race_runners_facts_n), (25, x_race_runners_splits_n), (26, x_race_runners_strikingOrder_n), (27, x_race_runners_struck_n), (28, x_race_runners_torn_n), (29, x_race_runners_waved_n), (30, x_race_way_bearings_n), (31, x_race_way_cuts_n), (32, x_race_way_deaths_n), (33, x_race_way_places_n)] F)) H locs _ hI_ hP hD hS (lv_sub hl [1, 2, 3, 4] rfl)
set_option maxHeartbeats 4000000 in
set_option maxRecDepth 100000 in
theorem zlaw_loop {p : Program} {l : Launch} {e : Env} {s : State} {m : MethodId} {below : List Frame} {meth : Method} {c : Code} {b L : Nat} {xs : Nat → Int32} {D : va_G} {cB cI cZ : ClassId} (hfl : l.flags = flags0) (C0 : lw_At p s m meth c b L xs) (hK : va_K D vwCl (zT cB cI cZ) s) (hN : zNest s) (hZ : zStat (fun q : Nat => s.heap.size ≤ q) s s.heap) (A : Nat → Nat) (hL : L ≤ 3584) : ∀ (n j : Nat) (i : Int32) (I : Nat → Int32) (F : Nat → Nat → Int32) (H : Heap) (ls : Array Slot), i = nI (7 * j) → 7 * j ≤ L + 6 → L + 7 < 7 * j + 7 * n → zIF I F → va_P D vwCl (zWd cB cI cZ A I F) H → va_D (fun q : Nat => s.heap.size ≤ q) (zWd cB cI cZ A I F) → va_S (fun q : Nat => s.heap.size ≤ q) s.heap H [] → lv_has ls 5 [(3, .int i), (2, .ref (A 53)), (1, .ref (A 0)), (0, .ref b)] → W p l e room_1 s m #[Value.ref b] below meth c H [] (60 + 2 * j) (19289 + 20 * j) (lw_Z below #[Value.ref b] s) (F0 m 18 ls []) := by
  intro n
  induction n with
  | zero => intro j i I F H ls hi h1 h2; exact absurd h2 (by omega)
  | succ n ih =>
    intro j i I F H ls hi h1 h2 hI hP hD hS hl
    have C1 := C0
    obtain ⟨hx, hb, hr, hml, hown, hts, hX, hbl, hlocks, hgv⟩ := C1
    have hA : ∀ q : Nat, s.heap.size ≤ q → (fun q : Nat => s.heap.size ≤ q) q := fun _ h => h
    have hbA : ¬ (fun q : Nat => s.heap.size ≤ q) b := Nat.not_le.mpr hbl
    refine lv_iload_n hx hb dL_law_18 rfl (lv_at hl 0 rfl) ?_
    refine lv_aload_n hx hb dL_law_19 rfl (lv_at hl 3 rfl) ?_
    refine va_slen hx hb hX hbl hbA hS dL_law_20 ?_
    refine lv_bipush (v := (7 : Int32)) hx hb dL_law_21 rfl ?_
    refine lv_isub hx hb dL_law_23 ?_
    refine lv_icmp_gt (tgt := 1115) hx hb dL_law_24 (by decide) (fun c_ => ?_) (fun c_ => ?_)
    · refine lv_iconst (v := (1 : Int32)) hx hb dL_law_1115 rfl ?_
      refine va_forget (fun q hq => hS.2.2 q hq) ?_
      refine W.widen (k := 601024) (n := 7293034) (by omega) (by omega) ?_
      exact lw_ret hx hb hr hlocks dL_law_1116
    · have hj : 7 * j + 7 ≤ L := zle_head (by omega) (by omega) (by rw [← hi]; exact c_)
      have h0_ : vp_in i L := by rw [hi]; exact vp_in_nI (by omega) (by omega)
      have KK : ∀ (I : Nat → Int32) (F : Nat → Nat → Int32) (H : Heap) (locs : List Loc) (ls : Array Slot), zIF I F → va_P D vwCl (zWd cB cI cZ A I F) H → va_D (fun q : Nat => s.heap.size ≤ q) (zWd cB cI cZ A I F) → va_S (fun q : Nat => s.heap.size ≤ q) s.heap H locs → lv_has ls 5 [(3, .int i), (2, .ref (A 53)), (1, .ref (A 0)), (0, .ref b)] → W p l e room_1 s m #[Value.ref b] below meth c H locs (60 + 2 * j + 2) (19289 + 20 * j + 20) (lw_Z below #[Value.ref b] s) (F0 m 1109 ls []) := by
        intro I F H locs ls hI hP hD hS hl
        refine lv_iinc (v := i + 7) (lv' := [(3, .int (i + 7)), (2, .ref (A 53)), (1, .ref (A 0)), (0, .ref b)]) hx hb dL_law_1109 hl (k := 0) rfl rfl (by decide) rfl (fun ls hl => ?_)
        refine lv_goto (tgt := 18) hx hb dL_law_1112 (by decide) ?_
        refine va_forget (fun q hq => hS.2.2 q hq) ?_
        have hk := ih (j + 1) (i + 7) I F H ls (by rw [hi]; show nI (7 * j) + nI 7 = _; rw [nI_add]; exact congrArg nI (by omega)) (by omega) (by omega) hI hP hD ⟨hS.1, hS.2.1, fun _ h => by cases h⟩ hl
        exact W.widen (by omega) (by omega) hk
      refine lv_aload_n hx hb dL_law_27 rfl (lv_at hl 3 rfl) ?_
      refine lv_iload_n hx hb dL_law_28 rfl (lv_at hl 0 rfl) ?_
      refine va_sld hx hb hX hbl hbA hS h0_ dL_law_29 ?_
      refine lv_bipush (v := (31 : Int32)) hx hb dL_law_30 rfl ?_
      refine lv_iand hx hb dL_law_32 ?_
      generalize xs i.toNatClampNeg &&& 31 = sw
      by_cases c0 : sw = (nI 0)
      · refine lv_tableIn (off := 139) (tgt := 172) hx hb dL_law_33 (by rw [c0]; decide) (by rw [c0]; decide) (by rw [c0]; rfl) (by decide) ?_
        exact zlaw_0 C0 hK hN hZ A I F (7 * j) i hi hj (by omega) hI _ _ (by omega) (by omega) H [] hP hD hS ls hl KK
      by_cases c1 : sw = (nI 1)
      · refine lv_tableIn (off := 162) (tgt := 195) hx hb dL_law_33 (by rw [c1]; decide) (by rw [c1]; decide) (by rw [c1]; rfl) (by decide) ?_
        exact zlaw_1 C0 hK hN hZ A I F (7 * j) i hi hj (by omega) hI _ _ (by omega) (by omega) H [] hP hD hS ls hl KK
      by_cases c2 : sw = (nI 2)
      · refine lv_tableIn (off := 195) (tgt := 228) hx hb dL_law_33 (by rw [c2]; decide) (by rw [c2]; decide) (by rw [c2]; rfl) (by decide) ?_
        exact zlaw_2 C0 hK hN hZ A I F (7 * j) i hi hj (by omega) hI _ _ (by omega) (by omega) H [] hP hD hS ls hl KK
      by_cases c3 : sw = (nI 3)
      · refine lv_tableIn (off := 270) (tgt := 303) hx hb dL_law_33 (by rw [c3]; decide) (by rw [c3]; decide) (by rw [c3]; rfl) (by decide) ?_
        exact zlaw_3 C0 hK hN hZ A I F (7 * j) i hi hj (by omega) hI _ _ (by omega) (by omega) H [] hP hD hS ls hl KK
      by_cases c4 : sw = (nI 4)
      · refine lv_tableIn (off := 303) (tgt := 336) hx hb dL_law_33 (by rw [c4]; decide) (by rw [c4]; decide) (by rw [c4]; rfl) (by decide) ?_
        exact zlaw_4 C0 hK hN hZ A I F (7 * j) i hi hj (by omega) hI _ _ (by omega) (by omega) H [] hP hD hS ls hl KK
      by_cases c5 : sw = (nI 5)
      · refine lv_tableIn (off := 346) (tgt := 379) hx hb dL_law_33 (by rw [c5]; decide) (by rw [c5]; decide) (by rw [c5]; rfl) (by decide) ?_
        exact zlaw_5 C0 hK hN hZ A I F (7 * j) i hi hj (by omega) hI _ _ (by omega) (by omega) H [] hP hD hS ls hl KK
      by_cases c6 : sw = (nI 6)
      · refine lv_tableIn (off := 395) (tgt := 428) hx hb dL_law_33 (by rw [c6]; decide) (by rw [c6]; decide) (by rw [c6]; rfl) (by decide) ?_
        exact zlaw_6 C0 hK hN hZ A I F (7 * j) i hi hj (by omega) hI _ _ (by omega) (by omega) H [] hP hD hS ls hl KK
      by_cases c7 : sw = (nI 7)
      · refine lv_tableIn (off := 428) (tgt := 461) hx hb dL_law_33 (by rw [c7]; decide) (by rw [c7]; decide) (by rw [c7]; rfl) (by decide) ?_
        exact zlaw_7 C0 hK hN hZ A I F (7 * j) i hi hj (by omega) hI _ _ (by omega) (by omega) H [] hP hD hS ls hl KK
      by_cases c8 : sw = (nI 8)
      · refine lv_tableIn (off := 477) (tgt := 510) hx hb dL_law_33 (by rw [c8]; decide) (by rw [c8]; decide) (by rw [c8]; rfl) (by decide) ?_
        exact zlaw_8 C0 hK hN hZ A I F (7 * j) i hi hj (by omega) hI _ _ (by omega) (by omega) H [] hP hD hS ls hl KK
      by_cases c9 : sw = (nI 9)
      · refine lv_tableIn (off := 510) (tgt := 543) hx hb dL_law_33 (by rw [c9]; decide) (by rw [c9]; decide) (by rw [c9]; rfl) (by decide) ?_
        exact zlaw_9 C0 hK hN hZ A I F (7 * j) i hi hj (by omega) hI _ _ (by omega) (by omega) H [] hP hD hS ls hl KK
      by_cases c10 : sw = (nI 10)
      · refine lv_tableIn (off := 559) (tgt := 592) hx hb dL_law_33 (by rw [c10]; decide) (by rw [c10]; decide) (by rw [c10]; rfl) (by decide) ?_
        exact zlaw_10 C0 hK hN hZ A I F (7 * j) i hi hj (by omega) hI _ _ (by omega) (by omega) H [] hP hD hS ls hl KK
      by_cases c11 : sw = (nI 11)
      · refine lv_tableIn (off := 582) (tgt := 615) hx hb dL_law_33 (by rw [c11]; decide) (by rw [c11]; decide) (by rw [c11]; rfl) (by decide) ?_
        exact zlaw_11 C0 hK hN hZ A I F (7 * j) i hi hj (by omega) hI _ _ (by omega) (by omega) H [] hP hD hS ls hl KK
      by_cases c12 : sw = (nI 12)
      · refine lv_tableIn (off := 595) (tgt := 628) hx hb dL_law_33 (by rw [c12]; decide) (by rw [c12]; decide) (by rw [c12]; rfl) (by decide) ?_
        exact zlaw_12 C0 hK hN hZ A I F (7 * j) i hi hj (by omega) hI _ _ (by omega) (by omega) H [] hP hD hS ls hl KK
      by_cases c13 : sw = (nI 13)
      · refine lv_tableIn (off := 628) (tgt := 661) hx hb dL_law_33 (by rw [c13]; decide) (by rw [c13]; decide) (by rw [c13]; rfl) (by decide) ?_
        exact zlaw_13 C0 hK hN hZ A I F (7 * j) i hi hj (by omega) hI _ _ (by omega) (by omega) H [] hP hD hS ls hl KK
      by_cases c14 : sw = (nI 14)
      · refine lv_tableIn (off := 661) (tgt := 694) hx hb dL_law_33 (by rw [c14]; decide) (by rw [c14]; decide) (by rw [c14]; rfl) (by decide) ?_
        exact zlaw_14 C0 hK hN hZ A I F (7 * j) i hi hj (by omega) hI _ _ (by omega) (by omega) H [] hP hD hS ls hl KK
      by_cases c15 : sw = (nI 15)
      · refine lv_tableIn (off := 720) (tgt := 753) hx hb dL_law_33 (by rw [c15]; decide) (by rw [c15]; decide) (by rw [c15]; rfl) (by decide) ?_
        exact zlaw_15 C0 hK hN hZ A I F (7 * j) i hi hj (by omega) hI _ _ (by omega) (by omega) H [] hP hD hS ls hl KK
      by_cases c16 : sw = (nI 16)
      · refine lv_tableIn (off := 753) (tgt := 786) hx hb dL_law_33 (by rw [c16]; decide) (by rw [c16]; decide) (by rw [c16]; rfl) (by decide) ?_
        exact zlaw_16 C0 hK hN hZ A I F (7 * j) i hi hj (by omega) hI _ _ (by omega) (by omega) H [] hP hD hS ls hl KK
      by_cases c17 : sw = (nI 17)
      · refine lv_tableIn (off := 786) (tgt := 819) hx hb dL_law_33 (by rw [c17]; decide) (by rw [c17]; decide) (by rw [c17]; rfl) (by decide) ?_
        exact zlaw_17 C0 hK hN hZ A I F (7 * j) i hi hj (by omega) hI _ _ (by omega) (by omega) H [] hP hD hS ls hl KK
      by_cases c18 : sw = (nI 18)
      · refine lv_tableIn (off := 809) (tgt := 842) hx hb dL_law_33 (by rw [c18]; decide) (by rw [c18]; decide) (by rw [c18]; rfl) (by decide) ?_
        exact zlaw_18 C0 hK hN hZ A I F (7 * j) i hi hj (by omega) hI _ _ (by omega) (by omega) H [] hP hD hS ls hl KK
      by_cases c19 : sw = (nI 19)
      · refine lv_tableIn (off := 842) (tgt := 875) hx hb dL_law_33 (by rw [c19]; decide) (by rw [c19]; decide) (by rw [c19]; rfl) (by decide) ?_
        exact zlaw_19 C0 hK hN hZ A I F (7 * j) i hi hj (by omega) hI _ _ (by omega) (by omega) H [] hP hD hS ls hl KK
      by_cases c20 : sw = (nI 20)
      · refine lv_tableIn (off := 865) (tgt := 898) hx hb dL_law_33 (by rw [c20]; decide) (by rw [c20]; decide) (by rw [c20]; rfl) (by decide) ?_
        exact zlaw_20 C0 hK hN hZ A I F (7 * j) i hi hj (by omega) hI _ _ (by omega) (by omega) H [] hP hD hS ls hl KK
      by_cases c21 : sw = (nI 21)
      · refine lv_tableIn (off := 888) (tgt := 921) hx hb dL_law_33 (by rw [c21]; decide) (by rw [c21]; decide) (by rw [c21]; rfl) (by decide) ?_
        exact zlaw_21 C0 hK hN hZ A I F (7 * j) i hi hj (by omega) hI _ _ (by omega) (by omega) H [] hP hD hS ls hl KK
      by_cases c22 : sw = (nI 22)
      · refine lv_tableIn (off := 901) (tgt := 934) hx hb dL_law_33 (by rw [c22]; decide) (by rw [c22]; decide) (by rw [c22]; rfl) (by decide) ?_
        exact zlaw_22 C0 hK hN hZ A I F (7 * j) i hi hj (by omega) hI _ _ (by omega) (by omega) H [] hP hD hS ls hl KK
      by_cases c23 : sw = (nI 23)
      · refine lv_tableIn (off := 924) (tgt := 957) hx hb dL_law_33 (by rw [c23]; decide) (by rw [c23]; decide) (by rw [c23]; rfl) (by decide) ?_
        exact zlaw_23 C0 hK hN hZ A I F (7 * j) i hi hj (by omega) hI _ _ (by omega) (by omega) H [] hP hD hS ls hl KK
      by_cases c24 : sw = (nI 24)
      · refine lv_tableIn (off := 947) (tgt := 980) hx hb dL_law_33 (by rw [c24]; decide) (by rw [c24]; decide) (by rw [c24]; rfl) (by decide) ?_
        exact zlaw_24 C0 hK hN hZ A I F (7 * j) i hi hj (by omega) hI _ _ (by omega) (by omega) H [] hP hD hS ls hl KK
      by_cases c25 : sw = (nI 25)
      · refine lv_tableIn (off := 960) (tgt := 993) hx hb dL_law_33 (by rw [c25]; decide) (by rw [c25]; decide) (by rw [c25]; rfl) (by decide) ?_
        exact zlaw_25 C0 hK hN hZ A I F (7 * j) i hi hj (by omega) hI _ _ (by omega) (by omega) H [] hP hD hS ls hl KK
      by_cases c26 : sw = (nI 26)
      · refine lv_tableIn (off := 973) (tgt := 1006) hx hb dL_law_33 (by rw [c26]; decide) (by rw [c26]; decide) (by rw [c26]; rfl) (by decide) ?_
        exact zlaw_26 C0 hK hN hZ A I F (7 * j) i hi hj (by omega) hI _ _ (by omega) (by omega) H [] hP hD hS ls hl KK
      by_cases c27 : sw = (nI 27)
      · refine lv_tableIn (off := 1006) (tgt := 1039) hx hb dL_law_33 (by rw [c27]; decide) (by rw [c27]; decide) (by rw [c27]; rfl) (by decide) ?_
        exact zlaw_27 C0 hK hN hZ A I F (7 * j) i hi hj (by omega) hI _ _ (by omega) (by omega) H [] hP hD hS ls hl KK
      by_cases c28 : sw = (nI 28)
      · refine lv_tableIn (off := 1029) (tgt := 1062) hx hb dL_law_33 (by rw [c28]; decide) (by rw [c28]; decide) (by rw [c28]; rfl) (by decide) ?_
        exact zlaw_28 C0 hK hN hZ A I F (7 * j) i hi hj (by omega) hI _ _ (by omega) (by omega) H [] hP hD hS ls hl KK
      by_cases c29 : sw = (nI 29)
      · refine lv_tableIn (off := 1052) (tgt := 1085) hx hb dL_law_33 (by rw [c29]; decide) (by rw [c29]; decide) (by rw [c29]; rfl) (by decide) ?_
        exact zlaw_29 C0 hK hN hZ A I F (7 * j) i hi hj (by omega) hI _ _ (by omega) (by omega) H [] hP hD hS ls hl KK
      by_cases c30 : sw = (nI 30)
      · refine lv_tableIn (off := 1063) (tgt := 1096) hx hb dL_law_33 (by rw [c30]; decide) (by rw [c30]; decide) (by rw [c30]; rfl) (by decide) ?_
        exact zlaw_30 hfl C0 hK hN hZ A I F (7 * j) i hi hj (by omega) hI _ _ (by omega) (by omega) H [] hP hD hS ls hl KK
      refine lv_tableOut (tgt := 1109) hx hb dL_law_33 (by have n0_ := lv_neT c0 (a := 0) rfl; have n1_ := lv_neT c1 (a := 1) rfl; have n2_ := lv_neT c2 (a := 2) rfl; have n3_ := lv_neT c3 (a := 3) rfl; have n4_ := lv_neT c4 (a := 4) rfl; have n5_ := lv_neT c5 (a := 5) rfl; have n6_ := lv_neT c6 (a := 6) rfl; have n7_ := lv_neT c7 (a := 7) rfl; have n8_ := lv_neT c8 (a := 8) rfl; have n9_ := lv_neT c9 (a := 9) rfl; have n10_ := lv_neT c10 (a := 10) rfl; have n11_ := lv_neT c11 (a := 11) rfl; have n12_ := lv_neT c12 (a := 12) rfl; have n13_ := lv_neT c13 (a := 13) rfl; have n14_ := lv_neT c14 (a := 14) rfl; have n15_ := lv_neT c15 (a := 15) rfl; have n16_ := lv_neT c16 (a := 16) rfl; have n17_ := lv_neT c17 (a := 17) rfl; have n18_ := lv_neT c18 (a := 18) rfl; have n19_ := lv_neT c19 (a := 19) rfl; have n20_ := lv_neT c20 (a := 20) rfl; have n21_ := lv_neT c21 (a := 21) rfl; have n22_ := lv_neT c22 (a := 22) rfl; have n23_ := lv_neT c23 (a := 23) rfl; have n24_ := lv_neT c24 (a := 24) rfl; have n25_ := lv_neT c25 (a := 25) rfl; have n26_ := lv_neT c26 (a := 26) rfl; have n27_ := lv_neT c27 (a := 27) rfl; have n28_ := lv_neT c28 (a := 28) rfl; have n29_ := lv_neT c29 (a := 29) rfl; have n30_ := lv_neT c30 (a := 30) rfl; omega) (by decide) ?_
      exact W.widen (by omega) (by omega) (KK I F H [] ls hI hP hD hS hl)
