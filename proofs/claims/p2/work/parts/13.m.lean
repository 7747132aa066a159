/-! RunDesk$Listing.gather -/
theorem dX3_gather_0 : decode cX3_gather 0 = .ok (.aload_n 0, 1) := by decide +kernel
theorem dX3_gather_1 : decode cX3_gather 1 = .ok (.getfield 12, 3) := by decide +kernel
theorem dX3_gather_4 : decode cX3_gather 4 = .ok (.aload_n 1, 1) := by decide +kernel
theorem dX3_gather_5 : decode cX3_gather 5 = .ok (.invokevirtual 22, 3) := by decide +kernel
theorem dX3_gather_8 : decode cX3_gather 8 = .ok (.iconst (-1), 1) := by decide +kernel
theorem dX3_gather_9 : decode cX3_gather 9 = .ok (.if_icmp .eq 5, 3) := by decide +kernel
theorem dX3_gather_12 : decode cX3_gather 12 = .ok (.iconst 0, 1) := by decide +kernel
theorem dX3_gather_13 : decode cX3_gather 13 = .ok (.ireturn, 1) := by decide +kernel
theorem dX3_gather_14 : decode cX3_gather 14 = .ok (.aload_n 0, 1) := by decide +kernel
theorem dX3_gather_15 : decode cX3_gather 15 = .ok (.getfield 18, 3) := by decide +kernel
theorem dX3_gather_18 : decode cX3_gather 18 = .ok (.iconst (-1), 1) := by decide +kernel
theorem dX3_gather_19 : decode cX3_gather 19 = .ok (.invokestatic 26, 3) := by decide +kernel
theorem dX3_gather_22 : decode cX3_gather 22 = .ok (.iconst 0, 1) := by decide +kernel
theorem dX3_gather_23 : decode cX3_gather 23 = .ok (.istore_n 3, 1) := by decide +kernel
theorem dX3_gather_24 : decode cX3_gather 24 = .ok (.iload_n 3, 1) := by decide +kernel
theorem dX3_gather_25 : decode cX3_gather 25 = .ok (.aload_n 2, 1) := by decide +kernel
theorem dX3_gather_26 : decode cX3_gather 26 = .ok (.getfield 32, 3) := by decide +kernel
theorem dX3_gather_29 : decode cX3_gather 29 = .ok (.invokevirtual 38, 3) := by decide +kernel
theorem dX3_gather_32 : decode cX3_gather 32 = .ok (.if_icmp .ge 69, 3) := by decide +kernel
theorem dX3_gather_35 : decode cX3_gather 35 = .ok (.iload_n 3, 1) := by decide +kernel
theorem dX3_gather_36 : decode cX3_gather 36 = .ok (.bipush 60, 2) := by decide +kernel
theorem dX3_gather_38 : decode cX3_gather 38 = .ok (.if_icmp .ge 63, 3) := by decide +kernel
theorem dX3_gather_41 : decode cX3_gather 41 = .ok (.aload_n 0, 1) := by decide +kernel
theorem dX3_gather_42 : decode cX3_gather 42 = .ok (.getfield 12, 3) := by decide +kernel
theorem dX3_gather_45 : decode cX3_gather 45 = .ok (.aload_n 2, 1) := by decide +kernel
theorem dX3_gather_46 : decode cX3_gather 46 = .ok (.iload_n 3, 1) := by decide +kernel
theorem dX3_gather_47 : decode cX3_gather 47 = .ok (.invokevirtual 44, 3) := by decide +kernel
theorem dX3_gather_50 : decode cX3_gather 50 = .ok (.ifCond .eq 45, 3) := by decide +kernel
theorem dX3_gather_53 : decode cX3_gather 53 = .ok (.aload_n 0, 1) := by decide +kernel
theorem dX3_gather_54 : decode cX3_gather 54 = .ok (.getfield 12, 3) := by decide +kernel
theorem dX3_gather_57 : decode cX3_gather 57 = .ok (.invokevirtual 48, 3) := by decide +kernel
theorem dX3_gather_60 : decode cX3_gather 60 = .ok (.istore 4, 2) := by decide +kernel
theorem dX3_gather_62 : decode cX3_gather 62 = .ok (.iload 4, 2) := by decide +kernel
theorem dX3_gather_64 : decode cX3_gather 64 = .ok (.ifCond .eq 11, 3) := by decide +kernel
theorem dX3_gather_67 : decode cX3_gather 67 = .ok (.aload_n 2, 1) := by decide +kernel
theorem dX3_gather_68 : decode cX3_gather 68 = .ok (.iload_n 3, 1) := by decide +kernel
theorem dX3_gather_69 : decode cX3_gather 69 = .ok (.invokevirtual 52, 3) := by decide +kernel
theorem dX3_gather_72 : decode cX3_gather 72 = .ok (.goto 8, 3) := by decide +kernel
theorem dX3_gather_75 : decode cX3_gather 75 = .ok (.aload_n 2, 1) := by decide +kernel
theorem dX3_gather_76 : decode cX3_gather 76 = .ok (.iload_n 3, 1) := by decide +kernel
theorem dX3_gather_77 : decode cX3_gather 77 = .ok (.invokevirtual 56, 3) := by decide +kernel
theorem dX3_gather_80 : decode cX3_gather 80 = .ok (.istore 5, 2) := by decide +kernel
theorem dX3_gather_82 : decode cX3_gather 82 = .ok (.aload_n 0, 1) := by decide +kernel
theorem dX3_gather_83 : decode cX3_gather 83 = .ok (.getfield 18, 3) := by decide +kernel
theorem dX3_gather_86 : decode cX3_gather 86 = .ok (.iload_n 3, 1) := by decide +kernel
theorem dX3_gather_87 : decode cX3_gather 87 = .ok (.aload_n 2, 1) := by decide +kernel
theorem dX3_gather_88 : decode cX3_gather 88 = .ok (.iload_n 3, 1) := by decide +kernel
theorem dX3_gather_89 : decode cX3_gather 89 = .ok (.iload 5, 2) := by decide +kernel
theorem dX3_gather_91 : decode cX3_gather 91 = .ok (.invokevirtual 59, 3) := by decide +kernel
theorem dX3_gather_94 : decode cX3_gather 94 = .ok (.iastore, 1) := by decide +kernel
theorem dX3_gather_95 : decode cX3_gather 95 = .ok (.iinc 3 1, 3) := by decide +kernel
theorem dX3_gather_98 : decode cX3_gather 98 = .ok (.goto (-74), 3) := by decide +kernel
theorem dX3_gather_101 : decode cX3_gather 101 = .ok (.iconst 1, 1) := by decide +kernel
theorem dX3_gather_102 : decode cX3_gather 102 = .ok (.ireturn, 1) := by decide +kernel
set_option maxRecDepth 20000 in
theorem ggX3_gather_X5_read : GoodIn wsX3_gather wsX5_read := goodIn_r _ [7, 8, 9, 10, 11, 12, 13, 14, 15, 16, 17, 18, 19, 20, 21, 22, 23, 24, 25, 26, 27, 6, 28, 29, 30, 31, 32, 33, 34, 35, 36, 37, 38, 39, 40, 41, 42, 43, 44, 45, 46, 47, 48, 49, 50, 51, 52, 53, 54, 55, 56, 57, 58, 59, 60, 61, 62, 63, 64, 65, 66, 67, 68, 69, 70, 71, 72, 181, 182, 183, 184, 185, 186, 187, 188, 189, 190, 191] (by decide +kernel) (by decide +kernel)
set_option maxRecDepth 20000 in
theorem gX3_gather_X5_read : GoodIn wsX3_gather (wsV RX3 22 RX5 yX5_read wsX5_read) := goodIn_app (goodIn_of _ (by decide +kernel)) ggX3_gather_X5_read
set_option maxRecDepth 20000 in
theorem ggX3_gather_J7_fill_53178 : GoodIn wsX3_gather wsJ7_fill_53178 := goodIn_r _ [76] (by decide +kernel) (by decide +kernel)
set_option maxRecDepth 20000 in
theorem gX3_gather_J7_fill_53178 : GoodIn wsX3_gather (va_wsS RX3 26 yJ7_fill_53178 wsJ7_fill_53178) := goodIn_app (goodIn_of _ (by decide +kernel)) ggX3_gather_J7_fill_53178
set_option maxRecDepth 20000 in
theorem ggX3_gather_X6_size : GoodIn wsX3_gather wsX6_size := goodIn_r _ [81, 82, 192, 193, 194, 195, 196, 197, 198, 199, 200] (by decide +kernel) (by decide +kernel)
set_option maxRecDepth 20000 in
theorem gX3_gather_X6_size : GoodIn wsX3_gather (wsV RX3 38 RX6 yX6_size wsX6_size) := goodIn_app (goodIn_of _ (by decide +kernel)) ggX3_gather_X6_size
set_option maxRecDepth 20000 in
theorem ggX3_gather_X5_holdsFor : GoodIn wsX3_gather wsX5_holdsFor := goodIn_r _ [86, 8, 41, 87, 88, 89, 6, 90, 42, 43, 44, 45, 46, 47, 48, 49, 91, 92, 93, 80, 94, 82, 95, 181, 182, 183, 184, 185, 186, 187, 188, 189, 178, 179, 180, 192, 193, 194, 195, 196, 197, 198, 199, 200] (by decide +kernel) (by decide +kernel)
set_option maxRecDepth 20000 in
theorem gX3_gather_X5_holdsFor : GoodIn wsX3_gather (wsV RX3 44 RX5 yX5_holdsFor wsX5_holdsFor) := goodIn_app (goodIn_of _ (by decide +kernel)) ggX3_gather_X5_holdsFor
set_option maxRecDepth 20000 in
theorem ggX3_gather_X5_ordersByGunTime : GoodIn wsX3_gather wsX5_ordersByGunTime := goodIn_r _ [99, 12, 181, 182, 183, 184, 185, 186, 187, 188, 189] (by decide +kernel) (by decide +kernel)
set_option maxRecDepth 20000 in
theorem gX3_gather_X5_ordersByGunTime : GoodIn wsX3_gather (wsV RX3 48 RX5 yX5_ordersByGunTime wsX5_ordersByGunTime) := goodIn_app (goodIn_of _ (by decide +kernel)) ggX3_gather_X5_ordersByGunTime
set_option maxRecDepth 20000 in
theorem ggX3_gather_X4_gunOf : GoodIn wsX3_gather wsX4_gunOf := goodIn_r _ [104, 105, 106, 107, 92, 93, 80, 94, 82, 95, 108, 109, 110, 111, 112, 113, 178, 179, 180, 192, 193, 194, 195, 196, 197, 198, 199, 200, 201] (by decide +kernel) (by decide +kernel)
set_option maxRecDepth 20000 in
theorem gX3_gather_X4_gunOf : GoodIn wsX3_gather (wsV RX3 52 RX4 yX4_gunOf wsX4_gunOf) := goodIn_app (goodIn_of _ (by decide +kernel)) ggX3_gather_X4_gunOf
set_option maxRecDepth 20000 in
theorem ggX3_gather_X4_startOf : GoodIn wsX3_gather wsX4_startOf := goodIn_r _ [117, 106, 118, 119, 120, 80, 121, 122, 123, 124, 125, 126, 82, 127, 101, 102, 103, 104, 105, 107, 92, 93, 94, 95, 108, 109, 110, 111, 112, 113, 178, 179, 180, 192, 193, 194, 195, 196, 197, 198, 199, 200, 201] (by decide +kernel) (by decide +kernel)
set_option maxRecDepth 20000 in
theorem gX3_gather_X4_startOf : GoodIn wsX3_gather (wsV RX3 56 RX4 yX4_startOf wsX4_startOf) := goodIn_app (goodIn_of _ (by decide +kernel)) ggX3_gather_X4_startOf
set_option maxRecDepth 20000 in
theorem ggX3_gather_X4_timeSince : GoodIn wsX3_gather wsX4_timeSince := goodIn_r _ [131, 106, 132, 133, 134, 135, 103, 136, 137, 138, 139, 80, 140, 141, 123, 124, 125, 126, 82, 142, 143, 144, 145, 146, 147, 148, 149, 150, 151, 152, 153, 154, 155, 156, 157, 158, 159, 160, 161, 162, 163, 164, 165, 166, 167, 168, 169, 170, 118, 119, 120, 121, 122, 171, 172, 173, 174, 175, 115, 116, 117, 127, 101, 102, 104, 105, 107, 92, 93, 94, 95, 108, 109, 110, 111, 112, 113, 178, 179, 180, 192, 193, 194, 195, 196, 197, 198, 199, 200, 202, 203, 204, 205, 206, 201] (by decide +kernel) (by decide +kernel)
set_option maxRecDepth 20000 in
theorem gX3_gather_X4_timeSince : GoodIn wsX3_gather (wsV RX3 59 RX4 yX4_timeSince wsX4_timeSince) := goodIn_app (goodIn_of _ (by decide +kernel)) ggX3_gather_X4_timeSince
theorem kX3_gather_0 : (.fieldLink RX3 12 "RunDesk$Listing" "reading" "LRunDesk$Reading;" : Cond) ∈ wsX3_gather := List.mem_of_getElem? (i := 1) (by decide +kernel)
theorem qX3_gather_X3 : ∀ w ∈ wsX30, w ∈ wsX3_gather := fun _ h => List.mem_cons_of_mem _ (List.mem_append_left _ (List.mem_append_left _ (List.mem_append_left _ (List.mem_append_left _ (List.mem_append_left _ (List.mem_append_left _ (List.mem_append_right _ (h))))))))
theorem kX3_gather_2 : (.fieldLink RX3 18 "RunDesk$Listing" "times" "[I" : Cond) ∈ wsX3_gather := List.mem_of_getElem? (i := 2) (by decide +kernel)
theorem qX3_gather_X4 : ∀ w ∈ wsX40, w ∈ wsX3_gather := fun _ h => List.mem_cons_of_mem _ (List.mem_append_left _ (List.mem_append_left _ (List.mem_append_left _ (List.mem_append_left _ (List.mem_append_left _ (List.mem_append_right _ (h)))))))
set_option maxHeartbeats 4000000 in
set_option maxRecDepth 100000 in
theorem mX3_gather (l : Launch) (D : va_G) (cB cI cZ : ClassId) (a_t : Nat) (a_p1 : Nat) (a_p2 : Nat) (a_t_reading : Nat) (a_t_times : Nat) (a_t_reading_parts : Nat) (a_t_reading_signs : Nat) (a_t_reading_numbers : Nat) (a_p1_bytes : Nat) (a_p2_way : Nat) (a_p2_guns : Nat) (a_p2_runners : Nat) (a_p2_guns_ticks : Nat) (a_p2_runners_facts : Nat) (a_p2_runners_splits : Nat) (a_p2_runners_torn : Nat) (a_p2_runners_dropped : Nat) (a_p2_runners_waved : Nat) (a_p2_runners_struck : Nat) (a_p2_runners_strikingOrder : Nat) (a_p2_way_places : Nat) (a_p2_way_bearings : Nat) (a_p2_way_cuts : Nat) (a_p2_way_deaths : Nat) (t_reading_laid : Int32) (t_reading_stage : Int32) (t_reading_open : Int32) (t_reading_digits : Int32) (t_reading_order : Int32) (t_reading_prizes : Int32) (t_reading_numbers : Nat → Int32) (t_reading_parts : Nat → Int32) (t_reading_signs : Nat → Int32) (t_times : Nat → Int32) (p1_length : Int32) (p1_bytes : Nat → Int32) (p2_guns_ticks : Nat → Int32) (p2_runners_entered : Int32) (p2_runners_strikings : Int32) (p2_runners_dropped : Nat → Int32) (p2_runners_facts : Nat → Int32) (p2_runners_splits : Nat → Int32) (p2_runners_struck : Nat → Int32) (p2_runners_waved : Nat → Int32) (p2_way_mats : Int32) (p2_way_cuts : Nat → Int32) (sz : Nat) (N : Nat) (b0 : Bool) (t_reading_digits' : Int32) (t_reading_laid' : Int32) (t_reading_open' : Int32) (t_reading_order' : Int32) (t_reading_prizes' : Int32) (t_reading_stage' : Int32) (t_reading_numbers' : Nat → Int32) (t_reading_parts' : Nat → Int32) (t_reading_signs' : Nat → Int32) (t_times' : Nat → Int32) (h : fX3_gather N t_reading_digits t_reading_laid t_reading_open t_reading_order t_reading_prizes t_reading_stage t_reading_numbers t_reading_parts t_reading_signs t_times p1_length p1_bytes p2_guns_ticks p2_runners_entered p2_runners_dropped p2_runners_facts p2_runners_splits p2_runners_struck p2_runners_waved p2_way_mats p2_way_cuts = some (b0, t_reading_digits', t_reading_laid', t_reading_open', t_reading_order', t_reading_prizes', t_reading_stage', t_reading_numbers', t_reading_parts', t_reading_signs', t_times')) : Met l yX3_gather wsX3_gather ({ frames := 5, cells := 0, slots := 0, locals := 110 } : Room) (va_Pc [.ref a_t, .ref a_p1, .ref a_p2] (zPre D (zT cB cI cZ) [(a_t, .inr (3, [.ref a_t_reading, .ref a_t_times])), (a_t_reading, .inr (5, [.ref a_t_reading_parts, .ref a_t_reading_signs, .ref a_t_reading_numbers, .int t_reading_laid, .int t_reading_stage, .int t_reading_open, .int t_reading_digits, .int t_reading_order, .int t_reading_prizes])), (a_t_reading_numbers, .inl (cI, 200, .inl t_reading_numbers)), (a_t_reading_parts, .inl (cI, 200, .inl t_reading_parts)), (a_t_reading_signs, .inl (cI, 200, .inl t_reading_signs)), (a_t_times, .inl (cI, 60, .inl t_times)), (a_p1, .inr (7, [.ref a_p1_bytes, .int p1_length])), (a_p1_bytes, .inl (cI, 200, .inl p1_bytes)), (a_p2, .inr (4, [.ref a_p2_way, .ref a_p2_guns, .ref a_p2_runners])), (a_p2_guns, .inr (2, [.ref a_p2_guns_ticks])), (a_p2_guns_ticks, .inl (cI, 6, .inl p2_guns_ticks)), (a_p2_runners, .inr (6, [.ref a_p2_runners_facts, .ref a_p2_runners_splits, .ref a_p2_runners_torn, .ref a_p2_runners_dropped, .ref a_p2_runners_waved, .ref a_p2_runners_struck, .ref a_p2_runners_strikingOrder, .int p2_runners_entered, .int p2_runners_strikings])), (a_p2_runners_dropped, .inl (cZ, 60, .inl p2_runners_dropped)), (a_p2_runners_facts, .inl (cI, 360, .inl p2_runners_facts)), (a_p2_runners_splits, .inl (cI, 720, .inl p2_runners_splits)), (a_p2_runners_struck, .inl (cZ, 60, .inl p2_runners_struck)), (a_p2_runners_waved, .inl (cZ, 60, .inl p2_runners_waved)), (a_p2_way, .inr (9, [.ref a_p2_way_places, .ref a_p2_way_bearings, .ref a_p2_way_cuts, .ref a_p2_way_deaths, .int p2_way_mats])), (a_p2_way_cuts, .inl (cI, 12, .inl p2_way_cuts))] sz)) (zQi (zb b0) D (zT cB cI cZ) [(a_t, .inr (3, [.ref a_t_reading, .ref a_t_times])), (a_t_reading, .inr (5, [.ref a_t_reading_parts, .ref a_t_reading_signs, .ref a_t_reading_numbers, .int t_reading_laid', .int t_reading_stage', .int t_reading_open', .int t_reading_digits', .int t_reading_order', .int t_reading_prizes'])), (a_t_reading_numbers, .inl (cI, 200, .inl t_reading_numbers')), (a_t_reading_parts, .inl (cI, 200, .inl t_reading_parts')), (a_t_reading_signs, .inl (cI, 200, .inl t_reading_signs')), (a_t_times, .inl (cI, 60, .inl t_times')), (a_p1, .inr (7, [.ref a_p1_bytes, .int p1_length])), (a_p1_bytes, .inl (cI, 200, .inl p1_bytes)), (a_p2, .inr (4, [.ref a_p2_way, .ref a_p2_guns, .ref a_p2_runners])), (a_p2_guns, .inr (2, [.ref a_p2_guns_ticks])), (a_p2_guns_ticks, .inl (cI, 6, .inl p2_guns_ticks)), (a_p2_runners, .inr (6, [.ref a_p2_runners_facts, .ref a_p2_runners_splits, .ref a_p2_runners_torn, .ref a_p2_runners_dropped, .ref a_p2_runners_waved, .ref a_p2_runners_struck, .ref a_p2_runners_strikingOrder, .int p2_runners_entered, .int p2_runners_strikings])), (a_p2_runners_dropped, .inl (cZ, 60, .inl p2_runners_dropped)), (a_p2_runners_facts, .inl (cI, 360, .inl p2_runners_facts)), (a_p2_runners_splits, .inl (cI, 720, .inl p2_runners_splits)), (a_p2_runners_struck, .inl (cZ, 60, .inl p2_runners_struck)), (a_p2_runners_waved, .inl (cZ, 60, .inl p2_runners_waved)), (a_p2_way, .inr (9, [.ref a_p2_way_places, .ref a_p2_way_bearings, .ref a_p2_way_cuts, .ref a_p2_way_deaths, .int p2_way_mats])), (a_p2_way_cuts, .inl (cI, 12, .inl p2_way_cuts))] (va_A [(a_t, .inr (3, [.ref a_t_reading, .ref a_t_times])), (a_t_reading, .inr (5, [.ref a_t_reading_parts, .ref a_t_reading_signs, .ref a_t_reading_numbers, .int t_reading_laid, .int t_reading_stage, .int t_reading_open, .int t_reading_digits, .int t_reading_order, .int t_reading_prizes])), (a_t_reading_numbers, .inl (cI, 200, .inl t_reading_numbers)), (a_t_reading_parts, .inl (cI, 200, .inl t_reading_parts)), (a_t_reading_signs, .inl (cI, 200, .inl t_reading_signs)), (a_t_times, .inl (cI, 60, .inl t_times)), (a_p1, .inr (7, [.ref a_p1_bytes, .int p1_length])), (a_p1_bytes, .inl (cI, 200, .inl p1_bytes)), (a_p2, .inr (4, [.ref a_p2_way, .ref a_p2_guns, .ref a_p2_runners])), (a_p2_guns, .inr (2, [.ref a_p2_guns_ticks])), (a_p2_guns_ticks, .inl (cI, 6, .inl p2_guns_ticks)), (a_p2_runners, .inr (6, [.ref a_p2_runners_facts, .ref a_p2_runners_splits, .ref a_p2_runners_torn, .ref a_p2_runners_dropped, .ref a_p2_runners_waved, .ref a_p2_runners_struck, .ref a_p2_runners_strikingOrder, .int p2_runners_entered, .int p2_runners_strikings])), (a_p2_runners_dropped, .inl (cZ, 60, .inl p2_runners_dropped)), (a_p2_runners_facts, .inl (cI, 360, .inl p2_runners_facts)), (a_p2_runners_splits, .inl (cI, 720, .inl p2_runners_splits)), (a_p2_runners_struck, .inl (cZ, 60, .inl p2_runners_struck)), (a_p2_runners_waved, .inl (cZ, 60, .inl p2_runners_waved)), (a_p2_way, .inr (9, [.ref a_p2_way_places, .ref a_p2_way_bearings, .ref a_p2_way_cuts, .ref a_p2_way_deaths, .int p2_way_mats])), (a_p2_way_cuts, .inl (cI, 12, .inl p2_way_cuts))] sz)) 0 0 (va_A [(a_t, .inr (3, [.ref a_t_reading, .ref a_t_times])), (a_t_reading, .inr (5, [.ref a_t_reading_parts, .ref a_t_reading_signs, .ref a_t_reading_numbers, .int t_reading_laid, .int t_reading_stage, .int t_reading_open, .int t_reading_digits, .int t_reading_order, .int t_reading_prizes])), (a_t_reading_numbers, .inl (cI, 200, .inl t_reading_numbers)), (a_t_reading_parts, .inl (cI, 200, .inl t_reading_parts)), (a_t_reading_signs, .inl (cI, 200, .inl t_reading_signs)), (a_t_times, .inl (cI, 60, .inl t_times)), (a_p1, .inr (7, [.ref a_p1_bytes, .int p1_length])), (a_p1_bytes, .inl (cI, 200, .inl p1_bytes)), (a_p2, .inr (4, [.ref a_p2_way, .ref a_p2_guns, .ref a_p2_runners])), (a_p2_guns, .inr (2, [.ref a_p2_guns_ticks])), (a_p2_guns_ticks, .inl (cI, 6, .inl p2_guns_ticks)), (a_p2_runners, .inr (6, [.ref a_p2_runners_facts, .ref a_p2_runners_splits, .ref a_p2_runners_torn, .ref a_p2_runners_dropped, .ref a_p2_runners_waved, .ref a_p2_runners_struck, .ref a_p2_runners_strikingOrder, .int p2_runners_entered, .int p2_runners_strikings])), (a_p2_runners_dropped, .inl (cZ, 60, .inl p2_runners_dropped)), (a_p2_runners_facts, .inl (cI, 360, .inl p2_runners_facts)), (a_p2_runners_splits, .inl (cI, 720, .inl p2_runners_splits)), (a_p2_runners_struck, .inl (cZ, 60, .inl p2_runners_struck)), (a_p2_runners_waved, .inl (cZ, 60, .inl p2_runners_waved)), (a_p2_way, .inr (9, [.ref a_p2_way_places, .ref a_p2_way_bearings, .ref a_p2_way_cuts, .ref a_p2_way_deaths, .int p2_way_mats])), (a_p2_way_cuts, .inl (cI, 12, .inl p2_way_cuts))] sz) := by
  refine Met.ofW (cc := cX3_gather) (maxL := 6) (ret := (some .boolean)) (by decide) rfl ?_
  intro p e s m args below meth c s₁ B hml hv
  obtain ⟨rfl, hsz, hP, hK, hN, hZ, hD0⟩ := hv
  have hx := B.exec
  have hb := B.bytes
  have hr := B.returns
  have hts := atoms_spec (ws := wsX3_gather) B.pre
  have hown : s.vm.findClass RX3 = some m.cls := findClass_of_methodNamed B.named
  have hlocks := B.notSynchronized
  subst hsz
  have hD := hD0.self (sz := s.heap.size)
  generalize hAe : va_A [(a_t, .inr (3, [.ref a_t_reading, .ref a_t_times])), (a_t_reading, .inr (5, [.ref a_t_reading_parts, .ref a_t_reading_signs, .ref a_t_reading_numbers, .int t_reading_laid, .int t_reading_stage, .int t_reading_open, .int t_reading_digits, .int t_reading_order, .int t_reading_prizes])), (a_t_reading_numbers, .inl (cI, 200, .inl t_reading_numbers)), (a_t_reading_parts, .inl (cI, 200, .inl t_reading_parts)), (a_t_reading_signs, .inl (cI, 200, .inl t_reading_signs)), (a_t_times, .inl (cI, 60, .inl t_times)), (a_p1, .inr (7, [.ref a_p1_bytes, .int p1_length])), (a_p1_bytes, .inl (cI, 200, .inl p1_bytes)), (a_p2, .inr (4, [.ref a_p2_way, .ref a_p2_guns, .ref a_p2_runners])), (a_p2_guns, .inr (2, [.ref a_p2_guns_ticks])), (a_p2_guns_ticks, .inl (cI, 6, .inl p2_guns_ticks)), (a_p2_runners, .inr (6, [.ref a_p2_runners_facts, .ref a_p2_runners_splits, .ref a_p2_runners_torn, .ref a_p2_runners_dropped, .ref a_p2_runners_waved, .ref a_p2_runners_struck, .ref a_p2_runners_strikingOrder, .int p2_runners_entered, .int p2_runners_strikings])), (a_p2_runners_dropped, .inl (cZ, 60, .inl p2_runners_dropped)), (a_p2_runners_facts, .inl (cI, 360, .inl p2_runners_facts)), (a_p2_runners_splits, .inl (cI, 720, .inl p2_runners_splits)), (a_p2_runners_struck, .inl (cZ, 60, .inl p2_runners_struck)), (a_p2_runners_waved, .inl (cZ, 60, .inl p2_runners_waved)), (a_p2_way, .inr (9, [.ref a_p2_way_places, .ref a_p2_way_bearings, .ref a_p2_way_cuts, .ref a_p2_way_deaths, .int p2_way_mats])), (a_p2_way_cuts, .inl (cI, 12, .inl p2_way_cuts))] s.heap.size = A at hD hZ ⊢
  have hA : ∀ q : Nat, s.heap.size ≤ q → A q := fun q h => by rw [← hAe]; exact Or.inr h
  have hS : va_S A s.heap s.heap [] := va_S.rf
  have hl := lv_entry ([.ref a_t, .ref a_p1, .ref a_p2]) (n := 6) (Nat.le_of_ble_eq_true rfl)
  rw [lg_entry_eq]
  generalize (lg_sl ([.ref a_t, .ref a_p1, .ref a_p2]) ++ List.replicate (6 - (lg_sl ([.ref a_t, .ref a_p1, .ref a_p2])).length) Slot.unset).toArray = ls at hl ⊢
  have hl : lv_has ls 6 [(0, .ref a_t), (1, .ref a_p1), (2, .ref a_p2)] := hl
  unfold fX3_gather at h
  refine lv_aload_n hx hb dX3_gather_0 rfl (lv_at hl 0 rfl) ?_
  refine va_get (D := D) (ci := 3) (C := RX3) (T := TX3) (N := 2) hx hb hts qX3_gather_X3 hown hK hP 0 rfl rfl 0 (by decide) (hts _ kX3_gather_0) (fun _ h9 => h9) rfl dX3_gather_1 ?_
  refine lv_aload_n hx hb dX3_gather_4 rfl (lv_at hl 1 rfl) ?_
  obtain ⟨⟨r1, t_reading_digits_r2, t_reading_laid_r3, t_reading_open_r4, t_reading_order_r5, t_reading_prizes_r6, t_reading_stage_r7, t_reading_numbers_r8, t_reading_parts_r9, t_reading_signs_r10⟩, e11, h⟩ := zz_b h
  dsimp only at h
  refine zVi (As := [.ref a_p1]) (rest := []) (C := RX5) (wr := [(a_t, .inr (3, [.ref a_t_reading, .ref a_t_times])), (a_t_times, .inl (cI, 60, .inl t_times)), (a_p2, .inr (4, [.ref a_p2_way, .ref a_p2_guns, .ref a_p2_runners])), (a_p2_guns, .inr (2, [.ref a_p2_guns_ticks])), (a_p2_guns_ticks, .inl (cI, 6, .inl p2_guns_ticks)), (a_p2_runners, .inr (6, [.ref a_p2_runners_facts, .ref a_p2_runners_splits, .ref a_p2_runners_torn, .ref a_p2_runners_dropped, .ref a_p2_runners_waved, .ref a_p2_runners_struck, .ref a_p2_runners_strikingOrder, .int p2_runners_entered, .int p2_runners_strikings])), (a_p2_runners_dropped, .inl (cZ, 60, .inl p2_runners_dropped)), (a_p2_runners_facts, .inl (cI, 360, .inl p2_runners_facts)), (a_p2_runners_splits, .inl (cI, 720, .inl p2_runners_splits)), (a_p2_runners_struck, .inl (cZ, 60, .inl p2_runners_struck)), (a_p2_runners_waved, .inl (cZ, 60, .inl p2_runners_waved)), (a_p2_way, .inr (9, [.ref a_p2_way_places, .ref a_p2_way_bearings, .ref a_p2_way_cuts, .ref a_p2_way_deaths, .int p2_way_mats])), (a_p2_way_cuts, .inl (cI, 12, .inl p2_way_cuts))]) [1, 2, 3, 4, 6, 7] [0, 5, 8, 9, 10, 11, 12, 13, 14, 15, 16, 17, 18] 0 ⟨hx, hb, hml, hown, hts⟩ (mX5_read l D cB cI cZ a_t_reading a_p1 a_t_reading_parts a_t_reading_signs a_t_reading_numbers a_p1_bytes t_reading_laid t_reading_stage t_reading_open t_reading_digits t_reading_order t_reading_prizes t_reading_numbers t_reading_parts t_reading_signs p1_length p1_bytes s.heap.size N r1 t_reading_digits_r2 t_reading_laid_r3 t_reading_open_r4 t_reading_order_r5 t_reading_prizes_r6 t_reading_stage_r7 t_reading_numbers_r8 t_reading_parts_r9 t_reading_signs_r10 e11) (cwV 1 hts gX3_gather_X5_read rfl rfl rfl (by decide +kernel) ⟨Nat.le_of_ble_eq_true rfl, Nat.le_of_ble_eq_true rfl⟩) hK hN hZ hP hD hS hA rfl rfl rfl rfl rfl rfl rfl rfl hl.1 rfl (lv_room (Nat.le_of_ble_eq_true rfl)) dX3_gather_5 ⟨Nat.le_of_ble_eq_true rfl, Nat.le_of_ble_eq_true rfl⟩ (fun H locs hP hD hS => ?_)
  have hP : va_P D vwCl [(a_t, .inr (3, [.ref a_t_reading, .ref a_t_times])), (a_t_times, .inl (cI, 60, .inl t_times)), (a_p2, .inr (4, [.ref a_p2_way, .ref a_p2_guns, .ref a_p2_runners])), (a_p2_guns, .inr (2, [.ref a_p2_guns_ticks])), (a_p2_guns_ticks, .inl (cI, 6, .inl p2_guns_ticks)), (a_p2_runners, .inr (6, [.ref a_p2_runners_facts, .ref a_p2_runners_splits, .ref a_p2_runners_torn, .ref a_p2_runners_dropped, .ref a_p2_runners_waved, .ref a_p2_runners_struck, .ref a_p2_runners_strikingOrder, .int p2_runners_entered, .int p2_runners_strikings])), (a_p2_runners_dropped, .inl (cZ, 60, .inl p2_runners_dropped)), (a_p2_runners_facts, .inl (cI, 360, .inl p2_runners_facts)), (a_p2_runners_splits, .inl (cI, 720, .inl p2_runners_splits)), (a_p2_runners_struck, .inl (cZ, 60, .inl p2_runners_struck)), (a_p2_runners_waved, .inl (cZ, 60, .inl p2_runners_waved)), (a_p2_way, .inr (9, [.ref a_p2_way_places, .ref a_p2_way_bearings, .ref a_p2_way_cuts, .ref a_p2_way_deaths, .int p2_way_mats])), (a_p2_way_cuts, .inl (cI, 12, .inl p2_way_cuts)), (a_t_reading, .inr (5, [.ref a_t_reading_parts, .ref a_t_reading_signs, .ref a_t_reading_numbers, .int t_reading_laid_r3, .int t_reading_stage_r7, .int t_reading_open_r4, .int t_reading_digits_r2, .int t_reading_order_r5, .int t_reading_prizes_r6])), (a_t_reading_numbers, .inl (cI, 200, .inl t_reading_numbers_r8)), (a_t_reading_parts, .inl (cI, 200, .inl t_reading_parts_r9)), (a_t_reading_signs, .inl (cI, 200, .inl t_reading_signs_r10)), (a_p1, .inr (7, [.ref a_p1_bytes, .int p1_length])), (a_p1_bytes, .inl (cI, 200, .inl p1_bytes))] H := hP
  have hD : va_D A [(a_t, .inr (3, [.ref a_t_reading, .ref a_t_times])), (a_t_times, .inl (cI, 60, .inl t_times)), (a_p2, .inr (4, [.ref a_p2_way, .ref a_p2_guns, .ref a_p2_runners])), (a_p2_guns, .inr (2, [.ref a_p2_guns_ticks])), (a_p2_guns_ticks, .inl (cI, 6, .inl p2_guns_ticks)), (a_p2_runners, .inr (6, [.ref a_p2_runners_facts, .ref a_p2_runners_splits, .ref a_p2_runners_torn, .ref a_p2_runners_dropped, .ref a_p2_runners_waved, .ref a_p2_runners_struck, .ref a_p2_runners_strikingOrder, .int p2_runners_entered, .int p2_runners_strikings])), (a_p2_runners_dropped, .inl (cZ, 60, .inl p2_runners_dropped)), (a_p2_runners_facts, .inl (cI, 360, .inl p2_runners_facts)), (a_p2_runners_splits, .inl (cI, 720, .inl p2_runners_splits)), (a_p2_runners_struck, .inl (cZ, 60, .inl p2_runners_struck)), (a_p2_runners_waved, .inl (cZ, 60, .inl p2_runners_waved)), (a_p2_way, .inr (9, [.ref a_p2_way_places, .ref a_p2_way_bearings, .ref a_p2_way_cuts, .ref a_p2_way_deaths, .int p2_way_mats])), (a_p2_way_cuts, .inl (cI, 12, .inl p2_way_cuts)), (a_t_reading, .inr (5, [.ref a_t_reading_parts, .ref a_t_reading_signs, .ref a_t_reading_numbers, .int t_reading_laid_r3, .int t_reading_stage_r7, .int t_reading_open_r4, .int t_reading_digits_r2, .int t_reading_order_r5, .int t_reading_prizes_r6])), (a_t_reading_numbers, .inl (cI, 200, .inl t_reading_numbers_r8)), (a_t_reading_parts, .inl (cI, 200, .inl t_reading_parts_r9)), (a_t_reading_signs, .inl (cI, 200, .inl t_reading_signs_r10)), (a_p1, .inr (7, [.ref a_p1_bytes, .int p1_length])), (a_p1_bytes, .inl (cI, 200, .inl p1_bytes))] := hD
  refine lv_iconst (v := (-1 : Int32)) hx hb dX3_gather_8 rfl ?_
  refine lv_icmp_eq (tgt := 14) hx hb dX3_gather_9 (by decide) (fun c12 => ?_) (fun c12 => ?_)
  · have h := zz_t h c12
    refine lv_aload_n hx hb dX3_gather_14 rfl (lv_at hl 0 rfl) ?_
    refine va_get (D := D) (ci := 3) (C := RX3) (T := TX3) (N := 2) hx hb hts qX3_gather_X3 hown hK hP 0 rfl rfl 1 (by decide) (hts _ kX3_gather_2) (fun _ h9 => h9) rfl dX3_gather_15 ?_
    refine lv_iconst (v := (-1 : Int32)) hx hb dX3_gather_18 rfl ?_
    obtain ⟨t_times_r13, e14, h⟩ := zz_b h
    refine zSv (As := [.ref a_t_times, .int (-1 : Int32)]) (rest := []) (wr := [(a_t, .inr (3, [.ref a_t_reading, .ref a_t_times])), (a_p2, .inr (4, [.ref a_p2_way, .ref a_p2_guns, .ref a_p2_runners])), (a_p2_guns, .inr (2, [.ref a_p2_guns_ticks])), (a_p2_guns_ticks, .inl (cI, 6, .inl p2_guns_ticks)), (a_p2_runners, .inr (6, [.ref a_p2_runners_facts, .ref a_p2_runners_splits, .ref a_p2_runners_torn, .ref a_p2_runners_dropped, .ref a_p2_runners_waved, .ref a_p2_runners_struck, .ref a_p2_runners_strikingOrder, .int p2_runners_entered, .int p2_runners_strikings])), (a_p2_runners_dropped, .inl (cZ, 60, .inl p2_runners_dropped)), (a_p2_runners_facts, .inl (cI, 360, .inl p2_runners_facts)), (a_p2_runners_splits, .inl (cI, 720, .inl p2_runners_splits)), (a_p2_runners_struck, .inl (cZ, 60, .inl p2_runners_struck)), (a_p2_runners_waved, .inl (cZ, 60, .inl p2_runners_waved)), (a_p2_way, .inr (9, [.ref a_p2_way_places, .ref a_p2_way_bearings, .ref a_p2_way_cuts, .ref a_p2_way_deaths, .int p2_way_mats])), (a_p2_way_cuts, .inl (cI, 12, .inl p2_way_cuts)), (a_t_reading, .inr (5, [.ref a_t_reading_parts, .ref a_t_reading_signs, .ref a_t_reading_numbers, .int t_reading_laid_r3, .int t_reading_stage_r7, .int t_reading_open_r4, .int t_reading_digits_r2, .int t_reading_order_r5, .int t_reading_prizes_r6])), (a_t_reading_numbers, .inl (cI, 200, .inl t_reading_numbers_r8)), (a_t_reading_parts, .inl (cI, 200, .inl t_reading_parts_r9)), (a_t_reading_signs, .inl (cI, 200, .inl t_reading_signs_r10)), (a_p1, .inr (7, [.ref a_p1_bytes, .int p1_length])), (a_p1_bytes, .inl (cI, 200, .inl p1_bytes))]) [1] [0, 2, 3, 4, 5, 6, 7, 8, 9, 10, 11, 12, 13, 14, 15, 16, 17, 18] ⟨hx, hb, hml, hown, hts⟩ (mJ7_fill_53178 l D cB cI cZ a_t_times t_times 60 H.size (-1 : Int32) N t_times_r13 e14) (va_cwS 2 hts gX3_gather_J7_fill_53178 rfl rfl rfl (by decide +kernel) ⟨Nat.le_of_ble_eq_true rfl, Nat.le_of_ble_eq_true rfl⟩) hK hN hZ hP hD hS hA rfl rfl rfl rfl rfl rfl hl.1 rfl (lv_room (Nat.le_of_ble_eq_true rfl)) dX3_gather_19 ⟨Nat.le_of_ble_eq_true rfl, Nat.le_of_ble_eq_true rfl⟩ (fun H locs hP hD hS => ?_)
    have hP : va_P D vwCl [(a_t, .inr (3, [.ref a_t_reading, .ref a_t_times])), (a_p2, .inr (4, [.ref a_p2_way, .ref a_p2_guns, .ref a_p2_runners])), (a_p2_guns, .inr (2, [.ref a_p2_guns_ticks])), (a_p2_guns_ticks, .inl (cI, 6, .inl p2_guns_ticks)), (a_p2_runners, .inr (6, [.ref a_p2_runners_facts, .ref a_p2_runners_splits, .ref a_p2_runners_torn, .ref a_p2_runners_dropped, .ref a_p2_runners_waved, .ref a_p2_runners_struck, .ref a_p2_runners_strikingOrder, .int p2_runners_entered, .int p2_runners_strikings])), (a_p2_runners_dropped, .inl (cZ, 60, .inl p2_runners_dropped)), (a_p2_runners_facts, .inl (cI, 360, .inl p2_runners_facts)), (a_p2_runners_splits, .inl (cI, 720, .inl p2_runners_splits)), (a_p2_runners_struck, .inl (cZ, 60, .inl p2_runners_struck)), (a_p2_runners_waved, .inl (cZ, 60, .inl p2_runners_waved)), (a_p2_way, .inr (9, [.ref a_p2_way_places, .ref a_p2_way_bearings, .ref a_p2_way_cuts, .ref a_p2_way_deaths, .int p2_way_mats])), (a_p2_way_cuts, .inl (cI, 12, .inl p2_way_cuts)), (a_t_reading, .inr (5, [.ref a_t_reading_parts, .ref a_t_reading_signs, .ref a_t_reading_numbers, .int t_reading_laid_r3, .int t_reading_stage_r7, .int t_reading_open_r4, .int t_reading_digits_r2, .int t_reading_order_r5, .int t_reading_prizes_r6])), (a_t_reading_numbers, .inl (cI, 200, .inl t_reading_numbers_r8)), (a_t_reading_parts, .inl (cI, 200, .inl t_reading_parts_r9)), (a_t_reading_signs, .inl (cI, 200, .inl t_reading_signs_r10)), (a_p1, .inr (7, [.ref a_p1_bytes, .int p1_length])), (a_p1_bytes, .inl (cI, 200, .inl p1_bytes)), (a_t_times, .inl (cI, 60, .inl t_times_r13))] H := hP
    have hD : va_D A [(a_t, .inr (3, [.ref a_t_reading, .ref a_t_times])), (a_p2, .inr (4, [.ref a_p2_way, .ref a_p2_guns, .ref a_p2_runners])), (a_p2_guns, .inr (2, [.ref a_p2_guns_ticks])), (a_p2_guns_ticks, .inl (cI, 6, .inl p2_guns_ticks)), (a_p2_runners, .inr (6, [.ref a_p2_runners_facts, .ref a_p2_runners_splits, .ref a_p2_runners_torn, .ref a_p2_runners_dropped, .ref a_p2_runners_waved, .ref a_p2_runners_struck, .ref a_p2_runners_strikingOrder, .int p2_runners_entered, .int p2_runners_strikings])), (a_p2_runners_dropped, .inl (cZ, 60, .inl p2_runners_dropped)), (a_p2_runners_facts, .inl (cI, 360, .inl p2_runners_facts)), (a_p2_runners_splits, .inl (cI, 720, .inl p2_runners_splits)), (a_p2_runners_struck, .inl (cZ, 60, .inl p2_runners_struck)), (a_p2_runners_waved, .inl (cZ, 60, .inl p2_runners_waved)), (a_p2_way, .inr (9, [.ref a_p2_way_places, .ref a_p2_way_bearings, .ref a_p2_way_cuts, .ref a_p2_way_deaths, .int p2_way_mats])), (a_p2_way_cuts, .inl (cI, 12, .inl p2_way_cuts)), (a_t_reading, .inr (5, [.ref a_t_reading_parts, .ref a_t_reading_signs, .ref a_t_reading_numbers, .int t_reading_laid_r3, .int t_reading_stage_r7, .int t_reading_open_r4, .int t_reading_digits_r2, .int t_reading_order_r5, .int t_reading_prizes_r6])), (a_t_reading_numbers, .inl (cI, 200, .inl t_reading_numbers_r8)), (a_t_reading_parts, .inl (cI, 200, .inl t_reading_parts_r9)), (a_t_reading_signs, .inl (cI, 200, .inl t_reading_signs_r10)), (a_p1, .inr (7, [.ref a_p1_bytes, .int p1_length])), (a_p1_bytes, .inl (cI, 200, .inl p1_bytes)), (a_t_times, .inl (cI, 60, .inl t_times_r13))] := hD
    refine lv_iconst (v := (nI 0)) hx hb dX3_gather_22 rfl ?_
    refine lv_istore_n (lv' := [(3, .int (nI 0)), (0, .ref a_t), (1, .ref a_p1), (2, .ref a_p2)]) hx hb dX3_gather_23 rfl hl (by decide) rfl (fun ls hl => ?_)
    have X24_101 : ∀ (v3_24 : Int32) (t_times_l24 : Nat → Int32) (H : Heap) (locs : List Loc) (ls : Array Slot), some (true, t_reading_digits_r2, t_reading_laid_r3, t_reading_open_r4, t_reading_order_r5, t_reading_prizes_r6, t_reading_stage_r7, t_reading_numbers_r8, t_reading_parts_r9, t_reading_signs_r10, t_times_l24) = some (b0, t_reading_digits', t_reading_laid', t_reading_open', t_reading_order', t_reading_prizes', t_reading_stage', t_reading_numbers', t_reading_parts', t_reading_signs', t_times') → va_P D vwCl [(a_t, .inr (3, [.ref a_t_reading, .ref a_t_times])), (a_p2, .inr (4, [.ref a_p2_way, .ref a_p2_guns, .ref a_p2_runners])), (a_p2_guns, .inr (2, [.ref a_p2_guns_ticks])), (a_p2_guns_ticks, .inl (cI, 6, .inl p2_guns_ticks)), (a_p2_runners, .inr (6, [.ref a_p2_runners_facts, .ref a_p2_runners_splits, .ref a_p2_runners_torn, .ref a_p2_runners_dropped, .ref a_p2_runners_waved, .ref a_p2_runners_struck, .ref a_p2_runners_strikingOrder, .int p2_runners_entered, .int p2_runners_strikings])), (a_p2_runners_dropped, .inl (cZ, 60, .inl p2_runners_dropped)), (a_p2_runners_facts, .inl (cI, 360, .inl p2_runners_facts)), (a_p2_runners_splits, .inl (cI, 720, .inl p2_runners_splits)), (a_p2_runners_struck, .inl (cZ, 60, .inl p2_runners_struck)), (a_p2_runners_waved, .inl (cZ, 60, .inl p2_runners_waved)), (a_p2_way, .inr (9, [.ref a_p2_way_places, .ref a_p2_way_bearings, .ref a_p2_way_cuts, .ref a_p2_way_deaths, .int p2_way_mats])), (a_p2_way_cuts, .inl (cI, 12, .inl p2_way_cuts)), (a_t_reading, .inr (5, [.ref a_t_reading_parts, .ref a_t_reading_signs, .ref a_t_reading_numbers, .int t_reading_laid_r3, .int t_reading_stage_r7, .int t_reading_open_r4, .int t_reading_digits_r2, .int t_reading_order_r5, .int t_reading_prizes_r6])), (a_t_reading_numbers, .inl (cI, 200, .inl t_reading_numbers_r8)), (a_t_reading_parts, .inl (cI, 200, .inl t_reading_parts_r9)), (a_t_reading_signs, .inl (cI, 200, .inl t_reading_signs_r10)), (a_p1, .inr (7, [.ref a_p1_bytes, .int p1_length])), (a_p1_bytes, .inl (cI, 200, .inl p1_bytes)), (a_t_times, .inl (cI, 60, .inl t_times_l24))] H → va_D A [(a_t, .inr (3, [.ref a_t_reading, .ref a_t_times])), (a_p2, .inr (4, [.ref a_p2_way, .ref a_p2_guns, .ref a_p2_runners])), (a_p2_guns, .inr (2, [.ref a_p2_guns_ticks])), (a_p2_guns_ticks, .inl (cI, 6, .inl p2_guns_ticks)), (a_p2_runners, .inr (6, [.ref a_p2_runners_facts, .ref a_p2_runners_splits, .ref a_p2_runners_torn, .ref a_p2_runners_dropped, .ref a_p2_runners_waved, .ref a_p2_runners_struck, .ref a_p2_runners_strikingOrder, .int p2_runners_entered, .int p2_runners_strikings])), (a_p2_runners_dropped, .inl (cZ, 60, .inl p2_runners_dropped)), (a_p2_runners_facts, .inl (cI, 360, .inl p2_runners_facts)), (a_p2_runners_splits, .inl (cI, 720, .inl p2_runners_splits)), (a_p2_runners_struck, .inl (cZ, 60, .inl p2_runners_struck)), (a_p2_runners_waved, .inl (cZ, 60, .inl p2_runners_waved)), (a_p2_way, .inr (9, [.ref a_p2_way_places, .ref a_p2_way_bearings, .ref a_p2_way_cuts, .ref a_p2_way_deaths, .int p2_way_mats])), (a_p2_way_cuts, .inl (cI, 12, .inl p2_way_cuts)), (a_t_reading, .inr (5, [.ref a_t_reading_parts, .ref a_t_reading_signs, .ref a_t_reading_numbers, .int t_reading_laid_r3, .int t_reading_stage_r7, .int t_reading_open_r4, .int t_reading_digits_r2, .int t_reading_order_r5, .int t_reading_prizes_r6])), (a_t_reading_numbers, .inl (cI, 200, .inl t_reading_numbers_r8)), (a_t_reading_parts, .inl (cI, 200, .inl t_reading_parts_r9)), (a_t_reading_signs, .inl (cI, 200, .inl t_reading_signs_r10)), (a_p1, .inr (7, [.ref a_p1_bytes, .int p1_length])), (a_p1_bytes, .inl (cI, 200, .inl p1_bytes)), (a_t_times, .inl (cI, 60, .inl t_times_l24))] → va_S A s.heap H locs → lv_has ls 6 [(3, .int v3_24), (0, .ref a_t), (1, .ref a_p1), (2, .ref a_p2)] → W p l e (headSpec wsX3_gather ({ frames := 5, cells := 0, slots := 0, locals := 110 } : Room)).room s m #[Value.ref a_t, Value.ref a_p1, Value.ref a_p2] below meth c H locs 0 0 (MQ below (zQi (zb b0) D (zT cB cI cZ) [(a_t, .inr (3, [.ref a_t_reading, .ref a_t_times])), (a_t_reading, .inr (5, [.ref a_t_reading_parts, .ref a_t_reading_signs, .ref a_t_reading_numbers, .int t_reading_laid', .int t_reading_stage', .int t_reading_open', .int t_reading_digits', .int t_reading_order', .int t_reading_prizes'])), (a_t_reading_numbers, .inl (cI, 200, .inl t_reading_numbers')), (a_t_reading_parts, .inl (cI, 200, .inl t_reading_parts')), (a_t_reading_signs, .inl (cI, 200, .inl t_reading_signs')), (a_t_times, .inl (cI, 60, .inl t_times')), (a_p1, .inr (7, [.ref a_p1_bytes, .int p1_length])), (a_p1_bytes, .inl (cI, 200, .inl p1_bytes)), (a_p2, .inr (4, [.ref a_p2_way, .ref a_p2_guns, .ref a_p2_runners])), (a_p2_guns, .inr (2, [.ref a_p2_guns_ticks])), (a_p2_guns_ticks, .inl (cI, 6, .inl p2_guns_ticks)), (a_p2_runners, .inr (6, [.ref a_p2_runners_facts, .ref a_p2_runners_splits, .ref a_p2_runners_torn, .ref a_p2_runners_dropped, .ref a_p2_runners_waved, .ref a_p2_runners_struck, .ref a_p2_runners_strikingOrder, .int p2_runners_entered, .int p2_runners_strikings])), (a_p2_runners_dropped, .inl (cZ, 60, .inl p2_runners_dropped)), (a_p2_runners_facts, .inl (cI, 360, .inl p2_runners_facts)), (a_p2_runners_splits, .inl (cI, 720, .inl p2_runners_splits)), (a_p2_runners_struck, .inl (cZ, 60, .inl p2_runners_struck)), (a_p2_runners_waved, .inl (cZ, 60, .inl p2_runners_waved)), (a_p2_way, .inr (9, [.ref a_p2_way_places, .ref a_p2_way_bearings, .ref a_p2_way_cuts, .ref a_p2_way_deaths, .int p2_way_mats])), (a_p2_way_cuts, .inl (cI, 12, .inl p2_way_cuts))] A) #[Value.ref a_t, Value.ref a_p1, Value.ref a_p2] s 0 0 A) (F0 m 101 ls []) := by
      intro v3_24 t_times_l24 H locs ls h hP hD hS hl
      refine lv_iconst (v := (nI 1)) hx hb dX3_gather_101 rfl ?_
      obtain ⟨j0_, g_⟩ := Prod.mk.inj (Option.some.inj h)
      obtain ⟨j1_, g_⟩ := Prod.mk.inj g_
      obtain ⟨j2_, g_⟩ := Prod.mk.inj g_
      obtain ⟨j3_, g_⟩ := Prod.mk.inj g_
      obtain ⟨j4_, g_⟩ := Prod.mk.inj g_
      obtain ⟨j5_, g_⟩ := Prod.mk.inj g_
      obtain ⟨j6_, g_⟩ := Prod.mk.inj g_
      obtain ⟨j7_, g_⟩ := Prod.mk.inj g_
      obtain ⟨j8_, g_⟩ := Prod.mk.inj g_
      obtain ⟨j9_, g_⟩ := Prod.mk.inj g_
      have j10_ := g_
      subst j0_
      subst j1_
      subst j2_
      subst j3_
      subst j4_
      subst j5_
      subst j6_
      subst j7_
      subst j8_
      subst j9_
      subst j10_
      exact W.zret (v := (nI 1)) hx hb hr rfl (fun t ht hW => ⟨⟨_, (), rfl, rfl, zPost.of hP hD hK ht hW [0, 12, 13, 14, 15, 18, 16, 17, 1, 2, 3, 4, 5, 6, 7, 8, 9, 10, 11] rfl rfl rfl⟩, hS.F ht⟩) hS.2.2 dX3_gather_102
    have L24 : ∀ (n : Nat) (v3_24 : Int32) (t_times_l24 : Nat → Int32) (H : Heap) (locs : List Loc) (ls : Array Slot), fX3_gather_L24 N p2_guns_ticks p2_runners_entered p2_runners_dropped p2_runners_facts p2_runners_splits p2_runners_struck p2_runners_waved p2_way_mats p2_way_cuts t_reading_laid_r3 t_reading_order_r5 t_reading_numbers_r8 t_reading_parts_r9 t_reading_signs_r10 (fun (v3_24 : Int32) (t_times_l24 : Nat → Int32) => some (true, t_reading_digits_r2, t_reading_laid_r3, t_reading_open_r4, t_reading_order_r5, t_reading_prizes_r6, t_reading_stage_r7, t_reading_numbers_r8, t_reading_parts_r9, t_reading_signs_r10, t_times_l24)) n v3_24 t_times_l24 = some (b0, t_reading_digits', t_reading_laid', t_reading_open', t_reading_order', t_reading_prizes', t_reading_stage', t_reading_numbers', t_reading_parts', t_reading_signs', t_times') → va_P D vwCl [(a_t, .inr (3, [.ref a_t_reading, .ref a_t_times])), (a_p2, .inr (4, [.ref a_p2_way, .ref a_p2_guns, .ref a_p2_runners])), (a_p2_guns, .inr (2, [.ref a_p2_guns_ticks])), (a_p2_guns_ticks, .inl (cI, 6, .inl p2_guns_ticks)), (a_p2_runners, .inr (6, [.ref a_p2_runners_facts, .ref a_p2_runners_splits, .ref a_p2_runners_torn, .ref a_p2_runners_dropped, .ref a_p2_runners_waved, .ref a_p2_runners_struck, .ref a_p2_runners_strikingOrder, .int p2_runners_entered, .int p2_runners_strikings])), (a_p2_runners_dropped, .inl (cZ, 60, .inl p2_runners_dropped)), (a_p2_runners_facts, .inl (cI, 360, .inl p2_runners_facts)), (a_p2_runners_splits, .inl (cI, 720, .inl p2_runners_splits)), (a_p2_runners_struck, .inl (cZ, 60, .inl p2_runners_struck)), (a_p2_runners_waved, .inl (cZ, 60, .inl p2_runners_waved)), (a_p2_way, .inr (9, [.ref a_p2_way_places, .ref a_p2_way_bearings, .ref a_p2_way_cuts, .ref a_p2_way_deaths, .int p2_way_mats])), (a_p2_way_cuts, .inl (cI, 12, .inl p2_way_cuts)), (a_t_reading, .inr (5, [.ref a_t_reading_parts, .ref a_t_reading_signs, .ref a_t_reading_numbers, .int t_reading_laid_r3, .int t_reading_stage_r7, .int t_reading_open_r4, .int t_reading_digits_r2, .int t_reading_order_r5, .int t_reading_prizes_r6])), (a_t_reading_numbers, .inl (cI, 200, .inl t_reading_numbers_r8)), (a_t_reading_parts, .inl (cI, 200, .inl t_reading_parts_r9)), (a_t_reading_signs, .inl (cI, 200, .inl t_reading_signs_r10)), (a_p1, .inr (7, [.ref a_p1_bytes, .int p1_length])), (a_p1_bytes, .inl (cI, 200, .inl p1_bytes)), (a_t_times, .inl (cI, 60, .inl t_times_l24))] H → va_D A [(a_t, .inr (3, [.ref a_t_reading, .ref a_t_times])), (a_p2, .inr (4, [.ref a_p2_way, .ref a_p2_guns, .ref a_p2_runners])), (a_p2_guns, .inr (2, [.ref a_p2_guns_ticks])), (a_p2_guns_ticks, .inl (cI, 6, .inl p2_guns_ticks)), (a_p2_runners, .inr (6, [.ref a_p2_runners_facts, .ref a_p2_runners_splits, .ref a_p2_runners_torn, .ref a_p2_runners_dropped, .ref a_p2_runners_waved, .ref a_p2_runners_struck, .ref a_p2_runners_strikingOrder, .int p2_runners_entered, .int p2_runners_strikings])), (a_p2_runners_dropped, .inl (cZ, 60, .inl p2_runners_dropped)), (a_p2_runners_facts, .inl (cI, 360, .inl p2_runners_facts)), (a_p2_runners_splits, .inl (cI, 720, .inl p2_runners_splits)), (a_p2_runners_struck, .inl (cZ, 60, .inl p2_runners_struck)), (a_p2_runners_waved, .inl (cZ, 60, .inl p2_runners_waved)), (a_p2_way, .inr (9, [.ref a_p2_way_places, .ref a_p2_way_bearings, .ref a_p2_way_cuts, .ref a_p2_way_deaths, .int p2_way_mats])), (a_p2_way_cuts, .inl (cI, 12, .inl p2_way_cuts)), (a_t_reading, .inr (5, [.ref a_t_reading_parts, .ref a_t_reading_signs, .ref a_t_reading_numbers, .int t_reading_laid_r3, .int t_reading_stage_r7, .int t_reading_open_r4, .int t_reading_digits_r2, .int t_reading_order_r5, .int t_reading_prizes_r6])), (a_t_reading_numbers, .inl (cI, 200, .inl t_reading_numbers_r8)), (a_t_reading_parts, .inl (cI, 200, .inl t_reading_parts_r9)), (a_t_reading_signs, .inl (cI, 200, .inl t_reading_signs_r10)), (a_p1, .inr (7, [.ref a_p1_bytes, .int p1_length])), (a_p1_bytes, .inl (cI, 200, .inl p1_bytes)), (a_t_times, .inl (cI, 60, .inl t_times_l24))] → va_S A s.heap H locs → lv_has ls 6 [(3, .int v3_24), (0, .ref a_t), (1, .ref a_p1), (2, .ref a_p2)] → W p l e (headSpec wsX3_gather ({ frames := 5, cells := 0, slots := 0, locals := 110 } : Room)).room s m #[Value.ref a_t, Value.ref a_p1, Value.ref a_p2] below meth c H locs 0 0 (MQ below (zQi (zb b0) D (zT cB cI cZ) [(a_t, .inr (3, [.ref a_t_reading, .ref a_t_times])), (a_t_reading, .inr (5, [.ref a_t_reading_parts, .ref a_t_reading_signs, .ref a_t_reading_numbers, .int t_reading_laid', .int t_reading_stage', .int t_reading_open', .int t_reading_digits', .int t_reading_order', .int t_reading_prizes'])), (a_t_reading_numbers, .inl (cI, 200, .inl t_reading_numbers')), (a_t_reading_parts, .inl (cI, 200, .inl t_reading_parts')), (a_t_reading_signs, .inl (cI, 200, .inl t_reading_signs')), (a_t_times, .inl (cI, 60, .inl t_times')), (a_p1, .inr (7, [.ref a_p1_bytes, .int p1_length])), (a_p1_bytes, .inl (cI, 200, .inl p1_bytes)), (a_p2, .inr (4, [.ref a_p2_way, .ref a_p2_guns, .ref a_p2_runners])), (a_p2_guns, .inr (2, [.ref a_p2_guns_ticks])), (a_p2_guns_ticks, .inl (cI, 6, .inl p2_guns_ticks)), (a_p2_runners, .inr (6, [.ref a_p2_runners_facts, .ref a_p2_runners_splits, .ref a_p2_runners_torn, .ref a_p2_runners_dropped, .ref a_p2_runners_waved, .ref a_p2_runners_struck, .ref a_p2_runners_strikingOrder, .int p2_runners_entered, .int p2_runners_strikings])), (a_p2_runners_dropped, .inl (cZ, 60, .inl p2_runners_dropped)), (a_p2_runners_facts, .inl (cI, 360, .inl p2_runners_facts)), (a_p2_runners_splits, .inl (cI, 720, .inl p2_runners_splits)), (a_p2_runners_struck, .inl (cZ, 60, .inl p2_runners_struck)), (a_p2_runners_waved, .inl (cZ, 60, .inl p2_runners_waved)), (a_p2_way, .inr (9, [.ref a_p2_way_places, .ref a_p2_way_bearings, .ref a_p2_way_cuts, .ref a_p2_way_deaths, .int p2_way_mats])), (a_p2_way_cuts, .inl (cI, 12, .inl p2_way_cuts))] A) #[Value.ref a_t, Value.ref a_p1, Value.ref a_p2] s 0 0 A) (F0 m 24 ls []) := by
      intro n
      induction n with
      | zero => intro _ _ H locs ls h hP hD hS hl; cases h
      | succ n24 ih24 =>
        intro v3_24 t_times_l24 H locs ls h hP hD hS hl
        rw [fX3_gather_L24.eq_2] at h
        refine lv_iload_n hx hb dX3_gather_24 rfl (lv_at hl 0 rfl) ?_
        refine lv_aload_n hx hb dX3_gather_25 rfl (lv_at hl 3 rfl) ?_
        refine va_getN (host := "RunDesk") (D := D) (ci := 4) (C := RX4) (T := TX4) (N := 3) hx hb hts qX3_gather_X4 hown hK hP 1 rfl rfl 2 (by decide) (va_Nw.use rfl (hN _ (List.mem_of_getElem? (i := 9) rfl))) (fun _ h9 => h9) rfl dX3_gather_26 ?_
        obtain ⟨r15, e16, h⟩ := zz_b h
        refine zVi (As := []) (rest := [.int v3_24]) (C := RX6) (wr := [(a_t, .inr (3, [.ref a_t_reading, .ref a_t_times])), (a_p2, .inr (4, [.ref a_p2_way, .ref a_p2_guns, .ref a_p2_runners])), (a_p2_guns, .inr (2, [.ref a_p2_guns_ticks])), (a_p2_guns_ticks, .inl (cI, 6, .inl p2_guns_ticks)), (a_p2_runners_dropped, .inl (cZ, 60, .inl p2_runners_dropped)), (a_p2_runners_facts, .inl (cI, 360, .inl p2_runners_facts)), (a_p2_runners_splits, .inl (cI, 720, .inl p2_runners_splits)), (a_p2_runners_struck, .inl (cZ, 60, .inl p2_runners_struck)), (a_p2_runners_waved, .inl (cZ, 60, .inl p2_runners_waved)), (a_p2_way, .inr (9, [.ref a_p2_way_places, .ref a_p2_way_bearings, .ref a_p2_way_cuts, .ref a_p2_way_deaths, .int p2_way_mats])), (a_p2_way_cuts, .inl (cI, 12, .inl p2_way_cuts)), (a_t_reading, .inr (5, [.ref a_t_reading_parts, .ref a_t_reading_signs, .ref a_t_reading_numbers, .int t_reading_laid_r3, .int t_reading_stage_r7, .int t_reading_open_r4, .int t_reading_digits_r2, .int t_reading_order_r5, .int t_reading_prizes_r6])), (a_t_reading_numbers, .inl (cI, 200, .inl t_reading_numbers_r8)), (a_t_reading_parts, .inl (cI, 200, .inl t_reading_parts_r9)), (a_t_reading_signs, .inl (cI, 200, .inl t_reading_signs_r10)), (a_p1, .inr (7, [.ref a_p1_bytes, .int p1_length])), (a_p1_bytes, .inl (cI, 200, .inl p1_bytes)), (a_t_times, .inl (cI, 60, .inl t_times_l24))]) [4] [0, 1, 2, 3, 5, 6, 7, 8, 9, 10, 11, 12, 13, 14, 15, 16, 17, 18] 0 ⟨hx, hb, hml, hown, hts⟩ (mX6_size l D cB cI cZ a_p2_runners a_p2_runners_facts a_p2_runners_splits a_p2_runners_torn a_p2_runners_dropped a_p2_runners_waved a_p2_runners_struck a_p2_runners_strikingOrder p2_runners_entered p2_runners_strikings H.size r15 e16) (cwV 0 hts gX3_gather_X6_size rfl rfl rfl (by decide +kernel) ⟨Nat.le_of_ble_eq_true rfl, Nat.le_of_ble_eq_true rfl⟩) hK hN hZ hP hD hS hA rfl rfl rfl rfl rfl rfl rfl rfl hl.1 rfl (lv_room (Nat.le_of_ble_eq_true rfl)) dX3_gather_29 ⟨Nat.le_of_ble_eq_true rfl, Nat.le_of_ble_eq_true rfl⟩ (fun H locs hP hD hS => ?_)
        have hP : va_P D vwCl [(a_t, .inr (3, [.ref a_t_reading, .ref a_t_times])), (a_p2, .inr (4, [.ref a_p2_way, .ref a_p2_guns, .ref a_p2_runners])), (a_p2_guns, .inr (2, [.ref a_p2_guns_ticks])), (a_p2_guns_ticks, .inl (cI, 6, .inl p2_guns_ticks)), (a_p2_runners_dropped, .inl (cZ, 60, .inl p2_runners_dropped)), (a_p2_runners_facts, .inl (cI, 360, .inl p2_runners_facts)), (a_p2_runners_splits, .inl (cI, 720, .inl p2_runners_splits)), (a_p2_runners_struck, .inl (cZ, 60, .inl p2_runners_struck)), (a_p2_runners_waved, .inl (cZ, 60, .inl p2_runners_waved)), (a_p2_way, .inr (9, [.ref a_p2_way_places, .ref a_p2_way_bearings, .ref a_p2_way_cuts, .ref a_p2_way_deaths, .int p2_way_mats])), (a_p2_way_cuts, .inl (cI, 12, .inl p2_way_cuts)), (a_t_reading, .inr (5, [.ref a_t_reading_parts, .ref a_t_reading_signs, .ref a_t_reading_numbers, .int t_reading_laid_r3, .int t_reading_stage_r7, .int t_reading_open_r4, .int t_reading_digits_r2, .int t_reading_order_r5, .int t_reading_prizes_r6])), (a_t_reading_numbers, .inl (cI, 200, .inl t_reading_numbers_r8)), (a_t_reading_parts, .inl (cI, 200, .inl t_reading_parts_r9)), (a_t_reading_signs, .inl (cI, 200, .inl t_reading_signs_r10)), (a_p1, .inr (7, [.ref a_p1_bytes, .int p1_length])), (a_p1_bytes, .inl (cI, 200, .inl p1_bytes)), (a_t_times, .inl (cI, 60, .inl t_times_l24)), (a_p2_runners, .inr (6, [.ref a_p2_runners_facts, .ref a_p2_runners_splits, .ref a_p2_runners_torn, .ref a_p2_runners_dropped, .ref a_p2_runners_waved, .ref a_p2_runners_struck, .ref a_p2_runners_strikingOrder, .int p2_runners_entered, .int p2_runners_strikings]))] H := hP
        have hD : va_D A [(a_t, .inr (3, [.ref a_t_reading, .ref a_t_times])), (a_p2, .inr (4, [.ref a_p2_way, .ref a_p2_guns, .ref a_p2_runners])), (a_p2_guns, .inr (2, [.ref a_p2_guns_ticks])), (a_p2_guns_ticks, .inl (cI, 6, .inl p2_guns_ticks)), (a_p2_runners_dropped, .inl (cZ, 60, .inl p2_runners_dropped)), (a_p2_runners_facts, .inl (cI, 360, .inl p2_runners_facts)), (a_p2_runners_splits, .inl (cI, 720, .inl p2_runners_splits)), (a_p2_runners_struck, .inl (cZ, 60, .inl p2_runners_struck)), (a_p2_runners_waved, .inl (cZ, 60, .inl p2_runners_waved)), (a_p2_way, .inr (9, [.ref a_p2_way_places, .ref a_p2_way_bearings, .ref a_p2_way_cuts, .ref a_p2_way_deaths, .int p2_way_mats])), (a_p2_way_cuts, .inl (cI, 12, .inl p2_way_cuts)), (a_t_reading, .inr (5, [.ref a_t_reading_parts, .ref a_t_reading_signs, .ref a_t_reading_numbers, .int t_reading_laid_r3, .int t_reading_stage_r7, .int t_reading_open_r4, .int t_reading_digits_r2, .int t_reading_order_r5, .int t_reading_prizes_r6])), (a_t_reading_numbers, .inl (cI, 200, .inl t_reading_numbers_r8)), (a_t_reading_parts, .inl (cI, 200, .inl t_reading_parts_r9)), (a_t_reading_signs, .inl (cI, 200, .inl t_reading_signs_r10)), (a_p1, .inr (7, [.ref a_p1_bytes, .int p1_length])), (a_p1_bytes, .inl (cI, 200, .inl p1_bytes)), (a_t_times, .inl (cI, 60, .inl t_times_l24)), (a_p2_runners, .inr (6, [.ref a_p2_runners_facts, .ref a_p2_runners_splits, .ref a_p2_runners_torn, .ref a_p2_runners_dropped, .ref a_p2_runners_waved, .ref a_p2_runners_struck, .ref a_p2_runners_strikingOrder, .int p2_runners_entered, .int p2_runners_strikings]))] := hD
        refine lv_icmp_ge (tgt := 101) hx hb dX3_gather_32 (by decide) (fun c17 => ?_) (fun c17 => ?_)
        · have h := zz_t h c17
          exact X24_101 v3_24 t_times_l24 _ _ _ h (hP.sub [0, 1, 2, 3, 18, 4, 5, 6, 7, 8, 9, 10, 11, 12, 13, 14, 15, 16, 17] rfl) (hD.sub [0, 1, 2, 3, 18, 4, 5, 6, 7, 8, 9, 10, 11, 12, 13, 14, 15, 16, 17] rfl rfl) hS (lv_sub hl [0, 1, 2, 3] rfl)
        · have h := zz_f h c17
          refine lv_iload_n hx hb dX3_gather_35 rfl (lv_at hl 0 rfl) ?_
          refine lv_bipush (v := (nI 60)) hx hb dX3_gather_36 rfl ?_
          refine lv_icmp_ge (tgt := 101) hx hb dX3_gather_38 (by decide) (fun c18 => ?_) (fun c18 => ?_)
          · have h := zz_t h c18
            exact X24_101 v3_24 t_times_l24 _ _ _ h (hP.sub [0, 1, 2, 3, 18, 4, 5, 6, 7, 8, 9, 10, 11, 12, 13, 14, 15, 16, 17] rfl) (hD.sub [0, 1, 2, 3, 18, 4, 5, 6, 7, 8, 9, 10, 11, 12, 13, 14, 15, 16, 17] rfl rfl) hS (lv_sub hl [0, 1, 2, 3] rfl)
          · have h := zz_f h c18
            refine lv_aload_n hx hb dX3_gather_41 rfl (lv_at hl 1 rfl) ?_
            refine va_get (D := D) (ci := 3) (C := RX3) (T := TX3) (N := 2) hx hb hts qX3_gather_X3 hown hK hP 0 rfl rfl 0 (by decide) (hts _ kX3_gather_0) (fun _ h9 => h9) rfl dX3_gather_42 ?_
            refine lv_aload_n hx hb dX3_gather_45 rfl (lv_at hl 3 rfl) ?_
            refine lv_iload_n hx hb dX3_gather_46 rfl (lv_at hl 0 rfl) ?_
            obtain ⟨b19, e20, h⟩ := zz_b h
            refine zVi (As := [.ref a_p2, .int v3_24]) (rest := []) (C := RX5) (wr := [(a_t, .inr (3, [.ref a_t_reading, .ref a_t_times])), (a_p2_guns, .inr (2, [.ref a_p2_guns_ticks])), (a_p2_guns_ticks, .inl (cI, 6, .inl p2_guns_ticks)), (a_p2_runners_dropped, .inl (cZ, 60, .inl p2_runners_dropped)), (a_p2_runners_splits, .inl (cI, 720, .inl p2_runners_splits)), (a_p2_runners_struck, .inl (cZ, 60, .inl p2_runners_struck)), (a_p2_runners_waved, .inl (cZ, 60, .inl p2_runners_waved)), (a_p2_way, .inr (9, [.ref a_p2_way_places, .ref a_p2_way_bearings, .ref a_p2_way_cuts, .ref a_p2_way_deaths, .int p2_way_mats])), (a_p2_way_cuts, .inl (cI, 12, .inl p2_way_cuts)), (a_p1, .inr (7, [.ref a_p1_bytes, .int p1_length])), (a_p1_bytes, .inl (cI, 200, .inl p1_bytes)), (a_t_times, .inl (cI, 60, .inl t_times_l24))]) [11, 12, 13, 14, 1, 18, 5] [0, 2, 3, 4, 6, 7, 8, 9, 10, 15, 16, 17] 0 ⟨hx, hb, hml, hown, hts⟩ (mX5_holdsFor l D cB cI cZ a_t_reading a_p2 a_t_reading_parts a_t_reading_signs a_t_reading_numbers a_p2_way a_p2_guns a_p2_runners a_p2_runners_facts a_p2_runners_splits a_p2_runners_torn a_p2_runners_dropped a_p2_runners_waved a_p2_runners_struck a_p2_runners_strikingOrder t_reading_laid_r3 t_reading_stage_r7 t_reading_open_r4 t_reading_digits_r2 t_reading_order_r5 t_reading_prizes_r6 t_reading_numbers_r8 t_reading_parts_r9 t_reading_signs_r10 p2_runners_entered p2_runners_strikings p2_runners_facts H.size v3_24 N b19 e20) (cwV 2 hts gX3_gather_X5_holdsFor rfl rfl rfl (by decide +kernel) ⟨Nat.le_of_ble_eq_true rfl, Nat.le_of_ble_eq_true rfl⟩) hK hN hZ hP hD hS hA rfl rfl rfl rfl rfl rfl rfl rfl hl.1 rfl (lv_room (Nat.le_of_ble_eq_true rfl)) dX3_gather_47 ⟨Nat.le_of_ble_eq_true rfl, Nat.le_of_ble_eq_true rfl⟩ (fun H locs hP hD hS => ?_)
            have hP : va_P D vwCl [(a_t, .inr (3, [.ref a_t_reading, .ref a_t_times])), (a_p2_guns, .inr (2, [.ref a_p2_guns_ticks])), (a_p2_guns_ticks, .inl (cI, 6, .inl p2_guns_ticks)), (a_p2_runners_dropped, .inl (cZ, 60, .inl p2_runners_dropped)), (a_p2_runners_splits, .inl (cI, 720, .inl p2_runners_splits)), (a_p2_runners_struck, .inl (cZ, 60, .inl p2_runners_struck)), (a_p2_runners_waved, .inl (cZ, 60, .inl p2_runners_waved)), (a_p2_way, .inr (9, [.ref a_p2_way_places, .ref a_p2_way_bearings, .ref a_p2_way_cuts, .ref a_p2_way_deaths, .int p2_way_mats])), (a_p2_way_cuts, .inl (cI, 12, .inl p2_way_cuts)), (a_p1, .inr (7, [.ref a_p1_bytes, .int p1_length])), (a_p1_bytes, .inl (cI, 200, .inl p1_bytes)), (a_t_times, .inl (cI, 60, .inl t_times_l24)), (a_t_reading, .inr (5, [.ref a_t_reading_parts, .ref a_t_reading_signs, .ref a_t_reading_numbers, .int t_reading_laid_r3, .int t_reading_stage_r7, .int t_reading_open_r4, .int t_reading_digits_r2, .int t_reading_order_r5, .int t_reading_prizes_r6])), (a_t_reading_numbers, .inl (cI, 200, .inl t_reading_numbers_r8)), (a_t_reading_parts, .inl (cI, 200, .inl t_reading_parts_r9)), (a_t_reading_signs, .inl (cI, 200, .inl t_reading_signs_r10)), (a_p2, .inr (4, [.ref a_p2_way, .ref a_p2_guns, .ref a_p2_runners])), (a_p2_runners, .inr (6, [.ref a_p2_runners_facts, .ref a_p2_runners_splits, .ref a_p2_runners_torn, .ref a_p2_runners_dropped, .ref a_p2_runners_waved, .ref a_p2_runners_struck, .ref a_p2_runners_strikingOrder, .int p2_runners_entered, .int p2_runners_strikings])), (a_p2_runners_facts, .inl (cI, 360, .inl p2_runners_facts))] H := hP
            have hD : va_D A [(a_t, .inr (3, [.ref a_t_reading, .ref a_t_times])), (a_p2_guns, .inr (2, [.ref a_p2_guns_ticks])), (a_p2_guns_ticks, .inl (cI, 6, .inl p2_guns_ticks)), (a_p2_runners_dropped, .inl (cZ, 60, .inl p2_runners_dropped)), (a_p2_runners_splits, .inl (cI, 720, .inl p2_runners_splits)), (a_p2_runners_struck, .inl (cZ, 60, .inl p2_runners_struck)), (a_p2_runners_waved, .inl (cZ, 60, .inl p2_runners_waved)), (a_p2_way, .inr (9, [.ref a_p2_way_places, .ref a_p2_way_bearings, .ref a_p2_way_cuts, .ref a_p2_way_deaths, .int p2_way_mats])), (a_p2_way_cuts, .inl (cI, 12, .inl p2_way_cuts)), (a_p1, .inr (7, [.ref a_p1_bytes, .int p1_length])), (a_p1_bytes, .inl (cI, 200, .inl p1_bytes)), (a_t_times, .inl (cI, 60, .inl t_times_l24)), (a_t_reading, .inr (5, [.ref a_t_reading_parts, .ref a_t_reading_signs, .ref a_t_reading_numbers, .int t_reading_laid_r3, .int t_reading_stage_r7, .int t_reading_open_r4, .int t_reading_digits_r2, .int t_reading_order_r5, .int t_reading_prizes_r6])), (a_t_reading_numbers, .inl (cI, 200, .inl t_reading_numbers_r8)), (a_t_reading_parts, .inl (cI, 200, .inl t_reading_parts_r9)), (a_t_reading_signs, .inl (cI, 200, .inl t_reading_signs_r10)), (a_p2, .inr (4, [.ref a_p2_way, .ref a_p2_guns, .ref a_p2_runners])), (a_p2_runners, .inr (6, [.ref a_p2_runners_facts, .ref a_p2_runners_splits, .ref a_p2_runners_torn, .ref a_p2_runners_dropped, .ref a_p2_runners_waved, .ref a_p2_runners_struck, .ref a_p2_runners_strikingOrder, .int p2_runners_entered, .int p2_runners_strikings])), (a_p2_runners_facts, .inl (cI, 360, .inl p2_runners_facts))] := hD
            refine lv_if_eq (tgt := 95) hx hb dX3_gather_50 (by decide) (fun c21 => ?_) (fun c21 => ?_)
            · have h := zz_t h c21
              refine lv_iinc (v := (v3_24 + (nI 1))) (lv' := [(3, .int (v3_24 + (nI 1))), (0, .ref a_t), (1, .ref a_p1), (2, .ref a_p2)]) hx hb dX3_gather_95 hl (k := 0) rfl rfl (by decide) rfl (fun ls hl => ?_)
              refine lv_goto (tgt := 24) hx hb dX3_gather_98 (by decide) ?_
              exact ih24 (v3_24 + (nI 1)) t_times_l24 _ _ _ h (hP.sub [0, 16, 1, 2, 17, 3, 18, 4, 5, 6, 7, 8, 12, 13, 14, 15, 9, 10, 11] rfl) (hD.sub [0, 16, 1, 2, 17, 3, 18, 4, 5, 6, 7, 8, 12, 13, 14, 15, 9, 10, 11] rfl rfl) hS (lv_sub hl [0, 1, 2, 3] rfl)
            · have h := zz_f h c21
              refine lv_aload_n hx hb dX3_gather_53 rfl (lv_at hl 1 rfl) ?_
              refine va_get (D := D) (ci := 3) (C := RX3) (T := TX3) (N := 2) hx hb hts qX3_gather_X3 hown hK hP 0 rfl rfl 0 (by decide) (hts _ kX3_gather_0) (fun _ h9 => h9) rfl dX3_gather_54 ?_
              obtain ⟨b22, e23, h⟩ := zz_b h
              refine zVi (As := []) (rest := []) (C := RX5) (wr := [(a_t, .inr (3, [.ref a_t_reading, .ref a_t_times])), (a_p2_guns, .inr (2, [.ref a_p2_guns_ticks])), (a_p2_guns_ticks, .inl (cI, 6, .inl p2_guns_ticks)), (a_p2_runners_dropped, .inl (cZ, 60, .inl p2_runners_dropped)), (a_p2_runners_splits, .inl (cI, 720, .inl p2_runners_splits)), (a_p2_runners_struck, .inl (cZ, 60, .inl p2_runners_struck)), (a_p2_runners_waved, .inl (cZ, 60, .inl p2_runners_waved)), (a_p2_way, .inr (9, [.ref a_p2_way_places, .ref a_p2_way_bearings, .ref a_p2_way_cuts, .ref a_p2_way_deaths, .int p2_way_mats])), (a_p2_way_cuts, .inl (cI, 12, .inl p2_way_cuts)), (a_p1, .inr (7, [.ref a_p1_bytes, .int p1_length])), (a_p1_bytes, .inl (cI, 200, .inl p1_bytes)), (a_t_times, .inl (cI, 60, .inl t_times_l24)), (a_t_reading_numbers, .inl (cI, 200, .inl t_reading_numbers_r8)), (a_t_reading_parts, .inl (cI, 200, .inl t_reading_parts_r9)), (a_t_reading_signs, .inl (cI, 200, .inl t_reading_signs_r10)), (a_p2, .inr (4, [.ref a_p2_way, .ref a_p2_guns, .ref a_p2_runners])), (a_p2_runners, .inr (6, [.ref a_p2_runners_facts, .ref a_p2_runners_splits, .ref a_p2_runners_torn, .ref a_p2_runners_dropped, .ref a_p2_runners_waved, .ref a_p2_runners_struck, .ref a_p2_runners_strikingOrder, .int p2_runners_entered, .int p2_runners_strikings])), (a_p2_runners_facts, .inl (cI, 360, .inl p2_runners_facts))]) [12] [0, 1, 2, 3, 4, 5, 6, 7, 8, 9, 10, 11, 13, 14, 15, 16, 17, 18] 0 ⟨hx, hb, hml, hown, hts⟩ (mX5_ordersByGunTime l D cB cI cZ a_t_reading a_t_reading_parts a_t_reading_signs a_t_reading_numbers t_reading_laid_r3 t_reading_stage_r7 t_reading_open_r4 t_reading_digits_r2 t_reading_order_r5 t_reading_prizes_r6 H.size b22 e23) (cwV 0 hts gX3_gather_X5_ordersByGunTime rfl rfl rfl (by decide +kernel) ⟨Nat.le_of_ble_eq_true rfl, Nat.le_of_ble_eq_true rfl⟩) hK hN hZ hP hD hS hA rfl rfl rfl rfl rfl rfl rfl rfl hl.1 rfl (lv_room (Nat.le_of_ble_eq_true rfl)) dX3_gather_57 ⟨Nat.le_of_ble_eq_true rfl, Nat.le_of_ble_eq_true rfl⟩ (fun H locs hP hD hS => ?_)
              have hP : va_P D vwCl [(a_t, .inr (3, [.ref a_t_reading, .ref a_t_times])), (a_p2_guns, .inr (2, [.ref a_p2_guns_ticks])), (a_p2_guns_ticks, .inl (cI, 6, .inl p2_guns_ticks)), (a_p2_runners_dropped, .inl (cZ, 60, .inl p2_runners_dropped)), (a_p2_runners_splits, .inl (cI, 720, .inl p2_runners_splits)), (a_p2_runners_struck, .inl (cZ, 60, .inl p2_runners_struck)), (a_p2_runners_waved, .inl (cZ, 60, .inl p2_runners_waved)), (a_p2_way, .inr (9, [.ref a_p2_way_places, .ref a_p2_way_bearings, .ref a_p2_way_cuts, .ref a_p2_way_deaths, .int p2_way_mats])), (a_p2_way_cuts, .inl (cI, 12, .inl p2_way_cuts)), (a_p1, .inr (7, [.ref a_p1_bytes, .int p1_length])), (a_p1_bytes, .inl (cI, 200, .inl p1_bytes)), (a_t_times, .inl (cI, 60, .inl t_times_l24)), (a_t_reading_numbers, .inl (cI, 200, .inl t_reading_numbers_r8)), (a_t_reading_parts, .inl (cI, 200, .inl t_reading_parts_r9)), (a_t_reading_signs, .inl (cI, 200, .inl t_reading_signs_r10)), (a_p2, .inr (4, [.ref a_p2_way, .ref a_p2_guns, .ref a_p2_runners])), (a_p2_runners, .inr (6, [.ref a_p2_runners_facts, .ref a_p2_runners_splits, .ref a_p2_runners_torn, .ref a_p2_runners_dropped, .ref a_p2_runners_waved, .ref a_p2_runners_struck, .ref a_p2_runners_strikingOrder, .int p2_runners_entered, .int p2_runners_strikings])), (a_p2_runners_facts, .inl (cI, 360, .inl p2_runners_facts)), (a_t_reading, .inr (5, [.ref a_t_reading_parts, .ref a_t_reading_signs, .ref a_t_reading_numbers, .int t_reading_laid_r3, .int t_reading_stage_r7, .int t_reading_open_r4, .int t_reading_digits_r2, .int t_reading_order_r5, .int t_reading_prizes_r6]))] H := hP
              have hD : va_D A [(a_t, .inr (3, [.ref a_t_reading, .ref a_t_times])), (a_p2_guns, .inr (2, [.ref a_p2_guns_ticks])), (a_p2_guns_ticks, .inl (cI, 6, .inl p2_guns_ticks)), (a_p2_runners_dropped, .inl (cZ, 60, .inl p2_runners_dropped)), (a_p2_runners_splits, .inl (cI, 720, .inl p2_runners_splits)), (a_p2_runners_struck, .inl (cZ, 60, .inl p2_runners_struck)), (a_p2_runners_waved, .inl (cZ, 60, .inl p2_runners_waved)), (a_p2_way, .inr (9, [.ref a_p2_way_places, .ref a_p2_way_bearings, .ref a_p2_way_cuts, .ref a_p2_way_deaths, .int p2_way_mats])), (a_p2_way_cuts, .inl (cI, 12, .inl p2_way_cuts)), (a_p1, .inr (7, [.ref a_p1_bytes, .int p1_length])), (a_p1_bytes, .inl (cI, 200, .inl p1_bytes)), (a_t_times, .inl (cI, 60, .inl t_times_l24)), (a_t_reading_numbers, .inl (cI, 200, .inl t_reading_numbers_r8)), (a_t_reading_parts, .inl (cI, 200, .inl t_reading_parts_r9)), (a_t_reading_signs, .inl (cI, 200, .inl t_reading_signs_r10)), (a_p2, .inr (4, [.ref a_p2_way, .ref a_p2_guns, .ref a_p2_runners])), (a_p2_runners, .inr (6, [.ref a_p2_runners_facts, .ref a_p2_runners_splits, .ref a_p2_runners_torn, .ref a_p2_runners_dropped, .ref a_p2_runners_waved, .ref a_p2_runners_struck, .ref a_p2_runners_strikingOrder, .int p2_runners_entered, .int p2_runners_strikings])), (a_p2_runners_facts, .inl (cI, 360, .inl p2_runners_facts)), (a_t_reading, .inr (5, [.ref a_t_reading_parts, .ref a_t_reading_signs, .ref a_t_reading_numbers, .int t_reading_laid_r3, .int t_reading_stage_r7, .int t_reading_open_r4, .int t_reading_digits_r2, .int t_reading_order_r5, .int t_reading_prizes_r6]))] := hD
              refine lv_istore (lv' := [(4, .int (zb b22)), (3, .int v3_24), (0, .ref a_t), (1, .ref a_p1), (2, .ref a_p2)]) hx hb dX3_gather_60 hl (by decide) rfl (fun ls hl => ?_)
              refine lv_iload hx hb dX3_gather_62 (lv_at hl 0 rfl) ?_
              refine lv_if_eq (tgt := 75) hx hb dX3_gather_64 (by decide) (fun c24 => ?_) (fun c24 => ?_)
              · have h := zz_t h c24
                refine lv_aload_n hx hb dX3_gather_75 rfl (lv_at hl 4 rfl) ?_
                refine lv_iload_n hx hb dX3_gather_76 rfl (lv_at hl 1 rfl) ?_
                obtain ⟨r25, e26, h⟩ := zz_b h
                refine zVi (As := [.int v3_24]) (rest := []) (C := RX4) (wr := [(a_t, .inr (3, [.ref a_t_reading, .ref a_t_times])), (a_p2_runners_dropped, .inl (cZ, 60, .inl p2_runners_dropped)), (a_p2_runners_struck, .inl (cZ, 60, .inl p2_runners_struck)), (a_p2_runners_waved, .inl (cZ, 60, .inl p2_runners_waved)), (a_p2_way, .inr (9, [.ref a_p2_way_places, .ref a_p2_way_bearings, .ref a_p2_way_cuts, .ref a_p2_way_deaths, .int p2_way_mats])), (a_p2_way_cuts, .inl (cI, 12, .inl p2_way_cuts)), (a_p1, .inr (7, [.ref a_p1_bytes, .int p1_length])), (a_p1_bytes, .inl (cI, 200, .inl p1_bytes)), (a_t_times, .inl (cI, 60, .inl t_times_l24)), (a_t_reading_numbers, .inl (cI, 200, .inl t_reading_numbers_r8)), (a_t_reading_parts, .inl (cI, 200, .inl t_reading_parts_r9)), (a_t_reading_signs, .inl (cI, 200, .inl t_reading_signs_r10)), (a_t_reading, .inr (5, [.ref a_t_reading_parts, .ref a_t_reading_signs, .ref a_t_reading_numbers, .int t_reading_laid_r3, .int t_reading_stage_r7, .int t_reading_open_r4, .int t_reading_digits_r2, .int t_reading_order_r5, .int t_reading_prizes_r6]))]) [15, 1, 2, 16, 17, 4] [0, 3, 5, 6, 7, 8, 9, 10, 11, 12, 13, 14, 18] 0 ⟨hx, hb, hml, hown, hts⟩ (mX4_startOf l D cB cI cZ a_p2 a_p2_way a_p2_guns a_p2_runners a_p2_guns_ticks a_p2_runners_facts a_p2_runners_splits a_p2_runners_torn a_p2_runners_dropped a_p2_runners_waved a_p2_runners_struck a_p2_runners_strikingOrder p2_guns_ticks p2_runners_entered p2_runners_strikings p2_runners_facts p2_runners_splits H.size v3_24 r25 e26) (cwV 1 hts gX3_gather_X4_startOf rfl rfl rfl (by decide +kernel) ⟨Nat.le_of_ble_eq_true rfl, Nat.le_of_ble_eq_true rfl⟩) hK hN hZ hP hD hS hA rfl rfl rfl rfl rfl rfl rfl rfl hl.1 rfl (lv_room (Nat.le_of_ble_eq_true rfl)) dX3_gather_77 ⟨Nat.le_of_ble_eq_true rfl, Nat.le_of_ble_eq_true rfl⟩ (fun H locs hP hD hS => ?_)
                have hP : va_P D vwCl [(a_t, .inr (3, [.ref a_t_reading, .ref a_t_times])), (a_p2_runners_dropped, .inl (cZ, 60, .inl p2_runners_dropped)), (a_p2_runners_struck, .inl (cZ, 60, .inl p2_runners_struck)), (a_p2_runners_waved, .inl (cZ, 60, .inl p2_runners_waved)), (a_p2_way, .inr (9, [.ref a_p2_way_places, .ref a_p2_way_bearings, .ref a_p2_way_cuts, .ref a_p2_way_deaths, .int p2_way_mats])), (a_p2_way_cuts, .inl (cI, 12, .inl p2_way_cuts)), (a_p1, .inr (7, [.ref a_p1_bytes, .int p1_length])), (a_p1_bytes, .inl (cI, 200, .inl p1_bytes)), (a_t_times, .inl (cI, 60, .inl t_times_l24)), (a_t_reading_numbers, .inl (cI, 200, .inl t_reading_numbers_r8)), (a_t_reading_parts, .inl (cI, 200, .inl t_reading_parts_r9)), (a_t_reading_signs, .inl (cI, 200, .inl t_reading_signs_r10)), (a_t_reading, .inr (5, [.ref a_t_reading_parts, .ref a_t_reading_signs, .ref a_t_reading_numbers, .int t_reading_laid_r3, .int t_reading_stage_r7, .int t_reading_open_r4, .int t_reading_digits_r2, .int t_reading_order_r5, .int t_reading_prizes_r6])), (a_p2, .inr (4, [.ref a_p2_way, .ref a_p2_guns, .ref a_p2_runners])), (a_p2_guns, .inr (2, [.ref a_p2_guns_ticks])), (a_p2_guns_ticks, .inl (cI, 6, .inl p2_guns_ticks)), (a_p2_runners, .inr (6, [.ref a_p2_runners_facts, .ref a_p2_runners_splits, .ref a_p2_runners_torn, .ref a_p2_runners_dropped, .ref a_p2_runners_waved, .ref a_p2_runners_struck, .ref a_p2_runners_strikingOrder, .int p2_runners_entered, .int p2_runners_strikings])), (a_p2_runners_facts, .inl (cI, 360, .inl p2_runners_facts)), (a_p2_runners_splits, .inl (cI, 720, .inl p2_runners_splits))] H := hP
                have hD : va_D A [(a_t, .inr (3, [.ref a_t_reading, .ref a_t_times])), (a_p2_runners_dropped, .inl (cZ, 60, .inl p2_runners_dropped)), (a_p2_runners_struck, .inl (cZ, 60, .inl p2_runners_struck)), (a_p2_runners_waved, .inl (cZ, 60, .inl p2_runners_waved)), (a_p2_way, .inr (9, [.ref a_p2_way_places, .ref a_p2_way_bearings, .ref a_p2_way_cuts, .ref a_p2_way_deaths, .int p2_way_mats])), (a_p2_way_cuts, .inl (cI, 12, .inl p2_way_cuts)), (a_p1, .inr (7, [.ref a_p1_bytes, .int p1_length])), (a_p1_bytes, .inl (cI, 200, .inl p1_bytes)), (a_t_times, .inl (cI, 60, .inl t_times_l24)), (a_t_reading_numbers, .inl (cI, 200, .inl t_reading_numbers_r8)), (a_t_reading_parts, .inl (cI, 200, .inl t_reading_parts_r9)), (a_t_reading_signs, .inl (cI, 200, .inl t_reading_signs_r10)), (a_t_reading, .inr (5, [.ref a_t_reading_parts, .ref a_t_reading_signs, .ref a_t_reading_numbers, .int t_reading_laid_r3, .int t_reading_stage_r7, .int t_reading_open_r4, .int t_reading_digits_r2, .int t_reading_order_r5, .int t_reading_prizes_r6])), (a_p2, .inr (4, [.ref a_p2_way, .ref a_p2_guns, .ref a_p2_runners])), (a_p2_guns, .inr (2, [.ref a_p2_guns_ticks])), (a_p2_guns_ticks, .inl (cI, 6, .inl p2_guns_ticks)), (a_p2_runners, .inr (6, [.ref a_p2_runners_facts, .ref a_p2_runners_splits, .ref a_p2_runners_torn, .ref a_p2_runners_dropped, .ref a_p2_runners_waved, .ref a_p2_runners_struck, .ref a_p2_runners_strikingOrder, .int p2_runners_entered, .int p2_runners_strikings])), (a_p2_runners_facts, .inl (cI, 360, .inl p2_runners_facts)), (a_p2_runners_splits, .inl (cI, 720, .inl p2_runners_splits))] := hD
                refine lv_istore (lv' := [(5, .int r25), (4, .int (zb b22)), (3, .int v3_24), (0, .ref a_t), (1, .ref a_p1), (2, .ref a_p2)]) hx hb dX3_gather_80 hl (by decide) rfl (fun ls hl => ?_)
                refine lv_aload_n hx hb dX3_gather_82 rfl (lv_at hl 3 rfl) ?_
                refine va_get (D := D) (ci := 3) (C := RX3) (T := TX3) (N := 2) hx hb hts qX3_gather_X3 hown hK hP 0 rfl rfl 1 (by decide) (hts _ kX3_gather_2) (fun _ h9 => h9) rfl dX3_gather_83 ?_
                refine lv_iload_n hx hb dX3_gather_86 rfl (lv_at hl 2 rfl) ?_
                refine lv_aload_n hx hb dX3_gather_87 rfl (lv_at hl 5 rfl) ?_
                refine lv_iload_n hx hb dX3_gather_88 rfl (lv_at hl 2 rfl) ?_
                refine lv_iload hx hb dX3_gather_89 (lv_at hl 0 rfl) ?_
                obtain ⟨r27, e28, h⟩ := zz_b h
                refine zVi (As := [.int v3_24, .int r25]) (rest := [.int v3_24, .ref a_t_times]) (C := RX4) (wr := [(a_t, .inr (3, [.ref a_t_reading, .ref a_t_times])), (a_p1, .inr (7, [.ref a_p1_bytes, .int p1_length])), (a_p1_bytes, .inl (cI, 200, .inl p1_bytes)), (a_t_times, .inl (cI, 60, .inl t_times_l24)), (a_t_reading_numbers, .inl (cI, 200, .inl t_reading_numbers_r8)), (a_t_reading_parts, .inl (cI, 200, .inl t_reading_parts_r9)), (a_t_reading_signs, .inl (cI, 200, .inl t_reading_signs_r10)), (a_t_reading, .inr (5, [.ref a_t_reading_parts, .ref a_t_reading_signs, .ref a_t_reading_numbers, .int t_reading_laid_r3, .int t_reading_stage_r7, .int t_reading_open_r4, .int t_reading_digits_r2, .int t_reading_order_r5, .int t_reading_prizes_r6]))]) [13, 14, 15, 16, 1, 17, 18, 2, 3, 4, 5] [0, 6, 7, 8, 9, 10, 11, 12] 0 ⟨hx, hb, hml, hown, hts⟩ (mX4_timeSince l D cB cI cZ a_p2 a_p2_way a_p2_guns a_p2_runners a_p2_guns_ticks a_p2_runners_facts a_p2_runners_splits a_p2_runners_torn a_p2_runners_dropped a_p2_runners_waved a_p2_runners_struck a_p2_runners_strikingOrder a_p2_way_places a_p2_way_bearings a_p2_way_cuts a_p2_way_deaths p2_guns_ticks p2_runners_entered p2_runners_strikings p2_runners_dropped p2_runners_facts p2_runners_splits p2_runners_struck p2_runners_waved p2_way_mats p2_way_cuts H.size v3_24 r25 N r27 e28) (cwV 2 hts gX3_gather_X4_timeSince rfl rfl rfl (by decide +kernel) ⟨Nat.le_of_ble_eq_true rfl, Nat.le_of_ble_eq_true rfl⟩) hK hN hZ hP hD hS hA rfl rfl rfl rfl rfl rfl rfl rfl hl.1 rfl (lv_room (Nat.le_of_ble_eq_true rfl)) dX3_gather_91 ⟨Nat.le_of_ble_eq_true rfl, Nat.le_of_ble_eq_true rfl⟩ (fun H locs hP hD hS => ?_)
                have hP : va_P D vwCl [(a_t, .inr (3, [.ref a_t_reading, .ref a_t_times])), (a_p1, .inr (7, [.ref a_p1_bytes, .int p1_length])), (a_p1_bytes, .inl (cI, 200, .inl p1_bytes)), (a_t_times, .inl (cI, 60, .inl t_times_l24)), (a_t_reading_numbers, .inl (cI, 200, .inl t_reading_numbers_r8)), (a_t_reading_parts, .inl (cI, 200, .inl t_reading_parts_r9)), (a_t_reading_signs, .inl (cI, 200, .inl t_reading_signs_r10)), (a_t_reading, .inr (5, [.ref a_t_reading_parts, .ref a_t_reading_signs, .ref a_t_reading_numbers, .int t_reading_laid_r3, .int t_reading_stage_r7, .int t_reading_open_r4, .int t_reading_digits_r2, .int t_reading_order_r5, .int t_reading_prizes_r6])), (a_p2, .inr (4, [.ref a_p2_way, .ref a_p2_guns, .ref a_p2_runners])), (a_p2_guns, .inr (2, [.ref a_p2_guns_ticks])), (a_p2_guns_ticks, .inl (cI, 6, .inl p2_guns_ticks)), (a_p2_runners, .inr (6, [.ref a_p2_runners_facts, .ref a_p2_runners_splits, .ref a_p2_runners_torn, .ref a_p2_runners_dropped, .ref a_p2_runners_waved, .ref a_p2_runners_struck, .ref a_p2_runners_strikingOrder, .int p2_runners_entered, .int p2_runners_strikings])), (a_p2_runners_dropped, .inl (cZ, 60, .inl p2_runners_dropped)), (a_p2_runners_facts, .inl (cI, 360, .inl p2_runners_facts)), (a_p2_runners_splits, .inl (cI, 720, .inl p2_runners_splits)), (a_p2_runners_struck, .inl (cZ, 60, .inl p2_runners_struck)), (a_p2_runners_waved, .inl (cZ, 60, .inl p2_runners_waved)), (a_p2_way, .inr (9, [.ref a_p2_way_places, .ref a_p2_way_bearings, .ref a_p2_way_cuts, .ref a_p2_way_deaths, .int p2_way_mats])), (a_p2_way_cuts, .inl (cI, 12, .inl p2_way_cuts))] H := hP
                have hD : va_D A [(a_t, .inr (3, [.ref a_t_reading, .ref a_t_times])), (a_p1, .inr (7, [.ref a_p1_bytes, .int p1_length])), (a_p1_bytes, .inl (cI, 200, .inl p1_bytes)), (a_t_times, .inl (cI, 60, .inl t_times_l24)), (a_t_reading_numbers, .inl (cI, 200, .inl t_reading_numbers_r8)), (a_t_reading_parts, .inl (cI, 200, .inl t_reading_parts_r9)), (a_t_reading_signs, .inl (cI, 200, .inl t_reading_signs_r10)), (a_t_reading, .inr (5, [.ref a_t_reading_parts, .ref a_t_reading_signs, .ref a_t_reading_numbers, .int t_reading_laid_r3, .int t_reading_stage_r7, .int t_reading_open_r4, .int t_reading_digits_r2, .int t_reading_order_r5, .int t_reading_prizes_r6])), (a_p2, .inr (4, [.ref a_p2_way, .ref a_p2_guns, .ref a_p2_runners])), (a_p2_guns, .inr (2, [.ref a_p2_guns_ticks])), (a_p2_guns_ticks, .inl (cI, 6, .inl p2_guns_ticks)), (a_p2_runners, .inr (6, [.ref a_p2_runners_facts, .ref a_p2_runners_splits, .ref a_p2_runners_torn, .ref a_p2_runners_dropped, .ref a_p2_runners_waved, .ref a_p2_runners_struck, .ref a_p2_runners_strikingOrder, .int p2_runners_entered, .int p2_runners_strikings])), (a_p2_runners_dropped, .inl (cZ, 60, .inl p2_runners_dropped)), (a_p2_runners_facts, .inl (cI, 360, .inl p2_runners_facts)), (a_p2_runners_splits, .inl (cI, 720, .inl p2_runners_splits)), (a_p2_runners_struck, .inl (cZ, 60, .inl p2_runners_struck)), (a_p2_runners_waved, .inl (cZ, 60, .inl p2_runners_waved)), (a_p2_way, .inr (9, [.ref a_p2_way_places, .ref a_p2_way_bearings, .ref a_p2_way_cuts, .ref a_p2_way_deaths, .int p2_way_mats])), (a_p2_way_cuts, .inl (cI, 12, .inl p2_way_cuts))] := hD
                obtain ⟨i29, h⟩ := zz_i h
                refine va_iast hx hb hK hP hD hS 3 1 rfl rfl i29 dX3_gather_94 (fun H locs hP hD hS => ?_)
                have hP : va_P D vwCl [(a_t, .inr (3, [.ref a_t_reading, .ref a_t_times])), (a_p1, .inr (7, [.ref a_p1_bytes, .int p1_length])), (a_p1_bytes, .inl (cI, 200, .inl p1_bytes)), (a_t_times, .inl (cI, 60, .inl (upd t_times_l24 (v3_24).toNatClampNeg r27))), (a_t_reading_numbers, .inl (cI, 200, .inl t_reading_numbers_r8)), (a_t_reading_parts, .inl (cI, 200, .inl t_reading_parts_r9)), (a_t_reading_signs, .inl (cI, 200, .inl t_reading_signs_r10)), (a_t_reading, .inr (5, [.ref a_t_reading_parts, .ref a_t_reading_signs, .ref a_t_reading_numbers, .int t_reading_laid_r3, .int t_reading_stage_r7, .int t_reading_open_r4, .int t_reading_digits_r2, .int t_reading_order_r5, .int t_reading_prizes_r6])), (a_p2, .inr (4, [.ref a_p2_way, .ref a_p2_guns, .ref a_p2_runners])), (a_p2_guns, .inr (2, [.ref a_p2_guns_ticks])), (a_p2_guns_ticks, .inl (cI, 6, .inl p2_guns_ticks)), (a_p2_runners, .inr (6, [.ref a_p2_runners_facts, .ref a_p2_runners_splits, .ref a_p2_runners_torn, .ref a_p2_runners_dropped, .ref a_p2_runners_waved, .ref a_p2_runners_struck, .ref a_p2_runners_strikingOrder, .int p2_runners_entered, .int p2_runners_strikings])), (a_p2_runners_dropped, .inl (cZ, 60, .inl p2_runners_dropped)), (a_p2_runners_facts, .inl (cI, 360, .inl p2_runners_facts)), (a_p2_runners_splits, .inl (cI, 720, .inl p2_runners_splits)), (a_p2_runners_struck, .inl (cZ, 60, .inl p2_runners_struck)), (a_p2_runners_waved, .inl (cZ, 60, .inl p2_runners_waved)), (a_p2_way, .inr (9, [.ref a_p2_way_places, .ref a_p2_way_bearings, .ref a_p2_way_cuts, .ref a_p2_way_deaths, .int p2_way_mats])), (a_p2_way_cuts, .inl (cI, 12, .inl p2_way_cuts))] H := hP
                have hD : va_D A [(a_t, .inr (3, [.ref a_t_reading, .ref a_t_times])), (a_p1, .inr (7, [.ref a_p1_bytes, .int p1_length])), (a_p1_bytes, .inl (cI, 200, .inl p1_bytes)), (a_t_times, .inl (cI, 60, .inl (upd t_times_l24 (v3_24).toNatClampNeg r27))), (a_t_reading_numbers, .inl (cI, 200, .inl t_reading_numbers_r8)), (a_t_reading_parts, .inl (cI, 200, .inl t_reading_parts_r9)), (a_t_reading_signs, .inl (cI, 200, .inl t_reading_signs_r10)), (a_t_reading, .inr (5, [.ref a_t_reading_parts, .ref a_t_reading_signs, .ref a_t_reading_numbers, .int t_reading_laid_r3, .int t_reading_stage_r7, .int t_reading_open_r4, .int t_reading_digits_r2, .int t_reading_order_r5, .int t_reading_prizes_r6])), (a_p2, .inr (4, [.ref a_p2_way, .ref a_p2_guns, .ref a_p2_runners])), (a_p2_guns, .inr (2, [.ref a_p2_guns_ticks])), (a_p2_guns_ticks, .inl (cI, 6, .inl p2_guns_ticks)), (a_p2_runners, .inr (6, [.ref a_p2_runners_facts, .ref a_p2_runners_splits, .ref a_p2_runners_torn, .ref a_p2_runners_dropped, .ref a_p2_runners_waved, .ref a_p2_runners_struck, .ref a_p2_runners_strikingOrder, .int p2_runners_entered, .int p2_runners_strikings])), (a_p2_runners_dropped, .inl (cZ, 60, .inl p2_runners_dropped)), (a_p2_runners_facts, .inl (cI, 360, .inl p2_runners_facts)), (a_p2_runners_splits, .inl (cI, 720, .inl p2_runners_splits)), (a_p2_runners_struck, .inl (cZ, 60, .inl p2_runners_struck)), (a_p2_runners_waved, .inl (cZ, 60, .inl p2_runners_waved)), (a_p2_way, .inr (9, [.ref a_p2_way_places, .ref a_p2_way_bearings, .ref a_p2_way_cuts, .ref a_p2_way_deaths, .int p2_way_mats])), (a_p2_way_cuts, .inl (cI, 12, .inl p2_way_cuts))] := hD
                refine lv_iinc (v := (v3_24 + (nI 1))) (lv' := [(3, .int (v3_24 + (nI 1))), (5, .int r25), (4, .int (zb b22)), (0, .ref a_t), (1, .ref a_p1), (2, .ref a_p2)]) hx hb dX3_gather_95 hl (k := 2) rfl rfl (by decide) rfl (fun ls hl => ?_)
                refine lv_goto (tgt := 24) hx hb dX3_gather_98 (by decide) ?_
                exact ih24 (v3_24 + (nI 1)) (upd t_times_l24 (v3_24).toNatClampNeg r27) _ _ _ h (hP.sub [0, 8, 9, 10, 11, 12, 13, 14, 15, 16, 17, 18, 7, 4, 5, 6, 1, 2, 3] rfl) (hD.sub [0, 8, 9, 10, 11, 12, 13, 14, 15, 16, 17, 18, 7, 4, 5, 6, 1, 2, 3] rfl rfl) hS (lv_sub hl [0, 3, 4, 5] rfl)
              · have h := zz_f h c24
                refine lv_aload_n hx hb dX3_gather_67 rfl (lv_at hl 4 rfl) ?_
                refine lv_iload_n hx hb dX3_gather_68 rfl (lv_at hl 1 rfl) ?_
                obtain ⟨r30, e31, h⟩ := zz_b h
                refine zVi (As := [.int v3_24]) (rest := []) (C := RX4) (wr := [(a_t, .inr (3, [.ref a_t_reading, .ref a_t_times])), (a_p2_runners_dropped, .inl (cZ, 60, .inl p2_runners_dropped)), (a_p2_runners_splits, .inl (cI, 720, .inl p2_runners_splits)), (a_p2_runners_struck, .inl (cZ, 60, .inl p2_runners_struck)), (a_p2_runners_waved, .inl (cZ, 60, .inl p2_runners_waved)), (a_p2_way, .inr (9, [.ref a_p2_way_places, .ref a_p2_way_bearings, .ref a_p2_way_cuts, .ref a_p2_way_deaths, .int p2_way_mats])), (a_p2_way_cuts, .inl (cI, 12, .inl p2_way_cuts)), (a_p1, .inr (7, [.ref a_p1_bytes, .int p1_length])), (a_p1_bytes, .inl (cI, 200, .inl p1_bytes)), (a_t_times, .inl (cI, 60, .inl t_times_l24)), (a_t_reading_numbers, .inl (cI, 200, .inl t_reading_numbers_r8)), (a_t_reading_parts, .inl (cI, 200, .inl t_reading_parts_r9)), (a_t_reading_signs, .inl (cI, 200, .inl t_reading_signs_r10)), (a_t_reading, .inr (5, [.ref a_t_reading_parts, .ref a_t_reading_signs, .ref a_t_reading_numbers, .int t_reading_laid_r3, .int t_reading_stage_r7, .int t_reading_open_r4, .int t_reading_digits_r2, .int t_reading_order_r5, .int t_reading_prizes_r6]))]) [15, 1, 2, 16, 17] [0, 3, 4, 5, 6, 7, 8, 9, 10, 11, 12, 13, 14, 18] 0 ⟨hx, hb, hml, hown, hts⟩ (mX4_gunOf l D cB cI cZ a_p2 a_p2_way a_p2_guns a_p2_runners a_p2_guns_ticks a_p2_runners_facts a_p2_runners_splits a_p2_runners_torn a_p2_runners_dropped a_p2_runners_waved a_p2_runners_struck a_p2_runners_strikingOrder p2_guns_ticks p2_runners_entered p2_runners_strikings p2_runners_facts H.size v3_24 r30 e31) (cwV 1 hts gX3_gather_X4_gunOf rfl rfl rfl (by decide +kernel) ⟨Nat.le_of_ble_eq_true rfl, Nat.le_of_ble_eq_true rfl⟩) hK hN hZ hP hD hS hA rfl rfl rfl rfl rfl rfl rfl rfl hl.1 rfl (lv_room (Nat.le_of_ble_eq_true rfl)) dX3_gather_69 ⟨Nat.le_of_ble_eq_true rfl, Nat.le_of_ble_eq_true rfl⟩ (fun H locs hP hD hS => ?_)
                have hP : va_P D vwCl [(a_t, .inr (3, [.ref a_t_reading, .ref a_t_times])), (a_p2_runners_dropped, .inl (cZ, 60, .inl p2_runners_dropped)), (a_p2_runners_splits, .inl (cI, 720, .inl p2_runners_splits)), (a_p2_runners_struck, .inl (cZ, 60, .inl p2_runners_struck)), (a_p2_runners_waved, .inl (cZ, 60, .inl p2_runners_waved)), (a_p2_way, .inr (9, [.ref a_p2_way_places, .ref a_p2_way_bearings, .ref a_p2_way_cuts, .ref a_p2_way_deaths, .int p2_way_mats])), (a_p2_way_cuts, .inl (cI, 12, .inl p2_way_cuts)), (a_p1, .inr (7, [.ref a_p1_bytes, .int p1_length])), (a_p1_bytes, .inl (cI, 200, .inl p1_bytes)), (a_t_times, .inl (cI, 60, .inl t_times_l24)), (a_t_reading_numbers, .inl (cI, 200, .inl t_reading_numbers_r8)), (a_t_reading_parts, .inl (cI, 200, .inl t_reading_parts_r9)), (a_t_reading_signs, .inl (cI, 200, .inl t_reading_signs_r10)), (a_t_reading, .inr (5, [.ref a_t_reading_parts, .ref a_t_reading_signs, .ref a_t_reading_numbers, .int t_reading_laid_r3, .int t_reading_stage_r7, .int t_reading_open_r4, .int t_reading_digits_r2, .int t_reading_order_r5, .int t_reading_prizes_r6])), (a_p2, .inr (4, [.ref a_p2_way, .ref a_p2_guns, .ref a_p2_runners])), (a_p2_guns, .inr (2, [.ref a_p2_guns_ticks])), (a_p2_guns_ticks, .inl (cI, 6, .inl p2_guns_ticks)), (a_p2_runners, .inr (6, [.ref a_p2_runners_facts, .ref a_p2_runners_splits, .ref a_p2_runners_torn, .ref a_p2_runners_dropped, .ref a_p2_runners_waved, .ref a_p2_runners_struck, .ref a_p2_runners_strikingOrder, .int p2_runners_entered, .int p2_runners_strikings])), (a_p2_runners_facts, .inl (cI, 360, .inl p2_runners_facts))] H := hP
                have hD : va_D A [(a_t, .inr (3, [.ref a_t_reading, .ref a_t_times])), (a_p2_runners_dropped, .inl (cZ, 60, .inl p2_runners_dropped)), (a_p2_runners_splits, .inl (cI, 720, .inl p2_runners_splits)), (a_p2_runners_struck, .inl (cZ, 60, .inl p2_runners_struck)), (a_p2_runners_waved, .inl (cZ, 60, .inl p2_runners_waved)), (a_p2_way, .inr (9, [.ref a_p2_way_places, .ref a_p2_way_bearings, .ref a_p2_way_cuts, .ref a_p2_way_deaths, .int p2_way_mats])), (a_p2_way_cuts, .inl (cI, 12, .inl p2_way_cuts)), (a_p1, .inr (7, [.ref a_p1_bytes, .int p1_length])), (a_p1_bytes, .inl (cI, 200, .inl p1_bytes)), (a_t_times, .inl (cI, 60, .inl t_times_l24)), (a_t_reading_numbers, .inl (cI, 200, .inl t_reading_numbers_r8)), (a_t_reading_parts, .inl (cI, 200, .inl t_reading_parts_r9)), (a_t_reading_signs, .inl (cI, 200, .inl t_reading_signs_r10)), (a_t_reading, .inr (5, [.ref a_t_reading_parts, .ref a_t_reading_signs, .ref a_t_reading_numbers, .int t_reading_laid_r3, .int t_reading_stage_r7, .int t_reading_open_r4, .int t_reading_digits_r2, .int t_reading_order_r5, .int t_reading_prizes_r6])), (a_p2, .inr (4, [.ref a_p2_way, .ref a_p2_guns, .ref a_p2_runners])), (a_p2_guns, .inr (2, [.ref a_p2_guns_ticks])), (a_p2_guns_ticks, .inl (cI, 6, .inl p2_guns_ticks)), (a_p2_runners, .inr (6, [.ref a_p2_runners_facts, .ref a_p2_runners_splits, .ref a_p2_runners_torn, .ref a_p2_runners_dropped, .ref a_p2_runners_waved, .ref a_p2_runners_struck, .ref a_p2_runners_strikingOrder, .int p2_runners_entered, .int p2_runners_strikings])), (a_p2_runners_facts, .inl (cI, 360, .inl p2_runners_facts))] := hD
                refine lv_goto (tgt := 80) hx hb dX3_gather_72 (by decide) ?_
                refine lv_istore (lv' := [(5, .int r30), (4, .int (zb b22)), (3, .int v3_24), (0, .ref a_t), (1, .ref a_p1), (2, .ref a_p2)]) hx hb dX3_gather_80 hl (by decide) rfl (fun ls hl => ?_)
                refine lv_aload_n hx hb dX3_gather_82 rfl (lv_at hl 3 rfl) ?_
                refine va_get (D := D) (ci := 3) (C := RX3) (T := TX3) (N := 2) hx hb hts qX3_gather_X3 hown hK hP 0 rfl rfl 1 (by decide) (hts _ kX3_gather_2) (fun _ h9 => h9) rfl dX3_gather_83 ?_
                refine lv_iload_n hx hb dX3_gather_86 rfl (lv_at hl 2 rfl) ?_
                refine lv_aload_n hx hb dX3_gather_87 rfl (lv_at hl 5 rfl) ?_
                refine lv_iload_n hx hb dX3_gather_88 rfl (lv_at hl 2 rfl) ?_
                refine lv_iload hx hb dX3_gather_89 (lv_at hl 0 rfl) ?_
                obtain ⟨r32, e33, h⟩ := zz_b h
                refine zVi (As := [.int v3_24, .int r30]) (rest := [.int v3_24, .ref a_t_times]) (C := RX4) (wr := [(a_t, .inr (3, [.ref a_t_reading, .ref a_t_times])), (a_p1, .inr (7, [.ref a_p1_bytes, .int p1_length])), (a_p1_bytes, .inl (cI, 200, .inl p1_bytes)), (a_t_times, .inl (cI, 60, .inl t_times_l24)), (a_t_reading_numbers, .inl (cI, 200, .inl t_reading_numbers_r8)), (a_t_reading_parts, .inl (cI, 200, .inl t_reading_parts_r9)), (a_t_reading_signs, .inl (cI, 200, .inl t_reading_signs_r10)), (a_t_reading, .inr (5, [.ref a_t_reading_parts, .ref a_t_reading_signs, .ref a_t_reading_numbers, .int t_reading_laid_r3, .int t_reading_stage_r7, .int t_reading_open_r4, .int t_reading_digits_r2, .int t_reading_order_r5, .int t_reading_prizes_r6]))]) [14, 15, 16, 17, 1, 18, 2, 3, 4, 5, 6] [0, 7, 8, 9, 10, 11, 12, 13] 0 ⟨hx, hb, hml, hown, hts⟩ (mX4_timeSince l D cB cI cZ a_p2 a_p2_way a_p2_guns a_p2_runners a_p2_guns_ticks a_p2_runners_facts a_p2_runners_splits a_p2_runners_torn a_p2_runners_dropped a_p2_runners_waved a_p2_runners_struck a_p2_runners_strikingOrder a_p2_way_places a_p2_way_bearings a_p2_way_cuts a_p2_way_deaths p2_guns_ticks p2_runners_entered p2_runners_strikings p2_runners_dropped p2_runners_facts p2_runners_splits p2_runners_struck p2_runners_waved p2_way_mats p2_way_cuts H.size v3_24 r30 N r32 e33) (cwV 2 hts gX3_gather_X4_timeSince rfl rfl rfl (by decide +kernel) ⟨Nat.le_of_ble_eq_true rfl, Nat.le_of_ble_eq_true rfl⟩) hK hN hZ hP hD hS hA rfl rfl rfl rfl rfl rfl rfl rfl hl.1 rfl (lv_room (Nat.le_of_ble_eq_true rfl)) dX3_gather_91 ⟨Nat.le_of_ble_eq_true rfl, Nat.le_of_ble_eq_true rfl⟩ (fun H locs hP hD hS => ?_)
                have hP : va_P D vwCl [(a_t, .inr (3, [.ref a_t_reading, .ref a_t_times])), (a_p1, .inr (7, [.ref a_p1_bytes, .int p1_length])), (a_p1_bytes, .inl (cI, 200, .inl p1_bytes)), (a_t_times, .inl (cI, 60, .inl t_times_l24)), (a_t_reading_numbers, .inl (cI, 200, .inl t_reading_numbers_r8)), (a_t_reading_parts, .inl (cI, 200, .inl t_reading_parts_r9)), (a_t_reading_signs, .inl (cI, 200, .inl t_reading_signs_r10)), (a_t_reading, .inr (5, [.ref a_t_reading_parts, .ref a_t_reading_signs, .ref a_t_reading_numbers, .int t_reading_laid_r3, .int t_reading_stage_r7, .int t_reading_open_r4, .int t_reading_digits_r2, .int t_reading_order_r5, .int t_reading_prizes_r6])), (a_p2, .inr (4, [.ref a_p2_way, .ref a_p2_guns, .ref a_p2_runners])), (a_p2_guns, .inr (2, [.ref a_p2_guns_ticks])), (a_p2_guns_ticks, .inl (cI, 6, .inl p2_guns_ticks)), (a_p2_runners, .inr (6, [.ref a_p2_runners_facts, .ref a_p2_runners_splits, .ref a_p2_runners_torn, .ref a_p2_runners_dropped, .ref a_p2_runners_waved, .ref a_p2_runners_struck, .ref a_p2_runners_strikingOrder, .int p2_runners_entered, .int p2_runners_strikings])), (a_p2_runners_dropped, .inl (cZ, 60, .inl p2_runners_dropped)), (a_p2_runners_facts, .inl (cI, 360, .inl p2_runners_facts)), (a_p2_runners_splits, .inl (cI, 720, .inl p2_runners_splits)), (a_p2_runners_struck, .inl (cZ, 60, .inl p2_runners_struck)), (a_p2_runners_waved, .inl (cZ, 60, .inl p2_runners_waved)), (a_p2_way, .inr (9, [.ref a_p2_way_places, .ref a_p2_way_bearings, .ref a_p2_way_cuts, .ref a_p2_way_deaths, .int p2_way_mats])), (a_p2_way_cuts, .inl (cI, 12, .inl p2_way_cuts))] H := hP
                have hD : va_D A [(a_t, .inr (3, [.ref a_t_reading, .ref a_t_times])), (a_p1, .inr (7, [.ref a_p1_bytes, .int p1_length])), (a_p1_bytes, .inl (cI, 200, .inl p1_bytes)), (a_t_times, .inl (cI, 60, .inl t_times_l24)), (a_t_reading_numbers, .inl (cI, 200, .inl t_reading_numbers_r8)), (a_t_reading_parts, .inl (cI, 200, .inl t_reading_parts_r9)), (a_t_reading_signs, .inl (cI, 200, .inl t_reading_signs_r10)), (a_t_reading, .inr (5, [.ref a_t_reading_parts, .ref a_t_reading_signs, .ref a_t_reading_numbers, .int t_reading_laid_r3, .int t_reading_stage_r7, .int t_reading_open_r4, .int t_reading_digits_r2, .int t_reading_order_r5, .int t_reading_prizes_r6])), (a_p2, .inr (4, [.ref a_p2_way, .ref a_p2_guns, .ref a_p2_runners])), (a_p2_guns, .inr (2, [.ref a_p2_guns_ticks])), (a_p2_guns_ticks, .inl (cI, 6, .inl p2_guns_ticks)), (a_p2_runners, .inr (6, [.ref a_p2_runners_facts, .ref a_p2_runners_splits, .ref a_p2_runners_torn, .ref a_p2_runners_dropped, .ref a_p2_runners_waved, .ref a_p2_runners_struck, .ref a_p2_runners_strikingOrder, .int p2_runners_entered, .int p2_runners_strikings])), (a_p2_runners_dropped, .inl (cZ, 60, .inl p2_runners_dropped)), (a_p2_runners_facts, .inl (cI, 360, .inl p2_runners_facts)), (a_p2_runners_splits, .inl (cI, 720, .inl p2_runners_splits)), (a_p2_runners_struck, .inl (cZ, 60, .inl p2_runners_struck)), (a_p2_runners_waved, .inl (cZ, 60, .inl p2_runners_waved)), (a_p2_way, .inr (9, [.ref a_p2_way_places, .ref a_p2_way_bearings, .ref a_p2_way_cuts, .ref a_p2_way_deaths, .int p2_way_mats])), (a_p2_way_cuts, .inl (cI, 12, .inl p2_way_cuts))] := hD
                obtain ⟨i34, h⟩ := zz_i h
                refine va_iast hx hb hK hP hD hS 3 1 rfl rfl i34 dX3_gather_94 (fun H locs hP hD hS => ?_)
                have hP : va_P D vwCl [(a_t, .inr (3, [.ref a_t_reading, .ref a_t_times])), (a_p1, .inr (7, [.ref a_p1_bytes, .int p1_length])), (a_p1_bytes, .inl (cI, 200, .inl p1_bytes)), (a_t_times, .inl (cI, 60, .inl (upd t_times_l24 (v3_24).toNatClampNeg r32))), (a_t_reading_numbers, .inl (cI, 200, .inl t_reading_numbers_r8)), (a_t_reading_parts, .inl (cI, 200, .inl t_reading_parts_r9)), (a_t_reading_signs, .inl (cI, 200, .inl t_reading_signs_r10)), (a_t_reading, .inr (5, [.ref a_t_reading_parts, .ref a_t_reading_signs, .ref a_t_reading_numbers, .int t_reading_laid_r3, .int t_reading_stage_r7, .int t_reading_open_r4, .int t_reading_digits_r2, .int t_reading_order_r5, .int t_reading_prizes_r6])), (a_p2, .inr (4, [.ref a_p2_way, .ref a_p2_guns, .ref a_p2_runners])), (a_p2_guns, .inr (2, [.ref a_p2_guns_ticks])), (a_p2_guns_ticks, .inl (cI, 6, .inl p2_guns_ticks)), (a_p2_runners, .inr (6, [.ref a_p2_runners_facts, .ref a_p2_runners_splits, .ref a_p2_runners_torn, .ref a_p2_runners_dropped, .ref a_p2_runners_waved, .ref a_p2_runners_struck, .ref a_p2_runners_strikingOrder, .int p2_runners_entered, .int p2_runners_strikings])), (a_p2_runners_dropped, .inl (cZ, 60, .inl p2_runners_dropped)), (a_p2_runners_facts, .inl (cI, 360, .inl p2_runners_facts)), (a_p2_runners_splits, .inl (cI, 720, .inl p2_runners_splits)), (a_p2_runners_struck, .inl (cZ, 60, .inl p2_runners_struck)), (a_p2_runners_waved, .inl (cZ, 60, .inl p2_runners_waved)), (a_p2_way, .inr (9, [.ref a_p2_way_places, .ref a_p2_way_bearings, .ref a_p2_way_cuts, .ref a_p2_way_deaths, .int p2_way_mats])), (a_p2_way_cuts, .inl (cI, 12, .inl p2_way_cuts))] H := hP
                have hD : va_D A [(a_t, .inr (3, [.ref a_t_reading, .ref a_t_times])), (a_p1, .inr (7, [.ref a_p1_bytes, .int p1_length])), (a_p1_bytes, .inl (cI, 200, .inl p1_bytes)), (a_t_times, .inl (cI, 60, .inl (upd t_times_l24 (v3_24).toNatClampNeg r32))), (a_t_reading_numbers, .inl (cI, 200, .inl t_reading_numbers_r8)), (a_t_reading_parts, .inl (cI, 200, .inl t_reading_parts_r9)), (a_t_reading_signs, .inl (cI, 200, .inl t_reading_signs_r10)), (a_t_reading, .inr (5, [.ref a_t_reading_parts, .ref a_t_reading_signs, .ref a_t_reading_numbers, .int t_reading_laid_r3, .int t_reading_stage_r7, .int t_reading_open_r4, .int t_reading_digits_r2, .int t_reading_order_r5, .int t_reading_prizes_r6])), (a_p2, .inr (4, [.ref a_p2_way, .ref a_p2_guns, .ref a_p2_runners])), (a_p2_guns, .inr (2, [.ref a_p2_guns_ticks])), (a_p2_guns_ticks, .inl (cI, 6, .inl p2_guns_ticks)), (a_p2_runners, .inr (6, [.ref a_p2_runners_facts, .ref a_p2_runners_splits, .ref a_p2_runners_torn, .ref a_p2_runners_dropped, .ref a_p2_runners_waved, .ref a_p2_runners_struck, .ref a_p2_runners_strikingOrder, .int p2_runners_entered, .int p2_runners_strikings])), (a_p2_runners_dropped, .inl (cZ, 60, .inl p2_runners_dropped)), (a_p2_runners_facts, .inl (cI, 360, .inl p2_runners_facts)), (a_p2_runners_splits, .inl (cI, 720, .inl p2_runners_splits)), (a_p2_runners_struck, .inl (cZ, 60, .inl p2_runners_struck)), (a_p2_runners_waved, .inl (cZ, 60, .inl p2_runners_waved)), (a_p2_way, .inr (9, [.ref a_p2_way_places, .ref a_p2_way_bearings, .ref a_p2_way_cuts, .ref a_p2_way_deaths, .int p2_way_mats])), (a_p2_way_cuts, .inl (cI, 12, .inl p2_way_cuts))] := hD
                refine lv_iinc (v := (v3_24 + (nI 1))) (lv' := [(3, .int (v3_24 + (nI 1))), (5, .int r30), (4, .int (zb b22)), (0, .ref a_t), (1, .ref a_p1), (2, .ref a_p2)]) hx hb dX3_gather_95 hl (k := 2) rfl rfl (by decide) rfl (fun ls hl => ?_)
                refine lv_goto (tgt := 24) hx hb dX3_gather_98 (by decide) ?_
                exact ih24 (v3_24 + (nI 1)) (upd t_times_l24 (v3_24).toNatClampNeg r32) _ _ _ h (hP.sub [0, 8, 9, 10, 11, 12, 13, 14, 15, 16, 17, 18, 7, 4, 5, 6, 1, 2, 3] rfl) (hD.sub [0, 8, 9, 10, 11, 12, 13, 14, 15, 16, 17, 18, 7, 4, 5, 6, 1, 2, 3] rfl rfl) hS (lv_sub hl [0, 3, 4, 5] rfl)
    exact L24 N (nI 0) t_times_r13 _ _ _ h hP hD hS hl
  · have h := zz_f h c12
    refine lv_iconst (v := (nI 0)) hx hb dX3_gather_12 rfl ?_
    obtain ⟨j0_, g_⟩ := Prod.mk.inj (Option.some.inj h)
    obtain ⟨j1_, g_⟩ := Prod.mk.inj g_
    obtain ⟨j2_, g_⟩ := Prod.mk.inj g_
    obtain ⟨j3_, g_⟩ := Prod.mk.inj g_
    obtain ⟨j4_, g_⟩ := Prod.mk.inj g_
    obtain ⟨j5_, g_⟩ := Prod.mk.inj g_
    obtain ⟨j6_, g_⟩ := Prod.mk.inj g_
    obtain ⟨j7_, g_⟩ := Prod.mk.inj g_
    obtain ⟨j8_, g_⟩ := Prod.mk.inj g_
    obtain ⟨j9_, g_⟩ := Prod.mk.inj g_
    have j10_ := g_
    subst j0_
    subst j1_
    subst j2_
    subst j3_
    subst j4_
    subst j5_
    subst j6_
    subst j7_
    subst j8_
    subst j9_
    subst j10_
    exact W.zret (v := (nI 0)) hx hb hr rfl (fun t ht hW => ⟨⟨_, (), rfl, rfl, zPost.of hP hD hK ht hW [0, 13, 14, 15, 16, 1, 17, 18, 2, 3, 4, 5, 6, 7, 8, 9, 10, 11, 12] rfl rfl rfl⟩, hS.F ht⟩) hS.2.2 dX3_gather_13
/-! RunDesk$Listing.timeIn -/
theorem dX3_timeIn_0 : decode cX3_timeIn 0 = .ok (.iload_n 1, 1) := by decide +kernel
theorem dX3_timeIn_1 : decode cX3_timeIn 1 = .ok (.iconst 0, 1) := by decide +kernel
theorem dX3_timeIn_2 : decode cX3_timeIn 2 = .ok (.bipush 59, 2) := by decide +kernel
theorem dX3_timeIn_4 : decode cX3_timeIn 4 = .ok (.invokestatic 63, 3) := by decide +kernel
theorem dX3_timeIn_7 : decode cX3_timeIn 7 = .ok (.ifCond .eq 12, 3) := by decide +kernel
theorem dX3_timeIn_10 : decode cX3_timeIn 10 = .ok (.aload_n 0, 1) := by decide +kernel
theorem dX3_timeIn_11 : decode cX3_timeIn 11 = .ok (.getfield 18, 3) := by decide +kernel
theorem dX3_timeIn_14 : decode cX3_timeIn 14 = .ok (.iload_n 1, 1) := by decide +kernel
theorem dX3_timeIn_15 : decode cX3_timeIn 15 = .ok (.iaload, 1) := by decide +kernel
theorem dX3_timeIn_16 : decode cX3_timeIn 16 = .ok (.goto 4, 3) := by decide +kernel
theorem dX3_timeIn_19 : decode cX3_timeIn 19 = .ok (.iconst (-1), 1) := by decide +kernel
theorem dX3_timeIn_20 : decode cX3_timeIn 20 = .ok (.ireturn, 1) := by decide +kernel
set_option maxRecDepth 20000 in
theorem ggX3_timeIn_X10_within : GoodIn wsX3_timeIn wsX10_within := goodIn_r _ [4] (by decide +kernel) (by decide +kernel)
set_option maxRecDepth 20000 in
theorem gX3_timeIn_X10_within_n63 : GoodIn wsX3_timeIn (wsX10_within) := ggX3_timeIn_X10_within
theorem kX3_timeIn_0 : (.initialized RX10 : Cond) ∈ wsX3_timeIn := List.mem_of_getElem? (i := 3) (by decide +kernel)
theorem kX3_timeIn_1 : (.static yX10_within : Cond) ∈ wsX3_timeIn := List.mem_of_getElem? (i := 2) (by decide +kernel)
theorem kX3_timeIn_2 : (.fieldLink RX3 18 "RunDesk$Listing" "times" "[I" : Cond) ∈ wsX3_timeIn := List.mem_of_getElem? (i := 1) (by decide +kernel)
theorem qX3_timeIn_X3 : ∀ w ∈ wsX30, w ∈ wsX3_timeIn := fun _ h => List.mem_cons_of_mem _ (List.mem_append_right _ (h))
set_option maxHeartbeats 4000000 in
set_option maxRecDepth 100000 in
theorem mX3_timeIn (l : Launch) (D : va_G) (cB cI cZ : ClassId) (a_t : Nat) (a_t_reading : Nat) (a_t_times : Nat) (t_times : Nat → Int32) (sz : Nat) (x1 : Int32) (r0 : Int32) (h : fX3_timeIn t_times x1 = some (r0)) : Met l yX3_timeIn wsX3_timeIn ({ frames := 1, cells := 0, slots := 0, locals := 22 } : Room) (va_Pc [.ref a_t, .int x1] (zPre D (zT cB cI cZ) [(a_t, .inr (3, [.ref a_t_reading, .ref a_t_times])), (a_t_times, .inl (cI, 60, .inl t_times))] sz)) (zQi r0 D (zT cB cI cZ) [(a_t, .inr (3, [.ref a_t_reading, .ref a_t_times])), (a_t_times, .inl (cI, 60, .inl t_times))] (va_A [(a_t, .inr (3, [.ref a_t_reading, .ref a_t_times])), (a_t_times, .inl (cI, 60, .inl t_times))] sz)) 0 0 (va_A [(a_t, .inr (3, [.ref a_t_reading, .ref a_t_times])), (a_t_times, .inl (cI, 60, .inl t_times))] sz) := by
  refine Met.ofW (cc := cX3_timeIn) (maxL := 2) (ret := (some .int)) (by decide) rfl ?_
  intro p e s m args below meth c s₁ B hml hv
  obtain ⟨rfl, hsz, hP, hK, hN, hZ, hD0⟩ := hv
  have hx := B.exec
  have hb := B.bytes
  have hr := B.returns
  have hts := atoms_spec (ws := wsX3_timeIn) B.pre
  have hown : s.vm.findClass RX3 = some m.cls := findClass_of_methodNamed B.named
  have hlocks := B.notSynchronized
  subst hsz
  have hD := hD0.self (sz := s.heap.size)
  generalize hAe : va_A [(a_t, .inr (3, [.ref a_t_reading, .ref a_t_times])), (a_t_times, .inl (cI, 60, .inl t_times))] s.heap.size = A at hD hZ ⊢
  have hA : ∀ q : Nat, s.heap.size ≤ q → A q := fun q h => by rw [← hAe]; exact Or.inr h
  have hS : va_S A s.heap s.heap [] := va_S.rf
  have hl := lv_entry ([.ref a_t, .int x1]) (n := 2) (Nat.le_of_ble_eq_true rfl)
  rw [lg_entry_eq]
  generalize (lg_sl ([.ref a_t, .int x1]) ++ List.replicate (2 - (lg_sl ([.ref a_t, .int x1])).length) Slot.unset).toArray = ls at hl ⊢
  have hl : lv_has ls 2 [(0, .ref a_t), (1, .int x1)] := hl
  unfold fX3_timeIn at h
  refine lv_iload_n hx hb dX3_timeIn_0 rfl (lv_at hl 1 rfl) ?_
  refine lv_iconst (v := (nI 0)) hx hb dX3_timeIn_1 rfl ?_
  refine lv_bipush (v := (nI 59)) hx hb dX3_timeIn_2 rfl ?_
  obtain ⟨b1, e2, h⟩ := zz_b h
  refine zNi (As := [.int x1, .int (nI 0), .int (nI 59)]) (rest := []) (host := "RunDesk") (wr := [(a_t, .inr (3, [.ref a_t_reading, .ref a_t_times])), (a_t_times, .inl (cI, 60, .inl t_times))]) [] [0, 1] ⟨hx, hb, hml, hown, hts⟩ (mX10_within l D cB cI cZ s.heap.size x1 (nI 0) (nI 59) b1 e2) ⟨va_cnB 3 hts gX3_timeIn_X10_within_n63 rfl rfl rfl (hN _ (List.mem_of_getElem? (i := 34) rfl)) (hts _ kX3_timeIn_0) (by decide +kernel) ⟨Nat.le_of_ble_eq_true rfl, Nat.le_of_ble_eq_true rfl⟩, (hts _ kX3_timeIn_1), trivial⟩ hK hN hZ hP hD hS hA rfl rfl rfl rfl rfl rfl hl.1 rfl (lv_room (Nat.le_of_ble_eq_true rfl)) dX3_timeIn_4 ⟨Nat.le_of_ble_eq_true rfl, Nat.le_of_ble_eq_true rfl⟩ (fun H locs hP hD hS => ?_)
  have hP : va_P D vwCl [(a_t, .inr (3, [.ref a_t_reading, .ref a_t_times])), (a_t_times, .inl (cI, 60, .inl t_times))] H := hP
  have hD : va_D A [(a_t, .inr (3, [.ref a_t_reading, .ref a_t_times])), (a_t_times, .inl (cI, 60, .inl t_times))] := hD
  refine lv_if_eq (tgt := 19) hx hb dX3_timeIn_7 (by decide) (fun c3 => ?_) (fun c3 => ?_)
  · have h := zz_t h c3
    refine lv_iconst (v := (-1 : Int32)) hx hb dX3_timeIn_19 rfl ?_
    have j0_ := Option.some.inj h
    subst j0_
    exact W.iret (v := (-1 : Int32)) hx hb hr (fun t ht hW => ⟨⟨_, (), rfl, rfl, zPost.of hP hD hK ht hW [0, 1] rfl rfl rfl⟩, hS.F ht⟩) hS.2.2 dX3_timeIn_20
  · have h := zz_f h c3
    refine lv_aload_n hx hb dX3_timeIn_10 rfl (lv_at hl 0 rfl) ?_
    refine va_get (D := D) (ci := 3) (C := RX3) (T := TX3) (N := 2) hx hb hts qX3_timeIn_X3 hown hK hP 0 rfl rfl 1 (by decide) (hts _ kX3_timeIn_2) (fun _ h9 => h9) rfl dX3_timeIn_11 ?_
    refine lv_iload_n hx hb dX3_timeIn_14 rfl (lv_at hl 1 rfl) ?_
    obtain ⟨i4, h⟩ := zz_i h
    refine va_iald hx hb hK hP 1 1 rfl rfl i4 dX3_timeIn_15 ?_
    refine lv_goto (tgt := 20) hx hb dX3_timeIn_16 (by decide) ?_
    have j0_ := Option.some.inj h
    subst j0_
    exact W.iret (v := (t_times (x1).toNatClampNeg)) hx hb hr (fun t ht hW => ⟨⟨_, (), rfl, rfl, zPost.of hP hD hK ht hW [0, 1] rfl rfl rfl⟩, hS.F ht⟩) hS.2.2 dX3_timeIn_20
/-! RunDesk$Listing.size -/
theorem dX3_size_0 : decode cX3_size 0 = .ok (.iconst 0, 1) := by decide +kernel
theorem dX3_size_1 : decode cX3_size 1 = .ok (.istore_n 1, 1) := by decide +kernel
theorem dX3_size_2 : decode cX3_size 2 = .ok (.iconst 0, 1) := by decide +kernel
theorem dX3_size_3 : decode cX3_size 3 = .ok (.istore_n 2, 1) := by decide +kernel
theorem dX3_size_4 : decode cX3_size 4 = .ok (.iload_n 2, 1) := by decide +kernel
theorem dX3_size_5 : decode cX3_size 5 = .ok (.bipush 60, 2) := by decide +kernel
theorem dX3_size_7 : decode cX3_size 7 = .ok (.if_icmp .ge 22, 3) := by decide +kernel
theorem dX3_size_10 : decode cX3_size 10 = .ok (.aload_n 0, 1) := by decide +kernel
theorem dX3_size_11 : decode cX3_size 11 = .ok (.getfield 18, 3) := by decide +kernel
theorem dX3_size_14 : decode cX3_size 14 = .ok (.iload_n 2, 1) := by decide +kernel
theorem dX3_size_15 : decode cX3_size 15 = .ok (.iaload, 1) := by decide +kernel
theorem dX3_size_16 : decode cX3_size 16 = .ok (.iconst (-1), 1) := by decide +kernel
theorem dX3_size_17 : decode cX3_size 17 = .ok (.if_icmp .eq 6, 3) := by decide +kernel
theorem dX3_size_20 : decode cX3_size 20 = .ok (.iinc 1 1, 3) := by decide +kernel
theorem dX3_size_23 : decode cX3_size 23 = .ok (.iinc 2 1, 3) := by decide +kernel
theorem dX3_size_26 : decode cX3_size 26 = .ok (.goto (-22), 3) := by decide +kernel
theorem dX3_size_29 : decode cX3_size 29 = .ok (.iload_n 1, 1) := by decide +kernel
theorem dX3_size_30 : decode cX3_size 30 = .ok (.ireturn, 1) := by decide +kernel
theorem kX3_size_0 : (.fieldLink RX3 18 "RunDesk$Listing" "times" "[I" : Cond) ∈ wsX3_size := List.mem_of_getElem? (i := 1) (by decide +kernel)
theorem qX3_size_X3 : ∀ w ∈ wsX30, w ∈ wsX3_size := fun _ h => List.mem_cons_of_mem _ (List.mem_append_right _ (h))
set_option maxHeartbeats 4000000 in
set_option maxRecDepth 100000 in
theorem mX3_size (l : Launch) (D : va_G) (cB cI cZ : ClassId) (a_t : Nat) (a_t_reading : Nat) (a_t_times : Nat) (t_times : Nat → Int32) (sz : Nat) (N : Nat) (r0 : Int32) (h : fX3_size N t_times = some (r0)) : Met l yX3_size wsX3_size ({ frames := 0, cells := 0, slots := 0, locals := 0 } : Room) (va_Pc [.ref a_t] (zPre D (zT cB cI cZ) [(a_t, .inr (3, [.ref a_t_reading, .ref a_t_times])), (a_t_times, .inl (cI, 60, .inl t_times))] sz)) (zQi r0 D (zT cB cI cZ) [(a_t, .inr (3, [.ref a_t_reading, .ref a_t_times])), (a_t_times, .inl (cI, 60, .inl t_times))] (va_A [(a_t, .inr (3, [.ref a_t_reading, .ref a_t_times])), (a_t_times, .inl (cI, 60, .inl t_times))] sz)) 0 0 (va_A [(a_t, .inr (3, [.ref a_t_reading, .ref a_t_times])), (a_t_times, .inl (cI, 60, .inl t_times))] sz) := by
  refine Met.ofW (cc := cX3_size) (maxL := 3) (ret := (some .int)) (by decide) rfl ?_
  intro p e s m args below meth c s₁ B hml hv
  obtain ⟨rfl, hsz, hP, hK, hN, hZ, hD0⟩ := hv
  have hx := B.exec
  have hb := B.bytes
  have hr := B.returns
  have hts := atoms_spec (ws := wsX3_size) B.pre
  have hown : s.vm.findClass RX3 = some m.cls := findClass_of_methodNamed B.named
  have hlocks := B.notSynchronized
  subst hsz
  have hD := hD0.self (sz := s.heap.size)
  generalize hAe : va_A [(a_t, .inr (3, [.ref a_t_reading, .ref a_t_times])), (a_t_times, .inl (cI, 60, .inl t_times))] s.heap.size = A at hD hZ ⊢
  have hA : ∀ q : Nat, s.heap.size ≤ q → A q := fun q h => by rw [← hAe]; exact Or.inr h
  have hS : va_S A s.heap s.heap [] := va_S.rf
  have hl := lv_entry ([.ref a_t]) (n := 3) (Nat.le_of_ble_eq_true rfl)
  rw [lg_entry_eq]
  generalize (lg_sl ([.ref a_t]) ++ List.replicate (3 - (lg_sl ([.ref a_t])).length) Slot.unset).toArray = ls at hl ⊢
  have hl : lv_has ls 3 [(0, .ref a_t)] := hl
  unfold fX3_size at h
  refine lv_iconst (v := (nI 0)) hx hb dX3_size_0 rfl ?_
  refine lv_istore_n (lv' := [(1, .int (nI 0)), (0, .ref a_t)]) hx hb dX3_size_1 rfl hl (by decide) rfl (fun ls hl => ?_)
  refine lv_iconst (v := (nI 0)) hx hb dX3_size_2 rfl ?_
  refine lv_istore_n (lv' := [(2, .int (nI 0)), (1, .int (nI 0)), (0, .ref a_t)]) hx hb dX3_size_3 rfl hl (by decide) rfl (fun ls hl => ?_)
  have X4_29 : ∀ (v1_4 : Int32) (v2_4 : Int32) (H : Heap) (locs : List Loc) (ls : Array Slot), some (v1_4) = some (r0) → va_P D vwCl [(a_t, .inr (3, [.ref a_t_reading, .ref a_t_times])), (a_t_times, .inl (cI, 60, .inl t_times))] H → va_D A [(a_t, .inr (3, [.ref a_t_reading, .ref a_t_times])), (a_t_times, .inl (cI, 60, .inl t_times))] → va_S A s.heap H locs → lv_has ls 3 [(2, .int v2_4), (1, .int v1_4), (0, .ref a_t)] → W p l e (headSpec wsX3_size ({ frames := 0, cells := 0, slots := 0, locals := 0 } : Room)).room s m #[Value.ref a_t] below meth c H locs 0 0 (MQ below (zQi r0 D (zT cB cI cZ) [(a_t, .inr (3, [.ref a_t_reading, .ref a_t_times])), (a_t_times, .inl (cI, 60, .inl t_times))] A) #[Value.ref a_t] s 0 0 A) (F0 m 29 ls []) := by
    intro v1_4 v2_4 H locs ls h hP hD hS hl
    refine lv_iload_n hx hb dX3_size_29 rfl (lv_at hl 1 rfl) ?_
    have j0_ := Option.some.inj h
    subst j0_
    exact W.iret (v := v1_4) hx hb hr (fun t ht hW => ⟨⟨_, (), rfl, rfl, zPost.of hP hD hK ht hW [0, 1] rfl rfl rfl⟩, hS.F ht⟩) hS.2.2 dX3_size_30
  have L4 : ∀ (n : Nat) (v1_4 : Int32) (v2_4 : Int32) (H : Heap) (locs : List Loc) (ls : Array Slot), fX3_size_L4 t_times (fun (v1_4 : Int32) (v2_4 : Int32) => some (v1_4)) n v1_4 v2_4 = some (r0) → va_P D vwCl [(a_t, .inr (3, [.ref a_t_reading, .ref a_t_times])), (a_t_times, .inl (cI, 60, .inl t_times))] H → va_D A [(a_t, .inr (3, [.ref a_t_reading, .ref a_t_times])), (a_t_times, .inl (cI, 60, .inl t_times))] → va_S A s.heap H locs → lv_has ls 3 [(2, .int v2_4), (1, .int v1_4), (0, .ref a_t)] → W p l e (headSpec wsX3_size ({ frames := 0, cells := 0, slots := 0, locals := 0 } : Room)).room s m #[Value.ref a_t] below meth c H locs 0 0 (MQ below (zQi r0 D (zT cB cI cZ) [(a_t, .inr (3, [.ref a_t_reading, .ref a_t_times])), (a_t_times, .inl (cI, 60, .inl t_times))] A) #[Value.ref a_t] s 0 0 A) (F0 m 4 ls []) := by
    intro n
    induction n with
    | zero => intro _ _ H locs ls h hP hD hS hl; cases h
    | succ n4 ih4 =>
      intro v1_4 v2_4 H locs ls h hP hD hS hl
      rw [fX3_size_L4.eq_2] at h
      refine lv_iload_n hx hb dX3_size_4 rfl (lv_at hl 0 rfl) ?_
      refine lv_bipush (v := (nI 60)) hx hb dX3_size_5 rfl ?_
      refine lv_icmp_ge (tgt := 29) hx hb dX3_size_7 (by decide) (fun c1 => ?_) (fun c1 => ?_)
      · have h := zz_t h c1
        exact X4_29 v1_4 v2_4 _ _ _ h (hP.sub [0, 1] rfl) (hD.sub [0, 1] rfl rfl) hS (lv_sub hl [0, 1, 2] rfl)
      · have h := zz_f h c1
        refine lv_aload_n hx hb dX3_size_10 rfl (lv_at hl 2 rfl) ?_
        refine va_get (D := D) (ci := 3) (C := RX3) (T := TX3) (N := 2) hx hb hts qX3_size_X3 hown hK hP 0 rfl rfl 1 (by decide) (hts _ kX3_size_0) (fun _ h9 => h9) rfl dX3_size_11 ?_
        refine lv_iload_n hx hb dX3_size_14 rfl (lv_at hl 0 rfl) ?_
        obtain ⟨i2, h⟩ := zz_i h
        refine va_iald hx hb hK hP 1 1 rfl rfl i2 dX3_size_15 ?_
        refine lv_iconst (v := (-1 : Int32)) hx hb dX3_size_16 rfl ?_
        refine lv_icmp_eq (tgt := 23) hx hb dX3_size_17 (by decide) (fun c3 => ?_) (fun c3 => ?_)
        · have h := zz_t h c3
          refine lv_iinc (v := (v2_4 + (nI 1))) (lv' := [(2, .int (v2_4 + (nI 1))), (1, .int v1_4), (0, .ref a_t)]) hx hb dX3_size_23 hl (k := 0) rfl rfl (by decide) rfl (fun ls hl => ?_)
          refine lv_goto (tgt := 4) hx hb dX3_size_26 (by decide) ?_
          exact ih4 v1_4 (v2_4 + (nI 1)) _ _ _ h (hP.sub [0, 1] rfl) (hD.sub [0, 1] rfl rfl) hS (lv_sub hl [0, 1, 2] rfl)
        · have h := zz_f h c3
          refine lv_iinc (v := (v1_4 + (nI 1))) (lv' := [(1, .int (v1_4 + (nI 1))), (2, .int v2_4), (0, .ref a_t)]) hx hb dX3_size_20 hl (k := 1) rfl rfl (by decide) rfl (fun ls hl => ?_)
          refine lv_iinc (v := (v2_4 + (nI 1))) (lv' := [(2, .int (v2_4 + (nI 1))), (1, .int (v1_4 + (nI 1))), (0, .ref a_t)]) hx hb dX3_size_23 hl (k := 1) rfl rfl (by decide) rfl (fun ls hl => ?_)
          refine lv_goto (tgt := 4) hx hb dX3_size_26 (by decide) ?_
          exact ih4 (v1_4 + (nI 1)) (v2_4 + (nI 1)) _ _ _ h (hP.sub [0, 1] rfl) (hD.sub [0, 1] rfl rfl) hS (lv_sub hl [0, 1, 2] rfl)
  exact L4 N (nI 0) (nI 0) _ _ _ h hP hD hS hl
/-! RunDesk$Listing.howManyBelow -/
theorem dX3_howManyBelow_0 : decode cX3_howManyBelow 0 = .ok (.iconst 0, 1) := by decide +kernel
theorem dX3_howManyBelow_1 : decode cX3_howManyBelow 1 = .ok (.istore_n 2, 1) := by decide +kernel
theorem dX3_howManyBelow_2 : decode cX3_howManyBelow 2 = .ok (.iconst 0, 1) := by decide +kernel
theorem dX3_howManyBelow_3 : decode cX3_howManyBelow 3 = .ok (.istore_n 3, 1) := by decide +kernel
theorem dX3_howManyBelow_4 : decode cX3_howManyBelow 4 = .ok (.iload_n 3, 1) := by decide +kernel
theorem dX3_howManyBelow_5 : decode cX3_howManyBelow 5 = .ok (.bipush 60, 2) := by decide +kernel
theorem dX3_howManyBelow_7 : decode cX3_howManyBelow 7 = .ok (.if_icmp .ge 32, 3) := by decide +kernel
theorem dX3_howManyBelow_10 : decode cX3_howManyBelow 10 = .ok (.aload_n 0, 1) := by decide +kernel
theorem dX3_howManyBelow_11 : decode cX3_howManyBelow 11 = .ok (.getfield 18, 3) := by decide +kernel
theorem dX3_howManyBelow_14 : decode cX3_howManyBelow 14 = .ok (.iload_n 3, 1) := by decide +kernel
theorem dX3_howManyBelow_15 : decode cX3_howManyBelow 15 = .ok (.iaload, 1) := by decide +kernel
theorem dX3_howManyBelow_16 : decode cX3_howManyBelow 16 = .ok (.iconst (-1), 1) := by decide +kernel
theorem dX3_howManyBelow_17 : decode cX3_howManyBelow 17 = .ok (.if_icmp .eq 16, 3) := by decide +kernel
theorem dX3_howManyBelow_20 : decode cX3_howManyBelow 20 = .ok (.aload_n 0, 1) := by decide +kernel
theorem dX3_howManyBelow_21 : decode cX3_howManyBelow 21 = .ok (.getfield 18, 3) := by decide +kernel
theorem dX3_howManyBelow_24 : decode cX3_howManyBelow 24 = .ok (.iload_n 3, 1) := by decide +kernel
theorem dX3_howManyBelow_25 : decode cX3_howManyBelow 25 = .ok (.iaload, 1) := by decide +kernel
theorem dX3_howManyBelow_26 : decode cX3_howManyBelow 26 = .ok (.iload_n 1, 1) := by decide +kernel
theorem dX3_howManyBelow_27 : decode cX3_howManyBelow 27 = .ok (.if_icmp .ge 6, 3) := by decide +kernel
theorem dX3_howManyBelow_30 : decode cX3_howManyBelow 30 = .ok (.iinc 2 1, 3) := by decide +kernel
theorem dX3_howManyBelow_33 : decode cX3_howManyBelow 33 = .ok (.iinc 3 1, 3) := by decide +kernel
theorem dX3_howManyBelow_36 : decode cX3_howManyBelow 36 = .ok (.goto (-32), 3) := by decide +kernel
theorem dX3_howManyBelow_39 : decode cX3_howManyBelow 39 = .ok (.iload_n 2, 1) := by decide +kernel
theorem dX3_howManyBelow_40 : decode cX3_howManyBelow 40 = .ok (.ireturn, 1) := by decide +kernel
theorem kX3_howManyBelow_0 : (.fieldLink RX3 18 "RunDesk$Listing" "times" "[I" : Cond) ∈ wsX3_howManyBelow := List.mem_of_getElem? (i := 1) (by decide +kernel)
theorem qX3_howManyBelow_X3 : ∀ w ∈ wsX30, w ∈ wsX3_howManyBelow := fun _ h => List.mem_cons_of_mem _ (List.mem_append_right _ (h))
set_option maxHeartbeats 4000000 in
set_option maxRecDepth 100000 in
theorem mX3_howManyBelow (l : Launch) (D : va_G) (cB cI cZ : ClassId) (a_t : Nat) (a_t_reading : Nat) (a_t_times : Nat) (t_times : Nat → Int32) (sz : Nat) (x1 : Int32) (N : Nat) (r0 : Int32) (h : fX3_howManyBelow N t_times x1 = some (r0)) : Met l yX3_howManyBelow wsX3_howManyBelow ({ frames := 0, cells := 0, slots := 0, locals := 0 } : Room) (va_Pc [.ref a_t, .int x1] (zPre D (zT cB cI cZ) [(a_t, .inr (3, [.ref a_t_reading, .ref a_t_times])), (a_t_times, .inl (cI, 60, .inl t_times))] sz)) (zQi r0 D (zT cB cI cZ) [(a_t, .inr (3, [.ref a_t_reading, .ref a_t_times])), (a_t_times, .inl (cI, 60, .inl t_times))] (va_A [(a_t, .inr (3, [.ref a_t_reading, .ref a_t_times])), (a_t_times, .inl (cI, 60, .inl t_times))] sz)) 0 0 (va_A [(a_t, .inr (3, [.ref a_t_reading, .ref a_t_times])), (a_t_times, .inl (cI, 60, .inl t_times))] sz) := by
  refine Met.ofW (cc := cX3_howManyBelow) (maxL := 4) (ret := (some .int)) (by decide) rfl ?_
  intro p e s m args below meth c s₁ B hml hv
  obtain ⟨rfl, hsz, hP, hK, hN, hZ, hD0⟩ := hv
  have hx := B.exec
  have hb := B.bytes
  have hr := B.returns
  have hts := atoms_spec (ws := wsX3_howManyBelow) B.pre
  have hown : s.vm.findClass RX3 = some m.cls := findClass_of_methodNamed B.named
  have hlocks := B.notSynchronized
  subst hsz
  have hD := hD0.self (sz := s.heap.size)
  generalize hAe : va_A [(a_t, .inr (3, [.ref a_t_reading, .ref a_t_times])), (a_t_times, .inl (cI, 60, .inl t_times))] s.heap.size = A at hD hZ ⊢
  have hA : ∀ q : Nat, s.heap.size ≤ q → A q := fun q h => by rw [← hAe]; exact Or.inr h
  have hS : va_S A s.heap s.heap [] := va_S.rf
  have hl := lv_entry ([.ref a_t, .int x1]) (n := 4) (Nat.le_of_ble_eq_true rfl)
  rw [lg_entry_eq]
  generalize (lg_sl ([.ref a_t, .int x1]) ++ List.replicate (4 - (lg_sl ([.ref a_t, .int x1])).length) Slot.unset).toArray = ls at hl ⊢
  have hl : lv_has ls 4 [(0, .ref a_t), (1, .int x1)] := hl
  unfold fX3_howManyBelow at h
  refine lv_iconst (v := (nI 0)) hx hb dX3_howManyBelow_0 rfl ?_
  refine lv_istore_n (lv' := [(2, .int (nI 0)), (0, .ref a_t), (1, .int x1)]) hx hb dX3_howManyBelow_1 rfl hl (by decide) rfl (fun ls hl => ?_)
  refine lv_iconst (v := (nI 0)) hx hb dX3_howManyBelow_2 rfl ?_
  refine lv_istore_n (lv' := [(3, .int (nI 0)), (2, .int (nI 0)), (0, .ref a_t), (1, .int x1)]) hx hb dX3_howManyBelow_3 rfl hl (by decide) rfl (fun ls hl => ?_)
  have X4_39 : ∀ (v2_4 : Int32) (v3_4 : Int32) (H : Heap) (locs : List Loc) (ls : Array Slot), some (v2_4) = some (r0) → va_P D vwCl [(a_t, .inr (3, [.ref a_t_reading, .ref a_t_times])), (a_t_times, .inl (cI, 60, .inl t_times))] H → va_D A [(a_t, .inr (3, [.ref a_t_reading, .ref a_t_times])), (a_t_times, .inl (cI, 60, .inl t_times))] → va_S A s.heap H locs → lv_has ls 4 [(3, .int v3_4), (2, .int v2_4), (0, .ref a_t), (1, .int x1)] → W p l e (headSpec wsX3_howManyBelow ({ frames := 0, cells := 0, slots := 0, locals := 0 } : Room)).room s m #[Value.ref a_t, Value.int x1] below meth c H locs 0 0 (MQ below (zQi r0 D (zT cB cI cZ) [(a_t, .inr (3, [.ref a_t_reading, .ref a_t_times])), (a_t_times, .inl (cI, 60, .inl t_times))] A) #[Value.ref a_t, Value.int x1] s 0 0 A) (F0 m 39 ls []) := by
    intro v2_4 v3_4 H locs ls h hP hD hS hl
    refine lv_iload_n hx hb dX3_howManyBelow_39 rfl (lv_at hl 1 rfl) ?_
    have j0_ := Option.some.inj h
    subst j0_
    exact W.iret (v := v2_4) hx hb hr (fun t ht hW => ⟨⟨_, (), rfl, rfl, zPost.of hP hD hK ht hW [0, 1] rfl rfl rfl⟩, hS.F ht⟩) hS.2.2 dX3_howManyBelow_40
  have L4 : ∀ (n : Nat) (v2_4 : Int32) (v3_4 : Int32) (H : Heap) (locs : List Loc) (ls : Array Slot), fX3_howManyBelow_L4 t_times x1 (fun (v2_4 : Int32) (v3_4 : Int32) => some (v2_4)) n v2_4 v3_4 = some (r0) → va_P D vwCl [(a_t, .inr (3, [.ref a_t_reading, .ref a_t_times])), (a_t_times, .inl (cI, 60, .inl t_times))] H → va_D A [(a_t, .inr (3, [.ref a_t_reading, .ref a_t_times])), (a_t_times, .inl (cI, 60, .inl t_times))] → va_S A s.heap H locs → lv_has ls 4 [(3, .int v3_4), (2, .int v2_4), (0, .ref a_t), (1, .int x1)] → W p l e (headSpec wsX3_howManyBelow ({ frames := 0, cells := 0, slots := 0, locals := 0 } : Room)).room s m #[Value.ref a_t, Value.int x1] below meth c H locs 0 0 (MQ below (zQi r0 D (zT cB cI cZ) [(a_t, .inr (3, [.ref a_t_reading, .ref a_t_times])), (a_t_times, .inl (cI, 60, .inl t_times))] A) #[Value.ref a_t, Value.int x1] s 0 0 A) (F0 m 4 ls []) := by
    intro n
    induction n with
    | zero => intro _ _ H locs ls h hP hD hS hl; cases h
    | succ n4 ih4 =>
      intro v2_4 v3_4 H locs ls h hP hD hS hl
      rw [fX3_howManyBelow_L4.eq_2] at h
      refine lv_iload_n hx hb dX3_howManyBelow_4 rfl (lv_at hl 0 rfl) ?_
      refine lv_bipush (v := (nI 60)) hx hb dX3_howManyBelow_5 rfl ?_
      refine lv_icmp_ge (tgt := 39) hx hb dX3_howManyBelow_7 (by decide) (fun c1 => ?_) (fun c1 => ?_)
      · have h := zz_t h c1
        exact X4_39 v2_4 v3_4 _ _ _ h (hP.sub [0, 1] rfl) (hD.sub [0, 1] rfl rfl) hS (lv_sub hl [0, 1, 2, 3] rfl)
      · have h := zz_f h c1
        refine lv_aload_n hx hb dX3_howManyBelow_10 rfl (lv_at hl 2 rfl) ?_
        refine va_get (D := D) (ci := 3) (C := RX3) (T := TX3) (N := 2) hx hb hts qX3_howManyBelow_X3 hown hK hP 0 rfl rfl 1 (by decide) (hts _ kX3_howManyBelow_0) (fun _ h9 => h9) rfl dX3_howManyBelow_11 ?_
        refine lv_iload_n hx hb dX3_howManyBelow_14 rfl (lv_at hl 0 rfl) ?_
        obtain ⟨i2, h⟩ := zz_i h
        refine va_iald hx hb hK hP 1 1 rfl rfl i2 dX3_howManyBelow_15 ?_
        refine lv_iconst (v := (-1 : Int32)) hx hb dX3_howManyBelow_16 rfl ?_
        refine lv_icmp_eq (tgt := 33) hx hb dX3_howManyBelow_17 (by decide) (fun c3 => ?_) (fun c3 => ?_)
        · have h := zz_t h c3
          refine lv_iinc (v := (v3_4 + (nI 1))) (lv' := [(3, .int (v3_4 + (nI 1))), (2, .int v2_4), (0, .ref a_t), (1, .int x1)]) hx hb dX3_howManyBelow_33 hl (k := 0) rfl rfl (by decide) rfl (fun ls hl => ?_)
          refine lv_goto (tgt := 4) hx hb dX3_howManyBelow_36 (by decide) ?_
          exact ih4 v2_4 (v3_4 + (nI 1)) _ _ _ h (hP.sub [0, 1] rfl) (hD.sub [0, 1] rfl rfl) hS (lv_sub hl [0, 1, 2, 3] rfl)
        · have h := zz_f h c3
          refine lv_aload_n hx hb dX3_howManyBelow_20 rfl (lv_at hl 2 rfl) ?_
          refine va_get (D := D) (ci := 3) (C := RX3) (T := TX3) (N := 2) hx hb hts qX3_howManyBelow_X3 hown hK hP 0 rfl rfl 1 (by decide) (hts _ kX3_howManyBelow_0) (fun _ h9 => h9) rfl dX3_howManyBelow_21 ?_
          refine lv_iload_n hx hb dX3_howManyBelow_24 rfl (lv_at hl 0 rfl) ?_
          obtain ⟨i4, h⟩ := zz_i h
          refine va_iald hx hb hK hP 1 1 rfl rfl i4 dX3_howManyBelow_25 ?_
          refine lv_iload_n hx hb dX3_howManyBelow_26 rfl (lv_at hl 3 rfl) ?_
          refine lv_icmp_ge (tgt := 33) hx hb dX3_howManyBelow_27 (by decide) (fun c5 => ?_) (fun c5 => ?_)
          · have h := zz_t h c5
            refine lv_iinc (v := (v3_4 + (nI 1))) (lv' := [(3, .int (v3_4 + (nI 1))), (2, .int v2_4), (0, .ref a_t), (1, .int x1)]) hx hb dX3_howManyBelow_33 hl (k := 0) rfl rfl (by decide) rfl (fun ls hl => ?_)
            refine lv_goto (tgt := 4) hx hb dX3_howManyBelow_36 (by decide) ?_
            exact ih4 v2_4 (v3_4 + (nI 1)) _ _ _ h (hP.sub [0, 1] rfl) (hD.sub [0, 1] rfl rfl) hS (lv_sub hl [0, 1, 2, 3] rfl)
          · have h := zz_f h c5
            refine lv_iinc (v := (v2_4 + (nI 1))) (lv' := [(2, .int (v2_4 + (nI 1))), (3, .int v3_4), (0, .ref a_t), (1, .int x1)]) hx hb dX3_howManyBelow_30 hl (k := 1) rfl rfl (by decide) rfl (fun ls hl => ?_)
            refine lv_iinc (v := (v3_4 + (nI 1))) (lv' := [(3, .int (v3_4 + (nI 1))), (2, .int (v2_4 + (nI 1))), (0, .ref a_t), (1, .int x1)]) hx hb dX3_howManyBelow_33 hl (k := 1) rfl rfl (by decide) rfl (fun ls hl => ?_)
            refine lv_goto (tgt := 4) hx hb dX3_howManyBelow_36 (by decide) ?_
            exact ih4 (v2_4 + (nI 1)) (v3_4 + (nI 1)) _ _ _ h (hP.sub [0, 1] rfl) (hD.sub [0, 1] rfl rfl) hS (lv_sub hl [0, 1, 2, 3] rfl)
  exact L4 N (nI 0) (nI 0) _ _ _ h hP hD hS hl
/-! RunDesk$Listing.placeOf -/
theorem dX3_placeOf_0 : decode cX3_placeOf 0 = .ok (.aload_n 0, 1) := by decide +kernel
theorem dX3_placeOf_1 : decode cX3_placeOf 1 = .ok (.iload_n 1, 1) := by decide +kernel
theorem dX3_placeOf_2 : decode cX3_placeOf 2 = .ok (.invokevirtual 67, 3) := by decide +kernel
theorem dX3_placeOf_5 : decode cX3_placeOf 5 = .ok (.istore_n 2, 1) := by decide +kernel
theorem dX3_placeOf_6 : decode cX3_placeOf 6 = .ok (.iload_n 2, 1) := by decide +kernel
theorem dX3_placeOf_7 : decode cX3_placeOf 7 = .ok (.iconst (-1), 1) := by decide +kernel
theorem dX3_placeOf_8 : decode cX3_placeOf 8 = .ok (.if_icmp .ne 7, 3) := by decide +kernel
theorem dX3_placeOf_11 : decode cX3_placeOf 11 = .ok (.iconst (-1), 1) := by decide +kernel
theorem dX3_placeOf_12 : decode cX3_placeOf 12 = .ok (.goto 10, 3) := by decide +kernel
theorem dX3_placeOf_15 : decode cX3_placeOf 15 = .ok (.iconst 1, 1) := by decide +kernel
theorem dX3_placeOf_16 : decode cX3_placeOf 16 = .ok (.aload_n 0, 1) := by decide +kernel
theorem dX3_placeOf_17 : decode cX3_placeOf 17 = .ok (.iload_n 2, 1) := by decide +kernel
theorem dX3_placeOf_18 : decode cX3_placeOf 18 = .ok (.invokevirtual 70, 3) := by decide +kernel
theorem dX3_placeOf_21 : decode cX3_placeOf 21 = .ok (.iadd, 1) := by decide +kernel
theorem dX3_placeOf_22 : decode cX3_placeOf 22 = .ok (.ireturn, 1) := by decide +kernel
set_option maxRecDepth 20000 in
theorem ggX3_placeOf_X3_timeIn : GoodIn wsX3_placeOf wsX3_timeIn := goodIn_r _ [5, 6, 7, 8, 9, 14, 15] (by decide +kernel) (by decide +kernel)
set_option maxRecDepth 20000 in
theorem gX3_placeOf_X3_timeIn : GoodIn wsX3_placeOf (wsV RX3 67 RX3 yX3_timeIn wsX3_timeIn) := goodIn_app (goodIn_of _ (by decide +kernel)) ggX3_placeOf_X3_timeIn
set_option maxRecDepth 20000 in
theorem ggX3_placeOf_X3_howManyBelow : GoodIn wsX3_placeOf wsX3_howManyBelow := goodIn_r _ [13, 6, 14, 15] (by decide +kernel) (by decide +kernel)
set_option maxRecDepth 20000 in
theorem gX3_placeOf_X3_howManyBelow : GoodIn wsX3_placeOf (wsV RX3 70 RX3 yX3_howManyBelow wsX3_howManyBelow) := goodIn_app (goodIn_of _ (by decide +kernel)) ggX3_placeOf_X3_howManyBelow
set_option maxHeartbeats 4000000 in
set_option maxRecDepth 100000 in
theorem mX3_placeOf (l : Launch) (D : va_G) (cB cI cZ : ClassId) (a_t : Nat) (a_t_reading : Nat) (a_t_times : Nat) (t_times : Nat → Int32) (sz : Nat) (x1 : Int32) (N : Nat) (r0 : Int32) (h : fX3_placeOf N t_times x1 = some (r0)) : Met l yX3_placeOf wsX3_placeOf ({ frames := 2, cells := 0, slots := 0, locals := 43 } : Room) (va_Pc [.ref a_t, .int x1] (zPre D (zT cB cI cZ) [(a_t, .inr (3, [.ref a_t_reading, .ref a_t_times])), (a_t_times, .inl (cI, 60, .inl t_times))] sz)) (zQi r0 D (zT cB cI cZ) [(a_t, .inr (3, [.ref a_t_reading, .ref a_t_times])), (a_t_times, .inl (cI, 60, .inl t_times))] (va_A [(a_t, .inr (3, [.ref a_t_reading, .ref a_t_times])), (a_t_times, .inl (cI, 60, .inl t_times))] sz)) 0 0 (va_A [(a_t, .inr (3, [.ref a_t_reading, .ref a_t_times])), (a_t_times, .inl (cI, 60, .inl t_times))] sz) := by
  refine Met.ofW (cc := cX3_placeOf) (maxL := 3) (ret := (some .int)) (by decide) rfl ?_
  intro p e s m args below meth c s₁ B hml hv
  obtain ⟨rfl, hsz, hP, hK, hN, hZ, hD0⟩ := hv
  have hx := B.exec
  have hb := B.bytes
  have hr := B.returns
  have hts := atoms_spec (ws := wsX3_placeOf) B.pre
  have hown : s.vm.findClass RX3 = some m.cls := findClass_of_methodNamed B.named
  have hlocks := B.notSynchronized
  subst hsz
  have hD := hD0.self (sz := s.heap.size)
  generalize hAe : va_A [(a_t, .inr (3, [.ref a_t_reading, .ref a_t_times])), (a_t_times, .inl (cI, 60, .inl t_times))] s.heap.size = A at hD hZ ⊢
  have hA : ∀ q : Nat, s.heap.size ≤ q → A q := fun q h => by rw [← hAe]; exact Or.inr h
  have hS : va_S A s.heap s.heap [] := va_S.rf
  have hl := lv_entry ([.ref a_t, .int x1]) (n := 3) (Nat.le_of_ble_eq_true rfl)
  rw [lg_entry_eq]
  generalize (lg_sl ([.ref a_t, .int x1]) ++ List.replicate (3 - (lg_sl ([.ref a_t, .int x1])).length) Slot.unset).toArray = ls at hl ⊢
  have hl : lv_has ls 3 [(0, .ref a_t), (1, .int x1)] := hl
  unfold fX3_placeOf at h
  refine lv_aload_n hx hb dX3_placeOf_0 rfl (lv_at hl 0 rfl) ?_
  refine lv_iload_n hx hb dX3_placeOf_1 rfl (lv_at hl 1 rfl) ?_
  obtain ⟨r1, e2, h⟩ := zz_b h
  refine zVi (As := [.int x1]) (rest := []) (C := RX3) (wr := []) [0, 1] [] 0 ⟨hx, hb, hml, hown, hts⟩ (mX3_timeIn l D cB cI cZ a_t a_t_reading a_t_times t_times s.heap.size x1 r1 e2) (cwV 1 hts gX3_placeOf_X3_timeIn rfl rfl rfl (by decide +kernel) ⟨Nat.le_of_ble_eq_true rfl, Nat.le_of_ble_eq_true rfl⟩) hK hN hZ hP hD hS hA rfl rfl rfl rfl rfl rfl rfl rfl hl.1 rfl (lv_room (Nat.le_of_ble_eq_true rfl)) dX3_placeOf_2 ⟨Nat.le_of_ble_eq_true rfl, Nat.le_of_ble_eq_true rfl⟩ (fun H locs hP hD hS => ?_)
  have hP : va_P D vwCl [(a_t, .inr (3, [.ref a_t_reading, .ref a_t_times])), (a_t_times, .inl (cI, 60, .inl t_times))] H := hP
  have hD : va_D A [(a_t, .inr (3, [.ref a_t_reading, .ref a_t_times])), (a_t_times, .inl (cI, 60, .inl t_times))] := hD
  refine lv_istore_n (lv' := [(2, .int r1), (0, .ref a_t), (1, .int x1)]) hx hb dX3_placeOf_5 rfl hl (by decide) rfl (fun ls hl => ?_)
  refine lv_iload_n hx hb dX3_placeOf_6 rfl (lv_at hl 0 rfl) ?_
  refine lv_iconst (v := (-1 : Int32)) hx hb dX3_placeOf_7 rfl ?_
  refine lv_icmp_ne (tgt := 15) hx hb dX3_placeOf_8 (by decide) (fun c3 => ?_) (fun c3 => ?_)
  · have h := zz_f h c3
    refine lv_iconst (v := (nI 1)) hx hb dX3_placeOf_15 rfl ?_
    refine lv_aload_n hx hb dX3_placeOf_16 rfl (lv_at hl 1 rfl) ?_
    refine lv_iload_n hx hb dX3_placeOf_17 rfl (lv_at hl 0 rfl) ?_
    obtain ⟨r4, e5, h⟩ := zz_b h
    refine zVi (As := [.int r1]) (rest := [.int (nI 1)]) (C := RX3) (wr := []) [0, 1] [] 0 ⟨hx, hb, hml, hown, hts⟩ (mX3_howManyBelow l D cB cI cZ a_t a_t_reading a_t_times t_times H.size r1 N r4 e5) (cwV 1 hts gX3_placeOf_X3_howManyBelow rfl rfl rfl (by decide +kernel) ⟨Nat.le_of_ble_eq_true rfl, Nat.le_of_ble_eq_true rfl⟩) hK hN hZ hP hD hS hA rfl rfl rfl rfl rfl rfl rfl rfl hl.1 rfl (lv_room (Nat.le_of_ble_eq_true rfl)) dX3_placeOf_18 ⟨Nat.le_of_ble_eq_true rfl, Nat.le_of_ble_eq_true rfl⟩ (fun H locs hP hD hS => ?_)
    have hP : va_P D vwCl [(a_t, .inr (3, [.ref a_t_reading, .ref a_t_times])), (a_t_times, .inl (cI, 60, .inl t_times))] H := hP
    have hD : va_D A [(a_t, .inr (3, [.ref a_t_reading, .ref a_t_times])), (a_t_times, .inl (cI, 60, .inl t_times))] := hD
    refine lv_iadd hx hb dX3_placeOf_21 ?_
    have j0_ := Option.some.inj h
    subst j0_
    exact W.iret (v := ((nI 1) + r4)) hx hb hr (fun t ht hW => ⟨⟨_, (), rfl, rfl, zPost.of hP hD hK ht hW [0, 1] rfl rfl rfl⟩, hS.F ht⟩) hS.2.2 dX3_placeOf_22
  · have h := zz_t h c3
    refine lv_iconst (v := (-1 : Int32)) hx hb dX3_placeOf_11 rfl ?_
    refine lv_goto (tgt := 22) hx hb dX3_placeOf_12 (by decide) ?_
    have j0_ := Option.some.inj h
    subst j0_
    exact W.iret (v := (-1 : Int32)) hx hb hr (fun t ht hW => ⟨⟨_, (), rfl, rfl, zPost.of hP hD hK ht hW [0, 1] rfl rfl rfl⟩, hS.F ht⟩) hS.2.2 dX3_placeOf_22
/-! RunDesk$Listing.indexOf -/
theorem dX3_indexOf_0 : decode cX3_indexOf 0 = .ok (.aload_n 0, 1) := by decide +kernel
theorem dX3_indexOf_1 : decode cX3_indexOf 1 = .ok (.iload_n 1, 1) := by decide +kernel
theorem dX3_indexOf_2 : decode cX3_indexOf 2 = .ok (.invokevirtual 67, 3) := by decide +kernel
theorem dX3_indexOf_5 : decode cX3_indexOf 5 = .ok (.istore_n 2, 1) := by decide +kernel
theorem dX3_indexOf_6 : decode cX3_indexOf 6 = .ok (.aload_n 0, 1) := by decide +kernel
theorem dX3_indexOf_7 : decode cX3_indexOf 7 = .ok (.iload_n 2, 1) := by decide +kernel
theorem dX3_indexOf_8 : decode cX3_indexOf 8 = .ok (.invokevirtual 70, 3) := by decide +kernel
theorem dX3_indexOf_11 : decode cX3_indexOf 11 = .ok (.istore_n 3, 1) := by decide +kernel
theorem dX3_indexOf_12 : decode cX3_indexOf 12 = .ok (.iconst 0, 1) := by decide +kernel
theorem dX3_indexOf_13 : decode cX3_indexOf 13 = .ok (.istore 4, 2) := by decide +kernel
theorem dX3_indexOf_15 : decode cX3_indexOf 15 = .ok (.iload 4, 2) := by decide +kernel
theorem dX3_indexOf_17 : decode cX3_indexOf 17 = .ok (.iload_n 1, 1) := by decide +kernel
theorem dX3_indexOf_18 : decode cX3_indexOf 18 = .ok (.if_icmp .ge 22, 3) := by decide +kernel
theorem dX3_indexOf_21 : decode cX3_indexOf 21 = .ok (.aload_n 0, 1) := by decide +kernel
theorem dX3_indexOf_22 : decode cX3_indexOf 22 = .ok (.iload 4, 2) := by decide +kernel
theorem dX3_indexOf_24 : decode cX3_indexOf 24 = .ok (.invokevirtual 67, 3) := by decide +kernel
theorem dX3_indexOf_27 : decode cX3_indexOf 27 = .ok (.iload_n 2, 1) := by decide +kernel
theorem dX3_indexOf_28 : decode cX3_indexOf 28 = .ok (.if_icmp .ne 6, 3) := by decide +kernel
theorem dX3_indexOf_31 : decode cX3_indexOf 31 = .ok (.iinc 3 1, 3) := by decide +kernel
theorem dX3_indexOf_34 : decode cX3_indexOf 34 = .ok (.iinc 4 1, 3) := by decide +kernel
theorem dX3_indexOf_37 : decode cX3_indexOf 37 = .ok (.goto (-22), 3) := by decide +kernel
theorem dX3_indexOf_40 : decode cX3_indexOf 40 = .ok (.iload_n 3, 1) := by decide +kernel
theorem dX3_indexOf_41 : decode cX3_indexOf 41 = .ok (.ireturn, 1) := by decide +kernel
set_option maxRecDepth 20000 in
theorem ggX3_indexOf_X3_timeIn : GoodIn wsX3_indexOf wsX3_timeIn := goodIn_r _ [5, 6, 7, 8, 9, 14, 15] (by decide +kernel) (by decide +kernel)
set_option maxRecDepth 20000 in
theorem gX3_indexOf_X3_timeIn : GoodIn wsX3_indexOf (wsV RX3 67 RX3 yX3_timeIn wsX3_timeIn) := goodIn_app (goodIn_of _ (by decide +kernel)) ggX3_indexOf_X3_timeIn
set_option maxRecDepth 20000 in
theorem ggX3_indexOf_X3_howManyBelow : GoodIn wsX3_indexOf wsX3_howManyBelow := goodIn_r _ [13, 6, 14, 15] (by decide +kernel) (by decide +kernel)
set_option maxRecDepth 20000 in
theorem gX3_indexOf_X3_howManyBelow : GoodIn wsX3_indexOf (wsV RX3 70 RX3 yX3_howManyBelow wsX3_howManyBelow) := goodIn_app (goodIn_of _ (by decide +kernel)) ggX3_indexOf_X3_howManyBelow
set_option maxHeartbeats 4000000 in
set_option maxRecDepth 100000 in
theorem mX3_indexOf (l : Launch) (D : va_G) (cB cI cZ : ClassId) (a_t : Nat) (a_t_reading : Nat) (a_t_times : Nat) (t_times : Nat → Int32) (sz : Nat) (x1 : Int32) (N : Nat) (r0 : Int32) (h : fX3_indexOf N t_times x1 = some (r0)) : Met l yX3_indexOf wsX3_indexOf ({ frames := 2, cells := 0, slots := 0, locals := 43 } : Room) (va_Pc [.ref a_t, .int x1] (zPre D (zT cB cI cZ) [(a_t, .inr (3, [.ref a_t_reading, .ref a_t_times])), (a_t_times, .inl (cI, 60, .inl t_times))] sz)) (zQi r0 D (zT cB cI cZ) [(a_t, .inr (3, [.ref a_t_reading, .ref a_t_times])), (a_t_times, .inl (cI, 60, .inl t_times))] (va_A [(a_t, .inr (3, [.ref a_t_reading, .ref a_t_times])), (a_t_times, .inl (cI, 60, .inl t_times))] sz)) 0 0 (va_A [(a_t, .inr (3, [.ref a_t_reading, .ref a_t_times])), (a_t_times, .inl (cI, 60, .inl t_times))] sz) := by
  refine Met.ofW (cc := cX3_indexOf) (maxL := 5) (ret := (some .int)) (by decide) rfl ?_
  intro p e s m args below meth c s₁ B hml hv
  obtain ⟨rfl, hsz, hP, hK, hN, hZ, hD0⟩ := hv
  have hx := B.exec
  have hb := B.bytes
  have hr := B.returns
  have hts := atoms_spec (ws := wsX3_indexOf) B.pre
  have hown : s.vm.findClass RX3 = some m.cls := findClass_of_methodNamed B.named
  have hlocks := B.notSynchronized
  subst hsz
  have hD := hD0.self (sz := s.heap.size)
  generalize hAe : va_A [(a_t, .inr (3, [.ref a_t_reading, .ref a_t_times])), (a_t_times, .inl (cI, 60, .inl t_times))] s.heap.size = A at hD hZ ⊢
  have hA : ∀ q : Nat, s.heap.size ≤ q → A q := fun q h => by rw [← hAe]; exact Or.inr h
  have hS : va_S A s.heap s.heap [] := va_S.rf
  have hl := lv_entry ([.ref a_t, .int x1]) (n := 5) (Nat.le_of_ble_eq_true rfl)
  rw [lg_entry_eq]
  generalize (lg_sl ([.ref a_t, .int x1]) ++ List.replicate (5 - (lg_sl ([.ref a_t, .int x1])).length) Slot.unset).toArray = ls at hl ⊢
  have hl : lv_has ls 5 [(0, .ref a_t), (1, .int x1)] := hl
  unfold fX3_indexOf at h
  refine lv_aload_n hx hb dX3_indexOf_0 rfl (lv_at hl 0 rfl) ?_
  refine lv_iload_n hx hb dX3_indexOf_1 rfl (lv_at hl 1 rfl) ?_
  obtain ⟨r1, e2, h⟩ := zz_b h
  refine zVi (As := [.int x1]) (rest := []) (C := RX3) (wr := []) [0, 1] [] 0 ⟨hx, hb, hml, hown, hts⟩ (mX3_timeIn l D cB cI cZ a_t a_t_reading a_t_times t_times s.heap.size x1 r1 e2) (cwV 1 hts gX3_indexOf_X3_timeIn rfl rfl rfl (by decide +kernel) ⟨Nat.le_of_ble_eq_true rfl, Nat.le_of_ble_eq_true rfl⟩) hK hN hZ hP hD hS hA rfl rfl rfl rfl rfl rfl rfl rfl hl.1 rfl (lv_room (Nat.le_of_ble_eq_true rfl)) dX3_indexOf_2 ⟨Nat.le_of_ble_eq_true rfl, Nat.le_of_ble_eq_true rfl⟩ (fun H locs hP hD hS => ?_)
  have hP : va_P D vwCl [(a_t, .inr (3, [.ref a_t_reading, .ref a_t_times])), (a_t_times, .inl (cI, 60, .inl t_times))] H := hP
  have hD : va_D A [(a_t, .inr (3, [.ref a_t_reading, .ref a_t_times])), (a_t_times, .inl (cI, 60, .inl t_times))] := hD
  refine lv_istore_n (lv' := [(2, .int r1), (0, .ref a_t), (1, .int x1)]) hx hb dX3_indexOf_5 rfl hl (by decide) rfl (fun ls hl => ?_)
  refine lv_aload_n hx hb dX3_indexOf_6 rfl (lv_at hl 1 rfl) ?_
  refine lv_iload_n hx hb dX3_indexOf_7 rfl (lv_at hl 0 rfl) ?_
  obtain ⟨r3, e4, h⟩ := zz_b h
  refine zVi (As := [.int r1]) (rest := []) (C := RX3) (wr := []) [0, 1] [] 0 ⟨hx, hb, hml, hown, hts⟩ (mX3_howManyBelow l D cB cI cZ a_t a_t_reading a_t_times t_times H.size r1 N r3 e4) (cwV 1 hts gX3_indexOf_X3_howManyBelow rfl rfl rfl (by decide +kernel) ⟨Nat.le_of_ble_eq_true rfl, Nat.le_of_ble_eq_true rfl⟩) hK hN hZ hP hD hS hA rfl rfl rfl rfl rfl rfl rfl rfl hl.1 rfl (lv_room (Nat.le_of_ble_eq_true rfl)) dX3_indexOf_8 ⟨Nat.le_of_ble_eq_true rfl, Nat.le_of_ble_eq_true rfl⟩ (fun H locs hP hD hS => ?_)
  have hP : va_P D vwCl [(a_t, .inr (3, [.ref a_t_reading, .ref a_t_times])), (a_t_times, .inl (cI, 60, .inl t_times))] H := hP
  have hD : va_D A [(a_t, .inr (3, [.ref a_t_reading, .ref a_t_times])), (a_t_times, .inl (cI, 60, .inl t_times))] := hD
  refine lv_istore_n (lv' := [(3, .int r3), (2, .int r1), (0, .ref a_t), (1, .int x1)]) hx hb dX3_indexOf_11 rfl hl (by decide) rfl (fun ls hl => ?_)
  refine lv_iconst (v := (nI 0)) hx hb dX3_indexOf_12 rfl ?_
  refine lv_istore (lv' := [(4, .int (nI 0)), (3, .int r3), (2, .int r1), (0, .ref a_t), (1, .int x1)]) hx hb dX3_indexOf_13 hl (by decide) rfl (fun ls hl => ?_)
  have X15_40 : ∀ (v3_15 : Int32) (v4_15 : Int32) (H : Heap) (locs : List Loc) (ls : Array Slot), some (v3_15) = some (r0) → va_P D vwCl [(a_t, .inr (3, [.ref a_t_reading, .ref a_t_times])), (a_t_times, .inl (cI, 60, .inl t_times))] H → va_D A [(a_t, .inr (3, [.ref a_t_reading, .ref a_t_times])), (a_t_times, .inl (cI, 60, .inl t_times))] → va_S A s.heap H locs → lv_has ls 5 [(4, .int v4_15), (3, .int v3_15), (2, .int r1), (0, .ref a_t), (1, .int x1)] → W p l e (headSpec wsX3_indexOf ({ frames := 2, cells := 0, slots := 0, locals := 43 } : Room)).room s m #[Value.ref a_t, Value.int x1] below meth c H locs 0 0 (MQ below (zQi r0 D (zT cB cI cZ) [(a_t, .inr (3, [.ref a_t_reading, .ref a_t_times])), (a_t_times, .inl (cI, 60, .inl t_times))] A) #[Value.ref a_t, Value.int x1] s 0 0 A) (F0 m 40 ls []) := by
    intro v3_15 v4_15 H locs ls h hP hD hS hl
    refine lv_iload_n hx hb dX3_indexOf_40 rfl (lv_at hl 1 rfl) ?_
    have j0_ := Option.some.inj h
    subst j0_
    exact W.iret (v := v3_15) hx hb hr (fun t ht hW => ⟨⟨_, (), rfl, rfl, zPost.of hP hD hK ht hW [0, 1] rfl rfl rfl⟩, hS.F ht⟩) hS.2.2 dX3_indexOf_41
  have L15 : ∀ (n : Nat) (v3_15 : Int32) (v4_15 : Int32) (H : Heap) (locs : List Loc) (ls : Array Slot), fX3_indexOf_L15 t_times x1 r1 (fun (v3_15 : Int32) (v4_15 : Int32) => some (v3_15)) n v3_15 v4_15 = some (r0) → va_P D vwCl [(a_t, .inr (3, [.ref a_t_reading, .ref a_t_times])), (a_t_times, .inl (cI, 60, .inl t_times))] H → va_D A [(a_t, .inr (3, [.ref a_t_reading, .ref a_t_times])), (a_t_times, .inl (cI, 60, .inl t_times))] → va_S A s.heap H locs → lv_has ls 5 [(4, .int v4_15), (3, .int v3_15), (2, .int r1), (0, .ref a_t), (1, .int x1)] → W p l e (headSpec wsX3_indexOf ({ frames := 2, cells := 0, slots := 0, locals := 43 } : Room)).room s m #[Value.ref a_t, Value.int x1] below meth c H locs 0 0 (MQ below (zQi r0 D (zT cB cI cZ) [(a_t, .inr (3, [.ref a_t_reading, .ref a_t_times])), (a_t_times, .inl (cI, 60, .inl t_times))] A) #[Value.ref a_t, Value.int x1] s 0 0 A) (F0 m 15 ls []) := by
    intro n
    induction n with
    | zero => intro _ _ H locs ls h hP hD hS hl; cases h
    | succ n15 ih15 =>
      intro v3_15 v4_15 H locs ls h hP hD hS hl
      rw [fX3_indexOf_L15.eq_2] at h
      refine lv_iload hx hb dX3_indexOf_15 (lv_at hl 0 rfl) ?_
      refine lv_iload_n hx hb dX3_indexOf_17 rfl (lv_at hl 4 rfl) ?_
      refine lv_icmp_ge (tgt := 40) hx hb dX3_indexOf_18 (by decide) (fun c5 => ?_) (fun c5 => ?_)
      · have h := zz_t h c5
        exact X15_40 v3_15 v4_15 _ _ _ h (hP.sub [0, 1] rfl) (hD.sub [0, 1] rfl rfl) hS (lv_sub hl [0, 1, 2, 3, 4] rfl)
      · have h := zz_f h c5
        refine lv_aload_n hx hb dX3_indexOf_21 rfl (lv_at hl 3 rfl) ?_
        refine lv_iload hx hb dX3_indexOf_22 (lv_at hl 0 rfl) ?_
        obtain ⟨r6, e7, h⟩ := zz_b h
        refine zVi (As := [.int v4_15]) (rest := []) (C := RX3) (wr := []) [0, 1] [] 0 ⟨hx, hb, hml, hown, hts⟩ (mX3_timeIn l D cB cI cZ a_t a_t_reading a_t_times t_times H.size v4_15 r6 e7) (cwV 1 hts gX3_indexOf_X3_timeIn rfl rfl rfl (by decide +kernel) ⟨Nat.le_of_ble_eq_true rfl, Nat.le_of_ble_eq_true rfl⟩) hK hN hZ hP hD hS hA rfl rfl rfl rfl rfl rfl rfl rfl hl.1 rfl (lv_room (Nat.le_of_ble_eq_true rfl)) dX3_indexOf_24 ⟨Nat.le_of_ble_eq_true rfl, Nat.le_of_ble_eq_true rfl⟩ (fun H locs hP hD hS => ?_)
        have hP : va_P D vwCl [(a_t, .inr (3, [.ref a_t_reading, .ref a_t_times])), (a_t_times, .inl (cI, 60, .inl t_times))] H := hP
        have hD : va_D A [(a_t, .inr (3, [.ref a_t_reading, .ref a_t_times])), (a_t_times, .inl (cI, 60, .inl t_times))] := hD
        refine lv_iload_n hx hb dX3_indexOf_27 rfl (lv_at hl 2 rfl) ?_
        refine lv_icmp_ne (tgt := 34) hx hb dX3_indexOf_28 (by decide) (fun c8 => ?_) (fun c8 => ?_)
        · have h := zz_f h c8
          refine lv_iinc (v := (v4_15 + (nI 1))) (lv' := [(4, .int (v4_15 + (nI 1))), (3, .int v3_15), (2, .int r1), (0, .ref a_t), (1, .int x1)]) hx hb dX3_indexOf_34 hl (k := 0) rfl rfl (by decide) rfl (fun ls hl => ?_)
          refine lv_goto (tgt := 15) hx hb dX3_indexOf_37 (by decide) ?_
          exact ih15 v3_15 (v4_15 + (nI 1)) _ _ _ h (hP.sub [0, 1] rfl) (hD.sub [0, 1] rfl rfl) hS (lv_sub hl [0, 1, 2, 3, 4] rfl)
        · have h := zz_t h c8
          refine lv_iinc (v := (v3_15 + (nI 1))) (lv' := [(3, .int (v3_15 + (nI 1))), (4, .int v4_15), (2, .int r1), (0, .ref a_t), (1, .int x1)]) hx hb dX3_indexOf_31 hl (k := 1) rfl rfl (by decide) rfl (fun ls hl => ?_)
          refine lv_iinc (v := (v4_15 + (nI 1))) (lv' := [(4, .int (v4_15 + (nI 1))), (3, .int (v3_15 + (nI 1))), (2, .int r1), (0, .ref a_t), (1, .int x1)]) hx hb dX3_indexOf_34 hl (k := 1) rfl rfl (by decide) rfl (fun ls hl => ?_)
          refine lv_goto (tgt := 15) hx hb dX3_indexOf_37 (by decide) ?_
          exact ih15 (v3_15 + (nI 1)) (v4_15 + (nI 1)) _ _ _ h (hP.sub [0, 1] rfl) (hD.sub [0, 1] rfl rfl) hS (lv_sub hl [0, 1, 2, 3, 4] rfl)
  exact L15 N r3 (nI 0) _ _ _ h hP hD hS hl
/-! RunDesk$Listing.runnerAt -/
theorem dX3_runnerAt_0 : decode cX3_runnerAt 0 = .ok (.iconst 0, 1) := by decide +kernel
theorem dX3_runnerAt_1 : decode cX3_runnerAt 1 = .ok (.istore_n 2, 1) := by decide +kernel
theorem dX3_runnerAt_2 : decode cX3_runnerAt 2 = .ok (.iload_n 2, 1) := by decide +kernel
theorem dX3_runnerAt_3 : decode cX3_runnerAt 3 = .ok (.bipush 60, 2) := by decide +kernel
theorem dX3_runnerAt_5 : decode cX3_runnerAt 5 = .ok (.if_icmp .ge 30, 3) := by decide +kernel
theorem dX3_runnerAt_8 : decode cX3_runnerAt 8 = .ok (.aload_n 0, 1) := by decide +kernel
theorem dX3_runnerAt_9 : decode cX3_runnerAt 9 = .ok (.getfield 18, 3) := by decide +kernel
theorem dX3_runnerAt_12 : decode cX3_runnerAt 12 = .ok (.iload_n 2, 1) := by decide +kernel
theorem dX3_runnerAt_13 : decode cX3_runnerAt 13 = .ok (.iaload, 1) := by decide +kernel
theorem dX3_runnerAt_14 : decode cX3_runnerAt 14 = .ok (.iconst (-1), 1) := by decide +kernel
theorem dX3_runnerAt_15 : decode cX3_runnerAt 15 = .ok (.if_icmp .eq 14, 3) := by decide +kernel
theorem dX3_runnerAt_18 : decode cX3_runnerAt 18 = .ok (.aload_n 0, 1) := by decide +kernel
theorem dX3_runnerAt_19 : decode cX3_runnerAt 19 = .ok (.iload_n 2, 1) := by decide +kernel
theorem dX3_runnerAt_20 : decode cX3_runnerAt 20 = .ok (.invokevirtual 73, 3) := by decide +kernel
theorem dX3_runnerAt_23 : decode cX3_runnerAt 23 = .ok (.iload_n 1, 1) := by decide +kernel
theorem dX3_runnerAt_24 : decode cX3_runnerAt 24 = .ok (.if_icmp .ne 5, 3) := by decide +kernel
theorem dX3_runnerAt_27 : decode cX3_runnerAt 27 = .ok (.iload_n 2, 1) := by decide +kernel
theorem dX3_runnerAt_28 : decode cX3_runnerAt 28 = .ok (.ireturn, 1) := by decide +kernel
theorem dX3_runnerAt_29 : decode cX3_runnerAt 29 = .ok (.iinc 2 1, 3) := by decide +kernel
theorem dX3_runnerAt_32 : decode cX3_runnerAt 32 = .ok (.goto (-30), 3) := by decide +kernel
theorem dX3_runnerAt_35 : decode cX3_runnerAt 35 = .ok (.iconst (-1), 1) := by decide +kernel
theorem dX3_runnerAt_36 : decode cX3_runnerAt 36 = .ok (.ireturn, 1) := by decide +kernel
set_option maxRecDepth 20000 in
theorem ggX3_runnerAt_X3_indexOf : GoodIn wsX3_runnerAt wsX3_indexOf := goodIn_r _ [6, 7, 8, 9, 5, 10, 1, 11, 12, 13, 14, 15, 16, 17, 18, 19] (by decide +kernel) (by decide +kernel)
set_option maxRecDepth 20000 in
theorem gX3_runnerAt_X3_indexOf : GoodIn wsX3_runnerAt (wsV RX3 73 RX3 yX3_indexOf wsX3_indexOf) := goodIn_app (goodIn_of _ (by decide +kernel)) ggX3_runnerAt_X3_indexOf
theorem kX3_runnerAt_0 : (.fieldLink RX3 18 "RunDesk$Listing" "times" "[I" : Cond) ∈ wsX3_runnerAt := List.mem_of_getElem? (i := 1) (by decide +kernel)
theorem qX3_runnerAt_X3 : ∀ w ∈ wsX30, w ∈ wsX3_runnerAt := fun _ h => List.mem_cons_of_mem _ (List.mem_append_right _ (h))
set_option maxHeartbeats 4000000 in
set_option maxRecDepth 100000 in
theorem mX3_runnerAt (l : Launch) (D : va_G) (cB cI cZ : ClassId) (a_t : Nat) (a_t_reading : Nat) (a_t_times : Nat) (t_times : Nat → Int32) (sz : Nat) (x1 : Int32) (N : Nat) (r0 : Int32) (h : fX3_runnerAt N t_times x1 = some (r0)) : Met l yX3_runnerAt wsX3_runnerAt ({ frames := 3, cells := 0, slots := 0, locals := 67 } : Room) (va_Pc [.ref a_t, .int x1] (zPre D (zT cB cI cZ) [(a_t, .inr (3, [.ref a_t_reading, .ref a_t_times])), (a_t_times, .inl (cI, 60, .inl t_times))] sz)) (zQi r0 D (zT cB cI cZ) [(a_t, .inr (3, [.ref a_t_reading, .ref a_t_times])), (a_t_times, .inl (cI, 60, .inl t_times))] (va_A [(a_t, .inr (3, [.ref a_t_reading, .ref a_t_times])), (a_t_times, .inl (cI, 60, .inl t_times))] sz)) 0 0 (va_A [(a_t, .inr (3, [.ref a_t_reading, .ref a_t_times])), (a_t_times, .inl (cI, 60, .inl t_times))] sz) := by
  refine Met.ofW (cc := cX3_runnerAt) (maxL := 3) (ret := (some .int)) (by decide) rfl ?_
  intro p e s m args below meth c s₁ B hml hv
  obtain ⟨rfl, hsz, hP, hK, hN, hZ, hD0⟩ := hv
  have hx := B.exec
  have hb := B.bytes
  have hr := B.returns
  have hts := atoms_spec (ws := wsX3_runnerAt) B.pre
  have hown : s.vm.findClass RX3 = some m.cls := findClass_of_methodNamed B.named
  have hlocks := B.notSynchronized
  subst hsz
  have hD := hD0.self (sz := s.heap.size)
  generalize hAe : va_A [(a_t, .inr (3, [.ref a_t_reading, .ref a_t_times])), (a_t_times, .inl (cI, 60, .inl t_times))] s.heap.size = A at hD hZ ⊢
  have hA : ∀ q : Nat, s.heap.size ≤ q → A q := fun q h => by rw [← hAe]; exact Or.inr h
  have hS : va_S A s.heap s.heap [] := va_S.rf
  have hl := lv_entry ([.ref a_t, .int x1]) (n := 3) (Nat.le_of_ble_eq_true rfl)
  rw [lg_entry_eq]
  generalize (lg_sl ([.ref a_t, .int x1]) ++ List.replicate (3 - (lg_sl ([.ref a_t, .int x1])).length) Slot.unset).toArray = ls at hl ⊢
  have hl : lv_has ls 3 [(0, .ref a_t), (1, .int x1)] := hl
  unfold fX3_runnerAt at h
  refine lv_iconst (v := (nI 0)) hx hb dX3_runnerAt_0 rfl ?_
  refine lv_istore_n (lv' := [(2, .int (nI 0)), (0, .ref a_t), (1, .int x1)]) hx hb dX3_runnerAt_1 rfl hl (by decide) rfl (fun ls hl => ?_)
  have X2_35 : ∀ (v2_2 : Int32) (H : Heap) (locs : List Loc) (ls : Array Slot), some ((-1 : Int32)) = some (r0) → va_P D vwCl [(a_t, .inr (3, [.ref a_t_reading, .ref a_t_times])), (a_t_times, .inl (cI, 60, .inl t_times))] H → va_D A [(a_t, .inr (3, [.ref a_t_reading, .ref a_t_times])), (a_t_times, .inl (cI, 60, .inl t_times))] → va_S A s.heap H locs → lv_has ls 3 [(2, .int v2_2), (0, .ref a_t), (1, .int x1)] → W p l e (headSpec wsX3_runnerAt ({ frames := 3, cells := 0, slots := 0, locals := 67 } : Room)).room s m #[Value.ref a_t, Value.int x1] below meth c H locs 0 0 (MQ below (zQi r0 D (zT cB cI cZ) [(a_t, .inr (3, [.ref a_t_reading, .ref a_t_times])), (a_t_times, .inl (cI, 60, .inl t_times))] A) #[Value.ref a_t, Value.int x1] s 0 0 A) (F0 m 35 ls []) := by
    intro v2_2 H locs ls h hP hD hS hl
    refine lv_iconst (v := (-1 : Int32)) hx hb dX3_runnerAt_35 rfl ?_
    have j0_ := Option.some.inj h
    subst j0_
    exact W.iret (v := (-1 : Int32)) hx hb hr (fun t ht hW => ⟨⟨_, (), rfl, rfl, zPost.of hP hD hK ht hW [0, 1] rfl rfl rfl⟩, hS.F ht⟩) hS.2.2 dX3_runnerAt_36
  have L2 : ∀ (n : Nat) (v2_2 : Int32) (H : Heap) (locs : List Loc) (ls : Array Slot), fX3_runnerAt_L2 N t_times x1 (fun (v2_2 : Int32) => some ((-1 : Int32))) n v2_2 = some (r0) → va_P D vwCl [(a_t, .inr (3, [.ref a_t_reading, .ref a_t_times])), (a_t_times, .inl (cI, 60, .inl t_times))] H → va_D A [(a_t, .inr (3, [.ref a_t_reading, .ref a_t_times])), (a_t_times, .inl (cI, 60, .inl t_times))] → va_S A s.heap H locs → lv_has ls 3 [(2, .int v2_2), (0, .ref a_t), (1, .int x1)] → W p l e (headSpec wsX3_runnerAt ({ frames := 3, cells := 0, slots := 0, locals := 67 } : Room)).room s m #[Value.ref a_t, Value.int x1] below meth c H locs 0 0 (MQ below (zQi r0 D (zT cB cI cZ) [(a_t, .inr (3, [.ref a_t_reading, .ref a_t_times])), (a_t_times, .inl (cI, 60, .inl t_times))] A) #[Value.ref a_t, Value.int x1] s 0 0 A) (F0 m 2 ls []) := by
    intro n
    induction n with
    | zero => intro _ H locs ls h hP hD hS hl; cases h
    | succ n2 ih2 =>
      intro v2_2 H locs ls h hP hD hS hl
      rw [fX3_runnerAt_L2.eq_2] at h
      refine lv_iload_n hx hb dX3_runnerAt_2 rfl (lv_at hl 0 rfl) ?_
      refine lv_bipush (v := (nI 60)) hx hb dX3_runnerAt_3 rfl ?_
      refine lv_icmp_ge (tgt := 35) hx hb dX3_runnerAt_5 (by decide) (fun c1 => ?_) (fun c1 => ?_)
      · have h := zz_t h c1
        exact X2_35 v2_2 _ _ _ h (hP.sub [0, 1] rfl) (hD.sub [0, 1] rfl rfl) hS (lv_sub hl [0, 1, 2] rfl)
      · have h := zz_f h c1
        refine lv_aload_n hx hb dX3_runnerAt_8 rfl (lv_at hl 1 rfl) ?_
        refine va_get (D := D) (ci := 3) (C := RX3) (T := TX3) (N := 2) hx hb hts qX3_runnerAt_X3 hown hK hP 0 rfl rfl 1 (by decide) (hts _ kX3_runnerAt_0) (fun _ h9 => h9) rfl dX3_runnerAt_9 ?_
        refine lv_iload_n hx hb dX3_runnerAt_12 rfl (lv_at hl 0 rfl) ?_
        obtain ⟨i2, h⟩ := zz_i h
        refine va_iald hx hb hK hP 1 1 rfl rfl i2 dX3_runnerAt_13 ?_
        refine lv_iconst (v := (-1 : Int32)) hx hb dX3_runnerAt_14 rfl ?_
        refine lv_icmp_eq (tgt := 29) hx hb dX3_runnerAt_15 (by decide) (fun c3 => ?_) (fun c3 => ?_)
        · have h := zz_t h c3
          refine lv_iinc (v := (v2_2 + (nI 1))) (lv' := [(2, .int (v2_2 + (nI 1))), (0, .ref a_t), (1, .int x1)]) hx hb dX3_runnerAt_29 hl (k := 0) rfl rfl (by decide) rfl (fun ls hl => ?_)
          refine lv_goto (tgt := 2) hx hb dX3_runnerAt_32 (by decide) ?_
          exact ih2 (v2_2 + (nI 1)) _ _ _ h (hP.sub [0, 1] rfl) (hD.sub [0, 1] rfl rfl) hS (lv_sub hl [0, 1, 2] rfl)
        · have h := zz_f h c3
          refine lv_aload_n hx hb dX3_runnerAt_18 rfl (lv_at hl 1 rfl) ?_
          refine lv_iload_n hx hb dX3_runnerAt_19 rfl (lv_at hl 0 rfl) ?_
          obtain ⟨r4, e5, h⟩ := zz_b h
          refine zVi (As := [.int v2_2]) (rest := []) (C := RX3) (wr := []) [0, 1] [] 0 ⟨hx, hb, hml, hown, hts⟩ (mX3_indexOf l D cB cI cZ a_t a_t_reading a_t_times t_times H.size v2_2 N r4 e5) (cwV 1 hts gX3_runnerAt_X3_indexOf rfl rfl rfl (by decide +kernel) ⟨Nat.le_of_ble_eq_true rfl, Nat.le_of_ble_eq_true rfl⟩) hK hN hZ hP hD hS hA rfl rfl rfl rfl rfl rfl rfl rfl hl.1 rfl (lv_room (Nat.le_of_ble_eq_true rfl)) dX3_runnerAt_20 ⟨Nat.le_of_ble_eq_true rfl, Nat.le_of_ble_eq_true rfl⟩ (fun H locs hP hD hS => ?_)
          have hP : va_P D vwCl [(a_t, .inr (3, [.ref a_t_reading, .ref a_t_times])), (a_t_times, .inl (cI, 60, .inl t_times))] H := hP
          have hD : va_D A [(a_t, .inr (3, [.ref a_t_reading, .ref a_t_times])), (a_t_times, .inl (cI, 60, .inl t_times))] := hD
          refine lv_iload_n hx hb dX3_runnerAt_23 rfl (lv_at hl 2 rfl) ?_
          refine lv_icmp_ne (tgt := 29) hx hb dX3_runnerAt_24 (by decide) (fun c6 => ?_) (fun c6 => ?_)
          · have h := zz_f h c6
            refine lv_iinc (v := (v2_2 + (nI 1))) (lv' := [(2, .int (v2_2 + (nI 1))), (0, .ref a_t), (1, .int x1)]) hx hb dX3_runnerAt_29 hl (k := 0) rfl rfl (by decide) rfl (fun ls hl => ?_)
            refine lv_goto (tgt := 2) hx hb dX3_runnerAt_32 (by decide) ?_
            exact ih2 (v2_2 + (nI 1)) _ _ _ h (hP.sub [0, 1] rfl) (hD.sub [0, 1] rfl rfl) hS (lv_sub hl [0, 1, 2] rfl)
          · have h := zz_t h c6
            refine lv_iload_n hx hb dX3_runnerAt_27 rfl (lv_at hl 0 rfl) ?_
            have j0_ := Option.some.inj h
            subst j0_
            exact W.iret (v := v2_2) hx hb hr (fun t ht hW => ⟨⟨_, (), rfl, rfl, zPost.of hP hD hK ht hW [0, 1] rfl rfl rfl⟩, hS.F ht⟩) hS.2.2 dX3_runnerAt_28
  exact L2 N (nI 0) _ _ _ h hP hD hS hl
/-! RunDesk$Reading.prizeNumber -/
theorem dX5_prizeNumber_0 : decode cX5_prizeNumber 0 = .ok (.aload_n 0, 1) := by decide +kernel
theorem dX5_prizeNumber_1 : decode cX5_prizeNumber 1 = .ok (.getfield 37, 3) := by decide +kernel
theorem dX5_prizeNumber_4 : decode cX5_prizeNumber 4 = .ok (.ireturn, 1) := by decide +kernel
theorem kX5_prizeNumber_0 : (.fieldLink RX5 37 "RunDesk$Reading" "prizes" "I" : Cond) ∈ wsX5_prizeNumber := List.mem_of_getElem? (i := 1) (by decide +kernel)
theorem qX5_prizeNumber_X5 : ∀ w ∈ wsX50, w ∈ wsX5_prizeNumber := fun _ h => List.mem_cons_of_mem _ (List.mem_append_right _ (h))
set_option maxHeartbeats 4000000 in
set_option maxRecDepth 100000 in
theorem mX5_prizeNumber (l : Launch) (D : va_G) (cB cI cZ : ClassId) (a_t : Nat) (a_t_parts : Nat) (a_t_signs : Nat) (a_t_numbers : Nat) (t_laid : Int32) (t_stage : Int32) (t_open : Int32) (t_digits : Int32) (t_order : Int32) (t_prizes : Int32) (sz : Nat) (r0 : Int32) (h : fX5_prizeNumber t_prizes = some (r0)) : Met l yX5_prizeNumber wsX5_prizeNumber ({ frames := 0, cells := 0, slots := 0, locals := 0 } : Room) (va_Pc [.ref a_t] (zPre D (zT cB cI cZ) [(a_t, .inr (5, [.ref a_t_parts, .ref a_t_signs, .ref a_t_numbers, .int t_laid, .int t_stage, .int t_open, .int t_digits, .int t_order, .int t_prizes]))] sz)) (zQi r0 D (zT cB cI cZ) [(a_t, .inr (5, [.ref a_t_parts, .ref a_t_signs, .ref a_t_numbers, .int t_laid, .int t_stage, .int t_open, .int t_digits, .int t_order, .int t_prizes]))] (va_A [(a_t, .inr (5, [.ref a_t_parts, .ref a_t_signs, .ref a_t_numbers, .int t_laid, .int t_stage, .int t_open, .int t_digits, .int t_order, .int t_prizes]))] sz)) 0 0 (va_A [(a_t, .inr (5, [.ref a_t_parts, .ref a_t_signs, .ref a_t_numbers, .int t_laid, .int t_stage, .int t_open, .int t_digits, .int t_order, .int t_prizes]))] sz) := by
  refine Met.ofW (cc := cX5_prizeNumber) (maxL := 1) (ret := (some .int)) (by decide) rfl ?_
  intro p e s m args below meth c s₁ B hml hv
  obtain ⟨rfl, hsz, hP, hK, hN, hZ, hD0⟩ := hv
  have hx := B.exec
  have hb := B.bytes
  have hr := B.returns
  have hts := atoms_spec (ws := wsX5_prizeNumber) B.pre
  have hown : s.vm.findClass RX5 = some m.cls := findClass_of_methodNamed B.named
  have hlocks := B.notSynchronized
  subst hsz
  have hD := hD0.self (sz := s.heap.size)
  generalize hAe : va_A [(a_t, .inr (5, [.ref a_t_parts, .ref a_t_signs, .ref a_t_numbers, .int t_laid, .int t_stage, .int t_open, .int t_digits, .int t_order, .int t_prizes]))] s.heap.size = A at hD hZ ⊢
  have hA : ∀ q : Nat, s.heap.size ≤ q → A q := fun q h => by rw [← hAe]; exact Or.inr h
  have hS : va_S A s.heap s.heap [] := va_S.rf
  have hl := lv_entry ([.ref a_t]) (n := 1) (Nat.le_of_ble_eq_true rfl)
  rw [lg_entry_eq]
  generalize (lg_sl ([.ref a_t]) ++ List.replicate (1 - (lg_sl ([.ref a_t])).length) Slot.unset).toArray = ls at hl ⊢
  have hl : lv_has ls 1 [(0, .ref a_t)] := hl
  unfold fX5_prizeNumber at h
  refine lv_aload_n hx hb dX5_prizeNumber_0 rfl (lv_at hl 0 rfl) ?_
  refine va_get (D := D) (ci := 5) (C := RX5) (T := TX5) (N := 9) hx hb hts qX5_prizeNumber_X5 hown hK hP 0 rfl rfl 8 (by decide) (hts _ kX5_prizeNumber_0) (fun _ h9 => h9) rfl dX5_prizeNumber_1 ?_
  have j0_ := Option.some.inj h
  subst j0_
  exact W.iret (v := t_prizes) hx hb hr (fun t ht hW => ⟨⟨_, (), rfl, rfl, zPost.of hP hD hK ht hW [0] rfl rfl rfl⟩, hS.F ht⟩) hS.2.2 dX5_prizeNumber_4
/-! RunDesk$Listing.prizeWinners -/
theorem dX3_prizeWinners_0 : decode cX3_prizeWinners 0 = .ok (.iconst 0, 1) := by decide +kernel
theorem dX3_prizeWinners_1 : decode cX3_prizeWinners 1 = .ok (.istore_n 1, 1) := by decide +kernel
theorem dX3_prizeWinners_2 : decode cX3_prizeWinners 2 = .ok (.iconst 0, 1) := by decide +kernel
theorem dX3_prizeWinners_3 : decode cX3_prizeWinners 3 = .ok (.istore_n 2, 1) := by decide +kernel
theorem dX3_prizeWinners_4 : decode cX3_prizeWinners 4 = .ok (.iload_n 2, 1) := by decide +kernel
theorem dX3_prizeWinners_5 : decode cX3_prizeWinners 5 = .ok (.bipush 60, 2) := by decide +kernel
theorem dX3_prizeWinners_7 : decode cX3_prizeWinners 7 = .ok (.if_icmp .ge 37, 3) := by decide +kernel
theorem dX3_prizeWinners_10 : decode cX3_prizeWinners 10 = .ok (.aload_n 0, 1) := by decide +kernel
theorem dX3_prizeWinners_11 : decode cX3_prizeWinners 11 = .ok (.getfield 18, 3) := by decide +kernel
theorem dX3_prizeWinners_14 : decode cX3_prizeWinners 14 = .ok (.iload_n 2, 1) := by decide +kernel
theorem dX3_prizeWinners_15 : decode cX3_prizeWinners 15 = .ok (.iaload, 1) := by decide +kernel
theorem dX3_prizeWinners_16 : decode cX3_prizeWinners 16 = .ok (.iconst (-1), 1) := by decide +kernel
theorem dX3_prizeWinners_17 : decode cX3_prizeWinners 17 = .ok (.if_icmp .eq 21, 3) := by decide +kernel
theorem dX3_prizeWinners_20 : decode cX3_prizeWinners 20 = .ok (.aload_n 0, 1) := by decide +kernel
theorem dX3_prizeWinners_21 : decode cX3_prizeWinners 21 = .ok (.iload_n 2, 1) := by decide +kernel
theorem dX3_prizeWinners_22 : decode cX3_prizeWinners 22 = .ok (.invokevirtual 76, 3) := by decide +kernel
theorem dX3_prizeWinners_25 : decode cX3_prizeWinners 25 = .ok (.aload_n 0, 1) := by decide +kernel
theorem dX3_prizeWinners_26 : decode cX3_prizeWinners 26 = .ok (.getfield 12, 3) := by decide +kernel
theorem dX3_prizeWinners_29 : decode cX3_prizeWinners 29 = .ok (.invokevirtual 79, 3) := by decide +kernel
theorem dX3_prizeWinners_32 : decode cX3_prizeWinners 32 = .ok (.if_icmp .gt 6, 3) := by decide +kernel
theorem dX3_prizeWinners_35 : decode cX3_prizeWinners 35 = .ok (.iinc 1 1, 3) := by decide +kernel
theorem dX3_prizeWinners_38 : decode cX3_prizeWinners 38 = .ok (.iinc 2 1, 3) := by decide +kernel
theorem dX3_prizeWinners_41 : decode cX3_prizeWinners 41 = .ok (.goto (-37), 3) := by decide +kernel
theorem dX3_prizeWinners_44 : decode cX3_prizeWinners 44 = .ok (.iload_n 1, 1) := by decide +kernel
theorem dX3_prizeWinners_45 : decode cX3_prizeWinners 45 = .ok (.ireturn, 1) := by decide +kernel
set_option maxRecDepth 20000 in
theorem ggX3_prizeWinners_X3_placeOf : GoodIn wsX3_prizeWinners wsX3_placeOf := goodIn_r _ [7, 8, 9, 10, 6, 11, 1, 12, 13, 14, 15, 16, 17, 18, 25, 26] (by decide +kernel) (by decide +kernel)
set_option maxRecDepth 20000 in
theorem gX3_prizeWinners_X3_placeOf : GoodIn wsX3_prizeWinners (wsV RX3 76 RX3 yX3_placeOf wsX3_placeOf) := goodIn_app (goodIn_of _ (by decide +kernel)) ggX3_prizeWinners_X3_placeOf
set_option maxRecDepth 20000 in
theorem ggX3_prizeWinners_X5_prizeNumber : GoodIn wsX3_prizeWinners wsX5_prizeNumber := goodIn_r _ [23, 24, 27, 28, 29, 30, 31, 32, 33, 34, 35] (by decide +kernel) (by decide +kernel)
set_option maxRecDepth 20000 in
theorem gX3_prizeWinners_X5_prizeNumber : GoodIn wsX3_prizeWinners (wsV RX3 79 RX5 yX5_prizeNumber wsX5_prizeNumber) := goodIn_app (goodIn_of _ (by decide +kernel)) ggX3_prizeWinners_X5_prizeNumber
theorem kX3_prizeWinners_0 : (.fieldLink RX3 18 "RunDesk$Listing" "times" "[I" : Cond) ∈ wsX3_prizeWinners := List.mem_of_getElem? (i := 1) (by decide +kernel)
theorem qX3_prizeWinners_X3 : ∀ w ∈ wsX30, w ∈ wsX3_prizeWinners := fun _ h => List.mem_cons_of_mem _ (List.mem_append_left _ (List.mem_append_right _ (h)))
theorem kX3_prizeWinners_2 : (.fieldLink RX3 12 "RunDesk$Listing" "reading" "LRunDesk$Reading;" : Cond) ∈ wsX3_prizeWinners := List.mem_of_getElem? (i := 2) (by decide +kernel)
set_option maxHeartbeats 4000000 in
set_option maxRecDepth 100000 in
theorem mX3_prizeWinners (l : Launch) (D : va_G) (cB cI cZ : ClassId) (a_t : Nat) (a_t_reading : Nat) (a_t_times : Nat) (a_t_reading_parts : Nat) (a_t_reading_signs : Nat) (a_t_reading_numbers : Nat) (t_reading_laid : Int32) (t_reading_stage : Int32) (t_reading_open : Int32) (t_reading_digits : Int32) (t_reading_order : Int32) (t_reading_prizes : Int32) (t_times : Nat → Int32) (sz : Nat) (N : Nat) (r0 : Int32) (h : fX3_prizeWinners N t_reading_prizes t_times = some (r0)) : Met l yX3_prizeWinners wsX3_prizeWinners ({ frames := 3, cells := 0, slots := 0, locals := 65 } : Room) (va_Pc [.ref a_t] (zPre D (zT cB cI cZ) [(a_t, .inr (3, [.ref a_t_reading, .ref a_t_times])), (a_t_reading, .inr (5, [.ref a_t_reading_parts, .ref a_t_reading_signs, .ref a_t_reading_numbers, .int t_reading_laid, .int t_reading_stage, .int t_reading_open, .int t_reading_digits, .int t_reading_order, .int t_reading_prizes])), (a_t_times, .inl (cI, 60, .inl t_times))] sz)) (zQi r0 D (zT cB cI cZ) [(a_t, .inr (3, [.ref a_t_reading, .ref a_t_times])), (a_t_reading, .inr (5, [.ref a_t_reading_parts, .ref a_t_reading_signs, .ref a_t_reading_numbers, .int t_reading_laid, .int t_reading_stage, .int t_reading_open, .int t_reading_digits, .int t_reading_order, .int t_reading_prizes])), (a_t_times, .inl (cI, 60, .inl t_times))] (va_A [(a_t, .inr (3, [.ref a_t_reading, .ref a_t_times])), (a_t_reading, .inr (5, [.ref a_t_reading_parts, .ref a_t_reading_signs, .ref a_t_reading_numbers, .int t_reading_laid, .int t_reading_stage, .int t_reading_open, .int t_reading_digits, .int t_reading_order, .int t_reading_prizes])), (a_t_times, .inl (cI, 60, .inl t_times))] sz)) 0 0 (va_A [(a_t, .inr (3, [.ref a_t_reading, .ref a_t_times])), (a_t_reading, .inr (5, [.ref a_t_reading_parts, .ref a_t_reading_signs, .ref a_t_reading_numbers, .int t_reading_laid, .int t_reading_stage, .int t_reading_open, .int t_reading_digits, .int t_reading_order, .int t_reading_prizes])), (a_t_times, .inl (cI, 60, .inl t_times))] sz) := by
  refine Met.ofW (cc := cX3_prizeWinners) (maxL := 3) (ret := (some .int)) (by decide) rfl ?_
  intro p e s m args below meth c s₁ B hml hv
  obtain ⟨rfl, hsz, hP, hK, hN, hZ, hD0⟩ := hv
  have hx := B.exec
  have hb := B.bytes
  have hr := B.returns
  have hts := atoms_spec (ws := wsX3_prizeWinners) B.pre
  have hown : s.vm.findClass RX3 = some m.cls := findClass_of_methodNamed B.named
  have hlocks := B.notSynchronized
  subst hsz
  have hD := hD0.self (sz := s.heap.size)
  generalize hAe : va_A [(a_t, .inr (3, [.ref a_t_reading, .ref a_t_times])), (a_t_reading, .inr (5, [.ref a_t_reading_parts, .ref a_t_reading_signs, .ref a_t_reading_numbers, .int t_reading_laid, .int t_reading_stage, .int t_reading_open, .int t_reading_digits, .int t_reading_order, .int t_reading_prizes])), (a_t_times, .inl (cI, 60, .inl t_times))] s.heap.size = A at hD hZ ⊢
  have hA : ∀ q : Nat, s.heap.size ≤ q → A q := fun q h => by rw [← hAe]; exact Or.inr h
  have hS : va_S A s.heap s.heap [] := va_S.rf
  have hl := lv_entry ([.ref a_t]) (n := 3) (Nat.le_of_ble_eq_true rfl)
  rw [lg_entry_eq]
  generalize (lg_sl ([.ref a_t]) ++ List.replicate (3 - (lg_sl ([.ref a_t])).length) Slot.unset).toArray = ls at hl ⊢
  have hl : lv_has ls 3 [(0, .ref a_t)] := hl
  unfold fX3_prizeWinners at h
  refine lv_iconst (v := (nI 0)) hx hb dX3_prizeWinners_0 rfl ?_
  refine lv_istore_n (lv' := [(1, .int (nI 0)), (0, .ref a_t)]) hx hb dX3_prizeWinners_1 rfl hl (by decide) rfl (fun ls hl => ?_)
  refine lv_iconst (v := (nI 0)) hx hb dX3_prizeWinners_2 rfl ?_
  refine lv_istore_n (lv' := [(2, .int (nI 0)), (1, .int (nI 0)), (0, .ref a_t)]) hx hb dX3_prizeWinners_3 rfl hl (by decide) rfl (fun ls hl => ?_)
  have X4_44 : ∀ (v1_4 : Int32) (v2_4 : Int32) (H : Heap) (locs : List Loc) (ls : Array Slot), some (v1_4) = some (r0) → va_P D vwCl [(a_t, .inr (3, [.ref a_t_reading, .ref a_t_times])), (a_t_reading, .inr (5, [.ref a_t_reading_parts, .ref a_t_reading_signs, .ref a_t_reading_numbers, .int t_reading_laid, .int t_reading_stage, .int t_reading_open, .int t_reading_digits, .int t_reading_order, .int t_reading_prizes])), (a_t_times, .inl (cI, 60, .inl t_times))] H → va_D A [(a_t, .inr (3, [.ref a_t_reading, .ref a_t_times])), (a_t_reading, .inr (5, [.ref a_t_reading_parts, .ref a_t_reading_signs, .ref a_t_reading_numbers, .int t_reading_laid, .int t_reading_stage, .int t_reading_open, .int t_reading_digits, .int t_reading_order, .int t_reading_prizes])), (a_t_times, .inl (cI, 60, .inl t_times))] → va_S A s.heap H locs → lv_has ls 3 [(2, .int v2_4), (1, .int v1_4), (0, .ref a_t)] → W p l e (headSpec wsX3_prizeWinners ({ frames := 3, cells := 0, slots := 0, locals := 65 } : Room)).room s m #[Value.ref a_t] below meth c H locs 0 0 (MQ below (zQi r0 D (zT cB cI cZ) [(a_t, .inr (3, [.ref a_t_reading, .ref a_t_times])), (a_t_reading, .inr (5, [.ref a_t_reading_parts, .ref a_t_reading_signs, .ref a_t_reading_numbers, .int t_reading_laid, .int t_reading_stage, .int t_reading_open, .int t_reading_digits, .int t_reading_order, .int t_reading_prizes])), (a_t_times, .inl (cI, 60, .inl t_times))] A) #[Value.ref a_t] s 0 0 A) (F0 m 44 ls []) := by
    intro v1_4 v2_4 H locs ls h hP hD hS hl
    refine lv_iload_n hx hb dX3_prizeWinners_44 rfl (lv_at hl 1 rfl) ?_
    have j0_ := Option.some.inj h
    subst j0_
    exact W.iret (v := v1_4) hx hb hr (fun t ht hW => ⟨⟨_, (), rfl, rfl, zPost.of hP hD hK ht hW [0, 1, 2] rfl rfl rfl⟩, hS.F ht⟩) hS.2.2 dX3_prizeWinners_45
  have L4 : ∀ (n : Nat) (v1_4 : Int32) (v2_4 : Int32) (H : Heap) (locs : List Loc) (ls : Array Slot), fX3_prizeWinners_L4 N t_reading_prizes t_times (fun (v1_4 : Int32) (v2_4 : Int32) => some (v1_4)) n v1_4 v2_4 = some (r0) → va_P D vwCl [(a_t, .inr (3, [.ref a_t_reading, .ref a_t_times])), (a_t_reading, .inr (5, [.ref a_t_reading_parts, .ref a_t_reading_signs, .ref a_t_reading_numbers, .int t_reading_laid, .int t_reading_stage, .int t_reading_open, .int t_reading_digits, .int t_reading_order, .int t_reading_prizes])), (a_t_times, .inl (cI, 60, .inl t_times))] H → va_D A [(a_t, .inr (3, [.ref a_t_reading, .ref a_t_times])), (a_t_reading, .inr (5, [.ref a_t_reading_parts, .ref a_t_reading_signs, .ref a_t_reading_numbers, .int t_reading_laid, .int t_reading_stage, .int t_reading_open, .int t_reading_digits, .int t_reading_order, .int t_reading_prizes])), (a_t_times, .inl (cI, 60, .inl t_times))] → va_S A s.heap H locs → lv_has ls 3 [(2, .int v2_4), (1, .int v1_4), (0, .ref a_t)] → W p l e (headSpec wsX3_prizeWinners ({ frames := 3, cells := 0, slots := 0, locals := 65 } : Room)).room s m #[Value.ref a_t] below meth c H locs 0 0 (MQ below (zQi r0 D (zT cB cI cZ) [(a_t, .inr (3, [.ref a_t_reading, .ref a_t_times])), (a_t_reading, .inr (5, [.ref a_t_reading_parts, .ref a_t_reading_signs, .ref a_t_reading_numbers, .int t_reading_laid, .int t_reading_stage, .int t_reading_open, .int t_reading_digits, .int t_reading_order, .int t_reading_prizes])), (a_t_times, .inl (cI, 60, .inl t_times))] A) #[Value.ref a_t] s 0 0 A) (F0 m 4 ls []) := by
    intro n
    induction n with
    | zero => intro _ _ H locs ls h hP hD hS hl; cases h
    | succ n4 ih4 =>
      intro v1_4 v2_4 H locs ls h hP hD hS hl
      rw [fX3_prizeWinners_L4.eq_2] at h
      refine lv_iload_n hx hb dX3_prizeWinners_4 rfl (lv_at hl 0 rfl) ?_
      refine lv_bipush (v := (nI 60)) hx hb dX3_prizeWinners_5 rfl ?_
      refine lv_icmp_ge (tgt := 44) hx hb dX3_prizeWinners_7 (by decide) (fun c1 => ?_) (fun c1 => ?_)
      · have h := zz_t h c1
        exact X4_44 v1_4 v2_4 _ _ _ h (hP.sub [0, 1, 2] rfl) (hD.sub [0, 1, 2] rfl rfl) hS (lv_sub hl [0, 1, 2] rfl)
      · have h := zz_f h c1
        refine lv_aload_n hx hb dX3_prizeWinners_10 rfl (lv_at hl 2 rfl) ?_
        refine va_get (D := D) (ci := 3) (C := RX3) (T := TX3) (N := 2) hx hb hts qX3_prizeWinners_X3 hown hK hP 0 rfl rfl 1 (by decide) (hts _ kX3_prizeWinners_0) (fun _ h9 => h9) rfl dX3_prizeWinners_11 ?_
        refine lv_iload_n hx hb dX3_prizeWinners_14 rfl (lv_at hl 0 rfl) ?_
        obtain ⟨i2, h⟩ := zz_i h
        refine va_iald hx hb hK hP 2 1 rfl rfl i2 dX3_prizeWinners_15 ?_
        refine lv_iconst (v := (-1 : Int32)) hx hb dX3_prizeWinners_16 rfl ?_
        refine lv_icmp_eq (tgt := 38) hx hb dX3_prizeWinners_17 (by decide) (fun c3 => ?_) (fun c3 => ?_)
        · have h := zz_t h c3
          refine lv_iinc (v := (v2_4 + (nI 1))) (lv' := [(2, .int (v2_4 + (nI 1))), (1, .int v1_4), (0, .ref a_t)]) hx hb dX3_prizeWinners_38 hl (k := 0) rfl rfl (by decide) rfl (fun ls hl => ?_)
          refine lv_goto (tgt := 4) hx hb dX3_prizeWinners_41 (by decide) ?_
          exact ih4 v1_4 (v2_4 + (nI 1)) _ _ _ h (hP.sub [0, 1, 2] rfl) (hD.sub [0, 1, 2] rfl rfl) hS (lv_sub hl [0, 1, 2] rfl)
        · have h := zz_f h c3
          refine lv_aload_n hx hb dX3_prizeWinners_20 rfl (lv_at hl 2 rfl) ?_
          refine lv_iload_n hx hb dX3_prizeWinners_21 rfl (lv_at hl 0 rfl) ?_
          obtain ⟨r4, e5, h⟩ := zz_b h
          refine zVi (As := [.int v2_4]) (rest := []) (C := RX3) (wr := [(a_t_reading, .inr (5, [.ref a_t_reading_parts, .ref a_t_reading_signs, .ref a_t_reading_numbers, .int t_reading_laid, .int t_reading_stage, .int t_reading_open, .int t_reading_digits, .int t_reading_order, .int t_reading_prizes]))]) [0, 2] [1] 0 ⟨hx, hb, hml, hown, hts⟩ (mX3_placeOf l D cB cI cZ a_t a_t_reading a_t_times t_times H.size v2_4 N r4 e5) (cwV 1 hts gX3_prizeWinners_X3_placeOf rfl rfl rfl (by decide +kernel) ⟨Nat.le_of_ble_eq_true rfl, Nat.le_of_ble_eq_true rfl⟩) hK hN hZ hP hD hS hA rfl rfl rfl rfl rfl rfl rfl rfl hl.1 rfl (lv_room (Nat.le_of_ble_eq_true rfl)) dX3_prizeWinners_22 ⟨Nat.le_of_ble_eq_true rfl, Nat.le_of_ble_eq_true rfl⟩ (fun H locs hP hD hS => ?_)
          have hP : va_P D vwCl [(a_t_reading, .inr (5, [.ref a_t_reading_parts, .ref a_t_reading_signs, .ref a_t_reading_numbers, .int t_reading_laid, .int t_reading_stage, .int t_reading_open, .int t_reading_digits, .int t_reading_order, .int t_reading_prizes])), (a_t, .inr (3, [.ref a_t_reading, .ref a_t_times])), (a_t_times, .inl (cI, 60, .inl t_times))] H := hP
          have hD : va_D A [(a_t_reading, .inr (5, [.ref a_t_reading_parts, .ref a_t_reading_signs, .ref a_t_reading_numbers, .int t_reading_laid, .int t_reading_stage, .int t_reading_open, .int t_reading_digits, .int t_reading_order, .int t_reading_prizes])), (a_t, .inr (3, [.ref a_t_reading, .ref a_t_times])), (a_t_times, .inl (cI, 60, .inl t_times))] := hD
          refine lv_aload_n hx hb dX3_prizeWinners_25 rfl (lv_at hl 2 rfl) ?_
          refine va_get (D := D) (ci := 3) (C := RX3) (T := TX3) (N := 2) hx hb hts qX3_prizeWinners_X3 hown hK hP 1 rfl rfl 0 (by decide) (hts _ kX3_prizeWinners_2) (fun _ h9 => h9) rfl dX3_prizeWinners_26 ?_
          obtain ⟨r6, e7, h⟩ := zz_b h
          refine zVi (As := []) (rest := [.int r4]) (C := RX5) (wr := [(a_t, .inr (3, [.ref a_t_reading, .ref a_t_times])), (a_t_times, .inl (cI, 60, .inl t_times))]) [0] [1, 2] 0 ⟨hx, hb, hml, hown, hts⟩ (mX5_prizeNumber l D cB cI cZ a_t_reading a_t_reading_parts a_t_reading_signs a_t_reading_numbers t_reading_laid t_reading_stage t_reading_open t_reading_digits t_reading_order t_reading_prizes H.size r6 e7) (cwV 0 hts gX3_prizeWinners_X5_prizeNumber rfl rfl rfl (by decide +kernel) ⟨Nat.le_of_ble_eq_true rfl, Nat.le_of_ble_eq_true rfl⟩) hK hN hZ hP hD hS hA rfl rfl rfl rfl rfl rfl rfl rfl hl.1 rfl (lv_room (Nat.le_of_ble_eq_true rfl)) dX3_prizeWinners_29 ⟨Nat.le_of_ble_eq_true rfl, Nat.le_of_ble_eq_true rfl⟩ (fun H locs hP hD hS => ?_)
          have hP : va_P D vwCl [(a_t, .inr (3, [.ref a_t_reading, .ref a_t_times])), (a_t_times, .inl (cI, 60, .inl t_times)), (a_t_reading, .inr (5, [.ref a_t_reading_parts, .ref a_t_reading_signs, .ref a_t_reading_numbers, .int t_reading_laid, .int t_reading_stage, .int t_reading_open, .int t_reading_digits, .int t_reading_order, .int t_reading_prizes]))] H := hP
          have hD : va_D A [(a_t, .inr (3, [.ref a_t_reading, .ref a_t_times])), (a_t_times, .inl (cI, 60, .inl t_times)), (a_t_reading, .inr (5, [.ref a_t_reading_parts, .ref a_t_reading_signs, .ref a_t_reading_numbers, .int t_reading_laid, .int t_reading_stage, .int t_reading_open, .int t_reading_digits, .int t_reading_order, .int t_reading_prizes]))] := hD
          refine lv_icmp_gt (tgt := 38) hx hb dX3_prizeWinners_32 (by decide) (fun c8 => ?_) (fun c8 => ?_)
          · have h := zz_t h c8
            refine lv_iinc (v := (v2_4 + (nI 1))) (lv' := [(2, .int (v2_4 + (nI 1))), (1, .int v1_4), (0, .ref a_t)]) hx hb dX3_prizeWinners_38 hl (k := 0) rfl rfl (by decide) rfl (fun ls hl => ?_)
            refine lv_goto (tgt := 4) hx hb dX3_prizeWinners_41 (by decide) ?_
            exact ih4 v1_4 (v2_4 + (nI 1)) _ _ _ h (hP.sub [0, 2, 1] rfl) (hD.sub [0, 2, 1] rfl rfl) hS (lv_sub hl [0, 1, 2] rfl)
          · have h := zz_f h c8
            refine lv_iinc (v := (v1_4 + (nI 1))) (lv' := [(1, .int (v1_4 + (nI 1))), (2, .int v2_4), (0, .ref a_t)]) hx hb dX3_prizeWinners_35 hl (k := 1) rfl rfl (by decide) rfl (fun ls hl => ?_)
            refine lv_iinc (v := (v2_4 + (nI 1))) (lv' := [(2, .int (v2_4 + (nI 1))), (1, .int (v1_4 + (nI 1))), (0, .ref a_t)]) hx hb dX3_prizeWinners_38 hl (k := 1) rfl rfl (by decide) rfl (fun ls hl => ?_)
            refine lv_goto (tgt := 4) hx hb dX3_prizeWinners_41 (by decide) ?_
            exact ih4 (v1_4 + (nI 1)) (v2_4 + (nI 1)) _ _ _ h (hP.sub [0, 2, 1] rfl) (hD.sub [0, 2, 1] rfl rfl) hS (lv_sub hl [0, 1, 2] rfl)
  exact L4 N (nI 0) (nI 0) _ _ _ h hP hD hS hl
/-! RunDesk$Listing.leaveOnlyTeam -/
theorem dX3_leaveOnlyTeam_0 : decode cX3_leaveOnlyTeam 0 = .ok (.iconst 0, 1) := by decide +kernel
theorem dX3_leaveOnlyTeam_1 : decode cX3_leaveOnlyTeam 1 = .ok (.istore_n 3, 1) := by decide +kernel
theorem dX3_leaveOnlyTeam_2 : decode cX3_leaveOnlyTeam 2 = .ok (.iload_n 3, 1) := by decide +kernel
theorem dX3_leaveOnlyTeam_3 : decode cX3_leaveOnlyTeam 3 = .ok (.bipush 60, 2) := by decide +kernel
theorem dX3_leaveOnlyTeam_5 : decode cX3_leaveOnlyTeam 5 = .ok (.if_icmp .ge 29, 3) := by decide +kernel
theorem dX3_leaveOnlyTeam_8 : decode cX3_leaveOnlyTeam 8 = .ok (.aload_n 1, 1) := by decide +kernel
theorem dX3_leaveOnlyTeam_9 : decode cX3_leaveOnlyTeam 9 = .ok (.getfield 32, 3) := by decide +kernel
theorem dX3_leaveOnlyTeam_12 : decode cX3_leaveOnlyTeam 12 = .ok (.iload_n 3, 1) := by decide +kernel
theorem dX3_leaveOnlyTeam_13 : decode cX3_leaveOnlyTeam 13 = .ok (.iconst 4, 1) := by decide +kernel
theorem dX3_leaveOnlyTeam_14 : decode cX3_leaveOnlyTeam 14 = .ok (.invokevirtual 87, 3) := by decide +kernel
theorem dX3_leaveOnlyTeam_17 : decode cX3_leaveOnlyTeam 17 = .ok (.iload_n 2, 1) := by decide +kernel
theorem dX3_leaveOnlyTeam_18 : decode cX3_leaveOnlyTeam 18 = .ok (.if_icmp .eq 10, 3) := by decide +kernel
theorem dX3_leaveOnlyTeam_21 : decode cX3_leaveOnlyTeam 21 = .ok (.aload_n 0, 1) := by decide +kernel
theorem dX3_leaveOnlyTeam_22 : decode cX3_leaveOnlyTeam 22 = .ok (.getfield 18, 3) := by decide +kernel
theorem dX3_leaveOnlyTeam_25 : decode cX3_leaveOnlyTeam 25 = .ok (.iload_n 3, 1) := by decide +kernel
theorem dX3_leaveOnlyTeam_26 : decode cX3_leaveOnlyTeam 26 = .ok (.iconst (-1), 1) := by decide +kernel
theorem dX3_leaveOnlyTeam_27 : decode cX3_leaveOnlyTeam 27 = .ok (.iastore, 1) := by decide +kernel
theorem dX3_leaveOnlyTeam_28 : decode cX3_leaveOnlyTeam 28 = .ok (.iinc 3 1, 3) := by decide +kernel
theorem dX3_leaveOnlyTeam_31 : decode cX3_leaveOnlyTeam 31 = .ok (.goto (-29), 3) := by decide +kernel
theorem dX3_leaveOnlyTeam_34 : decode cX3_leaveOnlyTeam 34 = .ok (.return_, 1) := by decide +kernel
set_option maxRecDepth 20000 in
theorem ggX3_leaveOnlyTeam_X6_factOf : GoodIn wsX3_leaveOnlyTeam wsX6_factOf := goodIn_r _ [6, 7, 8, 14, 15, 16, 17, 18, 19, 20, 21, 22] (by decide +kernel) (by decide +kernel)
set_option maxRecDepth 20000 in
theorem gX3_leaveOnlyTeam_X6_factOf : GoodIn wsX3_leaveOnlyTeam (wsV RX3 87 RX6 yX6_factOf wsX6_factOf) := goodIn_app (goodIn_of _ (by decide +kernel)) ggX3_leaveOnlyTeam_X6_factOf
theorem qX3_leaveOnlyTeam_X4 : ∀ w ∈ wsX40, w ∈ wsX3_leaveOnlyTeam := fun _ h => List.mem_cons_of_mem _ (List.mem_append_left _ (List.mem_append_left _ (List.mem_append_right _ (h))))
theorem kX3_leaveOnlyTeam_1 : (.fieldLink RX3 18 "RunDesk$Listing" "times" "[I" : Cond) ∈ wsX3_leaveOnlyTeam := List.mem_of_getElem? (i := 1) (by decide +kernel)
theorem qX3_leaveOnlyTeam_X3 : ∀ w ∈ wsX30, w ∈ wsX3_leaveOnlyTeam := fun _ h => List.mem_cons_of_mem _ (List.mem_append_left _ (List.mem_append_right _ (h)))
set_option maxHeartbeats 4000000 in
set_option maxRecDepth 100000 in
theorem mX3_leaveOnlyTeam (l : Launch) (D : va_G) (cB cI cZ : ClassId) (a_t : Nat) (a_p1 : Nat) (a_t_reading : Nat) (a_t_times : Nat) (a_p1_way : Nat) (a_p1_guns : Nat) (a_p1_runners : Nat) (a_p1_runners_facts : Nat) (a_p1_runners_splits : Nat) (a_p1_runners_torn : Nat) (a_p1_runners_dropped : Nat) (a_p1_runners_waved : Nat) (a_p1_runners_struck : Nat) (a_p1_runners_strikingOrder : Nat) (t_times : Nat → Int32) (p1_runners_entered : Int32) (p1_runners_strikings : Int32) (p1_runners_facts : Nat → Int32) (sz : Nat) (x2 : Int32) (N : Nat) (t_times' : Nat → Int32) (h : fX3_leaveOnlyTeam N t_times p1_runners_entered p1_runners_facts x2 = some (t_times')) : Met l yX3_leaveOnlyTeam wsX3_leaveOnlyTeam ({ frames := 1, cells := 0, slots := 0, locals := 22 } : Room) (va_Pc [.ref a_t, .ref a_p1, .int x2] (zPre D (zT cB cI cZ) [(a_t, .inr (3, [.ref a_t_reading, .ref a_t_times])), (a_t_times, .inl (cI, 60, .inl t_times)), (a_p1, .inr (4, [.ref a_p1_way, .ref a_p1_guns, .ref a_p1_runners])), (a_p1_runners, .inr (6, [.ref a_p1_runners_facts, .ref a_p1_runners_splits, .ref a_p1_runners_torn, .ref a_p1_runners_dropped, .ref a_p1_runners_waved, .ref a_p1_runners_struck, .ref a_p1_runners_strikingOrder, .int p1_runners_entered, .int p1_runners_strikings])), (a_p1_runners_facts, .inl (cI, 360, .inl p1_runners_facts))] sz)) (zQv D (zT cB cI cZ) [(a_t, .inr (3, [.ref a_t_reading, .ref a_t_times])), (a_t_times, .inl (cI, 60, .inl t_times')), (a_p1, .inr (4, [.ref a_p1_way, .ref a_p1_guns, .ref a_p1_runners])), (a_p1_runners, .inr (6, [.ref a_p1_runners_facts, .ref a_p1_runners_splits, .ref a_p1_runners_torn, .ref a_p1_runners_dropped, .ref a_p1_runners_waved, .ref a_p1_runners_struck, .ref a_p1_runners_strikingOrder, .int p1_runners_entered, .int p1_runners_strikings])), (a_p1_runners_facts, .inl (cI, 360, .inl p1_runners_facts))] (va_A [(a_t, .inr (3, [.ref a_t_reading, .ref a_t_times])), (a_t_times, .inl (cI, 60, .inl t_times)), (a_p1, .inr (4, [.ref a_p1_way, .ref a_p1_guns, .ref a_p1_runners])), (a_p1_runners, .inr (6, [.ref a_p1_runners_facts, .ref a_p1_runners_splits, .ref a_p1_runners_torn, .ref a_p1_runners_dropped, .ref a_p1_runners_waved, .ref a_p1_runners_struck, .ref a_p1_runners_strikingOrder, .int p1_runners_entered, .int p1_runners_strikings])), (a_p1_runners_facts, .inl (cI, 360, .inl p1_runners_facts))] sz)) 0 0 (va_A [(a_t, .inr (3, [.ref a_t_reading, .ref a_t_times])), (a_t_times, .inl (cI, 60, .inl t_times)), (a_p1, .inr (4, [.ref a_p1_way, .ref a_p1_guns, .ref a_p1_runners])), (a_p1_runners, .inr (6, [.ref a_p1_runners_facts, .ref a_p1_runners_splits, .ref a_p1_runners_torn, .ref a_p1_runners_dropped, .ref a_p1_runners_waved, .ref a_p1_runners_struck, .ref a_p1_runners_strikingOrder, .int p1_runners_entered, .int p1_runners_strikings])), (a_p1_runners_facts, .inl (cI, 360, .inl p1_runners_facts))] sz) := by
  refine Met.ofW (cc := cX3_leaveOnlyTeam) (maxL := 4) (ret := none) (by decide) rfl ?_
  intro p e s m args below meth c s₁ B hml hv
  obtain ⟨rfl, hsz, hP, hK, hN, hZ, hD0⟩ := hv
  have hx := B.exec
  have hb := B.bytes
  have hr := B.returns
  have hts := atoms_spec (ws := wsX3_leaveOnlyTeam) B.pre
  have hown : s.vm.findClass RX3 = some m.cls := findClass_of_methodNamed B.named
  have hlocks := B.notSynchronized
  subst hsz
  have hD := hD0.self (sz := s.heap.size)
  generalize hAe : va_A [(a_t, .inr (3, [.ref a_t_reading, .ref a_t_times])), (a_t_times, .inl (cI, 60, .inl t_times)), (a_p1, .inr (4, [.ref a_p1_way, .ref a_p1_guns, .ref a_p1_runners])), (a_p1_runners, .inr (6, [.ref a_p1_runners_facts, .ref a_p1_runners_splits, .ref a_p1_runners_torn, .ref a_p1_runners_dropped, .ref a_p1_runners_waved, .ref a_p1_runners_struck, .ref a_p1_runners_strikingOrder, .int p1_runners_entered, .int p1_runners_strikings])), (a_p1_runners_facts, .inl (cI, 360, .inl p1_runners_facts))] s.heap.size = A at hD hZ ⊢
  have hA : ∀ q : Nat, s.heap.size ≤ q → A q := fun q h => by rw [← hAe]; exact Or.inr h
  have hS : va_S A s.heap s.heap [] := va_S.rf
  have hl := lv_entry ([.ref a_t, .ref a_p1, .int x2]) (n := 4) (Nat.le_of_ble_eq_true rfl)
  rw [lg_entry_eq]
  generalize (lg_sl ([.ref a_t, .ref a_p1, .int x2]) ++ List.replicate (4 - (lg_sl ([.ref a_t, .ref a_p1, .int x2])).length) Slot.unset).toArray = ls at hl ⊢
  have hl : lv_has ls 4 [(0, .ref a_t), (1, .ref a_p1), (2, .int x2)] := hl
  unfold fX3_leaveOnlyTeam at h
  refine lv_iconst (v := (nI 0)) hx hb dX3_leaveOnlyTeam_0 rfl ?_
  refine lv_istore_n (lv' := [(3, .int (nI 0)), (0, .ref a_t), (1, .ref a_p1), (2, .int x2)]) hx hb dX3_leaveOnlyTeam_1 rfl hl (by decide) rfl (fun ls hl => ?_)
  have X2_34 : ∀ (v3_2 : Int32) (t_times_l2 : Nat → Int32) (H : Heap) (locs : List Loc) (ls : Array Slot), some (t_times_l2) = some (t_times') → va_P D vwCl [(a_t, .inr (3, [.ref a_t_reading, .ref a_t_times])), (a_t_times, .inl (cI, 60, .inl t_times_l2)), (a_p1, .inr (4, [.ref a_p1_way, .ref a_p1_guns, .ref a_p1_runners])), (a_p1_runners, .inr (6, [.ref a_p1_runners_facts, .ref a_p1_runners_splits, .ref a_p1_runners_torn, .ref a_p1_runners_dropped, .ref a_p1_runners_waved, .ref a_p1_runners_struck, .ref a_p1_runners_strikingOrder, .int p1_runners_entered, .int p1_runners_strikings])), (a_p1_runners_facts, .inl (cI, 360, .inl p1_runners_facts))] H → va_D A [(a_t, .inr (3, [.ref a_t_reading, .ref a_t_times])), (a_t_times, .inl (cI, 60, .inl t_times_l2)), (a_p1, .inr (4, [.ref a_p1_way, .ref a_p1_guns, .ref a_p1_runners])), (a_p1_runners, .inr (6, [.ref a_p1_runners_facts, .ref a_p1_runners_splits, .ref a_p1_runners_torn, .ref a_p1_runners_dropped, .ref a_p1_runners_waved, .ref a_p1_runners_struck, .ref a_p1_runners_strikingOrder, .int p1_runners_entered, .int p1_runners_strikings])), (a_p1_runners_facts, .inl (cI, 360, .inl p1_runners_facts))] → va_S A s.heap H locs → lv_has ls 4 [(3, .int v3_2), (0, .ref a_t), (1, .ref a_p1), (2, .int x2)] → W p l e (headSpec wsX3_leaveOnlyTeam ({ frames := 1, cells := 0, slots := 0, locals := 22 } : Room)).room s m #[Value.ref a_t, Value.ref a_p1, Value.int x2] below meth c H locs 0 0 (MQ below (zQv D (zT cB cI cZ) [(a_t, .inr (3, [.ref a_t_reading, .ref a_t_times])), (a_t_times, .inl (cI, 60, .inl t_times')), (a_p1, .inr (4, [.ref a_p1_way, .ref a_p1_guns, .ref a_p1_runners])), (a_p1_runners, .inr (6, [.ref a_p1_runners_facts, .ref a_p1_runners_splits, .ref a_p1_runners_torn, .ref a_p1_runners_dropped, .ref a_p1_runners_waved, .ref a_p1_runners_struck, .ref a_p1_runners_strikingOrder, .int p1_runners_entered, .int p1_runners_strikings])), (a_p1_runners_facts, .inl (cI, 360, .inl p1_runners_facts))] A) #[Value.ref a_t, Value.ref a_p1, Value.int x2] s 0 0 A) (F0 m 34 ls []) := by
    intro v3_2 t_times_l2 H locs ls h hP hD hS hl
    have j0_ := Option.some.inj h
    subst j0_
    exact W.vret hx hb hr (fun t ht hW => ⟨⟨(), rfl, trivial, zPost.of hP hD hK ht hW [0, 1, 2, 3, 4] rfl rfl rfl⟩, hS.F ht⟩) hS.2.2 dX3_leaveOnlyTeam_34
  have L2 : ∀ (n : Nat) (v3_2 : Int32) (t_times_l2 : Nat → Int32) (H : Heap) (locs : List Loc) (ls : Array Slot), fX3_leaveOnlyTeam_L2 p1_runners_entered p1_runners_facts x2 (fun (v3_2 : Int32) (t_times_l2 : Nat → Int32) => some (t_times_l2)) n v3_2 t_times_l2 = some (t_times') → va_P D vwCl [(a_t, .inr (3, [.ref a_t_reading, .ref a_t_times])), (a_t_times, .inl (cI, 60, .inl t_times_l2)), (a_p1, .inr (4, [.ref a_p1_way, .ref a_p1_guns, .ref a_p1_runners])), (a_p1_runners, .inr (6, [.ref a_p1_runners_facts, .ref a_p1_runners_splits, .ref a_p1_runners_torn, .ref a_p1_runners_dropped, .ref a_p1_runners_waved, .ref a_p1_runners_struck, .ref a_p1_runners_strikingOrder, .int p1_runners_entered, .int p1_runners_strikings])), (a_p1_runners_facts, .inl (cI, 360, .inl p1_runners_facts))] H → va_D A [(a_t, .inr (3, [.ref a_t_reading, .ref a_t_times])), (a_t_times, .inl (cI, 60, .inl t_times_l2)), (a_p1, .inr (4, [.ref a_p1_way, .ref a_p1_guns, .ref a_p1_runners])), (a_p1_runners, .inr (6, [.ref a_p1_runners_facts, .ref a_p1_runners_splits, .ref a_p1_runners_torn, .ref a_p1_runners_dropped, .ref a_p1_runners_waved, .ref a_p1_runners_struck, .ref a_p1_runners_strikingOrder, .int p1_runners_entered, .int p1_runners_strikings])), (a_p1_runners_facts, .inl (cI, 360, .inl p1_runners_facts))] → va_S A s.heap H locs → lv_has ls 4 [(3, .int v3_2), (0, .ref a_t), (1, .ref a_p1), (2, .int x2)] → W p l e (headSpec wsX3_leaveOnlyTeam ({ frames := 1, cells := 0, slots := 0, locals := 22 } : Room)).room s m #[Value.ref a_t, Value.ref a_p1, Value.int x2] below meth c H locs 0 0 (MQ below (zQv D (zT cB cI cZ) [(a_t, .inr (3, [.ref a_t_reading, .ref a_t_times])), (a_t_times, .inl (cI, 60, .inl t_times')), (a_p1, .inr (4, [.ref a_p1_way, .ref a_p1_guns, .ref a_p1_runners])), (a_p1_runners, .inr (6, [.ref a_p1_runners_facts, .ref a_p1_runners_splits, .ref a_p1_runners_torn, .ref a_p1_runners_dropped, .ref a_p1_runners_waved, .ref a_p1_runners_struck, .ref a_p1_runners_strikingOrder, .int p1_runners_entered, .int p1_runners_strikings])), (a_p1_runners_facts, .inl (cI, 360, .inl p1_runners_facts))] A) #[Value.ref a_t, Value.ref a_p1, Value.int x2] s 0 0 A) (F0 m 2 ls []) := by
    intro n
    induction n with
    | zero => intro _ _ H locs ls h hP hD hS hl; cases h
    | succ n2 ih2 =>
      intro v3_2 t_times_l2 H locs ls h hP hD hS hl
      rw [fX3_leaveOnlyTeam_L2.eq_2] at h
      refine lv_iload_n hx hb dX3_leaveOnlyTeam_2 rfl (lv_at hl 0 rfl) ?_
      refine lv_bipush (v := (nI 60)) hx hb dX3_leaveOnlyTeam_3 rfl ?_
      refine lv_icmp_ge (tgt := 34) hx hb dX3_leaveOnlyTeam_5 (by decide) (fun c1 => ?_) (fun c1 => ?_)
      · have h := zz_t h c1
        exact X2_34 v3_2 t_times_l2 _ _ _ h (hP.sub [0, 1, 2, 3, 4] rfl) (hD.sub [0, 1, 2, 3, 4] rfl rfl) hS (lv_sub hl [0, 1, 2, 3] rfl)
      · have h := zz_f h c1
        refine lv_aload_n hx hb dX3_leaveOnlyTeam_8 rfl (lv_at hl 2 rfl) ?_
        refine va_getN (host := "RunDesk") (D := D) (ci := 4) (C := RX4) (T := TX4) (N := 3) hx hb hts qX3_leaveOnlyTeam_X4 hown hK hP 2 rfl rfl 2 (by decide) (va_Nw.use rfl (hN _ (List.mem_of_getElem? (i := 9) rfl))) (fun _ h9 => h9) rfl dX3_leaveOnlyTeam_9 ?_
        refine lv_iload_n hx hb dX3_leaveOnlyTeam_12 rfl (lv_at hl 0 rfl) ?_
        refine lv_iconst (v := (nI 4)) hx hb dX3_leaveOnlyTeam_13 rfl ?_
        obtain ⟨r2, e3, h⟩ := zz_b h
        refine zVi (As := [.int v3_2, .int (nI 4)]) (rest := []) (C := RX6) (wr := [(a_t, .inr (3, [.ref a_t_reading, .ref a_t_times])), (a_t_times, .inl (cI, 60, .inl t_times_l2)), (a_p1, .inr (4, [.ref a_p1_way, .ref a_p1_guns, .ref a_p1_runners]))]) [3, 4] [0, 1, 2] 0 ⟨hx, hb, hml, hown, hts⟩ (mX6_factOf l D cB cI cZ a_p1_runners a_p1_runners_facts a_p1_runners_splits a_p1_runners_torn a_p1_runners_dropped a_p1_runners_waved a_p1_runners_struck a_p1_runners_strikingOrder p1_runners_entered p1_runners_strikings p1_runners_facts H.size v3_2 (nI 4) r2 e3) (cwV 2 hts gX3_leaveOnlyTeam_X6_factOf rfl rfl rfl (by decide +kernel) ⟨Nat.le_of_ble_eq_true rfl, Nat.le_of_ble_eq_true rfl⟩) hK hN hZ hP hD hS hA rfl rfl rfl rfl rfl rfl rfl rfl hl.1 rfl (lv_room (Nat.le_of_ble_eq_true rfl)) dX3_leaveOnlyTeam_14 ⟨Nat.le_of_ble_eq_true rfl, Nat.le_of_ble_eq_true rfl⟩ (fun H locs hP hD hS => ?_)
        have hP : va_P D vwCl [(a_t, .inr (3, [.ref a_t_reading, .ref a_t_times])), (a_t_times, .inl (cI, 60, .inl t_times_l2)), (a_p1, .inr (4, [.ref a_p1_way, .ref a_p1_guns, .ref a_p1_runners])), (a_p1_runners, .inr (6, [.ref a_p1_runners_facts, .ref a_p1_runners_splits, .ref a_p1_runners_torn, .ref a_p1_runners_dropped, .ref a_p1_runners_waved, .ref a_p1_runners_struck, .ref a_p1_runners_strikingOrder, .int p1_runners_entered, .int p1_runners_strikings])), (a_p1_runners_facts, .inl (cI, 360, .inl p1_runners_facts))] H := hP
        have hD : va_D A [(a_t, .inr (3, [.ref a_t_reading, .ref a_t_times])), (a_t_times, .inl (cI, 60, .inl t_times_l2)), (a_p1, .inr (4, [.ref a_p1_way, .ref a_p1_guns, .ref a_p1_runners])), (a_p1_runners, .inr (6, [.ref a_p1_runners_facts, .ref a_p1_runners_splits, .ref a_p1_runners_torn, .ref a_p1_runners_dropped, .ref a_p1_runners_waved, .ref a_p1_runners_struck, .ref a_p1_runners_strikingOrder, .int p1_runners_entered, .int p1_runners_strikings])), (a_p1_runners_facts, .inl (cI, 360, .inl p1_runners_facts))] := hD
        refine lv_iload_n hx hb dX3_leaveOnlyTeam_17 rfl (lv_at hl 3 rfl) ?_
        refine lv_icmp_eq (tgt := 28) hx hb dX3_leaveOnlyTeam_18 (by decide) (fun c4 => ?_) (fun c4 => ?_)
        · have h := zz_t h c4
          refine lv_iinc (v := (v3_2 + (nI 1))) (lv' := [(3, .int (v3_2 + (nI 1))), (0, .ref a_t), (1, .ref a_p1), (2, .int x2)]) hx hb dX3_leaveOnlyTeam_28 hl (k := 0) rfl rfl (by decide) rfl (fun ls hl => ?_)
          refine lv_goto (tgt := 2) hx hb dX3_leaveOnlyTeam_31 (by decide) ?_
          exact ih2 (v3_2 + (nI 1)) t_times_l2 _ _ _ h (hP.sub [0, 1, 2, 3, 4] rfl) (hD.sub [0, 1, 2, 3, 4] rfl rfl) hS (lv_sub hl [0, 1, 2, 3] rfl)
        · have h := zz_f h c4
          refine lv_aload_n hx hb dX3_leaveOnlyTeam_21 rfl (lv_at hl 1 rfl) ?_
          refine va_get (D := D) (ci := 3) (C := RX3) (T := TX3) (N := 2) hx hb hts qX3_leaveOnlyTeam_X3 hown hK hP 0 rfl rfl 1 (by decide) (hts _ kX3_leaveOnlyTeam_1) (fun _ h9 => h9) rfl dX3_leaveOnlyTeam_22 ?_
          refine lv_iload_n hx hb dX3_leaveOnlyTeam_25 rfl (lv_at hl 0 rfl) ?_
          refine lv_iconst (v := (-1 : Int32)) hx hb dX3_leaveOnlyTeam_26 rfl ?_
          obtain ⟨i5, h⟩ := zz_i h
          refine va_iast hx hb hK hP hD hS 1 1 rfl rfl i5 dX3_leaveOnlyTeam_27 (fun H locs hP hD hS => ?_)
          have hP : va_P D vwCl [(a_t, .inr (3, [.ref a_t_reading, .ref a_t_times])), (a_t_times, .inl (cI, 60, .inl (upd t_times_l2 (v3_2).toNatClampNeg (-1 : Int32)))), (a_p1, .inr (4, [.ref a_p1_way, .ref a_p1_guns, .ref a_p1_runners])), (a_p1_runners, .inr (6, [.ref a_p1_runners_facts, .ref a_p1_runners_splits, .ref a_p1_runners_torn, .ref a_p1_runners_dropped, .ref a_p1_runners_waved, .ref a_p1_runners_struck, .ref a_p1_runners_strikingOrder, .int p1_runners_entered, .int p1_runners_strikings])), (a_p1_runners_facts, .inl (cI, 360, .inl p1_runners_facts))] H := hP
          have hD : va_D A [(a_t, .inr (3, [.ref a_t_reading, .ref a_t_times])), (a_t_times, .inl (cI, 60, .inl (upd t_times_l2 (v3_2).toNatClampNeg (-1 : Int32)))), (a_p1, .inr (4, [.ref a_p1_way, .ref a_p1_guns, .ref a_p1_runners])), (a_p1_runners, .inr (6, [.ref a_p1_runners_facts, .ref a_p1_runners_splits, .ref a_p1_runners_torn, .ref a_p1_runners_dropped, .ref a_p1_runners_waved, .ref a_p1_runners_struck, .ref a_p1_runners_strikingOrder, .int p1_runners_entered, .int p1_runners_strikings])), (a_p1_runners_facts, .inl (cI, 360, .inl p1_runners_facts))] := hD
          refine lv_iinc (v := (v3_2 + (nI 1))) (lv' := [(3, .int (v3_2 + (nI 1))), (0, .ref a_t), (1, .ref a_p1), (2, .int x2)]) hx hb dX3_leaveOnlyTeam_28 hl (k := 0) rfl rfl (by decide) rfl (fun ls hl => ?_)
          refine lv_goto (tgt := 2) hx hb dX3_leaveOnlyTeam_31 (by decide) ?_
          exact ih2 (v3_2 + (nI 1)) (upd t_times_l2 (v3_2).toNatClampNeg (-1 : Int32)) _ _ _ h (hP.sub [0, 1, 2, 3, 4] rfl) (hD.sub [0, 1, 2, 3, 4] rfl rfl) hS (lv_sub hl [0, 1, 2, 3] rfl)
  exact L2 N (nI 0) t_times _ _ _ h hP hD hS hl
/-! RunDesk$Listing.bestOfTeam -/
theorem dX3_bestOfTeam_0 : decode cX3_bestOfTeam 0 = .ok (.aload_n 0, 1) := by decide +kernel
theorem dX3_bestOfTeam_1 : decode cX3_bestOfTeam 1 = .ok (.aload_n 1, 1) := by decide +kernel
theorem dX3_bestOfTeam_2 : decode cX3_bestOfTeam 2 = .ok (.iload_n 2, 1) := by decide +kernel
theorem dX3_bestOfTeam_3 : decode cX3_bestOfTeam 3 = .ok (.invokevirtual 82, 3) := by decide +kernel
theorem dX3_bestOfTeam_6 : decode cX3_bestOfTeam 6 = .ok (.aload_n 0, 1) := by decide +kernel
theorem dX3_bestOfTeam_7 : decode cX3_bestOfTeam 7 = .ok (.invokevirtual 86, 3) := by decide +kernel
theorem dX3_bestOfTeam_10 : decode cX3_bestOfTeam 10 = .ok (.iload_n 3, 1) := by decide +kernel
theorem dX3_bestOfTeam_11 : decode cX3_bestOfTeam 11 = .ok (.if_icmp .ge 5, 3) := by decide +kernel
theorem dX3_bestOfTeam_14 : decode cX3_bestOfTeam 14 = .ok (.iconst (-1), 1) := by decide +kernel
theorem dX3_bestOfTeam_15 : decode cX3_bestOfTeam 15 = .ok (.ireturn, 1) := by decide +kernel
theorem dX3_bestOfTeam_16 : decode cX3_bestOfTeam 16 = .ok (.iconst 0, 1) := by decide +kernel
theorem dX3_bestOfTeam_17 : decode cX3_bestOfTeam 17 = .ok (.istore 4, 2) := by decide +kernel
theorem dX3_bestOfTeam_19 : decode cX3_bestOfTeam 19 = .ok (.iconst 0, 1) := by decide +kernel
theorem dX3_bestOfTeam_20 : decode cX3_bestOfTeam 20 = .ok (.istore 5, 2) := by decide +kernel
theorem dX3_bestOfTeam_22 : decode cX3_bestOfTeam 22 = .ok (.iload 5, 2) := by decide +kernel
theorem dX3_bestOfTeam_24 : decode cX3_bestOfTeam 24 = .ok (.bipush 60, 2) := by decide +kernel
theorem dX3_bestOfTeam_26 : decode cX3_bestOfTeam 26 = .ok (.if_icmp .ge 42, 3) := by decide +kernel
theorem dX3_bestOfTeam_29 : decode cX3_bestOfTeam 29 = .ok (.aload_n 0, 1) := by decide +kernel
theorem dX3_bestOfTeam_30 : decode cX3_bestOfTeam 30 = .ok (.getfield 18, 3) := by decide +kernel
theorem dX3_bestOfTeam_33 : decode cX3_bestOfTeam 33 = .ok (.iload 5, 2) := by decide +kernel
theorem dX3_bestOfTeam_35 : decode cX3_bestOfTeam 35 = .ok (.iaload, 1) := by decide +kernel
theorem dX3_bestOfTeam_36 : decode cX3_bestOfTeam 36 = .ok (.iconst (-1), 1) := by decide +kernel
theorem dX3_bestOfTeam_37 : decode cX3_bestOfTeam 37 = .ok (.if_icmp .eq 25, 3) := by decide +kernel
theorem dX3_bestOfTeam_40 : decode cX3_bestOfTeam 40 = .ok (.aload_n 0, 1) := by decide +kernel
theorem dX3_bestOfTeam_41 : decode cX3_bestOfTeam 41 = .ok (.iload 5, 2) := by decide +kernel
theorem dX3_bestOfTeam_43 : decode cX3_bestOfTeam 43 = .ok (.invokevirtual 73, 3) := by decide +kernel
theorem dX3_bestOfTeam_46 : decode cX3_bestOfTeam 46 = .ok (.iload_n 3, 1) := by decide +kernel
theorem dX3_bestOfTeam_47 : decode cX3_bestOfTeam 47 = .ok (.if_icmp .ge 15, 3) := by decide +kernel
theorem dX3_bestOfTeam_50 : decode cX3_bestOfTeam 50 = .ok (.iload 4, 2) := by decide +kernel
theorem dX3_bestOfTeam_52 : decode cX3_bestOfTeam 52 = .ok (.aload_n 0, 1) := by decide +kernel
theorem dX3_bestOfTeam_53 : decode cX3_bestOfTeam 53 = .ok (.getfield 18, 3) := by decide +kernel
theorem dX3_bestOfTeam_56 : decode cX3_bestOfTeam 56 = .ok (.iload 5, 2) := by decide +kernel
theorem dX3_bestOfTeam_58 : decode cX3_bestOfTeam 58 = .ok (.iaload, 1) := by decide +kernel
theorem dX3_bestOfTeam_59 : decode cX3_bestOfTeam 59 = .ok (.iadd, 1) := by decide +kernel
theorem dX3_bestOfTeam_60 : decode cX3_bestOfTeam 60 = .ok (.istore 4, 2) := by decide +kernel
theorem dX3_bestOfTeam_62 : decode cX3_bestOfTeam 62 = .ok (.iinc 5 1, 3) := by decide +kernel
theorem dX3_bestOfTeam_65 : decode cX3_bestOfTeam 65 = .ok (.goto (-43), 3) := by decide +kernel
theorem dX3_bestOfTeam_68 : decode cX3_bestOfTeam 68 = .ok (.iload 4, 2) := by decide +kernel
theorem dX3_bestOfTeam_70 : decode cX3_bestOfTeam 70 = .ok (.ireturn, 1) := by decide +kernel
set_option maxRecDepth 20000 in
theorem ggX3_bestOfTeam_X3_leaveOnlyTeam : GoodIn wsX3_bestOfTeam wsX3_leaveOnlyTeam := goodIn_r _ [6, 1, 7, 8, 9, 10, 11, 12, 13, 35, 36, 37, 33, 34, 38, 39, 40, 41, 42, 43, 44, 45, 46] (by decide +kernel) (by decide +kernel)
set_option maxRecDepth 20000 in
theorem gX3_bestOfTeam_X3_leaveOnlyTeam : GoodIn wsX3_bestOfTeam (wsV RX3 82 RX3 yX3_leaveOnlyTeam wsX3_leaveOnlyTeam) := goodIn_app (goodIn_of _ (by decide +kernel)) ggX3_bestOfTeam_X3_leaveOnlyTeam
set_option maxRecDepth 20000 in
theorem ggX3_bestOfTeam_X3_size : GoodIn wsX3_bestOfTeam wsX3_size := goodIn_r _ [17, 1, 33, 34] (by decide +kernel) (by decide +kernel)
set_option maxRecDepth 20000 in
theorem gX3_bestOfTeam_X3_size : GoodIn wsX3_bestOfTeam (wsV RX3 86 RX3 yX3_size wsX3_size) := goodIn_app (goodIn_of _ (by decide +kernel)) ggX3_bestOfTeam_X3_size
set_option maxRecDepth 20000 in
theorem ggX3_bestOfTeam_X3_indexOf : GoodIn wsX3_bestOfTeam wsX3_indexOf := goodIn_r _ [21, 22, 23, 24, 5, 25, 1, 26, 27, 28, 29, 30, 31, 32, 33, 34] (by decide +kernel) (by decide +kernel)
set_option maxRecDepth 20000 in
theorem gX3_bestOfTeam_X3_indexOf : GoodIn wsX3_bestOfTeam (wsV RX3 73 RX3 yX3_indexOf wsX3_indexOf) := goodIn_app (goodIn_of _ (by decide +kernel)) ggX3_bestOfTeam_X3_indexOf
theorem kX3_bestOfTeam_0 : (.fieldLink RX3 18 "RunDesk$Listing" "times" "[I" : Cond) ∈ wsX3_bestOfTeam := List.mem_of_getElem? (i := 1) (by decide +kernel)
theorem qX3_bestOfTeam_X3 : ∀ w ∈ wsX30, w ∈ wsX3_bestOfTeam := fun _ h => List.mem_cons_of_mem _ (List.mem_append_left _ (List.mem_append_left _ (List.mem_append_right _ (h))))
set_option maxHeartbeats 4000000 in
set_option maxRecDepth 100000 in
theorem mX3_bestOfTeam (l : Launch) (D : va_G) (cB cI cZ : ClassId) (a_t : Nat) (a_p1 : Nat) (a_t_reading : Nat) (a_t_times : Nat) (a_p1_way : Nat) (a_p1_guns : Nat) (a_p1_runners : Nat) (a_p1_runners_facts : Nat) (a_p1_runners_splits : Nat) (a_p1_runners_torn : Nat) (a_p1_runners_dropped : Nat) (a_p1_runners_waved : Nat) (a_p1_runners_struck : Nat) (a_p1_runners_strikingOrder : Nat) (t_times : Nat → Int32) (p1_runners_entered : Int32) (p1_runners_strikings : Int32) (p1_runners_facts : Nat → Int32) (sz : Nat) (x2 : Int32) (x3 : Int32) (N : Nat) (r0 : Int32) (t_times' : Nat → Int32) (h : fX3_bestOfTeam N t_times p1_runners_entered p1_runners_facts x2 x3 = some (r0, t_times')) : Met l yX3_bestOfTeam wsX3_bestOfTeam ({ frames := 3, cells := 0, slots := 0, locals := 67 } : Room) (va_Pc [.ref a_t, .ref a_p1, .int x2, .int x3] (zPre D (zT cB cI cZ) [(a_t, .inr (3, [.ref a_t_reading, .ref a_t_times])), (a_t_times, .inl (cI, 60, .inl t_times)), (a_p1, .inr (4, [.ref a_p1_way, .ref a_p1_guns, .ref a_p1_runners])), (a_p1_runners, .inr (6, [.ref a_p1_runners_facts, .ref a_p1_runners_splits, .ref a_p1_runners_torn, .ref a_p1_runners_dropped, .ref a_p1_runners_waved, .ref a_p1_runners_struck, .ref a_p1_runners_strikingOrder, .int p1_runners_entered, .int p1_runners_strikings])), (a_p1_runners_facts, .inl (cI, 360, .inl p1_runners_facts))] sz)) (zQi r0 D (zT cB cI cZ) [(a_t, .inr (3, [.ref a_t_reading, .ref a_t_times])), (a_t_times, .inl (cI, 60, .inl t_times')), (a_p1, .inr (4, [.ref a_p1_way, .ref a_p1_guns, .ref a_p1_runners])), (a_p1_runners, .inr (6, [.ref a_p1_runners_facts, .ref a_p1_runners_splits, .ref a_p1_runners_torn, .ref a_p1_runners_dropped, .ref a_p1_runners_waved, .ref a_p1_runners_struck, .ref a_p1_runners_strikingOrder, .int p1_runners_entered, .int p1_runners_strikings])), (a_p1_runners_facts, .inl (cI, 360, .inl p1_runners_facts))] (va_A [(a_t, .inr (3, [.ref a_t_reading, .ref a_t_times])), (a_t_times, .inl (cI, 60, .inl t_times)), (a_p1, .inr (4, [.ref a_p1_way, .ref a_p1_guns, .ref a_p1_runners])), (a_p1_runners, .inr (6, [.ref a_p1_runners_facts, .ref a_p1_runners_splits, .ref a_p1_runners_torn, .ref a_p1_runners_dropped, .ref a_p1_runners_waved, .ref a_p1_runners_struck, .ref a_p1_runners_strikingOrder, .int p1_runners_entered, .int p1_runners_strikings])), (a_p1_runners_facts, .inl (cI, 360, .inl p1_runners_facts))] sz)) 0 0 (va_A [(a_t, .inr (3, [.ref a_t_reading, .ref a_t_times])), (a_t_times, .inl (cI, 60, .inl t_times)), (a_p1, .inr (4, [.ref a_p1_way, .ref a_p1_guns, .ref a_p1_runners])), (a_p1_runners, .inr (6, [.ref a_p1_runners_facts, .ref a_p1_runners_splits, .ref a_p1_runners_torn, .ref a_p1_runners_dropped, .ref a_p1_runners_waved, .ref a_p1_runners_struck, .ref a_p1_runners_strikingOrder, .int p1_runners_entered, .int p1_runners_strikings])), (a_p1_runners_facts, .inl (cI, 360, .inl p1_runners_facts))] sz) := by
  refine Met.ofW (cc := cX3_bestOfTeam) (maxL := 6) (ret := (some .int)) (by decide) rfl ?_
  intro p e s m args below meth c s₁ B hml hv
  obtain ⟨rfl, hsz, hP, hK, hN, hZ, hD0⟩ := hv
  have hx := B.exec
  have hb := B.bytes
  have hr := B.returns
  have hts := atoms_spec (ws := wsX3_bestOfTeam) B.pre
  have hown : s.vm.findClass RX3 = some m.cls := findClass_of_methodNamed B.named
  have hlocks := B.notSynchronized
  subst hsz
  have hD := hD0.self (sz := s.heap.size)
  generalize hAe : va_A [(a_t, .inr (3, [.ref a_t_reading, .ref a_t_times])), (a_t_times, .inl (cI, 60, .inl t_times)), (a_p1, .inr (4, [.ref a_p1_way, .ref a_p1_guns, .ref a_p1_runners])), (a_p1_runners, .inr (6, [.ref a_p1_runners_facts, .ref a_p1_runners_splits, .ref a_p1_runners_torn, .ref a_p1_runners_dropped, .ref a_p1_runners_waved, .ref a_p1_runners_struck, .ref a_p1_runners_strikingOrder, .int p1_runners_entered, .int p1_runners_strikings])), (a_p1_runners_facts, .inl (cI, 360, .inl p1_runners_facts))] s.heap.size = A at hD hZ ⊢
  have hA : ∀ q : Nat, s.heap.size ≤ q → A q := fun q h => by rw [← hAe]; exact Or.inr h
  have hS : va_S A s.heap s.heap [] := va_S.rf
  have hl := lv_entry ([.ref a_t, .ref a_p1, .int x2, .int x3]) (n := 6) (Nat.le_of_ble_eq_true rfl)
  rw [lg_entry_eq]
  generalize (lg_sl ([.ref a_t, .ref a_p1, .int x2, .int x3]) ++ List.replicate (6 - (lg_sl ([.ref a_t, .ref a_p1, .int x2, .int x3])).length) Slot.unset).toArray = ls at hl ⊢
  have hl : lv_has ls 6 [(0, .ref a_t), (1, .ref a_p1), (2, .int x2), (3, .int x3)] := hl
  unfold fX3_bestOfTeam at h
  refine lv_aload_n hx hb dX3_bestOfTeam_0 rfl (lv_at hl 0 rfl) ?_
  refine lv_aload_n hx hb dX3_bestOfTeam_1 rfl (lv_at hl 1 rfl) ?_
  refine lv_iload_n hx hb dX3_bestOfTeam_2 rfl (lv_at hl 2 rfl) ?_
  obtain ⟨t_times_r1, e2, h⟩ := zz_b h
  refine zVv (As := [.ref a_p1, .int x2]) (rest := []) (C := RX3) (wr := []) [0, 1, 2, 3, 4] [] 0 ⟨hx, hb, hml, hown, hts⟩ (mX3_leaveOnlyTeam l D cB cI cZ a_t a_p1 a_t_reading a_t_times a_p1_way a_p1_guns a_p1_runners a_p1_runners_facts a_p1_runners_splits a_p1_runners_torn a_p1_runners_dropped a_p1_runners_waved a_p1_runners_struck a_p1_runners_strikingOrder t_times p1_runners_entered p1_runners_strikings p1_runners_facts s.heap.size x2 N t_times_r1 e2) (cwV 2 hts gX3_bestOfTeam_X3_leaveOnlyTeam rfl rfl rfl (by decide +kernel) ⟨Nat.le_of_ble_eq_true rfl, Nat.le_of_ble_eq_true rfl⟩) hK hN hZ hP hD hS hA rfl rfl rfl rfl rfl rfl rfl rfl hl.1 rfl (lv_room (Nat.le_of_ble_eq_true rfl)) dX3_bestOfTeam_3 ⟨Nat.le_of_ble_eq_true rfl, Nat.le_of_ble_eq_true rfl⟩ (fun H locs hP hD hS => ?_)
  have hP : va_P D vwCl [(a_t, .inr (3, [.ref a_t_reading, .ref a_t_times])), (a_t_times, .inl (cI, 60, .inl t_times_r1)), (a_p1, .inr (4, [.ref a_p1_way, .ref a_p1_guns, .ref a_p1_runners])), (a_p1_runners, .inr (6, [.ref a_p1_runners_facts, .ref a_p1_runners_splits, .ref a_p1_runners_torn, .ref a_p1_runners_dropped, .ref a_p1_runners_waved, .ref a_p1_runners_struck, .ref a_p1_runners_strikingOrder, .int p1_runners_entered, .int p1_runners_strikings])), (a_p1_runners_facts, .inl (cI, 360, .inl p1_runners_facts))] H := hP
  have hD : va_D A [(a_t, .inr (3, [.ref a_t_reading, .ref a_t_times])), (a_t_times, .inl (cI, 60, .inl t_times_r1)), (a_p1, .inr (4, [.ref a_p1_way, .ref a_p1_guns, .ref a_p1_runners])), (a_p1_runners, .inr (6, [.ref a_p1_runners_facts, .ref a_p1_runners_splits, .ref a_p1_runners_torn, .ref a_p1_runners_dropped, .ref a_p1_runners_waved, .ref a_p1_runners_struck, .ref a_p1_runners_strikingOrder, .int p1_runners_entered, .int p1_runners_strikings])), (a_p1_runners_facts, .inl (cI, 360, .inl p1_runners_facts))] := hD
  refine lv_aload_n hx hb dX3_bestOfTeam_6 rfl (lv_at hl 0 rfl) ?_
  obtain ⟨r3, e4, h⟩ := zz_b h
  refine zVi (As := []) (rest := []) (C := RX3) (wr := [(a_p1, .inr (4, [.ref a_p1_way, .ref a_p1_guns, .ref a_p1_runners])), (a_p1_runners, .inr (6, [.ref a_p1_runners_facts, .ref a_p1_runners_splits, .ref a_p1_runners_torn, .ref a_p1_runners_dropped, .ref a_p1_runners_waved, .ref a_p1_runners_struck, .ref a_p1_runners_strikingOrder, .int p1_runners_entered, .int p1_runners_strikings])), (a_p1_runners_facts, .inl (cI, 360, .inl p1_runners_facts))]) [0, 1] [2, 3, 4] 0 ⟨hx, hb, hml, hown, hts⟩ (mX3_size l D cB cI cZ a_t a_t_reading a_t_times t_times_r1 H.size N r3 e4) (cwV 0 hts gX3_bestOfTeam_X3_size rfl rfl rfl (by decide +kernel) ⟨Nat.le_of_ble_eq_true rfl, Nat.le_of_ble_eq_true rfl⟩) hK hN hZ hP hD hS hA rfl rfl rfl rfl rfl rfl rfl rfl hl.1 rfl (lv_room (Nat.le_of_ble_eq_true rfl)) dX3_bestOfTeam_7 ⟨Nat.le_of_ble_eq_true rfl, Nat.le_of_ble_eq_true rfl⟩ (fun H locs hP hD hS => ?_)
  have hP : va_P D vwCl [(a_p1, .inr (4, [.ref a_p1_way, .ref a_p1_guns, .ref a_p1_runners])), (a_p1_runners, .inr (6, [.ref a_p1_runners_facts, .ref a_p1_runners_splits, .ref a_p1_runners_torn, .ref a_p1_runners_dropped, .ref a_p1_runners_waved, .ref a_p1_runners_struck, .ref a_p1_runners_strikingOrder, .int p1_runners_entered, .int p1_runners_strikings])), (a_p1_runners_facts, .inl (cI, 360, .inl p1_runners_facts)), (a_t, .inr (3, [.ref a_t_reading, .ref a_t_times])), (a_t_times, .inl (cI, 60, .inl t_times_r1))] H := hP
  have hD : va_D A [(a_p1, .inr (4, [.ref a_p1_way, .ref a_p1_guns, .ref a_p1_runners])), (a_p1_runners, .inr (6, [.ref a_p1_runners_facts, .ref a_p1_runners_splits, .ref a_p1_runners_torn, .ref a_p1_runners_dropped, .ref a_p1_runners_waved, .ref a_p1_runners_struck, .ref a_p1_runners_strikingOrder, .int p1_runners_entered, .int p1_runners_strikings])), (a_p1_runners_facts, .inl (cI, 360, .inl p1_runners_facts)), (a_t, .inr (3, [.ref a_t_reading, .ref a_t_times])), (a_t_times, .inl (cI, 60, .inl t_times_r1))] := hD
  refine lv_iload_n hx hb dX3_bestOfTeam_10 rfl (lv_at hl 3 rfl) ?_
  refine lv_icmp_ge (tgt := 16) hx hb dX3_bestOfTeam_11 (by decide) (fun c5 => ?_) (fun c5 => ?_)
  · have h := zz_t h c5
    refine lv_iconst (v := (nI 0)) hx hb dX3_bestOfTeam_16 rfl ?_
    refine lv_istore (lv' := [(4, .int (nI 0)), (0, .ref a_t), (1, .ref a_p1), (2, .int x2), (3, .int x3)]) hx hb dX3_bestOfTeam_17 hl (by decide) rfl (fun ls hl => ?_)
    refine lv_iconst (v := (nI 0)) hx hb dX3_bestOfTeam_19 rfl ?_
    refine lv_istore (lv' := [(5, .int (nI 0)), (4, .int (nI 0)), (0, .ref a_t), (1, .ref a_p1), (2, .int x2), (3, .int x3)]) hx hb dX3_bestOfTeam_20 hl (by decide) rfl (fun ls hl => ?_)
    have X22_68 : ∀ (v4_22 : Int32) (v5_22 : Int32) (H : Heap) (locs : List Loc) (ls : Array Slot), some (v4_22, t_times_r1) = some (r0, t_times') → va_P D vwCl [(a_p1, .inr (4, [.ref a_p1_way, .ref a_p1_guns, .ref a_p1_runners])), (a_p1_runners, .inr (6, [.ref a_p1_runners_facts, .ref a_p1_runners_splits, .ref a_p1_runners_torn, .ref a_p1_runners_dropped, .ref a_p1_runners_waved, .ref a_p1_runners_struck, .ref a_p1_runners_strikingOrder, .int p1_runners_entered, .int p1_runners_strikings])), (a_p1_runners_facts, .inl (cI, 360, .inl p1_runners_facts)), (a_t, .inr (3, [.ref a_t_reading, .ref a_t_times])), (a_t_times, .inl (cI, 60, .inl t_times_r1))] H → va_D A [(a_p1, .inr (4, [.ref a_p1_way, .ref a_p1_guns, .ref a_p1_runners])), (a_p1_runners, .inr (6, [.ref a_p1_runners_facts, .ref a_p1_runners_splits, .ref a_p1_runners_torn, .ref a_p1_runners_dropped, .ref a_p1_runners_waved, .ref a_p1_runners_struck, .ref a_p1_runners_strikingOrder, .int p1_runners_entered, .int p1_runners_strikings])), (a_p1_runners_facts, .inl (cI, 360, .inl p1_runners_facts)), (a_t, .inr (3, [.ref a_t_reading, .ref a_t_times])), (a_t_times, .inl (cI, 60, .inl t_times_r1))] → va_S A s.heap H locs → lv_has ls 6 [(5, .int v5_22), (4, .int v4_22), (0, .ref a_t), (1, .ref a_p1), (2, .int x2), (3, .int x3)] → W p l e (headSpec wsX3_bestOfTeam ({ frames := 3, cells := 0, slots := 0, locals := 67 } : Room)).room s m #[Value.ref a_t, Value.ref a_p1, Value.int x2, Value.int x3] below meth c H locs 0 0 (MQ below (zQi r0 D (zT cB cI cZ) [(a_t, .inr (3, [.ref a_t_reading, .ref a_t_times])), (a_t_times, .inl (cI, 60, .inl t_times')), (a_p1, .inr (4, [.ref a_p1_way, .ref a_p1_guns, .ref a_p1_runners])), (a_p1_runners, .inr (6, [.ref a_p1_runners_facts, .ref a_p1_runners_splits, .ref a_p1_runners_torn, .ref a_p1_runners_dropped, .ref a_p1_runners_waved, .ref a_p1_runners_struck, .ref a_p1_runners_strikingOrder, .int p1_runners_entered, .int p1_runners_strikings])), (a_p1_runners_facts, .inl (cI, 360, .inl p1_runners_facts))] A) #[Value.ref a_t, Value.ref a_p1, Value.int x2, Value.int x3] s 0 0 A) (F0 m 68 ls []) := by
      intro v4_22 v5_22 H locs ls h hP hD hS hl
      refine lv_iload hx hb dX3_bestOfTeam_68 (lv_at hl 1 rfl) ?_
      obtain ⟨j0_, g_⟩ := Prod.mk.inj (Option.some.inj h)
      have j1_ := g_
      subst j0_
      subst j1_
      exact W.iret (v := v4_22) hx hb hr (fun t ht hW => ⟨⟨_, (), rfl, rfl, zPost.of hP hD hK ht hW [3, 4, 0, 1, 2] rfl rfl rfl⟩, hS.F ht⟩) hS.2.2 dX3_bestOfTeam_70
    have L22 : ∀ (n : Nat) (v4_22 : Int32) (v5_22 : Int32) (H : Heap) (locs : List Loc) (ls : Array Slot), fX3_bestOfTeam_L22 N x3 t_times_r1 (fun (v4_22 : Int32) (v5_22 : Int32) => some (v4_22, t_times_r1)) n v4_22 v5_22 = some (r0, t_times') → va_P D vwCl [(a_p1, .inr (4, [.ref a_p1_way, .ref a_p1_guns, .ref a_p1_runners])), (a_p1_runners, .inr (6, [.ref a_p1_runners_facts, .ref a_p1_runners_splits, .ref a_p1_runners_torn, .ref a_p1_runners_dropped, .ref a_p1_runners_waved, .ref a_p1_runners_struck, .ref a_p1_runners_strikingOrder, .int p1_runners_entered, .int p1_runners_strikings])), (a_p1_runners_facts, .inl (cI, 360, .inl p1_runners_facts)), (a_t, .inr (3, [.ref a_t_reading, .ref a_t_times])), (a_t_times, .inl (cI, 60, .inl t_times_r1))] H → va_D A [(a_p1, .inr (4, [.ref a_p1_way, .ref a_p1_guns, .ref a_p1_runners])), (a_p1_runners, .inr (6, [.ref a_p1_runners_facts, .ref a_p1_runners_splits, .ref a_p1_runners_torn, .ref a_p1_runners_dropped, .ref a_p1_runners_waved, .ref a_p1_runners_struck, .ref a_p1_runners_strikingOrder, .int p1_runners_entered, .int p1_runners_strikings])), (a_p1_runners_facts, .inl (cI, 360, .inl p1_runners_facts)), (a_t, .inr (3, [.ref a_t_reading, .ref a_t_times])), (a_t_times, .inl (cI, 60, .inl t_times_r1))] → va_S A s.heap H locs → lv_has ls 6 [(5, .int v5_22), (4, .int v4_22), (0, .ref a_t), (1, .ref a_p1), (2, .int x2), (3, .int x3)] → W p l e (headSpec wsX3_bestOfTeam ({ frames := 3, cells := 0, slots := 0, locals := 67 } : Room)).room s m #[Value.ref a_t, Value.ref a_p1, Value.int x2, Value.int x3] below meth c H locs 0 0 (MQ below (zQi r0 D (zT cB cI cZ) [(a_t, .inr (3, [.ref a_t_reading, .ref a_t_times])), (a_t_times, .inl (cI, 60, .inl t_times')), (a_p1, .inr (4, [.ref a_p1_way, .ref a_p1_guns, .ref a_p1_runners])), (a_p1_runners, .inr (6, [.ref a_p1_runners_facts, .ref a_p1_runners_splits, .ref a_p1_runners_torn, .ref a_p1_runners_dropped, .ref a_p1_runners_waved, .ref a_p1_runners_struck, .ref a_p1_runners_strikingOrder, .int p1_runners_entered, .int p1_runners_strikings])), (a_p1_runners_facts, .inl (cI, 360, .inl p1_runners_facts))] A) #[Value.ref a_t, Value.ref a_p1, Value.int x2, Value.int x3] s 0 0 A) (F0 m 22 ls []) := by
      intro n
      induction n with
      | zero => intro _ _ H locs ls h hP hD hS hl; cases h
      | succ n22 ih22 =>
        intro v4_22 v5_22 H locs ls h hP hD hS hl
        rw [fX3_bestOfTeam_L22.eq_2] at h
        refine lv_iload hx hb dX3_bestOfTeam_22 (lv_at hl 0 rfl) ?_
        refine lv_bipush (v := (nI 60)) hx hb dX3_bestOfTeam_24 rfl ?_
        refine lv_icmp_ge (tgt := 68) hx hb dX3_bestOfTeam_26 (by decide) (fun c6 => ?_) (fun c6 => ?_)
        · have h := zz_t h c6
          exact X22_68 v4_22 v5_22 _ _ _ h (hP.sub [0, 1, 2, 3, 4] rfl) (hD.sub [0, 1, 2, 3, 4] rfl rfl) hS (lv_sub hl [0, 1, 2, 3, 4, 5] rfl)
        · have h := zz_f h c6
          refine lv_aload_n hx hb dX3_bestOfTeam_29 rfl (lv_at hl 2 rfl) ?_
          refine va_get (D := D) (ci := 3) (C := RX3) (T := TX3) (N := 2) hx hb hts qX3_bestOfTeam_X3 hown hK hP 3 rfl rfl 1 (by decide) (hts _ kX3_bestOfTeam_0) (fun _ h9 => h9) rfl dX3_bestOfTeam_30 ?_
          refine lv_iload hx hb dX3_bestOfTeam_33 (lv_at hl 0 rfl) ?_
          obtain ⟨i7, h⟩ := zz_i h
          refine va_iald hx hb hK hP 4 1 rfl rfl i7 dX3_bestOfTeam_35 ?_
          refine lv_iconst (v := (-1 : Int32)) hx hb dX3_bestOfTeam_36 rfl ?_
          refine lv_icmp_eq (tgt := 62) hx hb dX3_bestOfTeam_37 (by decide) (fun c8 => ?_) (fun c8 => ?_)
          · have h := zz_t h c8
            refine lv_iinc (v := (v5_22 + (nI 1))) (lv' := [(5, .int (v5_22 + (nI 1))), (4, .int v4_22), (0, .ref a_t), (1, .ref a_p1), (2, .int x2), (3, .int x3)]) hx hb dX3_bestOfTeam_62 hl (k := 0) rfl rfl (by decide) rfl (fun ls hl => ?_)
            refine lv_goto (tgt := 22) hx hb dX3_bestOfTeam_65 (by decide) ?_
            exact ih22 v4_22 (v5_22 + (nI 1)) _ _ _ h (hP.sub [0, 1, 2, 3, 4] rfl) (hD.sub [0, 1, 2, 3, 4] rfl rfl) hS (lv_sub hl [0, 1, 2, 3, 4, 5] rfl)
          · have h := zz_f h c8
            refine lv_aload_n hx hb dX3_bestOfTeam_40 rfl (lv_at hl 2 rfl) ?_
            refine lv_iload hx hb dX3_bestOfTeam_41 (lv_at hl 0 rfl) ?_
            obtain ⟨r9, e10, h⟩ := zz_b h
            refine zVi (As := [.int v5_22]) (rest := []) (C := RX3) (wr := [(a_p1, .inr (4, [.ref a_p1_way, .ref a_p1_guns, .ref a_p1_runners])), (a_p1_runners, .inr (6, [.ref a_p1_runners_facts, .ref a_p1_runners_splits, .ref a_p1_runners_torn, .ref a_p1_runners_dropped, .ref a_p1_runners_waved, .ref a_p1_runners_struck, .ref a_p1_runners_strikingOrder, .int p1_runners_entered, .int p1_runners_strikings])), (a_p1_runners_facts, .inl (cI, 360, .inl p1_runners_facts))]) [3, 4] [0, 1, 2] 0 ⟨hx, hb, hml, hown, hts⟩ (mX3_indexOf l D cB cI cZ a_t a_t_reading a_t_times t_times_r1 H.size v5_22 N r9 e10) (cwV 1 hts gX3_bestOfTeam_X3_indexOf rfl rfl rfl (by decide +kernel) ⟨Nat.le_of_ble_eq_true rfl, Nat.le_of_ble_eq_true rfl⟩) hK hN hZ hP hD hS hA rfl rfl rfl rfl rfl rfl rfl rfl hl.1 rfl (lv_room (Nat.le_of_ble_eq_true rfl)) dX3_bestOfTeam_43 ⟨Nat.le_of_ble_eq_true rfl, Nat.le_of_ble_eq_true rfl⟩ (fun H locs hP hD hS => ?_)
            have hP : va_P D vwCl [(a_p1, .inr (4, [.ref a_p1_way, .ref a_p1_guns, .ref a_p1_runners])), (a_p1_runners, .inr (6, [.ref a_p1_runners_facts, .ref a_p1_runners_splits, .ref a_p1_runners_torn, .ref a_p1_runners_dropped, .ref a_p1_runners_waved, .ref a_p1_runners_struck, .ref a_p1_runners_strikingOrder, .int p1_runners_entered, .int p1_runners_strikings])), (a_p1_runners_facts, .inl (cI, 360, .inl p1_runners_facts)), (a_t, .inr (3, [.ref a_t_reading, .ref a_t_times])), (a_t_times, .inl (cI, 60, .inl t_times_r1))] H := hP
            have hD : va_D A [(a_p1, .inr (4, [.ref a_p1_way, .ref a_p1_guns, .ref a_p1_runners])), (a_p1_runners, .inr (6, [.ref a_p1_runners_facts, .ref a_p1_runners_splits, .ref a_p1_runners_torn, .ref a_p1_runners_dropped, .ref a_p1_runners_waved, .ref a_p1_runners_struck, .ref a_p1_runners_strikingOrder, .int p1_runners_entered, .int p1_runners_strikings])), (a_p1_runners_facts, .inl (cI, 360, .inl p1_runners_facts)), (a_t, .inr (3, [.ref a_t_reading, .ref a_t_times])), (a_t_times, .inl (cI, 60, .inl t_times_r1))] := hD
            refine lv_iload_n hx hb dX3_bestOfTeam_46 rfl (lv_at hl 5 rfl) ?_
            refine lv_icmp_ge (tgt := 62) hx hb dX3_bestOfTeam_47 (by decide) (fun c11 => ?_) (fun c11 => ?_)
            · have h := zz_t h c11
              refine lv_iinc (v := (v5_22 + (nI 1))) (lv' := [(5, .int (v5_22 + (nI 1))), (4, .int v4_22), (0, .ref a_t), (1, .ref a_p1), (2, .int x2), (3, .int x3)]) hx hb dX3_bestOfTeam_62 hl (k := 0) rfl rfl (by decide) rfl (fun ls hl => ?_)
              refine lv_goto (tgt := 22) hx hb dX3_bestOfTeam_65 (by decide) ?_
              exact ih22 v4_22 (v5_22 + (nI 1)) _ _ _ h (hP.sub [0, 1, 2, 3, 4] rfl) (hD.sub [0, 1, 2, 3, 4] rfl rfl) hS (lv_sub hl [0, 1, 2, 3, 4, 5] rfl)
            · have h := zz_f h c11
              refine lv_iload hx hb dX3_bestOfTeam_50 (lv_at hl 1 rfl) ?_
              refine lv_aload_n hx hb dX3_bestOfTeam_52 rfl (lv_at hl 2 rfl) ?_
              refine va_get (D := D) (ci := 3) (C := RX3) (T := TX3) (N := 2) hx hb hts qX3_bestOfTeam_X3 hown hK hP 3 rfl rfl 1 (by decide) (hts _ kX3_bestOfTeam_0) (fun _ h9 => h9) rfl dX3_bestOfTeam_53 ?_
              refine lv_iload hx hb dX3_bestOfTeam_56 (lv_at hl 0 rfl) ?_
              obtain ⟨i12, h⟩ := zz_i h
              refine va_iald hx hb hK hP 4 1 rfl rfl i12 dX3_bestOfTeam_58 ?_
              refine lv_iadd hx hb dX3_bestOfTeam_59 ?_
              refine lv_istore (lv' := [(4, .int (v4_22 + (t_times_r1 (v5_22).toNatClampNeg))), (5, .int v5_22), (0, .ref a_t), (1, .ref a_p1), (2, .int x2), (3, .int x3)]) hx hb dX3_bestOfTeam_60 hl (by decide) rfl (fun ls hl => ?_)
              refine lv_iinc (v := (v5_22 + (nI 1))) (lv' := [(5, .int (v5_22 + (nI 1))), (4, .int (v4_22 + (t_times_r1 (v5_22).toNatClampNeg))), (0, .ref a_t), (1, .ref a_p1), (2, .int x2), (3, .int x3)]) hx hb dX3_bestOfTeam_62 hl (k := 1) rfl rfl (by decide) rfl (fun ls hl => ?_)
              refine lv_goto (tgt := 22) hx hb dX3_bestOfTeam_65 (by decide) ?_
              exact ih22 (v4_22 + (t_times_r1 (v5_22).toNatClampNeg)) (v5_22 + (nI 1)) _ _ _ h (hP.sub [0, 1, 2, 3, 4] rfl) (hD.sub [0, 1, 2, 3, 4] rfl rfl) hS (lv_sub hl [0, 1, 2, 3, 4, 5] rfl)
    exact L22 N (nI 0) (nI 0) _ _ _ h hP hD hS hl
  · have h := zz_f h c5
    refine lv_iconst (v := (-1 : Int32)) hx hb dX3_bestOfTeam_14 rfl ?_
    obtain ⟨j0_, g_⟩ := Prod.mk.inj (Option.some.inj h)
    have j1_ := g_
    subst j0_
    subst j1_
    exact W.iret (v := (-1 : Int32)) hx hb hr (fun t ht hW => ⟨⟨_, (), rfl, rfl, zPost.of hP hD hK ht hW [3, 4, 0, 1, 2] rfl rfl rfl⟩, hS.F ht⟩) hS.2.2 dX3_bestOfTeam_15
/-! RunDesk$Way.clear -/
theorem dX9_clear_0 : decode cX9_clear 0 = .ok (.aload_n 0, 1) := by decide +kernel
theorem dX9_clear_1 : decode cX9_clear 1 = .ok (.iconst 0, 1) := by decide +kernel
theorem dX9_clear_2 : decode cX9_clear 2 = .ok (.putfield 25, 3) := by decide +kernel
theorem dX9_clear_5 : decode cX9_clear 5 = .ok (.return_, 1) := by decide +kernel
theorem kX9_clear_0 : (.fieldLink RX9 25 "RunDesk$Way" "mats" "I" : Cond) ∈ wsX9_clear := List.mem_of_getElem? (i := 1) (by decide +kernel)
theorem qX9_clear_X9 : ∀ w ∈ wsX90, w ∈ wsX9_clear := fun _ h => List.mem_cons_of_mem _ (List.mem_append_right _ (h))
set_option maxHeartbeats 4000000 in
set_option maxRecDepth 100000 in
theorem mX9_clear (l : Launch) (D : va_G) (cB cI cZ : ClassId) (a_t : Nat) (a_t_places : Nat) (a_t_bearings : Nat) (a_t_cuts : Nat) (a_t_deaths : Nat) (t_mats : Int32) (sz : Nat) (t_mats' : Int32) (h : fX9_clear t_mats = some (t_mats')) : Met l yX9_clear wsX9_clear ({ frames := 0, cells := 0, slots := 0, locals := 0 } : Room) (va_Pc [.ref a_t] (zPre D (zT cB cI cZ) [(a_t, .inr (9, [.ref a_t_places, .ref a_t_bearings, .ref a_t_cuts, .ref a_t_deaths, .int t_mats]))] sz)) (zQv D (zT cB cI cZ) [(a_t, .inr (9, [.ref a_t_places, .ref a_t_bearings, .ref a_t_cuts, .ref a_t_deaths, .int t_mats']))] (va_A [(a_t, .inr (9, [.ref a_t_places, .ref a_t_bearings, .ref a_t_cuts, .ref a_t_deaths, .int t_mats]))] sz)) 0 0 (va_A [(a_t, .inr (9, [.ref a_t_places, .ref a_t_bearings, .ref a_t_cuts, .ref a_t_deaths, .int t_mats]))] sz) := by
  refine Met.ofW (cc := cX9_clear) (maxL := 1) (ret := none) (by decide) rfl ?_
  intro p e s m args below meth c s₁ B hml hv
  obtain ⟨rfl, hsz, hP, hK, hN, hZ, hD0⟩ := hv
  have hx := B.exec
  have hb := B.bytes
  have hr := B.returns
  have hts := atoms_spec (ws := wsX9_clear) B.pre
  have hown : s.vm.findClass RX9 = some m.cls := findClass_of_methodNamed B.named
  have hlocks := B.notSynchronized
  subst hsz
  have hD := hD0.self (sz := s.heap.size)
  generalize hAe : va_A [(a_t, .inr (9, [.ref a_t_places, .ref a_t_bearings, .ref a_t_cuts, .ref a_t_deaths, .int t_mats]))] s.heap.size = A at hD hZ ⊢
  have hA : ∀ q : Nat, s.heap.size ≤ q → A q := fun q h => by rw [← hAe]; exact Or.inr h
  have hS : va_S A s.heap s.heap [] := va_S.rf
  have hl := lv_entry ([.ref a_t]) (n := 1) (Nat.le_of_ble_eq_true rfl)
  rw [lg_entry_eq]
  generalize (lg_sl ([.ref a_t]) ++ List.replicate (1 - (lg_sl ([.ref a_t])).length) Slot.unset).toArray = ls at hl ⊢
  have hl : lv_has ls 1 [(0, .ref a_t)] := hl
  unfold fX9_clear at h
  refine lv_aload_n hx hb dX9_clear_0 rfl (lv_at hl 0 rfl) ?_
  refine lv_iconst (v := (nI 0)) hx hb dX9_clear_1 rfl ?_
  refine va_put (D := D) (ci := 9) (ty := .int) (C := RX9) (T := TX9) (N := 5) hx hb hts qX9_clear_X9 tyX9 tyX9_ok nmX9 hown hK hP hD hS 0 rfl rfl 4 (by decide) (hts _ kX9_clear_0) (fun _ h9 => h9) rfl (by decide +kernel) rfl (by first | rfl | exact zz_fit) (Nat.le_of_ble_eq_true rfl) dX9_clear_2 (fun H locs hP hD hS => ?_)
  have hP : va_P D vwCl [(a_t, .inr (9, [.ref a_t_places, .ref a_t_bearings, .ref a_t_cuts, .ref a_t_deaths, .int (nI 0)]))] H := hP
  have hD : va_D A [(a_t, .inr (9, [.ref a_t_places, .ref a_t_bearings, .ref a_t_cuts, .ref a_t_deaths, .int (nI 0)]))] := hD
  have j0_ := Option.some.inj h
  subst j0_
  exact W.vret hx hb hr (fun t ht hW => ⟨⟨(), rfl, trivial, zPost.of hP hD hK ht hW [0] rfl rfl rfl⟩, hS.F ht⟩) hS.2.2 dX9_clear_5
/-! RunDesk$Runners.clear -/
theorem dX6_clear_0 : decode cX6_clear 0 = .ok (.aload_n 0, 1) := by decide +kernel
theorem dX6_clear_1 : decode cX6_clear 1 = .ok (.iconst 0, 1) := by decide +kernel
theorem dX6_clear_2 : decode cX6_clear 2 = .ok (.putfield 34, 3) := by decide +kernel
theorem dX6_clear_5 : decode cX6_clear 5 = .ok (.aload_n 0, 1) := by decide +kernel
theorem dX6_clear_6 : decode cX6_clear 6 = .ok (.iconst 0, 1) := by decide +kernel
theorem dX6_clear_7 : decode cX6_clear 7 = .ok (.putfield 38, 3) := by decide +kernel
theorem dX6_clear_10 : decode cX6_clear 10 = .ok (.return_, 1) := by decide +kernel
theorem kX6_clear_0 : (.fieldLink RX6 34 "RunDesk$Runners" "entered" "I" : Cond) ∈ wsX6_clear := List.mem_of_getElem? (i := 1) (by decide +kernel)
theorem qX6_clear_X6 : ∀ w ∈ wsX60, w ∈ wsX6_clear := fun _ h => List.mem_cons_of_mem _ (List.mem_append_right _ (h))
theorem kX6_clear_2 : (.fieldLink RX6 38 "RunDesk$Runners" "strikings" "I" : Cond) ∈ wsX6_clear := List.mem_of_getElem? (i := 2) (by decide +kernel)
set_option maxHeartbeats 4000000 in
set_option maxRecDepth 100000 in
theorem mX6_clear (l : Launch) (D : va_G) (cB cI cZ : ClassId) (a_t : Nat) (a_t_facts : Nat) (a_t_splits : Nat) (a_t_torn : Nat) (a_t_dropped : Nat) (a_t_waved : Nat) (a_t_struck : Nat) (a_t_strikingOrder : Nat) (t_entered : Int32) (t_strikings : Int32) (sz : Nat) (t_entered' : Int32) (t_strikings' : Int32) (h : fX6_clear t_entered t_strikings = some (t_entered', t_strikings')) : Met l yX6_clear wsX6_clear ({ frames := 0, cells := 0, slots := 0, locals := 0 } : Room) (va_Pc [.ref a_t] (zPre D (zT cB cI cZ) [(a_t, .inr (6, [.ref a_t_facts, .ref a_t_splits, .ref a_t_torn, .ref a_t_dropped, .ref a_t_waved, .ref a_t_struck, .ref a_t_strikingOrder, .int t_entered, .int t_strikings]))] sz)) (zQv D (zT cB cI cZ) [(a_t, .inr (6, [.ref a_t_facts, .ref a_t_splits, .ref a_t_torn, .ref a_t_dropped, .ref a_t_waved, .ref a_t_struck, .ref a_t_strikingOrder, .int t_entered', .int t_strikings']))] (va_A [(a_t, .inr (6, [.ref a_t_facts, .ref a_t_splits, .ref a_t_torn, .ref a_t_dropped, .ref a_t_waved, .ref a_t_struck, .ref a_t_strikingOrder, .int t_entered, .int t_strikings]))] sz)) 0 0 (va_A [(a_t, .inr (6, [.ref a_t_facts, .ref a_t_splits, .ref a_t_torn, .ref a_t_dropped, .ref a_t_waved, .ref a_t_struck, .ref a_t_strikingOrder, .int t_entered, .int t_strikings]))] sz) := by
  refine Met.ofW (cc := cX6_clear) (maxL := 1) (ret := none) (by decide) rfl ?_
  intro p e s m args below meth c s₁ B hml hv
  obtain ⟨rfl, hsz, hP, hK, hN, hZ, hD0⟩ := hv
  have hx := B.exec
  have hb := B.bytes
  have hr := B.returns
  have hts := atoms_spec (ws := wsX6_clear) B.pre
  have hown : s.vm.findClass RX6 = some m.cls := findClass_of_methodNamed B.named
  have hlocks := B.notSynchronized
  subst hsz
  have hD := hD0.self (sz := s.heap.size)
  generalize hAe : va_A [(a_t, .inr (6, [.ref a_t_facts, .ref a_t_splits, .ref a_t_torn, .ref a_t_dropped, .ref a_t_waved, .ref a_t_struck, .ref a_t_strikingOrder, .int t_entered, .int t_strikings]))] s.heap.size = A at hD hZ ⊢
  have hA : ∀ q : Nat, s.heap.size ≤ q → A q := fun q h => by rw [← hAe]; exact Or.inr h
  have hS : va_S A s.heap s.heap [] := va_S.rf
  have hl := lv_entry ([.ref a_t]) (n := 1) (Nat.le_of_ble_eq_true rfl)
  rw [lg_entry_eq]
  generalize (lg_sl ([.ref a_t]) ++ List.replicate (1 - (lg_sl ([.ref a_t])).length) Slot.unset).toArray = ls at hl ⊢
  have hl : lv_has ls 1 [(0, .ref a_t)] := hl
  unfold fX6_clear at h
  refine lv_aload_n hx hb dX6_clear_0 rfl (lv_at hl 0 rfl) ?_
  refine lv_iconst (v := (nI 0)) hx hb dX6_clear_1 rfl ?_
  refine va_put (D := D) (ci := 6) (ty := .int) (C := RX6) (T := TX6) (N := 9) hx hb hts qX6_clear_X6 tyX6 tyX6_ok nmX6 hown hK hP hD hS 0 rfl rfl 7 (by decide) (hts _ kX6_clear_0) (fun _ h9 => h9) rfl (by decide +kernel) rfl (by first | rfl | exact zz_fit) (Nat.le_of_ble_eq_true rfl) dX6_clear_2 (fun H locs hP hD hS => ?_)
  have hP : va_P D vwCl [(a_t, .inr (6, [.ref a_t_facts, .ref a_t_splits, .ref a_t_torn, .ref a_t_dropped, .ref a_t_waved, .ref a_t_struck, .ref a_t_strikingOrder, .int (nI 0), .int t_strikings]))] H := hP
  have hD : va_D A [(a_t, .inr (6, [.ref a_t_facts, .ref a_t_splits, .ref a_t_torn, .ref a_t_dropped, .ref a_t_waved, .ref a_t_struck, .ref a_t_strikingOrder, .int (nI 0), .int t_strikings]))] := hD
  refine lv_aload_n hx hb dX6_clear_5 rfl (lv_at hl 0 rfl) ?_
  refine lv_iconst (v := (nI 0)) hx hb dX6_clear_6 rfl ?_
  refine va_put (D := D) (ci := 6) (ty := .int) (C := RX6) (T := TX6) (N := 9) hx hb hts qX6_clear_X6 tyX6 tyX6_ok nmX6 hown hK hP hD hS 0 rfl rfl 8 (by decide) (hts _ kX6_clear_2) (fun _ h9 => h9) rfl (by decide +kernel) rfl (by first | rfl | exact zz_fit) (Nat.le_of_ble_eq_true rfl) dX6_clear_7 (fun H locs hP hD hS => ?_)
  have hP : va_P D vwCl [(a_t, .inr (6, [.ref a_t_facts, .ref a_t_splits, .ref a_t_torn, .ref a_t_dropped, .ref a_t_waved, .ref a_t_struck, .ref a_t_strikingOrder, .int (nI 0), .int (nI 0)]))] H := hP
  have hD : va_D A [(a_t, .inr (6, [.ref a_t_facts, .ref a_t_splits, .ref a_t_torn, .ref a_t_dropped, .ref a_t_waved, .ref a_t_struck, .ref a_t_strikingOrder, .int (nI 0), .int (nI 0)]))] := hD
  obtain ⟨j0_, g_⟩ := Prod.mk.inj (Option.some.inj h)
  have j1_ := g_
  subst j0_
  subst j1_
  exact W.vret hx hb hr (fun t ht hW => ⟨⟨(), rfl, trivial, zPost.of hP hD hK ht hW [0] rfl rfl rfl⟩, hS.F ht⟩) hS.2.2 dX6_clear_10
/-! RunDesk$Way.append -/
theorem dX9_append_0 : decode cX9_append 0 = .ok (.aload_n 0, 1) := by decide +kernel
theorem dX9_append_1 : decode cX9_append 1 = .ok (.getfield 25, 3) := by decide +kernel
theorem dX9_append_4 : decode cX9_append 4 = .ok (.ifCond .lt 12, 3) := by decide +kernel
theorem dX9_append_7 : decode cX9_append 7 = .ok (.aload_n 0, 1) := by decide +kernel
theorem dX9_append_8 : decode cX9_append 8 = .ok (.getfield 25, 3) := by decide +kernel
theorem dX9_append_11 : decode cX9_append 11 = .ok (.bipush 12, 2) := by decide +kernel
theorem dX9_append_13 : decode cX9_append 13 = .ok (.if_icmp .lt 5, 3) := by decide +kernel
theorem dX9_append_16 : decode cX9_append 16 = .ok (.iconst (-1), 1) := by decide +kernel
theorem dX9_append_17 : decode cX9_append 17 = .ok (.ireturn, 1) := by decide +kernel
theorem dX9_append_18 : decode cX9_append 18 = .ok (.aload_n 0, 1) := by decide +kernel
theorem dX9_append_19 : decode cX9_append 19 = .ok (.getfield 9, 3) := by decide +kernel
theorem dX9_append_22 : decode cX9_append 22 = .ok (.aload_n 0, 1) := by decide +kernel
theorem dX9_append_23 : decode cX9_append 23 = .ok (.getfield 25, 3) := by decide +kernel
theorem dX9_append_26 : decode cX9_append 26 = .ok (.iload_n 1, 1) := by decide +kernel
theorem dX9_append_27 : decode cX9_append 27 = .ok (.iastore, 1) := by decide +kernel
theorem dX9_append_28 : decode cX9_append 28 = .ok (.aload_n 0, 1) := by decide +kernel
theorem dX9_append_29 : decode cX9_append 29 = .ok (.getfield 15, 3) := by decide +kernel
theorem dX9_append_32 : decode cX9_append 32 = .ok (.aload_n 0, 1) := by decide +kernel
theorem dX9_append_33 : decode cX9_append 33 = .ok (.getfield 25, 3) := by decide +kernel
theorem dX9_append_36 : decode cX9_append 36 = .ok (.iload_n 2, 1) := by decide +kernel
theorem dX9_append_37 : decode cX9_append 37 = .ok (.iastore, 1) := by decide +kernel
theorem dX9_append_38 : decode cX9_append 38 = .ok (.aload_n 0, 1) := by decide +kernel
theorem dX9_append_39 : decode cX9_append 39 = .ok (.getfield 18, 3) := by decide +kernel
theorem dX9_append_42 : decode cX9_append 42 = .ok (.aload_n 0, 1) := by decide +kernel
theorem dX9_append_43 : decode cX9_append 43 = .ok (.getfield 25, 3) := by decide +kernel
theorem dX9_append_46 : decode cX9_append 46 = .ok (.iconst (-1), 1) := by decide +kernel
theorem dX9_append_47 : decode cX9_append 47 = .ok (.iastore, 1) := by decide +kernel
theorem dX9_append_48 : decode cX9_append 48 = .ok (.aload_n 0, 1) := by decide +kernel
theorem dX9_append_49 : decode cX9_append 49 = .ok (.getfield 21, 3) := by decide +kernel
theorem dX9_append_52 : decode cX9_append 52 = .ok (.aload_n 0, 1) := by decide +kernel
theorem dX9_append_53 : decode cX9_append 53 = .ok (.getfield 25, 3) := by decide +kernel
theorem dX9_append_56 : decode cX9_append 56 = .ok (.iconst 0, 1) := by decide +kernel
theorem dX9_append_57 : decode cX9_append 57 = .ok (.bastore, 1) := by decide +kernel
theorem dX9_append_58 : decode cX9_append 58 = .ok (.aload_n 0, 1) := by decide +kernel
theorem dX9_append_59 : decode cX9_append 59 = .ok (.dup, 1) := by decide +kernel
theorem dX9_append_60 : decode cX9_append 60 = .ok (.getfield 25, 3) := by decide +kernel
theorem dX9_append_63 : decode cX9_append 63 = .ok (.iconst 1, 1) := by decide +kernel
theorem dX9_append_64 : decode cX9_append 64 = .ok (.iadd, 1) := by decide +kernel
theorem dX9_append_65 : decode cX9_append 65 = .ok (.putfield 25, 3) := by decide +kernel
theorem dX9_append_68 : decode cX9_append 68 = .ok (.aload_n 0, 1) := by decide +kernel
theorem dX9_append_69 : decode cX9_append 69 = .ok (.getfield 25, 3) := by decide +kernel
theorem dX9_append_72 : decode cX9_append 72 = .ok (.iconst 1, 1) := by decide +kernel
theorem dX9_append_73 : decode cX9_append 73 = .ok (.isub, 1) := by decide +kernel
theorem dX9_append_74 : decode cX9_append 74 = .ok (.ireturn, 1) := by decide +kernel
theorem kX9_append_0 : (.fieldLink RX9 25 "RunDesk$Way" "mats" "I" : Cond) ∈ wsX9_append := List.mem_of_getElem? (i := 1) (by decide +kernel)
theorem qX9_append_X9 : ∀ w ∈ wsX90, w ∈ wsX9_append := fun _ h => List.mem_cons_of_mem _ (List.mem_append_right _ (h))
theorem kX9_append_2 : (.fieldLink RX9 9 "RunDesk$Way" "places" "[I" : Cond) ∈ wsX9_append := List.mem_of_getElem? (i := 2) (by decide +kernel)
theorem kX9_append_3 : (.fieldLink RX9 15 "RunDesk$Way" "bearings" "[I" : Cond) ∈ wsX9_append := List.mem_of_getElem? (i := 3) (by decide +kernel)
theorem kX9_append_4 : (.fieldLink RX9 18 "RunDesk$Way" "cuts" "[I" : Cond) ∈ wsX9_append := List.mem_of_getElem? (i := 4) (by decide +kernel)
theorem kX9_append_5 : (.fieldLink RX9 21 "RunDesk$Way" "deaths" "[Z" : Cond) ∈ wsX9_append := List.mem_of_getElem? (i := 5) (by decide +kernel)
set_option maxHeartbeats 4000000 in
set_option maxRecDepth 100000 in
theorem mX9_append (l : Launch) (D : va_G) (cB cI cZ : ClassId) (a_t : Nat) (a_t_places : Nat) (a_t_bearings : Nat) (a_t_cuts : Nat) (a_t_deaths : Nat) (t_mats : Int32) (t_bearings : Nat → Int32) (t_cuts : Nat → Int32) (t_deaths : Nat → Int32) (t_places : Nat → Int32) (sz : Nat) (x1 : Int32) (x2 : Int32) (r0 : Int32) (t_mats' : Int32) (t_bearings' : Nat → Int32) (t_cuts' : Nat → Int32) (t_deaths' : Nat → Int32) (t_places' : Nat → Int32) (h : fX9_append t_mats t_bearings t_cuts t_deaths t_places x1 x2 = some (r0, t_mats', t_bearings', t_cuts', t_deaths', t_places')) : Met l yX9_append wsX9_append ({ frames := 0, cells := 0, slots := 0, locals := 0 } : Room) (va_Pc [.ref a_t, .int x1, .int x2] (zPre D (zT cB cI cZ) [(a_t, .inr (9, [.ref a_t_places, .ref a_t_bearings, .ref a_t_cuts, .ref a_t_deaths, .int t_mats])), (a_t_bearings, .inl (cI, 12, .inl t_bearings)), (a_t_cuts, .inl (cI, 12, .inl t_cuts)), (a_t_deaths, .inl (cZ, 12, .inl t_deaths)), (a_t_places, .inl (cI, 12, .inl t_places))] sz)) (zQi r0 D (zT cB cI cZ) [(a_t, .inr (9, [.ref a_t_places, .ref a_t_bearings, .ref a_t_cuts, .ref a_t_deaths, .int t_mats'])), (a_t_bearings, .inl (cI, 12, .inl t_bearings')), (a_t_cuts, .inl (cI, 12, .inl t_cuts')), (a_t_deaths, .inl (cZ, 12, .inl t_deaths')), (a_t_places, .inl (cI, 12, .inl t_places'))] (va_A [(a_t, .inr (9, [.ref a_t_places, .ref a_t_bearings, .ref a_t_cuts, .ref a_t_deaths, .int t_mats])), (a_t_bearings, .inl (cI, 12, .inl t_bearings)), (a_t_cuts, .inl (cI, 12, .inl t_cuts)), (a_t_deaths, .inl (cZ, 12, .inl t_deaths)), (a_t_places, .inl (cI, 12, .inl t_places))] sz)) 0 0 (va_A [(a_t, .inr (9, [.ref a_t_places, .ref a_t_bearings, .ref a_t_cuts, .ref a_t_deaths, .int t_mats])), (a_t_bearings, .inl (cI, 12, .inl t_bearings)), (a_t_cuts, .inl (cI, 12, .inl t_cuts)), (a_t_deaths, .inl (cZ, 12, .inl t_deaths)), (a_t_places, .inl (cI, 12, .inl t_places))] sz) := by
  refine Met.ofW (cc := cX9_append) (maxL := 3) (ret := (some .int)) (by decide) rfl ?_
  intro p e s m args below meth c s₁ B hml hv
  obtain ⟨rfl, hsz, hP, hK, hN, hZ, hD0⟩ := hv
  have hx := B.exec
  have hb := B.bytes
  have hr := B.returns
  have hts := atoms_spec (ws := wsX9_append) B.pre
  have hown : s.vm.findClass RX9 = some m.cls := findClass_of_methodNamed B.named
  have hlocks := B.notSynchronized
  subst hsz
  have hD := hD0.self (sz := s.heap.size)
  generalize hAe : va_A [(a_t, .inr (9, [.ref a_t_places, .ref a_t_bearings, .ref a_t_cuts, .ref a_t_deaths, .int t_mats])), (a_t_bearings, .inl (cI, 12, .inl t_bearings)), (a_t_cuts, .inl (cI, 12, .inl t_cuts)), (a_t_deaths, .inl (cZ, 12, .inl t_deaths)), (a_t_places, .inl (cI, 12, .inl t_places))] s.heap.size = A at hD hZ ⊢
  have hA : ∀ q : Nat, s.heap.size ≤ q → A q := fun q h => by rw [← hAe]; exact Or.inr h
  have hS : va_S A s.heap s.heap [] := va_S.rf
  have hl := lv_entry ([.ref a_t, .int x1, .int x2]) (n := 3) (Nat.le_of_ble_eq_true rfl)
  rw [lg_entry_eq]
  generalize (lg_sl ([.ref a_t, .int x1, .int x2]) ++ List.replicate (3 - (lg_sl ([.ref a_t, .int x1, .int x2])).length) Slot.unset).toArray = ls at hl ⊢
  have hl : lv_has ls 3 [(0, .ref a_t), (1, .int x1), (2, .int x2)] := hl
  unfold fX9_append at h
  refine lv_aload_n hx hb dX9_append_0 rfl (lv_at hl 0 rfl) ?_
  refine va_get (D := D) (ci := 9) (C := RX9) (T := TX9) (N := 5) hx hb hts qX9_append_X9 hown hK hP 0 rfl rfl 4 (by decide) (hts _ kX9_append_0) (fun _ h9 => h9) rfl dX9_append_1 ?_
  refine lv_if_lt (tgt := 16) hx hb dX9_append_4 (by decide) (fun c1 => ?_) (fun c1 => ?_)
  · have h := zz_t h c1
    refine lv_iconst (v := (-1 : Int32)) hx hb dX9_append_16 rfl ?_
    obtain ⟨j0_, g_⟩ := Prod.mk.inj (Option.some.inj h)
    obtain ⟨j1_, g_⟩ := Prod.mk.inj g_
    obtain ⟨j2_, g_⟩ := Prod.mk.inj g_
    obtain ⟨j3_, g_⟩ := Prod.mk.inj g_
    obtain ⟨j4_, g_⟩ := Prod.mk.inj g_
    have j5_ := g_
    subst j0_
    subst j1_
    subst j2_
    subst j3_
    subst j4_
    subst j5_
    exact W.iret (v := (-1 : Int32)) hx hb hr (fun t ht hW => ⟨⟨_, (), rfl, rfl, zPost.of hP hD hK ht hW [0, 1, 2, 3, 4] rfl rfl rfl⟩, hS.F ht⟩) hS.2.2 dX9_append_17
  · have h := zz_f h c1
    refine lv_aload_n hx hb dX9_append_7 rfl (lv_at hl 0 rfl) ?_
    refine va_get (D := D) (ci := 9) (C := RX9) (T := TX9) (N := 5) hx hb hts qX9_append_X9 hown hK hP 0 rfl rfl 4 (by decide) (hts _ kX9_append_0) (fun _ h9 => h9) rfl dX9_append_8 ?_
    refine lv_bipush (v := (nI 12)) hx hb dX9_append_11 rfl ?_
    refine lv_icmp_lt (tgt := 18) hx hb dX9_append_13 (by decide) (fun c2 => ?_) (fun c2 => ?_)
    · have h := zz_t h c2
      refine lv_aload_n hx hb dX9_append_18 rfl (lv_at hl 0 rfl) ?_
      refine va_get (D := D) (ci := 9) (C := RX9) (T := TX9) (N := 5) hx hb hts qX9_append_X9 hown hK hP 0 rfl rfl 0 (by decide) (hts _ kX9_append_2) (fun _ h9 => h9) rfl dX9_append_19 ?_
      refine lv_aload_n hx hb dX9_append_22 rfl (lv_at hl 0 rfl) ?_
      refine va_get (D := D) (ci := 9) (C := RX9) (T := TX9) (N := 5) hx hb hts qX9_append_X9 hown hK hP 0 rfl rfl 4 (by decide) (hts _ kX9_append_0) (fun _ h9 => h9) rfl dX9_append_23 ?_
      refine lv_iload_n hx hb dX9_append_26 rfl (lv_at hl 1 rfl) ?_
      obtain ⟨i3, h⟩ := zz_i h
      refine va_iast hx hb hK hP hD hS 4 1 rfl rfl i3 dX9_append_27 (fun H locs hP hD hS => ?_)
      have hP : va_P D vwCl [(a_t, .inr (9, [.ref a_t_places, .ref a_t_bearings, .ref a_t_cuts, .ref a_t_deaths, .int t_mats])), (a_t_bearings, .inl (cI, 12, .inl t_bearings)), (a_t_cuts, .inl (cI, 12, .inl t_cuts)), (a_t_deaths, .inl (cZ, 12, .inl t_deaths)), (a_t_places, .inl (cI, 12, .inl (upd t_places (t_mats).toNatClampNeg x1)))] H := hP
      have hD : va_D A [(a_t, .inr (9, [.ref a_t_places, .ref a_t_bearings, .ref a_t_cuts, .ref a_t_deaths, .int t_mats])), (a_t_bearings, .inl (cI, 12, .inl t_bearings)), (a_t_cuts, .inl (cI, 12, .inl t_cuts)), (a_t_deaths, .inl (cZ, 12, .inl t_deaths)), (a_t_places, .inl (cI, 12, .inl (upd t_places (t_mats).toNatClampNeg x1)))] := hD
      refine lv_aload_n hx hb dX9_append_28 rfl (lv_at hl 0 rfl) ?_
      refine va_get (D := D) (ci := 9) (C := RX9) (T := TX9) (N := 5) hx hb hts qX9_append_X9 hown hK hP 0 rfl rfl 1 (by decide) (hts _ kX9_append_3) (fun _ h9 => h9) rfl dX9_append_29 ?_
      refine lv_aload_n hx hb dX9_append_32 rfl (lv_at hl 0 rfl) ?_
      refine va_get (D := D) (ci := 9) (C := RX9) (T := TX9) (N := 5) hx hb hts qX9_append_X9 hown hK hP 0 rfl rfl 4 (by decide) (hts _ kX9_append_0) (fun _ h9 => h9) rfl dX9_append_33 ?_
      refine lv_iload_n hx hb dX9_append_36 rfl (lv_at hl 2 rfl) ?_
      obtain ⟨i4, h⟩ := zz_i h
      refine va_iast hx hb hK hP hD hS 1 1 rfl rfl i4 dX9_append_37 (fun H locs hP hD hS => ?_)
      have hP : va_P D vwCl [(a_t, .inr (9, [.ref a_t_places, .ref a_t_bearings, .ref a_t_cuts, .ref a_t_deaths, .int t_mats])), (a_t_bearings, .inl (cI, 12, .inl (upd t_bearings (t_mats).toNatClampNeg x2))), (a_t_cuts, .inl (cI, 12, .inl t_cuts)), (a_t_deaths, .inl (cZ, 12, .inl t_deaths)), (a_t_places, .inl (cI, 12, .inl (upd t_places (t_mats).toNatClampNeg x1)))] H := hP
      have hD : va_D A [(a_t, .inr (9, [.ref a_t_places, .ref a_t_bearings, .ref a_t_cuts, .ref a_t_deaths, .int t_mats])), (a_t_bearings, .inl (cI, 12, .inl (upd t_bearings (t_mats).toNatClampNeg x2))), (a_t_cuts, .inl (cI, 12, .inl t_cuts)), (a_t_deaths, .inl (cZ, 12, .inl t_deaths)), (a_t_places, .inl (cI, 12, .inl (upd t_places (t_mats).toNatClampNeg x1)))] := hD
      refine lv_aload_n hx hb dX9_append_38 rfl (lv_at hl 0 rfl) ?_
      refine va_get (D := D) (ci := 9) (C := RX9) (T := TX9) (N := 5) hx hb hts qX9_append_X9 hown hK hP 0 rfl rfl 2 (by decide) (hts _ kX9_append_4) (fun _ h9 => h9) rfl dX9_append_39 ?_
      refine lv_aload_n hx hb dX9_append_42 rfl (lv_at hl 0 rfl) ?_
      refine va_get (D := D) (ci := 9) (C := RX9) (T := TX9) (N := 5) hx hb hts qX9_append_X9 hown hK hP 0 rfl rfl 4 (by decide) (hts _ kX9_append_0) (fun _ h9 => h9) rfl dX9_append_43 ?_
      refine lv_iconst (v := (-1 : Int32)) hx hb dX9_append_46 rfl ?_
      obtain ⟨i5, h⟩ := zz_i h
      refine va_iast hx hb hK hP hD hS 2 1 rfl rfl i5 dX9_append_47 (fun H locs hP hD hS => ?_)
      have hP : va_P D vwCl [(a_t, .inr (9, [.ref a_t_places, .ref a_t_bearings, .ref a_t_cuts, .ref a_t_deaths, .int t_mats])), (a_t_bearings, .inl (cI, 12, .inl (upd t_bearings (t_mats).toNatClampNeg x2))), (a_t_cuts, .inl (cI, 12, .inl (upd t_cuts (t_mats).toNatClampNeg (-1 : Int32)))), (a_t_deaths, .inl (cZ, 12, .inl t_deaths)), (a_t_places, .inl (cI, 12, .inl (upd t_places (t_mats).toNatClampNeg x1)))] H := hP
      have hD : va_D A [(a_t, .inr (9, [.ref a_t_places, .ref a_t_bearings, .ref a_t_cuts, .ref a_t_deaths, .int t_mats])), (a_t_bearings, .inl (cI, 12, .inl (upd t_bearings (t_mats).toNatClampNeg x2))), (a_t_cuts, .inl (cI, 12, .inl (upd t_cuts (t_mats).toNatClampNeg (-1 : Int32)))), (a_t_deaths, .inl (cZ, 12, .inl t_deaths)), (a_t_places, .inl (cI, 12, .inl (upd t_places (t_mats).toNatClampNeg x1)))] := hD
      refine lv_aload_n hx hb dX9_append_48 rfl (lv_at hl 0 rfl) ?_
      refine va_get (D := D) (ci := 9) (C := RX9) (T := TX9) (N := 5) hx hb hts qX9_append_X9 hown hK hP 0 rfl rfl 3 (by decide) (hts _ kX9_append_5) (fun _ h9 => h9) rfl dX9_append_49 ?_
      refine lv_aload_n hx hb dX9_append_52 rfl (lv_at hl 0 rfl) ?_
      refine va_get (D := D) (ci := 9) (C := RX9) (T := TX9) (N := 5) hx hb hts qX9_append_X9 hown hK hP 0 rfl rfl 4 (by decide) (hts _ kX9_append_0) (fun _ h9 => h9) rfl dX9_append_53 ?_
      refine lv_iconst (v := (nI 0)) hx hb dX9_append_56 rfl ?_
      obtain ⟨i6, h⟩ := zz_i h
      refine va_zast hx hb hK hP hD hS 3 2 rfl rfl i6 dX9_append_57 (fun H locs hP hD hS => ?_)
      have hP : va_P D vwCl [(a_t, .inr (9, [.ref a_t_places, .ref a_t_bearings, .ref a_t_cuts, .ref a_t_deaths, .int t_mats])), (a_t_bearings, .inl (cI, 12, .inl (upd t_bearings (t_mats).toNatClampNeg x2))), (a_t_cuts, .inl (cI, 12, .inl (upd t_cuts (t_mats).toNatClampNeg (-1 : Int32)))), (a_t_deaths, .inl (cZ, 12, .inl (upd t_deaths (t_mats).toNatClampNeg (vp_nar .boolean (nI 0))))), (a_t_places, .inl (cI, 12, .inl (upd t_places (t_mats).toNatClampNeg x1)))] H := hP
      have hD : va_D A [(a_t, .inr (9, [.ref a_t_places, .ref a_t_bearings, .ref a_t_cuts, .ref a_t_deaths, .int t_mats])), (a_t_bearings, .inl (cI, 12, .inl (upd t_bearings (t_mats).toNatClampNeg x2))), (a_t_cuts, .inl (cI, 12, .inl (upd t_cuts (t_mats).toNatClampNeg (-1 : Int32)))), (a_t_deaths, .inl (cZ, 12, .inl (upd t_deaths (t_mats).toNatClampNeg (vp_nar .boolean (nI 0))))), (a_t_places, .inl (cI, 12, .inl (upd t_places (t_mats).toNatClampNeg x1)))] := hD
      refine lv_aload_n hx hb dX9_append_58 rfl (lv_at hl 0 rfl) ?_
      refine lv_dup hx hb dX9_append_59 rfl ?_
      refine va_get (D := D) (ci := 9) (C := RX9) (T := TX9) (N := 5) hx hb hts qX9_append_X9 hown hK hP 0 rfl rfl 4 (by decide) (hts _ kX9_append_0) (fun _ h9 => h9) rfl dX9_append_60 ?_
      refine lv_iconst (v := (nI 1)) hx hb dX9_append_63 rfl ?_
      refine lv_iadd hx hb dX9_append_64 ?_
      refine va_put (D := D) (ci := 9) (ty := .int) (C := RX9) (T := TX9) (N := 5) hx hb hts qX9_append_X9 tyX9 tyX9_ok nmX9 hown hK hP hD hS 0 rfl rfl 4 (by decide) (hts _ kX9_append_0) (fun _ h9 => h9) rfl (by decide +kernel) rfl (by first | rfl | exact zz_fit) (Nat.le_of_ble_eq_true rfl) dX9_append_65 (fun H locs hP hD hS => ?_)
      have hP : va_P D vwCl [(a_t, .inr (9, [.ref a_t_places, .ref a_t_bearings, .ref a_t_cuts, .ref a_t_deaths, .int (t_mats + (nI 1))])), (a_t_bearings, .inl (cI, 12, .inl (upd t_bearings (t_mats).toNatClampNeg x2))), (a_t_cuts, .inl (cI, 12, .inl (upd t_cuts (t_mats).toNatClampNeg (-1 : Int32)))), (a_t_deaths, .inl (cZ, 12, .inl (upd t_deaths (t_mats).toNatClampNeg (vp_nar .boolean (nI 0))))), (a_t_places, .inl (cI, 12, .inl (upd t_places (t_mats).toNatClampNeg x1)))] H := hP
      have hD : va_D A [(a_t, .inr (9, [.ref a_t_places, .ref a_t_bearings, .ref a_t_cuts, .ref a_t_deaths, .int (t_mats + (nI 1))])), (a_t_bearings, .inl (cI, 12, .inl (upd t_bearings (t_mats).toNatClampNeg x2))), (a_t_cuts, .inl (cI, 12, .inl (upd t_cuts (t_mats).toNatClampNeg (-1 : Int32)))), (a_t_deaths, .inl (cZ, 12, .inl (upd t_deaths (t_mats).toNatClampNeg (vp_nar .boolean (nI 0))))), (a_t_places, .inl (cI, 12, .inl (upd t_places (t_mats).toNatClampNeg x1)))] := hD
      refine lv_aload_n hx hb dX9_append_68 rfl (lv_at hl 0 rfl) ?_
      refine va_get (D := D) (ci := 9) (C := RX9) (T := TX9) (N := 5) hx hb hts qX9_append_X9 hown hK hP 0 rfl rfl 4 (by decide) (hts _ kX9_append_0) (fun _ h9 => h9) rfl dX9_append_69 ?_
      refine lv_iconst (v := (nI 1)) hx hb dX9_append_72 rfl ?_
      refine lv_isub hx hb dX9_append_73 ?_
      obtain ⟨j0_, g_⟩ := Prod.mk.inj (Option.some.inj h)
      obtain ⟨j1_, g_⟩ := Prod.mk.inj g_
      obtain ⟨j2_, g_⟩ := Prod.mk.inj g_
      obtain ⟨j3_, g_⟩ := Prod.mk.inj g_
      obtain ⟨j4_, g_⟩ := Prod.mk.inj g_
      have j5_ := g_
      subst j0_
      subst j1_
      subst j2_
      subst j3_
      subst j4_
      subst j5_
      exact W.iret (v := ((t_mats + (nI 1)) - (nI 1))) hx hb hr (fun t ht hW => ⟨⟨_, (), rfl, rfl, zPost.of hP hD hK ht hW [0, 1, 2, 3, 4] rfl rfl rfl⟩, hS.F ht⟩) hS.2.2 dX9_append_74
    · have h := zz_f h c2
      refine lv_iconst (v := (-1 : Int32)) hx hb dX9_append_16 rfl ?_
      obtain ⟨j0_, g_⟩ := Prod.mk.inj (Option.some.inj h)
      obtain ⟨j1_, g_⟩ := Prod.mk.inj g_
      obtain ⟨j2_, g_⟩ := Prod.mk.inj g_
      obtain ⟨j3_, g_⟩ := Prod.mk.inj g_
      obtain ⟨j4_, g_⟩ := Prod.mk.inj g_
      have j5_ := g_
      subst j0_
      subst j1_
      subst j2_
      subst j3_
      subst j4_
      subst j5_
      exact W.iret (v := (-1 : Int32)) hx hb hr (fun t ht hW => ⟨⟨_, (), rfl, rfl, zPost.of hP hD hK ht hW [0, 1, 2, 3, 4] rfl rfl rfl⟩, hS.F ht⟩) hS.2.2 dX9_append_17
/-! RunDesk$Race.begin -/
theorem dX4_begin_0 : decode cX4_begin 0 = .ok (.aload_n 0, 1) := by decide +kernel
theorem dX4_begin_1 : decode cX4_begin 1 = .ok (.getfield 12, 3) := by decide +kernel
theorem dX4_begin_4 : decode cX4_begin 4 = .ok (.invokevirtual 32, 3) := by decide +kernel
theorem dX4_begin_7 : decode cX4_begin 7 = .ok (.aload_n 0, 1) := by decide +kernel
theorem dX4_begin_8 : decode cX4_begin 8 = .ok (.getfield 21, 3) := by decide +kernel
theorem dX4_begin_11 : decode cX4_begin 11 = .ok (.invokevirtual 35, 3) := by decide +kernel
theorem dX4_begin_14 : decode cX4_begin 14 = .ok (.aload_n 0, 1) := by decide +kernel
theorem dX4_begin_15 : decode cX4_begin 15 = .ok (.getfield 28, 3) := by decide +kernel
theorem dX4_begin_18 : decode cX4_begin 18 = .ok (.invokevirtual 36, 3) := by decide +kernel
theorem dX4_begin_21 : decode cX4_begin 21 = .ok (.aload_n 0, 1) := by decide +kernel
theorem dX4_begin_22 : decode cX4_begin 22 = .ok (.getfield 12, 3) := by decide +kernel
theorem dX4_begin_25 : decode cX4_begin 25 = .ok (.iconst 0, 1) := by decide +kernel
theorem dX4_begin_26 : decode cX4_begin 26 = .ok (.iload_n 1, 1) := by decide +kernel
theorem dX4_begin_27 : decode cX4_begin 27 = .ok (.invokevirtual 37, 3) := by decide +kernel
theorem dX4_begin_30 : decode cX4_begin 30 = .ok (.pop, 1) := by decide +kernel
theorem dX4_begin_31 : decode cX4_begin 31 = .ok (.return_, 1) := by decide +kernel
set_option maxRecDepth 20000 in
theorem ggX4_begin_X9_clear : GoodIn wsX4_begin wsX9_clear := goodIn_r _ [8, 9, 38, 39, 40, 41, 42] (by decide +kernel) (by decide +kernel)
set_option maxRecDepth 20000 in
theorem gX4_begin_X9_clear : GoodIn wsX4_begin (wsV RX4 32 RX9 yX9_clear wsX9_clear) := goodIn_app (goodIn_of _ (by decide +kernel)) ggX4_begin_X9_clear
set_option maxRecDepth 20000 in
theorem ggX4_begin_X2_clear : GoodIn wsX4_begin wsX2_clear := goodIn_r _ [14, 15, 16, 17, 18, 19, 43] (by decide +kernel) (by decide +kernel)
set_option maxRecDepth 20000 in
theorem gX4_begin_X2_clear : GoodIn wsX4_begin (wsV RX4 35 RX2 yX2_clear wsX2_clear) := goodIn_app (goodIn_of _ (by decide +kernel)) ggX4_begin_X2_clear
set_option maxRecDepth 20000 in
theorem ggX4_begin_X6_clear : GoodIn wsX4_begin wsX6_clear := goodIn_r _ [24, 25, 26, 44, 45, 46, 47, 48, 49, 50, 51, 52] (by decide +kernel) (by decide +kernel)
set_option maxRecDepth 20000 in
theorem gX4_begin_X6_clear : GoodIn wsX4_begin (wsV RX4 36 RX6 yX6_clear wsX6_clear) := goodIn_app (goodIn_of _ (by decide +kernel)) ggX4_begin_X6_clear
set_option maxRecDepth 20000 in
theorem ggX4_begin_X9_append : GoodIn wsX4_begin wsX9_append := goodIn_r _ [30, 9, 31, 32, 33, 34, 38, 39, 40, 41, 42] (by decide +kernel) (by decide +kernel)
set_option maxRecDepth 20000 in
theorem gX4_begin_X9_append : GoodIn wsX4_begin (wsV RX4 37 RX9 yX9_append wsX9_append) := goodIn_app (goodIn_of _ (by decide +kernel)) ggX4_begin_X9_append
theorem kX4_begin_0 : (.fieldLink RX4 12 "RunDesk$Race" "way" "LRunDesk$Way;" : Cond) ∈ wsX4_begin := List.mem_of_getElem? (i := 1) (by decide +kernel)
theorem qX4_begin_X4 : ∀ w ∈ wsX40, w ∈ wsX4_begin := fun _ h => List.mem_cons_of_mem _ (List.mem_append_left _ (List.mem_append_left _ (List.mem_append_left _ (List.mem_append_right _ (h)))))
theorem kX4_begin_2 : (.fieldLink RX4 21 "RunDesk$Race" "guns" "LRunDesk$Guns;" : Cond) ∈ wsX4_begin := List.mem_of_getElem? (i := 2) (by decide +kernel)
theorem kX4_begin_3 : (.fieldLink RX4 28 "RunDesk$Race" "runners" "LRunDesk$Runners;" : Cond) ∈ wsX4_begin := List.mem_of_getElem? (i := 3) (by decide +kernel)
set_option maxHeartbeats 4000000 in
set_option maxRecDepth 100000 in
theorem mX4_begin (l : Launch) (D : va_G) (cB cI cZ : ClassId) (a_t : Nat) (a_t_way : Nat) (a_t_guns : Nat) (a_t_runners : Nat) (a_t_guns_ticks : Nat) (a_t_runners_facts : Nat) (a_t_runners_splits : Nat) (a_t_runners_torn : Nat) (a_t_runners_dropped : Nat) (a_t_runners_waved : Nat) (a_t_runners_struck : Nat) (a_t_runners_strikingOrder : Nat) (a_t_way_places : Nat) (a_t_way_bearings : Nat) (a_t_way_cuts : Nat) (a_t_way_deaths : Nat) (t_guns_ticks : Nat → Int32) (t_runners_entered : Int32) (t_runners_strikings : Int32) (t_way_mats : Int32) (t_way_bearings : Nat → Int32) (t_way_cuts : Nat → Int32) (t_way_deaths : Nat → Int32) (t_way_places : Nat → Int32) (sz : Nat) (x1 : Int32) (N : Nat) (t_guns_ticks' : Nat → Int32) (t_runners_entered' : Int32) (t_runners_strikings' : Int32) (t_way_mats' : Int32) (t_way_bearings' : Nat → Int32) (t_way_cuts' : Nat → Int32) (t_way_deaths' : Nat → Int32) (t_way_places' : Nat → Int32) (h : fX4_begin N t_guns_ticks t_runners_entered t_runners_strikings t_way_mats t_way_bearings t_way_cuts t_way_deaths t_way_places x1 = some (t_guns_ticks', t_runners_entered', t_runners_strikings', t_way_mats', t_way_bearings', t_way_cuts', t_way_deaths', t_way_places')) : Met l yX4_begin wsX4_begin ({ frames := 2, cells := 0, slots := 0, locals := 43 } : Room) (va_Pc [.ref a_t, .int x1] (zPre D (zT cB cI cZ) [(a_t, .inr (4, [.ref a_t_way, .ref a_t_guns, .ref a_t_runners])), (a_t_guns, .inr (2, [.ref a_t_guns_ticks])), (a_t_guns_ticks, .inl (cI, 6, .inl t_guns_ticks)), (a_t_runners, .inr (6, [.ref a_t_runners_facts, .ref a_t_runners_splits, .ref a_t_runners_torn, .ref a_t_runners_dropped, .ref a_t_runners_waved, .ref a_t_runners_struck, .ref a_t_runners_strikingOrder, .int t_runners_entered, .int t_runners_strikings])), (a_t_way, .inr (9, [.ref a_t_way_places, .ref a_t_way_bearings, .ref a_t_way_cuts, .ref a_t_way_deaths, .int t_way_mats])), (a_t_way_bearings, .inl (cI, 12, .inl t_way_bearings)), (a_t_way_cuts, .inl (cI, 12, .inl t_way_cuts)), (a_t_way_deaths, .inl (cZ, 12, .inl t_way_deaths)), (a_t_way_places, .inl (cI, 12, .inl t_way_places))] sz)) (zQv D (zT cB cI cZ) [(a_t, .inr (4, [.ref a_t_way, .ref a_t_guns, .ref a_t_runners])), (a_t_guns, .inr (2, [.ref a_t_guns_ticks])), (a_t_guns_ticks, .inl (cI, 6, .inl t_guns_ticks')), (a_t_runners, .inr (6, [.ref a_t_runners_facts, .ref a_t_runners_splits, .ref a_t_runners_torn, .ref a_t_runners_dropped, .ref a_t_runners_waved, .ref a_t_runners_struck, .ref a_t_runners_strikingOrder, .int t_runners_entered', .int t_runners_strikings'])), (a_t_way, .inr (9, [.ref a_t_way_places, .ref a_t_way_bearings, .ref a_t_way_cuts, .ref a_t_way_deaths, .int t_way_mats'])), (a_t_way_bearings, .inl (cI, 12, .inl t_way_bearings')), (a_t_way_cuts, .inl (cI, 12, .inl t_way_cuts')), (a_t_way_deaths, .inl (cZ, 12, .inl t_way_deaths')), (a_t_way_places, .inl (cI, 12, .inl t_way_places'))] (va_A [(a_t, .inr (4, [.ref a_t_way, .ref a_t_guns, .ref a_t_runners])), (a_t_guns, .inr (2, [.ref a_t_guns_ticks])), (a_t_guns_ticks, .inl (cI, 6, .inl t_guns_ticks)), (a_t_runners, .inr (6, [.ref a_t_runners_facts, .ref a_t_runners_splits, .ref a_t_runners_torn, .ref a_t_runners_dropped, .ref a_t_runners_waved, .ref a_t_runners_struck, .ref a_t_runners_strikingOrder, .int t_runners_entered, .int t_runners_strikings])), (a_t_way, .inr (9, [.ref a_t_way_places, .ref a_t_way_bearings, .ref a_t_way_cuts, .ref a_t_way_deaths, .int t_way_mats])), (a_t_way_bearings, .inl (cI, 12, .inl t_way_bearings)), (a_t_way_cuts, .inl (cI, 12, .inl t_way_cuts)), (a_t_way_deaths, .inl (cZ, 12, .inl t_way_deaths)), (a_t_way_places, .inl (cI, 12, .inl t_way_places))] sz)) 0 0 (va_A [(a_t, .inr (4, [.ref a_t_way, .ref a_t_guns, .ref a_t_runners])), (a_t_guns, .inr (2, [.ref a_t_guns_ticks])), (a_t_guns_ticks, .inl (cI, 6, .inl t_guns_ticks)), (a_t_runners, .inr (6, [.ref a_t_runners_facts, .ref a_t_runners_splits, .ref a_t_runners_torn, .ref a_t_runners_dropped, .ref a_t_runners_waved, .ref a_t_runners_struck, .ref a_t_runners_strikingOrder, .int t_runners_entered, .int t_runners_strikings])), (a_t_way, .inr (9, [.ref a_t_way_places, .ref a_t_way_bearings, .ref a_t_way_cuts, .ref a_t_way_deaths, .int t_way_mats])), (a_t_way_bearings, .inl (cI, 12, .inl t_way_bearings)), (a_t_way_cuts, .inl (cI, 12, .inl t_way_cuts)), (a_t_way_deaths, .inl (cZ, 12, .inl t_way_deaths)), (a_t_way_places, .inl (cI, 12, .inl t_way_places))] sz) := by
  refine Met.ofW (cc := cX4_begin) (maxL := 2) (ret := none) (by decide) rfl ?_
  intro p e s m args below meth c s₁ B hml hv
  obtain ⟨rfl, hsz, hP, hK, hN, hZ, hD0⟩ := hv
  have hx := B.exec
  have hb := B.bytes
  have hr := B.returns
  have hts := atoms_spec (ws := wsX4_begin) B.pre
  have hown : s.vm.findClass RX4 = some m.cls := findClass_of_methodNamed B.named
  have hlocks := B.notSynchronized
  subst hsz
  have hD := hD0.self (sz := s.heap.size)
  generalize hAe : va_A [(a_t, .inr (4, [.ref a_t_way, .ref a_t_guns, .ref a_t_runners])), (a_t_guns, .inr (2, [.ref a_t_guns_ticks])), (a_t_guns_ticks, .inl (cI, 6, .inl t_guns_ticks)), (a_t_runners, .inr (6, [.ref a_t_runners_facts, .ref a_t_runners_splits, .ref a_t_runners_torn, .ref a_t_runners_dropped, .ref a_t_runners_waved, .ref a_t_runners_struck, .ref a_t_runners_strikingOrder, .int t_runners_entered, .int t_runners_strikings])), (a_t_way, .inr (9, [.ref a_t_way_places, .ref a_t_way_bearings, .ref a_t_way_cuts, .ref a_t_way_deaths, .int t_way_mats])), (a_t_way_bearings, .inl (cI, 12, .inl t_way_bearings)), (a_t_way_cuts, .inl (cI, 12, .inl t_way_cuts)), (a_t_way_deaths, .inl (cZ, 12, .inl t_way_deaths)), (a_t_way_places, .inl (cI, 12, .inl t_way_places))] s.heap.size = A at hD hZ ⊢
  have hA : ∀ q : Nat, s.heap.size ≤ q → A q := fun q h => by rw [← hAe]; exact Or.inr h
  have hS : va_S A s.heap s.heap [] := va_S.rf
  have hl := lv_entry ([.ref a_t, .int x1]) (n := 2) (Nat.le_of_ble_eq_true rfl)
  rw [lg_entry_eq]
  generalize (lg_sl ([.ref a_t, .int x1]) ++ List.replicate (2 - (lg_sl ([.ref a_t, .int x1])).length) Slot.unset).toArray = ls at hl ⊢
  have hl : lv_has ls 2 [(0, .ref a_t), (1, .int x1)] := hl
  unfold fX4_begin at h
  refine lv_aload_n hx hb dX4_begin_0 rfl (lv_at hl 0 rfl) ?_
  refine va_get (D := D) (ci := 4) (C := RX4) (T := TX4) (N := 3) hx hb hts qX4_begin_X4 hown hK hP 0 rfl rfl 0 (by decide) (hts _ kX4_begin_0) (fun _ h9 => h9) rfl dX4_begin_1 ?_
  obtain ⟨t_way_mats_r1, e2, h⟩ := zz_b h
  refine zVv (As := []) (rest := []) (C := RX9) (wr := [(a_t, .inr (4, [.ref a_t_way, .ref a_t_guns, .ref a_t_runners])), (a_t_guns, .inr (2, [.ref a_t_guns_ticks])), (a_t_guns_ticks, .inl (cI, 6, .inl t_guns_ticks)), (a_t_runners, .inr (6, [.ref a_t_runners_facts, .ref a_t_runners_splits, .ref a_t_runners_torn, .ref a_t_runners_dropped, .ref a_t_runners_waved, .ref a_t_runners_struck, .ref a_t_runners_strikingOrder, .int t_runners_entered, .int t_runners_strikings])), (a_t_way_bearings, .inl (cI, 12, .inl t_way_bearings)), (a_t_way_cuts, .inl (cI, 12, .inl t_way_cuts)), (a_t_way_deaths, .inl (cZ, 12, .inl t_way_deaths)), (a_t_way_places, .inl (cI, 12, .inl t_way_places))]) [4] [0, 1, 2, 3, 5, 6, 7, 8] 0 ⟨hx, hb, hml, hown, hts⟩ (mX9_clear l D cB cI cZ a_t_way a_t_way_places a_t_way_bearings a_t_way_cuts a_t_way_deaths t_way_mats s.heap.size t_way_mats_r1 e2) (cwV 0 hts gX4_begin_X9_clear rfl rfl rfl (by decide +kernel) ⟨Nat.le_of_ble_eq_true rfl, Nat.le_of_ble_eq_true rfl⟩) hK hN hZ hP hD hS hA rfl rfl rfl rfl rfl rfl rfl rfl hl.1 rfl (lv_room (Nat.le_of_ble_eq_true rfl)) dX4_begin_4 ⟨Nat.le_of_ble_eq_true rfl, Nat.le_of_ble_eq_true rfl⟩ (fun H locs hP hD hS => ?_)
  have hP : va_P D vwCl [(a_t, .inr (4, [.ref a_t_way, .ref a_t_guns, .ref a_t_runners])), (a_t_guns, .inr (2, [.ref a_t_guns_ticks])), (a_t_guns_ticks, .inl (cI, 6, .inl t_guns_ticks)), (a_t_runners, .inr (6, [.ref a_t_runners_facts, .ref a_t_runners_splits, .ref a_t_runners_torn, .ref a_t_runners_dropped, .ref a_t_runners_waved, .ref a_t_runners_struck, .ref a_t_runners_strikingOrder, .int t_runners_entered, .int t_runners_strikings])), (a_t_way_bearings, .inl (cI, 12, .inl t_way_bearings)), (a_t_way_cuts, .inl (cI, 12, .inl t_way_cuts)), (a_t_way_deaths, .inl (cZ, 12, .inl t_way_deaths)), (a_t_way_places, .inl (cI, 12, .inl t_way_places)), (a_t_way, .inr (9, [.ref a_t_way_places, .ref a_t_way_bearings, .ref a_t_way_cuts, .ref a_t_way_deaths, .int t_way_mats_r1]))] H := hP
  have hD : va_D A [(a_t, .inr (4, [.ref a_t_way, .ref a_t_guns, .ref a_t_runners])), (a_t_guns, .inr (2, [.ref a_t_guns_ticks])), (a_t_guns_ticks, .inl (cI, 6, .inl t_guns_ticks)), (a_t_runners, .inr (6, [.ref a_t_runners_facts, .ref a_t_runners_splits, .ref a_t_runners_torn, .ref a_t_runners_dropped, .ref a_t_runners_waved, .ref a_t_runners_struck, .ref a_t_runners_strikingOrder, .int t_runners_entered, .int t_runners_strikings])), (a_t_way_bearings, .inl (cI, 12, .inl t_way_bearings)), (a_t_way_cuts, .inl (cI, 12, .inl t_way_cuts)), (a_t_way_deaths, .inl (cZ, 12, .inl t_way_deaths)), (a_t_way_places, .inl (cI, 12, .inl t_way_places)), (a_t_way, .inr (9, [.ref a_t_way_places, .ref a_t_way_bearings, .ref a_t_way_cuts, .ref a_t_way_deaths, .int t_way_mats_r1]))] := hD
  refine lv_aload_n hx hb dX4_begin_7 rfl (lv_at hl 0 rfl) ?_
  refine va_get (D := D) (ci := 4) (C := RX4) (T := TX4) (N := 3) hx hb hts qX4_begin_X4 hown hK hP 0 rfl rfl 1 (by decide) (hts _ kX4_begin_2) (fun _ h9 => h9) rfl dX4_begin_8 ?_
  obtain ⟨t_guns_ticks_r3, e4, h⟩ := zz_b h
  refine zVv (As := []) (rest := []) (C := RX2) (wr := [(a_t, .inr (4, [.ref a_t_way, .ref a_t_guns, .ref a_t_runners])), (a_t_runners, .inr (6, [.ref a_t_runners_facts, .ref a_t_runners_splits, .ref a_t_runners_torn, .ref a_t_runners_dropped, .ref a_t_runners_waved, .ref a_t_runners_struck, .ref a_t_runners_strikingOrder, .int t_runners_entered, .int t_runners_strikings])), (a_t_way_bearings, .inl (cI, 12, .inl t_way_bearings)), (a_t_way_cuts, .inl (cI, 12, .inl t_way_cuts)), (a_t_way_deaths, .inl (cZ, 12, .inl t_way_deaths)), (a_t_way_places, .inl (cI, 12, .inl t_way_places)), (a_t_way, .inr (9, [.ref a_t_way_places, .ref a_t_way_bearings, .ref a_t_way_cuts, .ref a_t_way_deaths, .int t_way_mats_r1]))]) [1, 2] [0, 3, 4, 5, 6, 7, 8] 0 ⟨hx, hb, hml, hown, hts⟩ (mX2_clear l D cB cI cZ a_t_guns a_t_guns_ticks t_guns_ticks H.size N t_guns_ticks_r3 e4) (cwV 0 hts gX4_begin_X2_clear rfl rfl rfl (by decide +kernel) ⟨Nat.le_of_ble_eq_true rfl, Nat.le_of_ble_eq_true rfl⟩) hK hN hZ hP hD hS hA rfl rfl rfl rfl rfl rfl rfl rfl hl.1 rfl (lv_room (Nat.le_of_ble_eq_true rfl)) dX4_begin_11 ⟨Nat.le_of_ble_eq_true rfl, Nat.le_of_ble_eq_true rfl⟩ (fun H locs hP hD hS => ?_)
  have hP : va_P D vwCl [(a_t, .inr (4, [.ref a_t_way, .ref a_t_guns, .ref a_t_runners])), (a_t_runners, .inr (6, [.ref a_t_runners_facts, .ref a_t_runners_splits, .ref a_t_runners_torn, .ref a_t_runners_dropped, .ref a_t_runners_waved, .ref a_t_runners_struck, .ref a_t_runners_strikingOrder, .int t_runners_entered, .int t_runners_strikings])), (a_t_way_bearings, .inl (cI, 12, .inl t_way_bearings)), (a_t_way_cuts, .inl (cI, 12, .inl t_way_cuts)), (a_t_way_deaths, .inl (cZ, 12, .inl t_way_deaths)), (a_t_way_places, .inl (cI, 12, .inl t_way_places)), (a_t_way, .inr (9, [.ref a_t_way_places, .ref a_t_way_bearings, .ref a_t_way_cuts, .ref a_t_way_deaths, .int t_way_mats_r1])), (a_t_guns, .inr (2, [.ref a_t_guns_ticks])), (a_t_guns_ticks, .inl (cI, 6, .inl t_guns_ticks_r3))] H := hP
  have hD : va_D A [(a_t, .inr (4, [.ref a_t_way, .ref a_t_guns, .ref a_t_runners])), (a_t_runners, .inr (6, [.ref a_t_runners_facts, .ref a_t_runners_splits, .ref a_t_runners_torn, .ref a_t_runners_dropped, .ref a_t_runners_waved, .ref a_t_runners_struck, .ref a_t_runners_strikingOrder, .int t_runners_entered, .int t_runners_strikings])), (a_t_way_bearings, .inl (cI, 12, .inl t_way_bearings)), (a_t_way_cuts, .inl (cI, 12, .inl t_way_cuts)), (a_t_way_deaths, .inl (cZ, 12, .inl t_way_deaths)), (a_t_way_places, .inl (cI, 12, .inl t_way_places)), (a_t_way, .inr (9, [.ref a_t_way_places, .ref a_t_way_bearings, .ref a_t_way_cuts, .ref a_t_way_deaths, .int t_way_mats_r1])), (a_t_guns, .inr (2, [.ref a_t_guns_ticks])), (a_t_guns_ticks, .inl (cI, 6, .inl t_guns_ticks_r3))] := hD
  refine lv_aload_n hx hb dX4_begin_14 rfl (lv_at hl 0 rfl) ?_
  refine va_get (D := D) (ci := 4) (C := RX4) (T := TX4) (N := 3) hx hb hts qX4_begin_X4 hown hK hP 0 rfl rfl 2 (by decide) (hts _ kX4_begin_3) (fun _ h9 => h9) rfl dX4_begin_15 ?_
  obtain ⟨⟨t_runners_entered_r5, t_runners_strikings_r6⟩, e7, h⟩ := zz_b h
  dsimp only at h
  refine zVv (As := []) (rest := []) (C := RX6) (wr := [(a_t, .inr (4, [.ref a_t_way, .ref a_t_guns, .ref a_t_runners])), (a_t_way_bearings, .inl (cI, 12, .inl t_way_bearings)), (a_t_way_cuts, .inl (cI, 12, .inl t_way_cuts)), (a_t_way_deaths, .inl (cZ, 12, .inl t_way_deaths)), (a_t_way_places, .inl (cI, 12, .inl t_way_places)), (a_t_way, .inr (9, [.ref a_t_way_places, .ref a_t_way_bearings, .ref a_t_way_cuts, .ref a_t_way_deaths, .int t_way_mats_r1])), (a_t_guns, .inr (2, [.ref a_t_guns_ticks])), (a_t_guns_ticks, .inl (cI, 6, .inl t_guns_ticks_r3))]) [1] [0, 2, 3, 4, 5, 6, 7, 8] 0 ⟨hx, hb, hml, hown, hts⟩ (mX6_clear l D cB cI cZ a_t_runners a_t_runners_facts a_t_runners_splits a_t_runners_torn a_t_runners_dropped a_t_runners_waved a_t_runners_struck a_t_runners_strikingOrder t_runners_entered t_runners_strikings H.size t_runners_entered_r5 t_runners_strikings_r6 e7) (cwV 0 hts gX4_begin_X6_clear rfl rfl rfl (by decide +kernel) ⟨Nat.le_of_ble_eq_true rfl, Nat.le_of_ble_eq_true rfl⟩) hK hN hZ hP hD hS hA rfl rfl rfl rfl rfl rfl rfl rfl hl.1 rfl (lv_room (Nat.le_of_ble_eq_true rfl)) dX4_begin_18 ⟨Nat.le_of_ble_eq_true rfl, Nat.le_of_ble_eq_true rfl⟩ (fun H locs hP hD hS => ?_)
  have hP : va_P D vwCl [(a_t, .inr (4, [.ref a_t_way, .ref a_t_guns, .ref a_t_runners])), (a_t_way_bearings, .inl (cI, 12, .inl t_way_bearings)), (a_t_way_cuts, .inl (cI, 12, .inl t_way_cuts)), (a_t_way_deaths, .inl (cZ, 12, .inl t_way_deaths)), (a_t_way_places, .inl (cI, 12, .inl t_way_places)), (a_t_way, .inr (9, [.ref a_t_way_places, .ref a_t_way_bearings, .ref a_t_way_cuts, .ref a_t_way_deaths, .int t_way_mats_r1])), (a_t_guns, .inr (2, [.ref a_t_guns_ticks])), (a_t_guns_ticks, .inl (cI, 6, .inl t_guns_ticks_r3)), (a_t_runners, .inr (6, [.ref a_t_runners_facts, .ref a_t_runners_splits, .ref a_t_runners_torn, .ref a_t_runners_dropped, .ref a_t_runners_waved, .ref a_t_runners_struck, .ref a_t_runners_strikingOrder, .int t_runners_entered_r5, .int t_runners_strikings_r6]))] H := hP
  have hD : va_D A [(a_t, .inr (4, [.ref a_t_way, .ref a_t_guns, .ref a_t_runners])), (a_t_way_bearings, .inl (cI, 12, .inl t_way_bearings)), (a_t_way_cuts, .inl (cI, 12, .inl t_way_cuts)), (a_t_way_deaths, .inl (cZ, 12, .inl t_way_deaths)), (a_t_way_places, .inl (cI, 12, .inl t_way_places)), (a_t_way, .inr (9, [.ref a_t_way_places, .ref a_t_way_bearings, .ref a_t_way_cuts, .ref a_t_way_deaths, .int t_way_mats_r1])), (a_t_guns, .inr (2, [.ref a_t_guns_ticks])), (a_t_guns_ticks, .inl (cI, 6, .inl t_guns_ticks_r3)), (a_t_runners, .inr (6, [.ref a_t_runners_facts, .ref a_t_runners_splits, .ref a_t_runners_torn, .ref a_t_runners_dropped, .ref a_t_runners_waved, .ref a_t_runners_struck, .ref a_t_runners_strikingOrder, .int t_runners_entered_r5, .int t_runners_strikings_r6]))] := hD
  refine lv_aload_n hx hb dX4_begin_21 rfl (lv_at hl 0 rfl) ?_
  refine va_get (D := D) (ci := 4) (C := RX4) (T := TX4) (N := 3) hx hb hts qX4_begin_X4 hown hK hP 0 rfl rfl 0 (by decide) (hts _ kX4_begin_0) (fun _ h9 => h9) rfl dX4_begin_22 ?_
  refine lv_iconst (v := (nI 0)) hx hb dX4_begin_25 rfl ?_
  refine lv_iload_n hx hb dX4_begin_26 rfl (lv_at hl 1 rfl) ?_
  obtain ⟨⟨r8, t_way_mats_r9, t_way_bearings_r10, t_way_cuts_r11, t_way_deaths_r12, t_way_places_r13⟩, e14, h⟩ := zz_b h
  dsimp only at h
  refine zVi (As := [.int (nI 0), .int x1]) (rest := []) (C := RX9) (wr := [(a_t, .inr (4, [.ref a_t_way, .ref a_t_guns, .ref a_t_runners])), (a_t_guns, .inr (2, [.ref a_t_guns_ticks])), (a_t_guns_ticks, .inl (cI, 6, .inl t_guns_ticks_r3)), (a_t_runners, .inr (6, [.ref a_t_runners_facts, .ref a_t_runners_splits, .ref a_t_runners_torn, .ref a_t_runners_dropped, .ref a_t_runners_waved, .ref a_t_runners_struck, .ref a_t_runners_strikingOrder, .int t_runners_entered_r5, .int t_runners_strikings_r6]))]) [5, 1, 2, 3, 4] [0, 6, 7, 8] 0 ⟨hx, hb, hml, hown, hts⟩ (mX9_append l D cB cI cZ a_t_way a_t_way_places a_t_way_bearings a_t_way_cuts a_t_way_deaths t_way_mats_r1 t_way_bearings t_way_cuts t_way_deaths t_way_places H.size (nI 0) x1 r8 t_way_mats_r9 t_way_bearings_r10 t_way_cuts_r11 t_way_deaths_r12 t_way_places_r13 e14) (cwV 2 hts gX4_begin_X9_append rfl rfl rfl (by decide +kernel) ⟨Nat.le_of_ble_eq_true rfl, Nat.le_of_ble_eq_true rfl⟩) hK hN hZ hP hD hS hA rfl rfl rfl rfl rfl rfl rfl rfl hl.1 rfl (lv_room (Nat.le_of_ble_eq_true rfl)) dX4_begin_27 ⟨Nat.le_of_ble_eq_true rfl, Nat.le_of_ble_eq_true rfl⟩ (fun H locs hP hD hS => ?_)
  have hP : va_P D vwCl [(a_t, .inr (4, [.ref a_t_way, .ref a_t_guns, .ref a_t_runners])), (a_t_guns, .inr (2, [.ref a_t_guns_ticks])), (a_t_guns_ticks, .inl (cI, 6, .inl t_guns_ticks_r3)), (a_t_runners, .inr (6, [.ref a_t_runners_facts, .ref a_t_runners_splits, .ref a_t_runners_torn, .ref a_t_runners_dropped, .ref a_t_runners_waved, .ref a_t_runners_struck, .ref a_t_runners_strikingOrder, .int t_runners_entered_r5, .int t_runners_strikings_r6])), (a_t_way, .inr (9, [.ref a_t_way_places, .ref a_t_way_bearings, .ref a_t_way_cuts, .ref a_t_way_deaths, .int t_way_mats_r9])), (a_t_way_bearings, .inl (cI, 12, .inl t_way_bearings_r10)), (a_t_way_cuts, .inl (cI, 12, .inl t_way_cuts_r11)), (a_t_way_deaths, .inl (cZ, 12, .inl t_way_deaths_r12)), (a_t_way_places, .inl (cI, 12, .inl t_way_places_r13))] H := hP
  have hD : va_D A [(a_t, .inr (4, [.ref a_t_way, .ref a_t_guns, .ref a_t_runners])), (a_t_guns, .inr (2, [.ref a_t_guns_ticks])), (a_t_guns_ticks, .inl (cI, 6, .inl t_guns_ticks_r3)), (a_t_runners, .inr (6, [.ref a_t_runners_facts, .ref a_t_runners_splits, .ref a_t_runners_torn, .ref a_t_runners_dropped, .ref a_t_runners_waved, .ref a_t_runners_struck, .ref a_t_runners_strikingOrder, .int t_runners_entered_r5, .int t_runners_strikings_r6])), (a_t_way, .inr (9, [.ref a_t_way_places, .ref a_t_way_bearings, .ref a_t_way_cuts, .ref a_t_way_deaths, .int t_way_mats_r9])), (a_t_way_bearings, .inl (cI, 12, .inl t_way_bearings_r10)), (a_t_way_cuts, .inl (cI, 12, .inl t_way_cuts_r11)), (a_t_way_deaths, .inl (cZ, 12, .inl t_way_deaths_r12)), (a_t_way_places, .inl (cI, 12, .inl t_way_places_r13))] := hD
  refine lv_pop hx hb dX4_begin_30 rfl ?_
  obtain ⟨j0_, g_⟩ := Prod.mk.inj (Option.some.inj h)
  obtain ⟨j1_, g_⟩ := Prod.mk.inj g_
  obtain ⟨j2_, g_⟩ := Prod.mk.inj g_
  obtain ⟨j3_, g_⟩ := Prod.mk.inj g_
  obtain ⟨j4_, g_⟩ := Prod.mk.inj g_
  obtain ⟨j5_, g_⟩ := Prod.mk.inj g_
  obtain ⟨j6_, g_⟩ := Prod.mk.inj g_
  have j7_ := g_
  subst j0_
  subst j1_
  subst j2_
  subst j3_
  subst j4_
  subst j5_
  subst j6_
  subst j7_
  exact W.vret hx hb hr (fun t ht hW => ⟨⟨(), rfl, trivial, zPost.of hP hD hK ht hW [0, 1, 2, 3, 4, 5, 6, 7, 8] rfl rfl rfl⟩, hS.F ht⟩) hS.2.2 dX4_begin_31
/-! RunDesk$Way.copyFrom -/
theorem dX9_copyFrom_0 : decode cX9_copyFrom 0 = .ok (.aload_n 1, 1) := by decide +kernel
theorem dX9_copyFrom_1 : decode cX9_copyFrom 1 = .ok (.getfield 9, 3) := by decide +kernel
theorem dX9_copyFrom_4 : decode cX9_copyFrom 4 = .ok (.iconst 0, 1) := by decide +kernel
theorem dX9_copyFrom_5 : decode cX9_copyFrom 5 = .ok (.aload_n 0, 1) := by decide +kernel
theorem dX9_copyFrom_6 : decode cX9_copyFrom 6 = .ok (.getfield 9, 3) := by decide +kernel
theorem dX9_copyFrom_9 : decode cX9_copyFrom 9 = .ok (.iconst 0, 1) := by decide +kernel
theorem dX9_copyFrom_10 : decode cX9_copyFrom 10 = .ok (.bipush 12, 2) := by decide +kernel
theorem dX9_copyFrom_12 : decode cX9_copyFrom 12 = .ok (.invokestatic 37, 3) := by decide +kernel
theorem dX9_copyFrom_15 : decode cX9_copyFrom 15 = .ok (.aload_n 1, 1) := by decide +kernel
theorem dX9_copyFrom_16 : decode cX9_copyFrom 16 = .ok (.getfield 15, 3) := by decide +kernel
theorem dX9_copyFrom_19 : decode cX9_copyFrom 19 = .ok (.iconst 0, 1) := by decide +kernel
theorem dX9_copyFrom_20 : decode cX9_copyFrom 20 = .ok (.aload_n 0, 1) := by decide +kernel
theorem dX9_copyFrom_21 : decode cX9_copyFrom 21 = .ok (.getfield 15, 3) := by decide +kernel
theorem dX9_copyFrom_24 : decode cX9_copyFrom 24 = .ok (.iconst 0, 1) := by decide +kernel
theorem dX9_copyFrom_25 : decode cX9_copyFrom 25 = .ok (.bipush 12, 2) := by decide +kernel
theorem dX9_copyFrom_27 : decode cX9_copyFrom 27 = .ok (.invokestatic 37, 3) := by decide +kernel
theorem dX9_copyFrom_30 : decode cX9_copyFrom 30 = .ok (.aload_n 1, 1) := by decide +kernel
theorem dX9_copyFrom_31 : decode cX9_copyFrom 31 = .ok (.getfield 18, 3) := by decide +kernel
theorem dX9_copyFrom_34 : decode cX9_copyFrom 34 = .ok (.iconst 0, 1) := by decide +kernel
theorem dX9_copyFrom_35 : decode cX9_copyFrom 35 = .ok (.aload_n 0, 1) := by decide +kernel
theorem dX9_copyFrom_36 : decode cX9_copyFrom 36 = .ok (.getfield 18, 3) := by decide +kernel
theorem dX9_copyFrom_39 : decode cX9_copyFrom 39 = .ok (.iconst 0, 1) := by decide +kernel
theorem dX9_copyFrom_40 : decode cX9_copyFrom 40 = .ok (.bipush 12, 2) := by decide +kernel
theorem dX9_copyFrom_42 : decode cX9_copyFrom 42 = .ok (.invokestatic 37, 3) := by decide +kernel
theorem dX9_copyFrom_45 : decode cX9_copyFrom 45 = .ok (.iconst 0, 1) := by decide +kernel
theorem dX9_copyFrom_46 : decode cX9_copyFrom 46 = .ok (.istore_n 2, 1) := by decide +kernel
theorem dX9_copyFrom_47 : decode cX9_copyFrom 47 = .ok (.iload_n 2, 1) := by decide +kernel
theorem dX9_copyFrom_48 : decode cX9_copyFrom 48 = .ok (.bipush 12, 2) := by decide +kernel
theorem dX9_copyFrom_50 : decode cX9_copyFrom 50 = .ok (.if_icmp .ge 21, 3) := by decide +kernel
theorem dX9_copyFrom_53 : decode cX9_copyFrom 53 = .ok (.aload_n 0, 1) := by decide +kernel
theorem dX9_copyFrom_54 : decode cX9_copyFrom 54 = .ok (.getfield 21, 3) := by decide +kernel
theorem dX9_copyFrom_57 : decode cX9_copyFrom 57 = .ok (.iload_n 2, 1) := by decide +kernel
theorem dX9_copyFrom_58 : decode cX9_copyFrom 58 = .ok (.aload_n 1, 1) := by decide +kernel
theorem dX9_copyFrom_59 : decode cX9_copyFrom 59 = .ok (.getfield 21, 3) := by decide +kernel
theorem dX9_copyFrom_62 : decode cX9_copyFrom 62 = .ok (.iload_n 2, 1) := by decide +kernel
theorem dX9_copyFrom_63 : decode cX9_copyFrom 63 = .ok (.baload, 1) := by decide +kernel
theorem dX9_copyFrom_64 : decode cX9_copyFrom 64 = .ok (.bastore, 1) := by decide +kernel
theorem dX9_copyFrom_65 : decode cX9_copyFrom 65 = .ok (.iinc 2 1, 3) := by decide +kernel
theorem dX9_copyFrom_68 : decode cX9_copyFrom 68 = .ok (.goto (-21), 3) := by decide +kernel
theorem dX9_copyFrom_71 : decode cX9_copyFrom 71 = .ok (.aload_n 0, 1) := by decide +kernel
theorem dX9_copyFrom_72 : decode cX9_copyFrom 72 = .ok (.aload_n 1, 1) := by decide +kernel
theorem dX9_copyFrom_73 : decode cX9_copyFrom 73 = .ok (.getfield 25, 3) := by decide +kernel
theorem dX9_copyFrom_76 : decode cX9_copyFrom 76 = .ok (.putfield 25, 3) := by decide +kernel
theorem dX9_copyFrom_79 : decode cX9_copyFrom 79 = .ok (.return_, 1) := by decide +kernel
theorem kX9_copyFrom_0 : (.fieldLink RX9 9 "RunDesk$Way" "places" "[I" : Cond) ∈ wsX9_copyFrom := List.mem_of_getElem? (i := 1) (by decide +kernel)
theorem qX9_copyFrom_X9 : ∀ w ∈ wsX90, w ∈ wsX9_copyFrom := fun _ h => List.mem_cons_of_mem _ (List.mem_append_right _ (h))
theorem kX9_copyFrom_2 : (.methodLink RX9 37 arraycopyName : Cond) ∈ wsX9_copyFrom := List.mem_of_getElem? (i := 2) (by decide +kernel)
theorem kX9_copyFrom_3 : (.native arraycopyName : Cond) ∈ wsX9_copyFrom := List.mem_of_getElem? (i := 3) (by decide +kernel)
theorem kX9_copyFrom_4 : (.static arraycopyName : Cond) ∈ wsX9_copyFrom := List.mem_of_getElem? (i := 4) (by decide +kernel)
theorem kX9_copyFrom_5 : (.initialized "java/lang/System" : Cond) ∈ wsX9_copyFrom := List.mem_of_getElem? (i := 5) (by decide +kernel)
theorem kX9_copyFrom_6 : (.fieldLink RX9 15 "RunDesk$Way" "bearings" "[I" : Cond) ∈ wsX9_copyFrom := List.mem_of_getElem? (i := 6) (by decide +kernel)
theorem kX9_copyFrom_7 : (.fieldLink RX9 18 "RunDesk$Way" "cuts" "[I" : Cond) ∈ wsX9_copyFrom := List.mem_of_getElem? (i := 7) (by decide +kernel)
theorem kX9_copyFrom_8 : (.fieldLink RX9 25 "RunDesk$Way" "mats" "I" : Cond) ∈ wsX9_copyFrom := List.mem_of_getElem? (i := 9) (by decide +kernel)
theorem kX9_copyFrom_9 : (.fieldLink RX9 21 "RunDesk$Way" "deaths" "[Z" : Cond) ∈ wsX9_copyFrom := List.mem_of_getElem? (i := 8) (by decide +kernel)
set_option maxHeartbeats 4000000 in
set_option maxRecDepth 100000 in
theorem mX9_copyFrom (l : Launch) (D : va_G) (cB cI cZ : ClassId) (a_t : Nat) (a_p1 : Nat) (a_t_places : Nat) (a_t_bearings : Nat) (a_t_cuts : Nat) (a_t_deaths : Nat) (a_p1_places : Nat) (a_p1_bearings : Nat) (a_p1_cuts : Nat) (a_p1_deaths : Nat) (t_mats : Int32) (t_bearings : Nat → Int32) (t_cuts : Nat → Int32) (t_deaths : Nat → Int32) (t_places : Nat → Int32) (p1_mats : Int32) (p1_bearings : Nat → Int32) (p1_cuts : Nat → Int32) (p1_deaths : Nat → Int32) (p1_places : Nat → Int32) (sz : Nat) (N : Nat) (t_mats' : Int32) (t_bearings' : Nat → Int32) (t_cuts' : Nat → Int32) (t_deaths' : Nat → Int32) (t_places' : Nat → Int32) (h : fX9_copyFrom N t_mats t_bearings t_cuts t_deaths t_places p1_mats p1_bearings p1_cuts p1_deaths p1_places = some (t_mats', t_bearings', t_cuts', t_deaths', t_places')) : Met l yX9_copyFrom wsX9_copyFrom ({ frames := 1, cells := 0, slots := 0, locals := 60 } : Room) (va_Pc [.ref a_t, .ref a_p1] (zPre D (zT cB cI cZ) [(a_t, .inr (9, [.ref a_t_places, .ref a_t_bearings, .ref a_t_cuts, .ref a_t_deaths, .int t_mats])), (a_t_bearings, .inl (cI, 12, .inl t_bearings)), (a_t_cuts, .inl (cI, 12, .inl t_cuts)), (a_t_deaths, .inl (cZ, 12, .inl t_deaths)), (a_t_places, .inl (cI, 12, .inl t_places)), (a_p1, .inr (9, [.ref a_p1_places, .ref a_p1_bearings, .ref a_p1_cuts, .ref a_p1_deaths, .int p1_mats])), (a_p1_bearings, .inl (cI, 12, .inl p1_bearings)), (a_p1_cuts, .inl (cI, 12, .inl p1_cuts)), (a_p1_deaths, .inl (cZ, 12, .inl p1_deaths)), (a_p1_places, .inl (cI, 12, .inl p1_places))] sz)) (zQv D (zT cB cI cZ) [(a_t, .inr (9, [.ref a_t_places, .ref a_t_bearings, .ref a_t_cuts, .ref a_t_deaths, .int t_mats'])), (a_t_bearings, .inl (cI, 12, .inl t_bearings')), (a_t_cuts, .inl (cI, 12, .inl t_cuts')), (a_t_deaths, .inl (cZ, 12, .inl t_deaths')), (a_t_places, .inl (cI, 12, .inl t_places')), (a_p1, .inr (9, [.ref a_p1_places, .ref a_p1_bearings, .ref a_p1_cuts, .ref a_p1_deaths, .int p1_mats])), (a_p1_bearings, .inl (cI, 12, .inl p1_bearings)), (a_p1_cuts, .inl (cI, 12, .inl p1_cuts)), (a_p1_deaths, .inl (cZ, 12, .inl p1_deaths)), (a_p1_places, .inl (cI, 12, .inl p1_places))] (va_A [(a_t, .inr (9, [.ref a_t_places, .ref a_t_bearings, .ref a_t_cuts, .ref a_t_deaths, .int t_mats])), (a_t_bearings, .inl (cI, 12, .inl t_bearings)), (a_t_cuts, .inl (cI, 12, .inl t_cuts)), (a_t_deaths, .inl (cZ, 12, .inl t_deaths)), (a_t_places, .inl (cI, 12, .inl t_places)), (a_p1, .inr (9, [.ref a_p1_places, .ref a_p1_bearings, .ref a_p1_cuts, .ref a_p1_deaths, .int p1_mats])), (a_p1_bearings, .inl (cI, 12, .inl p1_bearings)), (a_p1_cuts, .inl (cI, 12, .inl p1_cuts)), (a_p1_deaths, .inl (cZ, 12, .inl p1_deaths)), (a_p1_places, .inl (cI, 12, .inl p1_places))] sz)) 0 0 (va_A [(a_t, .inr (9, [.ref a_t_places, .ref a_t_bearings, .ref a_t_cuts, .ref a_t_deaths, .int t_mats])), (a_t_bearings, .inl (cI, 12, .inl t_bearings)), (a_t_cuts, .inl (cI, 12, .inl t_cuts)), (a_t_deaths, .inl (cZ, 12, .inl t_deaths)), (a_t_places, .inl (cI, 12, .inl t_places)), (a_p1, .inr (9, [.ref a_p1_places, .ref a_p1_bearings, .ref a_p1_cuts, .ref a_p1_deaths, .int p1_mats])), (a_p1_bearings, .inl (cI, 12, .inl p1_bearings)), (a_p1_cuts, .inl (cI, 12, .inl p1_cuts)), (a_p1_deaths, .inl (cZ, 12, .inl p1_deaths)), (a_p1_places, .inl (cI, 12, .inl p1_places))] sz) := by
  refine Met.ofW (cc := cX9_copyFrom) (maxL := 3) (ret := none) (by decide) rfl ?_
  intro p e s m args below meth c s₁ B hml hv
  obtain ⟨rfl, hsz, hP, hK, hN, hZ, hD0⟩ := hv
  have hx := B.exec
  have hb := B.bytes
  have hr := B.returns
  have hts := atoms_spec (ws := wsX9_copyFrom) B.pre
  have hown : s.vm.findClass RX9 = some m.cls := findClass_of_methodNamed B.named
  have hlocks := B.notSynchronized
  subst hsz
  have hD := hD0.self (sz := s.heap.size)
  generalize hAe : va_A [(a_t, .inr (9, [.ref a_t_places, .ref a_t_bearings, .ref a_t_cuts, .ref a_t_deaths, .int t_mats])), (a_t_bearings, .inl (cI, 12, .inl t_bearings)), (a_t_cuts, .inl (cI, 12, .inl t_cuts)), (a_t_deaths, .inl (cZ, 12, .inl t_deaths)), (a_t_places, .inl (cI, 12, .inl t_places)), (a_p1, .inr (9, [.ref a_p1_places, .ref a_p1_bearings, .ref a_p1_cuts, .ref a_p1_deaths, .int p1_mats])), (a_p1_bearings, .inl (cI, 12, .inl p1_bearings)), (a_p1_cuts, .inl (cI, 12, .inl p1_cuts)), (a_p1_deaths, .inl (cZ, 12, .inl p1_deaths)), (a_p1_places, .inl (cI, 12, .inl p1_places))] s.heap.size = A at hD hZ ⊢
  have hA : ∀ q : Nat, s.heap.size ≤ q → A q := fun q h => by rw [← hAe]; exact Or.inr h
  have hS : va_S A s.heap s.heap [] := va_S.rf
  have hl := lv_entry ([.ref a_t, .ref a_p1]) (n := 3) (Nat.le_of_ble_eq_true rfl)
  rw [lg_entry_eq]
  generalize (lg_sl ([.ref a_t, .ref a_p1]) ++ List.replicate (3 - (lg_sl ([.ref a_t, .ref a_p1])).length) Slot.unset).toArray = ls at hl ⊢
  have hl : lv_has ls 3 [(0, .ref a_t), (1, .ref a_p1)] := hl
  unfold fX9_copyFrom at h
  refine lv_aload_n hx hb dX9_copyFrom_0 rfl (lv_at hl 1 rfl) ?_
  refine va_get (D := D) (ci := 9) (C := RX9) (T := TX9) (N := 5) hx hb hts qX9_copyFrom_X9 hown hK hP 5 rfl rfl 0 (by decide) (hts _ kX9_copyFrom_0) (fun _ h9 => h9) rfl dX9_copyFrom_1 ?_
  refine lv_iconst (v := (nI 0)) hx hb dX9_copyFrom_4 rfl ?_
  refine lv_aload_n hx hb dX9_copyFrom_5 rfl (lv_at hl 0 rfl) ?_
  refine va_get (D := D) (ci := 9) (C := RX9) (T := TX9) (N := 5) hx hb hts qX9_copyFrom_X9 hown hK hP 0 rfl rfl 0 (by decide) (hts _ kX9_copyFrom_0) (fun _ h9 => h9) rfl dX9_copyFrom_6 ?_
  refine lv_iconst (v := (nI 0)) hx hb dX9_copyFrom_9 rfl ?_
  refine lv_bipush (v := (nI 12)) hx hb dX9_copyFrom_10 rfl ?_
  refine va_copyi (ty := .int) hx hb (hml.trans hl.1.symm) hown (hts _ kX9_copyFrom_2) (hts _ kX9_copyFrom_3) (hts _ kX9_copyFrom_4) (hts _ kX9_copyFrom_5) hK hP hD hS 9 4 1 1 rfl rfl rfl rfl rfl (by decide) (by decide) (by decide) (by decide) (by decide) (fun _ _ => rfl) (Nat.le_of_ble_eq_true rfl) (Nat.le_of_ble_eq_true rfl) dX9_copyFrom_12 (fun H locs hP hD hS => ?_)
  have hP : va_P D vwCl [(a_t, .inr (9, [.ref a_t_places, .ref a_t_bearings, .ref a_t_cuts, .ref a_t_deaths, .int t_mats])), (a_t_bearings, .inl (cI, 12, .inl t_bearings)), (a_t_cuts, .inl (cI, 12, .inl t_cuts)), (a_t_deaths, .inl (cZ, 12, .inl t_deaths)), (a_t_places, .inl (cI, 12, .inl (va_cpy p1_places t_places 0 0 12))), (a_p1, .inr (9, [.ref a_p1_places, .ref a_p1_bearings, .ref a_p1_cuts, .ref a_p1_deaths, .int p1_mats])), (a_p1_bearings, .inl (cI, 12, .inl p1_bearings)), (a_p1_cuts, .inl (cI, 12, .inl p1_cuts)), (a_p1_deaths, .inl (cZ, 12, .inl p1_deaths)), (a_p1_places, .inl (cI, 12, .inl p1_places))] H := hP
  have hD : va_D A [(a_t, .inr (9, [.ref a_t_places, .ref a_t_bearings, .ref a_t_cuts, .ref a_t_deaths, .int t_mats])), (a_t_bearings, .inl (cI, 12, .inl t_bearings)), (a_t_cuts, .inl (cI, 12, .inl t_cuts)), (a_t_deaths, .inl (cZ, 12, .inl t_deaths)), (a_t_places, .inl (cI, 12, .inl (va_cpy p1_places t_places 0 0 12))), (a_p1, .inr (9, [.ref a_p1_places, .ref a_p1_bearings, .ref a_p1_cuts, .ref a_p1_deaths, .int p1_mats])), (a_p1_bearings, .inl (cI, 12, .inl p1_bearings)), (a_p1_cuts, .inl (cI, 12, .inl p1_cuts)), (a_p1_deaths, .inl (cZ, 12, .inl p1_deaths)), (a_p1_places, .inl (cI, 12, .inl p1_places))] := hD
  refine lv_aload_n hx hb dX9_copyFrom_15 rfl (lv_at hl 1 rfl) ?_
  refine va_get (D := D) (ci := 9) (C := RX9) (T := TX9) (N := 5) hx hb hts qX9_copyFrom_X9 hown hK hP 5 rfl rfl 1 (by decide) (hts _ kX9_copyFrom_6) (fun _ h9 => h9) rfl dX9_copyFrom_16 ?_
  refine lv_iconst (v := (nI 0)) hx hb dX9_copyFrom_19 rfl ?_
  refine lv_aload_n hx hb dX9_copyFrom_20 rfl (lv_at hl 0 rfl) ?_
  refine va_get (D := D) (ci := 9) (C := RX9) (T := TX9) (N := 5) hx hb hts qX9_copyFrom_X9 hown hK hP 0 rfl rfl 1 (by decide) (hts _ kX9_copyFrom_6) (fun _ h9 => h9) rfl dX9_copyFrom_21 ?_
  refine lv_iconst (v := (nI 0)) hx hb dX9_copyFrom_24 rfl ?_
  refine lv_bipush (v := (nI 12)) hx hb dX9_copyFrom_25 rfl ?_
  refine va_copyi (ty := .int) hx hb (hml.trans hl.1.symm) hown (hts _ kX9_copyFrom_2) (hts _ kX9_copyFrom_3) (hts _ kX9_copyFrom_4) (hts _ kX9_copyFrom_5) hK hP hD hS 6 1 1 1 rfl rfl rfl rfl rfl (by decide) (by decide) (by decide) (by decide) (by decide) (fun _ _ => rfl) (Nat.le_of_ble_eq_true rfl) (Nat.le_of_ble_eq_true rfl) dX9_copyFrom_27 (fun H locs hP hD hS => ?_)
  have hP : va_P D vwCl [(a_t, .inr (9, [.ref a_t_places, .ref a_t_bearings, .ref a_t_cuts, .ref a_t_deaths, .int t_mats])), (a_t_bearings, .inl (cI, 12, .inl (va_cpy p1_bearings t_bearings 0 0 12))), (a_t_cuts, .inl (cI, 12, .inl t_cuts)), (a_t_deaths, .inl (cZ, 12, .inl t_deaths)), (a_t_places, .inl (cI, 12, .inl (va_cpy p1_places t_places 0 0 12))), (a_p1, .inr (9, [.ref a_p1_places, .ref a_p1_bearings, .ref a_p1_cuts, .ref a_p1_deaths, .int p1_mats])), (a_p1_bearings, .inl (cI, 12, .inl p1_bearings)), (a_p1_cuts, .inl (cI, 12, .inl p1_cuts)), (a_p1_deaths, .inl (cZ, 12, .inl p1_deaths)), (a_p1_places, .inl (cI, 12, .inl p1_places))] H := hP
  have hD : va_D A [(a_t, .inr (9, [.ref a_t_places, .ref a_t_bearings, .ref a_t_cuts, .ref a_t_deaths, .int t_mats])), (a_t_bearings, .inl (cI, 12, .inl (va_cpy p1_bearings t_bearings 0 0 12))), (a_t_cuts, .inl (cI, 12, .inl t_cuts)), (a_t_deaths, .inl (cZ, 12, .inl t_deaths)), (a_t_places, .inl (cI, 12, .inl (va_cpy p1_places t_places 0 0 12))), (a_p1, .inr (9, [.ref a_p1_places, .ref a_p1_bearings, .ref a_p1_cuts, .ref a_p1_deaths, .int p1_mats])), (a_p1_bearings, .inl (cI, 12, .inl p1_bearings)), (a_p1_cuts, .inl (cI, 12, .inl p1_cuts)), (a_p1_deaths, .inl (cZ, 12, .inl p1_deaths)), (a_p1_places, .inl (cI, 12, .inl p1_places))] := hD
  refine lv_aload_n hx hb dX9_copyFrom_30 rfl (lv_at hl 1 rfl) ?_
  refine va_get (D := D) (ci := 9) (C := RX9) (T := TX9) (N := 5) hx hb hts qX9_copyFrom_X9 hown hK hP 5 rfl rfl 2 (by decide) (hts _ kX9_copyFrom_7) (fun _ h9 => h9) rfl dX9_copyFrom_31 ?_
  refine lv_iconst (v := (nI 0)) hx hb dX9_copyFrom_34 rfl ?_
  refine lv_aload_n hx hb dX9_copyFrom_35 rfl (lv_at hl 0 rfl) ?_
  refine va_get (D := D) (ci := 9) (C := RX9) (T := TX9) (N := 5) hx hb hts qX9_copyFrom_X9 hown hK hP 0 rfl rfl 2 (by decide) (hts _ kX9_copyFrom_7) (fun _ h9 => h9) rfl dX9_copyFrom_36 ?_
  refine lv_iconst (v := (nI 0)) hx hb dX9_copyFrom_39 rfl ?_
  refine lv_bipush (v := (nI 12)) hx hb dX9_copyFrom_40 rfl ?_
  refine va_copyi (ty := .int) hx hb (hml.trans hl.1.symm) hown (hts _ kX9_copyFrom_2) (hts _ kX9_copyFrom_3) (hts _ kX9_copyFrom_4) (hts _ kX9_copyFrom_5) hK hP hD hS 7 2 1 1 rfl rfl rfl rfl rfl (by decide) (by decide) (by decide) (by decide) (by decide) (fun _ _ => rfl) (Nat.le_of_ble_eq_true rfl) (Nat.le_of_ble_eq_true rfl) dX9_copyFrom_42 (fun H locs hP hD hS => ?_)
  have hP : va_P D vwCl [(a_t, .inr (9, [.ref a_t_places, .ref a_t_bearings, .ref a_t_cuts, .ref a_t_deaths, .int t_mats])), (a_t_bearings, .inl (cI, 12, .inl (va_cpy p1_bearings t_bearings 0 0 12))), (a_t_cuts, .inl (cI, 12, .inl (va_cpy p1_cuts t_cuts 0 0 12))), (a_t_deaths, .inl (cZ, 12, .inl t_deaths)), (a_t_places, .inl (cI, 12, .inl (va_cpy p1_places t_places 0 0 12))), (a_p1, .inr (9, [.ref a_p1_places, .ref a_p1_bearings, .ref a_p1_cuts, .ref a_p1_deaths, .int p1_mats])), (a_p1_bearings, .inl (cI, 12, .inl p1_bearings)), (a_p1_cuts, .inl (cI, 12, .inl p1_cuts)), (a_p1_deaths, .inl (cZ, 12, .inl p1_deaths)), (a_p1_places, .inl (cI, 12, .inl p1_places))] H := hP
  have hD : va_D A [(a_t, .inr (9, [.ref a_t_places, .ref a_t_bearings, .ref a_t_cuts, .ref a_t_deaths, .int t_mats])), (a_t_bearings, .inl (cI, 12, .inl (va_cpy p1_bearings t_bearings 0 0 12))), (a_t_cuts, .inl (cI, 12, .inl (va_cpy p1_cuts t_cuts 0 0 12))), (a_t_deaths, .inl (cZ, 12, .inl t_deaths)), (a_t_places, .inl (cI, 12, .inl (va_cpy p1_places t_places 0 0 12))), (a_p1, .inr (9, [.ref a_p1_places, .ref a_p1_bearings, .ref a_p1_cuts, .ref a_p1_deaths, .int p1_mats])), (a_p1_bearings, .inl (cI, 12, .inl p1_bearings)), (a_p1_cuts, .inl (cI, 12, .inl p1_cuts)), (a_p1_deaths, .inl (cZ, 12, .inl p1_deaths)), (a_p1_places, .inl (cI, 12, .inl p1_places))] := hD
  refine lv_iconst (v := (nI 0)) hx hb dX9_copyFrom_45 rfl ?_
  refine lv_istore_n (lv' := [(2, .int (nI 0)), (0, .ref a_t), (1, .ref a_p1)]) hx hb dX9_copyFrom_46 rfl hl (by decide) rfl (fun ls hl => ?_)
  have X47_71 : ∀ (v2_47 : Int32) (t_deaths_l47 : Nat → Int32) (H : Heap) (locs : List Loc) (ls : Array Slot), some (p1_mats, (va_cpy p1_bearings t_bearings 0 0 12), (va_cpy p1_cuts t_cuts 0 0 12), t_deaths_l47, (va_cpy p1_places t_places 0 0 12)) = some (t_mats', t_bearings', t_cuts', t_deaths', t_places') → va_P D vwCl [(a_t, .inr (9, [.ref a_t_places, .ref a_t_bearings, .ref a_t_cuts, .ref a_t_deaths, .int t_mats])), (a_t_bearings, .inl (cI, 12, .inl (va_cpy p1_bearings t_bearings 0 0 12))), (a_t_cuts, .inl (cI, 12, .inl (va_cpy p1_cuts t_cuts 0 0 12))), (a_t_deaths, .inl (cZ, 12, .inl t_deaths_l47)), (a_t_places, .inl (cI, 12, .inl (va_cpy p1_places t_places 0 0 12))), (a_p1, .inr (9, [.ref a_p1_places, .ref a_p1_bearings, .ref a_p1_cuts, .ref a_p1_deaths, .int p1_mats])), (a_p1_bearings, .inl (cI, 12, .inl p1_bearings)), (a_p1_cuts, .inl (cI, 12, .inl p1_cuts)), (a_p1_deaths, .inl (cZ, 12, .inl p1_deaths)), (a_p1_places, .inl (cI, 12, .inl p1_places))] H → va_D A [(a_t, .inr (9, [.ref a_t_places, .ref a_t_bearings, .ref a_t_cuts, .ref a_t_deaths, .int t_mats])), (a_t_bearings, .inl (cI, 12, .inl (va_cpy p1_bearings t_bearings 0 0 12))), (a_t_cuts, .inl (cI, 12, .inl (va_cpy p1_cuts t_cuts 0 0 12))), (a_t_deaths, .inl (cZ, 12, .inl t_deaths_l47)), (a_t_places, .inl (cI, 12, .inl (va_cpy p1_places t_places 0 0 12))), (a_p1, .inr (9, [.ref a_p1_places, .ref a_p1_bearings, .ref a_p1_cuts, .ref a_p1_deaths, .int p1_mats])), (a_p1_bearings, .inl (cI, 12, .inl p1_bearings)), (a_p1_cuts, .inl (cI, 12, .inl p1_cuts)), (a_p1_deaths, .inl (cZ, 12, .inl p1_deaths)), (a_p1_places, .inl (cI, 12, .inl p1_places))] → va_S A s.heap H locs → lv_has ls 3 [(2, .int v2_47), (0, .ref a_t), (1, .ref a_p1)] → W p l e (headSpec wsX9_copyFrom ({ frames := 1, cells := 0, slots := 0, locals := 60 } : Room)).room s m #[Value.ref a_t, Value.ref a_p1] below meth c H locs 0 0 (MQ below (zQv D (zT cB cI cZ) [(a_t, .inr (9, [.ref a_t_places, .ref a_t_bearings, .ref a_t_cuts, .ref a_t_deaths, .int t_mats'])), (a_t_bearings, .inl (cI, 12, .inl t_bearings')), (a_t_cuts, .inl (cI, 12, .inl t_cuts')), (a_t_deaths, .inl (cZ, 12, .inl t_deaths')), (a_t_places, .inl (cI, 12, .inl t_places')), (a_p1, .inr (9, [.ref a_p1_places, .ref a_p1_bearings, .ref a_p1_cuts, .ref a_p1_deaths, .int p1_mats])), (a_p1_bearings, .inl (cI, 12, .inl p1_bearings)), (a_p1_cuts, .inl (cI, 12, .inl p1_cuts)), (a_p1_deaths, .inl (cZ, 12, .inl p1_deaths)), (a_p1_places, .inl (cI, 12, .inl p1_places))] A) #[Value.ref a_t, Value.ref a_p1] s 0 0 A) (F0 m 71 ls []) := by
    intro v2_47 t_deaths_l47 H locs ls h hP hD hS hl
    refine lv_aload_n hx hb dX9_copyFrom_71 rfl (lv_at hl 1 rfl) ?_
    refine lv_aload_n hx hb dX9_copyFrom_72 rfl (lv_at hl 2 rfl) ?_
    refine va_get (D := D) (ci := 9) (C := RX9) (T := TX9) (N := 5) hx hb hts qX9_copyFrom_X9 hown hK hP 5 rfl rfl 4 (by decide) (hts _ kX9_copyFrom_8) (fun _ h9 => h9) rfl dX9_copyFrom_73 ?_
    refine va_put (D := D) (ci := 9) (ty := .int) (C := RX9) (T := TX9) (N := 5) hx hb hts qX9_copyFrom_X9 tyX9 tyX9_ok nmX9 hown hK hP hD hS 0 rfl rfl 4 (by decide) (hts _ kX9_copyFrom_8) (fun _ h9 => h9) rfl (by decide +kernel) rfl (by first | rfl | exact zz_fit) (Nat.le_of_ble_eq_true rfl) dX9_copyFrom_76 (fun H locs hP hD hS => ?_)
    have hP : va_P D vwCl [(a_t, .inr (9, [.ref a_t_places, .ref a_t_bearings, .ref a_t_cuts, .ref a_t_deaths, .int p1_mats])), (a_t_bearings, .inl (cI, 12, .inl (va_cpy p1_bearings t_bearings 0 0 12))), (a_t_cuts, .inl (cI, 12, .inl (va_cpy p1_cuts t_cuts 0 0 12))), (a_t_deaths, .inl (cZ, 12, .inl t_deaths_l47)), (a_t_places, .inl (cI, 12, .inl (va_cpy p1_places t_places 0 0 12))), (a_p1, .inr (9, [.ref a_p1_places, .ref a_p1_bearings, .ref a_p1_cuts, .ref a_p1_deaths, .int p1_mats])), (a_p1_bearings, .inl (cI, 12, .inl p1_bearings)), (a_p1_cuts, .inl (cI, 12, .inl p1_cuts)), (a_p1_deaths, .inl (cZ, 12, .inl p1_deaths)), (a_p1_places, .inl (cI, 12, .inl p1_places))] H := hP
    have hD : va_D A [(a_t, .inr (9, [.ref a_t_places, .ref a_t_bearings, .ref a_t_cuts, .ref a_t_deaths, .int p1_mats])), (a_t_bearings, .inl (cI, 12, .inl (va_cpy p1_bearings t_bearings 0 0 12))), (a_t_cuts, .inl (cI, 12, .inl (va_cpy p1_cuts t_cuts 0 0 12))), (a_t_deaths, .inl (cZ, 12, .inl t_deaths_l47)), (a_t_places, .inl (cI, 12, .inl (va_cpy p1_places t_places 0 0 12))), (a_p1, .inr (9, [.ref a_p1_places, .ref a_p1_bearings, .ref a_p1_cuts, .ref a_p1_deaths, .int p1_mats])), (a_p1_bearings, .inl (cI, 12, .inl p1_bearings)), (a_p1_cuts, .inl (cI, 12, .inl p1_cuts)), (a_p1_deaths, .inl (cZ, 12, .inl p1_deaths)), (a_p1_places, .inl (cI, 12, .inl p1_places))] := hD
    obtain ⟨j0_, g_⟩ := Prod.mk.inj (Option.some.inj h)
    obtain ⟨j1_, g_⟩ := Prod.mk.inj g_
    obtain ⟨j2_, g_⟩ := Prod.mk.inj g_
    obtain ⟨j3_, g_⟩ := Prod.mk.inj g_
    have j4_ := g_
    subst j0_
    subst j1_
    subst j2_
    subst j3_
    subst j4_
    exact W.vret hx hb hr (fun t ht hW => ⟨⟨(), rfl, trivial, zPost.of hP hD hK ht hW [0, 1, 2, 3, 4, 5, 6, 7, 8, 9] rfl rfl rfl⟩, hS.F ht⟩) hS.2.2 dX9_copyFrom_79
  have L47 : ∀ (n : Nat) (v2_47 : Int32) (t_deaths_l47 : Nat → Int32) (H : Heap) (locs : List Loc) (ls : Array Slot), fX9_copyFrom_L47 p1_deaths (fun (v2_47 : Int32) (t_deaths_l47 : Nat → Int32) => some (p1_mats, (va_cpy p1_bearings t_bearings 0 0 12), (va_cpy p1_cuts t_cuts 0 0 12), t_deaths_l47, (va_cpy p1_places t_places 0 0 12))) n v2_47 t_deaths_l47 = some (t_mats', t_bearings', t_cuts', t_deaths', t_places') → va_P D vwCl [(a_t, .inr (9, [.ref a_t_places, .ref a_t_bearings, .ref a_t_cuts, .ref a_t_deaths, .int t_mats])), (a_t_bearings, .inl (cI, 12, .inl (va_cpy p1_bearings t_bearings 0 0 12))), (a_t_cuts, .inl (cI, 12, .inl (va_cpy p1_cuts t_cuts 0 0 12))), (a_t_deaths, .inl (cZ, 12, .inl t_deaths_l47)), (a_t_places, .inl (cI, 12, .inl (va_cpy p1_places t_places 0 0 12))), (a_p1, .inr (9, [.ref a_p1_places, .ref a_p1_bearings, .ref a_p1_cuts, .ref a_p1_deaths, .int p1_mats])), (a_p1_bearings, .inl (cI, 12, .inl p1_bearings)), (a_p1_cuts, .inl (cI, 12, .inl p1_cuts)), (a_p1_deaths, .inl (cZ, 12, .inl p1_deaths)), (a_p1_places, .inl (cI, 12, .inl p1_places))] H → va_D A [(a_t, .inr (9, [.ref a_t_places, .ref a_t_bearings, .ref a_t_cuts, .ref a_t_deaths, .int t_mats])), (a_t_bearings, .inl (cI, 12, .inl (va_cpy p1_bearings t_bearings 0 0 12))), (a_t_cuts, .inl (cI, 12, .inl (va_cpy p1_cuts t_cuts 0 0 12))), (a_t_deaths, .inl (cZ, 12, .inl t_deaths_l47)), (a_t_places, .inl (cI, 12, .inl (va_cpy p1_places t_places 0 0 12))), (a_p1, .inr (9, [.ref a_p1_places, .ref a_p1_bearings, .ref a_p1_cuts, .ref a_p1_deaths, .int p1_mats])), (a_p1_bearings, .inl (cI, 12, .inl p1_bearings)), (a_p1_cuts, .inl (cI, 12, .inl p1_cuts)), (a_p1_deaths, .inl (cZ, 12, .inl p1_deaths)), (a_p1_places, .inl (cI, 12, .inl p1_places))] → va_S A s.heap H locs → lv_has ls 3 [(2, .int v2_47), (0, .ref a_t), (1, .ref a_p1)] → W p l e (headSpec wsX9_copyFrom ({ frames := 1, cells := 0, slots := 0, locals := 60 } : Room)).room s m #[Value.ref a_t, Value.ref a_p1] below meth c H locs 0 0 (MQ below (zQv D (zT cB cI cZ) [(a_t, .inr (9, [.ref a_t_places, .ref a_t_bearings, .ref a_t_cuts, .ref a_t_deaths, .int t_mats'])), (a_t_bearings, .inl (cI, 12, .inl t_bearings')), (a_t_cuts, .inl (cI, 12, .inl t_cuts')), (a_t_deaths, .inl (cZ, 12, .inl t_deaths')), (a_t_places, .inl (cI, 12, .inl t_places')), (a_p1, .inr (9, [.ref a_p1_places, .ref a_p1_bearings, .ref a_p1_cuts, .ref a_p1_deaths, .int p1_mats])), (a_p1_bearings, .inl (cI, 12, .inl p1_bearings)), (a_p1_cuts, .inl (cI, 12, .inl p1_cuts)), (a_p1_deaths, .inl (cZ, 12, .inl p1_deaths)), (a_p1_places, .inl (cI, 12, .inl p1_places))] A) #[Value.ref a_t, Value.ref a_p1] s 0 0 A) (F0 m 47 ls []) := by
    intro n
    induction n with
    | zero => intro _ _ H locs ls h hP hD hS hl; cases h
    | succ n47 ih47 =>
      intro v2_47 t_deaths_l47 H locs ls h hP hD hS hl
      rw [fX9_copyFrom_L47.eq_2] at h
      refine lv_iload_n hx hb dX9_copyFrom_47 rfl (lv_at hl 0 rfl) ?_
      refine lv_bipush (v := (nI 12)) hx hb dX9_copyFrom_48 rfl ?_
      refine lv_icmp_ge (tgt := 71) hx hb dX9_copyFrom_50 (by decide) (fun c1 => ?_) (fun c1 => ?_)
      · have h := zz_t h c1
        exact X47_71 v2_47 t_deaths_l47 _ _ _ h (hP.sub [0, 1, 2, 3, 4, 5, 6, 7, 8, 9] rfl) (hD.sub [0, 1, 2, 3, 4, 5, 6, 7, 8, 9] rfl rfl) hS (lv_sub hl [0, 1, 2] rfl)
      · have h := zz_f h c1
        refine lv_aload_n hx hb dX9_copyFrom_53 rfl (lv_at hl 1 rfl) ?_
        refine va_get (D := D) (ci := 9) (C := RX9) (T := TX9) (N := 5) hx hb hts qX9_copyFrom_X9 hown hK hP 0 rfl rfl 3 (by decide) (hts _ kX9_copyFrom_9) (fun _ h9 => h9) rfl dX9_copyFrom_54 ?_
        refine lv_iload_n hx hb dX9_copyFrom_57 rfl (lv_at hl 0 rfl) ?_
        refine lv_aload_n hx hb dX9_copyFrom_58 rfl (lv_at hl 2 rfl) ?_
        refine va_get (D := D) (ci := 9) (C := RX9) (T := TX9) (N := 5) hx hb hts qX9_copyFrom_X9 hown hK hP 5 rfl rfl 3 (by decide) (hts _ kX9_copyFrom_9) (fun _ h9 => h9) rfl dX9_copyFrom_59 ?_
        refine lv_iload_n hx hb dX9_copyFrom_62 rfl (lv_at hl 0 rfl) ?_
        obtain ⟨i2, h⟩ := zz_i h
        refine va_zald hx hb hK hP 8 2 rfl rfl i2 dX9_copyFrom_63 ?_
        obtain ⟨i3, h⟩ := zz_i h
        refine va_zast hx hb hK hP hD hS 3 2 rfl rfl i3 dX9_copyFrom_64 (fun H locs hP hD hS => ?_)
        have hP : va_P D vwCl [(a_t, .inr (9, [.ref a_t_places, .ref a_t_bearings, .ref a_t_cuts, .ref a_t_deaths, .int t_mats])), (a_t_bearings, .inl (cI, 12, .inl (va_cpy p1_bearings t_bearings 0 0 12))), (a_t_cuts, .inl (cI, 12, .inl (va_cpy p1_cuts t_cuts 0 0 12))), (a_t_deaths, .inl (cZ, 12, .inl (upd t_deaths_l47 (v2_47).toNatClampNeg (vp_nar .boolean (p1_deaths (v2_47).toNatClampNeg))))), (a_t_places, .inl (cI, 12, .inl (va_cpy p1_places t_places 0 0 12))), (a_p1, .inr (9, [.ref a_p1_places, .ref a_p1_bearings, .ref a_p1_cuts, .ref a_p1_deaths, .int p1_mats])), (a_p1_bearings, .inl (cI, 12, .inl p1_bearings)), (a_p1_cuts, .inl (cI, 12, .inl p1_cuts)), (a_p1_deaths, .inl (cZ, 12, .inl p1_deaths)), (a_p1_places, .inl (cI, 12, .inl p1_places))] H := hP
        have hD : va_D A [(a_t, .inr (9, [.ref a_t_places, .ref a_t_bearings, .ref a_t_cuts, .ref a_t_deaths, .int t_mats])), (a_t_bearings, .inl (cI, 12, .inl (va_cpy p1_bearings t_bearings 0 0 12))), (a_t_cuts, .inl (cI, 12, .inl (va_cpy p1_cuts t_cuts 0 0 12))), (a_t_deaths, .inl (cZ, 12, .inl (upd t_deaths_l47 (v2_47).toNatClampNeg (vp_nar .boolean (p1_deaths (v2_47).toNatClampNeg))))), (a_t_places, .inl (cI, 12, .inl (va_cpy p1_places t_places 0 0 12))), (a_p1, .inr (9, [.ref a_p1_places, .ref a_p1_bearings, .ref a_p1_cuts, .ref a_p1_deaths, .int p1_mats])), (a_p1_bearings, .inl (cI, 12, .inl p1_bearings)), (a_p1_cuts, .inl (cI, 12, .inl p1_cuts)), (a_p1_deaths, .inl (cZ, 12, .inl p1_deaths)), (a_p1_places, .inl (cI, 12, .inl p1_places))] := hD
        refine lv_iinc (v := (v2_47 + (nI 1))) (lv' := [(2, .int (v2_47 + (nI 1))), (0, .ref a_t), (1, .ref a_p1)]) hx hb dX9_copyFrom_65 hl (k := 0) rfl rfl (by decide) rfl (fun ls hl => ?_)
        refine lv_goto (tgt := 47) hx hb dX9_copyFrom_68 (by decide) ?_
        exact ih47 (v2_47 + (nI 1)) (upd t_deaths_l47 (v2_47).toNatClampNeg (vp_nar .boolean (p1_deaths (v2_47).toNatClampNeg))) _ _ _ h (hP.sub [0, 1, 2, 3, 4, 5, 6, 7, 8, 9] rfl) (hD.sub [0, 1, 2, 3, 4, 5, 6, 7, 8, 9] rfl rfl) hS (lv_sub hl [0, 1, 2] rfl)
  exact L47 N (nI 0) t_deaths _ _ _ h hP hD hS hl
/-! RunDesk$Runners.copyFrom -/
theorem dX6_copyFrom_0 : decode cX6_copyFrom 0 = .ok (.aload_n 1, 1) := by decide +kernel
theorem dX6_copyFrom_1 : decode cX6_copyFrom 1 = .ok (.getfield 9, 3) := by decide +kernel
theorem dX6_copyFrom_4 : decode cX6_copyFrom 4 = .ok (.iconst 0, 1) := by decide +kernel
theorem dX6_copyFrom_5 : decode cX6_copyFrom 5 = .ok (.aload_n 0, 1) := by decide +kernel
theorem dX6_copyFrom_6 : decode cX6_copyFrom 6 = .ok (.getfield 9, 3) := by decide +kernel
theorem dX6_copyFrom_9 : decode cX6_copyFrom 9 = .ok (.iconst 0, 1) := by decide +kernel
theorem dX6_copyFrom_10 : decode cX6_copyFrom 10 = .ok (.sipush 360, 3) := by decide +kernel
theorem dX6_copyFrom_13 : decode cX6_copyFrom 13 = .ok (.invokestatic 57, 3) := by decide +kernel
theorem dX6_copyFrom_16 : decode cX6_copyFrom 16 = .ok (.aload_n 1, 1) := by decide +kernel
theorem dX6_copyFrom_17 : decode cX6_copyFrom 17 = .ok (.getfield 15, 3) := by decide +kernel
theorem dX6_copyFrom_20 : decode cX6_copyFrom 20 = .ok (.iconst 0, 1) := by decide +kernel
theorem dX6_copyFrom_21 : decode cX6_copyFrom 21 = .ok (.aload_n 0, 1) := by decide +kernel
theorem dX6_copyFrom_22 : decode cX6_copyFrom 22 = .ok (.getfield 15, 3) := by decide +kernel
theorem dX6_copyFrom_25 : decode cX6_copyFrom 25 = .ok (.iconst 0, 1) := by decide +kernel
theorem dX6_copyFrom_26 : decode cX6_copyFrom 26 = .ok (.sipush 720, 3) := by decide +kernel
theorem dX6_copyFrom_29 : decode cX6_copyFrom 29 = .ok (.invokestatic 57, 3) := by decide +kernel
theorem dX6_copyFrom_32 : decode cX6_copyFrom 32 = .ok (.aload_n 1, 1) := by decide +kernel
theorem dX6_copyFrom_33 : decode cX6_copyFrom 33 = .ok (.getfield 18, 3) := by decide +kernel
theorem dX6_copyFrom_36 : decode cX6_copyFrom 36 = .ok (.iconst 0, 1) := by decide +kernel
theorem dX6_copyFrom_37 : decode cX6_copyFrom 37 = .ok (.aload_n 0, 1) := by decide +kernel
theorem dX6_copyFrom_38 : decode cX6_copyFrom 38 = .ok (.getfield 18, 3) := by decide +kernel
theorem dX6_copyFrom_41 : decode cX6_copyFrom 41 = .ok (.iconst 0, 1) := by decide +kernel
theorem dX6_copyFrom_42 : decode cX6_copyFrom 42 = .ok (.bipush 60, 2) := by decide +kernel
theorem dX6_copyFrom_44 : decode cX6_copyFrom 44 = .ok (.invokestatic 57, 3) := by decide +kernel
theorem dX6_copyFrom_47 : decode cX6_copyFrom 47 = .ok (.aload_n 1, 1) := by decide +kernel
theorem dX6_copyFrom_48 : decode cX6_copyFrom 48 = .ok (.getfield 31, 3) := by decide +kernel
theorem dX6_copyFrom_51 : decode cX6_copyFrom 51 = .ok (.iconst 0, 1) := by decide +kernel
theorem dX6_copyFrom_52 : decode cX6_copyFrom 52 = .ok (.aload_n 0, 1) := by decide +kernel
theorem dX6_copyFrom_53 : decode cX6_copyFrom 53 = .ok (.getfield 31, 3) := by decide +kernel
theorem dX6_copyFrom_56 : decode cX6_copyFrom 56 = .ok (.iconst 0, 1) := by decide +kernel
theorem dX6_copyFrom_57 : decode cX6_copyFrom 57 = .ok (.bipush 60, 2) := by decide +kernel
theorem dX6_copyFrom_59 : decode cX6_copyFrom 59 = .ok (.invokestatic 57, 3) := by decide +kernel
theorem dX6_copyFrom_62 : decode cX6_copyFrom 62 = .ok (.iconst 0, 1) := by decide +kernel
theorem dX6_copyFrom_63 : decode cX6_copyFrom 63 = .ok (.istore_n 2, 1) := by decide +kernel
theorem dX6_copyFrom_64 : decode cX6_copyFrom 64 = .ok (.iload_n 2, 1) := by decide +kernel
theorem dX6_copyFrom_65 : decode cX6_copyFrom 65 = .ok (.bipush 60, 2) := by decide +kernel
theorem dX6_copyFrom_67 : decode cX6_copyFrom 67 = .ok (.if_icmp .ge 45, 3) := by decide +kernel
theorem dX6_copyFrom_70 : decode cX6_copyFrom 70 = .ok (.aload_n 0, 1) := by decide +kernel
theorem dX6_copyFrom_71 : decode cX6_copyFrom 71 = .ok (.getfield 21, 3) := by decide +kernel
theorem dX6_copyFrom_74 : decode cX6_copyFrom 74 = .ok (.iload_n 2, 1) := by decide +kernel
theorem dX6_copyFrom_75 : decode cX6_copyFrom 75 = .ok (.aload_n 1, 1) := by decide +kernel
theorem dX6_copyFrom_76 : decode cX6_copyFrom 76 = .ok (.getfield 21, 3) := by decide +kernel
theorem dX6_copyFrom_79 : decode cX6_copyFrom 79 = .ok (.iload_n 2, 1) := by decide +kernel
theorem dX6_copyFrom_80 : decode cX6_copyFrom 80 = .ok (.baload, 1) := by decide +kernel
theorem dX6_copyFrom_81 : decode cX6_copyFrom 81 = .ok (.bastore, 1) := by decide +kernel
theorem dX6_copyFrom_82 : decode cX6_copyFrom 82 = .ok (.aload_n 0, 1) := by decide +kernel
theorem dX6_copyFrom_83 : decode cX6_copyFrom 83 = .ok (.getfield 25, 3) := by decide +kernel
theorem dX6_copyFrom_86 : decode cX6_copyFrom 86 = .ok (.iload_n 2, 1) := by decide +kernel
theorem dX6_copyFrom_87 : decode cX6_copyFrom 87 = .ok (.aload_n 1, 1) := by decide +kernel
theorem dX6_copyFrom_88 : decode cX6_copyFrom 88 = .ok (.getfield 25, 3) := by decide +kernel
theorem dX6_copyFrom_91 : decode cX6_copyFrom 91 = .ok (.iload_n 2, 1) := by decide +kernel
theorem dX6_copyFrom_92 : decode cX6_copyFrom 92 = .ok (.baload, 1) := by decide +kernel
theorem dX6_copyFrom_93 : decode cX6_copyFrom 93 = .ok (.bastore, 1) := by decide +kernel
theorem dX6_copyFrom_94 : decode cX6_copyFrom 94 = .ok (.aload_n 0, 1) := by decide +kernel
theorem dX6_copyFrom_95 : decode cX6_copyFrom 95 = .ok (.getfield 28, 3) := by decide +kernel
theorem dX6_copyFrom_98 : decode cX6_copyFrom 98 = .ok (.iload_n 2, 1) := by decide +kernel
theorem dX6_copyFrom_99 : decode cX6_copyFrom 99 = .ok (.aload_n 1, 1) := by decide +kernel
theorem dX6_copyFrom_100 : decode cX6_copyFrom 100 = .ok (.getfield 28, 3) := by decide +kernel
theorem dX6_copyFrom_103 : decode cX6_copyFrom 103 = .ok (.iload_n 2, 1) := by decide +kernel
theorem dX6_copyFrom_104 : decode cX6_copyFrom 104 = .ok (.baload, 1) := by decide +kernel
theorem dX6_copyFrom_105 : decode cX6_copyFrom 105 = .ok (.bastore, 1) := by decide +kernel
theorem dX6_copyFrom_106 : decode cX6_copyFrom 106 = .ok (.iinc 2 1, 3) := by decide +kernel
theorem dX6_copyFrom_109 : decode cX6_copyFrom 109 = .ok (.goto (-45), 3) := by decide +kernel
theorem dX6_copyFrom_112 : decode cX6_copyFrom 112 = .ok (.aload_n 0, 1) := by decide +kernel
theorem dX6_copyFrom_113 : decode cX6_copyFrom 113 = .ok (.aload_n 1, 1) := by decide +kernel
theorem dX6_copyFrom_114 : decode cX6_copyFrom 114 = .ok (.getfield 34, 3) := by decide +kernel
theorem dX6_copyFrom_117 : decode cX6_copyFrom 117 = .ok (.putfield 34, 3) := by decide +kernel
theorem dX6_copyFrom_120 : decode cX6_copyFrom 120 = .ok (.aload_n 0, 1) := by decide +kernel
theorem dX6_copyFrom_121 : decode cX6_copyFrom 121 = .ok (.aload_n 1, 1) := by decide +kernel
theorem dX6_copyFrom_122 : decode cX6_copyFrom 122 = .ok (.getfield 38, 3) := by decide +kernel
theorem dX6_copyFrom_125 : decode cX6_copyFrom 125 = .ok (.putfield 38, 3) := by decide +kernel
theorem dX6_copyFrom_128 : decode cX6_copyFrom 128 = .ok (.return_, 1) := by decide +kernel
theorem kX6_copyFrom_0 : (.fieldLink RX6 9 "RunDesk$Runners" "facts" "[I" : Cond) ∈ wsX6_copyFrom := List.mem_of_getElem? (i := 1) (by decide +kernel)
theorem qX6_copyFrom_X6 : ∀ w ∈ wsX60, w ∈ wsX6_copyFrom := fun _ h => List.mem_cons_of_mem _ (List.mem_append_right _ (h))
theorem kX6_copyFrom_2 : (.methodLink RX6 57 arraycopyName : Cond) ∈ wsX6_copyFrom := List.mem_of_getElem? (i := 2) (by decide +kernel)
theorem kX6_copyFrom_3 : (.native arraycopyName : Cond) ∈ wsX6_copyFrom := List.mem_of_getElem? (i := 3) (by decide +kernel)
theorem kX6_copyFrom_4 : (.static arraycopyName : Cond) ∈ wsX6_copyFrom := List.mem_of_getElem? (i := 4) (by decide +kernel)
theorem kX6_copyFrom_5 : (.initialized "java/lang/System" : Cond) ∈ wsX6_copyFrom := List.mem_of_getElem? (i := 5) (by decide +kernel)
theorem kX6_copyFrom_6 : (.fieldLink RX6 15 "RunDesk$Runners" "splits" "[I" : Cond) ∈ wsX6_copyFrom := List.mem_of_getElem? (i := 6) (by decide +kernel)
theorem kX6_copyFrom_7 : (.fieldLink RX6 18 "RunDesk$Runners" "torn" "[I" : Cond) ∈ wsX6_copyFrom := List.mem_of_getElem? (i := 7) (by decide +kernel)
theorem kX6_copyFrom_8 : (.fieldLink RX6 31 "RunDesk$Runners" "strikingOrder" "[I" : Cond) ∈ wsX6_copyFrom := List.mem_of_getElem? (i := 8) (by decide +kernel)
theorem kX6_copyFrom_9 : (.fieldLink RX6 34 "RunDesk$Runners" "entered" "I" : Cond) ∈ wsX6_copyFrom := List.mem_of_getElem? (i := 12) (by decide +kernel)
theorem kX6_copyFrom_10 : (.fieldLink RX6 38 "RunDesk$Runners" "strikings" "I" : Cond) ∈ wsX6_copyFrom := List.mem_of_getElem? (i := 13) (by decide +kernel)
theorem kX6_copyFrom_11 : (.fieldLink RX6 21 "RunDesk$Runners" "dropped" "[Z" : Cond) ∈ wsX6_copyFrom := List.mem_of_getElem? (i := 9) (by decide +kernel)
theorem kX6_copyFrom_12 : (.fieldLink RX6 25 "RunDesk$Runners" "waved" "[Z" : Cond) ∈ wsX6_copyFrom := List.mem_of_getElem? (i := 10) (by decide +kernel)
theorem kX6_copyFrom_13 : (.fieldLink RX6 28 "RunDesk$Runners" "struck" "[Z" : Cond) ∈ wsX6_copyFrom := List.mem_of_getElem? (i := 11) (by decide +kernel)
set_option maxHeartbeats 4000000 in
set_option maxRecDepth 100000 in
theorem mX6_copyFrom (l : Launch) (D : va_G) (cB cI cZ : ClassId) (a_t : Nat) (a_p1 : Nat) (a_t_facts : Nat) (a_t_splits : Nat) (a_t_torn : Nat) (a_t_dropped : Nat) (a_t_waved : Nat) (a_t_struck : Nat) (a_t_strikingOrder : Nat) (a_p1_facts : Nat) (a_p1_splits : Nat) (a_p1_torn : Nat) (a_p1_dropped : Nat) (a_p1_waved : Nat) (a_p1_struck : Nat) (a_p1_strikingOrder : Nat) (t_entered : Int32) (t_strikings : Int32) (t_dropped : Nat → Int32) (t_facts : Nat → Int32) (t_splits : Nat → Int32) (t_strikingOrder : Nat → Int32) (t_struck : Nat → Int32) (t_torn : Nat → Int32) (t_waved : Nat → Int32) (p1_entered : Int32) (p1_strikings : Int32) (p1_dropped : Nat → Int32) (p1_facts : Nat → Int32) (p1_splits : Nat → Int32) (p1_strikingOrder : Nat → Int32) (p1_struck : Nat → Int32) (p1_torn : Nat → Int32) (p1_waved : Nat → Int32) (sz : Nat) (N : Nat) (t_entered' : Int32) (t_strikings' : Int32) (t_dropped' : Nat → Int32) (t_facts' : Nat → Int32) (t_splits' : Nat → Int32) (t_strikingOrder' : Nat → Int32) (t_struck' : Nat → Int32) (t_torn' : Nat → Int32) (t_waved' : Nat → Int32) (h : fX6_copyFrom N t_entered t_strikings t_dropped t_facts t_splits t_strikingOrder t_struck t_torn t_waved p1_entered p1_strikings p1_dropped p1_facts p1_splits p1_strikingOrder p1_struck p1_torn p1_waved = some (t_entered', t_strikings', t_dropped', t_facts', t_splits', t_strikingOrder', t_struck', t_torn', t_waved')) : Met l yX6_copyFrom wsX6_copyFrom ({ frames := 1, cells := 0, slots := 0, locals := 60 } : Room) (va_Pc [.ref a_t, .ref a_p1] (zPre D (zT cB cI cZ) [(a_t, .inr (6, [.ref a_t_facts, .ref a_t_splits, .ref a_t_torn, .ref a_t_dropped, .ref a_t_waved, .ref a_t_struck, .ref a_t_strikingOrder, .int t_entered, .int t_strikings])), (a_t_dropped, .inl (cZ, 60, .inl t_dropped)), (a_t_facts, .inl (cI, 360, .inl t_facts)), (a_t_splits, .inl (cI, 720, .inl t_splits)), (a_t_strikingOrder, .inl (cI, 60, .inl t_strikingOrder)), (a_t_struck, .inl (cZ, 60, .inl t_struck)), (a_t_torn, .inl (cI, 60, .inl t_torn)), (a_t_waved, .inl (cZ, 60, .inl t_waved)), (a_p1, .inr (6, [.ref a_p1_facts, .ref a_p1_splits, .ref a_p1_torn, .ref a_p1_dropped, .ref a_p1_waved, .ref a_p1_struck, .ref a_p1_strikingOrder, .int p1_entered, .int p1_strikings])), (a_p1_dropped, .inl (cZ, 60, .inl p1_dropped)), (a_p1_facts, .inl (cI, 360, .inl p1_facts)), (a_p1_splits, .inl (cI, 720, .inl p1_splits)), (a_p1_strikingOrder, .inl (cI, 60, .inl p1_strikingOrder)), (a_p1_struck, .inl (cZ, 60, .inl p1_struck)), (a_p1_torn, .inl (cI, 60, .inl p1_torn)), (a_p1_waved, .inl (cZ, 60, .inl p1_waved))] sz)) (zQv D (zT cB cI cZ) [(a_t, .inr (6, [.ref a_t_facts, .ref a_t_splits, .ref a_t_torn, .ref a_t_dropped, .ref a_t_waved, .ref a_t_struck, .ref a_t_strikingOrder, .int t_entered', .int t_strikings'])), (a_t_dropped, .inl (cZ, 60, .inl t_dropped')), (a_t_facts, .inl (cI, 360, .inl t_facts')), (a_t_splits, .inl (cI, 720, .inl t_splits')), (a_t_strikingOrder, .inl (cI, 60, .inl t_strikingOrder')), (a_t_struck, .inl (cZ, 60, .inl t_struck')), (a_t_torn, .inl (cI, 60, .inl t_torn')), (a_t_waved, .inl (cZ, 60, .inl t_waved')), (a_p1, .inr (6, [.ref a_p1_facts, .ref a_p1_splits, .ref a_p1_torn, .ref a_p1_dropped, .ref a_p1_waved, .ref a_p1_struck, .ref a_p1_strikingOrder, .int p1_entered, .int p1_strikings])), (a_p1_dropped, .inl (cZ, 60, .inl p1_dropped)), (a_p1_facts, .inl (cI, 360, .inl p1_facts)), (a_p1_splits, .inl (cI, 720, .inl p1_splits)), (a_p1_strikingOrder, .inl (cI, 60, .inl p1_strikingOrder)), (a_p1_struck, .inl (cZ, 60, .inl p1_struck)), (a_p1_torn, .inl (cI, 60, .inl p1_torn)), (a_p1_waved, .inl (cZ, 60, .inl p1_waved))] (va_A [(a_t, .inr (6, [.ref a_t_facts, .ref a_t_splits, .ref a_t_torn, .ref a_t_dropped, .ref a_t_waved, .ref a_t_struck, .ref a_t_strikingOrder, .int t_entered, .int t_strikings])), (a_t_dropped, .inl (cZ, 60, .inl t_dropped)), (a_t_facts, .inl (cI, 360, .inl t_facts)), (a_t_splits, .inl (cI, 720, .inl t_splits)), (a_t_strikingOrder, .inl (cI, 60, .inl t_strikingOrder)), (a_t_struck, .inl (cZ, 60, .inl t_struck)), (a_t_torn, .inl (cI, 60, .inl t_torn)), (a_t_waved, .inl (cZ, 60, .inl t_waved)), (a_p1, .inr (6, [.ref a_p1_facts, .ref a_p1_splits, .ref a_p1_torn, .ref a_p1_dropped, .ref a_p1_waved, .ref a_p1_struck, .ref a_p1_strikingOrder, .int p1_entered, .int p1_strikings])), (a_p1_dropped, .inl (cZ, 60, .inl p1_dropped)), (a_p1_facts, .inl (cI, 360, .inl p1_facts)), (a_p1_splits, .inl (cI, 720, .inl p1_splits)), (a_p1_strikingOrder, .inl (cI, 60, .inl p1_strikingOrder)), (a_p1_struck, .inl (cZ, 60, .inl p1_struck)), (a_p1_torn, .inl (cI, 60, .inl p1_torn)), (a_p1_waved, .inl (cZ, 60, .inl p1_waved))] sz)) 0 0 (va_A [(a_t, .inr (6, [.ref a_t_facts, .ref a_t_splits, .ref a_t_torn, .ref a_t_dropped, .ref a_t_waved, .ref a_t_struck, .ref a_t_strikingOrder, .int t_entered, .int t_strikings])), (a_t_dropped, .inl (cZ, 60, .inl t_dropped)), (a_t_facts, .inl (cI, 360, .inl t_facts)), (a_t_splits, .inl (cI, 720, .inl t_splits)), (a_t_strikingOrder, .inl (cI, 60, .inl t_strikingOrder)), (a_t_struck, .inl (cZ, 60, .inl t_struck)), (a_t_torn, .inl (cI, 60, .inl t_torn)), (a_t_waved, .inl (cZ, 60, .inl t_waved)), (a_p1, .inr (6, [.ref a_p1_facts, .ref a_p1_splits, .ref a_p1_torn, .ref a_p1_dropped, .ref a_p1_waved, .ref a_p1_struck, .ref a_p1_strikingOrder, .int p1_entered, .int p1_strikings])), (a_p1_dropped, .inl (cZ, 60, .inl p1_dropped)), (a_p1_facts, .inl (cI, 360, .inl p1_facts)), (a_p1_splits, .inl (cI, 720, .inl p1_splits)), (a_p1_strikingOrder, .inl (cI, 60, .inl p1_strikingOrder)), (a_p1_struck, .inl (cZ, 60, .inl p1_struck)), (a_p1_torn, .inl (cI, 60, .inl p1_torn)), (a_p1_waved, .inl (cZ, 60, .inl p1_waved))] sz) := by
  refine Met.ofW (cc := cX6_copyFrom) (maxL := 3) (ret := none) (by decide) rfl ?_
  intro p e s m args below meth c s₁ B hml hv
  obtain ⟨rfl, hsz, hP, hK, hN, hZ, hD0⟩ := hv
  have hx := B.exec
  have hb := B.bytes
  have hr := B.returns
  have hts := atoms_spec (ws := wsX6_copyFrom) B.pre
  have hown : s.vm.findClass RX6 = some m.cls := findClass_of_methodNamed B.named
  have hlocks := B.notSynchronized
  subst hsz
  have hD := hD0.self (sz := s.heap.size)
  generalize hAe : va_A [(a_t, .inr (6, [.ref a_t_facts, .ref a_t_splits, .ref a_t_torn, .ref a_t_dropped, .ref a_t_waved, .ref a_t_struck, .ref a_t_strikingOrder, .int t_entered, .int t_strikings])), (a_t_dropped, .inl (cZ, 60, .inl t_dropped)), (a_t_facts, .inl (cI, 360, .inl t_facts)), (a_t_splits, .inl (cI, 720, .inl t_splits)), (a_t_strikingOrder, .inl (cI, 60, .inl t_strikingOrder)), (a_t_struck, .inl (cZ, 60, .inl t_struck)), (a_t_torn, .inl (cI, 60, .inl t_torn)), (a_t_waved, .inl (cZ, 60, .inl t_waved)), (a_p1, .inr (6, [.ref a_p1_facts, .ref a_p1_splits, .ref a_p1_torn, .ref a_p1_dropped, .ref a_p1_waved, .ref a_p1_struck, .ref a_p1_strikingOrder, .int p1_entered, .int p1_strikings])), (a_p1_dropped, .inl (cZ, 60, .inl p1_dropped)), (a_p1_facts, .inl (cI, 360, .inl p1_facts)), (a_p1_splits, .inl (cI, 720, .inl p1_splits)), (a_p1_strikingOrder, .inl (cI, 60, .inl p1_strikingOrder)), (a_p1_struck, .inl (cZ, 60, .inl p1_struck)), (a_p1_torn, .inl (cI, 60, .inl p1_torn)), (a_p1_waved, .inl (cZ, 60, .inl p1_waved))] s.heap.size = A at hD hZ ⊢
  have hA : ∀ q : Nat, s.heap.size ≤ q → A q := fun q h => by rw [← hAe]; exact Or.inr h
  have hS : va_S A s.heap s.heap [] := va_S.rf
  have hl := lv_entry ([.ref a_t, .ref a_p1]) (n := 3) (Nat.le_of_ble_eq_true rfl)
  rw [lg_entry_eq]
  generalize (lg_sl ([.ref a_t, .ref a_p1]) ++ List.replicate (3 - (lg_sl ([.ref a_t, .ref a_p1])).length) Slot.unset).toArray = ls at hl ⊢
  have hl : lv_has ls 3 [(0, .ref a_t), (1, .ref a_p1)] := hl
  unfold fX6_copyFrom at h
  refine lv_aload_n hx hb dX6_copyFrom_0 rfl (lv_at hl 1 rfl) ?_
  refine va_get (D := D) (ci := 6) (C := RX6) (T := TX6) (N := 9) hx hb hts qX6_copyFrom_X6 hown hK hP 8 rfl rfl 0 (by decide) (hts _ kX6_copyFrom_0) (fun _ h9 => h9) rfl dX6_copyFrom_1 ?_
  refine lv_iconst (v := (nI 0)) hx hb dX6_copyFrom_4 rfl ?_
  refine lv_aload_n hx hb dX6_copyFrom_5 rfl (lv_at hl 0 rfl) ?_
  refine va_get (D := D) (ci := 6) (C := RX6) (T := TX6) (N := 9) hx hb hts qX6_copyFrom_X6 hown hK hP 0 rfl rfl 0 (by decide) (hts _ kX6_copyFrom_0) (fun _ h9 => h9) rfl dX6_copyFrom_6 ?_
  refine lv_iconst (v := (nI 0)) hx hb dX6_copyFrom_9 rfl ?_
  refine lv_sipush (v := (nI 360)) hx hb dX6_copyFrom_10 rfl ?_
  refine va_copyi (ty := .int) hx hb (hml.trans hl.1.symm) hown (hts _ kX6_copyFrom_2) (hts _ kX6_copyFrom_3) (hts _ kX6_copyFrom_4) (hts _ kX6_copyFrom_5) hK hP hD hS 10 2 1 1 rfl rfl rfl rfl rfl (by decide) (by decide) (by decide) (by decide) (by decide) (fun _ _ => rfl) (Nat.le_of_ble_eq_true rfl) (Nat.le_of_ble_eq_true rfl) dX6_copyFrom_13 (fun H locs hP hD hS => ?_)
  have hP : va_P D vwCl [(a_t, .inr (6, [.ref a_t_facts, .ref a_t_splits, .ref a_t_torn, .ref a_t_dropped, .ref a_t_waved, .ref a_t_struck, .ref a_t_strikingOrder, .int t_entered, .int t_strikings])), (a_t_dropped, .inl (cZ, 60, .inl t_dropped)), (a_t_facts, .inl (cI, 360, .inl (va_cpy p1_facts t_facts 0 0 360))), (a_t_splits, .inl (cI, 720, .inl t_splits)), (a_t_strikingOrder, .inl (cI, 60, .inl t_strikingOrder)), (a_t_struck, .inl (cZ, 60, .inl t_struck)), (a_t_torn, .inl (cI, 60, .inl t_torn)), (a_t_waved, .inl (cZ, 60, .inl t_waved)), (a_p1, .inr (6, [.ref a_p1_facts, .ref a_p1_splits, .ref a_p1_torn, .ref a_p1_dropped, .ref a_p1_waved, .ref a_p1_struck, .ref a_p1_strikingOrder, .int p1_entered, .int p1_strikings])), (a_p1_dropped, .inl (cZ, 60, .inl p1_dropped)), (a_p1_facts, .inl (cI, 360, .inl p1_facts)), (a_p1_splits, .inl (cI, 720, .inl p1_splits)), (a_p1_strikingOrder, .inl (cI, 60, .inl p1_strikingOrder)), (a_p1_struck, .inl (cZ, 60, .inl p1_struck)), (a_p1_torn, .inl (cI, 60, .inl p1_torn)), (a_p1_waved, .inl (cZ, 60, .inl p1_waved))] H := hP
  have hD : va_D A [(a_t, .inr (6, [.ref a_t_facts, .ref a_t_splits, .ref a_t_torn, .ref a_t_dropped, .ref a_t_waved, .ref a_t_struck, .ref a_t_strikingOrder, .int t_entered, .int t_strikings])), (a_t_dropped, .inl (cZ, 60, .inl t_dropped)), (a_t_facts, .inl (cI, 360, .inl (va_cpy p1_facts t_facts 0 0 360))), (a_t_splits, .inl (cI, 720, .inl t_splits)), (a_t_strikingOrder, .inl (cI, 60, .inl t_strikingOrder)), (a_t_struck, .inl (cZ, 60, .inl t_struck)), (a_t_torn, .inl (cI, 60, .inl t_torn)), (a_t_waved, .inl (cZ, 60, .inl t_waved)), (a_p1, .inr (6, [.ref a_p1_facts, .ref a_p1_splits, .ref a_p1_torn, .ref a_p1_dropped, .ref a_p1_waved, .ref a_p1_struck, .ref a_p1_strikingOrder, .int p1_entered, .int p1_strikings])), (a_p1_dropped, .inl (cZ, 60, .inl p1_dropped)), (a_p1_facts, .inl (cI, 360, .inl p1_facts)), (a_p1_splits, .inl (cI, 720, .inl p1_splits)), (a_p1_strikingOrder, .inl (cI, 60, .inl p1_strikingOrder)), (a_p1_struck, .inl (cZ, 60, .inl p1_struck)), (a_p1_torn, .inl (cI, 60, .inl p1_torn)), (a_p1_waved, .inl (cZ, 60, .inl p1_waved))] := hD
  refine lv_aload_n hx hb dX6_copyFrom_16 rfl (lv_at hl 1 rfl) ?_
  refine va_get (D := D) (ci := 6) (C := RX6) (T := TX6) (N := 9) hx hb hts qX6_copyFrom_X6 hown hK hP 8 rfl rfl 1 (by decide) (hts _ kX6_copyFrom_6) (fun _ h9 => h9) rfl dX6_copyFrom_17 ?_
  refine lv_iconst (v := (nI 0)) hx hb dX6_copyFrom_20 rfl ?_
  refine lv_aload_n hx hb dX6_copyFrom_21 rfl (lv_at hl 0 rfl) ?_
  refine va_get (D := D) (ci := 6) (C := RX6) (T := TX6) (N := 9) hx hb hts qX6_copyFrom_X6 hown hK hP 0 rfl rfl 1 (by decide) (hts _ kX6_copyFrom_6) (fun _ h9 => h9) rfl dX6_copyFrom_22 ?_
  refine lv_iconst (v := (nI 0)) hx hb dX6_copyFrom_25 rfl ?_
  refine lv_sipush (v := (nI 720)) hx hb dX6_copyFrom_26 rfl ?_
  refine va_copyi (ty := .int) hx hb (hml.trans hl.1.symm) hown (hts _ kX6_copyFrom_2) (hts _ kX6_copyFrom_3) (hts _ kX6_copyFrom_4) (hts _ kX6_copyFrom_5) hK hP hD hS 11 3 1 1 rfl rfl rfl rfl rfl (by decide) (by decide) (by decide) (by decide) (by decide) (fun _ _ => rfl) (Nat.le_of_ble_eq_true rfl) (Nat.le_of_ble_eq_true rfl) dX6_copyFrom_29 (fun H locs hP hD hS => ?_)
  have hP : va_P D vwCl [(a_t, .inr (6, [.ref a_t_facts, .ref a_t_splits, .ref a_t_torn, .ref a_t_dropped, .ref a_t_waved, .ref a_t_struck, .ref a_t_strikingOrder, .int t_entered, .int t_strikings])), (a_t_dropped, .inl (cZ, 60, .inl t_dropped)), (a_t_facts, .inl (cI, 360, .inl (va_cpy p1_facts t_facts 0 0 360))), (a_t_splits, .inl (cI, 720, .inl (va_cpy p1_splits t_splits 0 0 720))), (a_t_strikingOrder, .inl (cI, 60, .inl t_strikingOrder)), (a_t_struck, .inl (cZ, 60, .inl t_struck)), (a_t_torn, .inl (cI, 60, .inl t_torn)), (a_t_waved, .inl (cZ, 60, .inl t_waved)), (a_p1, .inr (6, [.ref a_p1_facts, .ref a_p1_splits, .ref a_p1_torn, .ref a_p1_dropped, .ref a_p1_waved, .ref a_p1_struck, .ref a_p1_strikingOrder, .int p1_entered, .int p1_strikings])), (a_p1_dropped, .inl (cZ, 60, .inl p1_dropped)), (a_p1_facts, .inl (cI, 360, .inl p1_facts)), (a_p1_splits, .inl (cI, 720, .inl p1_splits)), (a_p1_strikingOrder, .inl (cI, 60, .inl p1_strikingOrder)), (a_p1_struck, .inl (cZ, 60, .inl p1_struck)), (a_p1_torn, .inl (cI, 60, .inl p1_torn)), (a_p1_waved, .inl (cZ, 60, .inl p1_waved))] H := hP
  have hD : va_D A [(a_t, .inr (6, [.ref a_t_facts, .ref a_t_splits, .ref a_t_torn, .ref a_t_dropped, .ref a_t_waved, .ref a_t_struck, .ref a_t_strikingOrder, .int t_entered, .int t_strikings])), (a_t_dropped, .inl (cZ, 60, .inl t_dropped)), (a_t_facts, .inl (cI, 360, .inl (va_cpy p1_facts t_facts 0 0 360))), (a_t_splits, .inl (cI, 720, .inl (va_cpy p1_splits t_splits 0 0 720))), (a_t_strikingOrder, .inl (cI, 60, .inl t_strikingOrder)), (a_t_struck, .inl (cZ, 60, .inl t_struck)), (a_t_torn, .inl (cI, 60, .inl t_torn)), (a_t_waved, .inl (cZ, 60, .inl t_waved)), (a_p1, .inr (6, [.ref a_p1_facts, .ref a_p1_splits, .ref a_p1_torn, .ref a_p1_dropped, .ref a_p1_waved, .ref a_p1_struck, .ref a_p1_strikingOrder, .int p1_entered, .int p1_strikings])), (a_p1_dropped, .inl (cZ, 60, .inl p1_dropped)), (a_p1_facts, .inl (cI, 360, .inl p1_facts)), (a_p1_splits, .inl (cI, 720, .inl p1_splits)), (a_p1_strikingOrder, .inl (cI, 60, .inl p1_strikingOrder)), (a_p1_struck, .inl (cZ, 60, .inl p1_struck)), (a_p1_torn, .inl (cI, 60, .inl p1_torn)), (a_p1_waved, .inl (cZ, 60, .inl p1_waved))] := hD
  refine lv_aload_n hx hb dX6_copyFrom_32 rfl (lv_at hl 1 rfl) ?_
  refine va_get (D := D) (ci := 6) (C := RX6) (T := TX6) (N := 9) hx hb hts qX6_copyFrom_X6 hown hK hP 8 rfl rfl 2 (by decide) (hts _ kX6_copyFrom_7) (fun _ h9 => h9) rfl dX6_copyFrom_33 ?_
  refine lv_iconst (v := (nI 0)) hx hb dX6_copyFrom_36 rfl ?_
  refine lv_aload_n hx hb dX6_copyFrom_37 rfl (lv_at hl 0 rfl) ?_
  refine va_get (D := D) (ci := 6) (C := RX6) (T := TX6) (N := 9) hx hb hts qX6_copyFrom_X6 hown hK hP 0 rfl rfl 2 (by decide) (hts _ kX6_copyFrom_7) (fun _ h9 => h9) rfl dX6_copyFrom_38 ?_
  refine lv_iconst (v := (nI 0)) hx hb dX6_copyFrom_41 rfl ?_
  refine lv_bipush (v := (nI 60)) hx hb dX6_copyFrom_42 rfl ?_
  refine va_copyi (ty := .int) hx hb (hml.trans hl.1.symm) hown (hts _ kX6_copyFrom_2) (hts _ kX6_copyFrom_3) (hts _ kX6_copyFrom_4) (hts _ kX6_copyFrom_5) hK hP hD hS 14 6 1 1 rfl rfl rfl rfl rfl (by decide) (by decide) (by decide) (by decide) (by decide) (fun _ _ => rfl) (Nat.le_of_ble_eq_true rfl) (Nat.le_of_ble_eq_true rfl) dX6_copyFrom_44 (fun H locs hP hD hS => ?_)
  have hP : va_P D vwCl [(a_t, .inr (6, [.ref a_t_facts, .ref a_t_splits, .ref a_t_torn, .ref a_t_dropped, .ref a_t_waved, .ref a_t_struck, .ref a_t_strikingOrder, .int t_entered, .int t_strikings])), (a_t_dropped, .inl (cZ, 60, .inl t_dropped)), (a_t_facts, .inl (cI, 360, .inl (va_cpy p1_facts t_facts 0 0 360))), (a_t_splits, .inl (cI, 720, .inl (va_cpy p1_splits t_splits 0 0 720))), (a_t_strikingOrder, .inl (cI, 60, .inl t_strikingOrder)), (a_t_struck, .inl (cZ, 60, .inl t_struck)), (a_t_torn, .inl (cI, 60, .inl (va_cpy p1_torn t_torn 0 0 60))), (a_t_waved, .inl (cZ, 60, .inl t_waved)), (a_p1, .inr (6, [.ref a_p1_facts, .ref a_p1_splits, .ref a_p1_torn, .ref a_p1_dropped, .ref a_p1_waved, .ref a_p1_struck, .ref a_p1_strikingOrder, .int p1_entered, .int p1_strikings])), (a_p1_dropped, .inl (cZ, 60, .inl p1_dropped)), (a_p1_facts, .inl (cI, 360, .inl p1_facts)), (a_p1_splits, .inl (cI, 720, .inl p1_splits)), (a_p1_strikingOrder, .inl (cI, 60, .inl p1_strikingOrder)), (a_p1_struck, .inl (cZ, 60, .inl p1_struck)), (a_p1_torn, .inl (cI, 60, .inl p1_torn)), (a_p1_waved, .inl (cZ, 60, .inl p1_waved))] H := hP
  have hD : va_D A [(a_t, .inr (6, [.ref a_t_facts, .ref a_t_splits, .ref a_t_torn, .ref a_t_dropped, .ref a_t_waved, .ref a_t_struck, .ref a_t_strikingOrder, .int t_entered, .int t_strikings])), (a_t_dropped, .inl (cZ, 60, .inl t_dropped)), (a_t_facts, .inl (cI, 360, .inl (va_cpy p1_facts t_facts 0 0 360))), (a_t_splits, .inl (cI, 720, .inl (va_cpy p1_splits t_splits 0 0 720))), (a_t_strikingOrder, .inl (cI, 60, .inl t_strikingOrder)), (a_t_struck, .inl (cZ, 60, .inl t_struck)), (a_t_torn, .inl (cI, 60, .inl (va_cpy p1_torn t_torn 0 0 60))), (a_t_waved, .inl (cZ, 60, .inl t_waved)), (a_p1, .inr (6, [.ref a_p1_facts, .ref a_p1_splits, .ref a_p1_torn, .ref a_p1_dropped, .ref a_p1_waved, .ref a_p1_struck, .ref a_p1_strikingOrder, .int p1_entered, .int p1_strikings])), (a_p1_dropped, .inl (cZ, 60, .inl p1_dropped)), (a_p1_facts, .inl (cI, 360, .inl p1_facts)), (a_p1_splits, .inl (cI, 720, .inl p1_splits)), (a_p1_strikingOrder, .inl (cI, 60, .inl p1_strikingOrder)), (a_p1_struck, .inl (cZ, 60, .inl p1_struck)), (a_p1_torn, .inl (cI, 60, .inl p1_torn)), (a_p1_waved, .inl (cZ, 60, .inl p1_waved))] := hD
  refine lv_aload_n hx hb dX6_copyFrom_47 rfl (lv_at hl 1 rfl) ?_
  refine va_get (D := D) (ci := 6) (C := RX6) (T := TX6) (N := 9) hx hb hts qX6_copyFrom_X6 hown hK hP 8 rfl rfl 6 (by decide) (hts _ kX6_copyFrom_8) (fun _ h9 => h9) rfl dX6_copyFrom_48 ?_
  refine lv_iconst (v := (nI 0)) hx hb dX6_copyFrom_51 rfl ?_
  refine lv_aload_n hx hb dX6_copyFrom_52 rfl (lv_at hl 0 rfl) ?_
  refine va_get (D := D) (ci := 6) (C := RX6) (T := TX6) (N := 9) hx hb hts qX6_copyFrom_X6 hown hK hP 0 rfl rfl 6 (by decide) (hts _ kX6_copyFrom_8) (fun _ h9 => h9) rfl dX6_copyFrom_53 ?_
  refine lv_iconst (v := (nI 0)) hx hb dX6_copyFrom_56 rfl ?_
  refine lv_bipush (v := (nI 60)) hx hb dX6_copyFrom_57 rfl ?_
  refine va_copyi (ty := .int) hx hb (hml.trans hl.1.symm) hown (hts _ kX6_copyFrom_2) (hts _ kX6_copyFrom_3) (hts _ kX6_copyFrom_4) (hts _ kX6_copyFrom_5) hK hP hD hS 12 4 1 1 rfl rfl rfl rfl rfl (by decide) (by decide) (by decide) (by decide) (by decide) (fun _ _ => rfl) (Nat.le_of_ble_eq_true rfl) (Nat.le_of_ble_eq_true rfl) dX6_copyFrom_59 (fun H locs hP hD hS => ?_)
  have hP : va_P D vwCl [(a_t, .inr (6, [.ref a_t_facts, .ref a_t_splits, .ref a_t_torn, .ref a_t_dropped, .ref a_t_waved, .ref a_t_struck, .ref a_t_strikingOrder, .int t_entered, .int t_strikings])), (a_t_dropped, .inl (cZ, 60, .inl t_dropped)), (a_t_facts, .inl (cI, 360, .inl (va_cpy p1_facts t_facts 0 0 360))), (a_t_splits, .inl (cI, 720, .inl (va_cpy p1_splits t_splits 0 0 720))), (a_t_strikingOrder, .inl (cI, 60, .inl (va_cpy p1_strikingOrder t_strikingOrder 0 0 60))), (a_t_struck, .inl (cZ, 60, .inl t_struck)), (a_t_torn, .inl (cI, 60, .inl (va_cpy p1_torn t_torn 0 0 60))), (a_t_waved, .inl (cZ, 60, .inl t_waved)), (a_p1, .inr (6, [.ref a_p1_facts, .ref a_p1_splits, .ref a_p1_torn, .ref a_p1_dropped, .ref a_p1_waved, .ref a_p1_struck, .ref a_p1_strikingOrder, .int p1_entered, .int p1_strikings])), (a_p1_dropped, .inl (cZ, 60, .inl p1_dropped)), (a_p1_facts, .inl (cI, 360, .inl p1_facts)), (a_p1_splits, .inl (cI, 720, .inl p1_splits)), (a_p1_strikingOrder, .inl (cI, 60, .inl p1_strikingOrder)), (a_p1_struck, .inl (cZ, 60, .inl p1_struck)), (a_p1_torn, .inl (cI, 60, .inl p1_torn)), (a_p1_waved, .inl (cZ, 60, .inl p1_waved))] H := hP
  have hD : va_D A [(a_t, .inr (6, [.ref a_t_facts, .ref a_t_splits, .ref a_t_torn, .ref a_t_dropped, .ref a_t_waved, .ref a_t_struck, .ref a_t_strikingOrder, .int t_entered, .int t_strikings])), (a_t_dropped, .inl (cZ, 60, .inl t_dropped)), (a_t_facts, .inl (cI, 360, .inl (va_cpy p1_facts t_facts 0 0 360))), (a_t_splits, .inl (cI, 720, .inl (va_cpy p1_splits t_splits 0 0 720))), (a_t_strikingOrder, .inl (cI, 60, .inl (va_cpy p1_strikingOrder t_strikingOrder 0 0 60))), (a_t_struck, .inl (cZ, 60, .inl t_struck)), (a_t_torn, .inl (cI, 60, .inl (va_cpy p1_torn t_torn 0 0 60))), (a_t_waved, .inl (cZ, 60, .inl t_waved)), (a_p1, .inr (6, [.ref a_p1_facts, .ref a_p1_splits, .ref a_p1_torn, .ref a_p1_dropped, .ref a_p1_waved, .ref a_p1_struck, .ref a_p1_strikingOrder, .int p1_entered, .int p1_strikings])), (a_p1_dropped, .inl (cZ, 60, .inl p1_dropped)), (a_p1_facts, .inl (cI, 360, .inl p1_facts)), (a_p1_splits, .inl (cI, 720, .inl p1_splits)), (a_p1_strikingOrder, .inl (cI, 60, .inl p1_strikingOrder)), (a_p1_struck, .inl (cZ, 60, .inl p1_struck)), (a_p1_torn, .inl (cI, 60, .inl p1_torn)), (a_p1_waved, .inl (cZ, 60, .inl p1_waved))] := hD
  refine lv_iconst (v := (nI 0)) hx hb dX6_copyFrom_62 rfl ?_
  refine lv_istore_n (lv' := [(2, .int (nI 0)), (0, .ref a_t), (1, .ref a_p1)]) hx hb dX6_copyFrom_63 rfl hl (by decide) rfl (fun ls hl => ?_)
  have X64_112 : ∀ (v2_64 : Int32) (t_dropped_l64 : Nat → Int32) (t_struck_l64 : Nat → Int32) (t_waved_l64 : Nat → Int32) (H : Heap) (locs : List Loc) (ls : Array Slot), some (p1_entered, p1_strikings, t_dropped_l64, (va_cpy p1_facts t_facts 0 0 360), (va_cpy p1_splits t_splits 0 0 720), (va_cpy p1_strikingOrder t_strikingOrder 0 0 60), t_struck_l64, (va_cpy p1_torn t_torn 0 0 60), t_waved_l64) = some (t_entered', t_strikings', t_dropped', t_facts', t_splits', t_strikingOrder', t_struck', t_torn', t_waved') → va_P D vwCl [(a_t, .inr (6, [.ref a_t_facts, .ref a_t_splits, .ref a_t_torn, .ref a_t_dropped, .ref a_t_waved, .ref a_t_struck, .ref a_t_strikingOrder, .int t_entered, .int t_strikings])), (a_t_dropped, .inl (cZ, 60, .inl t_dropped_l64)), (a_t_facts, .inl (cI, 360, .inl (va_cpy p1_facts t_facts 0 0 360))), (a_t_splits, .inl (cI, 720, .inl (va_cpy p1_splits t_splits 0 0 720))), (a_t_strikingOrder, .inl (cI, 60, .inl (va_cpy p1_strikingOrder t_strikingOrder 0 0 60))), (a_t_struck, .inl (cZ, 60, .inl t_struck_l64)), (a_t_torn, .inl (cI, 60, .inl (va_cpy p1_torn t_torn 0 0 60))), (a_t_waved, .inl (cZ, 60, .inl t_waved_l64)), (a_p1, .inr (6, [.ref a_p1_facts, .ref a_p1_splits, .ref a_p1_torn, .ref a_p1_dropped, .ref a_p1_waved, .ref a_p1_struck, .ref a_p1_strikingOrder, .int p1_entered, .int p1_strikings])), (a_p1_dropped, .inl (cZ, 60, .inl p1_dropped)), (a_p1_facts, .inl (cI, 360, .inl p1_facts)), (a_p1_splits, .inl (cI, 720, .inl p1_splits)), (a_p1_strikingOrder, .inl (cI, 60, .inl p1_strikingOrder)), (a_p1_struck, .inl (cZ, 60, .inl p1_struck)), (a_p1_torn, .inl (cI, 60, .inl p1_torn)), (a_p1_waved, .inl (cZ, 60, .inl p1_waved))] H → va_D A [(a_t, .inr (6, [.ref a_t_facts, .ref a_t_splits, .ref a_t_torn, .ref a_t_dropped, .ref a_t_waved, .ref a_t_struck, .ref a_t_strikingOrder, .int t_entered, .int t_strikings])), (a_t_dropped, .inl (cZ, 60, .inl t_dropped_l64)), (a_t_facts, .inl (cI, 360, .inl (va_cpy p1_facts t_facts 0 0 360))), (a_t_splits, .inl (cI, 720, .inl (va_cpy p1_splits t_splits 0 0 720))), (a_t_strikingOrder, .inl (cI, 60, .inl (va_cpy p1_strikingOrder t_strikingOrder 0 0 60))), (a_t_struck, .inl (cZ, 60, .inl t_struck_l64)), (a_t_torn, .inl (cI, 60, .inl (va_cpy p1_torn t_torn 0 0 60))), (a_t_waved, .inl (cZ, 60, .inl t_waved_l64)), (a_p1, .inr (6, [.ref a_p1_facts, .ref a_p1_splits, .ref a_p1_torn, .ref a_p1_dropped, .ref a_p1_waved, .ref a_p1_struck, .ref a_p1_strikingOrder, .int p1_entered, .int p1_strikings])), (a_p1_dropped, .inl (cZ, 60, .inl p1_dropped)), (a_p1_facts, .inl (cI, 360, .inl p1_facts)), (a_p1_splits, .inl (cI, 720, .inl p1_splits)), (a_p1_strikingOrder, .inl (cI, 60, .inl p1_strikingOrder)), (a_p1_struck, .inl (cZ, 60, .inl p1_struck)), (a_p1_torn, .inl (cI, 60, .inl p1_torn)), (a_p1_waved, .inl (cZ, 60, .inl p1_waved))] → va_S A s.heap H locs → lv_has ls 3 [(2, .int v2_64), (0, .ref a_t), (1, .ref a_p1)] → W p l e (headSpec wsX6_copyFrom ({ frames := 1, cells := 0, slots := 0, locals := 60 } : Room)).room s m #[Value.ref a_t, Value.ref a_p1] below meth c H locs 0 0 (MQ below (zQv D (zT cB cI cZ) [(a_t, .inr (6, [.ref a_t_facts, .ref a_t_splits, .ref a_t_torn, .ref a_t_dropped, .ref a_t_waved, .ref a_t_struck, .ref a_t_strikingOrder, .int t_entered', .int t_strikings'])), (a_t_dropped, .inl (cZ, 60, .inl t_dropped')), (a_t_facts, .inl (cI, 360, .inl t_facts')), (a_t_splits, .inl (cI, 720, .inl t_splits')), (a_t_strikingOrder, .inl (cI, 60, .inl t_strikingOrder')), (a_t_struck, .inl (cZ, 60, .inl t_struck')), (a_t_torn, .inl (cI, 60, .inl t_torn')), (a_t_waved, .inl (cZ, 60, .inl t_waved')), (a_p1, .inr (6, [.ref a_p1_facts, .ref a_p1_splits, .ref a_p1_torn, .ref a_p1_dropped, .ref a_p1_waved, .ref a_p1_struck, .ref a_p1_strikingOrder, .int p1_entered, .int p1_strikings])), (a_p1_dropped, .inl (cZ, 60, .inl p1_dropped)), (a_p1_facts, .inl (cI, 360, .inl p1_facts)), (a_p1_splits, .inl (cI, 720, .inl p1_splits)), (a_p1_strikingOrder, .inl (cI, 60, .inl p1_strikingOrder)), (a_p1_struck, .inl (cZ, 60, .inl p1_struck)), (a_p1_torn, .inl (cI, 60, .inl p1_torn)), (a_p1_waved, .inl (cZ, 60, .inl p1_waved))] A) #[Value.ref a_t, Value.ref a_p1] s 0 0 A) (F0 m 112 ls []) := by
    intro v2_64 t_dropped_l64 t_struck_l64 t_waved_l64 H locs ls h hP hD hS hl
    refine lv_aload_n hx hb dX6_copyFrom_112 rfl (lv_at hl 1 rfl) ?_
    refine lv_aload_n hx hb dX6_copyFrom_113 rfl (lv_at hl 2 rfl) ?_
    refine va_get (D := D) (ci := 6) (C := RX6) (T := TX6) (N := 9) hx hb hts qX6_copyFrom_X6 hown hK hP 8 rfl rfl 7 (by decide) (hts _ kX6_copyFrom_9) (fun _ h9 => h9) rfl dX6_copyFrom_114 ?_
    refine va_put (D := D) (ci := 6) (ty := .int) (C := RX6) (T := TX6) (N := 9) hx hb hts qX6_copyFrom_X6 tyX6 tyX6_ok nmX6 hown hK hP hD hS 0 rfl rfl 7 (by decide) (hts _ kX6_copyFrom_9) (fun _ h9 => h9) rfl (by decide +kernel) rfl (by first | rfl | exact zz_fit) (Nat.le_of_ble_eq_true rfl) dX6_copyFrom_117 (fun H locs hP hD hS => ?_)
    have hP : va_P D vwCl [(a_t, .inr (6, [.ref a_t_facts, .ref a_t_splits, .ref a_t_torn, .ref a_t_dropped, .ref a_t_waved, .ref a_t_struck, .ref a_t_strikingOrder, .int p1_entered, .int t_strikings])), (a_t_dropped, .inl (cZ, 60, .inl t_dropped_l64)), (a_t_facts, .inl (cI, 360, .inl (va_cpy p1_facts t_facts 0 0 360))), (a_t_splits, .inl (cI, 720, .inl (va_cpy p1_splits t_splits 0 0 720))), (a_t_strikingOrder, .inl (cI, 60, .inl (va_cpy p1_strikingOrder t_strikingOrder 0 0 60))), (a_t_struck, .inl (cZ, 60, .inl t_struck_l64)), (a_t_torn, .inl (cI, 60, .inl (va_cpy p1_torn t_torn 0 0 60))), (a_t_waved, .inl (cZ, 60, .inl t_waved_l64)), (a_p1, .inr (6, [.ref a_p1_facts, .ref a_p1_splits, .ref a_p1_torn, .ref a_p1_dropped, .ref a_p1_waved, .ref a_p1_struck, .ref a_p1_strikingOrder, .int p1_entered, .int p1_strikings])), (a_p1_dropped, .inl (cZ, 60, .inl p1_dropped)), (a_p1_facts, .inl (cI, 360, .inl p1_facts)), (a_p1_splits, .inl (cI, 720, .inl p1_splits)), (a_p1_strikingOrder, .inl (cI, 60, .inl p1_strikingOrder)), (a_p1_struck, .inl (cZ, 60, .inl p1_struck)), (a_p1_torn, .inl (cI, 60, .inl p1_torn)), (a_p1_waved, .inl (cZ, 60, .inl p1_waved))] H := hP
    have hD : va_D A [(a_t, .inr (6, [.ref a_t_facts, .ref a_t_splits, .ref a_t_torn, .ref a_t_dropped, .ref a_t_waved, .ref a_t_struck, .ref a_t_strikingOrder, .int p1_entered, .int t_strikings])), (a_t_dropped, .inl (cZ, 60, .inl t_dropped_l64)), (a_t_facts, .inl (cI, 360, .inl (va_cpy p1_facts t_facts 0 0 360))), (a_t_splits, .inl (cI, 720, .inl (va_cpy p1_splits t_splits 0 0 720))), (a_t_strikingOrder, .inl (cI, 60, .inl (va_cpy p1_strikingOrder t_strikingOrder 0 0 60))), (a_t_struck, .inl (cZ, 60, .inl t_struck_l64)), (a_t_torn, .inl (cI, 60, .inl (va_cpy p1_torn t_torn 0 0 60))), (a_t_waved, .inl (cZ, 60, .inl t_waved_l64)), (a_p1, .inr (6, [.ref a_p1_facts, .ref a_p1_splits, .ref a_p1_torn, .ref a_p1_dropped, .ref a_p1_waved, .ref a_p1_struck, .ref a_p1_strikingOrder, .int p1_entered, .int p1_strikings])), (a_p1_dropped, .inl (cZ, 60, .inl p1_dropped)), (a_p1_facts, .inl (cI, 360, .inl p1_facts)), (a_p1_splits, .inl (cI, 720, .inl p1_splits)), (a_p1_strikingOrder, .inl (cI, 60, .inl p1_strikingOrder)), (a_p1_struck, .inl (cZ, 60, .inl p1_struck)), (a_p1_torn, .inl (cI, 60, .inl p1_torn)), (a_p1_waved, .inl (cZ, 60, .inl p1_waved))] := hD
    refine lv_aload_n hx hb dX6_copyFrom_120 rfl (lv_at hl 1 rfl) ?_
    refine lv_aload_n hx hb dX6_copyFrom_121 rfl (lv_at hl 2 rfl) ?_
    refine va_get (D := D) (ci := 6) (C := RX6) (T := TX6) (N := 9) hx hb hts qX6_copyFrom_X6 hown hK hP 8 rfl rfl 8 (by decide) (hts _ kX6_copyFrom_10) (fun _ h9 => h9) rfl dX6_copyFrom_122 ?_
    refine va_put (D := D) (ci := 6) (ty := .int) (C := RX6) (T := TX6) (N := 9) hx hb hts qX6_copyFrom_X6 tyX6 tyX6_ok nmX6 hown hK hP hD hS 0 rfl rfl 8 (by decide) (hts _ kX6_copyFrom_10) (fun _ h9 => h9) rfl (by decide +kernel) rfl (by first | rfl | exact zz_fit) (Nat.le_of_ble_eq_true rfl) dX6_copyFrom_125 (fun H locs hP hD hS => ?_)
    have hP : va_P D vwCl [(a_t, .inr (6, [.ref a_t_facts, .ref a_t_splits, .ref a_t_torn, .ref a_t_dropped, .ref a_t_waved, .ref a_t_struck, .ref a_t_strikingOrder, .int p1_entered, .int p1_strikings])), (a_t_dropped, .inl (cZ, 60, .inl t_dropped_l64)), (a_t_facts, .inl (cI, 360, .inl (va_cpy p1_facts t_facts 0 0 360))), (a_t_splits, .inl (cI, 720, .inl (va_cpy p1_splits t_splits 0 0 720))), (a_t_strikingOrder, .inl (cI, 60, .inl (va_cpy p1_strikingOrder t_strikingOrder 0 0 60))), (a_t_struck, .inl (cZ, 60, .inl t_struck_l64)), (a_t_torn, .inl (cI, 60, .inl (va_cpy p1_torn t_torn 0 0 60))), (a_t_waved, .inl (cZ, 60, .inl t_waved_l64)), (a_p1, .inr (6, [.ref a_p1_facts, .ref a_p1_splits, .ref a_p1_torn, .ref a_p1_dropped, .ref a_p1_waved, .ref a_p1_struck, .ref a_p1_strikingOrder, .int p1_entered, .int p1_strikings])), (a_p1_dropped, .inl (cZ, 60, .inl p1_dropped)), (a_p1_facts, .inl (cI, 360, .inl p1_facts)), (a_p1_splits, .inl (cI, 720, .inl p1_splits)), (a_p1_strikingOrder, .inl (cI, 60, .inl p1_strikingOrder)), (a_p1_struck, .inl (cZ, 60, .inl p1_struck)), (a_p1_torn, .inl (cI, 60, .inl p1_torn)), (a_p1_waved, .inl (cZ, 60, .inl p1_waved))] H := hP
    have hD : va_D A [(a_t, .inr (6, [.ref a_t_facts, .ref a_t_splits, .ref a_t_torn, .ref a_t_dropped, .ref a_t_waved, .ref a_t_struck, .ref a_t_strikingOrder, .int p1_entered, .int p1_strikings])), (a_t_dropped, .inl (cZ, 60, .inl t_dropped_l64)), (a_t_facts, .inl (cI, 360, .inl (va_cpy p1_facts t_facts 0 0 360))), (a_t_splits, .inl (cI, 720, .inl (va_cpy p1_splits t_splits 0 0 720))), (a_t_strikingOrder, .inl (cI, 60, .inl (va_cpy p1_strikingOrder t_strikingOrder 0 0 60))), (a_t_struck, .inl (cZ, 60, .inl t_struck_l64)), (a_t_torn, .inl (cI, 60, .inl (va_cpy p1_torn t_torn 0 0 60))), (a_t_waved, .inl (cZ, 60, .inl t_waved_l64)), (a_p1, .inr (6, [.ref a_p1_facts, .ref a_p1_splits, .ref a_p1_torn, .ref a_p1_dropped, .ref a_p1_waved, .ref a_p1_struck, .ref a_p1_strikingOrder, .int p1_entered, .int p1_strikings])), (a_p1_dropped, .inl (cZ, 60, .inl p1_dropped)), (a_p1_facts, .inl (cI, 360, .inl p1_facts)), (a_p1_splits, .inl (cI, 720, .inl p1_splits)), (a_p1_strikingOrder, .inl (cI, 60, .inl p1_strikingOrder)), (a_p1_struck, .inl (cZ, 60, .inl p1_struck)), (a_p1_torn, .inl (cI, 60, .inl p1_torn)), (a_p1_waved, .inl (cZ, 60, .inl p1_waved))] := hD
    obtain ⟨j0_, g_⟩ := Prod.mk.inj (Option.some.inj h)
    obtain ⟨j1_, g_⟩ := Prod.mk.inj g_
    obtain ⟨j2_, g_⟩ := Prod.mk.inj g_
    obtain ⟨j3_, g_⟩ := Prod.mk.inj g_
    obtain ⟨j4_, g_⟩ := Prod.mk.inj g_
    obtain ⟨j5_, g_⟩ := Prod.mk.inj g_
    obtain ⟨j6_, g_⟩ := Prod.mk.inj g_
    obtain ⟨j7_, g_⟩ := Prod.mk.inj g_
    have j8_ := g_
    subst j0_
    subst j1_
    subst j2_
    subst j3_
    subst j4_
    subst j5_
    subst j6_
    subst j7_
    subst j8_
    exact W.vret hx hb hr (fun t ht hW => ⟨⟨(), rfl, trivial, zPost.of hP hD hK ht hW [0, 1, 2, 3, 4, 5, 6, 7, 8, 9, 10, 11, 12, 13, 14, 15] rfl rfl rfl⟩, hS.F ht⟩) hS.2.2 dX6_copyFrom_128
  have L64 : ∀ (n : Nat) (v2_64 : Int32) (t_dropped_l64 : Nat → Int32) (t_struck_l64 : Nat → Int32) (t_waved_l64 : Nat → Int32) (H : Heap) (locs : List Loc) (ls : Array Slot), fX6_copyFrom_L64 p1_dropped p1_struck p1_waved (fun (v2_64 : Int32) (t_dropped_l64 : Nat → Int32) (t_struck_l64 : Nat → Int32) (t_waved_l64 : Nat → Int32) => some (p1_entered, p1_strikings, t_dropped_l64, (va_cpy p1_facts t_facts 0 0 360), (va_cpy p1_splits t_splits 0 0 720), (va_cpy p1_strikingOrder t_strikingOrder 0 0 60), t_struck_l64, (va_cpy p1_torn t_torn 0 0 60), t_waved_l64)) n v2_64 t_dropped_l64 t_struck_l64 t_waved_l64 = some (t_entered', t_strikings', t_dropped', t_facts', t_splits', t_strikingOrder', t_struck', t_torn', t_waved') → va_P D vwCl [(a_t, .inr (6, [.ref a_t_facts, .ref a_t_splits, .ref a_t_torn, .ref a_t_dropped, .ref a_t_waved, .ref a_t_struck, .ref a_t_strikingOrder, .int t_entered, .int t_strikings])), (a_t_dropped, .inl (cZ, 60, .inl t_dropped_l64)), (a_t_facts, .inl (cI, 360, .inl (va_cpy p1_facts t_facts 0 0 360))), (a_t_splits, .inl (cI, 720, .inl (va_cpy p1_splits t_splits 0 0 720))), (a_t_strikingOrder, .inl (cI, 60, .inl (va_cpy p1_strikingOrder t_strikingOrder 0 0 60))), (a_t_struck, .inl (cZ, 60, .inl t_struck_l64)), (a_t_torn, .inl (cI, 60, .inl (va_cpy p1_torn t_torn 0 0 60))), (a_t_waved, .inl (cZ, 60, .inl t_waved_l64)), (a_p1, .inr (6, [.ref a_p1_facts, .ref a_p1_splits, .ref a_p1_torn, .ref a_p1_dropped, .ref a_p1_waved, .ref a_p1_struck, .ref a_p1_strikingOrder, .int p1_entered, .int p1_strikings])), (a_p1_dropped, .inl (cZ, 60, .inl p1_dropped)), (a_p1_facts, .inl (cI, 360, .inl p1_facts)), (a_p1_splits, .inl (cI, 720, .inl p1_splits)), (a_p1_strikingOrder, .inl (cI, 60, .inl p1_strikingOrder)), (a_p1_struck, .inl (cZ, 60, .inl p1_struck)), (a_p1_torn, .inl (cI, 60, .inl p1_torn)), (a_p1_waved, .inl (cZ, 60, .inl p1_waved))] H → va_D A [(a_t, .inr (6, [.ref a_t_facts, .ref a_t_splits, .ref a_t_torn, .ref a_t_dropped, .ref a_t_waved, .ref a_t_struck, .ref a_t_strikingOrder, .int t_entered, .int t_strikings])), (a_t_dropped, .inl (cZ, 60, .inl t_dropped_l64)), (a_t_facts, .inl (cI, 360, .inl (va_cpy p1_facts t_facts 0 0 360))), (a_t_splits, .inl (cI, 720, .inl (va_cpy p1_splits t_splits 0 0 720))), (a_t_strikingOrder, .inl (cI, 60, .inl (va_cpy p1_strikingOrder t_strikingOrder 0 0 60))), (a_t_struck, .inl (cZ, 60, .inl t_struck_l64)), (a_t_torn, .inl (cI, 60, .inl (va_cpy p1_torn t_torn 0 0 60))), (a_t_waved, .inl (cZ, 60, .inl t_waved_l64)), (a_p1, .inr (6, [.ref a_p1_facts, .ref a_p1_splits, .ref a_p1_torn, .ref a_p1_dropped, .ref a_p1_waved, .ref a_p1_struck, .ref a_p1_strikingOrder, .int p1_entered, .int p1_strikings])), (a_p1_dropped, .inl (cZ, 60, .inl p1_dropped)), (a_p1_facts, .inl (cI, 360, .inl p1_facts)), (a_p1_splits, .inl (cI, 720, .inl p1_splits)), (a_p1_strikingOrder, .inl (cI, 60, .inl p1_strikingOrder)), (a_p1_struck, .inl (cZ, 60, .inl p1_struck)), (a_p1_torn, .inl (cI, 60, .inl p1_torn)), (a_p1_waved, .inl (cZ, 60, .inl p1_waved))] → va_S A s.heap H locs → lv_has ls 3 [(2, .int v2_64), (0, .ref a_t), (1, .ref a_p1)] → W p l e (headSpec wsX6_copyFrom ({ frames := 1, cells := 0, slots := 0, locals := 60 } : Room)).room s m #[Value.ref a_t, Value.ref a_p1] below meth c H locs 0 0 (MQ below (zQv D (zT cB cI cZ) [(a_t, .inr (6, [.ref a_t_facts, .ref a_t_splits, .ref a_t_torn, .ref a_t_dropped, .ref a_t_waved, .ref a_t_struck, .ref a_t_strikingOrder, .int t_entered', .int t_strikings'])), (a_t_dropped, .inl (cZ, 60, .inl t_dropped')), (a_t_facts, .inl (cI, 360, .inl t_facts')), (a_t_splits, .inl (cI, 720, .inl t_splits')), (a_t_strikingOrder, .inl (cI, 60, .inl t_strikingOrder')), (a_t_struck, .inl (cZ, 60, .inl t_struck')), (a_t_torn, .inl (cI, 60, .inl t_torn')), (a_t_waved, .inl (cZ, 60, .inl t_waved')), (a_p1, .inr (6, [.ref a_p1_facts, .ref a_p1_splits, .ref a_p1_torn, .ref a_p1_dropped, .ref a_p1_waved, .ref a_p1_struck, .ref a_p1_strikingOrder, .int p1_entered, .int p1_strikings])), (a_p1_dropped, .inl (cZ, 60, .inl p1_dropped)), (a_p1_facts, .inl (cI, 360, .inl p1_facts)), (a_p1_splits, .inl (cI, 720, .inl p1_splits)), (a_p1_strikingOrder, .inl (cI, 60, .inl p1_strikingOrder)), (a_p1_struck, .inl (cZ, 60, .inl p1_struck)), (a_p1_torn, .inl (cI, 60, .inl p1_torn)), (a_p1_waved, .inl (cZ, 60, .inl p1_waved))] A) #[Value.ref a_t, Value.ref a_p1] s 0 0 A) (F0 m 64 ls []) := by
    intro n
    induction n with
    | zero => intro _ _ _ _ H locs ls h hP hD hS hl; cases h
    | succ n64 ih64 =>
      intro v2_64 t_dropped_l64 t_struck_l64 t_waved_l64 H locs ls h hP hD hS hl
      rw [fX6_copyFrom_L64.eq_2] at h
      refine lv_iload_n hx hb dX6_copyFrom_64 rfl (lv_at hl 0 rfl) ?_
      refine lv_bipush (v := (nI 60)) hx hb dX6_copyFrom_65 rfl ?_
      refine lv_icmp_ge (tgt := 112) hx hb dX6_copyFrom_67 (by decide) (fun c1 => ?_) (fun c1 => ?_)
      · have h := zz_t h c1
        exact X64_112 v2_64 t_dropped_l64 t_struck_l64 t_waved_l64 _ _ _ h (hP.sub [0, 1, 2, 3, 4, 5, 6, 7, 8, 9, 10, 11, 12, 13, 14, 15] rfl) (hD.sub [0, 1, 2, 3, 4, 5, 6, 7, 8, 9, 10, 11, 12, 13, 14, 15] rfl rfl) hS (lv_sub hl [0, 1, 2] rfl)
      · have h := zz_f h c1
        refine lv_aload_n hx hb dX6_copyFrom_70 rfl (lv_at hl 1 rfl) ?_
        refine va_get (D := D) (ci := 6) (C := RX6) (T := TX6) (N := 9) hx hb hts qX6_copyFrom_X6 hown hK hP 0 rfl rfl 3 (by decide) (hts _ kX6_copyFrom_11) (fun _ h9 => h9) rfl dX6_copyFrom_71 ?_
        refine lv_iload_n hx hb dX6_copyFrom_74 rfl (lv_at hl 0 rfl) ?_
        refine lv_aload_n hx hb dX6_copyFrom_75 rfl (lv_at hl 2 rfl) ?_
        refine va_get (D := D) (ci := 6) (C := RX6) (T := TX6) (N := 9) hx hb hts qX6_copyFrom_X6 hown hK hP 8 rfl rfl 3 (by decide) (hts _ kX6_copyFrom_11) (fun _ h9 => h9) rfl dX6_copyFrom_76 ?_
        refine lv_iload_n hx hb dX6_copyFrom_79 rfl (lv_at hl 0 rfl) ?_
        obtain ⟨i2, h⟩ := zz_i h
        refine va_zald hx hb hK hP 9 2 rfl rfl i2 dX6_copyFrom_80 ?_
        obtain ⟨i3, h⟩ := zz_i h
        refine va_zast hx hb hK hP hD hS 1 2 rfl rfl i3 dX6_copyFrom_81 (fun H locs hP hD hS => ?_)
        have hP : va_P D vwCl [(a_t, .inr (6, [.ref a_t_facts, .ref a_t_splits, .ref a_t_torn, .ref a_t_dropped, .ref a_t_waved, .ref a_t_struck, .ref a_t_strikingOrder, .int t_entered, .int t_strikings])), (a_t_dropped, .inl (cZ, 60, .inl (upd t_dropped_l64 (v2_64).toNatClampNeg (vp_nar .boolean (p1_dropped (v2_64).toNatClampNeg))))), (a_t_facts, .inl (cI, 360, .inl (va_cpy p1_facts t_facts 0 0 360))), (a_t_splits, .inl (cI, 720, .inl (va_cpy p1_splits t_splits 0 0 720))), (a_t_strikingOrder, .inl (cI, 60, .inl (va_cpy p1_strikingOrder t_strikingOrder 0 0 60))), (a_t_struck, .inl (cZ, 60, .inl t_struck_l64)), (a_t_torn, .inl (cI, 60, .inl (va_cpy p1_torn t_torn 0 0 60))), (a_t_waved, .inl (cZ, 60, .inl t_waved_l64)), (a_p1, .inr (6, [.ref a_p1_facts, .ref a_p1_splits, .ref a_p1_torn, .ref a_p1_dropped, .ref a_p1_waved, .ref a_p1_struck, .ref a_p1_strikingOrder, .int p1_entered, .int p1_strikings])), (a_p1_dropped, .inl (cZ, 60, .inl p1_dropped)), (a_p1_facts, .inl (cI, 360, .inl p1_facts)), (a_p1_splits, .inl (cI, 720, .inl p1_splits)), (a_p1_strikingOrder, .inl (cI, 60, .inl p1_strikingOrder)), (a_p1_struck, .inl (cZ, 60, .inl p1_struck)), (a_p1_torn, .inl (cI, 60, .inl p1_torn)), (a_p1_waved, .inl (cZ, 60, .inl p1_waved))] H := hP
        have hD : va_D A [(a_t, .inr (6, [.ref a_t_facts, .ref a_t_splits, .ref a_t_torn, .ref a_t_dropped, .ref a_t_waved, .ref a_t_struck, .ref a_t_strikingOrder, .int t_entered, .int t_strikings])), (a_t_dropped, .inl (cZ, 60, .inl (upd t_dropped_l64 (v2_64).toNatClampNeg (vp_nar .boolean (p1_dropped (v2_64).toNatClampNeg))))), (a_t_facts, .inl (cI, 360, .inl (va_cpy p1_facts t_facts 0 0 360))), (a_t_splits, .inl (cI, 720, .inl (va_cpy p1_splits t_splits 0 0 720))), (a_t_strikingOrder, .inl (cI, 60, .inl (va_cpy p1_strikingOrder t_strikingOrder 0 0 60))), (a_t_struck, .inl (cZ, 60, .inl t_struck_l64)), (a_t_torn, .inl (cI, 60, .inl (va_cpy p1_torn t_torn 0 0 60))), (a_t_waved, .inl (cZ, 60, .inl t_waved_l64)), (a_p1, .inr (6, [.ref a_p1_facts, .ref a_p1_splits, .ref a_p1_torn, .ref a_p1_dropped, .ref a_p1_waved, .ref a_p1_struck, .ref a_p1_strikingOrder, .int p1_entered, .int p1_strikings])), (a_p1_dropped, .inl (cZ, 60, .inl p1_dropped)), (a_p1_facts, .inl (cI, 360, .inl p1_facts)), (a_p1_splits, .inl (cI, 720, .inl p1_splits)), (a_p1_strikingOrder, .inl (cI, 60, .inl p1_strikingOrder)), (a_p1_struck, .inl (cZ, 60, .inl p1_struck)), (a_p1_torn, .inl (cI, 60, .inl p1_torn)), (a_p1_waved, .inl (cZ, 60, .inl p1_waved))] := hD
        refine lv_aload_n hx hb dX6_copyFrom_82 rfl (lv_at hl 1 rfl) ?_
        refine va_get (D := D) (ci := 6) (C := RX6) (T := TX6) (N := 9) hx hb hts qX6_copyFrom_X6 hown hK hP 0 rfl rfl 4 (by decide) (hts _ kX6_copyFrom_12) (fun _ h9 => h9) rfl dX6_copyFrom_83 ?_
        refine lv_iload_n hx hb dX6_copyFrom_86 rfl (lv_at hl 0 rfl) ?_
        refine lv_aload_n hx hb dX6_copyFrom_87 rfl (lv_at hl 2 rfl) ?_
        refine va_get (D := D) (ci := 6) (C := RX6) (T := TX6) (N := 9) hx hb hts qX6_copyFrom_X6 hown hK hP 8 rfl rfl 4 (by decide) (hts _ kX6_copyFrom_12) (fun _ h9 => h9) rfl dX6_copyFrom_88 ?_
        refine lv_iload_n hx hb dX6_copyFrom_91 rfl (lv_at hl 0 rfl) ?_
        obtain ⟨i4, h⟩ := zz_i h
        refine va_zald hx hb hK hP 15 2 rfl rfl i4 dX6_copyFrom_92 ?_
        obtain ⟨i5, h⟩ := zz_i h
        refine va_zast hx hb hK hP hD hS 7 2 rfl rfl i5 dX6_copyFrom_93 (fun H locs hP hD hS => ?_)
        have hP : va_P D vwCl [(a_t, .inr (6, [.ref a_t_facts, .ref a_t_splits, .ref a_t_torn, .ref a_t_dropped, .ref a_t_waved, .ref a_t_struck, .ref a_t_strikingOrder, .int t_entered, .int t_strikings])), (a_t_dropped, .inl (cZ, 60, .inl (upd t_dropped_l64 (v2_64).toNatClampNeg (vp_nar .boolean (p1_dropped (v2_64).toNatClampNeg))))), (a_t_facts, .inl (cI, 360, .inl (va_cpy p1_facts t_facts 0 0 360))), (a_t_splits, .inl (cI, 720, .inl (va_cpy p1_splits t_splits 0 0 720))), (a_t_strikingOrder, .inl (cI, 60, .inl (va_cpy p1_strikingOrder t_strikingOrder 0 0 60))), (a_t_struck, .inl (cZ, 60, .inl t_struck_l64)), (a_t_torn, .inl (cI, 60, .inl (va_cpy p1_torn t_torn 0 0 60))), (a_t_waved, .inl (cZ, 60, .inl (upd t_waved_l64 (v2_64).toNatClampNeg (vp_nar .boolean (p1_waved (v2_64).toNatClampNeg))))), (a_p1, .inr (6, [.ref a_p1_facts, .ref a_p1_splits, .ref a_p1_torn, .ref a_p1_dropped, .ref a_p1_waved, .ref a_p1_struck, .ref a_p1_strikingOrder, .int p1_entered, .int p1_strikings])), (a_p1_dropped, .inl (cZ, 60, .inl p1_dropped)), (a_p1_facts, .inl (cI, 360, .inl p1_facts)), (a_p1_splits, .inl (cI, 720, .inl p1_splits)), (a_p1_strikingOrder, .inl (cI, 60, .inl p1_strikingOrder)), (a_p1_struck, .inl (cZ, 60, .inl p1_struck)), (a_p1_torn, .inl (cI, 60, .inl p1_torn)), (a_p1_waved, .inl (cZ, 60, .inl p1_waved))] H := hP
        have hD : va_D A [(a_t, .inr (6, [.ref a_t_facts, .ref a_t_splits, .ref a_t_torn, .ref a_t_dropped, .ref a_t_waved, .ref a_t_struck, .ref a_t_strikingOrder, .int t_entered, .int t_strikings])), (a_t_dropped, .inl (cZ, 60, .inl (upd t_dropped_l64 (v2_64).toNatClampNeg (vp_nar .boolean (p1_dropped (v2_64).toNatClampNeg))))), (a_t_facts, .inl (cI, 360, .inl (va_cpy p1_facts t_facts 0 0 360))), (a_t_splits, .inl (cI, 720, .inl (va_cpy p1_splits t_splits 0 0 720))), (a_t_strikingOrder, .inl (cI, 60, .inl (va_cpy p1_strikingOrder t_strikingOrder 0 0 60))), (a_t_struck, .inl (cZ, 60, .inl t_struck_l64)), (a_t_torn, .inl (cI, 60, .inl (va_cpy p1_torn t_torn 0 0 60))), (a_t_waved, .inl (cZ, 60, .inl (upd t_waved_l64 (v2_64).toNatClampNeg (vp_nar .boolean (p1_waved (v2_64).toNatClampNeg))))), (a_p1, .inr (6, [.ref a_p1_facts, .ref a_p1_splits, .ref a_p1_torn, .ref a_p1_dropped, .ref a_p1_waved, .ref a_p1_struck, .ref a_p1_strikingOrder, .int p1_entered, .int p1_strikings])), (a_p1_dropped, .inl (cZ, 60, .inl p1_dropped)), (a_p1_facts, .inl (cI, 360, .inl p1_facts)), (a_p1_splits, .inl (cI, 720, .inl p1_splits)), (a_p1_strikingOrder, .inl (cI, 60, .inl p1_strikingOrder)), (a_p1_struck, .inl (cZ, 60, .inl p1_struck)), (a_p1_torn, .inl (cI, 60, .inl p1_torn)), (a_p1_waved, .inl (cZ, 60, .inl p1_waved))] := hD
        refine lv_aload_n hx hb dX6_copyFrom_94 rfl (lv_at hl 1 rfl) ?_
        refine va_get (D := D) (ci := 6) (C := RX6) (T := TX6) (N := 9) hx hb hts qX6_copyFrom_X6 hown hK hP 0 rfl rfl 5 (by decide) (hts _ kX6_copyFrom_13) (fun _ h9 => h9) rfl dX6_copyFrom_95 ?_
        refine lv_iload_n hx hb dX6_copyFrom_98 rfl (lv_at hl 0 rfl) ?_
        refine lv_aload_n hx hb dX6_copyFrom_99 rfl (lv_at hl 2 rfl) ?_
        refine va_get (D := D) (ci := 6) (C := RX6) (T := TX6) (N := 9) hx hb hts qX6_copyFrom_X6 hown hK hP 8 rfl rfl 5 (by decide) (hts _ kX6_copyFrom_13) (fun _ h9 => h9) rfl dX6_copyFrom_100 ?_
        refine lv_iload_n hx hb dX6_copyFrom_103 rfl (lv_at hl 0 rfl) ?_
        obtain ⟨i6, h⟩ := zz_i h
        refine va_zald hx hb hK hP 13 2 rfl rfl i6 dX6_copyFrom_104 ?_
        obtain ⟨i7, h⟩ := zz_i h
        refine va_zast hx hb hK hP hD hS 5 2 rfl rfl i7 dX6_copyFrom_105 (fun H locs hP hD hS => ?_)
        have hP : va_P D vwCl [(a_t, .inr (6, [.ref a_t_facts, .ref a_t_splits, .ref a_t_torn, .ref a_t_dropped, .ref a_t_waved, .ref a_t_struck, .ref a_t_strikingOrder, .int t_entered, .int t_strikings])), (a_t_dropped, .inl (cZ, 60, .inl (upd t_dropped_l64 (v2_64).toNatClampNeg (vp_nar .boolean (p1_dropped (v2_64).toNatClampNeg))))), (a_t_facts, .inl (cI, 360, .inl (va_cpy p1_facts t_facts 0 0 360))), (a_t_splits, .inl (cI, 720, .inl (va_cpy p1_splits t_splits 0 0 720))), (a_t_strikingOrder, .inl (cI, 60, .inl (va_cpy p1_strikingOrder t_strikingOrder 0 0 60))), (a_t_struck, .inl (cZ, 60, .inl (upd t_struck_l64 (v2_64).toNatClampNeg (vp_nar .boolean (p1_struck (v2_64).toNatClampNeg))))), (a_t_torn, .inl (cI, 60, .inl (va_cpy p1_torn t_torn 0 0 60))), (a_t_waved, .inl (cZ, 60, .inl (upd t_waved_l64 (v2_64).toNatClampNeg (vp_nar .boolean (p1_waved (v2_64).toNatClampNeg))))), (a_p1, .inr (6, [.ref a_p1_facts, .ref a_p1_splits, .ref a_p1_torn, .ref a_p1_dropped, .ref a_p1_waved, .ref a_p1_struck, .ref a_p1_strikingOrder, .int p1_entered, .int p1_strikings])), (a_p1_dropped, .inl (cZ, 60, .inl p1_dropped)), (a_p1_facts, .inl (cI, 360, .inl p1_facts)), (a_p1_splits, .inl (cI, 720, .inl p1_splits)), (a_p1_strikingOrder, .inl (cI, 60, .inl p1_strikingOrder)), (a_p1_struck, .inl (cZ, 60, .inl p1_struck)), (a_p1_torn, .inl (cI, 60, .inl p1_torn)), (a_p1_waved, .inl (cZ, 60, .inl p1_waved))] H := hP
        have hD : va_D A [(a_t, .inr (6, [.ref a_t_facts, .ref a_t_splits, .ref a_t_torn, .ref a_t_dropped, .ref a_t_waved, .ref a_t_struck, .ref a_t_strikingOrder, .int t_entered, .int t_strikings])), (a_t_dropped, .inl (cZ, 60, .inl (upd t_dropped_l64 (v2_64).toNatClampNeg (vp_nar .boolean (p1_dropped (v2_64).toNatClampNeg))))), (a_t_facts, .inl (cI, 360, .inl (va_cpy p1_facts t_facts 0 0 360))), (a_t_splits, .inl (cI, 720, .inl (va_cpy p1_splits t_splits 0 0 720))), (a_t_strikingOrder, .inl (cI, 60, .inl (va_cpy p1_strikingOrder t_strikingOrder 0 0 60))), (a_t_struck, .inl (cZ, 60, .inl (upd t_struck_l64 (v2_64).toNatClampNeg (vp_nar .boolean (p1_struck (v2_64).toNatClampNeg))))), (a_t_torn, .inl (cI, 60, .inl (va_cpy p1_torn t_torn 0 0 60))), (a_t_waved, .inl (cZ, 60, .inl (upd t_waved_l64 (v2_64).toNatClampNeg (vp_nar .boolean (p1_waved (v2_64).toNatClampNeg))))), (a_p1, .inr (6, [.ref a_p1_facts, .ref a_p1_splits, .ref a_p1_torn, .ref a_p1_dropped, .ref a_p1_waved, .ref a_p1_struck, .ref a_p1_strikingOrder, .int p1_entered, .int p1_strikings])), (a_p1_dropped, .inl (cZ, 60, .inl p1_dropped)), (a_p1_facts, .inl (cI, 360, .inl p1_facts)), (a_p1_splits, .inl (cI, 720, .inl p1_splits)), (a_p1_strikingOrder, .inl (cI, 60, .inl p1_strikingOrder)), (a_p1_struck, .inl (cZ, 60, .inl p1_struck)), (a_p1_torn, .inl (cI, 60, .inl p1_torn)), (a_p1_waved, .inl (cZ, 60, .inl p1_waved))] := hD
        refine lv_iinc (v := (v2_64 + (nI 1))) (lv' := [(2, .int (v2_64 + (nI 1))), (0, .ref a_t), (1, .ref a_p1)]) hx hb dX6_copyFrom_106 hl (k := 0) rfl rfl (by decide) rfl (fun ls hl => ?_)
        refine lv_goto (tgt := 64) hx hb dX6_copyFrom_109 (by decide) ?_
        exact ih64 (v2_64 + (nI 1)) (upd t_dropped_l64 (v2_64).toNatClampNeg (vp_nar .boolean (p1_dropped (v2_64).toNatClampNeg))) (upd t_struck_l64 (v2_64).toNatClampNeg (vp_nar .boolean (p1_struck (v2_64).toNatClampNeg))) (upd t_waved_l64 (v2_64).toNatClampNeg (vp_nar .boolean (p1_waved (v2_64).toNatClampNeg))) _ _ _ h (hP.sub [0, 1, 2, 3, 4, 5, 6, 7, 8, 9, 10, 11, 12, 13, 14, 15] rfl) (hD.sub [0, 1, 2, 3, 4, 5, 6, 7, 8, 9, 10, 11, 12, 13, 14, 15] rfl rfl) hS (lv_sub hl [0, 1, 2] rfl)
  exact L64 N (nI 0) t_dropped t_struck t_waved _ _ _ h hP hD hS hl
/-! RunDesk$Race.copyFrom -/
theorem dX4_copyFrom_0 : decode cX4_copyFrom 0 = .ok (.aload_n 0, 1) := by decide +kernel
theorem dX4_copyFrom_1 : decode cX4_copyFrom 1 = .ok (.getfield 12, 3) := by decide +kernel
theorem dX4_copyFrom_4 : decode cX4_copyFrom 4 = .ok (.aload_n 1, 1) := by decide +kernel
theorem dX4_copyFrom_5 : decode cX4_copyFrom 5 = .ok (.getfield 12, 3) := by decide +kernel
theorem dX4_copyFrom_8 : decode cX4_copyFrom 8 = .ok (.invokevirtual 41, 3) := by decide +kernel
theorem dX4_copyFrom_11 : decode cX4_copyFrom 11 = .ok (.aload_n 0, 1) := by decide +kernel
theorem dX4_copyFrom_12 : decode cX4_copyFrom 12 = .ok (.getfield 21, 3) := by decide +kernel
theorem dX4_copyFrom_15 : decode cX4_copyFrom 15 = .ok (.aload_n 1, 1) := by decide +kernel
theorem dX4_copyFrom_16 : decode cX4_copyFrom 16 = .ok (.getfield 21, 3) := by decide +kernel
theorem dX4_copyFrom_19 : decode cX4_copyFrom 19 = .ok (.invokevirtual 45, 3) := by decide +kernel
theorem dX4_copyFrom_22 : decode cX4_copyFrom 22 = .ok (.aload_n 0, 1) := by decide +kernel
theorem dX4_copyFrom_23 : decode cX4_copyFrom 23 = .ok (.getfield 28, 3) := by decide +kernel
theorem dX4_copyFrom_26 : decode cX4_copyFrom 26 = .ok (.aload_n 1, 1) := by decide +kernel
theorem dX4_copyFrom_27 : decode cX4_copyFrom 27 = .ok (.getfield 28, 3) := by decide +kernel
theorem dX4_copyFrom_30 : decode cX4_copyFrom 30 = .ok (.invokevirtual 48, 3) := by decide +kernel
theorem dX4_copyFrom_33 : decode cX4_copyFrom 33 = .ok (.return_, 1) := by decide +kernel
set_option maxRecDepth 20000 in
theorem ggX4_copyFrom_X9_copyFrom : GoodIn wsX4_copyFrom wsX9_copyFrom := goodIn_r _ [8, 9, 10, 11, 12, 13, 14, 15, 16, 17, 43, 44, 45, 46, 47] (by decide +kernel) (by decide +kernel)
set_option maxRecDepth 20000 in
theorem gX4_copyFrom_X9_copyFrom : GoodIn wsX4_copyFrom (wsV RX4 41 RX9 yX9_copyFrom wsX9_copyFrom) := goodIn_app (goodIn_of _ (by decide +kernel)) ggX4_copyFrom_X9_copyFrom
set_option maxRecDepth 20000 in
theorem ggX4_copyFrom_X2_copyFrom : GoodIn wsX4_copyFrom wsX2_copyFrom := goodIn_r _ [22, 23, 24, 11, 12, 13, 48] (by decide +kernel) (by decide +kernel)
set_option maxRecDepth 20000 in
theorem gX4_copyFrom_X2_copyFrom : GoodIn wsX4_copyFrom (wsV RX4 45 RX2 yX2_copyFrom wsX2_copyFrom) := goodIn_app (goodIn_of _ (by decide +kernel)) ggX4_copyFrom_X2_copyFrom
set_option maxRecDepth 20000 in
theorem ggX4_copyFrom_X6_copyFrom : GoodIn wsX4_copyFrom wsX6_copyFrom := goodIn_r _ [29, 30, 31, 11, 12, 13, 32, 33, 34, 35, 36, 37, 38, 39, 49, 50, 51, 52, 53, 54, 55, 56, 57] (by decide +kernel) (by decide +kernel)
set_option maxRecDepth 20000 in
theorem gX4_copyFrom_X6_copyFrom : GoodIn wsX4_copyFrom (wsV RX4 48 RX6 yX6_copyFrom wsX6_copyFrom) := goodIn_app (goodIn_of _ (by decide +kernel)) ggX4_copyFrom_X6_copyFrom
theorem kX4_copyFrom_0 : (.fieldLink RX4 12 "RunDesk$Race" "way" "LRunDesk$Way;" : Cond) ∈ wsX4_copyFrom := List.mem_of_getElem? (i := 1) (by decide +kernel)
theorem qX4_copyFrom_X4 : ∀ w ∈ wsX40, w ∈ wsX4_copyFrom := fun _ h => List.mem_cons_of_mem _ (List.mem_append_left _ (List.mem_append_left _ (List.mem_append_left _ (List.mem_append_right _ (h)))))
theorem kX4_copyFrom_2 : (.fieldLink RX4 21 "RunDesk$Race" "guns" "LRunDesk$Guns;" : Cond) ∈ wsX4_copyFrom := List.mem_of_getElem? (i := 2) (by decide +kernel)
theorem kX4_copyFrom_3 : (.fieldLink RX4 28 "RunDesk$Race" "runners" "LRunDesk$Runners;" : Cond) ∈ wsX4_copyFrom := List.mem_of_getElem? (i := 3) (by decide +kernel)
set_option maxHeartbeats 4000000 in
set_option maxRecDepth 100000 in
theorem mX4_copyFrom (l : Launch) (D : va_G) (cB cI cZ : ClassId) (a_t : Nat) (a_p1 : Nat) (a_t_way : Nat) (a_t_guns : Nat) (a_t_runners : Nat) (a_t_guns_ticks : Nat) (a_t_runners_facts : Nat) (a_t_runners_splits : Nat) (a_t_runners_torn : Nat) (a_t_runners_dropped : Nat) (a_t_runners_waved : Nat) (a_t_runners_struck : Nat) (a_t_runners_strikingOrder : Nat) (a_t_way_places : Nat) (a_t_way_bearings : Nat) (a_t_way_cuts : Nat) (a_t_way_deaths : Nat) (a_p1_way : Nat) (a_p1_guns : Nat) (a_p1_runners : Nat) (a_p1_guns_ticks : Nat) (a_p1_runners_facts : Nat) (a_p1_runners_splits : Nat) (a_p1_runners_torn : Nat) (a_p1_runners_dropped : Nat) (a_p1_runners_waved : Nat) (a_p1_runners_struck : Nat) (a_p1_runners_strikingOrder : Nat) (a_p1_way_places : Nat) (a_p1_way_bearings : Nat) (a_p1_way_cuts : Nat) (a_p1_way_deaths : Nat) (t_guns_ticks : Nat → Int32) (t_runners_entered : Int32) (t_runners_strikings : Int32) (t_runners_dropped : Nat → Int32) (t_runners_facts : Nat → Int32) (t_runners_splits : Nat → Int32) (t_runners_strikingOrder : Nat → Int32) (t_runners_struck : Nat → Int32) (t_runners_torn : Nat → Int32) (t_runners_waved : Nat → Int32) (t_way_mats : Int32) (t_way_bearings : Nat → Int32) (t_way_cuts : Nat → Int32) (t_way_deaths : Nat → Int32) (t_way_places : Nat → Int32) (p1_guns_ticks : Nat → Int32) (p1_runners_entered : Int32) (p1_runners_strikings : Int32) (p1_runners_dropped : Nat → Int32) (p1_runners_facts : Nat → Int32) (p1_runners_splits : Nat → Int32) (p1_runners_strikingOrder : Nat → Int32) (p1_runners_struck : Nat → Int32) (p1_runners_torn : Nat → Int32) (p1_runners_waved : Nat → Int32) (p1_way_mats : Int32) (p1_way_bearings : Nat → Int32) (p1_way_cuts : Nat → Int32) (p1_way_deaths : Nat → Int32) (p1_way_places : Nat → Int32) (sz : Nat) (N : Nat) (t_guns_ticks' : Nat → Int32) (t_runners_entered' : Int32) (t_runners_strikings' : Int32) (t_runners_dropped' : Nat → Int32) (t_runners_facts' : Nat → Int32) (t_runners_splits' : Nat → Int32) (t_runners_strikingOrder' : Nat → Int32) (t_runners_struck' : Nat → Int32) (t_runners_torn' : Nat → Int32) (t_runners_waved' : Nat → Int32) (t_way_mats' : Int32) (t_way_bearings' : Nat → Int32) (t_way_cuts' : Nat → Int32) (t_way_deaths' : Nat → Int32) (t_way_places' : Nat → Int32) (h : fX4_copyFrom N t_guns_ticks t_runners_entered t_runners_strikings t_runners_dropped t_runners_facts t_runners_splits t_runners_strikingOrder t_runners_struck t_runners_torn t_runners_waved t_way_mats t_way_bearings t_way_cuts t_way_deaths t_way_places p1_guns_ticks p1_runners_entered p1_runners_strikings p1_runners_dropped p1_runners_facts p1_runners_splits p1_runners_strikingOrder p1_runners_struck p1_runners_torn p1_runners_waved p1_way_mats p1_way_bearings p1_way_cuts p1_way_deaths p1_way_places = some (t_guns_ticks', t_runners_entered', t_runners_strikings', t_runners_dropped', t_runners_facts', t_runners_splits', t_runners_strikingOrder', t_runners_struck', t_runners_torn', t_runners_waved', t_way_mats', t_way_bearings', t_way_cuts', t_way_deaths', t_way_places')) : Met l yX4_copyFrom wsX4_copyFrom ({ frames := 2, cells := 0, slots := 0, locals := 82 } : Room) (va_Pc [.ref a_t, .ref a_p1] (zPre D (zT cB cI cZ) [(a_t, .inr (4, [.ref a_t_way, .ref a_t_guns, .ref a_t_runners])), (a_t_guns, .inr (2, [.ref a_t_guns_ticks])), (a_t_guns_ticks, .inl (cI, 6, .inl t_guns_ticks)), (a_t_runners, .inr (6, [.ref a_t_runners_facts, .ref a_t_runners_splits, .ref a_t_runners_torn, .ref a_t_runners_dropped, .ref a_t_runners_waved, .ref a_t_runners_struck, .ref a_t_runners_strikingOrder, .int t_runners_entered, .int t_runners_strikings])), (a_t_runners_dropped, .inl (cZ, 60, .inl t_runners_dropped)), (a_t_runners_facts, .inl (cI, 360, .inl t_runners_facts)), (a_t_runners_splits, .inl (cI, 720, .inl t_runners_splits)), (a_t_runners_strikingOrder, .inl (cI, 60, .inl t_runners_strikingOrder)), (a_t_runners_struck, .inl (cZ, 60, .inl t_runners_struck)), (a_t_runners_torn, .inl (cI, 60, .inl t_runners_torn)), (a_t_runners_waved, .inl (cZ, 60, .inl t_runners_waved)), (a_t_way, .inr (9, [.ref a_t_way_places, .ref a_t_way_bearings, .ref a_t_way_cuts, .ref a_t_way_deaths, .int t_way_mats])), (a_t_way_bearings, .inl (cI, 12, .inl t_way_bearings)), (a_t_way_cuts, .inl (cI, 12, .inl t_way_cuts)), (a_t_way_deaths, .inl (cZ, 12, .inl t_way_deaths)), (a_t_way_places, .inl (cI, 12, .inl t_way_places)), (a_p1, .inr (4, [.ref a_p1_way, .ref a_p1_guns, .ref a_p1_runners])), (a_p1_guns, .inr (2, [.ref a_p1_guns_ticks])), (a_p1_guns_ticks, .inl (cI, 6, .inl p1_guns_ticks)), (a_p1_runners, .inr (6, [.ref a_p1_runners_facts, .ref a_p1_runners_splits, .ref a_p1_runners_torn, .ref a_p1_runners_dropped, .ref a_p1_runners_waved, .ref a_p1_runners_struck, .ref a_p1_runners_strikingOrder, .int p1_runners_entered, .int p1_runners_strikings])), (a_p1_runners_dropped, .inl (cZ, 60, .inl p1_runners_dropped)), (a_p1_runners_facts, .inl (cI, 360, .inl p1_runners_facts)), (a_p1_runners_splits, .inl (cI, 720, .inl p1_runners_splits)), (a_p1_runners_strikingOrder, .inl (cI, 60, .inl p1_runners_strikingOrder)), (a_p1_runners_struck, .inl (cZ, 60, .inl p1_runners_struck)), (a_p1_runners_torn, .inl (cI, 60, .inl p1_runners_torn)), (a_p1_runners_waved, .inl (cZ, 60, .inl p1_runners_waved)), (a_p1_way, .inr (9, [.ref a_p1_way_places, .ref a_p1_way_bearings, .ref a_p1_way_cuts, .ref a_p1_way_deaths, .int p1_way_mats])), (a_p1_way_bearings, .inl (cI, 12, .inl p1_way_bearings)), (a_p1_way_cuts, .inl (cI, 12, .inl p1_way_cuts)), (a_p1_way_deaths, .inl (cZ, 12, .inl p1_way_deaths)), (a_p1_way_places, .inl (cI, 12, .inl p1_way_places))] sz)) (zQv D (zT cB cI cZ) [(a_t, .inr (4, [.ref a_t_way, .ref a_t_guns, .ref a_t_runners])), (a_t_guns, .inr (2, [.ref a_t_guns_ticks])), (a_t_guns_ticks, .inl (cI, 6, .inl t_guns_ticks')), (a_t_runners, .inr (6, [.ref a_t_runners_facts, .ref a_t_runners_splits, .ref a_t_runners_torn, .ref a_t_runners_dropped, .ref a_t_runners_waved, .ref a_t_runners_struck, .ref a_t_runners_strikingOrder, .int t_runners_entered', .int t_runners_strikings'])), (a_t_runners_dropped, .inl (cZ, 60, .inl t_runners_dropped')), (a_t_runners_facts, .inl (cI, 360, .inl t_runners_facts')), (a_t_runners_splits, .inl (cI, 720, .inl t_runners_splits')), (a_t_runners_strikingOrder, .inl (cI, 60, .inl t_runners_strikingOrder')), (a_t_runners_struck, .inl (cZ, 60, .inl t_runners_struck')), (a_t_runners_torn, .inl (cI, 60, .inl t_runners_torn')), (a_t_runners_waved, .inl (cZ, 60, .inl t_runners_waved')), (a_t_way, .inr (9, [.ref a_t_way_places, .ref a_t_way_bearings, .ref a_t_way_cuts, .ref a_t_way_deaths, .int t_way_mats'])), (a_t_way_bearings, .inl (cI, 12, .inl t_way_bearings')), (a_t_way_cuts, .inl (cI, 12, .inl t_way_cuts')), (a_t_way_deaths, .inl (cZ, 12, .inl t_way_deaths')), (a_t_way_places, .inl (cI, 12, .inl t_way_places')), (a_p1, .inr (4, [.ref a_p1_way, .ref a_p1_guns, .ref a_p1_runners])), (a_p1_guns, .inr (2, [.ref a_p1_guns_ticks])), (a_p1_guns_ticks, .inl (cI, 6, .inl p1_guns_ticks)), (a_p1_runners, .inr (6, [.ref a_p1_runners_facts, .ref a_p1_runners_splits, .ref a_p1_runners_torn, .ref a_p1_runners_dropped, .ref a_p1_runners_waved, .ref a_p1_runners_struck, .ref a_p1_runners_strikingOrder, .int p1_runners_entered, .int p1_runners_strikings])), (a_p1_runners_dropped, .inl (cZ, 60, .inl p1_runners_dropped)), (a_p1_runners_facts, .inl (cI, 360, .inl p1_runners_facts)), (a_p1_runners_splits, .inl (cI, 720, .inl p1_runners_splits)), (a_p1_runners_strikingOrder, .inl (cI, 60, .inl p1_runners_strikingOrder)), (a_p1_runners_struck, .inl (cZ, 60, .inl p1_runners_struck)), (a_p1_runners_torn, .inl (cI, 60, .inl p1_runners_torn)), (a_p1_runners_waved, .inl (cZ, 60, .inl p1_runners_waved)), (a_p1_way, .inr (9, [.ref a_p1_way_places, .ref a_p1_way_bearings, .ref a_p1_way_cuts, .ref a_p1_way_deaths, .int p1_way_mats])), (a_p1_way_bearings, .inl (cI, 12, .inl p1_way_bearings)), (a_p1_way_cuts, .inl (cI, 12, .inl p1_way_cuts)), (a_p1_way_deaths, .inl (cZ, 12, .inl p1_way_deaths)), (a_p1_way_places, .inl (cI, 12, .inl p1_way_places))] (va_A [(a_t, .inr (4, [.ref a_t_way, .ref a_t_guns, .ref a_t_runners])), (a_t_guns, .inr (2, [.ref a_t_guns_ticks])), (a_t_guns_ticks, .inl (cI, 6, .inl t_guns_ticks)), (a_t_runners, .inr (6, [.ref a_t_runners_facts, .ref a_t_runners_splits, .ref a_t_runners_torn, .ref a_t_runners_dropped, .ref a_t_runners_waved, .ref a_t_runners_struck, .ref a_t_runners_strikingOrder, .int t_runners_entered, .int t_runners_strikings])), (a_t_runners_dropped, .inl (cZ, 60, .inl t_runners_dropped)), (a_t_runners_facts, .inl (cI, 360, .inl t_runners_facts)), (a_t_runners_splits, .inl (cI, 720, .inl t_runners_splits)), (a_t_runners_strikingOrder, .inl (cI, 60, .inl t_runners_strikingOrder)), (a_t_runners_struck, .inl (cZ, 60, .inl t_runners_struck)), (a_t_runners_torn, .inl (cI, 60, .inl t_runners_torn)), (a_t_runners_waved, .inl (cZ, 60, .inl t_runners_waved)), (a_t_way, .inr (9, [.ref a_t_way_places, .ref a_t_way_bearings, .ref a_t_way_cuts, .ref a_t_way_deaths, .int t_way_mats])), (a_t_way_bearings, .inl (cI, 12, .inl t_way_bearings)), (a_t_way_cuts, .inl (cI, 12, .inl t_way_cuts)), (a_t_way_deaths, .inl (cZ, 12, .inl t_way_deaths)), (a_t_way_places, .inl (cI, 12, .inl t_way_places)), (a_p1, .inr (4, [.ref a_p1_way, .ref a_p1_guns, .ref a_p1_runners])), (a_p1_guns, .inr (2, [.ref a_p1_guns_ticks])), (a_p1_guns_ticks, .inl (cI, 6, .inl p1_guns_ticks)), (a_p1_runners, .inr (6, [.ref a_p1_runners_facts, .ref a_p1_runners_splits, .ref a_p1_runners_torn, .ref a_p1_runners_dropped, .ref a_p1_runners_waved, .ref a_p1_runners_struck, .ref a_p1_runners_strikingOrder, .int p1_runners_entered, .int p1_runners_strikings])), (a_p1_runners_dropped, .inl (cZ, 60, .inl p1_runners_dropped)), (a_p1_runners_facts, .inl (cI, 360, .inl p1_runners_facts)), (a_p1_runners_splits, .inl (cI, 720, .inl p1_runners_splits)), (a_p1_runners_strikingOrder, .inl (cI, 60, .inl p1_runners_strikingOrder)), (a_p1_runners_struck, .inl (cZ, 60, .inl p1_runners_struck)), (a_p1_runners_torn, .inl (cI, 60, .inl p1_runners_torn)), (a_p1_runners_waved, .inl (cZ, 60, .inl p1_runners_waved)), (a_p1_way, .inr (9, [.ref a_p1_way_places, .ref a_p1_way_bearings, .ref a_p1_way_cuts, .ref a_p1_way_deaths, .int p1_way_mats])), (a_p1_way_bearings, .inl (cI, 12, .inl p1_way_bearings)), (a_p1_way_cuts, .inl (cI, 12, .inl p1_way_cuts)), (a_p1_way_deaths, .inl (cZ, 12, .inl p1_way_deaths)), (a_p1_way_places, .inl (cI, 12, .inl p1_way_places))] sz)) 0 0 (va_A [(a_t, .inr (4, [.ref a_t_way, .ref a_t_guns, .ref a_t_runners])), (a_t_guns, .inr (2, [.ref a_t_guns_ticks])), (a_t_guns_ticks, .inl (cI, 6, .inl t_guns_ticks)), (a_t_runners, .inr (6, [.ref a_t_runners_facts, .ref a_t_runners_splits, .ref a_t_runners_torn, .ref a_t_runners_dropped, .ref a_t_runners_waved, .ref a_t_runners_struck, .ref a_t_runners_strikingOrder, .int t_runners_entered, .int t_runners_strikings])), (a_t_runners_dropped, .inl (cZ, 60, .inl t_runners_dropped)), (a_t_runners_facts, .inl (cI, 360, .inl t_runners_facts)), (a_t_runners_splits, .inl (cI, 720, .inl t_runners_splits)), (a_t_runners_strikingOrder, .inl (cI, 60, .inl t_runners_strikingOrder)), (a_t_runners_struck, .inl (cZ, 60, .inl t_runners_struck)), (a_t_runners_torn, .inl (cI, 60, .inl t_runners_torn)), (a_t_runners_waved, .inl (cZ, 60, .inl t_runners_waved)), (a_t_way, .inr (9, [.ref a_t_way_places, .ref a_t_way_bearings, .ref a_t_way_cuts, .ref a_t_way_deaths, .int t_way_mats])), (a_t_way_bearings, .inl (cI, 12, .inl t_way_bearings)), (a_t_way_cuts, .inl (cI, 12, .inl t_way_cuts)), (a_t_way_deaths, .inl (cZ, 12, .inl t_way_deaths)), (a_t_way_places, .inl (cI, 12, .inl t_way_places)), (a_p1, .inr (4, [.ref a_p1_way, .ref a_p1_guns, .ref a_p1_runners])), (a_p1_guns, .inr (2, [.ref a_p1_guns_ticks])), (a_p1_guns_ticks, .inl (cI, 6, .inl p1_guns_ticks)), (a_p1_runners, .inr (6, [.ref a_p1_runners_facts, .ref a_p1_runners_splits, .ref a_p1_runners_torn, .ref a_p1_runners_dropped, .ref a_p1_runners_waved, .ref a_p1_runners_struck, .ref a_p1_runners_strikingOrder, .int p1_runners_entered, .int p1_runners_strikings])), (a_p1_runners_dropped, .inl (cZ, 60, .inl p1_runners_dropped)), (a_p1_runners_facts, .inl (cI, 360, .inl p1_runners_facts)), (a_p1_runners_splits, .inl (cI, 720, .inl p1_runners_splits)), (a_p1_runners_strikingOrder, .inl (cI, 60, .inl p1_runners_strikingOrder)), (a_p1_runners_struck, .inl (cZ, 60, .inl p1_runners_struck)), (a_p1_runners_torn, .inl (cI, 60, .inl p1_runners_torn)), (a_p1_runners_waved, .inl (cZ, 60, .inl p1_runners_waved)), (a_p1_way, .inr (9, [.ref a_p1_way_places, .ref a_p1_way_bearings, .ref a_p1_way_cuts, .ref a_p1_way_deaths, .int p1_way_mats])), (a_p1_way_bearings, .inl (cI, 12, .inl p1_way_bearings)), (a_p1_way_cuts, .inl (cI, 12, .inl p1_way_cuts)), (a_p1_way_deaths, .inl (cZ, 12, .inl p1_way_deaths)), (a_p1_way_places, .inl (cI, 12, .inl p1_way_places))] sz) := by
  refine Met.ofW (cc := cX4_copyFrom) (maxL := 2) (ret := none) (by decide) rfl ?_
  intro p e s m args below meth c s₁ B hml hv
  obtain ⟨rfl, hsz, hP, hK, hN, hZ, hD0⟩ := hv
  have hx := B.exec
  have hb := B.bytes
  have hr := B.returns
  have hts := atoms_spec (ws := wsX4_copyFrom) B.pre
  have hown : s.vm.findClass RX4 = some m.cls := findClass_of_methodNamed B.named
  have hlocks := B.notSynchronized
  subst hsz
  have hD := hD0.self (sz := s.heap.size)
  generalize hAe : va_A [(a_t, .inr (4, [.ref a_t_way, .ref a_t_guns, .ref a_t_runners])), (a_t_guns, .inr (2, [.ref a_t_guns_ticks])), (a_t_guns_ticks, .inl (cI, 6, .inl t_guns_ticks)), (a_t_runners, .inr (6, [.ref a_t_runners_facts, .ref a_t_runners_splits, .ref a_t_runners_torn, .ref a_t_runners_dropped, .ref a_t_runners_waved, .ref a_t_runners_struck, .ref a_t_runners_strikingOrder, .int t_runners_entered, .int t_runners_strikings])), (a_t_runners_dropped, .inl (cZ, 60, .inl t_runners_dropped)), (a_t_runners_facts, .inl (cI, 360, .inl t_runners_facts)), (a_t_runners_splits, .inl (cI, 720, .inl t_runners_splits)), (a_t_runners_strikingOrder, .inl (cI, 60, .inl t_runners_strikingOrder)), (a_t_runners_struck, .inl (cZ, 60, .inl t_runners_struck)), (a_t_runners_torn, .inl (cI, 60, .inl t_runners_torn)), (a_t_runners_waved, .inl (cZ, 60, .inl t_runners_waved)), (a_t_way, .inr (9, [.ref a_t_way_places, .ref a_t_way_bearings, .ref a_t_way_cuts, .ref a_t_way_deaths, .int t_way_mats])), (a_t_way_bearings, .inl (cI, 12, .inl t_way_bearings)), (a_t_way_cuts, .inl (cI, 12, .inl t_way_cuts)), (a_t_way_deaths, .inl (cZ, 12, .inl t_way_deaths)), (a_t_way_places, .inl (cI, 12, .inl t_way_places)), (a_p1, .inr (4, [.ref a_p1_way, .ref a_p1_guns, .ref a_p1_runners])), (a_p1_guns, .inr (2, [.ref a_p1_guns_ticks])), (a_p1_guns_ticks, .inl (cI, 6, .inl p1_guns_ticks)), (a_p1_runners, .inr (6, [.ref a_p1_runners_facts, .ref a_p1_runners_splits, .ref a_p1_runners_torn, .ref a_p1_runners_dropped, .ref a_p1_runners_waved, .ref a_p1_runners_struck, .ref a_p1_runners_strikingOrder, .int p1_runners_entered, .int p1_runners_strikings])), (a_p1_runners_dropped, .inl (cZ, 60, .inl p1_runners_dropped)), (a_p1_runners_facts, .inl (cI, 360, .inl p1_runners_facts)), (a_p1_runners_splits, .inl (cI, 720, .inl p1_runners_splits)), (a_p1_runners_strikingOrder, .inl (cI, 60, .inl p1_runners_strikingOrder)), (a_p1_runners_struck, .inl (cZ, 60, .inl p1_runners_struck)), (a_p1_runners_torn, .inl (cI, 60, .inl p1_runners_torn)), (a_p1_runners_waved, .inl (cZ, 60, .inl p1_runners_waved)), (a_p1_way, .inr (9, [.ref a_p1_way_places, .ref a_p1_way_bearings, .ref a_p1_way_cuts, .ref a_p1_way_deaths, .int p1_way_mats])), (a_p1_way_bearings, .inl (cI, 12, .inl p1_way_bearings)), (a_p1_way_cuts, .inl (cI, 12, .inl p1_way_cuts)), (a_p1_way_deaths, .inl (cZ, 12, .inl p1_way_deaths)), (a_p1_way_places, .inl (cI, 12, .inl p1_way_places))] s.heap.size = A at hD hZ ⊢
  have hA : ∀ q : Nat, s.heap.size ≤ q → A q := fun q h => by rw [← hAe]; exact Or.inr h
  have hS : va_S A s.heap s.heap [] := va_S.rf
  have hl := lv_entry ([.ref a_t, .ref a_p1]) (n := 2) (Nat.le_of_ble_eq_true rfl)
  rw [lg_entry_eq]
  generalize (lg_sl ([.ref a_t, .ref a_p1]) ++ List.replicate (2 - (lg_sl ([.ref a_t, .ref a_p1])).length) Slot.unset).toArray = ls at hl ⊢
  have hl : lv_has ls 2 [(0, .ref a_t), (1, .ref a_p1)] := hl
  unfold fX4_copyFrom at h
  refine lv_aload_n hx hb dX4_copyFrom_0 rfl (lv_at hl 0 rfl) ?_
  refine va_get (D := D) (ci := 4) (C := RX4) (T := TX4) (N := 3) hx hb hts qX4_copyFrom_X4 hown hK hP 0 rfl rfl 0 (by decide) (hts _ kX4_copyFrom_0) (fun _ h9 => h9) rfl dX4_copyFrom_1 ?_
  refine lv_aload_n hx hb dX4_copyFrom_4 rfl (lv_at hl 1 rfl) ?_
  refine va_get (D := D) (ci := 4) (C := RX4) (T := TX4) (N := 3) hx hb hts qX4_copyFrom_X4 hown hK hP 16 rfl rfl 0 (by decide) (hts _ kX4_copyFrom_0) (fun _ h9 => h9) rfl dX4_copyFrom_5 ?_
  obtain ⟨⟨t_way_mats_r1, t_way_bearings_r2, t_way_cuts_r3, t_way_deaths_r4, t_way_places_r5⟩, e6, h⟩ := zz_b h
  dsimp only at h
  refine zVv (As := [.ref a_p1_way]) (rest := []) (C := RX9) (wr := [(a_t, .inr (4, [.ref a_t_way, .ref a_t_guns, .ref a_t_runners])), (a_t_guns, .inr (2, [.ref a_t_guns_ticks])), (a_t_guns_ticks, .inl (cI, 6, .inl t_guns_ticks)), (a_t_runners, .inr (6, [.ref a_t_runners_facts, .ref a_t_runners_splits, .ref a_t_runners_torn, .ref a_t_runners_dropped, .ref a_t_runners_waved, .ref a_t_runners_struck, .ref a_t_runners_strikingOrder, .int t_runners_entered, .int t_runners_strikings])), (a_t_runners_dropped, .inl (cZ, 60, .inl t_runners_dropped)), (a_t_runners_facts, .inl (cI, 360, .inl t_runners_facts)), (a_t_runners_splits, .inl (cI, 720, .inl t_runners_splits)), (a_t_runners_strikingOrder, .inl (cI, 60, .inl t_runners_strikingOrder)), (a_t_runners_struck, .inl (cZ, 60, .inl t_runners_struck)), (a_t_runners_torn, .inl (cI, 60, .inl t_runners_torn)), (a_t_runners_waved, .inl (cZ, 60, .inl t_runners_waved)), (a_p1, .inr (4, [.ref a_p1_way, .ref a_p1_guns, .ref a_p1_runners])), (a_p1_guns, .inr (2, [.ref a_p1_guns_ticks])), (a_p1_guns_ticks, .inl (cI, 6, .inl p1_guns_ticks)), (a_p1_runners, .inr (6, [.ref a_p1_runners_facts, .ref a_p1_runners_splits, .ref a_p1_runners_torn, .ref a_p1_runners_dropped, .ref a_p1_runners_waved, .ref a_p1_runners_struck, .ref a_p1_runners_strikingOrder, .int p1_runners_entered, .int p1_runners_strikings])), (a_p1_runners_dropped, .inl (cZ, 60, .inl p1_runners_dropped)), (a_p1_runners_facts, .inl (cI, 360, .inl p1_runners_facts)), (a_p1_runners_splits, .inl (cI, 720, .inl p1_runners_splits)), (a_p1_runners_strikingOrder, .inl (cI, 60, .inl p1_runners_strikingOrder)), (a_p1_runners_struck, .inl (cZ, 60, .inl p1_runners_struck)), (a_p1_runners_torn, .inl (cI, 60, .inl p1_runners_torn)), (a_p1_runners_waved, .inl (cZ, 60, .inl p1_runners_waved))]) [11, 12, 13, 14, 15, 27, 28, 29, 30, 31] [0, 1, 2, 3, 4, 5, 6, 7, 8, 9, 10, 16, 17, 18, 19, 20, 21, 22, 23, 24, 25, 26] 0 ⟨hx, hb, hml, hown, hts⟩ (mX9_copyFrom l D cB cI cZ a_t_way a_p1_way a_t_way_places a_t_way_bearings a_t_way_cuts a_t_way_deaths a_p1_way_places a_p1_way_bearings a_p1_way_cuts a_p1_way_deaths t_way_mats t_way_bearings t_way_cuts t_way_deaths t_way_places p1_way_mats p1_way_bearings p1_way_cuts p1_way_deaths p1_way_places s.heap.size N t_way_mats_r1 t_way_bearings_r2 t_way_cuts_r3 t_way_deaths_r4 t_way_places_r5 e6) (cwV 1 hts gX4_copyFrom_X9_copyFrom rfl rfl rfl (by decide +kernel) ⟨Nat.le_of_ble_eq_true rfl, Nat.le_of_ble_eq_true rfl⟩) hK hN hZ hP hD hS hA rfl rfl rfl rfl rfl rfl rfl rfl hl.1 rfl (lv_room (Nat.le_of_ble_eq_true rfl)) dX4_copyFrom_8 ⟨Nat.le_of_ble_eq_true rfl, Nat.le_of_ble_eq_true rfl⟩ (fun H locs hP hD hS => ?_)
  have hP : va_P D vwCl [(a_t, .inr (4, [.ref a_t_way, .ref a_t_guns, .ref a_t_runners])), (a_t_guns, .inr (2, [.ref a_t_guns_ticks])), (a_t_guns_ticks, .inl (cI, 6, .inl t_guns_ticks)), (a_t_runners, .inr (6, [.ref a_t_runners_facts, .ref a_t_runners_splits, .ref a_t_runners_torn, .ref a_t_runners_dropped, .ref a_t_runners_waved, .ref a_t_runners_struck, .ref a_t_runners_strikingOrder, .int t_runners_entered, .int t_runners_strikings])), (a_t_runners_dropped, .inl (cZ, 60, .inl t_runners_dropped)), (a_t_runners_facts, .inl (cI, 360, .inl t_runners_facts)), (a_t_runners_splits, .inl (cI, 720, .inl t_runners_splits)), (a_t_runners_strikingOrder, .inl (cI, 60, .inl t_runners_strikingOrder)), (a_t_runners_struck, .inl (cZ, 60, .inl t_runners_struck)), (a_t_runners_torn, .inl (cI, 60, .inl t_runners_torn)), (a_t_runners_waved, .inl (cZ, 60, .inl t_runners_waved)), (a_p1, .inr (4, [.ref a_p1_way, .ref a_p1_guns, .ref a_p1_runners])), (a_p1_guns, .inr (2, [.ref a_p1_guns_ticks])), (a_p1_guns_ticks, .inl (cI, 6, .inl p1_guns_ticks)), (a_p1_runners, .inr (6, [.ref a_p1_runners_facts, .ref a_p1_runners_splits, .ref a_p1_runners_torn, .ref a_p1_runners_dropped, .ref a_p1_runners_waved, .ref a_p1_runners_struck, .ref a_p1_runners_strikingOrder, .int p1_runners_entered, .int p1_runners_strikings])), (a_p1_runners_dropped, .inl (cZ, 60, .inl p1_runners_dropped)), (a_p1_runners_facts, .inl (cI, 360, .inl p1_runners_facts)), (a_p1_runners_splits, .inl (cI, 720, .inl p1_runners_splits)), (a_p1_runners_strikingOrder, .inl (cI, 60, .inl p1_runners_strikingOrder)), (a_p1_runners_struck, .inl (cZ, 60, .inl p1_runners_struck)), (a_p1_runners_torn, .inl (cI, 60, .inl p1_runners_torn)), (a_p1_runners_waved, .inl (cZ, 60, .inl p1_runners_waved)), (a_t_way, .inr (9, [.ref a_t_way_places, .ref a_t_way_bearings, .ref a_t_way_cuts, .ref a_t_way_deaths, .int t_way_mats_r1])), (a_t_way_bearings, .inl (cI, 12, .inl t_way_bearings_r2)), (a_t_way_cuts, .inl (cI, 12, .inl t_way_cuts_r3)), (a_t_way_deaths, .inl (cZ, 12, .inl t_way_deaths_r4)), (a_t_way_places, .inl (cI, 12, .inl t_way_places_r5)), (a_p1_way, .inr (9, [.ref a_p1_way_places, .ref a_p1_way_bearings, .ref a_p1_way_cuts, .ref a_p1_way_deaths, .int p1_way_mats])), (a_p1_way_bearings, .inl (cI, 12, .inl p1_way_bearings)), (a_p1_way_cuts, .inl (cI, 12, .inl p1_way_cuts)), (a_p1_way_deaths, .inl (cZ, 12, .inl p1_way_deaths)), (a_p1_way_places, .inl (cI, 12, .inl p1_way_places))] H := hP
  have hD : va_D A [(a_t, .inr (4, [.ref a_t_way, .ref a_t_guns, .ref a_t_runners])), (a_t_guns, .inr (2, [.ref a_t_guns_ticks])), (a_t_guns_ticks, .inl (cI, 6, .inl t_guns_ticks)), (a_t_runners, .inr (6, [.ref a_t_runners_facts, .ref a_t_runners_splits, .ref a_t_runners_torn, .ref a_t_runners_dropped, .ref a_t_runners_waved, .ref a_t_runners_struck, .ref a_t_runners_strikingOrder, .int t_runners_entered, .int t_runners_strikings])), (a_t_runners_dropped, .inl (cZ, 60, .inl t_runners_dropped)), (a_t_runners_facts, .inl (cI, 360, .inl t_runners_facts)), (a_t_runners_splits, .inl (cI, 720, .inl t_runners_splits)), (a_t_runners_strikingOrder, .inl (cI, 60, .inl t_runners_strikingOrder)), (a_t_runners_struck, .inl (cZ, 60, .inl t_runners_struck)), (a_t_runners_torn, .inl (cI, 60, .inl t_runners_torn)), (a_t_runners_waved, .inl (cZ, 60, .inl t_runners_waved)), (a_p1, .inr (4, [.ref a_p1_way, .ref a_p1_guns, .ref a_p1_runners])), (a_p1_guns, .inr (2, [.ref a_p1_guns_ticks])), (a_p1_guns_ticks, .inl (cI, 6, .inl p1_guns_ticks)), (a_p1_runners, .inr (6, [.ref a_p1_runners_facts, .ref a_p1_runners_splits, .ref a_p1_runners_torn, .ref a_p1_runners_dropped, .ref a_p1_runners_waved, .ref a_p1_runners_struck, .ref a_p1_runners_strikingOrder, .int p1_runners_entered, .int p1_runners_strikings])), (a_p1_runners_dropped, .inl (cZ, 60, .inl p1_runners_dropped)), (a_p1_runners_facts, .inl (cI, 360, .inl p1_runners_facts)), (a_p1_runners_splits, .inl (cI, 720, .inl p1_runners_splits)), (a_p1_runners_strikingOrder, .inl (cI, 60, .inl p1_runners_strikingOrder)), (a_p1_runners_struck, .inl (cZ, 60, .inl p1_runners_struck)), (a_p1_runners_torn, .inl (cI, 60, .inl p1_runners_torn)), (a_p1_runners_waved, .inl (cZ, 60, .inl p1_runners_waved)), (a_t_way, .inr (9, [.ref a_t_way_places, .ref a_t_way_bearings, .ref a_t_way_cuts, .ref a_t_way_deaths, .int t_way_mats_r1])), (a_t_way_bearings, .inl (cI, 12, .inl t_way_bearings_r2)), (a_t_way_cuts, .inl (cI, 12, .inl t_way_cuts_r3)), (a_t_way_deaths, .inl (cZ, 12, .inl t_way_deaths_r4)), (a_t_way_places, .inl (cI, 12, .inl t_way_places_r5)), (a_p1_way, .inr (9, [.ref a_p1_way_places, .ref a_p1_way_bearings, .ref a_p1_way_cuts, .ref a_p1_way_deaths, .int p1_way_mats])), (a_p1_way_bearings, .inl (cI, 12, .inl p1_way_bearings)), (a_p1_way_cuts, .inl (cI, 12, .inl p1_way_cuts)), (a_p1_way_deaths, .inl (cZ, 12, .inl p1_way_deaths)), (a_p1_way_places, .inl (cI, 12, .inl p1_way_places))] := hD
  refine lv_aload_n hx hb dX4_copyFrom_11 rfl (lv_at hl 0 rfl) ?_
  refine va_get (D := D) (ci := 4) (C := RX4) (T := TX4) (N := 3) hx hb hts qX4_copyFrom_X4 hown hK hP 0 rfl rfl 1 (by decide) (hts _ kX4_copyFrom_2) (fun _ h9 => h9) rfl dX4_copyFrom_12 ?_
  refine lv_aload_n hx hb dX4_copyFrom_15 rfl (lv_at hl 1 rfl) ?_
  refine va_get (D := D) (ci := 4) (C := RX4) (T := TX4) (N := 3) hx hb hts qX4_copyFrom_X4 hown hK hP 11 rfl rfl 1 (by decide) (hts _ kX4_copyFrom_2) (fun _ h9 => h9) rfl dX4_copyFrom_16 ?_
  obtain ⟨t_guns_ticks_r7, e8, h⟩ := zz_b h
  refine zVv (As := [.ref a_p1_guns]) (rest := []) (C := RX2) (wr := [(a_t, .inr (4, [.ref a_t_way, .ref a_t_guns, .ref a_t_runners])), (a_t_runners, .inr (6, [.ref a_t_runners_facts, .ref a_t_runners_splits, .ref a_t_runners_torn, .ref a_t_runners_dropped, .ref a_t_runners_waved, .ref a_t_runners_struck, .ref a_t_runners_strikingOrder, .int t_runners_entered, .int t_runners_strikings])), (a_t_runners_dropped, .inl (cZ, 60, .inl t_runners_dropped)), (a_t_runners_facts, .inl (cI, 360, .inl t_runners_facts)), (a_t_runners_splits, .inl (cI, 720, .inl t_runners_splits)), (a_t_runners_strikingOrder, .inl (cI, 60, .inl t_runners_strikingOrder)), (a_t_runners_struck, .inl (cZ, 60, .inl t_runners_struck)), (a_t_runners_torn, .inl (cI, 60, .inl t_runners_torn)), (a_t_runners_waved, .inl (cZ, 60, .inl t_runners_waved)), (a_p1, .inr (4, [.ref a_p1_way, .ref a_p1_guns, .ref a_p1_runners])), (a_p1_runners, .inr (6, [.ref a_p1_runners_facts, .ref a_p1_runners_splits, .ref a_p1_runners_torn, .ref a_p1_runners_dropped, .ref a_p1_runners_waved, .ref a_p1_runners_struck, .ref a_p1_runners_strikingOrder, .int p1_runners_entered, .int p1_runners_strikings])), (a_p1_runners_dropped, .inl (cZ, 60, .inl p1_runners_dropped)), (a_p1_runners_facts, .inl (cI, 360, .inl p1_runners_facts)), (a_p1_runners_splits, .inl (cI, 720, .inl p1_runners_splits)), (a_p1_runners_strikingOrder, .inl (cI, 60, .inl p1_runners_strikingOrder)), (a_p1_runners_struck, .inl (cZ, 60, .inl p1_runners_struck)), (a_p1_runners_torn, .inl (cI, 60, .inl p1_runners_torn)), (a_p1_runners_waved, .inl (cZ, 60, .inl p1_runners_waved)), (a_t_way, .inr (9, [.ref a_t_way_places, .ref a_t_way_bearings, .ref a_t_way_cuts, .ref a_t_way_deaths, .int t_way_mats_r1])), (a_t_way_bearings, .inl (cI, 12, .inl t_way_bearings_r2)), (a_t_way_cuts, .inl (cI, 12, .inl t_way_cuts_r3)), (a_t_way_deaths, .inl (cZ, 12, .inl t_way_deaths_r4)), (a_t_way_places, .inl (cI, 12, .inl t_way_places_r5)), (a_p1_way, .inr (9, [.ref a_p1_way_places, .ref a_p1_way_bearings, .ref a_p1_way_cuts, .ref a_p1_way_deaths, .int p1_way_mats])), (a_p1_way_bearings, .inl (cI, 12, .inl p1_way_bearings)), (a_p1_way_cuts, .inl (cI, 12, .inl p1_way_cuts)), (a_p1_way_deaths, .inl (cZ, 12, .inl p1_way_deaths)), (a_p1_way_places, .inl (cI, 12, .inl p1_way_places))]) [1, 2, 12, 13] [0, 3, 4, 5, 6, 7, 8, 9, 10, 11, 14, 15, 16, 17, 18, 19, 20, 21, 22, 23, 24, 25, 26, 27, 28, 29, 30, 31] 0 ⟨hx, hb, hml, hown, hts⟩ (mX2_copyFrom l D cB cI cZ a_t_guns a_p1_guns a_t_guns_ticks a_p1_guns_ticks t_guns_ticks p1_guns_ticks H.size t_guns_ticks_r7 e8) (cwV 1 hts gX4_copyFrom_X2_copyFrom rfl rfl rfl (by decide +kernel) ⟨Nat.le_of_ble_eq_true rfl, Nat.le_of_ble_eq_true rfl⟩) hK hN hZ hP hD hS hA rfl rfl rfl rfl rfl rfl rfl rfl hl.1 rfl (lv_room (Nat.le_of_ble_eq_true rfl)) dX4_copyFrom_19 ⟨Nat.le_of_ble_eq_true rfl, Nat.le_of_ble_eq_true rfl⟩ (fun H locs hP hD hS => ?_)
  have hP : va_P D vwCl [(a_t, .inr (4, [.ref a_t_way, .ref a_t_guns, .ref a_t_runners])), (a_t_runners, .inr (6, [.ref a_t_runners_facts, .ref a_t_runners_splits, .ref a_t_runners_torn, .ref a_t_runners_dropped, .ref a_t_runners_waved, .ref a_t_runners_struck, .ref a_t_runners_strikingOrder, .int t_runners_entered, .int t_runners_strikings])), (a_t_runners_dropped, .inl (cZ, 60, .inl t_runners_dropped)), (a_t_runners_facts, .inl (cI, 360, .inl t_runners_facts)), (a_t_runners_splits, .inl (cI, 720, .inl t_runners_splits)), (a_t_runners_strikingOrder, .inl (cI, 60, .inl t_runners_strikingOrder)), (a_t_runners_struck, .inl (cZ, 60, .inl t_runners_struck)), (a_t_runners_torn, .inl (cI, 60, .inl t_runners_torn)), (a_t_runners_waved, .inl (cZ, 60, .inl t_runners_waved)), (a_p1, .inr (4, [.ref a_p1_way, .ref a_p1_guns, .ref a_p1_runners])), (a_p1_runners, .inr (6, [.ref a_p1_runners_facts, .ref a_p1_runners_splits, .ref a_p1_runners_torn, .ref a_p1_runners_dropped, .ref a_p1_runners_waved, .ref a_p1_runners_struck, .ref a_p1_runners_strikingOrder, .int p1_runners_entered, .int p1_runners_strikings])), (a_p1_runners_dropped, .inl (cZ, 60, .inl p1_runners_dropped)), (a_p1_runners_facts, .inl (cI, 360, .inl p1_runners_facts)), (a_p1_runners_splits, .inl (cI, 720, .inl p1_runners_splits)), (a_p1_runners_strikingOrder, .inl (cI, 60, .inl p1_runners_strikingOrder)), (a_p1_runners_struck, .inl (cZ, 60, .inl p1_runners_struck)), (a_p1_runners_torn, .inl (cI, 60, .inl p1_runners_torn)), (a_p1_runners_waved, .inl (cZ, 60, .inl p1_runners_waved)), (a_t_way, .inr (9, [.ref a_t_way_places, .ref a_t_way_bearings, .ref a_t_way_cuts, .ref a_t_way_deaths, .int t_way_mats_r1])), (a_t_way_bearings, .inl (cI, 12, .inl t_way_bearings_r2)), (a_t_way_cuts, .inl (cI, 12, .inl t_way_cuts_r3)), (a_t_way_deaths, .inl (cZ, 12, .inl t_way_deaths_r4)), (a_t_way_places, .inl (cI, 12, .inl t_way_places_r5)), (a_p1_way, .inr (9, [.ref a_p1_way_places, .ref a_p1_way_bearings, .ref a_p1_way_cuts, .ref a_p1_way_deaths, .int p1_way_mats])), (a_p1_way_bearings, .inl (cI, 12, .inl p1_way_bearings)), (a_p1_way_cuts, .inl (cI, 12, .inl p1_way_cuts)), (a_p1_way_deaths, .inl (cZ, 12, .inl p1_way_deaths)), (a_p1_way_places, .inl (cI, 12, .inl p1_way_places)), (a_t_guns, .inr (2, [.ref a_t_guns_ticks])), (a_t_guns_ticks, .inl (cI, 6, .inl t_guns_ticks_r7)), (a_p1_guns, .inr (2, [.ref a_p1_guns_ticks])), (a_p1_guns_ticks, .inl (cI, 6, .inl p1_guns_ticks))] H := hP
  have hD : va_D A [(a_t, .inr (4, [.ref a_t_way, .ref a_t_guns, .ref a_t_runners])), (a_t_runners, .inr (6, [.ref a_t_runners_facts, .ref a_t_runners_splits, .ref a_t_runners_torn, .ref a_t_runners_dropped, .ref a_t_runners_waved, .ref a_t_runners_struck, .ref a_t_runners_strikingOrder, .int t_runners_entered, .int t_runners_strikings])), (a_t_runners_dropped, .inl (cZ, 60, .inl t_runners_dropped)), (a_t_runners_facts, .inl (cI, 360, .inl t_runners_facts)), (a_t_runners_splits, .inl (cI, 720, .inl t_runners_splits)), (a_t_runners_strikingOrder, .inl (cI, 60, .inl t_runners_strikingOrder)), (a_t_runners_struck, .inl (cZ, 60, .inl t_runners_struck)), (a_t_runners_torn, .inl (cI, 60, .inl t_runners_torn)), (a_t_runners_waved, .inl (cZ, 60, .inl t_runners_waved)), (a_p1, .inr (4, [.ref a_p1_way, .ref a_p1_guns, .ref a_p1_runners])), (a_p1_runners, .inr (6, [.ref a_p1_runners_facts, .ref a_p1_runners_splits, .ref a_p1_runners_torn, .ref a_p1_runners_dropped, .ref a_p1_runners_waved, .ref a_p1_runners_struck, .ref a_p1_runners_strikingOrder, .int p1_runners_entered, .int p1_runners_strikings])), (a_p1_runners_dropped, .inl (cZ, 60, .inl p1_runners_dropped)), (a_p1_runners_facts, .inl (cI, 360, .inl p1_runners_facts)), (a_p1_runners_splits, .inl (cI, 720, .inl p1_runners_splits)), (a_p1_runners_strikingOrder, .inl (cI, 60, .inl p1_runners_strikingOrder)), (a_p1_runners_struck, .inl (cZ, 60, .inl p1_runners_struck)), (a_p1_runners_torn, .inl (cI, 60, .inl p1_runners_torn)), (a_p1_runners_waved, .inl (cZ, 60, .inl p1_runners_waved)), (a_t_way, .inr (9, [.ref a_t_way_places, .ref a_t_way_bearings, .ref a_t_way_cuts, .ref a_t_way_deaths, .int t_way_mats_r1])), (a_t_way_bearings, .inl (cI, 12, .inl t_way_bearings_r2)), (a_t_way_cuts, .inl (cI, 12, .inl t_way_cuts_r3)), (a_t_way_deaths, .inl (cZ, 12, .inl t_way_deaths_r4)), (a_t_way_places, .inl (cI, 12, .inl t_way_places_r5)), (a_p1_way, .inr (9, [.ref a_p1_way_places, .ref a_p1_way_bearings, .ref a_p1_way_cuts, .ref a_p1_way_deaths, .int p1_way_mats])), (a_p1_way_bearings, .inl (cI, 12, .inl p1_way_bearings)), (a_p1_way_cuts, .inl (cI, 12, .inl p1_way_cuts)), (a_p1_way_deaths, .inl (cZ, 12, .inl p1_way_deaths)), (a_p1_way_places, .inl (cI, 12, .inl p1_way_places)), (a_t_guns, .inr (2, [.ref a_t_guns_ticks])), (a_t_guns_ticks, .inl (cI, 6, .inl t_guns_ticks_r7)), (a_p1_guns, .inr (2, [.ref a_p1_guns_ticks])), (a_p1_guns_ticks, .inl (cI, 6, .inl p1_guns_ticks))] := hD
  refine lv_aload_n hx hb dX4_copyFrom_22 rfl (lv_at hl 0 rfl) ?_
  refine va_get (D := D) (ci := 4) (C := RX4) (T := TX4) (N := 3) hx hb hts qX4_copyFrom_X4 hown hK hP 0 rfl rfl 2 (by decide) (hts _ kX4_copyFrom_3) (fun _ h9 => h9) rfl dX4_copyFrom_23 ?_
  refine lv_aload_n hx hb dX4_copyFrom_26 rfl (lv_at hl 1 rfl) ?_
  refine va_get (D := D) (ci := 4) (C := RX4) (T := TX4) (N := 3) hx hb hts qX4_copyFrom_X4 hown hK hP 9 rfl rfl 2 (by decide) (hts _ kX4_copyFrom_3) (fun _ h9 => h9) rfl dX4_copyFrom_27 ?_
  obtain ⟨⟨t_runners_entered_r9, t_runners_strikings_r10, t_runners_dropped_r11, t_runners_facts_r12, t_runners_splits_r13, t_runners_strikingOrder_r14, t_runners_struck_r15, t_runners_torn_r16, t_runners_waved_r17⟩, e18, h⟩ := zz_b h
  dsimp only at h
  refine zVv (As := [.ref a_p1_runners]) (rest := []) (C := RX6) (wr := [(a_t, .inr (4, [.ref a_t_way, .ref a_t_guns, .ref a_t_runners])), (a_p1, .inr (4, [.ref a_p1_way, .ref a_p1_guns, .ref a_p1_runners])), (a_t_way, .inr (9, [.ref a_t_way_places, .ref a_t_way_bearings, .ref a_t_way_cuts, .ref a_t_way_deaths, .int t_way_mats_r1])), (a_t_way_bearings, .inl (cI, 12, .inl t_way_bearings_r2)), (a_t_way_cuts, .inl (cI, 12, .inl t_way_cuts_r3)), (a_t_way_deaths, .inl (cZ, 12, .inl t_way_deaths_r4)), (a_t_way_places, .inl (cI, 12, .inl t_way_places_r5)), (a_p1_way, .inr (9, [.ref a_p1_way_places, .ref a_p1_way_bearings, .ref a_p1_way_cuts, .ref a_p1_way_deaths, .int p1_way_mats])), (a_p1_way_bearings, .inl (cI, 12, .inl p1_way_bearings)), (a_p1_way_cuts, .inl (cI, 12, .inl p1_way_cuts)), (a_p1_way_deaths, .inl (cZ, 12, .inl p1_way_deaths)), (a_p1_way_places, .inl (cI, 12, .inl p1_way_places)), (a_t_guns, .inr (2, [.ref a_t_guns_ticks])), (a_t_guns_ticks, .inl (cI, 6, .inl t_guns_ticks_r7)), (a_p1_guns, .inr (2, [.ref a_p1_guns_ticks])), (a_p1_guns_ticks, .inl (cI, 6, .inl p1_guns_ticks))]) [1, 2, 3, 4, 5, 6, 7, 8, 10, 11, 12, 13, 14, 15, 16, 17] [0, 9, 18, 19, 20, 21, 22, 23, 24, 25, 26, 27, 28, 29, 30, 31] 0 ⟨hx, hb, hml, hown, hts⟩ (mX6_copyFrom l D cB cI cZ a_t_runners a_p1_runners a_t_runners_facts a_t_runners_splits a_t_runners_torn a_t_runners_dropped a_t_runners_waved a_t_runners_struck a_t_runners_strikingOrder a_p1_runners_facts a_p1_runners_splits a_p1_runners_torn a_p1_runners_dropped a_p1_runners_waved a_p1_runners_struck a_p1_runners_strikingOrder t_runners_entered t_runners_strikings t_runners_dropped t_runners_facts t_runners_splits t_runners_strikingOrder t_runners_struck t_runners_torn t_runners_waved p1_runners_entered p1_runners_strikings p1_runners_dropped p1_runners_facts p1_runners_splits p1_runners_strikingOrder p1_runners_struck p1_runners_torn p1_runners_waved H.size N t_runners_entered_r9 t_runners_strikings_r10 t_runners_dropped_r11 t_runners_facts_r12 t_runners_splits_r13 t_runners_strikingOrder_r14 t_runners_struck_r15 t_runners_torn_r16 t_runners_waved_r17 e18) (cwV 1 hts gX4_copyFrom_X6_copyFrom rfl rfl rfl (by decide +kernel) ⟨Nat.le_of_ble_eq_true rfl, Nat.le_of_ble_eq_true rfl⟩) hK hN hZ hP hD hS hA rfl rfl rfl rfl rfl rfl rfl rfl hl.1 rfl (lv_room (Nat.le_of_ble_eq_true rfl)) dX4_copyFrom_30 ⟨Nat.le_of_ble_eq_true rfl, Nat.le_of_ble_eq_true rfl⟩ (fun H locs hP hD hS => ?_)
  have hP : va_P D vwCl [(a_t, .inr (4, [.ref a_t_way, .ref a_t_guns, .ref a_t_runners])), (a_p1, .inr (4, [.ref a_p1_way, .ref a_p1_guns, .ref a_p1_runners])), (a_t_way, .inr (9, [.ref a_t_way_places, .ref a_t_way_bearings, .ref a_t_way_cuts, .ref a_t_way_deaths, .int t_way_mats_r1])), (a_t_way_bearings, .inl (cI, 12, .inl t_way_bearings_r2)), (a_t_way_cuts, .inl (cI, 12, .inl t_way_cuts_r3)), (a_t_way_deaths, .inl (cZ, 12, .inl t_way_deaths_r4)), (a_t_way_places, .inl (cI, 12, .inl t_way_places_r5)), (a_p1_way, .inr (9, [.ref a_p1_way_places, .ref a_p1_way_bearings, .ref a_p1_way_cuts, .ref a_p1_way_deaths, .int p1_way_mats])), (a_p1_way_bearings, .inl (cI, 12, .inl p1_way_bearings)), (a_p1_way_cuts, .inl (cI, 12, .inl p1_way_cuts)), (a_p1_way_deaths, .inl (cZ, 12, .inl p1_way_deaths)), (a_p1_way_places, .inl (cI, 12, .inl p1_way_places)), (a_t_guns, .inr (2, [.ref a_t_guns_ticks])), (a_t_guns_ticks, .inl (cI, 6, .inl t_guns_ticks_r7)), (a_p1_guns, .inr (2, [.ref a_p1_guns_ticks])), (a_p1_guns_ticks, .inl (cI, 6, .inl p1_guns_ticks)), (a_t_runners, .inr (6, [.ref a_t_runners_facts, .ref a_t_runners_splits, .ref a_t_runners_torn, .ref a_t_runners_dropped, .ref a_t_runners_waved, .ref a_t_runners_struck, .ref a_t_runners_strikingOrder, .int t_runners_entered_r9, .int t_runners_strikings_r10])), (a_t_runners_dropped, .inl (cZ, 60, .inl t_runners_dropped_r11)), (a_t_runners_facts, .inl (cI, 360, .inl t_runners_facts_r12)), (a_t_runners_splits, .inl (cI, 720, .inl t_runners_splits_r13)), (a_t_runners_strikingOrder, .inl (cI, 60, .inl t_runners_strikingOrder_r14)), (a_t_runners_struck, .inl (cZ, 60, .inl t_runners_struck_r15)), (a_t_runners_torn, .inl (cI, 60, .inl t_runners_torn_r16)), (a_t_runners_waved, .inl (cZ, 60, .inl t_runners_waved_r17)), (a_p1_runners, .inr (6, [.ref a_p1_runners_facts, .ref a_p1_runners_splits, .ref a_p1_runners_torn, .ref a_p1_runners_dropped, .ref a_p1_runners_waved, .ref a_p1_runners_struck, .ref a_p1_runners_strikingOrder, .int p1_runners_entered, .int p1_runners_strikings])), (a_p1_runners_dropped, .inl (cZ, 60, .inl p1_runners_dropped)), (a_p1_runners_facts, .inl (cI, 360, .inl p1_runners_facts)), (a_p1_runners_splits, .inl (cI, 720, .inl p1_runners_splits)), (a_p1_runners_strikingOrder, .inl (cI, 60, .inl p1_runners_strikingOrder)), (a_p1_runners_struck, .inl (cZ, 60, .inl p1_runners_struck)), (a_p1_runners_torn, .inl (cI, 60, .inl p1_runners_torn)), (a_p1_runners_waved, .inl (cZ, 60, .inl p1_runners_waved))] H := hP
  have hD : va_D A [(a_t, .inr (4, [.ref a_t_way, .ref a_t_guns, .ref a_t_runners])), (a_p1, .inr (4, [.ref a_p1_way, .ref a_p1_guns, .ref a_p1_runners])), (a_t_way, .inr (9, [.ref a_t_way_places, .ref a_t_way_bearings, .ref a_t_way_cuts, .ref a_t_way_deaths, .int t_way_mats_r1])), (a_t_way_bearings, .inl (cI, 12, .inl t_way_bearings_r2)), (a_t_way_cuts, .inl (cI, 12, .inl t_way_cuts_r3)), (a_t_way_deaths, .inl (cZ, 12, .inl t_way_deaths_r4)), (a_t_way_places, .inl (cI, 12, .inl t_way_places_r5)), (a_p1_way, .inr (9, [.ref a_p1_way_places, .ref a_p1_way_bearings, .ref a_p1_way_cuts, .ref a_p1_way_deaths, .int p1_way_mats])), (a_p1_way_bearings, .inl (cI, 12, .inl p1_way_bearings)), (a_p1_way_cuts, .inl (cI, 12, .inl p1_way_cuts)), (a_p1_way_deaths, .inl (cZ, 12, .inl p1_way_deaths)), (a_p1_way_places, .inl (cI, 12, .inl p1_way_places)), (a_t_guns, .inr (2, [.ref a_t_guns_ticks])), (a_t_guns_ticks, .inl (cI, 6, .inl t_guns_ticks_r7)), (a_p1_guns, .inr (2, [.ref a_p1_guns_ticks])), (a_p1_guns_ticks, .inl (cI, 6, .inl p1_guns_ticks)), (a_t_runners, .inr (6, [.ref a_t_runners_facts, .ref a_t_runners_splits, .ref a_t_runners_torn, .ref a_t_runners_dropped, .ref a_t_runners_waved, .ref a_t_runners_struck, .ref a_t_runners_strikingOrder, .int t_runners_entered_r9, .int t_runners_strikings_r10])), (a_t_runners_dropped, .inl (cZ, 60, .inl t_runners_dropped_r11)), (a_t_runners_facts, .inl (cI, 360, .inl t_runners_facts_r12)), (a_t_runners_splits, .inl (cI, 720, .inl t_runners_splits_r13)), (a_t_runners_strikingOrder, .inl (cI, 60, .inl t_runners_strikingOrder_r14)), (a_t_runners_struck, .inl (cZ, 60, .inl t_runners_struck_r15)), (a_t_runners_torn, .inl (cI, 60, .inl t_runners_torn_r16)), (a_t_runners_waved, .inl (cZ, 60, .inl t_runners_waved_r17)), (a_p1_runners, .inr (6, [.ref a_p1_runners_facts, .ref a_p1_runners_splits, .ref a_p1_runners_torn, .ref a_p1_runners_dropped, .ref a_p1_runners_waved, .ref a_p1_runners_struck, .ref a_p1_runners_strikingOrder, .int p1_runners_entered, .int p1_runners_strikings])), (a_p1_runners_dropped, .inl (cZ, 60, .inl p1_runners_dropped)), (a_p1_runners_facts, .inl (cI, 360, .inl p1_runners_facts)), (a_p1_runners_splits, .inl (cI, 720, .inl p1_runners_splits)), (a_p1_runners_strikingOrder, .inl (cI, 60, .inl p1_runners_strikingOrder)), (a_p1_runners_struck, .inl (cZ, 60, .inl p1_runners_struck)), (a_p1_runners_torn, .inl (cI, 60, .inl p1_runners_torn)), (a_p1_runners_waved, .inl (cZ, 60, .inl p1_runners_waved))] := hD
  obtain ⟨j0_, g_⟩ := Prod.mk.inj (Option.some.inj h)
  obtain ⟨j1_, g_⟩ := Prod.mk.inj g_
  obtain ⟨j2_, g_⟩ := Prod.mk.inj g_
  obtain ⟨j3_, g_⟩ := Prod.mk.inj g_
  obtain ⟨j4_, g_⟩ := Prod.mk.inj g_
  obtain ⟨j5_, g_⟩ := Prod.mk.inj g_
  obtain ⟨j6_, g_⟩ := Prod.mk.inj g_
  obtain ⟨j7_, g_⟩ := Prod.mk.inj g_
  obtain ⟨j8_, g_⟩ := Prod.mk.inj g_
  obtain ⟨j9_, g_⟩ := Prod.mk.inj g_
  obtain ⟨j10_, g_⟩ := Prod.mk.inj g_
  obtain ⟨j11_, g_⟩ := Prod.mk.inj g_
  obtain ⟨j12_, g_⟩ := Prod.mk.inj g_
  obtain ⟨j13_, g_⟩ := Prod.mk.inj g_
  have j14_ := g_
  subst j0_
  subst j1_
  subst j2_
  subst j3_
  subst j4_
  subst j5_
  subst j6_
  subst j7_
  subst j8_
  subst j9_
  subst j10_
  subst j11_
  subst j12_
  subst j13_
  subst j14_
  exact W.vret hx hb hr (fun t ht hW => ⟨⟨(), rfl, trivial, zPost.of hP hD hK ht hW [0, 12, 13, 16, 17, 18, 19, 20, 21, 22, 23, 2, 3, 4, 5, 6, 1, 14, 15, 24, 25, 26, 27, 28, 29, 30, 31, 7, 8, 9, 10, 11] rfl rfl rfl⟩, hS.F ht⟩) hS.2.2 dX4_copyFrom_33
