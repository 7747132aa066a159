/-! RunDesk.team -/
theorem dX10_team_0 : decode cX10_team 0 = .ok (.iload_n 1, 1) := by decide +kernel
theorem dX10_team_1 : decode cX10_team 1 = .ok (.iconst 1, 1) := by decide +kernel
theorem dX10_team_2 : decode cX10_team 2 = .ok (.bipush 9, 2) := by decide +kernel
theorem dX10_team_4 : decode cX10_team 4 = .ok (.invokestatic 68, 3) := by decide +kernel
theorem dX10_team_7 : decode cX10_team 7 = .ok (.ifCond .eq 13, 3) := by decide +kernel
theorem dX10_team_10 : decode cX10_team 10 = .ok (.iload_n 2, 1) := by decide +kernel
theorem dX10_team_11 : decode cX10_team 11 = .ok (.iconst 1, 1) := by decide +kernel
theorem dX10_team_12 : decode cX10_team 12 = .ok (.bipush 10, 2) := by decide +kernel
theorem dX10_team_14 : decode cX10_team 14 = .ok (.invokestatic 68, 3) := by decide +kernel
theorem dX10_team_17 : decode cX10_team 17 = .ok (.ifCond .ne 5, 3) := by decide +kernel
theorem dX10_team_20 : decode cX10_team 20 = .ok (.iconst (-1), 1) := by decide +kernel
theorem dX10_team_21 : decode cX10_team 21 = .ok (.ireturn, 1) := by decide +kernel
theorem dX10_team_22 : decode cX10_team 22 = .ok (.aload_n 0, 1) := by decide +kernel
theorem dX10_team_23 : decode cX10_team 23 = .ok (.getfield 50, 3) := by decide +kernel
theorem dX10_team_26 : decode cX10_team 26 = .ok (.aload_n 0, 1) := by decide +kernel
theorem dX10_team_27 : decode cX10_team 27 = .ok (.getfield 43, 3) := by decide +kernel
theorem dX10_team_30 : decode cX10_team 30 = .ok (.aload_n 0, 1) := by decide +kernel
theorem dX10_team_31 : decode cX10_team 31 = .ok (.getfield 10, 3) := by decide +kernel
theorem dX10_team_34 : decode cX10_team 34 = .ok (.invokevirtual 181, 3) := by decide +kernel
theorem dX10_team_37 : decode cX10_team 37 = .ok (.ifCond .eq 19, 3) := by decide +kernel
theorem dX10_team_40 : decode cX10_team 40 = .ok (.aload_n 0, 1) := by decide +kernel
theorem dX10_team_41 : decode cX10_team 41 = .ok (.getfield 50, 3) := by decide +kernel
theorem dX10_team_44 : decode cX10_team 44 = .ok (.aload_n 0, 1) := by decide +kernel
theorem dX10_team_45 : decode cX10_team 45 = .ok (.getfield 10, 3) := by decide +kernel
theorem dX10_team_48 : decode cX10_team 48 = .ok (.iload_n 1, 1) := by decide +kernel
theorem dX10_team_49 : decode cX10_team 49 = .ok (.iload_n 2, 1) := by decide +kernel
theorem dX10_team_50 : decode cX10_team 50 = .ok (.invokevirtual 196, 3) := by decide +kernel
theorem dX10_team_53 : decode cX10_team 53 = .ok (.goto 4, 3) := by decide +kernel
theorem dX10_team_56 : decode cX10_team 56 = .ok (.iconst (-1), 1) := by decide +kernel
theorem dX10_team_57 : decode cX10_team 57 = .ok (.ireturn, 1) := by decide +kernel
set_option maxRecDepth 20000 in
theorem ggX10_team_X10_within : GoodIn wsX10_team wsX10_within := goodIn_r _ [7] (by decide +kernel) (by decide +kernel)
set_option maxRecDepth 20000 in
theorem gX10_team_X10_within : GoodIn wsX10_team (va_wsS RX10 68 yX10_within wsX10_within) := goodIn_app (goodIn_of _ (by decide +kernel)) ggX10_team_X10_within
set_option maxRecDepth 20000 in
theorem ggX10_team_X3_gather : GoodIn wsX10_team wsX3_gather := goodIn_r _ [12, 13, 14, 15, 16, 17, 18, 19, 20, 21, 22, 23, 24, 25, 26, 27, 28, 29, 30, 31, 32, 33, 34, 35, 36, 37, 38, 39, 40, 41, 42, 43, 44, 45, 46, 47, 48, 49, 50, 51, 52, 53, 54, 55, 5, 6, 7, 56, 57, 58, 59, 60, 61, 62, 63, 64, 65, 66, 67, 68, 69, 70, 71, 72, 73, 74, 75, 76, 77, 78, 79, 80, 81, 82, 83, 84, 85, 86, 87, 88, 89, 90, 91, 92, 93, 94, 95, 96, 97, 98, 99, 100, 101, 102, 103, 104, 105, 106, 107, 108, 109, 110, 111, 112, 113, 114, 115, 116, 117, 118, 119, 120, 121, 122, 123, 124, 125, 126, 127, 128, 129, 130, 131, 132, 133, 134, 135, 136, 137, 138, 139, 140, 141, 142, 143, 144, 145, 146, 147, 148, 149, 150, 151, 152, 153, 154, 155, 156, 157, 158, 159, 160, 161, 162, 163, 164, 165, 166, 167, 168, 169, 170, 171, 172, 173, 174, 175, 176, 177, 178, 179, 180, 181, 182, 183, 184, 218, 219, 220, 221, 222, 223, 224, 225, 226, 227, 228, 229, 230, 231, 232, 233, 234, 235, 236, 237, 238, 239, 240, 241, 242, 243, 244, 245, 246, 247, 248] (by decide +kernel) (by decide +kernel)
set_option maxRecDepth 20000 in
theorem gX10_team_X3_gather : GoodIn wsX10_team (wsV RX10 181 RX3 yX3_gather wsX3_gather) := goodIn_app (goodIn_of _ (by decide +kernel)) ggX10_team_X3_gather
set_option maxRecDepth 20000 in
theorem ggX10_team_X3_bestOfTeam : GoodIn wsX10_team wsX3_bestOfTeam := goodIn_r _ [188, 14, 189, 190, 191, 11, 192, 193, 101, 102, 89, 103, 91, 104, 194, 195, 196, 197, 198, 199, 200, 201, 202, 203, 204, 205, 5, 6, 7, 206, 207, 208, 209, 218, 219, 220, 221, 222, 234, 235, 236, 237, 238, 239, 240, 241, 242] (by decide +kernel) (by decide +kernel)
set_option maxRecDepth 20000 in
theorem gX10_team_X3_bestOfTeam : GoodIn wsX10_team (wsV RX10 196 RX3 yX3_bestOfTeam wsX3_bestOfTeam) := goodIn_app (goodIn_of _ (by decide +kernel)) ggX10_team_X3_bestOfTeam
def fX10_team (N : Nat) (t_listing_reading_digits : Int32) (t_listing_reading_laid : Int32) (t_listing_reading_open : Int32) (t_listing_reading_order : Int32) (t_listing_reading_prizes : Int32) (t_listing_reading_stage : Int32) (t_listing_reading_numbers : Nat → Int32) (t_listing_reading_parts : Nat → Int32) (t_listing_reading_signs : Nat → Int32) (t_listing_times : Nat → Int32) (t_race_guns_ticks : Nat → Int32) (t_race_runners_entered : Int32) (t_race_runners_dropped : Nat → Int32) (t_race_runners_facts : Nat → Int32) (t_race_runners_splits : Nat → Int32) (t_race_runners_struck : Nat → Int32) (t_race_runners_waved : Nat → Int32) (t_race_way_mats : Int32) (t_race_way_cuts : Nat → Int32) (t_text_length : Int32) (t_text_bytes : Nat → Int32) (x1 : Int32) (x2 : Int32) : Option (Int32 × Int32 × Int32 × Int32 × Int32 × Int32 × Int32 × (Nat → Int32) × (Nat → Int32) × (Nat → Int32) × (Nat → Int32)) := ((fX10_within x1 (1 : Int32) (9 : Int32)).bind (fun b1 => (if (zb b1) = 0 then some ((-1 : Int32), t_listing_reading_digits, t_listing_reading_laid, t_listing_reading_open, t_listing_reading_order, t_listing_reading_prizes, t_listing_reading_stage, t_listing_reading_numbers, t_listing_reading_parts, t_listing_reading_signs, t_listing_times) else ((fX10_within x2 (1 : Int32) (10 : Int32)).bind (fun b4 => (if (zb b4) = 0 then some ((-1 : Int32), t_listing_reading_digits, t_listing_reading_laid, t_listing_reading_open, t_listing_reading_order, t_listing_reading_prizes, t_listing_reading_stage, t_listing_reading_numbers, t_listing_reading_parts, t_listing_reading_signs, t_listing_times) else ((fX3_gather N t_listing_reading_digits t_listing_reading_laid t_listing_reading_open t_listing_reading_order t_listing_reading_prizes t_listing_reading_stage t_listing_reading_numbers t_listing_reading_parts t_listing_reading_signs t_listing_times t_text_length t_text_bytes t_race_guns_ticks t_race_runners_entered t_race_runners_dropped t_race_runners_facts t_race_runners_splits t_race_runners_struck t_race_runners_waved t_race_way_mats t_race_way_cuts).bind (fun (b7, t_listing_reading_digits_r8, t_listing_reading_laid_r9, t_listing_reading_open_r10, t_listing_reading_order_r11, t_listing_reading_prizes_r12, t_listing_reading_stage_r13, t_listing_reading_numbers_r14, t_listing_reading_parts_r15, t_listing_reading_signs_r16, t_listing_times_r17) => (if (zb b7) = 0 then some ((-1 : Int32), t_listing_reading_digits_r8, t_listing_reading_laid_r9, t_listing_reading_open_r10, t_listing_reading_order_r11, t_listing_reading_prizes_r12, t_listing_reading_stage_r13, t_listing_reading_numbers_r14, t_listing_reading_parts_r15, t_listing_reading_signs_r16, t_listing_times_r17) else ((fX3_bestOfTeam N t_listing_times_r17 t_race_runners_entered t_race_runners_facts x1 x2).bind (fun (r20, t_listing_times_r21) => some (r20, t_listing_reading_digits_r8, t_listing_reading_laid_r9, t_listing_reading_open_r10, t_listing_reading_order_r11, t_listing_reading_prizes_r12, t_listing_reading_stage_r13, t_listing_reading_numbers_r14, t_listing_reading_parts_r15, t_listing_reading_signs_r16, t_listing_times_r21))))))))))))
theorem kX10_team_0 : (.fieldLink RX10 50 "RunDesk" "listing" "LRunDesk$Listing;" : Cond) ∈ wsX10_team := List.mem_of_getElem? (i := 1) (by decide +kernel)
theorem qX10_team_X10 : ∀ w ∈ wsX100, w ∈ wsX10_team := fun _ h => List.mem_cons_of_mem _ (List.mem_append_left _ (List.mem_append_left _ (List.mem_append_left _ (List.mem_append_left _ (List.mem_append_left _ (List.mem_append_left _ (List.mem_append_left _ (List.mem_append_right _ (h)))))))))
theorem kX10_team_2 : (.fieldLink RX10 43 "RunDesk" "text" "LRunDesk$Text;" : Cond) ∈ wsX10_team := List.mem_of_getElem? (i := 2) (by decide +kernel)
theorem kX10_team_3 : (.fieldLink RX10 10 "RunDesk" "race" "LRunDesk$Race;" : Cond) ∈ wsX10_team := List.mem_of_getElem? (i := 3) (by decide +kernel)
set_option maxHeartbeats 4000000 in
set_option maxRecDepth 100000 in
theorem mX10_team (l : Launch) (D : va_G) (cB cI cZ : ClassId) (a_t : Nat) (a_t_race : Nat) (a_t_kept : Nat) (a_t_trail : Nat) (a_t_doubts : Nat) (a_t_foretelling : Nat) (a_t_text : Nat) (a_t_listing : Nat) (a_t_listing_reading : Nat) (a_t_listing_times : Nat) (a_t_listing_reading_parts : Nat) (a_t_listing_reading_signs : Nat) (a_t_listing_reading_numbers : Nat) (a_t_race_way : Nat) (a_t_race_guns : Nat) (a_t_race_runners : Nat) (a_t_race_guns_ticks : Nat) (a_t_race_runners_facts : Nat) (a_t_race_runners_splits : Nat) (a_t_race_runners_torn : Nat) (a_t_race_runners_dropped : Nat) (a_t_race_runners_waved : Nat) (a_t_race_runners_struck : Nat) (a_t_race_runners_strikingOrder : Nat) (a_t_race_way_places : Nat) (a_t_race_way_bearings : Nat) (a_t_race_way_cuts : Nat) (a_t_race_way_deaths : Nat) (a_t_text_bytes : Nat) (t_isKept : Int32) (t_listing_reading_laid : Int32) (t_listing_reading_stage : Int32) (t_listing_reading_open : Int32) (t_listing_reading_digits : Int32) (t_listing_reading_order : Int32) (t_listing_reading_prizes : Int32) (t_listing_reading_numbers : Nat → Int32) (t_listing_reading_parts : Nat → Int32) (t_listing_reading_signs : Nat → Int32) (t_listing_times : Nat → Int32) (t_race_guns_ticks : Nat → Int32) (t_race_runners_entered : Int32) (t_race_runners_strikings : Int32) (t_race_runners_dropped : Nat → Int32) (t_race_runners_facts : Nat → Int32) (t_race_runners_splits : Nat → Int32) (t_race_runners_struck : Nat → Int32) (t_race_runners_waved : Nat → Int32) (t_race_way_mats : Int32) (t_race_way_cuts : Nat → Int32) (t_text_length : Int32) (t_text_bytes : Nat → Int32) (sz : Nat) (x1 : Int32) (x2 : Int32) (N : Nat) (r0 : Int32) (t_listing_reading_digits' : Int32) (t_listing_reading_laid' : Int32) (t_listing_reading_open' : Int32) (t_listing_reading_order' : Int32) (t_listing_reading_prizes' : Int32) (t_listing_reading_stage' : Int32) (t_listing_reading_numbers' : Nat → Int32) (t_listing_reading_parts' : Nat → Int32) (t_listing_reading_signs' : Nat → Int32) (t_listing_times' : Nat → Int32) (h : fX10_team N t_listing_reading_digits t_listing_reading_laid t_listing_reading_open t_listing_reading_order t_listing_reading_prizes t_listing_reading_stage t_listing_reading_numbers t_listing_reading_parts t_listing_reading_signs t_listing_times t_race_guns_ticks t_race_runners_entered t_race_runners_dropped t_race_runners_facts t_race_runners_splits t_race_runners_struck t_race_runners_waved t_race_way_mats t_race_way_cuts t_text_length t_text_bytes x1 x2 = some (r0, t_listing_reading_digits', t_listing_reading_laid', t_listing_reading_open', t_listing_reading_order', t_listing_reading_prizes', t_listing_reading_stage', t_listing_reading_numbers', t_listing_reading_parts', t_listing_reading_signs', t_listing_times')) : Met l yX10_team wsX10_team ({ frames := 6, cells := 0, slots := 0, locals := 135 } : Room) (va_Pc [.ref a_t, .int x1, .int x2] (zPre D (zT cB cI cZ) [(a_t, .inr (10, [.ref a_t_race, .ref a_t_kept, .ref a_t_trail, .ref a_t_doubts, .ref a_t_foretelling, .ref a_t_text, .ref a_t_listing, .int t_isKept])), (a_t_listing, .inr (3, [.ref a_t_listing_reading, .ref a_t_listing_times])), (a_t_listing_reading, .inr (5, [.ref a_t_listing_reading_parts, .ref a_t_listing_reading_signs, .ref a_t_listing_reading_numbers, .int t_listing_reading_laid, .int t_listing_reading_stage, .int t_listing_reading_open, .int t_listing_reading_digits, .int t_listing_reading_order, .int t_listing_reading_prizes])), (a_t_listing_reading_numbers, .inl (cI, 200, .inl t_listing_reading_numbers)), (a_t_listing_reading_parts, .inl (cI, 200, .inl t_listing_reading_parts)), (a_t_listing_reading_signs, .inl (cI, 200, .inl t_listing_reading_signs)), (a_t_listing_times, .inl (cI, 60, .inl t_listing_times)), (a_t_race, .inr (4, [.ref a_t_race_way, .ref a_t_race_guns, .ref a_t_race_runners])), (a_t_race_guns, .inr (2, [.ref a_t_race_guns_ticks])), (a_t_race_guns_ticks, .inl (cI, 6, .inl t_race_guns_ticks)), (a_t_race_runners, .inr (6, [.ref a_t_race_runners_facts, .ref a_t_race_runners_splits, .ref a_t_race_runners_torn, .ref a_t_race_runners_dropped, .ref a_t_race_runners_waved, .ref a_t_race_runners_struck, .ref a_t_race_runners_strikingOrder, .int t_race_runners_entered, .int t_race_runners_strikings])), (a_t_race_runners_dropped, .inl (cZ, 60, .inl t_race_runners_dropped)), (a_t_race_runners_facts, .inl (cI, 360, .inl t_race_runners_facts)), (a_t_race_runners_splits, .inl (cI, 720, .inl t_race_runners_splits)), (a_t_race_runners_struck, .inl (cZ, 60, .inl t_race_runners_struck)), (a_t_race_runners_waved, .inl (cZ, 60, .inl t_race_runners_waved)), (a_t_race_way, .inr (9, [.ref a_t_race_way_places, .ref a_t_race_way_bearings, .ref a_t_race_way_cuts, .ref a_t_race_way_deaths, .int t_race_way_mats])), (a_t_race_way_cuts, .inl (cI, 12, .inl t_race_way_cuts)), (a_t_text, .inr (7, [.ref a_t_text_bytes, .int t_text_length])), (a_t_text_bytes, .inl (cI, 200, .inl t_text_bytes))] sz)) (zQi r0 D (zT cB cI cZ) [(a_t, .inr (10, [.ref a_t_race, .ref a_t_kept, .ref a_t_trail, .ref a_t_doubts, .ref a_t_foretelling, .ref a_t_text, .ref a_t_listing, .int t_isKept])), (a_t_listing, .inr (3, [.ref a_t_listing_reading, .ref a_t_listing_times])), (a_t_listing_reading, .inr (5, [.ref a_t_listing_reading_parts, .ref a_t_listing_reading_signs, .ref a_t_listing_reading_numbers, .int t_listing_reading_laid', .int t_listing_reading_stage', .int t_listing_reading_open', .int t_listing_reading_digits', .int t_listing_reading_order', .int t_listing_reading_prizes'])), (a_t_listing_reading_numbers, .inl (cI, 200, .inl t_listing_reading_numbers')), (a_t_listing_reading_parts, .inl (cI, 200, .inl t_listing_reading_parts')), (a_t_listing_reading_signs, .inl (cI, 200, .inl t_listing_reading_signs')), (a_t_listing_times, .inl (cI, 60, .inl t_listing_times')), (a_t_race, .inr (4, [.ref a_t_race_way, .ref a_t_race_guns, .ref a_t_race_runners])), (a_t_race_guns, .inr (2, [.ref a_t_race_guns_ticks])), (a_t_race_guns_ticks, .inl (cI, 6, .inl t_race_guns_ticks)), (a_t_race_runners, .inr (6, [.ref a_t_race_runners_facts, .ref a_t_race_runners_splits, .ref a_t_race_runners_torn, .ref a_t_race_runners_dropped, .ref a_t_race_runners_waved, .ref a_t_race_runners_struck, .ref a_t_race_runners_strikingOrder, .int t_race_runners_entered, .int t_race_runners_strikings])), (a_t_race_runners_dropped, .inl (cZ, 60, .inl t_race_runners_dropped)), (a_t_race_runners_facts, .inl (cI, 360, .inl t_race_runners_facts)), (a_t_race_runners_splits, .inl (cI, 720, .inl t_race_runners_splits)), (a_t_race_runners_struck, .inl (cZ, 60, .inl t_race_runners_struck)), (a_t_race_runners_waved, .inl (cZ, 60, .inl t_race_runners_waved)), (a_t_race_way, .inr (9, [.ref a_t_race_way_places, .ref a_t_race_way_bearings, .ref a_t_race_way_cuts, .ref a_t_race_way_deaths, .int t_race_way_mats])), (a_t_race_way_cuts, .inl (cI, 12, .inl t_race_way_cuts)), (a_t_text, .inr (7, [.ref a_t_text_bytes, .int t_text_length])), (a_t_text_bytes, .inl (cI, 200, .inl t_text_bytes))] (va_A [(a_t, .inr (10, [.ref a_t_race, .ref a_t_kept, .ref a_t_trail, .ref a_t_doubts, .ref a_t_foretelling, .ref a_t_text, .ref a_t_listing, .int t_isKept])), (a_t_listing, .inr (3, [.ref a_t_listing_reading, .ref a_t_listing_times])), (a_t_listing_reading, .inr (5, [.ref a_t_listing_reading_parts, .ref a_t_listing_reading_signs, .ref a_t_listing_reading_numbers, .int t_listing_reading_laid, .int t_listing_reading_stage, .int t_listing_reading_open, .int t_listing_reading_digits, .int t_listing_reading_order, .int t_listing_reading_prizes])), (a_t_listing_reading_numbers, .inl (cI, 200, .inl t_listing_reading_numbers)), (a_t_listing_reading_parts, .inl (cI, 200, .inl t_listing_reading_parts)), (a_t_listing_reading_signs, .inl (cI, 200, .inl t_listing_reading_signs)), (a_t_listing_times, .inl (cI, 60, .inl t_listing_times)), (a_t_race, .inr (4, [.ref a_t_race_way, .ref a_t_race_guns, .ref a_t_race_runners])), (a_t_race_guns, .inr (2, [.ref a_t_race_guns_ticks])), (a_t_race_guns_ticks, .inl (cI, 6, .inl t_race_guns_ticks)), (a_t_race_runners, .inr (6, [.ref a_t_race_runners_facts, .ref a_t_race_runners_splits, .ref a_t_race_runners_torn, .ref a_t_race_runners_dropped, .ref a_t_race_runners_waved, .ref a_t_race_runners_struck, .ref a_t_race_runners_strikingOrder, .int t_race_runners_entered, .int t_race_runners_strikings])), (a_t_race_runners_dropped, .inl (cZ, 60, .inl t_race_runners_dropped)), (a_t_race_runners_facts, .inl (cI, 360, .inl t_race_runners_facts)), (a_t_race_runners_splits, .inl (cI, 720, .inl t_race_runners_splits)), (a_t_race_runners_struck, .inl (cZ, 60, .inl t_race_runners_struck)), (a_t_race_runners_waved, .inl (cZ, 60, .inl t_race_runners_waved)), (a_t_race_way, .inr (9, [.ref a_t_race_way_places, .ref a_t_race_way_bearings, .ref a_t_race_way_cuts, .ref a_t_race_way_deaths, .int t_race_way_mats])), (a_t_race_way_cuts, .inl (cI, 12, .inl t_race_way_cuts)), (a_t_text, .inr (7, [.ref a_t_text_bytes, .int t_text_length])), (a_t_text_bytes, .inl (cI, 200, .inl t_text_bytes))] sz)) 0 0 (va_A [(a_t, .inr (10, [.ref a_t_race, .ref a_t_kept, .ref a_t_trail, .ref a_t_doubts, .ref a_t_foretelling, .ref a_t_text, .ref a_t_listing, .int t_isKept])), (a_t_listing, .inr (3, [.ref a_t_listing_reading, .ref a_t_listing_times])), (a_t_listing_reading, .inr (5, [.ref a_t_listing_reading_parts, .ref a_t_listing_reading_signs, .ref a_t_listing_reading_numbers, .int t_listing_reading_laid, .int t_listing_reading_stage, .int t_listing_reading_open, .int t_listing_reading_digits, .int t_listing_reading_order, .int t_listing_reading_prizes])), (a_t_listing_reading_numbers, .inl (cI, 200, .inl t_listing_reading_numbers)), (a_t_listing_reading_parts, .inl (cI, 200, .inl t_listing_reading_parts)), (a_t_listing_reading_signs, .inl (cI, 200, .inl t_listing_reading_signs)), (a_t_listing_times, .inl (cI, 60, .inl t_listing_times)), (a_t_race, .inr (4, [.ref a_t_race_way, .ref a_t_race_guns, .ref a_t_race_runners])), (a_t_race_guns, .inr (2, [.ref a_t_race_guns_ticks])), (a_t_race_guns_ticks, .inl (cI, 6, .inl t_race_guns_ticks)), (a_t_race_runners, .inr (6, [.ref a_t_race_runners_facts, .ref a_t_race_runners_splits, .ref a_t_race_runners_torn, .ref a_t_race_runners_dropped, .ref a_t_race_runners_waved, .ref a_t_race_runners_struck, .ref a_t_race_runners_strikingOrder, .int t_race_runners_entered, .int t_race_runners_strikings])), (a_t_race_runners_dropped, .inl (cZ, 60, .inl t_race_runners_dropped)), (a_t_race_runners_facts, .inl (cI, 360, .inl t_race_runners_facts)), (a_t_race_runners_splits, .inl (cI, 720, .inl t_race_runners_splits)), (a_t_race_runners_struck, .inl (cZ, 60, .inl t_race_runners_struck)), (a_t_race_runners_waved, .inl (cZ, 60, .inl t_race_runners_waved)), (a_t_race_way, .inr (9, [.ref a_t_race_way_places, .ref a_t_race_way_bearings, .ref a_t_race_way_cuts, .ref a_t_race_way_deaths, .int t_race_way_mats])), (a_t_race_way_cuts, .inl (cI, 12, .inl t_race_way_cuts)), (a_t_text, .inr (7, [.ref a_t_text_bytes, .int t_text_length])), (a_t_text_bytes, .inl (cI, 200, .inl t_text_bytes))] sz) := by
  refine Met.ofW (cc := cX10_team) (maxL := 3) (ret := (some .int)) (by decide) rfl ?_
  intro p e s m args below meth c s₁ B hml hv
  obtain ⟨rfl, hsz, hP, hK, hN, hZ, hD0⟩ := hv
  have hx := B.exec
  have hb := B.bytes
  have hr := B.returns
  have hts := atoms_spec (ws := wsX10_team) B.pre
  have hown : s.vm.findClass RX10 = some m.cls := findClass_of_methodNamed B.named
  have hlocks := B.notSynchronized
  subst hsz
  have hD := hD0.self (sz := s.heap.size)
  generalize hAe : va_A [(a_t, .inr (10, [.ref a_t_race, .ref a_t_kept, .ref a_t_trail, .ref a_t_doubts, .ref a_t_foretelling, .ref a_t_text, .ref a_t_listing, .int t_isKept])), (a_t_listing, .inr (3, [.ref a_t_listing_reading, .ref a_t_listing_times])), (a_t_listing_reading, .inr (5, [.ref a_t_listing_reading_parts, .ref a_t_listing_reading_signs, .ref a_t_listing_reading_numbers, .int t_listing_reading_laid, .int t_listing_reading_stage, .int t_listing_reading_open, .int t_listing_reading_digits, .int t_listing_reading_order, .int t_listing_reading_prizes])), (a_t_listing_reading_numbers, .inl (cI, 200, .inl t_listing_reading_numbers)), (a_t_listing_reading_parts, .inl (cI, 200, .inl t_listing_reading_parts)), (a_t_listing_reading_signs, .inl (cI, 200, .inl t_listing_reading_signs)), (a_t_listing_times, .inl (cI, 60, .inl t_listing_times)), (a_t_race, .inr (4, [.ref a_t_race_way, .ref a_t_race_guns, .ref a_t_race_runners])), (a_t_race_guns, .inr (2, [.ref a_t_race_guns_ticks])), (a_t_race_guns_ticks, .inl (cI, 6, .inl t_race_guns_ticks)), (a_t_race_runners, .inr (6, [.ref a_t_race_runners_facts, .ref a_t_race_runners_splits, .ref a_t_race_runners_torn, .ref a_t_race_runners_dropped, .ref a_t_race_runners_waved, .ref a_t_race_runners_struck, .ref a_t_race_runners_strikingOrder, .int t_race_runners_entered, .int t_race_runners_strikings])), (a_t_race_runners_dropped, .inl (cZ, 60, .inl t_race_runners_dropped)), (a_t_race_runners_facts, .inl (cI, 360, .inl t_race_runners_facts)), (a_t_race_runners_splits, .inl (cI, 720, .inl t_race_runners_splits)), (a_t_race_runners_struck, .inl (cZ, 60, .inl t_race_runners_struck)), (a_t_race_runners_waved, .inl (cZ, 60, .inl t_race_runners_waved)), (a_t_race_way, .inr (9, [.ref a_t_race_way_places, .ref a_t_race_way_bearings, .ref a_t_race_way_cuts, .ref a_t_race_way_deaths, .int t_race_way_mats])), (a_t_race_way_cuts, .inl (cI, 12, .inl t_race_way_cuts)), (a_t_text, .inr (7, [.ref a_t_text_bytes, .int t_text_length])), (a_t_text_bytes, .inl (cI, 200, .inl t_text_bytes))] s.heap.size = A at hD hZ ⊢
  have hA : ∀ q : Nat, s.heap.size ≤ q → A q := fun q h => by rw [← hAe]; exact Or.inr h
  have hS : va_S A s.heap s.heap [] := va_S.rf
  have hl := lv_entry ([.ref a_t, .int x1, .int x2]) (n := 3) (Nat.le_of_ble_eq_true rfl)
  rw [lg_entry_eq]
  generalize (lg_sl ([.ref a_t, .int x1, .int x2]) ++ List.replicate (3 - (lg_sl ([.ref a_t, .int x1, .int x2])).length) Slot.unset).toArray = ls at hl ⊢
  have hl : lv_has ls 3 [(0, .ref a_t), (1, .int x1), (2, .int x2)] := hl
  unfold fX10_team at h
  refine lv_iload_n hx hb dX10_team_0 rfl (lv_at hl 1 rfl) ?_
  refine lv_iconst (v := (1 : Int32)) hx hb dX10_team_1 rfl ?_
  refine lv_bipush (v := (9 : Int32)) hx hb dX10_team_2 rfl ?_
  obtain ⟨b1, e2, h⟩ := zz_b h
  refine zSi (As := [.int x1, .int (1 : Int32), .int (9 : Int32)]) (rest := []) (wr := [(a_t, .inr (10, [.ref a_t_race, .ref a_t_kept, .ref a_t_trail, .ref a_t_doubts, .ref a_t_foretelling, .ref a_t_text, .ref a_t_listing, .int t_isKept])), (a_t_listing, .inr (3, [.ref a_t_listing_reading, .ref a_t_listing_times])), (a_t_listing_reading, .inr (5, [.ref a_t_listing_reading_parts, .ref a_t_listing_reading_signs, .ref a_t_listing_reading_numbers, .int t_listing_reading_laid, .int t_listing_reading_stage, .int t_listing_reading_open, .int t_listing_reading_digits, .int t_listing_reading_order, .int t_listing_reading_prizes])), (a_t_listing_reading_numbers, .inl (cI, 200, .inl t_listing_reading_numbers)), (a_t_listing_reading_parts, .inl (cI, 200, .inl t_listing_reading_parts)), (a_t_listing_reading_signs, .inl (cI, 200, .inl t_listing_reading_signs)), (a_t_listing_times, .inl (cI, 60, .inl t_listing_times)), (a_t_race, .inr (4, [.ref a_t_race_way, .ref a_t_race_guns, .ref a_t_race_runners])), (a_t_race_guns, .inr (2, [.ref a_t_race_guns_ticks])), (a_t_race_guns_ticks, .inl (cI, 6, .inl t_race_guns_ticks)), (a_t_race_runners, .inr (6, [.ref a_t_race_runners_facts, .ref a_t_race_runners_splits, .ref a_t_race_runners_torn, .ref a_t_race_runners_dropped, .ref a_t_race_runners_waved, .ref a_t_race_runners_struck, .ref a_t_race_runners_strikingOrder, .int t_race_runners_entered, .int t_race_runners_strikings])), (a_t_race_runners_dropped, .inl (cZ, 60, .inl t_race_runners_dropped)), (a_t_race_runners_facts, .inl (cI, 360, .inl t_race_runners_facts)), (a_t_race_runners_splits, .inl (cI, 720, .inl t_race_runners_splits)), (a_t_race_runners_struck, .inl (cZ, 60, .inl t_race_runners_struck)), (a_t_race_runners_waved, .inl (cZ, 60, .inl t_race_runners_waved)), (a_t_race_way, .inr (9, [.ref a_t_race_way_places, .ref a_t_race_way_bearings, .ref a_t_race_way_cuts, .ref a_t_race_way_deaths, .int t_race_way_mats])), (a_t_race_way_cuts, .inl (cI, 12, .inl t_race_way_cuts)), (a_t_text, .inr (7, [.ref a_t_text_bytes, .int t_text_length])), (a_t_text_bytes, .inl (cI, 200, .inl t_text_bytes))]) [] [0, 1, 2, 3, 4, 5, 6, 7, 8, 9, 10, 11, 12, 13, 14, 15, 16, 17, 18, 19] ⟨hx, hb, hml, hown, hts⟩ (mX10_within l D cB cI cZ s.heap.size x1 (1 : Int32) (9 : Int32) b1 e2) (va_cwS 3 hts gX10_team_X10_within rfl rfl rfl (by decide +kernel) ⟨Nat.le_of_ble_eq_true rfl, Nat.le_of_ble_eq_true rfl⟩) hK hN hZ hP hD hS hA rfl rfl rfl rfl rfl rfl hl.1 rfl (lv_room (Nat.le_of_ble_eq_true rfl)) dX10_team_4 ⟨Nat.le_of_ble_eq_true rfl, Nat.le_of_ble_eq_true rfl⟩ (fun H locs hP hD hS => ?_)
  have hP : va_P D vwCl [(a_t, .inr (10, [.ref a_t_race, .ref a_t_kept, .ref a_t_trail, .ref a_t_doubts, .ref a_t_foretelling, .ref a_t_text, .ref a_t_listing, .int t_isKept])), (a_t_listing, .inr (3, [.ref a_t_listing_reading, .ref a_t_listing_times])), (a_t_listing_reading, .inr (5, [.ref a_t_listing_reading_parts, .ref a_t_listing_reading_signs, .ref a_t_listing_reading_numbers, .int t_listing_reading_laid, .int t_listing_reading_stage, .int t_listing_reading_open, .int t_listing_reading_digits, .int t_listing_reading_order, .int t_listing_reading_prizes])), (a_t_listing_reading_numbers, .inl (cI, 200, .inl t_listing_reading_numbers)), (a_t_listing_reading_parts, .inl (cI, 200, .inl t_listing_reading_parts)), (a_t_listing_reading_signs, .inl (cI, 200, .inl t_listing_reading_signs)), (a_t_listing_times, .inl (cI, 60, .inl t_listing_times)), (a_t_race, .inr (4, [.ref a_t_race_way, .ref a_t_race_guns, .ref a_t_race_runners])), (a_t_race_guns, .inr (2, [.ref a_t_race_guns_ticks])), (a_t_race_guns_ticks, .inl (cI, 6, .inl t_race_guns_ticks)), (a_t_race_runners, .inr (6, [.ref a_t_race_runners_facts, .ref a_t_race_runners_splits, .ref a_t_race_runners_torn, .ref a_t_race_runners_dropped, .ref a_t_race_runners_waved, .ref a_t_race_runners_struck, .ref a_t_race_runners_strikingOrder, .int t_race_runners_entered, .int t_race_runners_strikings])), (a_t_race_runners_dropped, .inl (cZ, 60, .inl t_race_runners_dropped)), (a_t_race_runners_facts, .inl (cI, 360, .inl t_race_runners_facts)), (a_t_race_runners_splits, .inl (cI, 720, .inl t_race_runners_splits)), (a_t_race_runners_struck, .inl (cZ, 60, .inl t_race_runners_struck)), (a_t_race_runners_waved, .inl (cZ, 60, .inl t_race_runners_waved)), (a_t_race_way, .inr (9, [.ref a_t_race_way_places, .ref a_t_race_way_bearings, .ref a_t_race_way_cuts, .ref a_t_race_way_deaths, .int t_race_way_mats])), (a_t_race_way_cuts, .inl (cI, 12, .inl t_race_way_cuts)), (a_t_text, .inr (7, [.ref a_t_text_bytes, .int t_text_length])), (a_t_text_bytes, .inl (cI, 200, .inl t_text_bytes))] H := hP
  have hD : va_D A [(a_t, .inr (10, [.ref a_t_race, .ref a_t_kept, .ref a_t_trail, .ref a_t_doubts, .ref a_t_foretelling, .ref a_t_text, .ref a_t_listing, .int t_isKept])), (a_t_listing, .inr (3, [.ref a_t_listing_reading, .ref a_t_listing_times])), (a_t_listing_reading, .inr (5, [.ref a_t_listing_reading_parts, .ref a_t_listing_reading_signs, .ref a_t_listing_reading_numbers, .int t_listing_reading_laid, .int t_listing_reading_stage, .int t_listing_reading_open, .int t_listing_reading_digits, .int t_listing_reading_order, .int t_listing_reading_prizes])), (a_t_listing_reading_numbers, .inl (cI, 200, .inl t_listing_reading_numbers)), (a_t_listing_reading_parts, .inl (cI, 200, .inl t_listing_reading_parts)), (a_t_listing_reading_signs, .inl (cI, 200, .inl t_listing_reading_signs)), (a_t_listing_times, .inl (cI, 60, .inl t_listing_times)), (a_t_race, .inr (4, [.ref a_t_race_way, .ref a_t_race_guns, .ref a_t_race_runners])), (a_t_race_guns, .inr (2, [.ref a_t_race_guns_ticks])), (a_t_race_guns_ticks, .inl (cI, 6, .inl t_race_guns_ticks)), (a_t_race_runners, .inr (6, [.ref a_t_race_runners_facts, .ref a_t_race_runners_splits, .ref a_t_race_runners_torn, .ref a_t_race_runners_dropped, .ref a_t_race_runners_waved, .ref a_t_race_runners_struck, .ref a_t_race_runners_strikingOrder, .int t_race_runners_entered, .int t_race_runners_strikings])), (a_t_race_runners_dropped, .inl (cZ, 60, .inl t_race_runners_dropped)), (a_t_race_runners_facts, .inl (cI, 360, .inl t_race_runners_facts)), (a_t_race_runners_splits, .inl (cI, 720, .inl t_race_runners_splits)), (a_t_race_runners_struck, .inl (cZ, 60, .inl t_race_runners_struck)), (a_t_race_runners_waved, .inl (cZ, 60, .inl t_race_runners_waved)), (a_t_race_way, .inr (9, [.ref a_t_race_way_places, .ref a_t_race_way_bearings, .ref a_t_race_way_cuts, .ref a_t_race_way_deaths, .int t_race_way_mats])), (a_t_race_way_cuts, .inl (cI, 12, .inl t_race_way_cuts)), (a_t_text, .inr (7, [.ref a_t_text_bytes, .int t_text_length])), (a_t_text_bytes, .inl (cI, 200, .inl t_text_bytes))] := hD
  refine lv_if_eq (tgt := 20) hx hb dX10_team_7 (by decide) (fun c3 => ?_) (fun c3 => ?_)
  · have h := zz_t h c3
    refine lv_iconst (v := (-1 : Int32)) hx hb dX10_team_20 rfl ?_
    obtain ⟨j0_, g_⟩ := Prod.mk.inj (Option.some.inj h)
    obtain ⟨j1_, g_⟩ := Prod.mk.inj g_
    obtain ⟨j2_, g_⟩ := Prod.mk.inj g_
    obtain ⟨j3_, g_⟩ := Prod.mk.inj g_
    obtain ⟨j4_, g_⟩ := Prod.mk.inj g_
    obtain ⟨j5_, g_⟩ := Prod.mk.inj g_
    obtain ⟨j6_, g_⟩ := Prod.mk.inj g_
    obtain ⟨j7_, g_⟩ := Prod.mk.inj g_
    obtain ⟨j8_, g_⟩ := Prod.mk.inj g_
    obtain ⟨j9_, g_⟩ := Prod.mk.inj g_
    have j10_ := g_
    subst j0_
    subst j1_
    subst j2_
    subst j3_
    subst j4_
    subst j5_
    subst j6_
    subst j7_
    subst j8_
    subst j9_
    subst j10_
    exact W.iret (v := (-1 : Int32)) hx hb hr (fun t ht hW => ⟨⟨_, (), rfl, rfl, zPost.of hP hD hK ht hW [0, 1, 2, 3, 4, 5, 6, 7, 8, 9, 10, 11, 12, 13, 14, 15, 16, 17, 18, 19] rfl rfl rfl⟩, hS.F ht⟩) hS.2.2 dX10_team_21
  · have h := zz_f h c3
    refine lv_iload_n hx hb dX10_team_10 rfl (lv_at hl 2 rfl) ?_
    refine lv_iconst (v := (1 : Int32)) hx hb dX10_team_11 rfl ?_
    refine lv_bipush (v := (10 : Int32)) hx hb dX10_team_12 rfl ?_
    obtain ⟨b4, e5, h⟩ := zz_b h
    refine zSi (As := [.int x2, .int (1 : Int32), .int (10 : Int32)]) (rest := []) (wr := [(a_t, .inr (10, [.ref a_t_race, .ref a_t_kept, .ref a_t_trail, .ref a_t_doubts, .ref a_t_foretelling, .ref a_t_text, .ref a_t_listing, .int t_isKept])), (a_t_listing, .inr (3, [.ref a_t_listing_reading, .ref a_t_listing_times])), (a_t_listing_reading, .inr (5, [.ref a_t_listing_reading_parts, .ref a_t_listing_reading_signs, .ref a_t_listing_reading_numbers, .int t_listing_reading_laid, .int t_listing_reading_stage, .int t_listing_reading_open, .int t_listing_reading_digits, .int t_listing_reading_order, .int t_listing_reading_prizes])), (a_t_listing_reading_numbers, .inl (cI, 200, .inl t_listing_reading_numbers)), (a_t_listing_reading_parts, .inl (cI, 200, .inl t_listing_reading_parts)), (a_t_listing_reading_signs, .inl (cI, 200, .inl t_listing_reading_signs)), (a_t_listing_times, .inl (cI, 60, .inl t_listing_times)), (a_t_race, .inr (4, [.ref a_t_race_way, .ref a_t_race_guns, .ref a_t_race_runners])), (a_t_race_guns, .inr (2, [.ref a_t_race_guns_ticks])), (a_t_race_guns_ticks, .inl (cI, 6, .inl t_race_guns_ticks)), (a_t_race_runners, .inr (6, [.ref a_t_race_runners_facts, .ref a_t_race_runners_splits, .ref a_t_race_runners_torn, .ref a_t_race_runners_dropped, .ref a_t_race_runners_waved, .ref a_t_race_runners_struck, .ref a_t_race_runners_strikingOrder, .int t_race_runners_entered, .int t_race_runners_strikings])), (a_t_race_runners_dropped, .inl (cZ, 60, .inl t_race_runners_dropped)), (a_t_race_runners_facts, .inl (cI, 360, .inl t_race_runners_facts)), (a_t_race_runners_splits, .inl (cI, 720, .inl t_race_runners_splits)), (a_t_race_runners_struck, .inl (cZ, 60, .inl t_race_runners_struck)), (a_t_race_runners_waved, .inl (cZ, 60, .inl t_race_runners_waved)), (a_t_race_way, .inr (9, [.ref a_t_race_way_places, .ref a_t_race_way_bearings, .ref a_t_race_way_cuts, .ref a_t_race_way_deaths, .int t_race_way_mats])), (a_t_race_way_cuts, .inl (cI, 12, .inl t_race_way_cuts)), (a_t_text, .inr (7, [.ref a_t_text_bytes, .int t_text_length])), (a_t_text_bytes, .inl (cI, 200, .inl t_text_bytes))]) [] [0, 1, 2, 3, 4, 5, 6, 7, 8, 9, 10, 11, 12, 13, 14, 15, 16, 17, 18, 19] ⟨hx, hb, hml, hown, hts⟩ (mX10_within l D cB cI cZ H.size x2 (1 : Int32) (10 : Int32) b4 e5) (va_cwS 3 hts gX10_team_X10_within rfl rfl rfl (by decide +kernel) ⟨Nat.le_of_ble_eq_true rfl, Nat.le_of_ble_eq_true rfl⟩) hK hN hZ hP hD hS hA rfl rfl rfl rfl rfl rfl hl.1 rfl (lv_room (Nat.le_of_ble_eq_true rfl)) dX10_team_14 ⟨Nat.le_of_ble_eq_true rfl, Nat.le_of_ble_eq_true rfl⟩ (fun H locs hP hD hS => ?_)
    have hP : va_P D vwCl [(a_t, .inr (10, [.ref a_t_race, .ref a_t_kept, .ref a_t_trail, .ref a_t_doubts, .ref a_t_foretelling, .ref a_t_text, .ref a_t_listing, .int t_isKept])), (a_t_listing, .inr (3, [.ref a_t_listing_reading, .ref a_t_listing_times])), (a_t_listing_reading, .inr (5, [.ref a_t_listing_reading_parts, .ref a_t_listing_reading_signs, .ref a_t_listing_reading_numbers, .int t_listing_reading_laid, .int t_listing_reading_stage, .int t_listing_reading_open, .int t_listing_reading_digits, .int t_listing_reading_order, .int t_listing_reading_prizes])), (a_t_listing_reading_numbers, .inl (cI, 200, .inl t_listing_reading_numbers)), (a_t_listing_reading_parts, .inl (cI, 200, .inl t_listing_reading_parts)), (a_t_listing_reading_signs, .inl (cI, 200, .inl t_listing_reading_signs)), (a_t_listing_times, .inl (cI, 60, .inl t_listing_times)), (a_t_race, .inr (4, [.ref a_t_race_way, .ref a_t_race_guns, .ref a_t_race_runners])), (a_t_race_guns, .inr (2, [.ref a_t_race_guns_ticks])), (a_t_race_guns_ticks, .inl (cI, 6, .inl t_race_guns_ticks)), (a_t_race_runners, .inr (6, [.ref a_t_race_runners_facts, .ref a_t_race_runners_splits, .ref a_t_race_runners_torn, .ref a_t_race_runners_dropped, .ref a_t_race_runners_waved, .ref a_t_race_runners_struck, .ref a_t_race_runners_strikingOrder, .int t_race_runners_entered, .int t_race_runners_strikings])), (a_t_race_runners_dropped, .inl (cZ, 60, .inl t_race_runners_dropped)), (a_t_race_runners_facts, .inl (cI, 360, .inl t_race_runners_facts)), (a_t_race_runners_splits, .inl (cI, 720, .inl t_race_runners_splits)), (a_t_race_runners_struck, .inl (cZ, 60, .inl t_race_runners_struck)), (a_t_race_runners_waved, .inl (cZ, 60, .inl t_race_runners_waved)), (a_t_race_way, .inr (9, [.ref a_t_race_way_places, .ref a_t_race_way_bearings, .ref a_t_race_way_cuts, .ref a_t_race_way_deaths, .int t_race_way_mats])), (a_t_race_way_cuts, .inl (cI, 12, .inl t_race_way_cuts)), (a_t_text, .inr (7, [.ref a_t_text_bytes, .int t_text_length])), (a_t_text_bytes, .inl (cI, 200, .inl t_text_bytes))] H := hP
    have hD : va_D A [(a_t, .inr (10, [.ref a_t_race, .ref a_t_kept, .ref a_t_trail, .ref a_t_doubts, .ref a_t_foretelling, .ref a_t_text, .ref a_t_listing, .int t_isKept])), (a_t_listing, .inr (3, [.ref a_t_listing_reading, .ref a_t_listing_times])), (a_t_listing_reading, .inr (5, [.ref a_t_listing_reading_parts, .ref a_t_listing_reading_signs, .ref a_t_listing_reading_numbers, .int t_listing_reading_laid, .int t_listing_reading_stage, .int t_listing_reading_open, .int t_listing_reading_digits, .int t_listing_reading_order, .int t_listing_reading_prizes])), (a_t_listing_reading_numbers, .inl (cI, 200, .inl t_listing_reading_numbers)), (a_t_listing_reading_parts, .inl (cI, 200, .inl t_listing_reading_parts)), (a_t_listing_reading_signs, .inl (cI, 200, .inl t_listing_reading_signs)), (a_t_listing_times, .inl (cI, 60, .inl t_listing_times)), (a_t_race, .inr (4, [.ref a_t_race_way, .ref a_t_race_guns, .ref a_t_race_runners])), (a_t_race_guns, .inr (2, [.ref a_t_race_guns_ticks])), (a_t_race_guns_ticks, .inl (cI, 6, .inl t_race_guns_ticks)), (a_t_race_runners, .inr (6, [.ref a_t_race_runners_facts, .ref a_t_race_runners_splits, .ref a_t_race_runners_torn, .ref a_t_race_runners_dropped, .ref a_t_race_runners_waved, .ref a_t_race_runners_struck, .ref a_t_race_runners_strikingOrder, .int t_race_runners_entered, .int t_race_runners_strikings])), (a_t_race_runners_dropped, .inl (cZ, 60, .inl t_race_runners_dropped)), (a_t_race_runners_facts, .inl (cI, 360, .inl t_race_runners_facts)), (a_t_race_runners_splits, .inl (cI, 720, .inl t_race_runners_splits)), (a_t_race_runners_struck, .inl (cZ, 60, .inl t_race_runners_struck)), (a_t_race_runners_waved, .inl (cZ, 60, .inl t_race_runners_waved)), (a_t_race_way, .inr (9, [.ref a_t_race_way_places, .ref a_t_race_way_bearings, .ref a_t_race_way_cuts, .ref a_t_race_way_deaths, .int t_race_way_mats])), (a_t_race_way_cuts, .inl (cI, 12, .inl t_race_way_cuts)), (a_t_text, .inr (7, [.ref a_t_text_bytes, .int t_text_length])), (a_t_text_bytes, .inl (cI, 200, .inl t_text_bytes))] := hD
    refine lv_if_ne (tgt := 22) hx hb dX10_team_17 (by decide) (fun c6 => ?_) (fun c6 => ?_)
    · have h := zz_f h c6
      refine lv_aload_n hx hb dX10_team_22 rfl (lv_at hl 0 rfl) ?_
      refine va_get (D := D) (ci := 10) (C := RX10) (T := TX10) (N := 8) hx hb hts qX10_team_X10 hown hK hP 0 rfl rfl 6 (by decide) (hts _ kX10_team_0) (fun _ h9 => h9) rfl dX10_team_23 ?_
      refine lv_aload_n hx hb dX10_team_26 rfl (lv_at hl 0 rfl) ?_
      refine va_get (D := D) (ci := 10) (C := RX10) (T := TX10) (N := 8) hx hb hts qX10_team_X10 hown hK hP 0 rfl rfl 5 (by decide) (hts _ kX10_team_2) (fun _ h9 => h9) rfl dX10_team_27 ?_
      refine lv_aload_n hx hb dX10_team_30 rfl (lv_at hl 0 rfl) ?_
      refine va_get (D := D) (ci := 10) (C := RX10) (T := TX10) (N := 8) hx hb hts qX10_team_X10 hown hK hP 0 rfl rfl 0 (by decide) (hts _ kX10_team_3) (fun _ h9 => h9) rfl dX10_team_31 ?_
      obtain ⟨⟨b7, t_listing_reading_digits_r8, t_listing_reading_laid_r9, t_listing_reading_open_r10, t_listing_reading_order_r11, t_listing_reading_prizes_r12, t_listing_reading_stage_r13, t_listing_reading_numbers_r14, t_listing_reading_parts_r15, t_listing_reading_signs_r16, t_listing_times_r17⟩, e18, h⟩ := zz_b h
      dsimp only at h
      refine zVi (As := [.ref a_t_text, .ref a_t_race]) (rest := []) (C := RX3) (wr := [(a_t, .inr (10, [.ref a_t_race, .ref a_t_kept, .ref a_t_trail, .ref a_t_doubts, .ref a_t_foretelling, .ref a_t_text, .ref a_t_listing, .int t_isKept]))]) [1, 2, 3, 4, 5, 6, 18, 19, 7, 8, 9, 10, 11, 12, 13, 14, 15, 16, 17] [0] 0 ⟨hx, hb, hml, hown, hts⟩ (mX3_gather l D cB cI cZ a_t_listing a_t_text a_t_race a_t_listing_reading a_t_listing_times a_t_listing_reading_parts a_t_listing_reading_signs a_t_listing_reading_numbers a_t_text_bytes a_t_race_way a_t_race_guns a_t_race_runners a_t_race_guns_ticks a_t_race_runners_facts a_t_race_runners_splits a_t_race_runners_torn a_t_race_runners_dropped a_t_race_runners_waved a_t_race_runners_struck a_t_race_runners_strikingOrder a_t_race_way_places a_t_race_way_bearings a_t_race_way_cuts a_t_race_way_deaths t_listing_reading_laid t_listing_reading_stage t_listing_reading_open t_listing_reading_digits t_listing_reading_order t_listing_reading_prizes t_listing_reading_numbers t_listing_reading_parts t_listing_reading_signs t_listing_times t_text_length t_text_bytes t_race_guns_ticks t_race_runners_entered t_race_runners_strikings t_race_runners_dropped t_race_runners_facts t_race_runners_splits t_race_runners_struck t_race_runners_waved t_race_way_mats t_race_way_cuts H.size N b7 t_listing_reading_digits_r8 t_listing_reading_laid_r9 t_listing_reading_open_r10 t_listing_reading_order_r11 t_listing_reading_prizes_r12 t_listing_reading_stage_r13 t_listing_reading_numbers_r14 t_listing_reading_parts_r15 t_listing_reading_signs_r16 t_listing_times_r17 e18) (cwV 2 hts gX10_team_X3_gather rfl rfl rfl (by decide +kernel) ⟨Nat.le_of_ble_eq_true rfl, Nat.le_of_ble_eq_true rfl⟩) hK hN hZ hP hD hS hA rfl rfl rfl rfl rfl rfl rfl rfl hl.1 rfl (lv_room (Nat.le_of_ble_eq_true rfl)) dX10_team_34 ⟨Nat.le_of_ble_eq_true rfl, Nat.le_of_ble_eq_true rfl⟩ (fun H locs hP hD hS => ?_)
      have hP : va_P D vwCl [(a_t, .inr (10, [.ref a_t_race, .ref a_t_kept, .ref a_t_trail, .ref a_t_doubts, .ref a_t_foretelling, .ref a_t_text, .ref a_t_listing, .int t_isKept])), (a_t_listing, .inr (3, [.ref a_t_listing_reading, .ref a_t_listing_times])), (a_t_listing_reading, .inr (5, [.ref a_t_listing_reading_parts, .ref a_t_listing_reading_signs, .ref a_t_listing_reading_numbers, .int t_listing_reading_laid_r9, .int t_listing_reading_stage_r13, .int t_listing_reading_open_r10, .int t_listing_reading_digits_r8, .int t_listing_reading_order_r11, .int t_listing_reading_prizes_r12])), (a_t_listing_reading_numbers, .inl (cI, 200, .inl t_listing_reading_numbers_r14)), (a_t_listing_reading_parts, .inl (cI, 200, .inl t_listing_reading_parts_r15)), (a_t_listing_reading_signs, .inl (cI, 200, .inl t_listing_reading_signs_r16)), (a_t_listing_times, .inl (cI, 60, .inl t_listing_times_r17)), (a_t_text, .inr (7, [.ref a_t_text_bytes, .int t_text_length])), (a_t_text_bytes, .inl (cI, 200, .inl t_text_bytes)), (a_t_race, .inr (4, [.ref a_t_race_way, .ref a_t_race_guns, .ref a_t_race_runners])), (a_t_race_guns, .inr (2, [.ref a_t_race_guns_ticks])), (a_t_race_guns_ticks, .inl (cI, 6, .inl t_race_guns_ticks)), (a_t_race_runners, .inr (6, [.ref a_t_race_runners_facts, .ref a_t_race_runners_splits, .ref a_t_race_runners_torn, .ref a_t_race_runners_dropped, .ref a_t_race_runners_waved, .ref a_t_race_runners_struck, .ref a_t_race_runners_strikingOrder, .int t_race_runners_entered, .int t_race_runners_strikings])), (a_t_race_runners_dropped, .inl (cZ, 60, .inl t_race_runners_dropped)), (a_t_race_runners_facts, .inl (cI, 360, .inl t_race_runners_facts)), (a_t_race_runners_splits, .inl (cI, 720, .inl t_race_runners_splits)), (a_t_race_runners_struck, .inl (cZ, 60, .inl t_race_runners_struck)), (a_t_race_runners_waved, .inl (cZ, 60, .inl t_race_runners_waved)), (a_t_race_way, .inr (9, [.ref a_t_race_way_places, .ref a_t_race_way_bearings, .ref a_t_race_way_cuts, .ref a_t_race_way_deaths, .int t_race_way_mats])), (a_t_race_way_cuts, .inl (cI, 12, .inl t_race_way_cuts))] H := hP
      have hD : va_D A [(a_t, .inr (10, [.ref a_t_race, .ref a_t_kept, .ref a_t_trail, .ref a_t_doubts, .ref a_t_foretelling, .ref a_t_text, .ref a_t_listing, .int t_isKept])), (a_t_listing, .inr (3, [.ref a_t_listing_reading, .ref a_t_listing_times])), (a_t_listing_reading, .inr (5, [.ref a_t_listing_reading_parts, .ref a_t_listing_reading_signs, .ref a_t_listing_reading_numbers, .int t_listing_reading_laid_r9, .int t_listing_reading_stage_r13, .int t_listing_reading_open_r10, .int t_listing_reading_digits_r8, .int t_listing_reading_order_r11, .int t_listing_reading_prizes_r12])), (a_t_listing_reading_numbers, .inl (cI, 200, .inl t_listing_reading_numbers_r14)), (a_t_listing_reading_parts, .inl (cI, 200, .inl t_listing_reading_parts_r15)), (a_t_listing_reading_signs, .inl (cI, 200, .inl t_listing_reading_signs_r16)), (a_t_listing_times, .inl (cI, 60, .inl t_listing_times_r17)), (a_t_text, .inr (7, [.ref a_t_text_bytes, .int t_text_length])), (a_t_text_bytes, .inl (cI, 200, .inl t_text_bytes)), (a_t_race, .inr (4, [.ref a_t_race_way, .ref a_t_race_guns, .ref a_t_race_runners])), (a_t_race_guns, .inr (2, [.ref a_t_race_guns_ticks])), (a_t_race_guns_ticks, .inl (cI, 6, .inl t_race_guns_ticks)), (a_t_race_runners, .inr (6, [.ref a_t_race_runners_facts, .ref a_t_race_runners_splits, .ref a_t_race_runners_torn, .ref a_t_race_runners_dropped, .ref a_t_race_runners_waved, .ref a_t_race_runners_struck, .ref a_t_race_runners_strikingOrder, .int t_race_runners_entered, .int t_race_runners_strikings])), (a_t_race_runners_dropped, .inl (cZ, 60, .inl t_race_runners_dropped)), (a_t_race_runners_facts, .inl (cI, 360, .inl t_race_runners_facts)), (a_t_race_runners_splits, .inl (cI, 720, .inl t_race_runners_splits)), (a_t_race_runners_struck, .inl (cZ, 60, .inl t_race_runners_struck)), (a_t_race_runners_waved, .inl (cZ, 60, .inl t_race_runners_waved)), (a_t_race_way, .inr (9, [.ref a_t_race_way_places, .ref a_t_race_way_bearings, .ref a_t_race_way_cuts, .ref a_t_race_way_deaths, .int t_race_way_mats])), (a_t_race_way_cuts, .inl (cI, 12, .inl t_race_way_cuts))] := hD
      refine lv_if_eq (tgt := 56) hx hb dX10_team_37 (by decide) (fun c19 => ?_) (fun c19 => ?_)
      · have h := zz_t h c19
        refine lv_iconst (v := (-1 : Int32)) hx hb dX10_team_56 rfl ?_
        obtain ⟨j0_, g_⟩ := Prod.mk.inj (Option.some.inj h)
        obtain ⟨j1_, g_⟩ := Prod.mk.inj g_
        obtain ⟨j2_, g_⟩ := Prod.mk.inj g_
        obtain ⟨j3_, g_⟩ := Prod.mk.inj g_
        obtain ⟨j4_, g_⟩ := Prod.mk.inj g_
        obtain ⟨j5_, g_⟩ := Prod.mk.inj g_
        obtain ⟨j6_, g_⟩ := Prod.mk.inj g_
        obtain ⟨j7_, g_⟩ := Prod.mk.inj g_
        obtain ⟨j8_, g_⟩ := Prod.mk.inj g_
        obtain ⟨j9_, g_⟩ := Prod.mk.inj g_
        have j10_ := g_
        subst j0_
        subst j1_
        subst j2_
        subst j3_
        subst j4_
        subst j5_
        subst j6_
        subst j7_
        subst j8_
        subst j9_
        subst j10_
        exact W.iret (v := (-1 : Int32)) hx hb hr (fun t ht hW => ⟨⟨_, (), rfl, rfl, zPost.of hP hD hK ht hW [0, 1, 2, 3, 4, 5, 6, 9, 10, 11, 12, 13, 14, 15, 16, 17, 18, 19, 7, 8] rfl rfl rfl⟩, hS.F ht⟩) hS.2.2 dX10_team_57
      · have h := zz_f h c19
        refine lv_aload_n hx hb dX10_team_40 rfl (lv_at hl 0 rfl) ?_
        refine va_get (D := D) (ci := 10) (C := RX10) (T := TX10) (N := 8) hx hb hts qX10_team_X10 hown hK hP 0 rfl rfl 6 (by decide) (hts _ kX10_team_0) (fun _ h9 => h9) rfl dX10_team_41 ?_
        refine lv_aload_n hx hb dX10_team_44 rfl (lv_at hl 0 rfl) ?_
        refine va_get (D := D) (ci := 10) (C := RX10) (T := TX10) (N := 8) hx hb hts qX10_team_X10 hown hK hP 0 rfl rfl 0 (by decide) (hts _ kX10_team_3) (fun _ h9 => h9) rfl dX10_team_45 ?_
        refine lv_iload_n hx hb dX10_team_48 rfl (lv_at hl 1 rfl) ?_
        refine lv_iload_n hx hb dX10_team_49 rfl (lv_at hl 2 rfl) ?_
        obtain ⟨⟨r20, t_listing_times_r21⟩, e22, h⟩ := zz_b h
        dsimp only at h
        refine zVi (As := [.ref a_t_race, .int x1, .int x2]) (rest := []) (C := RX3) (wr := [(a_t, .inr (10, [.ref a_t_race, .ref a_t_kept, .ref a_t_trail, .ref a_t_doubts, .ref a_t_foretelling, .ref a_t_text, .ref a_t_listing, .int t_isKept])), (a_t_listing_reading, .inr (5, [.ref a_t_listing_reading_parts, .ref a_t_listing_reading_signs, .ref a_t_listing_reading_numbers, .int t_listing_reading_laid_r9, .int t_listing_reading_stage_r13, .int t_listing_reading_open_r10, .int t_listing_reading_digits_r8, .int t_listing_reading_order_r11, .int t_listing_reading_prizes_r12])), (a_t_listing_reading_numbers, .inl (cI, 200, .inl t_listing_reading_numbers_r14)), (a_t_listing_reading_parts, .inl (cI, 200, .inl t_listing_reading_parts_r15)), (a_t_listing_reading_signs, .inl (cI, 200, .inl t_listing_reading_signs_r16)), (a_t_text, .inr (7, [.ref a_t_text_bytes, .int t_text_length])), (a_t_text_bytes, .inl (cI, 200, .inl t_text_bytes)), (a_t_race_guns, .inr (2, [.ref a_t_race_guns_ticks])), (a_t_race_guns_ticks, .inl (cI, 6, .inl t_race_guns_ticks)), (a_t_race_runners_dropped, .inl (cZ, 60, .inl t_race_runners_dropped)), (a_t_race_runners_splits, .inl (cI, 720, .inl t_race_runners_splits)), (a_t_race_runners_struck, .inl (cZ, 60, .inl t_race_runners_struck)), (a_t_race_runners_waved, .inl (cZ, 60, .inl t_race_runners_waved)), (a_t_race_way, .inr (9, [.ref a_t_race_way_places, .ref a_t_race_way_bearings, .ref a_t_race_way_cuts, .ref a_t_race_way_deaths, .int t_race_way_mats])), (a_t_race_way_cuts, .inl (cI, 12, .inl t_race_way_cuts))]) [1, 6, 9, 12, 14] [0, 2, 3, 4, 5, 7, 8, 10, 11, 13, 15, 16, 17, 18, 19] 0 ⟨hx, hb, hml, hown, hts⟩ (mX3_bestOfTeam l D cB cI cZ a_t_listing a_t_race a_t_listing_reading a_t_listing_times a_t_race_way a_t_race_guns a_t_race_runners a_t_race_runners_facts a_t_race_runners_splits a_t_race_runners_torn a_t_race_runners_dropped a_t_race_runners_waved a_t_race_runners_struck a_t_race_runners_strikingOrder t_listing_times_r17 t_race_runners_entered t_race_runners_strikings t_race_runners_facts H.size x1 x2 N r20 t_listing_times_r21 e22) (cwV 3 hts gX10_team_X3_bestOfTeam rfl rfl rfl (by decide +kernel) ⟨Nat.le_of_ble_eq_true rfl, Nat.le_of_ble_eq_true rfl⟩) hK hN hZ hP hD hS hA rfl rfl rfl rfl rfl rfl rfl rfl hl.1 rfl (lv_room (Nat.le_of_ble_eq_true rfl)) dX10_team_50 ⟨Nat.le_of_ble_eq_true rfl, Nat.le_of_ble_eq_true rfl⟩ (fun H locs hP hD hS => ?_)
        have hP : va_P D vwCl [(a_t, .inr (10, [.ref a_t_race, .ref a_t_kept, .ref a_t_trail, .ref a_t_doubts, .ref a_t_foretelling, .ref a_t_text, .ref a_t_listing, .int t_isKept])), (a_t_listing_reading, .inr (5, [.ref a_t_listing_reading_parts, .ref a_t_listing_reading_signs, .ref a_t_listing_reading_numbers, .int t_listing_reading_laid_r9, .int t_listing_reading_stage_r13, .int t_listing_reading_open_r10, .int t_listing_reading_digits_r8, .int t_listing_reading_order_r11, .int t_listing_reading_prizes_r12])), (a_t_listing_reading_numbers, .inl (cI, 200, .inl t_listing_reading_numbers_r14)), (a_t_listing_reading_parts, .inl (cI, 200, .inl t_listing_reading_parts_r15)), (a_t_listing_reading_signs, .inl (cI, 200, .inl t_listing_reading_signs_r16)), (a_t_text, .inr (7, [.ref a_t_text_bytes, .int t_text_length])), (a_t_text_bytes, .inl (cI, 200, .inl t_text_bytes)), (a_t_race_guns, .inr (2, [.ref a_t_race_guns_ticks])), (a_t_race_guns_ticks, .inl (cI, 6, .inl t_race_guns_ticks)), (a_t_race_runners_dropped, .inl (cZ, 60, .inl t_race_runners_dropped)), (a_t_race_runners_splits, .inl (cI, 720, .inl t_race_runners_splits)), (a_t_race_runners_struck, .inl (cZ, 60, .inl t_race_runners_struck)), (a_t_race_runners_waved, .inl (cZ, 60, .inl t_race_runners_waved)), (a_t_race_way, .inr (9, [.ref a_t_race_way_places, .ref a_t_race_way_bearings, .ref a_t_race_way_cuts, .ref a_t_race_way_deaths, .int t_race_way_mats])), (a_t_race_way_cuts, .inl (cI, 12, .inl t_race_way_cuts)), (a_t_listing, .inr (3, [.ref a_t_listing_reading, .ref a_t_listing_times])), (a_t_listing_times, .inl (cI, 60, .inl t_listing_times_r21)), (a_t_race, .inr (4, [.ref a_t_race_way, .ref a_t_race_guns, .ref a_t_race_runners])), (a_t_race_runners, .inr (6, [.ref a_t_race_runners_facts, .ref a_t_race_runners_splits, .ref a_t_race_runners_torn, .ref a_t_race_runners_dropped, .ref a_t_race_runners_waved, .ref a_t_race_runners_struck, .ref a_t_race_runners_strikingOrder, .int t_race_runners_entered, .int t_race_runners_strikings])), (a_t_race_runners_facts, .inl (cI, 360, .inl t_race_runners_facts))] H := hP
        have hD : va_D A [(a_t, .inr (10, [.ref a_t_race, .ref a_t_kept, .ref a_t_trail, .ref a_t_doubts, .ref a_t_foretelling, .ref a_t_text, .ref a_t_listing, .int t_isKept])), (a_t_listing_reading, .inr (5, [.ref a_t_listing_reading_parts, .ref a_t_listing_reading_signs, .ref a_t_listing_reading_numbers, .int t_listing_reading_laid_r9, .int t_listing_reading_stage_r13, .int t_listing_reading_open_r10, .int t_listing_reading_digits_r8, .int t_listing_reading_order_r11, .int t_listing_reading_prizes_r12])), (a_t_listing_reading_numbers, .inl (cI, 200, .inl t_listing_reading_numbers_r14)), (a_t_listing_reading_parts, .inl (cI, 200, .inl t_listing_reading_parts_r15)), (a_t_listing_reading_signs, .inl (cI, 200, .inl t_listing_reading_signs_r16)), (a_t_text, .inr (7, [.ref a_t_text_bytes, .int t_text_length])), (a_t_text_bytes, .inl (cI, 200, .inl t_text_bytes)), (a_t_race_guns, .inr (2, [.ref a_t_race_guns_ticks])), (a_t_race_guns_ticks, .inl (cI, 6, .inl t_race_guns_ticks)), (a_t_race_runners_dropped, .inl (cZ, 60, .inl t_race_runners_dropped)), (a_t_race_runners_splits, .inl (cI, 720, .inl t_race_runners_splits)), (a_t_race_runners_struck, .inl (cZ, 60, .inl t_race_runners_struck)), (a_t_race_runners_waved, .inl (cZ, 60, .inl t_race_runners_waved)), (a_t_race_way, .inr (9, [.ref a_t_race_way_places, .ref a_t_race_way_bearings, .ref a_t_race_way_cuts, .ref a_t_race_way_deaths, .int t_race_way_mats])), (a_t_race_way_cuts, .inl (cI, 12, .inl t_race_way_cuts)), (a_t_listing, .inr (3, [.ref a_t_listing_reading, .ref a_t_listing_times])), (a_t_listing_times, .inl (cI, 60, .inl t_listing_times_r21)), (a_t_race, .inr (4, [.ref a_t_race_way, .ref a_t_race_guns, .ref a_t_race_runners])), (a_t_race_runners, .inr (6, [.ref a_t_race_runners_facts, .ref a_t_race_runners_splits, .ref a_t_race_runners_torn, .ref a_t_race_runners_dropped, .ref a_t_race_runners_waved, .ref a_t_race_runners_struck, .ref a_t_race_runners_strikingOrder, .int t_race_runners_entered, .int t_race_runners_strikings])), (a_t_race_runners_facts, .inl (cI, 360, .inl t_race_runners_facts))] := hD
        refine lv_goto (tgt := 57) hx hb dX10_team_53 (by decide) ?_
        obtain ⟨j0_, g_⟩ := Prod.mk.inj (Option.some.inj h)
        obtain ⟨j1_, g_⟩ := Prod.mk.inj g_
        obtain ⟨j2_, g_⟩ := Prod.mk.inj g_
        obtain ⟨j3_, g_⟩ := Prod.mk.inj g_
        obtain ⟨j4_, g_⟩ := Prod.mk.inj g_
        obtain ⟨j5_, g_⟩ := Prod.mk.inj g_
        obtain ⟨j6_, g_⟩ := Prod.mk.inj g_
        obtain ⟨j7_, g_⟩ := Prod.mk.inj g_
        obtain ⟨j8_, g_⟩ := Prod.mk.inj g_
        obtain ⟨j9_, g_⟩ := Prod.mk.inj g_
        have j10_ := g_
        subst j0_
        subst j1_
        subst j2_
        subst j3_
        subst j4_
        subst j5_
        subst j6_
        subst j7_
        subst j8_
        subst j9_
        subst j10_
        exact W.iret (v := r20) hx hb hr (fun t ht hW => ⟨⟨_, (), rfl, rfl, zPost.of hP hD hK ht hW [0, 15, 1, 2, 3, 4, 16, 17, 7, 8, 18, 9, 19, 10, 11, 12, 13, 14, 5, 6] rfl rfl rfl⟩, hS.F ht⟩) hS.2.2 dX10_team_57
    · have h := zz_t h c6
      refine lv_iconst (v := (-1 : Int32)) hx hb dX10_team_20 rfl ?_
      obtain ⟨j0_, g_⟩ := Prod.mk.inj (Option.some.inj h)
      obtain ⟨j1_, g_⟩ := Prod.mk.inj g_
      obtain ⟨j2_, g_⟩ := Prod.mk.inj g_
      obtain ⟨j3_, g_⟩ := Prod.mk.inj g_
      obtain ⟨j4_, g_⟩ := Prod.mk.inj g_
      obtain ⟨j5_, g_⟩ := Prod.mk.inj g_
      obtain ⟨j6_, g_⟩ := Prod.mk.inj g_
      obtain ⟨j7_, g_⟩ := Prod.mk.inj g_
      obtain ⟨j8_, g_⟩ := Prod.mk.inj g_
      obtain ⟨j9_, g_⟩ := Prod.mk.inj g_
      have j10_ := g_
      subst j0_
      subst j1_
      subst j2_
      subst j3_
      subst j4_
      subst j5_
      subst j6_
      subst j7_
      subst j8_
      subst j9_
      subst j10_
      exact W.iret (v := (-1 : Int32)) hx hb hr (fun t ht hW => ⟨⟨_, (), rfl, rfl, zPost.of hP hD hK ht hW [0, 1, 2, 3, 4, 5, 6, 7, 8, 9, 10, 11, 12, 13, 14, 15, 16, 17, 18, 19] rfl rfl rfl⟩, hS.F ht⟩) hS.2.2 dX10_team_21
/-! RunDesk.state -/
theorem dX10_state_0 : decode cX10_state 0 = .ok (.aload_n 0, 1) := by decide +kernel
theorem dX10_state_1 : decode cX10_state 1 = .ok (.getfield 10, 3) := by decide +kernel
theorem dX10_state_4 : decode cX10_state 4 = .ok (.iload_n 1, 1) := by decide +kernel
theorem dX10_state_5 : decode cX10_state 5 = .ok (.invokevirtual 199, 3) := by decide +kernel
theorem dX10_state_8 : decode cX10_state 8 = .ok (.ireturn, 1) := by decide +kernel
set_option maxRecDepth 20000 in
theorem ggX10_state_X4_howManyAre : GoodIn wsX10_state wsX4_howManyAre := goodIn_r _ [6, 7, 8, 9, 10, 11, 12, 13, 14, 15, 16, 5, 17, 18, 19, 20, 21, 22, 23, 24, 25, 26, 27, 28, 29, 30, 31, 32, 33, 34, 35, 36, 37, 38, 39, 40, 41, 42, 43, 44, 45, 46, 47, 48, 49, 50, 51, 52, 53, 54, 55, 56, 57, 58, 59, 60, 61, 62, 63, 64, 65, 66, 67, 68, 69, 70, 71, 72, 73, 74, 75, 76, 77, 78, 79, 80, 81, 82, 83, 84, 85, 94, 95, 96, 97, 98, 99, 100, 101, 102, 103, 104, 105, 106, 107, 108, 109, 110, 111] (by decide +kernel) (by decide +kernel)
set_option maxRecDepth 20000 in
theorem gX10_state_X4_howManyAre : GoodIn wsX10_state (wsV RX10 199 RX4 yX4_howManyAre wsX4_howManyAre) := goodIn_app (goodIn_of _ (by decide +kernel)) ggX10_state_X4_howManyAre
def fX10_state (N : Nat) (t_race_guns_ticks : Nat → Int32) (t_race_runners_entered : Int32) (t_race_runners_dropped : Nat → Int32) (t_race_runners_facts : Nat → Int32) (t_race_runners_splits : Nat → Int32) (t_race_runners_struck : Nat → Int32) (t_race_runners_waved : Nat → Int32) (t_race_way_mats : Int32) (t_race_way_cuts : Nat → Int32) (x1 : Int32) : Option (Int32) := ((fX4_howManyAre N t_race_guns_ticks t_race_runners_entered t_race_runners_dropped t_race_runners_facts t_race_runners_splits t_race_runners_struck t_race_runners_waved t_race_way_mats t_race_way_cuts x1).bind (fun r1 => some (r1)))
theorem kX10_state_0 : (.fieldLink RX10 10 "RunDesk" "race" "LRunDesk$Race;" : Cond) ∈ wsX10_state := List.mem_of_getElem? (i := 1) (by decide +kernel)
theorem qX10_state_X10 : ∀ w ∈ wsX100, w ∈ wsX10_state := fun _ h => List.mem_cons_of_mem _ (List.mem_append_left _ (List.mem_append_left _ (List.mem_append_left _ (List.mem_append_left _ (List.mem_append_right _ (h))))))
set_option maxHeartbeats 4000000 in
set_option maxRecDepth 100000 in
theorem mX10_state (l : Launch) (D : va_G) (cB cI cZ : ClassId) (a_t : Nat) (a_t_race : Nat) (a_t_kept : Nat) (a_t_trail : Nat) (a_t_doubts : Nat) (a_t_foretelling : Nat) (a_t_text : Nat) (a_t_listing : Nat) (a_t_race_way : Nat) (a_t_race_guns : Nat) (a_t_race_runners : Nat) (a_t_race_guns_ticks : Nat) (a_t_race_runners_facts : Nat) (a_t_race_runners_splits : Nat) (a_t_race_runners_torn : Nat) (a_t_race_runners_dropped : Nat) (a_t_race_runners_waved : Nat) (a_t_race_runners_struck : Nat) (a_t_race_runners_strikingOrder : Nat) (a_t_race_way_places : Nat) (a_t_race_way_bearings : Nat) (a_t_race_way_cuts : Nat) (a_t_race_way_deaths : Nat) (t_isKept : Int32) (t_race_guns_ticks : Nat → Int32) (t_race_runners_entered : Int32) (t_race_runners_strikings : Int32) (t_race_runners_dropped : Nat → Int32) (t_race_runners_facts : Nat → Int32) (t_race_runners_splits : Nat → Int32) (t_race_runners_struck : Nat → Int32) (t_race_runners_waved : Nat → Int32) (t_race_way_mats : Int32) (t_race_way_cuts : Nat → Int32) (sz : Nat) (x1 : Int32) (N : Nat) (r0 : Int32) (h : fX10_state N t_race_guns_ticks t_race_runners_entered t_race_runners_dropped t_race_runners_facts t_race_runners_splits t_race_runners_struck t_race_runners_waved t_race_way_mats t_race_way_cuts x1 = some (r0)) : Met l yX10_state wsX10_state ({ frames := 5, cells := 0, slots := 0, locals := 110 } : Room) (va_Pc [.ref a_t, .int x1] (zPre D (zT cB cI cZ) [(a_t, .inr (10, [.ref a_t_race, .ref a_t_kept, .ref a_t_trail, .ref a_t_doubts, .ref a_t_foretelling, .ref a_t_text, .ref a_t_listing, .int t_isKept])), (a_t_race, .inr (4, [.ref a_t_race_way, .ref a_t_race_guns, .ref a_t_race_runners])), (a_t_race_guns, .inr (2, [.ref a_t_race_guns_ticks])), (a_t_race_guns_ticks, .inl (cI, 6, .inl t_race_guns_ticks)), (a_t_race_runners, .inr (6, [.ref a_t_race_runners_facts, .ref a_t_race_runners_splits, .ref a_t_race_runners_torn, .ref a_t_race_runners_dropped, .ref a_t_race_runners_waved, .ref a_t_race_runners_struck, .ref a_t_race_runners_strikingOrder, .int t_race_runners_entered, .int t_race_runners_strikings])), (a_t_race_runners_dropped, .inl (cZ, 60, .inl t_race_runners_dropped)), (a_t_race_runners_facts, .inl (cI, 360, .inl t_race_runners_facts)), (a_t_race_runners_splits, .inl (cI, 720, .inl t_race_runners_splits)), (a_t_race_runners_struck, .inl (cZ, 60, .inl t_race_runners_struck)), (a_t_race_runners_waved, .inl (cZ, 60, .inl t_race_runners_waved)), (a_t_race_way, .inr (9, [.ref a_t_race_way_places, .ref a_t_race_way_bearings, .ref a_t_race_way_cuts, .ref a_t_race_way_deaths, .int t_race_way_mats])), (a_t_race_way_cuts, .inl (cI, 12, .inl t_race_way_cuts))] sz)) (zQi r0 D (zT cB cI cZ) [(a_t, .inr (10, [.ref a_t_race, .ref a_t_kept, .ref a_t_trail, .ref a_t_doubts, .ref a_t_foretelling, .ref a_t_text, .ref a_t_listing, .int t_isKept])), (a_t_race, .inr (4, [.ref a_t_race_way, .ref a_t_race_guns, .ref a_t_race_runners])), (a_t_race_guns, .inr (2, [.ref a_t_race_guns_ticks])), (a_t_race_guns_ticks, .inl (cI, 6, .inl t_race_guns_ticks)), (a_t_race_runners, .inr (6, [.ref a_t_race_runners_facts, .ref a_t_race_runners_splits, .ref a_t_race_runners_torn, .ref a_t_race_runners_dropped, .ref a_t_race_runners_waved, .ref a_t_race_runners_struck, .ref a_t_race_runners_strikingOrder, .int t_race_runners_entered, .int t_race_runners_strikings])), (a_t_race_runners_dropped, .inl (cZ, 60, .inl t_race_runners_dropped)), (a_t_race_runners_facts, .inl (cI, 360, .inl t_race_runners_facts)), (a_t_race_runners_splits, .inl (cI, 720, .inl t_race_runners_splits)), (a_t_race_runners_struck, .inl (cZ, 60, .inl t_race_runners_struck)), (a_t_race_runners_waved, .inl (cZ, 60, .inl t_race_runners_waved)), (a_t_race_way, .inr (9, [.ref a_t_race_way_places, .ref a_t_race_way_bearings, .ref a_t_race_way_cuts, .ref a_t_race_way_deaths, .int t_race_way_mats])), (a_t_race_way_cuts, .inl (cI, 12, .inl t_race_way_cuts))] (va_A [(a_t, .inr (10, [.ref a_t_race, .ref a_t_kept, .ref a_t_trail, .ref a_t_doubts, .ref a_t_foretelling, .ref a_t_text, .ref a_t_listing, .int t_isKept])), (a_t_race, .inr (4, [.ref a_t_race_way, .ref a_t_race_guns, .ref a_t_race_runners])), (a_t_race_guns, .inr (2, [.ref a_t_race_guns_ticks])), (a_t_race_guns_ticks, .inl (cI, 6, .inl t_race_guns_ticks)), (a_t_race_runners, .inr (6, [.ref a_t_race_runners_facts, .ref a_t_race_runners_splits, .ref a_t_race_runners_torn, .ref a_t_race_runners_dropped, .ref a_t_race_runners_waved, .ref a_t_race_runners_struck, .ref a_t_race_runners_strikingOrder, .int t_race_runners_entered, .int t_race_runners_strikings])), (a_t_race_runners_dropped, .inl (cZ, 60, .inl t_race_runners_dropped)), (a_t_race_runners_facts, .inl (cI, 360, .inl t_race_runners_facts)), (a_t_race_runners_splits, .inl (cI, 720, .inl t_race_runners_splits)), (a_t_race_runners_struck, .inl (cZ, 60, .inl t_race_runners_struck)), (a_t_race_runners_waved, .inl (cZ, 60, .inl t_race_runners_waved)), (a_t_race_way, .inr (9, [.ref a_t_race_way_places, .ref a_t_race_way_bearings, .ref a_t_race_way_cuts, .ref a_t_race_way_deaths, .int t_race_way_mats])), (a_t_race_way_cuts, .inl (cI, 12, .inl t_race_way_cuts))] sz)) 0 0 (va_A [(a_t, .inr (10, [.ref a_t_race, .ref a_t_kept, .ref a_t_trail, .ref a_t_doubts, .ref a_t_foretelling, .ref a_t_text, .ref a_t_listing, .int t_isKept])), (a_t_race, .inr (4, [.ref a_t_race_way, .ref a_t_race_guns, .ref a_t_race_runners])), (a_t_race_guns, .inr (2, [.ref a_t_race_guns_ticks])), (a_t_race_guns_ticks, .inl (cI, 6, .inl t_race_guns_ticks)), (a_t_race_runners, .inr (6, [.ref a_t_race_runners_facts, .ref a_t_race_runners_splits, .ref a_t_race_runners_torn, .ref a_t_race_runners_dropped, .ref a_t_race_runners_waved, .ref a_t_race_runners_struck, .ref a_t_race_runners_strikingOrder, .int t_race_runners_entered, .int t_race_runners_strikings])), (a_t_race_runners_dropped, .inl (cZ, 60, .inl t_race_runners_dropped)), (a_t_race_runners_facts, .inl (cI, 360, .inl t_race_runners_facts)), (a_t_race_runners_splits, .inl (cI, 720, .inl t_race_runners_splits)), (a_t_race_runners_struck, .inl (cZ, 60, .inl t_race_runners_struck)), (a_t_race_runners_waved, .inl (cZ, 60, .inl t_race_runners_waved)), (a_t_race_way, .inr (9, [.ref a_t_race_way_places, .ref a_t_race_way_bearings, .ref a_t_race_way_cuts, .ref a_t_race_way_deaths, .int t_race_way_mats])), (a_t_race_way_cuts, .inl (cI, 12, .inl t_race_way_cuts))] sz) := by
  refine Met.ofW (cc := cX10_state) (maxL := 2) (ret := (some .int)) (by decide) rfl ?_
  intro p e s m args below meth c s₁ B hml hv
  obtain ⟨rfl, hsz, hP, hK, hN, hZ, hD0⟩ := hv
  have hx := B.exec
  have hb := B.bytes
  have hr := B.returns
  have hts := atoms_spec (ws := wsX10_state) B.pre
  have hown : s.vm.findClass RX10 = some m.cls := findClass_of_methodNamed B.named
  have hlocks := B.notSynchronized
  subst hsz
  have hD := hD0.self (sz := s.heap.size)
  generalize hAe : va_A [(a_t, .inr (10, [.ref a_t_race, .ref a_t_kept, .ref a_t_trail, .ref a_t_doubts, .ref a_t_foretelling, .ref a_t_text, .ref a_t_listing, .int t_isKept])), (a_t_race, .inr (4, [.ref a_t_race_way, .ref a_t_race_guns, .ref a_t_race_runners])), (a_t_race_guns, .inr (2, [.ref a_t_race_guns_ticks])), (a_t_race_guns_ticks, .inl (cI, 6, .inl t_race_guns_ticks)), (a_t_race_runners, .inr (6, [.ref a_t_race_runners_facts, .ref a_t_race_runners_splits, .ref a_t_race_runners_torn, .ref a_t_race_runners_dropped, .ref a_t_race_runners_waved, .ref a_t_race_runners_struck, .ref a_t_race_runners_strikingOrder, .int t_race_runners_entered, .int t_race_runners_strikings])), (a_t_race_runners_dropped, .inl (cZ, 60, .inl t_race_runners_dropped)), (a_t_race_runners_facts, .inl (cI, 360, .inl t_race_runners_facts)), (a_t_race_runners_splits, .inl (cI, 720, .inl t_race_runners_splits)), (a_t_race_runners_struck, .inl (cZ, 60, .inl t_race_runners_struck)), (a_t_race_runners_waved, .inl (cZ, 60, .inl t_race_runners_waved)), (a_t_race_way, .inr (9, [.ref a_t_race_way_places, .ref a_t_race_way_bearings, .ref a_t_race_way_cuts, .ref a_t_race_way_deaths, .int t_race_way_mats])), (a_t_race_way_cuts, .inl (cI, 12, .inl t_race_way_cuts))] s.heap.size = A at hD hZ ⊢
  have hA : ∀ q : Nat, s.heap.size ≤ q → A q := fun q h => by rw [← hAe]; exact Or.inr h
  have hS : va_S A s.heap s.heap [] := va_S.rf
  have hl := lv_entry ([.ref a_t, .int x1]) (n := 2) (Nat.le_of_ble_eq_true rfl)
  rw [lg_entry_eq]
  generalize (lg_sl ([.ref a_t, .int x1]) ++ List.replicate (2 - (lg_sl ([.ref a_t, .int x1])).length) Slot.unset).toArray = ls at hl ⊢
  have hl : lv_has ls 2 [(0, .ref a_t), (1, .int x1)] := hl
  unfold fX10_state at h
  refine lv_aload_n hx hb dX10_state_0 rfl (lv_at hl 0 rfl) ?_
  refine va_get (D := D) (ci := 10) (C := RX10) (T := TX10) (N := 8) hx hb hts qX10_state_X10 hown hK hP 0 rfl rfl 0 (by decide) (hts _ kX10_state_0) (fun _ h9 => h9) rfl dX10_state_1 ?_
  refine lv_iload_n hx hb dX10_state_4 rfl (lv_at hl 1 rfl) ?_
  obtain ⟨r1, e2, h⟩ := zz_b h
  refine zVi (As := [.int x1]) (rest := []) (C := RX4) (wr := [(a_t, .inr (10, [.ref a_t_race, .ref a_t_kept, .ref a_t_trail, .ref a_t_doubts, .ref a_t_foretelling, .ref a_t_text, .ref a_t_listing, .int t_isKept]))]) [1, 2, 3, 4, 5, 6, 7, 8, 9, 10, 11] [0] 0 ⟨hx, hb, hml, hown, hts⟩ (mX4_howManyAre l D cB cI cZ a_t_race a_t_race_way a_t_race_guns a_t_race_runners a_t_race_guns_ticks a_t_race_runners_facts a_t_race_runners_splits a_t_race_runners_torn a_t_race_runners_dropped a_t_race_runners_waved a_t_race_runners_struck a_t_race_runners_strikingOrder a_t_race_way_places a_t_race_way_bearings a_t_race_way_cuts a_t_race_way_deaths t_race_guns_ticks t_race_runners_entered t_race_runners_strikings t_race_runners_dropped t_race_runners_facts t_race_runners_splits t_race_runners_struck t_race_runners_waved t_race_way_mats t_race_way_cuts s.heap.size x1 N r1 e2) (cwV 1 hts gX10_state_X4_howManyAre rfl rfl rfl (by decide +kernel) ⟨Nat.le_of_ble_eq_true rfl, Nat.le_of_ble_eq_true rfl⟩) hK hN hZ hP hD hS hA rfl rfl rfl rfl rfl rfl rfl rfl hl.1 rfl (lv_room (Nat.le_of_ble_eq_true rfl)) dX10_state_5 ⟨Nat.le_of_ble_eq_true rfl, Nat.le_of_ble_eq_true rfl⟩ (fun H locs hP hD hS => ?_)
  have hP : va_P D vwCl [(a_t, .inr (10, [.ref a_t_race, .ref a_t_kept, .ref a_t_trail, .ref a_t_doubts, .ref a_t_foretelling, .ref a_t_text, .ref a_t_listing, .int t_isKept])), (a_t_race, .inr (4, [.ref a_t_race_way, .ref a_t_race_guns, .ref a_t_race_runners])), (a_t_race_guns, .inr (2, [.ref a_t_race_guns_ticks])), (a_t_race_guns_ticks, .inl (cI, 6, .inl t_race_guns_ticks)), (a_t_race_runners, .inr (6, [.ref a_t_race_runners_facts, .ref a_t_race_runners_splits, .ref a_t_race_runners_torn, .ref a_t_race_runners_dropped, .ref a_t_race_runners_waved, .ref a_t_race_runners_struck, .ref a_t_race_runners_strikingOrder, .int t_race_runners_entered, .int t_race_runners_strikings])), (a_t_race_runners_dropped, .inl (cZ, 60, .inl t_race_runners_dropped)), (a_t_race_runners_facts, .inl (cI, 360, .inl t_race_runners_facts)), (a_t_race_runners_splits, .inl (cI, 720, .inl t_race_runners_splits)), (a_t_race_runners_struck, .inl (cZ, 60, .inl t_race_runners_struck)), (a_t_race_runners_waved, .inl (cZ, 60, .inl t_race_runners_waved)), (a_t_race_way, .inr (9, [.ref a_t_race_way_places, .ref a_t_race_way_bearings, .ref a_t_race_way_cuts, .ref a_t_race_way_deaths, .int t_race_way_mats])), (a_t_race_way_cuts, .inl (cI, 12, .inl t_race_way_cuts))] H := hP
  have hD : va_D A [(a_t, .inr (10, [.ref a_t_race, .ref a_t_kept, .ref a_t_trail, .ref a_t_doubts, .ref a_t_foretelling, .ref a_t_text, .ref a_t_listing, .int t_isKept])), (a_t_race, .inr (4, [.ref a_t_race_way, .ref a_t_race_guns, .ref a_t_race_runners])), (a_t_race_guns, .inr (2, [.ref a_t_race_guns_ticks])), (a_t_race_guns_ticks, .inl (cI, 6, .inl t_race_guns_ticks)), (a_t_race_runners, .inr (6, [.ref a_t_race_runners_facts, .ref a_t_race_runners_splits, .ref a_t_race_runners_torn, .ref a_t_race_runners_dropped, .ref a_t_race_runners_waved, .ref a_t_race_runners_struck, .ref a_t_race_runners_strikingOrder, .int t_race_runners_entered, .int t_race_runners_strikings])), (a_t_race_runners_dropped, .inl (cZ, 60, .inl t_race_runners_dropped)), (a_t_race_runners_facts, .inl (cI, 360, .inl t_race_runners_facts)), (a_t_race_runners_splits, .inl (cI, 720, .inl t_race_runners_splits)), (a_t_race_runners_struck, .inl (cZ, 60, .inl t_race_runners_struck)), (a_t_race_runners_waved, .inl (cZ, 60, .inl t_race_runners_waved)), (a_t_race_way, .inr (9, [.ref a_t_race_way_places, .ref a_t_race_way_bearings, .ref a_t_race_way_cuts, .ref a_t_race_way_deaths, .int t_race_way_mats])), (a_t_race_way_cuts, .inl (cI, 12, .inl t_race_way_cuts))] := hD
  have j0_ := Option.some.inj h
  subst j0_
  exact W.iret (v := r1) hx hb hr (fun t ht hW => ⟨⟨_, (), rfl, rfl, zPost.of hP hD hK ht hW [0, 1, 2, 3, 4, 5, 6, 7, 8, 9, 10, 11] rfl rfl rfl⟩, hS.F ht⟩) hS.2.2 dX10_state_8
/-! RunDesk.count -/
theorem dX10_count_0 : decode cX10_count 0 = .ok (.iload_n 1, 1) := by decide +kernel
theorem dX10_count_1 : decode cX10_count 1 = .ok (.tableswitch 129 0 6 #[43, 54, 65, 81, 89, 100, 108], 43) := by decide +kernel
theorem dX10_count_44 : decode cX10_count 44 = .ok (.aload_n 0, 1) := by decide +kernel
theorem dX10_count_45 : decode cX10_count 45 = .ok (.getfield 10, 3) := by decide +kernel
theorem dX10_count_48 : decode cX10_count 48 = .ok (.getfield 58, 3) := by decide +kernel
theorem dX10_count_51 : decode cX10_count 51 = .ok (.invokevirtual 202, 3) := by decide +kernel
theorem dX10_count_54 : decode cX10_count 54 = .ok (.ireturn, 1) := by decide +kernel
theorem dX10_count_55 : decode cX10_count 55 = .ok (.aload_n 0, 1) := by decide +kernel
theorem dX10_count_56 : decode cX10_count 56 = .ok (.getfield 10, 3) := by decide +kernel
theorem dX10_count_59 : decode cX10_count 59 = .ok (.getfield 77, 3) := by decide +kernel
theorem dX10_count_62 : decode cX10_count 62 = .ok (.invokevirtual 203, 3) := by decide +kernel
theorem dX10_count_65 : decode cX10_count 65 = .ok (.ireturn, 1) := by decide +kernel
theorem dX10_count_66 : decode cX10_count 66 = .ok (.aload_n 0, 1) := by decide +kernel
theorem dX10_count_67 : decode cX10_count 67 = .ok (.getfield 29, 3) := by decide +kernel
theorem dX10_count_70 : decode cX10_count 70 = .ok (.aload_n 0, 1) := by decide +kernel
theorem dX10_count_71 : decode cX10_count 71 = .ok (.getfield 10, 3) := by decide +kernel
theorem dX10_count_74 : decode cX10_count 74 = .ok (.aload_n 0, 1) := by decide +kernel
theorem dX10_count_75 : decode cX10_count 75 = .ok (.getfield 22, 3) := by decide +kernel
theorem dX10_count_78 : decode cX10_count 78 = .ok (.invokevirtual 156, 3) := by decide +kernel
theorem dX10_count_81 : decode cX10_count 81 = .ok (.ireturn, 1) := by decide +kernel
theorem dX10_count_82 : decode cX10_count 82 = .ok (.aload_n 0, 1) := by decide +kernel
theorem dX10_count_83 : decode cX10_count 83 = .ok (.getfield 43, 3) := by decide +kernel
theorem dX10_count_86 : decode cX10_count 86 = .ok (.invokevirtual 204, 3) := by decide +kernel
theorem dX10_count_89 : decode cX10_count 89 = .ok (.ireturn, 1) := by decide +kernel
theorem dX10_count_90 : decode cX10_count 90 = .ok (.aload_n 0, 1) := by decide +kernel
theorem dX10_count_91 : decode cX10_count 91 = .ok (.getfield 10, 3) := by decide +kernel
theorem dX10_count_94 : decode cX10_count 94 = .ok (.getfield 77, 3) := by decide +kernel
theorem dX10_count_97 : decode cX10_count 97 = .ok (.invokevirtual 205, 3) := by decide +kernel
theorem dX10_count_100 : decode cX10_count 100 = .ok (.ireturn, 1) := by decide +kernel
theorem dX10_count_101 : decode cX10_count 101 = .ok (.aload_n 0, 1) := by decide +kernel
theorem dX10_count_102 : decode cX10_count 102 = .ok (.getfield 10, 3) := by decide +kernel
theorem dX10_count_105 : decode cX10_count 105 = .ok (.invokevirtual 208, 3) := by decide +kernel
theorem dX10_count_108 : decode cX10_count 108 = .ok (.ireturn, 1) := by decide +kernel
theorem dX10_count_109 : decode cX10_count 109 = .ok (.aload_n 0, 1) := by decide +kernel
theorem dX10_count_110 : decode cX10_count 110 = .ok (.getfield 10, 3) := by decide +kernel
theorem dX10_count_113 : decode cX10_count 113 = .ok (.getfield 58, 3) := by decide +kernel
theorem dX10_count_116 : decode cX10_count 116 = .ok (.aload_n 0, 1) := by decide +kernel
theorem dX10_count_117 : decode cX10_count 117 = .ok (.getfield 10, 3) := by decide +kernel
theorem dX10_count_120 : decode cX10_count 120 = .ok (.getfield 58, 3) := by decide +kernel
theorem dX10_count_123 : decode cX10_count 123 = .ok (.invokevirtual 211, 3) := by decide +kernel
theorem dX10_count_126 : decode cX10_count 126 = .ok (.invokevirtual 214, 3) := by decide +kernel
theorem dX10_count_129 : decode cX10_count 129 = .ok (.ireturn, 1) := by decide +kernel
theorem dX10_count_130 : decode cX10_count 130 = .ok (.iconst (-1), 1) := by decide +kernel
theorem dX10_count_131 : decode cX10_count 131 = .ok (.ireturn, 1) := by decide +kernel
set_option maxRecDepth 20000 in
theorem ggX10_count_X9_size : GoodIn wsX10_count wsX9_size := goodIn_r _ [9, 10, 179, 180, 181, 182, 183] (by decide +kernel) (by decide +kernel)
set_option maxRecDepth 20000 in
theorem gX10_count_X9_size : GoodIn wsX10_count (wsV RX10 202 RX9 yX9_size wsX9_size) := goodIn_app (goodIn_of _ (by decide +kernel)) ggX10_count_X9_size
set_option maxRecDepth 20000 in
theorem ggX10_count_X6_size : GoodIn wsX10_count wsX6_size := goodIn_r _ [15, 16, 184, 185, 186, 187, 188, 189, 190, 191, 192] (by decide +kernel) (by decide +kernel)
set_option maxRecDepth 20000 in
theorem gX10_count_X6_size : GoodIn wsX10_count (wsV RX10 203 RX6 yX6_size wsX6_size) := goodIn_app (goodIn_of _ (by decide +kernel)) ggX10_count_X6_size
set_option maxRecDepth 20000 in
theorem ggX10_count_X0_gather : GoodIn wsX10_count wsX0_gather := goodIn_r _ [21, 22, 23, 12, 13, 14, 15, 16, 24, 25, 26, 27, 28, 29, 30, 31, 32, 33, 34, 35, 36, 37, 38, 39, 40, 41, 42, 43, 44, 6, 7, 8, 9, 10, 45, 46, 47, 48, 49, 50, 51, 52, 53, 54, 55, 56, 57, 58, 59, 60, 61, 62, 63, 64, 65, 66, 67, 68, 69, 70, 71, 72, 73, 74, 75, 76, 77, 78, 79, 80, 81, 82, 83, 84, 85, 20, 86, 87, 88, 89, 90, 91, 92, 93, 94, 95, 96, 97, 98, 99, 100, 101, 102, 103, 104, 105, 106, 107, 108, 109, 110, 111, 112, 113, 114, 115, 116, 117, 118, 119, 120, 121, 122, 123, 124, 125, 126, 127, 128, 129, 130, 131, 132, 133, 134, 135, 136, 137, 138, 139, 140, 141, 142, 143, 144, 193, 194, 176, 177, 178, 184, 185, 186, 187, 188, 189, 190, 191, 192, 195, 196, 197, 198, 199, 179, 180, 181, 182, 183, 200] (by decide +kernel) (by decide +kernel)
set_option maxRecDepth 20000 in
theorem gX10_count_X0_gather : GoodIn wsX10_count (wsV RX10 156 RX0 yX0_gather wsX0_gather) := goodIn_app (goodIn_of _ (by decide +kernel)) ggX10_count_X0_gather
set_option maxRecDepth 20000 in
theorem ggX10_count_X7_size : GoodIn wsX10_count wsX7_size := goodIn_r _ [149, 150, 201, 202] (by decide +kernel) (by decide +kernel)
set_option maxRecDepth 20000 in
theorem gX10_count_X7_size : GoodIn wsX10_count (wsV RX10 204 RX7 yX7_size wsX7_size) := goodIn_app (goodIn_of _ (by decide +kernel)) ggX10_count_X7_size
set_option maxRecDepth 20000 in
theorem ggX10_count_X6_strikings : GoodIn wsX10_count wsX6_strikings := goodIn_r _ [154, 155, 184, 185, 186, 187, 188, 189, 190, 191, 192] (by decide +kernel) (by decide +kernel)
set_option maxRecDepth 20000 in
theorem gX10_count_X6_strikings : GoodIn wsX10_count (wsV RX10 205 RX6 yX6_strikings wsX6_strikings) := goodIn_app (goodIn_of _ (by decide +kernel)) ggX10_count_X6_strikings
set_option maxRecDepth 20000 in
theorem ggX10_count_X4_howManySplits : GoodIn wsX10_count wsX4_howManySplits := goodIn_r _ [159, 50, 160, 161, 12, 13, 14, 15, 16, 162, 6, 7, 8, 9, 10, 51, 52, 53, 54, 55, 56, 57, 58, 59, 176, 177, 178, 184, 185, 186, 187, 188, 189, 190, 191, 192, 179, 180, 181, 182, 183] (by decide +kernel) (by decide +kernel)
set_option maxRecDepth 20000 in
theorem gX10_count_X4_howManySplits : GoodIn wsX10_count (wsV RX10 208 RX4 yX4_howManySplits wsX4_howManySplits) := goodIn_app (goodIn_of _ (by decide +kernel)) ggX10_count_X4_howManySplits
set_option maxRecDepth 20000 in
theorem ggX10_count_X9_lastMat : GoodIn wsX10_count wsX9_lastMat := goodIn_r _ [166, 10, 179, 180, 181, 182, 183] (by decide +kernel) (by decide +kernel)
set_option maxRecDepth 20000 in
theorem gX10_count_X9_lastMat : GoodIn wsX10_count (wsV RX10 211 RX9 yX9_lastMat wsX9_lastMat) := goodIn_app (goodIn_of _ (by decide +kernel)) ggX10_count_X9_lastMat
set_option maxRecDepth 20000 in
theorem ggX10_count_X9_placeAt : GoodIn wsX10_count wsX9_placeAt := goodIn_r _ [76, 77, 78, 79, 80, 8, 81, 10, 179, 180, 181, 182, 183] (by decide +kernel) (by decide +kernel)
set_option maxRecDepth 20000 in
theorem gX10_count_X9_placeAt : GoodIn wsX10_count (wsV RX10 214 RX9 yX9_placeAt wsX9_placeAt) := goodIn_app (goodIn_of _ (by decide +kernel)) ggX10_count_X9_placeAt
def fX10_count (N : Nat) (t_doubts_doubts : Int32) (t_doubts_codes : Nat → Int32) (t_race_guns_ticks : Nat → Int32) (t_race_runners_entered : Int32) (t_race_runners_strikings : Int32) (t_race_runners_facts : Nat → Int32) (t_race_runners_splits : Nat → Int32) (t_race_way_mats : Int32) (t_race_way_places : Nat → Int32) (t_text_length : Int32) (t_trail_greatest : Int32) (t_trail_least : Int32) (t_trail_mats : Int32) (t_trail_places : Nat → Int32) (t_trail_ticks : Nat → Int32) (x1 : Int32) : Option (Int32 × Int32 × (Nat → Int32) × Int32 × Int32 × Int32 × (Nat → Int32) × (Nat → Int32)) := (if x1 = (0 : Int32) then ((fX9_size t_race_way_mats).bind (fun r2 => some (r2, t_doubts_doubts, t_doubts_codes, t_trail_greatest, t_trail_least, t_trail_mats, t_trail_places, t_trail_ticks))) else (if x1 = (1 : Int32) then ((fX6_size t_race_runners_entered).bind (fun r5 => some (r5, t_doubts_doubts, t_doubts_codes, t_trail_greatest, t_trail_least, t_trail_mats, t_trail_places, t_trail_ticks))) else (if x1 = (2 : Int32) then ((fX0_gather N t_doubts_doubts t_doubts_codes t_race_guns_ticks t_race_runners_entered t_race_runners_facts t_race_runners_splits t_race_way_mats t_race_way_places t_trail_greatest t_trail_least t_trail_mats t_trail_places t_trail_ticks).bind (fun (r8, t_doubts_doubts_r9, t_doubts_codes_r10, t_trail_greatest_r11, t_trail_least_r12, t_trail_mats_r13, t_trail_places_r14, t_trail_ticks_r15) => some (r8, t_doubts_doubts_r9, t_doubts_codes_r10, t_trail_greatest_r11, t_trail_least_r12, t_trail_mats_r13, t_trail_places_r14, t_trail_ticks_r15))) else (if x1 = (3 : Int32) then ((fX7_size t_text_length).bind (fun r18 => some (r18, t_doubts_doubts, t_doubts_codes, t_trail_greatest, t_trail_least, t_trail_mats, t_trail_places, t_trail_ticks))) else (if x1 = (4 : Int32) then ((fX6_strikings t_race_runners_strikings).bind (fun r21 => some (r21, t_doubts_doubts, t_doubts_codes, t_trail_greatest, t_trail_least, t_trail_mats, t_trail_places, t_trail_ticks))) else (if x1 = (5 : Int32) then ((fX4_howManySplits N t_race_runners_entered t_race_runners_splits t_race_way_mats).bind (fun r24 => some (r24, t_doubts_doubts, t_doubts_codes, t_trail_greatest, t_trail_least, t_trail_mats, t_trail_places, t_trail_ticks))) else (if x1 = (6 : Int32) then ((fX9_lastMat t_race_way_mats).bind (fun r27 => ((fX9_placeAt t_race_way_mats t_race_way_places r27).bind (fun r29 => some (r29, t_doubts_doubts, t_doubts_codes, t_trail_greatest, t_trail_least, t_trail_mats, t_trail_places, t_trail_ticks))))) else some ((-1 : Int32), t_doubts_doubts, t_doubts_codes, t_trail_greatest, t_trail_least, t_trail_mats, t_trail_places, t_trail_ticks))))))))
theorem kX10_count_0 : (.fieldLink RX10 10 "RunDesk" "race" "LRunDesk$Race;" : Cond) ∈ wsX10_count := List.mem_of_getElem? (i := 1) (by decide +kernel)
theorem qX10_count_X10 : ∀ w ∈ wsX100, w ∈ wsX10_count := fun _ h => List.mem_cons_of_mem _ (List.mem_append_left _ (List.mem_append_left _ (List.mem_append_left _ (List.mem_append_left _ (List.mem_append_left _ (List.mem_append_left _ (List.mem_append_left _ (List.mem_append_right _ (h)))))))))
theorem qX10_count_X4 : ∀ w ∈ wsX40, w ∈ wsX10_count := fun _ h => List.mem_cons_of_mem _ (List.mem_append_left _ (List.mem_append_left _ (List.mem_append_left _ (List.mem_append_left _ (List.mem_append_left _ (List.mem_append_left _ (List.mem_append_right _ (h))))))))
theorem kX10_count_3 : (.fieldLink RX10 29 "RunDesk" "doubts" "LRunDesk$Doubts;" : Cond) ∈ wsX10_count := List.mem_of_getElem? (i := 2) (by decide +kernel)
theorem kX10_count_4 : (.fieldLink RX10 22 "RunDesk" "trail" "LRunDesk$Trail;" : Cond) ∈ wsX10_count := List.mem_of_getElem? (i := 3) (by decide +kernel)
theorem kX10_count_5 : (.fieldLink RX10 43 "RunDesk" "text" "LRunDesk$Text;" : Cond) ∈ wsX10_count := List.mem_of_getElem? (i := 4) (by decide +kernel)
set_option maxHeartbeats 4000000 in
set_option maxRecDepth 100000 in
theorem mX10_count (l : Launch) (D : va_G) (cB cI cZ : ClassId) (a_t : Nat) (a_t_race : Nat) (a_t_kept : Nat) (a_t_trail : Nat) (a_t_doubts : Nat) (a_t_foretelling : Nat) (a_t_text : Nat) (a_t_listing : Nat) (a_t_doubts_codes : Nat) (a_t_race_way : Nat) (a_t_race_guns : Nat) (a_t_race_runners : Nat) (a_t_race_guns_ticks : Nat) (a_t_race_runners_facts : Nat) (a_t_race_runners_splits : Nat) (a_t_race_runners_torn : Nat) (a_t_race_runners_dropped : Nat) (a_t_race_runners_waved : Nat) (a_t_race_runners_struck : Nat) (a_t_race_runners_strikingOrder : Nat) (a_t_race_way_places : Nat) (a_t_race_way_bearings : Nat) (a_t_race_way_cuts : Nat) (a_t_race_way_deaths : Nat) (a_t_text_bytes : Nat) (a_t_trail_ticks : Nat) (a_t_trail_places : Nat) (t_isKept : Int32) (t_doubts_doubts : Int32) (t_doubts_codes : Nat → Int32) (t_race_guns_ticks : Nat → Int32) (t_race_runners_entered : Int32) (t_race_runners_strikings : Int32) (t_race_runners_facts : Nat → Int32) (t_race_runners_splits : Nat → Int32) (t_race_way_mats : Int32) (t_race_way_places : Nat → Int32) (t_text_length : Int32) (t_trail_mats : Int32) (t_trail_least : Int32) (t_trail_greatest : Int32) (t_trail_places : Nat → Int32) (t_trail_ticks : Nat → Int32) (sz : Nat) (x1 : Int32) (N : Nat) (r0 : Int32) (t_doubts_doubts' : Int32) (t_doubts_codes' : Nat → Int32) (t_trail_greatest' : Int32) (t_trail_least' : Int32) (t_trail_mats' : Int32) (t_trail_places' : Nat → Int32) (t_trail_ticks' : Nat → Int32) (h : fX10_count N t_doubts_doubts t_doubts_codes t_race_guns_ticks t_race_runners_entered t_race_runners_strikings t_race_runners_facts t_race_runners_splits t_race_way_mats t_race_way_places t_text_length t_trail_greatest t_trail_least t_trail_mats t_trail_places t_trail_ticks x1 = some (r0, t_doubts_doubts', t_doubts_codes', t_trail_greatest', t_trail_least', t_trail_mats', t_trail_places', t_trail_ticks')) : Met l yX10_count wsX10_count ({ frames := 6, cells := 0, slots := 0, locals := 136 } : Room) (va_Pc [.ref a_t, .int x1] (zPre D (zT cB cI cZ) [(a_t, .inr (10, [.ref a_t_race, .ref a_t_kept, .ref a_t_trail, .ref a_t_doubts, .ref a_t_foretelling, .ref a_t_text, .ref a_t_listing, .int t_isKept])), (a_t_doubts, .inr (0, [.ref a_t_doubts_codes, .int t_doubts_doubts])), (a_t_doubts_codes, .inl (cI, 2160, .inl t_doubts_codes)), (a_t_race, .inr (4, [.ref a_t_race_way, .ref a_t_race_guns, .ref a_t_race_runners])), (a_t_race_guns, .inr (2, [.ref a_t_race_guns_ticks])), (a_t_race_guns_ticks, .inl (cI, 6, .inl t_race_guns_ticks)), (a_t_race_runners, .inr (6, [.ref a_t_race_runners_facts, .ref a_t_race_runners_splits, .ref a_t_race_runners_torn, .ref a_t_race_runners_dropped, .ref a_t_race_runners_waved, .ref a_t_race_runners_struck, .ref a_t_race_runners_strikingOrder, .int t_race_runners_entered, .int t_race_runners_strikings])), (a_t_race_runners_facts, .inl (cI, 360, .inl t_race_runners_facts)), (a_t_race_runners_splits, .inl (cI, 720, .inl t_race_runners_splits)), (a_t_race_way, .inr (9, [.ref a_t_race_way_places, .ref a_t_race_way_bearings, .ref a_t_race_way_cuts, .ref a_t_race_way_deaths, .int t_race_way_mats])), (a_t_race_way_places, .inl (cI, 12, .inl t_race_way_places)), (a_t_text, .inr (7, [.ref a_t_text_bytes, .int t_text_length])), (a_t_trail, .inr (8, [.ref a_t_trail_ticks, .ref a_t_trail_places, .int t_trail_mats, .int t_trail_least, .int t_trail_greatest])), (a_t_trail_places, .inl (cI, 12, .inl t_trail_places)), (a_t_trail_ticks, .inl (cI, 12, .inl t_trail_ticks))] sz)) (zQi r0 D (zT cB cI cZ) [(a_t, .inr (10, [.ref a_t_race, .ref a_t_kept, .ref a_t_trail, .ref a_t_doubts, .ref a_t_foretelling, .ref a_t_text, .ref a_t_listing, .int t_isKept])), (a_t_doubts, .inr (0, [.ref a_t_doubts_codes, .int t_doubts_doubts'])), (a_t_doubts_codes, .inl (cI, 2160, .inl t_doubts_codes')), (a_t_race, .inr (4, [.ref a_t_race_way, .ref a_t_race_guns, .ref a_t_race_runners])), (a_t_race_guns, .inr (2, [.ref a_t_race_guns_ticks])), (a_t_race_guns_ticks, .inl (cI, 6, .inl t_race_guns_ticks)), (a_t_race_runners, .inr (6, [.ref a_t_race_runners_facts, .ref a_t_race_runners_splits, .ref a_t_race_runners_torn, .ref a_t_race_runners_dropped, .ref a_t_race_runners_waved, .ref a_t_race_runners_struck, .ref a_t_race_runners_strikingOrder, .int t_race_runners_entered, .int t_race_runners_strikings])), (a_t_race_runners_facts, .inl (cI, 360, .inl t_race_runners_facts)), (a_t_race_runners_splits, .inl (cI, 720, .inl t_race_runners_splits)), (a_t_race_way, .inr (9, [.ref a_t_race_way_places, .ref a_t_race_way_bearings, .ref a_t_race_way_cuts, .ref a_t_race_way_deaths, .int t_race_way_mats])), (a_t_race_way_places, .inl (cI, 12, .inl t_race_way_places)), (a_t_text, .inr (7, [.ref a_t_text_bytes, .int t_text_length])), (a_t_trail, .inr (8, [.ref a_t_trail_ticks, .ref a_t_trail_places, .int t_trail_mats', .int t_trail_least', .int t_trail_greatest'])), (a_t_trail_places, .inl (cI, 12, .inl t_trail_places')), (a_t_trail_ticks, .inl (cI, 12, .inl t_trail_ticks'))] (va_A [(a_t, .inr (10, [.ref a_t_race, .ref a_t_kept, .ref a_t_trail, .ref a_t_doubts, .ref a_t_foretelling, .ref a_t_text, .ref a_t_listing, .int t_isKept])), (a_t_doubts, .inr (0, [.ref a_t_doubts_codes, .int t_doubts_doubts])), (a_t_doubts_codes, .inl (cI, 2160, .inl t_doubts_codes)), (a_t_race, .inr (4, [.ref a_t_race_way, .ref a_t_race_guns, .ref a_t_race_runners])), (a_t_race_guns, .inr (2, [.ref a_t_race_guns_ticks])), (a_t_race_guns_ticks, .inl (cI, 6, .inl t_race_guns_ticks)), (a_t_race_runners, .inr (6, [.ref a_t_race_runners_facts, .ref a_t_race_runners_splits, .ref a_t_race_runners_torn, .ref a_t_race_runners_dropped, .ref a_t_race_runners_waved, .ref a_t_race_runners_struck, .ref a_t_race_runners_strikingOrder, .int t_race_runners_entered, .int t_race_runners_strikings])), (a_t_race_runners_facts, .inl (cI, 360, .inl t_race_runners_facts)), (a_t_race_runners_splits, .inl (cI, 720, .inl t_race_runners_splits)), (a_t_race_way, .inr (9, [.ref a_t_race_way_places, .ref a_t_race_way_bearings, .ref a_t_race_way_cuts, .ref a_t_race_way_deaths, .int t_race_way_mats])), (a_t_race_way_places, .inl (cI, 12, .inl t_race_way_places)), (a_t_text, .inr (7, [.ref a_t_text_bytes, .int t_text_length])), (a_t_trail, .inr (8, [.ref a_t_trail_ticks, .ref a_t_trail_places, .int t_trail_mats, .int t_trail_least, .int t_trail_greatest])), (a_t_trail_places, .inl (cI, 12, .inl t_trail_places)), (a_t_trail_ticks, .inl (cI, 12, .inl t_trail_ticks))] sz)) 0 0 (va_A [(a_t, .inr (10, [.ref a_t_race, .ref a_t_kept, .ref a_t_trail, .ref a_t_doubts, .ref a_t_foretelling, .ref a_t_text, .ref a_t_listing, .int t_isKept])), (a_t_doubts, .inr (0, [.ref a_t_doubts_codes, .int t_doubts_doubts])), (a_t_doubts_codes, .inl (cI, 2160, .inl t_doubts_codes)), (a_t_race, .inr (4, [.ref a_t_race_way, .ref a_t_race_guns, .ref a_t_race_runners])), (a_t_race_guns, .inr (2, [.ref a_t_race_guns_ticks])), (a_t_race_guns_ticks, .inl (cI, 6, .inl t_race_guns_ticks)), (a_t_race_runners, .inr (6, [.ref a_t_race_runners_facts, .ref a_t_race_runners_splits, .ref a_t_race_runners_torn, .ref a_t_race_runners_dropped, .ref a_t_race_runners_waved, .ref a_t_race_runners_struck, .ref a_t_race_runners_strikingOrder, .int t_race_runners_entered, .int t_race_runners_strikings])), (a_t_race_runners_facts, .inl (cI, 360, .inl t_race_runners_facts)), (a_t_race_runners_splits, .inl (cI, 720, .inl t_race_runners_splits)), (a_t_race_way, .inr (9, [.ref a_t_race_way_places, .ref a_t_race_way_bearings, .ref a_t_race_way_cuts, .ref a_t_race_way_deaths, .int t_race_way_mats])), (a_t_race_way_places, .inl (cI, 12, .inl t_race_way_places)), (a_t_text, .inr (7, [.ref a_t_text_bytes, .int t_text_length])), (a_t_trail, .inr (8, [.ref a_t_trail_ticks, .ref a_t_trail_places, .int t_trail_mats, .int t_trail_least, .int t_trail_greatest])), (a_t_trail_places, .inl (cI, 12, .inl t_trail_places)), (a_t_trail_ticks, .inl (cI, 12, .inl t_trail_ticks))] sz) := by
  refine Met.ofW (cc := cX10_count) (maxL := 2) (ret := (some .int)) (by decide) rfl ?_
  intro p e s m args below meth c s₁ B hml hv
  obtain ⟨rfl, hsz, hP, hK, hN, hZ, hD0⟩ := hv
  have hx := B.exec
  have hb := B.bytes
  have hr := B.returns
  have hts := atoms_spec (ws := wsX10_count) B.pre
  have hown : s.vm.findClass RX10 = some m.cls := findClass_of_methodNamed B.named
  have hlocks := B.notSynchronized
  subst hsz
  have hD := hD0.self (sz := s.heap.size)
  generalize hAe : va_A [(a_t, .inr (10, [.ref a_t_race, .ref a_t_kept, .ref a_t_trail, .ref a_t_doubts, .ref a_t_foretelling, .ref a_t_text, .ref a_t_listing, .int t_isKept])), (a_t_doubts, .inr (0, [.ref a_t_doubts_codes, .int t_doubts_doubts])), (a_t_doubts_codes, .inl (cI, 2160, .inl t_doubts_codes)), (a_t_race, .inr (4, [.ref a_t_race_way, .ref a_t_race_guns, .ref a_t_race_runners])), (a_t_race_guns, .inr (2, [.ref a_t_race_guns_ticks])), (a_t_race_guns_ticks, .inl (cI, 6, .inl t_race_guns_ticks)), (a_t_race_runners, .inr (6, [.ref a_t_race_runners_facts, .ref a_t_race_runners_splits, .ref a_t_race_runners_torn, .ref a_t_race_runners_dropped, .ref a_t_race_runners_waved, .ref a_t_race_runners_struck, .ref a_t_race_runners_strikingOrder, .int t_race_runners_entered, .int t_race_runners_strikings])), (a_t_race_runners_facts, .inl (cI, 360, .inl t_race_runners_facts)), (a_t_race_runners_splits, .inl (cI, 720, .inl t_race_runners_splits)), (a_t_race_way, .inr (9, [.ref a_t_race_way_places, .ref a_t_race_way_bearings, .ref a_t_race_way_cuts, .ref a_t_race_way_deaths, .int t_race_way_mats])), (a_t_race_way_places, .inl (cI, 12, .inl t_race_way_places)), (a_t_text, .inr (7, [.ref a_t_text_bytes, .int t_text_length])), (a_t_trail, .inr (8, [.ref a_t_trail_ticks, .ref a_t_trail_places, .int t_trail_mats, .int t_trail_least, .int t_trail_greatest])), (a_t_trail_places, .inl (cI, 12, .inl t_trail_places)), (a_t_trail_ticks, .inl (cI, 12, .inl t_trail_ticks))] s.heap.size = A at hD hZ ⊢
  have hA : ∀ q : Nat, s.heap.size ≤ q → A q := fun q h => by rw [← hAe]; exact Or.inr h
  have hS : va_S A s.heap s.heap [] := va_S.rf
  have hl := lv_entry ([.ref a_t, .int x1]) (n := 2) (Nat.le_of_ble_eq_true rfl)
  rw [lg_entry_eq]
  generalize (lg_sl ([.ref a_t, .int x1]) ++ List.replicate (2 - (lg_sl ([.ref a_t, .int x1])).length) Slot.unset).toArray = ls at hl ⊢
  have hl : lv_has ls 2 [(0, .ref a_t), (1, .int x1)] := hl
  unfold fX10_count at h
  refine lv_iload_n hx hb dX10_count_0 rfl (lv_at hl 1 rfl) ?_
  by_cases c1 : x1 = (0 : Int32)
  · have h := zz_t h c1
    refine lv_tableIn (off := 43) (tgt := 44) hx hb dX10_count_1 (by rw [c1]; decide) (by rw [c1]; decide) (by rw [c1]; rfl) (by decide) ?_
    refine lv_aload_n hx hb dX10_count_44 rfl (lv_at hl 0 rfl) ?_
    refine va_get (D := D) (ci := 10) (C := RX10) (T := TX10) (N := 8) hx hb hts qX10_count_X10 hown hK hP 0 rfl rfl 0 (by decide) (hts _ kX10_count_0) (fun _ h9 => h9) rfl dX10_count_45 ?_
    refine va_getN (host := "RunDesk") (D := D) (ci := 4) (C := RX4) (T := TX4) (N := 3) hx hb hts qX10_count_X4 hown hK hP 3 rfl rfl 0 (by decide) (va_Nw.use rfl (hN _ (List.mem_of_getElem? (i := 0) rfl))) (fun _ h9 => h9) rfl dX10_count_48 ?_
    obtain ⟨r2, e3, h⟩ := zz_b h
    refine zVi (As := []) (rest := []) (C := RX9) (wr := [(a_t, .inr (10, [.ref a_t_race, .ref a_t_kept, .ref a_t_trail, .ref a_t_doubts, .ref a_t_foretelling, .ref a_t_text, .ref a_t_listing, .int t_isKept])), (a_t_doubts, .inr (0, [.ref a_t_doubts_codes, .int t_doubts_doubts])), (a_t_doubts_codes, .inl (cI, 2160, .inl t_doubts_codes)), (a_t_race, .inr (4, [.ref a_t_race_way, .ref a_t_race_guns, .ref a_t_race_runners])), (a_t_race_guns, .inr (2, [.ref a_t_race_guns_ticks])), (a_t_race_guns_ticks, .inl (cI, 6, .inl t_race_guns_ticks)), (a_t_race_runners, .inr (6, [.ref a_t_race_runners_facts, .ref a_t_race_runners_splits, .ref a_t_race_runners_torn, .ref a_t_race_runners_dropped, .ref a_t_race_runners_waved, .ref a_t_race_runners_struck, .ref a_t_race_runners_strikingOrder, .int t_race_runners_entered, .int t_race_runners_strikings])), (a_t_race_runners_facts, .inl (cI, 360, .inl t_race_runners_facts)), (a_t_race_runners_splits, .inl (cI, 720, .inl t_race_runners_splits)), (a_t_race_way_places, .inl (cI, 12, .inl t_race_way_places)), (a_t_text, .inr (7, [.ref a_t_text_bytes, .int t_text_length])), (a_t_trail, .inr (8, [.ref a_t_trail_ticks, .ref a_t_trail_places, .int t_trail_mats, .int t_trail_least, .int t_trail_greatest])), (a_t_trail_places, .inl (cI, 12, .inl t_trail_places)), (a_t_trail_ticks, .inl (cI, 12, .inl t_trail_ticks))]) [9] [0, 1, 2, 3, 4, 5, 6, 7, 8, 10, 11, 12, 13, 14] 0 ⟨hx, hb, hml, hown, hts⟩ (mX9_size l D cB cI cZ a_t_race_way a_t_race_way_places a_t_race_way_bearings a_t_race_way_cuts a_t_race_way_deaths t_race_way_mats s.heap.size r2 e3) (cwV 0 hts gX10_count_X9_size rfl rfl rfl (by decide +kernel) ⟨Nat.le_of_ble_eq_true rfl, Nat.le_of_ble_eq_true rfl⟩) hK hN hZ hP hD hS hA rfl rfl rfl rfl rfl rfl rfl rfl hl.1 rfl (lv_room (Nat.le_of_ble_eq_true rfl)) dX10_count_51 ⟨Nat.le_of_ble_eq_true rfl, Nat.le_of_ble_eq_true rfl⟩ (fun H locs hP hD hS => ?_)
    have hP : va_P D vwCl [(a_t, .inr (10, [.ref a_t_race, .ref a_t_kept, .ref a_t_trail, .ref a_t_doubts, .ref a_t_foretelling, .ref a_t_text, .ref a_t_listing, .int t_isKept])), (a_t_doubts, .inr (0, [.ref a_t_doubts_codes, .int t_doubts_doubts])), (a_t_doubts_codes, .inl (cI, 2160, .inl t_doubts_codes)), (a_t_race, .inr (4, [.ref a_t_race_way, .ref a_t_race_guns, .ref a_t_race_runners])), (a_t_race_guns, .inr (2, [.ref a_t_race_guns_ticks])), (a_t_race_guns_ticks, .inl (cI, 6, .inl t_race_guns_ticks)), (a_t_race_runners, .inr (6, [.ref a_t_race_runners_facts, .ref a_t_race_runners_splits, .ref a_t_race_runners_torn, .ref a_t_race_runners_dropped, .ref a_t_race_runners_waved, .ref a_t_race_runners_struck, .ref a_t_race_runners_strikingOrder, .int t_race_runners_entered, .int t_race_runners_strikings])), (a_t_race_runners_facts, .inl (cI, 360, .inl t_race_runners_facts)), (a_t_race_runners_splits, .inl (cI, 720, .inl t_race_runners_splits)), (a_t_race_way_places, .inl (cI, 12, .inl t_race_way_places)), (a_t_text, .inr (7, [.ref a_t_text_bytes, .int t_text_length])), (a_t_trail, .inr (8, [.ref a_t_trail_ticks, .ref a_t_trail_places, .int t_trail_mats, .int t_trail_least, .int t_trail_greatest])), (a_t_trail_places, .inl (cI, 12, .inl t_trail_places)), (a_t_trail_ticks, .inl (cI, 12, .inl t_trail_ticks)), (a_t_race_way, .inr (9, [.ref a_t_race_way_places, .ref a_t_race_way_bearings, .ref a_t_race_way_cuts, .ref a_t_race_way_deaths, .int t_race_way_mats]))] H := hP
    have hD : va_D A [(a_t, .inr (10, [.ref a_t_race, .ref a_t_kept, .ref a_t_trail, .ref a_t_doubts, .ref a_t_foretelling, .ref a_t_text, .ref a_t_listing, .int t_isKept])), (a_t_doubts, .inr (0, [.ref a_t_doubts_codes, .int t_doubts_doubts])), (a_t_doubts_codes, .inl (cI, 2160, .inl t_doubts_codes)), (a_t_race, .inr (4, [.ref a_t_race_way, .ref a_t_race_guns, .ref a_t_race_runners])), (a_t_race_guns, .inr (2, [.ref a_t_race_guns_ticks])), (a_t_race_guns_ticks, .inl (cI, 6, .inl t_race_guns_ticks)), (a_t_race_runners, .inr (6, [.ref a_t_race_runners_facts, .ref a_t_race_runners_splits, .ref a_t_race_runners_torn, .ref a_t_race_runners_dropped, .ref a_t_race_runners_waved, .ref a_t_race_runners_struck, .ref a_t_race_runners_strikingOrder, .int t_race_runners_entered, .int t_race_runners_strikings])), (a_t_race_runners_facts, .inl (cI, 360, .inl t_race_runners_facts)), (a_t_race_runners_splits, .inl (cI, 720, .inl t_race_runners_splits)), (a_t_race_way_places, .inl (cI, 12, .inl t_race_way_places)), (a_t_text, .inr (7, [.ref a_t_text_bytes, .int t_text_length])), (a_t_trail, .inr (8, [.ref a_t_trail_ticks, .ref a_t_trail_places, .int t_trail_mats, .int t_trail_least, .int t_trail_greatest])), (a_t_trail_places, .inl (cI, 12, .inl t_trail_places)), (a_t_trail_ticks, .inl (cI, 12, .inl t_trail_ticks)), (a_t_race_way, .inr (9, [.ref a_t_race_way_places, .ref a_t_race_way_bearings, .ref a_t_race_way_cuts, .ref a_t_race_way_deaths, .int t_race_way_mats]))] := hD
    obtain ⟨j0_, g_⟩ := Prod.mk.inj (Option.some.inj h)
    obtain ⟨j1_, g_⟩ := Prod.mk.inj g_
    obtain ⟨j2_, g_⟩ := Prod.mk.inj g_
    obtain ⟨j3_, g_⟩ := Prod.mk.inj g_
    obtain ⟨j4_, g_⟩ := Prod.mk.inj g_
    obtain ⟨j5_, g_⟩ := Prod.mk.inj g_
    obtain ⟨j6_, g_⟩ := Prod.mk.inj g_
    have j7_ := g_
    subst j0_
    subst j1_
    subst j2_
    subst j3_
    subst j4_
    subst j5_
    subst j6_
    subst j7_
    exact W.iret (v := r2) hx hb hr (fun t ht hW => ⟨⟨_, (), rfl, rfl, zPost.of hP hD hK ht hW [0, 1, 2, 3, 4, 5, 6, 7, 8, 14, 9, 10, 11, 12, 13] rfl rfl rfl⟩, hS.F ht⟩) hS.2.2 dX10_count_54
  · have h := zz_f h c1
    by_cases c4 : x1 = (1 : Int32)
    · have h := zz_t h c4
      refine lv_tableIn (off := 54) (tgt := 55) hx hb dX10_count_1 (by rw [c4]; decide) (by rw [c4]; decide) (by rw [c4]; rfl) (by decide) ?_
      refine lv_aload_n hx hb dX10_count_55 rfl (lv_at hl 0 rfl) ?_
      refine va_get (D := D) (ci := 10) (C := RX10) (T := TX10) (N := 8) hx hb hts qX10_count_X10 hown hK hP 0 rfl rfl 0 (by decide) (hts _ kX10_count_0) (fun _ h9 => h9) rfl dX10_count_56 ?_
      refine va_getN (host := "RunDesk") (D := D) (ci := 4) (C := RX4) (T := TX4) (N := 3) hx hb hts qX10_count_X4 hown hK hP 3 rfl rfl 2 (by decide) (va_Nw.use rfl (hN _ (List.mem_of_getElem? (i := 10) rfl))) (fun _ h9 => h9) rfl dX10_count_59 ?_
      obtain ⟨r5, e6, h⟩ := zz_b h
      refine zVi (As := []) (rest := []) (C := RX6) (wr := [(a_t, .inr (10, [.ref a_t_race, .ref a_t_kept, .ref a_t_trail, .ref a_t_doubts, .ref a_t_foretelling, .ref a_t_text, .ref a_t_listing, .int t_isKept])), (a_t_doubts, .inr (0, [.ref a_t_doubts_codes, .int t_doubts_doubts])), (a_t_doubts_codes, .inl (cI, 2160, .inl t_doubts_codes)), (a_t_race, .inr (4, [.ref a_t_race_way, .ref a_t_race_guns, .ref a_t_race_runners])), (a_t_race_guns, .inr (2, [.ref a_t_race_guns_ticks])), (a_t_race_guns_ticks, .inl (cI, 6, .inl t_race_guns_ticks)), (a_t_race_runners_facts, .inl (cI, 360, .inl t_race_runners_facts)), (a_t_race_runners_splits, .inl (cI, 720, .inl t_race_runners_splits)), (a_t_race_way, .inr (9, [.ref a_t_race_way_places, .ref a_t_race_way_bearings, .ref a_t_race_way_cuts, .ref a_t_race_way_deaths, .int t_race_way_mats])), (a_t_race_way_places, .inl (cI, 12, .inl t_race_way_places)), (a_t_text, .inr (7, [.ref a_t_text_bytes, .int t_text_length])), (a_t_trail, .inr (8, [.ref a_t_trail_ticks, .ref a_t_trail_places, .int t_trail_mats, .int t_trail_least, .int t_trail_greatest])), (a_t_trail_places, .inl (cI, 12, .inl t_trail_places)), (a_t_trail_ticks, .inl (cI, 12, .inl t_trail_ticks))]) [6] [0, 1, 2, 3, 4, 5, 7, 8, 9, 10, 11, 12, 13, 14] 0 ⟨hx, hb, hml, hown, hts⟩ (mX6_size l D cB cI cZ a_t_race_runners a_t_race_runners_facts a_t_race_runners_splits a_t_race_runners_torn a_t_race_runners_dropped a_t_race_runners_waved a_t_race_runners_struck a_t_race_runners_strikingOrder t_race_runners_entered t_race_runners_strikings s.heap.size r5 e6) (cwV 0 hts gX10_count_X6_size rfl rfl rfl (by decide +kernel) ⟨Nat.le_of_ble_eq_true rfl, Nat.le_of_ble_eq_true rfl⟩) hK hN hZ hP hD hS hA rfl rfl rfl rfl rfl rfl rfl rfl hl.1 rfl (lv_room (Nat.le_of_ble_eq_true rfl)) dX10_count_62 ⟨Nat.le_of_ble_eq_true rfl, Nat.le_of_ble_eq_true rfl⟩ (fun H locs hP hD hS => ?_)
      have hP : va_P D vwCl [(a_t, .inr (10, [.ref a_t_race, .ref a_t_kept, .ref a_t_trail, .ref a_t_doubts, .ref a_t_foretelling, .ref a_t_text, .ref a_t_listing, .int t_isKept])), (a_t_doubts, .inr (0, [.ref a_t_doubts_codes, .int t_doubts_doubts])), (a_t_doubts_codes, .inl (cI, 2160, .inl t_doubts_codes)), (a_t_race, .inr (4, [.ref a_t_race_way, .ref a_t_race_guns, .ref a_t_race_runners])), (a_t_race_guns, .inr (2, [.ref a_t_race_guns_ticks])), (a_t_race_guns_ticks, .inl (cI, 6, .inl t_race_guns_ticks)), (a_t_race_runners_facts, .inl (cI, 360, .inl t_race_runners_facts)), (a_t_race_runners_splits, .inl (cI, 720, .inl t_race_runners_splits)), (a_t_race_way, .inr (9, [.ref a_t_race_way_places, .ref a_t_race_way_bearings, .ref a_t_race_way_cuts, .ref a_t_race_way_deaths, .int t_race_way_mats])), (a_t_race_way_places, .inl (cI, 12, .inl t_race_way_places)), (a_t_text, .inr (7, [.ref a_t_text_bytes, .int t_text_length])), (a_t_trail, .inr (8, [.ref a_t_trail_ticks, .ref a_t_trail_places, .int t_trail_mats, .int t_trail_least, .int t_trail_greatest])), (a_t_trail_places, .inl (cI, 12, .inl t_trail_places)), (a_t_trail_ticks, .inl (cI, 12, .inl t_trail_ticks)), (a_t_race_runners, .inr (6, [.ref a_t_race_runners_facts, .ref a_t_race_runners_splits, .ref a_t_race_runners_torn, .ref a_t_race_runners_dropped, .ref a_t_race_runners_waved, .ref a_t_race_runners_struck, .ref a_t_race_runners_strikingOrder, .int t_race_runners_entered, .int t_race_runners_strikings]))] H := hP
      have hD : va_D A [(a_t, .inr (10, [.ref a_t_race, .ref a_t_kept, .ref a_t_trail, .ref a_t_doubts, .ref a_t_foretelling, .ref a_t_text, .ref a_t_listing, .int t_isKept])), (a_t_doubts, .inr (0, [.ref a_t_doubts_codes, .int t_doubts_doubts])), (a_t_doubts_codes, .inl (cI, 2160, .inl t_doubts_codes)), (a_t_race, .inr (4, [.ref a_t_race_way, .ref a_t_race_guns, .ref a_t_race_runners])), (a_t_race_guns, .inr (2, [.ref a_t_race_guns_ticks])), (a_t_race_guns_ticks, .inl (cI, 6, .inl t_race_guns_ticks)), (a_t_race_runners_facts, .inl (cI, 360, .inl t_race_runners_facts)), (a_t_race_runners_splits, .inl (cI, 720, .inl t_race_runners_splits)), (a_t_race_way, .inr (9, [.ref a_t_race_way_places, .ref a_t_race_way_bearings, .ref a_t_race_way_cuts, .ref a_t_race_way_deaths, .int t_race_way_mats])), (a_t_race_way_places, .inl (cI, 12, .inl t_race_way_places)), (a_t_text, .inr (7, [.ref a_t_text_bytes, .int t_text_length])), (a_t_trail, .inr (8, [.ref a_t_trail_ticks, .ref a_t_trail_places, .int t_trail_mats, .int t_trail_least, .int t_trail_greatest])), (a_t_trail_places, .inl (cI, 12, .inl t_trail_places)), (a_t_trail_ticks, .inl (cI, 12, .inl t_trail_ticks)), (a_t_race_runners, .inr (6, [.ref a_t_race_runners_facts, .ref a_t_race_runners_splits, .ref a_t_race_runners_torn, .ref a_t_race_runners_dropped, .ref a_t_race_runners_waved, .ref a_t_race_runners_struck, .ref a_t_race_runners_strikingOrder, .int t_race_runners_entered, .int t_race_runners_strikings]))] := hD
      obtain ⟨j0_, g_⟩ := Prod.mk.inj (Option.some.inj h)
      obtain ⟨j1_, g_⟩ := Prod.mk.inj g_
      obtain ⟨j2_, g_⟩ := Prod.mk.inj g_
      obtain ⟨j3_, g_⟩ := Prod.mk.inj g_
      obtain ⟨j4_, g_⟩ := Prod.mk.inj g_
      obtain ⟨j5_, g_⟩ := Prod.mk.inj g_
      obtain ⟨j6_, g_⟩ := Prod.mk.inj g_
      have j7_ := g_
      subst j0_
      subst j1_
      subst j2_
      subst j3_
      subst j4_
      subst j5_
      subst j6_
      subst j7_
      exact W.iret (v := r5) hx hb hr (fun t ht hW => ⟨⟨_, (), rfl, rfl, zPost.of hP hD hK ht hW [0, 1, 2, 3, 4, 5, 14, 6, 7, 8, 9, 10, 11, 12, 13] rfl rfl rfl⟩, hS.F ht⟩) hS.2.2 dX10_count_65
    · have h := zz_f h c4
      by_cases c7 : x1 = (2 : Int32)
      · have h := zz_t h c7
        refine lv_tableIn (off := 65) (tgt := 66) hx hb dX10_count_1 (by rw [c7]; decide) (by rw [c7]; decide) (by rw [c7]; rfl) (by decide) ?_
        refine lv_aload_n hx hb dX10_count_66 rfl (lv_at hl 0 rfl) ?_
        refine va_get (D := D) (ci := 10) (C := RX10) (T := TX10) (N := 8) hx hb hts qX10_count_X10 hown hK hP 0 rfl rfl 3 (by decide) (hts _ kX10_count_3) (fun _ h9 => h9) rfl dX10_count_67 ?_
        refine lv_aload_n hx hb dX10_count_70 rfl (lv_at hl 0 rfl) ?_
        refine va_get (D := D) (ci := 10) (C := RX10) (T := TX10) (N := 8) hx hb hts qX10_count_X10 hown hK hP 0 rfl rfl 0 (by decide) (hts _ kX10_count_0) (fun _ h9 => h9) rfl dX10_count_71 ?_
        refine lv_aload_n hx hb dX10_count_74 rfl (lv_at hl 0 rfl) ?_
        refine va_get (D := D) (ci := 10) (C := RX10) (T := TX10) (N := 8) hx hb hts qX10_count_X10 hown hK hP 0 rfl rfl 2 (by decide) (hts _ kX10_count_4) (fun _ h9 => h9) rfl dX10_count_75 ?_
        obtain ⟨⟨r8, t_doubts_doubts_r9, t_doubts_codes_r10, t_trail_greatest_r11, t_trail_least_r12, t_trail_mats_r13, t_trail_places_r14, t_trail_ticks_r15⟩, e16, h⟩ := zz_b h
        dsimp only at h
        refine zVi (As := [.ref a_t_race, .ref a_t_trail]) (rest := []) (C := RX0) (wr := [(a_t, .inr (10, [.ref a_t_race, .ref a_t_kept, .ref a_t_trail, .ref a_t_doubts, .ref a_t_foretelling, .ref a_t_text, .ref a_t_listing, .int t_isKept])), (a_t_text, .inr (7, [.ref a_t_text_bytes, .int t_text_length]))]) [1, 2, 3, 4, 5, 6, 7, 8, 9, 10, 12, 13, 14] [0, 11] 0 ⟨hx, hb, hml, hown, hts⟩ (mX0_gather l D cB cI cZ a_t_doubts a_t_race a_t_trail a_t_doubts_codes a_t_race_way a_t_race_guns a_t_race_runners a_t_race_guns_ticks a_t_race_runners_facts a_t_race_runners_splits a_t_race_runners_torn a_t_race_runners_dropped a_t_race_runners_waved a_t_race_runners_struck a_t_race_runners_strikingOrder a_t_race_way_places a_t_race_way_bearings a_t_race_way_cuts a_t_race_way_deaths a_t_trail_ticks a_t_trail_places t_doubts_doubts t_doubts_codes t_race_guns_ticks t_race_runners_entered t_race_runners_strikings t_race_runners_facts t_race_runners_splits t_race_way_mats t_race_way_places t_trail_mats t_trail_least t_trail_greatest t_trail_places t_trail_ticks s.heap.size N r8 t_doubts_doubts_r9 t_doubts_codes_r10 t_trail_greatest_r11 t_trail_least_r12 t_trail_mats_r13 t_trail_places_r14 t_trail_ticks_r15 e16) (cwV 2 hts gX10_count_X0_gather rfl rfl rfl (by decide +kernel) ⟨Nat.le_of_ble_eq_true rfl, Nat.le_of_ble_eq_true rfl⟩) hK hN hZ hP hD hS hA rfl rfl rfl rfl rfl rfl rfl rfl hl.1 rfl (lv_room (Nat.le_of_ble_eq_true rfl)) dX10_count_78 ⟨Nat.le_of_ble_eq_true rfl, Nat.le_of_ble_eq_true rfl⟩ (fun H locs hP hD hS => ?_)
        have hP : va_P D vwCl [(a_t, .inr (10, [.ref a_t_race, .ref a_t_kept, .ref a_t_trail, .ref a_t_doubts, .ref a_t_foretelling, .ref a_t_text, .ref a_t_listing, .int t_isKept])), (a_t_text, .inr (7, [.ref a_t_text_bytes, .int t_text_length])), (a_t_doubts, .inr (0, [.ref a_t_doubts_codes, .int t_doubts_doubts_r9])), (a_t_doubts_codes, .inl (cI, 2160, .inl t_doubts_codes_r10)), (a_t_race, .inr (4, [.ref a_t_race_way, .ref a_t_race_guns, .ref a_t_race_runners])), (a_t_race_guns, .inr (2, [.ref a_t_race_guns_ticks])), (a_t_race_guns_ticks, .inl (cI, 6, .inl t_race_guns_ticks)), (a_t_race_runners, .inr (6, [.ref a_t_race_runners_facts, .ref a_t_race_runners_splits, .ref a_t_race_runners_torn, .ref a_t_race_runners_dropped, .ref a_t_race_runners_waved, .ref a_t_race_runners_struck, .ref a_t_race_runners_strikingOrder, .int t_race_runners_entered, .int t_race_runners_strikings])), (a_t_race_runners_facts, .inl (cI, 360, .inl t_race_runners_facts)), (a_t_race_runners_splits, .inl (cI, 720, .inl t_race_runners_splits)), (a_t_race_way, .inr (9, [.ref a_t_race_way_places, .ref a_t_race_way_bearings, .ref a_t_race_way_cuts, .ref a_t_race_way_deaths, .int t_race_way_mats])), (a_t_race_way_places, .inl (cI, 12, .inl t_race_way_places)), (a_t_trail, .inr (8, [.ref a_t_trail_ticks, .ref a_t_trail_places, .int t_trail_mats_r13, .int t_trail_least_r12, .int t_trail_greatest_r11])), (a_t_trail_places, .inl (cI, 12, .inl t_trail_places_r14)), (a_t_trail_ticks, .inl (cI, 12, .inl t_trail_ticks_r15))] H := hP
        have hD : va_D A [(a_t, .inr (10, [.ref a_t_race, .ref a_t_kept, .ref a_t_trail, .ref a_t_doubts, .ref a_t_foretelling, .ref a_t_text, .ref a_t_listing, .int t_isKept])), (a_t_text, .inr (7, [.ref a_t_text_bytes, .int t_text_length])), (a_t_doubts, .inr (0, [.ref a_t_doubts_codes, .int t_doubts_doubts_r9])), (a_t_doubts_codes, .inl (cI, 2160, .inl t_doubts_codes_r10)), (a_t_race, .inr (4, [.ref a_t_race_way, .ref a_t_race_guns, .ref a_t_race_runners])), (a_t_race_guns, .inr (2, [.ref a_t_race_guns_ticks])), (a_t_race_guns_ticks, .inl (cI, 6, .inl t_race_guns_ticks)), (a_t_race_runners, .inr (6, [.ref a_t_race_runners_facts, .ref a_t_race_runners_splits, .ref a_t_race_runners_torn, .ref a_t_race_runners_dropped, .ref a_t_race_runners_waved, .ref a_t_race_runners_struck, .ref a_t_race_runners_strikingOrder, .int t_race_runners_entered, .int t_race_runners_strikings])), (a_t_race_runners_facts, .inl (cI, 360, .inl t_race_runners_facts)), (a_t_race_runners_splits, .inl (cI, 720, .inl t_race_runners_splits)), (a_t_race_way, .inr (9, [.ref a_t_race_way_places, .ref a_t_race_way_bearings, .ref a_t_race_way_cuts, .ref a_t_race_way_deaths, .int t_race_way_mats])), (a_t_race_way_places, .inl (cI, 12, .inl t_race_way_places)), (a_t_trail, .inr (8, [.ref a_t_trail_ticks, .ref a_t_trail_places, .int t_trail_mats_r13, .int t_trail_least_r12, .int t_trail_greatest_r11])), (a_t_trail_places, .inl (cI, 12, .inl t_trail_places_r14)), (a_t_trail_ticks, .inl (cI, 12, .inl t_trail_ticks_r15))] := hD
        obtain ⟨j0_, g_⟩ := Prod.mk.inj (Option.some.inj h)
        obtain ⟨j1_, g_⟩ := Prod.mk.inj g_
        obtain ⟨j2_, g_⟩ := Prod.mk.inj g_
        obtain ⟨j3_, g_⟩ := Prod.mk.inj g_
        obtain ⟨j4_, g_⟩ := Prod.mk.inj g_
        obtain ⟨j5_, g_⟩ := Prod.mk.inj g_
        obtain ⟨j6_, g_⟩ := Prod.mk.inj g_
        have j7_ := g_
        subst j0_
        subst j1_
        subst j2_
        subst j3_
        subst j4_
        subst j5_
        subst j6_
        subst j7_
        exact W.iret (v := r8) hx hb hr (fun t ht hW => ⟨⟨_, (), rfl, rfl, zPost.of hP hD hK ht hW [0, 2, 3, 4, 5, 6, 7, 8, 9, 10, 11, 1, 12, 13, 14] rfl rfl rfl⟩, hS.F ht⟩) hS.2.2 dX10_count_81
      · have h := zz_f h c7
        by_cases c17 : x1 = (3 : Int32)
        · have h := zz_t h c17
          refine lv_tableIn (off := 81) (tgt := 82) hx hb dX10_count_1 (by rw [c17]; decide) (by rw [c17]; decide) (by rw [c17]; rfl) (by decide) ?_
          refine lv_aload_n hx hb dX10_count_82 rfl (lv_at hl 0 rfl) ?_
          refine va_get (D := D) (ci := 10) (C := RX10) (T := TX10) (N := 8) hx hb hts qX10_count_X10 hown hK hP 0 rfl rfl 5 (by decide) (hts _ kX10_count_5) (fun _ h9 => h9) rfl dX10_count_83 ?_
          obtain ⟨r18, e19, h⟩ := zz_b h
          refine zVi (As := []) (rest := []) (C := RX7) (wr := [(a_t, .inr (10, [.ref a_t_race, .ref a_t_kept, .ref a_t_trail, .ref a_t_doubts, .ref a_t_foretelling, .ref a_t_text, .ref a_t_listing, .int t_isKept])), (a_t_doubts, .inr (0, [.ref a_t_doubts_codes, .int t_doubts_doubts])), (a_t_doubts_codes, .inl (cI, 2160, .inl t_doubts_codes)), (a_t_race, .inr (4, [.ref a_t_race_way, .ref a_t_race_guns, .ref a_t_race_runners])), (a_t_race_guns, .inr (2, [.ref a_t_race_guns_ticks])), (a_t_race_guns_ticks, .inl (cI, 6, .inl t_race_guns_ticks)), (a_t_race_runners, .inr (6, [.ref a_t_race_runners_facts, .ref a_t_race_runners_splits, .ref a_t_race_runners_torn, .ref a_t_race_runners_dropped, .ref a_t_race_runners_waved, .ref a_t_race_runners_struck, .ref a_t_race_runners_strikingOrder, .int t_race_runners_entered, .int t_race_runners_strikings])), (a_t_race_runners_facts, .inl (cI, 360, .inl t_race_runners_facts)), (a_t_race_runners_splits, .inl (cI, 720, .inl t_race_runners_splits)), (a_t_race_way, .inr (9, [.ref a_t_race_way_places, .ref a_t_race_way_bearings, .ref a_t_race_way_cuts, .ref a_t_race_way_deaths, .int t_race_way_mats])), (a_t_race_way_places, .inl (cI, 12, .inl t_race_way_places)), (a_t_trail, .inr (8, [.ref a_t_trail_ticks, .ref a_t_trail_places, .int t_trail_mats, .int t_trail_least, .int t_trail_greatest])), (a_t_trail_places, .inl (cI, 12, .inl t_trail_places)), (a_t_trail_ticks, .inl (cI, 12, .inl t_trail_ticks))]) [11] [0, 1, 2, 3, 4, 5, 6, 7, 8, 9, 10, 12, 13, 14] 0 ⟨hx, hb, hml, hown, hts⟩ (mX7_size l D cB cI cZ a_t_text a_t_text_bytes t_text_length s.heap.size r18 e19) (cwV 0 hts gX10_count_X7_size rfl rfl rfl (by decide +kernel) ⟨Nat.le_of_ble_eq_true rfl, Nat.le_of_ble_eq_true rfl⟩) hK hN hZ hP hD hS hA rfl rfl rfl rfl rfl rfl rfl rfl hl.1 rfl (lv_room (Nat.le_of_ble_eq_true rfl)) dX10_count_86 ⟨Nat.le_of_ble_eq_true rfl, Nat.le_of_ble_eq_true rfl⟩ (fun H locs hP hD hS => ?_)
          have hP : va_P D vwCl [(a_t, .inr (10, [.ref a_t_race, .ref a_t_kept, .ref a_t_trail, .ref a_t_doubts, .ref a_t_foretelling, .ref a_t_text, .ref a_t_listing, .int t_isKept])), (a_t_doubts, .inr (0, [.ref a_t_doubts_codes, .int t_doubts_doubts])), (a_t_doubts_codes, .inl (cI, 2160, .inl t_doubts_codes)), (a_t_race, .inr (4, [.ref a_t_race_way, .ref a_t_race_guns, .ref a_t_race_runners])), (a_t_race_guns, .inr (2, [.ref a_t_race_guns_ticks])), (a_t_race_guns_ticks, .inl (cI, 6, .inl t_race_guns_ticks)), (a_t_race_runners, .inr (6, [.ref a_t_race_runners_facts, .ref a_t_race_runners_splits, .ref a_t_race_runners_torn, .ref a_t_race_runners_dropped, .ref a_t_race_runners_waved, .ref a_t_race_runners_struck, .ref a_t_race_runners_strikingOrder, .int t_race_runners_entered, .int t_race_runners_strikings])), (a_t_race_runners_facts, .inl (cI, 360, .inl t_race_runners_facts)), (a_t_race_runners_splits, .inl (cI, 720, .inl t_race_runners_splits)), (a_t_race_way, .inr (9, [.ref a_t_race_way_places, .ref a_t_race_way_bearings, .ref a_t_race_way_cuts, .ref a_t_race_way_deaths, .int t_race_way_mats])), (a_t_race_way_places, .inl (cI, 12, .inl t_race_way_places)), (a_t_trail, .inr (8, [.ref a_t_trail_ticks, .ref a_t_trail_places, .int t_trail_mats, .int t_trail_least, .int t_trail_greatest])), (a_t_trail_places, .inl (cI, 12, .inl t_trail_places)), (a_t_trail_ticks, .inl (cI, 12, .inl t_trail_ticks)), (a_t_text, .inr (7, [.ref a_t_text_bytes, .int t_text_length]))] H := hP
          have hD : va_D A [(a_t, .inr (10, [.ref a_t_race, .ref a_t_kept, .ref a_t_trail, .ref a_t_doubts, .ref a_t_foretelling, .ref a_t_text, .ref a_t_listing, .int t_isKept])), (a_t_doubts, .inr (0, [.ref a_t_doubts_codes, .int t_doubts_doubts])), (a_t_doubts_codes, .inl (cI, 2160, .inl t_doubts_codes)), (a_t_race, .inr (4, [.ref a_t_race_way, .ref a_t_race_guns, .ref a_t_race_runners])), (a_t_race_guns, .inr (2, [.ref a_t_race_guns_ticks])), (a_t_race_guns_ticks, .inl (cI, 6, .inl t_race_guns_ticks)), (a_t_race_runners, .inr (6, [.ref a_t_race_runners_facts, .ref a_t_race_runners_splits, .ref a_t_race_runners_torn, .ref a_t_race_runners_dropped, .ref a_t_race_runners_waved, .ref a_t_race_runners_struck, .ref a_t_race_runners_strikingOrder, .int t_race_runners_entered, .int t_race_runners_strikings])), (a_t_race_runners_facts, .inl (cI, 360, .inl t_race_runners_facts)), (a_t_race_runners_splits, .inl (cI, 720, .inl t_race_runners_splits)), (a_t_race_way, .inr (9, [.ref a_t_race_way_places, .ref a_t_race_way_bearings, .ref a_t_race_way_cuts, .ref a_t_race_way_deaths, .int t_race_way_mats])), (a_t_race_way_places, .inl (cI, 12, .inl t_race_way_places)), (a_t_trail, .inr (8, [.ref a_t_trail_ticks, .ref a_t_trail_places, .int t_trail_mats, .int t_trail_least, .int t_trail_greatest])), (a_t_trail_places, .inl (cI, 12, .inl t_trail_places)), (a_t_trail_ticks, .inl (cI, 12, .inl t_trail_ticks)), (a_t_text, .inr (7, [.ref a_t_text_bytes, .int t_text_length]))] := hD
          obtain ⟨j0_, g_⟩ := Prod.mk.inj (Option.some.inj h)
          obtain ⟨j1_, g_⟩ := Prod.mk.inj g_
          obtain ⟨j2_, g_⟩ := Prod.mk.inj g_
          obtain ⟨j3_, g_⟩ := Prod.mk.inj g_
          obtain ⟨j4_, g_⟩ := Prod.mk.inj g_
          obtain ⟨j5_, g_⟩ := Prod.mk.inj g_
          obtain ⟨j6_, g_⟩ := Prod.mk.inj g_
          have j7_ := g_
          subst j0_
          subst j1_
          subst j2_
          subst j3_
          subst j4_
          subst j5_
          subst j6_
          subst j7_
          exact W.iret (v := r18) hx hb hr (fun t ht hW => ⟨⟨_, (), rfl, rfl, zPost.of hP hD hK ht hW [0, 1, 2, 3, 4, 5, 6, 7, 8, 9, 10, 14, 11, 12, 13] rfl rfl rfl⟩, hS.F ht⟩) hS.2.2 dX10_count_89
        · have h := zz_f h c17
          by_cases c20 : x1 = (4 : Int32)
          · have h := zz_t h c20
            refine lv_tableIn (off := 89) (tgt := 90) hx hb dX10_count_1 (by rw [c20]; decide) (by rw [c20]; decide) (by rw [c20]; rfl) (by decide) ?_
            refine lv_aload_n hx hb dX10_count_90 rfl (lv_at hl 0 rfl) ?_
            refine va_get (D := D) (ci := 10) (C := RX10) (T := TX10) (N := 8) hx hb hts qX10_count_X10 hown hK hP 0 rfl rfl 0 (by decide) (hts _ kX10_count_0) (fun _ h9 => h9) rfl dX10_count_91 ?_
            refine va_getN (host := "RunDesk") (D := D) (ci := 4) (C := RX4) (T := TX4) (N := 3) hx hb hts qX10_count_X4 hown hK hP 3 rfl rfl 2 (by decide) (va_Nw.use rfl (hN _ (List.mem_of_getElem? (i := 10) rfl))) (fun _ h9 => h9) rfl dX10_count_94 ?_
            obtain ⟨r21, e22, h⟩ := zz_b h
            refine zVi (As := []) (rest := []) (C := RX6) (wr := [(a_t, .inr (10, [.ref a_t_race, .ref a_t_kept, .ref a_t_trail, .ref a_t_doubts, .ref a_t_foretelling, .ref a_t_text, .ref a_t_listing, .int t_isKept])), (a_t_doubts, .inr (0, [.ref a_t_doubts_codes, .int t_doubts_doubts])), (a_t_doubts_codes, .inl (cI, 2160, .inl t_doubts_codes)), (a_t_race, .inr (4, [.ref a_t_race_way, .ref a_t_race_guns, .ref a_t_race_runners])), (a_t_race_guns, .inr (2, [.ref a_t_race_guns_ticks])), (a_t_race_guns_ticks, .inl (cI, 6, .inl t_race_guns_ticks)), (a_t_race_runners_facts, .inl (cI, 360, .inl t_race_runners_facts)), (a_t_race_runners_splits, .inl (cI, 720, .inl t_race_runners_splits)), (a_t_race_way, .inr (9, [.ref a_t_race_way_places, .ref a_t_race_way_bearings, .ref a_t_race_way_cuts, .ref a_t_race_way_deaths, .int t_race_way_mats])), (a_t_race_way_places, .inl (cI, 12, .inl t_race_way_places)), (a_t_text, .inr (7, [.ref a_t_text_bytes, .int t_text_length])), (a_t_trail, .inr (8, [.ref a_t_trail_ticks, .ref a_t_trail_places, .int t_trail_mats, .int t_trail_least, .int t_trail_greatest])), (a_t_trail_places, .inl (cI, 12, .inl t_trail_places)), (a_t_trail_ticks, .inl (cI, 12, .inl t_trail_ticks))]) [6] [0, 1, 2, 3, 4, 5, 7, 8, 9, 10, 11, 12, 13, 14] 0 ⟨hx, hb, hml, hown, hts⟩ (mX6_strikings l D cB cI cZ a_t_race_runners a_t_race_runners_facts a_t_race_runners_splits a_t_race_runners_torn a_t_race_runners_dropped a_t_race_runners_waved a_t_race_runners_struck a_t_race_runners_strikingOrder t_race_runners_entered t_race_runners_strikings s.heap.size r21 e22) (cwV 0 hts gX10_count_X6_strikings rfl rfl rfl (by decide +kernel) ⟨Nat.le_of_ble_eq_true rfl, Nat.le_of_ble_eq_true rfl⟩) hK hN hZ hP hD hS hA rfl rfl rfl rfl rfl rfl rfl rfl hl.1 rfl (lv_room (Nat.le_of_ble_eq_true rfl)) dX10_count_97 ⟨Nat.le_of_ble_eq_true rfl, Nat.le_of_ble_eq_true rfl⟩ (fun H locs hP hD hS => ?_)
            have hP : va_P D vwCl [(a_t, .inr (10, [.ref a_t_race, .ref a_t_kept, .ref a_t_trail, .ref a_t_doubts, .ref a_t_foretelling, .ref a_t_text, .ref a_t_listing, .int t_isKept])), (a_t_doubts, .inr (0, [.ref a_t_doubts_codes, .int t_doubts_doubts])), (a_t_doubts_codes, .inl (cI, 2160, .inl t_doubts_codes)), (a_t_race, .inr (4, [.ref a_t_race_way, .ref a_t_race_guns, .ref a_t_race_runners])), (a_t_race_guns, .inr (2, [.ref a_t_race_guns_ticks])), (a_t_race_guns_ticks, .inl (cI, 6, .inl t_race_guns_ticks)), (a_t_race_runners_facts, .inl (cI, 360, .inl t_race_runners_facts)), (a_t_race_runners_splits, .inl (cI, 720, .inl t_race_runners_splits)), (a_t_race_way, .inr (9, [.ref a_t_race_way_places, .ref a_t_race_way_bearings, .ref a_t_race_way_cuts, .ref a_t_race_way_deaths, .int t_race_way_mats])), (a_t_race_way_places, .inl (cI, 12, .inl t_race_way_places)), (a_t_text, .inr (7, [.ref a_t_text_bytes, .int t_text_length])), (a_t_trail, .inr (8, [.ref a_t_trail_ticks, .ref a_t_trail_places, .int t_trail_mats, .int t_trail_least, .int t_trail_greatest])), (a_t_trail_places, .inl (cI, 12, .inl t_trail_places)), (a_t_trail_ticks, .inl (cI, 12, .inl t_trail_ticks)), (a_t_race_runners, .inr (6, [.ref a_t_race_runners_facts, .ref a_t_race_runners_splits, .ref a_t_race_runners_torn, .ref a_t_race_runners_dropped, .ref a_t_race_runners_waved, .ref a_t_race_runners_struck, .ref a_t_race_runners_strikingOrder, .int t_race_runners_entered, .int t_race_runners_strikings]))] H := hP
            have hD : va_D A [(a_t, .inr (10, [.ref a_t_race, .ref a_t_kept, .ref a_t_trail, .ref a_t_doubts, .ref a_t_foretelling, .ref a_t_text, .ref a_t_listing, .int t_isKept])), (a_t_doubts, .inr (0, [.ref a_t_doubts_codes, .int t_doubts_doubts])), (a_t_doubts_codes, .inl (cI, 2160, .inl t_doubts_codes)), (a_t_race, .inr (4, [.ref a_t_race_way, .ref a_t_race_guns, .ref a_t_race_runners])), (a_t_race_guns, .inr (2, [.ref a_t_race_guns_ticks])), (a_t_race_guns_ticks, .inl (cI, 6, .inl t_race_guns_ticks)), (a_t_race_runners_facts, .inl (cI, 360, .inl t_race_runners_facts)), (a_t_race_runners_splits, .inl (cI, 720, .inl t_race_runners_splits)), (a_t_race_way, .inr (9, [.ref a_t_race_way_places, .ref a_t_race_way_bearings, .ref a_t_race_way_cuts, .ref a_t_race_way_deaths, .int t_race_way_mats])), (a_t_race_way_places, .inl (cI, 12, .inl t_race_way_places)), (a_t_text, .inr (7, [.ref a_t_text_bytes, .int t_text_length])), (a_t_trail, .inr (8, [.ref a_t_trail_ticks, .ref a_t_trail_places, .int t_trail_mats, .int t_trail_least, .int t_trail_greatest])), (a_t_trail_places, .inl (cI, 12, .inl t_trail_places)), (a_t_trail_ticks, .inl (cI, 12, .inl t_trail_ticks)), (a_t_race_runners, .inr (6, [.ref a_t_race_runners_facts, .ref a_t_race_runners_splits, .ref a_t_race_runners_torn, .ref a_t_race_runners_dropped, .ref a_t_race_runners_waved, .ref a_t_race_runners_struck, .ref a_t_race_runners_strikingOrder, .int t_race_runners_entered, .int t_race_runners_strikings]))] := hD
            obtain ⟨j0_, g_⟩ := Prod.mk.inj (Option.some.inj h)
            obtain ⟨j1_, g_⟩ := Prod.mk.inj g_
            obtain ⟨j2_, g_⟩ := Prod.mk.inj g_
            obtain ⟨j3_, g_⟩ := Prod.mk.inj g_
            obtain ⟨j4_, g_⟩ := Prod.mk.inj g_
            obtain ⟨j5_, g_⟩ := Prod.mk.inj g_
            obtain ⟨j6_, g_⟩ := Prod.mk.inj g_
            have j7_ := g_
            subst j0_
            subst j1_
            subst j2_
            subst j3_
            subst j4_
            subst j5_
            subst j6_
            subst j7_
            exact W.iret (v := r21) hx hb hr (fun t ht hW => ⟨⟨_, (), rfl, rfl, zPost.of hP hD hK ht hW [0, 1, 2, 3, 4, 5, 14, 6, 7, 8, 9, 10, 11, 12, 13] rfl rfl rfl⟩, hS.F ht⟩) hS.2.2 dX10_count_100
          · have h := zz_f h c20
            by_cases c23 : x1 = (5 : Int32)
            · have h := zz_t h c23
              refine lv_tableIn (off := 100) (tgt := 101) hx hb dX10_count_1 (by rw [c23]; decide) (by rw [c23]; decide) (by rw [c23]; rfl) (by decide) ?_
              refine lv_aload_n hx hb dX10_count_101 rfl (lv_at hl 0 rfl) ?_
              refine va_get (D := D) (ci := 10) (C := RX10) (T := TX10) (N := 8) hx hb hts qX10_count_X10 hown hK hP 0 rfl rfl 0 (by decide) (hts _ kX10_count_0) (fun _ h9 => h9) rfl dX10_count_102 ?_
              obtain ⟨r24, e25, h⟩ := zz_b h
              refine zVi (As := []) (rest := []) (C := RX4) (wr := [(a_t, .inr (10, [.ref a_t_race, .ref a_t_kept, .ref a_t_trail, .ref a_t_doubts, .ref a_t_foretelling, .ref a_t_text, .ref a_t_listing, .int t_isKept])), (a_t_doubts, .inr (0, [.ref a_t_doubts_codes, .int t_doubts_doubts])), (a_t_doubts_codes, .inl (cI, 2160, .inl t_doubts_codes)), (a_t_race_guns, .inr (2, [.ref a_t_race_guns_ticks])), (a_t_race_guns_ticks, .inl (cI, 6, .inl t_race_guns_ticks)), (a_t_race_runners_facts, .inl (cI, 360, .inl t_race_runners_facts)), (a_t_race_way_places, .inl (cI, 12, .inl t_race_way_places)), (a_t_text, .inr (7, [.ref a_t_text_bytes, .int t_text_length])), (a_t_trail, .inr (8, [.ref a_t_trail_ticks, .ref a_t_trail_places, .int t_trail_mats, .int t_trail_least, .int t_trail_greatest])), (a_t_trail_places, .inl (cI, 12, .inl t_trail_places)), (a_t_trail_ticks, .inl (cI, 12, .inl t_trail_ticks))]) [3, 6, 8, 9] [0, 1, 2, 4, 5, 7, 10, 11, 12, 13, 14] 0 ⟨hx, hb, hml, hown, hts⟩ (mX4_howManySplits l D cB cI cZ a_t_race a_t_race_way a_t_race_guns a_t_race_runners a_t_race_runners_facts a_t_race_runners_splits a_t_race_runners_torn a_t_race_runners_dropped a_t_race_runners_waved a_t_race_runners_struck a_t_race_runners_strikingOrder a_t_race_way_places a_t_race_way_bearings a_t_race_way_cuts a_t_race_way_deaths t_race_runners_entered t_race_runners_strikings t_race_runners_splits t_race_way_mats s.heap.size N r24 e25) (cwV 0 hts gX10_count_X4_howManySplits rfl rfl rfl (by decide +kernel) ⟨Nat.le_of_ble_eq_true rfl, Nat.le_of_ble_eq_true rfl⟩) hK hN hZ hP hD hS hA rfl rfl rfl rfl rfl rfl rfl rfl hl.1 rfl (lv_room (Nat.le_of_ble_eq_true rfl)) dX10_count_105 ⟨Nat.le_of_ble_eq_true rfl, Nat.le_of_ble_eq_true rfl⟩ (fun H locs hP hD hS => ?_)
              have hP : va_P D vwCl [(a_t, .inr (10, [.ref a_t_race, .ref a_t_kept, .ref a_t_trail, .ref a_t_doubts, .ref a_t_foretelling, .ref a_t_text, .ref a_t_listing, .int t_isKept])), (a_t_doubts, .inr (0, [.ref a_t_doubts_codes, .int t_doubts_doubts])), (a_t_doubts_codes, .inl (cI, 2160, .inl t_doubts_codes)), (a_t_race_guns, .inr (2, [.ref a_t_race_guns_ticks])), (a_t_race_guns_ticks, .inl (cI, 6, .inl t_race_guns_ticks)), (a_t_race_runners_facts, .inl (cI, 360, .inl t_race_runners_facts)), (a_t_race_way_places, .inl (cI, 12, .inl t_race_way_places)), (a_t_text, .inr (7, [.ref a_t_text_bytes, .int t_text_length])), (a_t_trail, .inr (8, [.ref a_t_trail_ticks, .ref a_t_trail_places, .int t_trail_mats, .int t_trail_least, .int t_trail_greatest])), (a_t_trail_places, .inl (cI, 12, .inl t_trail_places)), (a_t_trail_ticks, .inl (cI, 12, .inl t_trail_ticks)), (a_t_race, .inr (4, [.ref a_t_race_way, .ref a_t_race_guns, .ref a_t_race_runners])), (a_t_race_runners, .inr (6, [.ref a_t_race_runners_facts, .ref a_t_race_runners_splits, .ref a_t_race_runners_torn, .ref a_t_race_runners_dropped, .ref a_t_race_runners_waved, .ref a_t_race_runners_struck, .ref a_t_race_runners_strikingOrder, .int t_race_runners_entered, .int t_race_runners_strikings])), (a_t_race_runners_splits, .inl (cI, 720, .inl t_race_runners_splits)), (a_t_race_way, .inr (9, [.ref a_t_race_way_places, .ref a_t_race_way_bearings, .ref a_t_race_way_cuts, .ref a_t_race_way_deaths, .int t_race_way_mats]))] H := hP
              have hD : va_D A [(a_t, .inr (10, [.ref a_t_race, .ref a_t_kept, .ref a_t_trail, .ref a_t_doubts, .ref a_t_foretelling, .ref a_t_text, .ref a_t_listing, .int t_isKept])), (a_t_doubts, .inr (0, [.ref a_t_doubts_codes, .int t_doubts_doubts])), (a_t_doubts_codes, .inl (cI, 2160, .inl t_doubts_codes)), (a_t_race_guns, .inr (2, [.ref a_t_race_guns_ticks])), (a_t_race_guns_ticks, .inl (cI, 6, .inl t_race_guns_ticks)), (a_t_race_runners_facts, .inl (cI, 360, .inl t_race_runners_facts)), (a_t_race_way_places, .inl (cI, 12, .inl t_race_way_places)), (a_t_text, .inr (7, [.ref a_t_text_bytes, .int t_text_length])), (a_t_trail, .inr (8, [.ref a_t_trail_ticks, .ref a_t_trail_places, .int t_trail_mats, .int t_trail_least, .int t_trail_greatest])), (a_t_trail_places, .inl (cI, 12, .inl t_trail_places)), (a_t_trail_ticks, .inl (cI, 12, .inl t_trail_ticks)), (a_t_race, .inr (4, [.ref a_t_race_way, .ref a_t_race_guns, .ref a_t_race_runners])), (a_t_race_runners, .inr (6, [.ref a_t_race_runners_facts, .ref a_t_race_runners_splits, .ref a_t_race_runners_torn, .ref a_t_race_runners_dropped, .ref a_t_race_runners_waved, .ref a_t_race_runners_struck, .ref a_t_race_runners_strikingOrder, .int t_race_runners_entered, .int t_race_runners_strikings])), (a_t_race_runners_splits, .inl (cI, 720, .inl t_race_runners_splits)), (a_t_race_way, .inr (9, [.ref a_t_race_way_places, .ref a_t_race_way_bearings, .ref a_t_race_way_cuts, .ref a_t_race_way_deaths, .int t_race_way_mats]))] := hD
              obtain ⟨j0_, g_⟩ := Prod.mk.inj (Option.some.inj h)
              obtain ⟨j1_, g_⟩ := Prod.mk.inj g_
              obtain ⟨j2_, g_⟩ := Prod.mk.inj g_
              obtain ⟨j3_, g_⟩ := Prod.mk.inj g_
              obtain ⟨j4_, g_⟩ := Prod.mk.inj g_
              obtain ⟨j5_, g_⟩ := Prod.mk.inj g_
              obtain ⟨j6_, g_⟩ := Prod.mk.inj g_
              have j7_ := g_
              subst j0_
              subst j1_
              subst j2_
              subst j3_
              subst j4_
              subst j5_
              subst j6_
              subst j7_
              exact W.iret (v := r24) hx hb hr (fun t ht hW => ⟨⟨_, (), rfl, rfl, zPost.of hP hD hK ht hW [0, 1, 2, 11, 3, 4, 12, 5, 13, 14, 6, 7, 8, 9, 10] rfl rfl rfl⟩, hS.F ht⟩) hS.2.2 dX10_count_108
            · have h := zz_f h c23
              by_cases c26 : x1 = (6 : Int32)
              · have h := zz_t h c26
                refine lv_tableIn (off := 108) (tgt := 109) hx hb dX10_count_1 (by rw [c26]; decide) (by rw [c26]; decide) (by rw [c26]; rfl) (by decide) ?_
                refine lv_aload_n hx hb dX10_count_109 rfl (lv_at hl 0 rfl) ?_
                refine va_get (D := D) (ci := 10) (C := RX10) (T := TX10) (N := 8) hx hb hts qX10_count_X10 hown hK hP 0 rfl rfl 0 (by decide) (hts _ kX10_count_0) (fun _ h9 => h9) rfl dX10_count_110 ?_
                refine va_getN (host := "RunDesk") (D := D) (ci := 4) (C := RX4) (T := TX4) (N := 3) hx hb hts qX10_count_X4 hown hK hP 3 rfl rfl 0 (by decide) (va_Nw.use rfl (hN _ (List.mem_of_getElem? (i := 0) rfl))) (fun _ h9 => h9) rfl dX10_count_113 ?_
                refine lv_aload_n hx hb dX10_count_116 rfl (lv_at hl 0 rfl) ?_
                refine va_get (D := D) (ci := 10) (C := RX10) (T := TX10) (N := 8) hx hb hts qX10_count_X10 hown hK hP 0 rfl rfl 0 (by decide) (hts _ kX10_count_0) (fun _ h9 => h9) rfl dX10_count_117 ?_
                refine va_getN (host := "RunDesk") (D := D) (ci := 4) (C := RX4) (T := TX4) (N := 3) hx hb hts qX10_count_X4 hown hK hP 3 rfl rfl 0 (by decide) (va_Nw.use rfl (hN _ (List.mem_of_getElem? (i := 0) rfl))) (fun _ h9 => h9) rfl dX10_count_120 ?_
                obtain ⟨r27, e28, h⟩ := zz_b h
                refine zVi (As := []) (rest := [.ref a_t_race_way]) (C := RX9) (wr := [(a_t, .inr (10, [.ref a_t_race, .ref a_t_kept, .ref a_t_trail, .ref a_t_doubts, .ref a_t_foretelling, .ref a_t_text, .ref a_t_listing, .int t_isKept])), (a_t_doubts, .inr (0, [.ref a_t_doubts_codes, .int t_doubts_doubts])), (a_t_doubts_codes, .inl (cI, 2160, .inl t_doubts_codes)), (a_t_race, .inr (4, [.ref a_t_race_way, .ref a_t_race_guns, .ref a_t_race_runners])), (a_t_race_guns, .inr (2, [.ref a_t_race_guns_ticks])), (a_t_race_guns_ticks, .inl (cI, 6, .inl t_race_guns_ticks)), (a_t_race_runners, .inr (6, [.ref a_t_race_runners_facts, .ref a_t_race_runners_splits, .ref a_t_race_runners_torn, .ref a_t_race_runners_dropped, .ref a_t_race_runners_waved, .ref a_t_race_runners_struck, .ref a_t_race_runners_strikingOrder, .int t_race_runners_entered, .int t_race_runners_strikings])), (a_t_race_runners_facts, .inl (cI, 360, .inl t_race_runners_facts)), (a_t_race_runners_splits, .inl (cI, 720, .inl t_race_runners_splits)), (a_t_race_way_places, .inl (cI, 12, .inl t_race_way_places)), (a_t_text, .inr (7, [.ref a_t_text_bytes, .int t_text_length])), (a_t_trail, .inr (8, [.ref a_t_trail_ticks, .ref a_t_trail_places, .int t_trail_mats, .int t_trail_least, .int t_trail_greatest])), (a_t_trail_places, .inl (cI, 12, .inl t_trail_places)), (a_t_trail_ticks, .inl (cI, 12, .inl t_trail_ticks))]) [9] [0, 1, 2, 3, 4, 5, 6, 7, 8, 10, 11, 12, 13, 14] 0 ⟨hx, hb, hml, hown, hts⟩ (mX9_lastMat l D cB cI cZ a_t_race_way a_t_race_way_places a_t_race_way_bearings a_t_race_way_cuts a_t_race_way_deaths t_race_way_mats s.heap.size r27 e28) (cwV 0 hts gX10_count_X9_lastMat rfl rfl rfl (by decide +kernel) ⟨Nat.le_of_ble_eq_true rfl, Nat.le_of_ble_eq_true rfl⟩) hK hN hZ hP hD hS hA rfl rfl rfl rfl rfl rfl rfl rfl hl.1 rfl (lv_room (Nat.le_of_ble_eq_true rfl)) dX10_count_123 ⟨Nat.le_of_ble_eq_true rfl, Nat.le_of_ble_eq_true rfl⟩ (fun H locs hP hD hS => ?_)
                have hP : va_P D vwCl [(a_t, .inr (10, [.ref a_t_race, .ref a_t_kept, .ref a_t_trail, .ref a_t_doubts, .ref a_t_foretelling, .ref a_t_text, .ref a_t_listing, .int t_isKept])), (a_t_doubts, .inr (0, [.ref a_t_doubts_codes, .int t_doubts_doubts])), (a_t_doubts_codes, .inl (cI, 2160, .inl t_doubts_codes)), (a_t_race, .inr (4, [.ref a_t_race_way, .ref a_t_race_guns, .ref a_t_race_runners])), (a_t_race_guns, .inr (2, [.ref a_t_race_guns_ticks])), (a_t_race_guns_ticks, .inl (cI, 6, .inl t_race_guns_ticks)), (a_t_race_runners, .inr (6, [.ref a_t_race_runners_facts, .ref a_t_race_runners_splits, .ref a_t_race_runners_torn, .ref a_t_race_runners_dropped, .ref a_t_race_runners_waved, .ref a_t_race_runners_struck, .ref a_t_race_runners_strikingOrder, .int t_race_runners_entered, .int t_race_runners_strikings])), (a_t_race_runners_facts, .inl (cI, 360, .inl t_race_runners_facts)), (a_t_race_runners_splits, .inl (cI, 720, .inl t_race_runners_splits)), (a_t_race_way_places, .inl (cI, 12, .inl t_race_way_places)), (a_t_text, .inr (7, [.ref a_t_text_bytes, .int t_text_length])), (a_t_trail, .inr (8, [.ref a_t_trail_ticks, .ref a_t_trail_places, .int t_trail_mats, .int t_trail_least, .int t_trail_greatest])), (a_t_trail_places, .inl (cI, 12, .inl t_trail_places)), (a_t_trail_ticks, .inl (cI, 12, .inl t_trail_ticks)), (a_t_race_way, .inr (9, [.ref a_t_race_way_places, .ref a_t_race_way_bearings, .ref a_t_race_way_cuts, .ref a_t_race_way_deaths, .int t_race_way_mats]))] H := hP
                have hD : va_D A [(a_t, .inr (10, [.ref a_t_race, .ref a_t_kept, .ref a_t_trail, .ref a_t_doubts, .ref a_t_foretelling, .ref a_t_text, .ref a_t_listing, .int t_isKept])), (a_t_doubts, .inr (0, [.ref a_t_doubts_codes, .int t_doubts_doubts])), (a_t_doubts_codes, .inl (cI, 2160, .inl t_doubts_codes)), (a_t_race, .inr (4, [.ref a_t_race_way, .ref a_t_race_guns, .ref a_t_race_runners])), (a_t_race_guns, .inr (2, [.ref a_t_race_guns_ticks])), (a_t_race_guns_ticks, .inl (cI, 6, .inl t_race_guns_ticks)), (a_t_race_runners, .inr (6, [.ref a_t_race_runners_facts, .ref a_t_race_runners_splits, .ref a_t_race_runners_torn, .ref a_t_race_runners_dropped, .ref a_t_race_runners_waved, .ref a_t_race_runners_struck, .ref a_t_race_runners_strikingOrder, .int t_race_runners_entered, .int t_race_runners_strikings])), (a_t_race_runners_facts, .inl (cI, 360, .inl t_race_runners_facts)), (a_t_race_runners_splits, .inl (cI, 720, .inl t_race_runners_splits)), (a_t_race_way_places, .inl (cI, 12, .inl t_race_way_places)), (a_t_text, .inr (7, [.ref a_t_text_bytes, .int t_text_length])), (a_t_trail, .inr (8, [.ref a_t_trail_ticks, .ref a_t_trail_places, .int t_trail_mats, .int t_trail_least, .int t_trail_greatest])), (a_t_trail_places, .inl (cI, 12, .inl t_trail_places)), (a_t_trail_ticks, .inl (cI, 12, .inl t_trail_ticks)), (a_t_race_way, .inr (9, [.ref a_t_race_way_places, .ref a_t_race_way_bearings, .ref a_t_race_way_cuts, .ref a_t_race_way_deaths, .int t_race_way_mats]))] := hD
                obtain ⟨r29, e30, h⟩ := zz_b h
                refine zVi (As := [.int r27]) (rest := []) (C := RX9) (wr := [(a_t, .inr (10, [.ref a_t_race, .ref a_t_kept, .ref a_t_trail, .ref a_t_doubts, .ref a_t_foretelling, .ref a_t_text, .ref a_t_listing, .int t_isKept])), (a_t_doubts, .inr (0, [.ref a_t_doubts_codes, .int t_doubts_doubts])), (a_t_doubts_codes, .inl (cI, 2160, .inl t_doubts_codes)), (a_t_race, .inr (4, [.ref a_t_race_way, .ref a_t_race_guns, .ref a_t_race_runners])), (a_t_race_guns, .inr (2, [.ref a_t_race_guns_ticks])), (a_t_race_guns_ticks, .inl (cI, 6, .inl t_race_guns_ticks)), (a_t_race_runners, .inr (6, [.ref a_t_race_runners_facts, .ref a_t_race_runners_splits, .ref a_t_race_runners_torn, .ref a_t_race_runners_dropped, .ref a_t_race_runners_waved, .ref a_t_race_runners_struck, .ref a_t_race_runners_strikingOrder, .int t_race_runners_entered, .int t_race_runners_strikings])), (a_t_race_runners_facts, .inl (cI, 360, .inl t_race_runners_facts)), (a_t_race_runners_splits, .inl (cI, 720, .inl t_race_runners_splits)), (a_t_text, .inr (7, [.ref a_t_text_bytes, .int t_text_length])), (a_t_trail, .inr (8, [.ref a_t_trail_ticks, .ref a_t_trail_places, .int t_trail_mats, .int t_trail_least, .int t_trail_greatest])), (a_t_trail_places, .inl (cI, 12, .inl t_trail_places)), (a_t_trail_ticks, .inl (cI, 12, .inl t_trail_ticks))]) [14, 9] [0, 1, 2, 3, 4, 5, 6, 7, 8, 10, 11, 12, 13] 0 ⟨hx, hb, hml, hown, hts⟩ (mX9_placeAt l D cB cI cZ a_t_race_way a_t_race_way_places a_t_race_way_bearings a_t_race_way_cuts a_t_race_way_deaths t_race_way_mats t_race_way_places H.size r27 r29 e30) (cwV 1 hts gX10_count_X9_placeAt rfl rfl rfl (by decide +kernel) ⟨Nat.le_of_ble_eq_true rfl, Nat.le_of_ble_eq_true rfl⟩) hK hN hZ hP hD hS hA rfl rfl rfl rfl rfl rfl rfl rfl hl.1 rfl (lv_room (Nat.le_of_ble_eq_true rfl)) dX10_count_126 ⟨Nat.le_of_ble_eq_true rfl, Nat.le_of_ble_eq_true rfl⟩ (fun H locs hP hD hS => ?_)
                have hP : va_P D vwCl [(a_t, .inr (10, [.ref a_t_race, .ref a_t_kept, .ref a_t_trail, .ref a_t_doubts, .ref a_t_foretelling, .ref a_t_text, .ref a_t_listing, .int t_isKept])), (a_t_doubts, .inr (0, [.ref a_t_doubts_codes, .int t_doubts_doubts])), (a_t_doubts_codes, .inl (cI, 2160, .inl t_doubts_codes)), (a_t_race, .inr (4, [.ref a_t_race_way, .ref a_t_race_guns, .ref a_t_race_runners])), (a_t_race_guns, .inr (2, [.ref a_t_race_guns_ticks])), (a_t_race_guns_ticks, .inl (cI, 6, .inl t_race_guns_ticks)), (a_t_race_runners, .inr (6, [.ref a_t_race_runners_facts, .ref a_t_race_runners_splits, .ref a_t_race_runners_torn, .ref a_t_race_runners_dropped, .ref a_t_race_runners_waved, .ref a_t_race_runners_struck, .ref a_t_race_runners_strikingOrder, .int t_race_runners_entered, .int t_race_runners_strikings])), (a_t_race_runners_facts, .inl (cI, 360, .inl t_race_runners_facts)), (a_t_race_runners_splits, .inl (cI, 720, .inl t_race_runners_splits)), (a_t_text, .inr (7, [.ref a_t_text_bytes, .int t_text_length])), (a_t_trail, .inr (8, [.ref a_t_trail_ticks, .ref a_t_trail_places, .int t_trail_mats, .int t_trail_least, .int t_trail_greatest])), (a_t_trail_places, .inl (cI, 12, .inl t_trail_places)), (a_t_trail_ticks, .inl (cI, 12, .inl t_trail_ticks)), (a_t_race_way, .inr (9, [.ref a_t_race_way_places, .ref a_t_race_way_bearings, .ref a_t_race_way_cuts, .ref a_t_race_way_deaths, .int t_race_way_mats])), (a_t_race_way_places, .inl (cI, 12, .inl t_race_way_places))] H := hP
                have hD : va_D A [(a_t, .inr (10, [.ref a_t_race, .ref a_t_kept, .ref a_t_trail, .ref a_t_doubts, .ref a_t_foretelling, .ref a_t_text, .ref a_t_listing, .int t_isKept])), (a_t_doubts, .inr (0, [.ref a_t_doubts_codes, .int t_doubts_doubts])), (a_t_doubts_codes, .inl (cI, 2160, .inl t_doubts_codes)), (a_t_race, .inr (4, [.ref a_t_race_way, .ref a_t_race_guns, .ref a_t_race_runners])), (a_t_race_guns, .inr (2, [.ref a_t_race_guns_ticks])), (a_t_race_guns_ticks, .inl (cI, 6, .inl t_race_guns_ticks)), (a_t_race_runners, .inr (6, [.ref a_t_race_runners_facts, .ref a_t_race_runners_splits, .ref a_t_race_runners_torn, .ref a_t_race_runners_dropped, .ref a_t_race_runners_waved, .ref a_t_race_runners_struck, .ref a_t_race_runners_strikingOrder, .int t_race_runners_entered, .int t_race_runners_strikings])), (a_t_race_runners_facts, .inl (cI, 360, .inl t_race_runners_facts)), (a_t_race_runners_splits, .inl (cI, 720, .inl t_race_runners_splits)), (a_t_text, .inr (7, [.ref a_t_text_bytes, .int t_text_length])), (a_t_trail, .inr (8, [.ref a_t_trail_ticks, .ref a_t_trail_places, .int t_trail_mats, .int t_trail_least, .int t_trail_greatest])), (a_t_trail_places, .inl (cI, 12, .inl t_trail_places)), (a_t_trail_ticks, .inl (cI, 12, .inl t_trail_ticks)), (a_t_race_way, .inr (9, [.ref a_t_race_way_places, .ref a_t_race_way_bearings, .ref a_t_race_way_cuts, .ref a_t_race_way_deaths, .int t_race_way_mats])), (a_t_race_way_places, .inl (cI, 12, .inl t_race_way_places))] := hD
                obtain ⟨j0_, g_⟩ := Prod.mk.inj (Option.some.inj h)
                obtain ⟨j1_, g_⟩ := Prod.mk.inj g_
                obtain ⟨j2_, g_⟩ := Prod.mk.inj g_
                obtain ⟨j3_, g_⟩ := Prod.mk.inj g_
                obtain ⟨j4_, g_⟩ := Prod.mk.inj g_
                obtain ⟨j5_, g_⟩ := Prod.mk.inj g_
                obtain ⟨j6_, g_⟩ := Prod.mk.inj g_
                have j7_ := g_
                subst j0_
                subst j1_
                subst j2_
                subst j3_
                subst j4_
                subst j5_
                subst j6_
                subst j7_
                exact W.iret (v := r29) hx hb hr (fun t ht hW => ⟨⟨_, (), rfl, rfl, zPost.of hP hD hK ht hW [0, 1, 2, 3, 4, 5, 6, 7, 8, 13, 14, 9, 10, 11, 12] rfl rfl rfl⟩, hS.F ht⟩) hS.2.2 dX10_count_129
              · have h := zz_f h c26
                refine lv_tableOut (tgt := 130) hx hb dX10_count_1 (by have n0_ := lv_neT c1 (a := 0) rfl; have n1_ := lv_neT c4 (a := 1) rfl; have n2_ := lv_neT c7 (a := 2) rfl; have n3_ := lv_neT c17 (a := 3) rfl; have n4_ := lv_neT c20 (a := 4) rfl; have n5_ := lv_neT c23 (a := 5) rfl; have n6_ := lv_neT c26 (a := 6) rfl; omega) (by decide) ?_
                refine lv_iconst (v := (-1 : Int32)) hx hb dX10_count_130 rfl ?_
                obtain ⟨j0_, g_⟩ := Prod.mk.inj (Option.some.inj h)
                obtain ⟨j1_, g_⟩ := Prod.mk.inj g_
                obtain ⟨j2_, g_⟩ := Prod.mk.inj g_
                obtain ⟨j3_, g_⟩ := Prod.mk.inj g_
                obtain ⟨j4_, g_⟩ := Prod.mk.inj g_
                obtain ⟨j5_, g_⟩ := Prod.mk.inj g_
                obtain ⟨j6_, g_⟩ := Prod.mk.inj g_
                have j7_ := g_
                subst j0_
                subst j1_
                subst j2_
                subst j3_
                subst j4_
                subst j5_
                subst j6_
                subst j7_
                exact W.iret (v := (-1 : Int32)) hx hb hr (fun t ht hW => ⟨⟨_, (), rfl, rfl, zPost.of hP hD hK ht hW [0, 1, 2, 3, 4, 5, 6, 7, 8, 9, 10, 11, 12, 13, 14] rfl rfl rfl⟩, hS.F ht⟩) hS.2.2 dX10_count_131
/-! RunDesk.image -/
theorem dX10_image_0 : decode cX10_image 0 = .ok (.aload_n 0, 1) := by decide +kernel
theorem dX10_image_1 : decode cX10_image 1 = .ok (.getfield 16, 3) := by decide +kernel
theorem dX10_image_4 : decode cX10_image 4 = .ok (.aload_n 0, 1) := by decide +kernel
theorem dX10_image_5 : decode cX10_image 5 = .ok (.getfield 10, 3) := by decide +kernel
theorem dX10_image_8 : decode cX10_image 8 = .ok (.invokevirtual 217, 3) := by decide +kernel
theorem dX10_image_11 : decode cX10_image 11 = .ok (.aload_n 0, 1) := by decide +kernel
theorem dX10_image_12 : decode cX10_image 12 = .ok (.iconst 1, 1) := by decide +kernel
theorem dX10_image_13 : decode cX10_image 13 = .ok (.putfield 221, 3) := by decide +kernel
theorem dX10_image_16 : decode cX10_image 16 = .ok (.return_, 1) := by decide +kernel
set_option maxRecDepth 20000 in
theorem ggX10_image_X4_copyFrom : GoodIn wsX10_image wsX4_copyFrom := goodIn_r _ [8, 9, 10, 11, 12, 13, 14, 15, 16, 17, 18, 19, 20, 21, 22, 23, 24, 25, 26, 27, 28, 29, 30, 31, 32, 33, 34, 35, 36, 37, 38, 39, 40, 41, 42, 43, 44, 45, 46, 47, 56, 57, 58, 59, 60, 61, 62, 63, 64, 65, 66, 67, 68, 69, 70, 71, 72, 73] (by decide +kernel) (by decide +kernel)
set_option maxRecDepth 20000 in
theorem gX10_image_X4_copyFrom : GoodIn wsX10_image (wsV RX10 217 RX4 yX4_copyFrom wsX4_copyFrom) := goodIn_app (goodIn_of _ (by decide +kernel)) ggX10_image_X4_copyFrom
def fX10_image (N : Nat) (t_isKept : Int32) (t_kept_guns_ticks : Nat → Int32) (t_kept_runners_entered : Int32) (t_kept_runners_strikings : Int32) (t_kept_runners_dropped : Nat → Int32) (t_kept_runners_facts : Nat → Int32) (t_kept_runners_splits : Nat → Int32) (t_kept_runners_strikingOrder : Nat → Int32) (t_kept_runners_struck : Nat → Int32) (t_kept_runners_torn : Nat → Int32) (t_kept_runners_waved : Nat → Int32) (t_kept_way_mats : Int32) (t_kept_way_bearings : Nat → Int32) (t_kept_way_cuts : Nat → Int32) (t_kept_way_deaths : Nat → Int32) (t_kept_way_places : Nat → Int32) (t_race_guns_ticks : Nat → Int32) (t_race_runners_entered : Int32) (t_race_runners_strikings : Int32) (t_race_runners_dropped : Nat → Int32) (t_race_runners_facts : Nat → Int32) (t_race_runners_splits : Nat → Int32) (t_race_runners_strikingOrder : Nat → Int32) (t_race_runners_struck : Nat → Int32) (t_race_runners_torn : Nat → Int32) (t_race_runners_waved : Nat → Int32) (t_race_way_mats : Int32) (t_race_way_bearings : Nat → Int32) (t_race_way_cuts : Nat → Int32) (t_race_way_deaths : Nat → Int32) (t_race_way_places : Nat → Int32) : Option (Int32 × (Nat → Int32) × Int32 × Int32 × (Nat → Int32) × (Nat → Int32) × (Nat → Int32) × (Nat → Int32) × (Nat → Int32) × (Nat → Int32) × (Nat → Int32) × Int32 × (Nat → Int32) × (Nat → Int32) × (Nat → Int32) × (Nat → Int32)) := ((fX4_copyFrom N t_kept_guns_ticks t_kept_runners_entered t_kept_runners_strikings t_kept_runners_dropped t_kept_runners_facts t_kept_runners_splits t_kept_runners_strikingOrder t_kept_runners_struck t_kept_runners_torn t_kept_runners_waved t_kept_way_mats t_kept_way_bearings t_kept_way_cuts t_kept_way_deaths t_kept_way_places t_race_guns_ticks t_race_runners_entered t_race_runners_strikings t_race_runners_dropped t_race_runners_facts t_race_runners_splits t_race_runners_strikingOrder t_race_runners_struck t_race_runners_torn t_race_runners_waved t_race_way_mats t_race_way_bearings t_race_way_cuts t_race_way_deaths t_race_way_places).bind (fun (t_kept_guns_ticks_r1, t_kept_runners_entered_r2, t_kept_runners_strikings_r3, t_kept_runners_dropped_r4, t_kept_runners_facts_r5, t_kept_runners_splits_r6, t_kept_runners_strikingOrder_r7, t_kept_runners_struck_r8, t_kept_runners_torn_r9, t_kept_runners_waved_r10, t_kept_way_mats_r11, t_kept_way_bearings_r12, t_kept_way_cuts_r13, t_kept_way_deaths_r14, t_kept_way_places_r15) => some ((1 : Int32), t_kept_guns_ticks_r1, t_kept_runners_entered_r2, t_kept_runners_strikings_r3, t_kept_runners_dropped_r4, t_kept_runners_facts_r5, t_kept_runners_splits_r6, t_kept_runners_strikingOrder_r7, t_kept_runners_struck_r8, t_kept_runners_torn_r9, t_kept_runners_waved_r10, t_kept_way_mats_r11, t_kept_way_bearings_r12, t_kept_way_cuts_r13, t_kept_way_deaths_r14, t_kept_way_places_r15)))
theorem kX10_image_0 : (.fieldLink RX10 16 "RunDesk" "kept" "LRunDesk$Race;" : Cond) ∈ wsX10_image := List.mem_of_getElem? (i := 1) (by decide +kernel)
theorem qX10_image_X10 : ∀ w ∈ wsX100, w ∈ wsX10_image := fun _ h => List.mem_cons_of_mem _ (List.mem_append_left _ (List.mem_append_left _ (List.mem_append_left _ (List.mem_append_left _ (List.mem_append_right _ (h))))))
theorem kX10_image_2 : (.fieldLink RX10 10 "RunDesk" "race" "LRunDesk$Race;" : Cond) ∈ wsX10_image := List.mem_of_getElem? (i := 2) (by decide +kernel)
theorem kX10_image_3 : (.fieldLink RX10 221 "RunDesk" "isKept" "Z" : Cond) ∈ wsX10_image := List.mem_of_getElem? (i := 3) (by decide +kernel)
set_option maxHeartbeats 4000000 in
set_option maxRecDepth 100000 in
theorem mX10_image (l : Launch) (D : va_G) (cB cI cZ : ClassId) (a_t : Nat) (a_t_race : Nat) (a_t_kept : Nat) (a_t_trail : Nat) (a_t_doubts : Nat) (a_t_foretelling : Nat) (a_t_text : Nat) (a_t_listing : Nat) (a_t_kept_way : Nat) (a_t_kept_guns : Nat) (a_t_kept_runners : Nat) (a_t_kept_guns_ticks : Nat) (a_t_kept_runners_facts : Nat) (a_t_kept_runners_splits : Nat) (a_t_kept_runners_torn : Nat) (a_t_kept_runners_dropped : Nat) (a_t_kept_runners_waved : Nat) (a_t_kept_runners_struck : Nat) (a_t_kept_runners_strikingOrder : Nat) (a_t_kept_way_places : Nat) (a_t_kept_way_bearings : Nat) (a_t_kept_way_cuts : Nat) (a_t_kept_way_deaths : Nat) (a_t_race_way : Nat) (a_t_race_guns : Nat) (a_t_race_runners : Nat) (a_t_race_guns_ticks : Nat) (a_t_race_runners_facts : Nat) (a_t_race_runners_splits : Nat) (a_t_race_runners_torn : Nat) (a_t_race_runners_dropped : Nat) (a_t_race_runners_waved : Nat) (a_t_race_runners_struck : Nat) (a_t_race_runners_strikingOrder : Nat) (a_t_race_way_places : Nat) (a_t_race_way_bearings : Nat) (a_t_race_way_cuts : Nat) (a_t_race_way_deaths : Nat) (t_isKept : Int32) (t_kept_guns_ticks : Nat → Int32) (t_kept_runners_entered : Int32) (t_kept_runners_strikings : Int32) (t_kept_runners_dropped : Nat → Int32) (t_kept_runners_facts : Nat → Int32) (t_kept_runners_splits : Nat → Int32) (t_kept_runners_strikingOrder : Nat → Int32) (t_kept_runners_struck : Nat → Int32) (t_kept_runners_torn : Nat → Int32) (t_kept_runners_waved : Nat → Int32) (t_kept_way_mats : Int32) (t_kept_way_bearings : Nat → Int32) (t_kept_way_cuts : Nat → Int32) (t_kept_way_deaths : Nat → Int32) (t_kept_way_places : Nat → Int32) (t_race_guns_ticks : Nat → Int32) (t_race_runners_entered : Int32) (t_race_runners_strikings : Int32) (t_race_runners_dropped : Nat → Int32) (t_race_runners_facts : Nat → Int32) (t_race_runners_splits : Nat → Int32) (t_race_runners_strikingOrder : Nat → Int32) (t_race_runners_struck : Nat → Int32) (t_race_runners_torn : Nat → Int32) (t_race_runners_waved : Nat → Int32) (t_race_way_mats : Int32) (t_race_way_bearings : Nat → Int32) (t_race_way_cuts : Nat → Int32) (t_race_way_deaths : Nat → Int32) (t_race_way_places : Nat → Int32) (sz : Nat) (N : Nat) (t_isKept' : Int32) (t_kept_guns_ticks' : Nat → Int32) (t_kept_runners_entered' : Int32) (t_kept_runners_strikings' : Int32) (t_kept_runners_dropped' : Nat → Int32) (t_kept_runners_facts' : Nat → Int32) (t_kept_runners_splits' : Nat → Int32) (t_kept_runners_strikingOrder' : Nat → Int32) (t_kept_runners_struck' : Nat → Int32) (t_kept_runners_torn' : Nat → Int32) (t_kept_runners_waved' : Nat → Int32) (t_kept_way_mats' : Int32) (t_kept_way_bearings' : Nat → Int32) (t_kept_way_cuts' : Nat → Int32) (t_kept_way_deaths' : Nat → Int32) (t_kept_way_places' : Nat → Int32) (h : fX10_image N t_isKept t_kept_guns_ticks t_kept_runners_entered t_kept_runners_strikings t_kept_runners_dropped t_kept_runners_facts t_kept_runners_splits t_kept_runners_strikingOrder t_kept_runners_struck t_kept_runners_torn t_kept_runners_waved t_kept_way_mats t_kept_way_bearings t_kept_way_cuts t_kept_way_deaths t_kept_way_places t_race_guns_ticks t_race_runners_entered t_race_runners_strikings t_race_runners_dropped t_race_runners_facts t_race_runners_splits t_race_runners_strikingOrder t_race_runners_struck t_race_runners_torn t_race_runners_waved t_race_way_mats t_race_way_bearings t_race_way_cuts t_race_way_deaths t_race_way_places = some (t_isKept', t_kept_guns_ticks', t_kept_runners_entered', t_kept_runners_strikings', t_kept_runners_dropped', t_kept_runners_facts', t_kept_runners_splits', t_kept_runners_strikingOrder', t_kept_runners_struck', t_kept_runners_torn', t_kept_runners_waved', t_kept_way_mats', t_kept_way_bearings', t_kept_way_cuts', t_kept_way_deaths', t_kept_way_places')) : Met l yX10_image wsX10_image ({ frames := 3, cells := 0, slots := 0, locals := 103 } : Room) (va_Pc [.ref a_t] (zPre D (zT cB cI cZ) [(a_t, .inr (10, [.ref a_t_race, .ref a_t_kept, .ref a_t_trail, .ref a_t_doubts, .ref a_t_foretelling, .ref a_t_text, .ref a_t_listing, .int t_isKept])), (a_t_kept, .inr (4, [.ref a_t_kept_way, .ref a_t_kept_guns, .ref a_t_kept_runners])), (a_t_kept_guns, .inr (2, [.ref a_t_kept_guns_ticks])), (a_t_kept_guns_ticks, .inl (cI, 6, .inl t_kept_guns_ticks)), (a_t_kept_runners, .inr (6, [.ref a_t_kept_runners_facts, .ref a_t_kept_runners_splits, .ref a_t_kept_runners_torn, .ref a_t_kept_runners_dropped, .ref a_t_kept_runners_waved, .ref a_t_kept_runners_struck, .ref a_t_kept_runners_strikingOrder, .int t_kept_runners_entered, .int t_kept_runners_strikings])), (a_t_kept_runners_dropped, .inl (cZ, 60, .inl t_kept_runners_dropped)), (a_t_kept_runners_facts, .inl (cI, 360, .inl t_kept_runners_facts)), (a_t_kept_runners_splits, .inl (cI, 720, .inl t_kept_runners_splits)), (a_t_kept_runners_strikingOrder, .inl (cI, 60, .inl t_kept_runners_strikingOrder)), (a_t_kept_runners_struck, .inl (cZ, 60, .inl t_kept_runners_struck)), (a_t_kept_runners_torn, .inl (cI, 60, .inl t_kept_runners_torn)), (a_t_kept_runners_waved, .inl (cZ, 60, .inl t_kept_runners_waved)), (a_t_kept_way, .inr (9, [.ref a_t_kept_way_places, .ref a_t_kept_way_bearings, .ref a_t_kept_way_cuts, .ref a_t_kept_way_deaths, .int t_kept_way_mats])), (a_t_kept_way_bearings, .inl (cI, 12, .inl t_kept_way_bearings)), (a_t_kept_way_cuts, .inl (cI, 12, .inl t_kept_way_cuts)), (a_t_kept_way_deaths, .inl (cZ, 12, .inl t_kept_way_deaths)), (a_t_kept_way_places, .inl (cI, 12, .inl t_kept_way_places)), (a_t_race, .inr (4, [.ref a_t_race_way, .ref a_t_race_guns, .ref a_t_race_runners])), (a_t_race_guns, .inr (2, [.ref a_t_race_guns_ticks])), (a_t_race_guns_ticks, .inl (cI, 6, .inl t_race_guns_ticks)), (a_t_race_runners, .inr (6, [.ref a_t_race_runners_facts, .ref a_t_race_runners_splits, .ref a_t_race_runners_torn, .ref a_t_race_runners_dropped, .ref a_t_race_runners_waved, .ref a_t_race_runners_struck, .ref a_t_race_runners_strikingOrder, .int t_race_runners_entered, .int t_race_runners_strikings])), (a_t_race_runners_dropped, .inl (cZ, 60, .inl t_race_runners_dropped)), (a_t_race_runners_facts, .inl (cI, 360, .inl t_race_runners_facts)), (a_t_race_runners_splits, .inl (cI, 720, .inl t_race_runners_splits)), (a_t_race_runners_strikingOrder, .inl (cI, 60, .inl t_race_runners_strikingOrder)), (a_t_race_runners_struck, .inl (cZ, 60, .inl t_race_runners_struck)), (a_t_race_runners_torn, .inl (cI, 60, .inl t_race_runners_torn)), (a_t_race_runners_waved, .inl (cZ, 60, .inl t_race_runners_waved)), (a_t_race_way, .inr (9, [.ref a_t_race_way_places, .ref a_t_race_way_bearings, .ref a_t_race_way_cuts, .ref a_t_race_way_deaths, .int t_race_way_mats])), (a_t_race_way_bearings, .inl (cI, 12, .inl t_race_way_bearings)), (a_t_race_way_cuts, .inl (cI, 12, .inl t_race_way_cuts)), (a_t_race_way_deaths, .inl (cZ, 12, .inl t_race_way_deaths)), (a_t_race_way_places, .inl (cI, 12, .inl t_race_way_places))] sz)) (zQv D (zT cB cI cZ) [(a_t, .inr (10, [.ref a_t_race, .ref a_t_kept, .ref a_t_trail, .ref a_t_doubts, .ref a_t_foretelling, .ref a_t_text, .ref a_t_listing, .int t_isKept'])), (a_t_kept, .inr (4, [.ref a_t_kept_way, .ref a_t_kept_guns, .ref a_t_kept_runners])), (a_t_kept_guns, .inr (2, [.ref a_t_kept_guns_ticks])), (a_t_kept_guns_ticks, .inl (cI, 6, .inl t_kept_guns_ticks')), (a_t_kept_runners, .inr (6, [.ref a_t_kept_runners_facts, .ref a_t_kept_runners_splits, .ref a_t_kept_runners_torn, .ref a_t_kept_runners_dropped, .ref a_t_kept_runners_waved, .ref a_t_kept_runners_struck, .ref a_t_kept_runners_strikingOrder, .int t_kept_runners_entered', .int t_kept_runners_strikings'])), (a_t_kept_runners_dropped, .inl (cZ, 60, .inl t_kept_runners_dropped')), (a_t_kept_runners_facts, .inl (cI, 360, .inl t_kept_runners_facts')), (a_t_kept_runners_splits, .inl (cI, 720, .inl t_kept_runners_splits')), (a_t_kept_runners_strikingOrder, .inl (cI, 60, .inl t_kept_runners_strikingOrder')), (a_t_kept_runners_struck, .inl (cZ, 60, .inl t_kept_runners_struck')), (a_t_kept_runners_torn, .inl (cI, 60, .inl t_kept_runners_torn')), (a_t_kept_runners_waved, .inl (cZ, 60, .inl t_kept_runners_waved')), (a_t_kept_way, .inr (9, [.ref a_t_kept_way_places, .ref a_t_kept_way_bearings, .ref a_t_kept_way_cuts, .ref a_t_kept_way_deaths, .int t_kept_way_mats'])), (a_t_kept_way_bearings, .inl (cI, 12, .inl t_kept_way_bearings')), (a_t_kept_way_cuts, .inl (cI, 12, .inl t_kept_way_cuts')), (a_t_kept_way_deaths, .inl (cZ, 12, .inl t_kept_way_deaths')), (a_t_kept_way_places, .inl (cI, 12, .inl t_kept_way_places')), (a_t_race, .inr (4, [.ref a_t_race_way, .ref a_t_race_guns, .ref a_t_race_runners])), (a_t_race_guns, .inr (2, [.ref a_t_race_guns_ticks])), (a_t_race_guns_ticks, .inl (cI, 6, .inl t_race_guns_ticks)), (a_t_race_runners, .inr (6, [.ref a_t_race_runners_facts, .ref a_t_race_runners_splits, .ref a_t_race_runners_torn, .ref a_t_race_runners_dropped, .ref a_t_race_runners_waved, .ref a_t_race_runners_struck, .ref a_t_race_runners_strikingOrder, .int t_race_runners_entered, .int t_race_runners_strikings])), (a_t_race_runners_dropped, .inl (cZ, 60, .inl t_race_runners_dropped)), (a_t_race_runners_facts, .inl (cI, 360, .inl t_race_runners_facts)), (a_t_race_runners_splits, .inl (cI, 720, .inl t_race_runners_splits)), (a_t_race_runners_strikingOrder, .inl (cI, 60, .inl t_race_runners_strikingOrder)), (a_t_race_runners_struck, .inl (cZ, 60, .inl t_race_runners_struck)), (a_t_race_runners_torn, .inl (cI, 60, .inl t_race_runners_torn)), (a_t_race_runners_waved, .inl (cZ, 60, .inl t_race_runners_waved)), (a_t_race_way, .inr (9, [.ref a_t_race_way_places, .ref a_t_race_way_bearings, .ref a_t_race_way_cuts, .ref a_t_race_way_deaths, .int t_race_way_mats])), (a_t_race_way_bearings, .inl (cI, 12, .inl t_race_way_bearings)), (a_t_race_way_cuts, .inl (cI, 12, .inl t_race_way_cuts)), (a_t_race_way_deaths, .inl (cZ, 12, .inl t_race_way_deaths)), (a_t_race_way_places, .inl (cI, 12, .inl t_race_way_places))] (va_A [(a_t, .inr (10, [.ref a_t_race, .ref a_t_kept, .ref a_t_trail, .ref a_t_doubts, .ref a_t_foretelling, .ref a_t_text, .ref a_t_listing, .int t_isKept])), (a_t_kept, .inr (4, [.ref a_t_kept_way, .ref a_t_kept_guns, .ref a_t_kept_runners])), (a_t_kept_guns, .inr (2, [.ref a_t_kept_guns_ticks])), (a_t_kept_guns_ticks, .inl (cI, 6, .inl t_kept_guns_ticks)), (a_t_kept_runners, .inr (6, [.ref a_t_kept_runners_facts, .ref a_t_kept_runners_splits, .ref a_t_kept_runners_torn, .ref a_t_kept_runners_dropped, .ref a_t_kept_runners_waved, .ref a_t_kept_runners_struck, .ref a_t_kept_runners_strikingOrder, .int t_kept_runners_entered, .int t_kept_runners_strikings])), (a_t_kept_runners_dropped, .inl (cZ, 60, .inl t_kept_runners_dropped)), (a_t_kept_runners_facts, .inl (cI, 360, .inl t_kept_runners_facts)), (a_t_kept_runners_splits, .inl (cI, 720, .inl t_kept_runners_splits)), (a_t_kept_runners_strikingOrder, .inl (cI, 60, .inl t_kept_runners_strikingOrder)), (a_t_kept_runners_struck, .inl (cZ, 60, .inl t_kept_runners_struck)), (a_t_kept_runners_torn, .inl (cI, 60, .inl t_kept_runners_torn)), (a_t_kept_runners_waved, .inl (cZ, 60, .inl t_kept_runners_waved)), (a_t_kept_way, .inr (9, [.ref a_t_kept_way_places, .ref a_t_kept_way_bearings, .ref a_t_kept_way_cuts, .ref a_t_kept_way_deaths, .int t_kept_way_mats])), (a_t_kept_way_bearings, .inl (cI, 12, .inl t_kept_way_bearings)), (a_t_kept_way_cuts, .inl (cI, 12, .inl t_kept_way_cuts)), (a_t_kept_way_deaths, .inl (cZ, 12, .inl t_kept_way_deaths)), (a_t_kept_way_places, .inl (cI, 12, .inl t_kept_way_places)), (a_t_race, .inr (4, [.ref a_t_race_way, .ref a_t_race_guns, .ref a_t_race_runners])), (a_t_race_guns, .inr (2, [.ref a_t_race_guns_ticks])), (a_t_race_guns_ticks, .inl (cI, 6, .inl t_race_guns_ticks)), (a_t_race_runners, .inr (6, [.ref a_t_race_runners_facts, .ref a_t_race_runners_splits, .ref a_t_race_runners_torn, .ref a_t_race_runners_dropped, .ref a_t_race_runners_waved, .ref a_t_race_runners_struck, .ref a_t_race_runners_strikingOrder, .int t_race_runners_entered, .int t_race_runners_strikings])), (a_t_race_runners_dropped, .inl (cZ, 60, .inl t_race_runners_dropped)), (a_t_race_runners_facts, .inl (cI, 360, .inl t_race_runners_facts)), (a_t_race_runners_splits, .inl (cI, 720, .inl t_race_runners_splits)), (a_t_race_runners_strikingOrder, .inl (cI, 60, .inl t_race_runners_strikingOrder)), (a_t_race_runners_struck, .inl (cZ, 60, .inl t_race_runners_struck)), (a_t_race_runners_torn, .inl (cI, 60, .inl t_race_runners_torn)), (a_t_race_runners_waved, .inl (cZ, 60, .inl t_race_runners_waved)), (a_t_race_way, .inr (9, [.ref a_t_race_way_places, .ref a_t_race_way_bearings, .ref a_t_race_way_cuts, .ref a_t_race_way_deaths, .int t_race_way_mats])), (a_t_race_way_bearings, .inl (cI, 12, .inl t_race_way_bearings)), (a_t_race_way_cuts, .inl (cI, 12, .inl t_race_way_cuts)), (a_t_race_way_deaths, .inl (cZ, 12, .inl t_race_way_deaths)), (a_t_race_way_places, .inl (cI, 12, .inl t_race_way_places))] sz)) 0 0 (va_A [(a_t, .inr (10, [.ref a_t_race, .ref a_t_kept, .ref a_t_trail, .ref a_t_doubts, .ref a_t_foretelling, .ref a_t_text, .ref a_t_listing, .int t_isKept])), (a_t_kept, .inr (4, [.ref a_t_kept_way, .ref a_t_kept_guns, .ref a_t_kept_runners])), (a_t_kept_guns, .inr (2, [.ref a_t_kept_guns_ticks])), (a_t_kept_guns_ticks, .inl (cI, 6, .inl t_kept_guns_ticks)), (a_t_kept_runners, .inr (6, [.ref a_t_kept_runners_facts, .ref a_t_kept_runners_splits, .ref a_t_kept_runners_torn, .ref a_t_kept_runners_dropped, .ref a_t_kept_runners_waved, .ref a_t_kept_runners_struck, .ref a_t_kept_runners_strikingOrder, .int t_kept_runners_entered, .int t_kept_runners_strikings])), (a_t_kept_runners_dropped, .inl (cZ, 60, .inl t_kept_runners_dropped)), (a_t_kept_runners_facts, .inl (cI, 360, .inl t_kept_runners_facts)), (a_t_kept_runners_splits, .inl (cI, 720, .inl t_kept_runners_splits)), (a_t_kept_runners_strikingOrder, .inl (cI, 60, .inl t_kept_runners_strikingOrder)), (a_t_kept_runners_struck, .inl (cZ, 60, .inl t_kept_runners_struck)), (a_t_kept_runners_torn, .inl (cI, 60, .inl t_kept_runners_torn)), (a_t_kept_runners_waved, .inl (cZ, 60, .inl t_kept_runners_waved)), (a_t_kept_way, .inr (9, [.ref a_t_kept_way_places, .ref a_t_kept_way_bearings, .ref a_t_kept_way_cuts, .ref a_t_kept_way_deaths, .int t_kept_way_mats])), (a_t_kept_way_bearings, .inl (cI, 12, .inl t_kept_way_bearings)), (a_t_kept_way_cuts, .inl (cI, 12, .inl t_kept_way_cuts)), (a_t_kept_way_deaths, .inl (cZ, 12, .inl t_kept_way_deaths)), (a_t_kept_way_places, .inl (cI, 12, .inl t_kept_way_places)), (a_t_race, .inr (4, [.ref a_t_race_way, .ref a_t_race_guns, .ref a_t_race_runners])), (a_t_race_guns, .inr (2, [.ref a_t_race_guns_ticks])), (a_t_race_guns_ticks, .inl (cI, 6, .inl t_race_guns_ticks)), (a_t_race_runners, .inr (6, [.ref a_t_race_runners_facts, .ref a_t_race_runners_splits, .ref a_t_race_runners_torn, .ref a_t_race_runners_dropped, .ref a_t_race_runners_waved, .ref a_t_race_runners_struck, .ref a_t_race_runners_strikingOrder, .int t_race_runners_entered, .int t_race_runners_strikings])), (a_t_race_runners_dropped, .inl (cZ, 60, .inl t_race_runners_dropped)), (a_t_race_runners_facts, .inl (cI, 360, .inl t_race_runners_facts)), (a_t_race_runners_splits, .inl (cI, 720, .inl t_race_runners_splits)), (a_t_race_runners_strikingOrder, .inl (cI, 60, .inl t_race_runners_strikingOrder)), (a_t_race_runners_struck, .inl (cZ, 60, .inl t_race_runners_struck)), (a_t_race_runners_torn, .inl (cI, 60, .inl t_race_runners_torn)), (a_t_race_runners_waved, .inl (cZ, 60, .inl t_race_runners_waved)), (a_t_race_way, .inr (9, [.ref a_t_race_way_places, .ref a_t_race_way_bearings, .ref a_t_race_way_cuts, .ref a_t_race_way_deaths, .int t_race_way_mats])), (a_t_race_way_bearings, .inl (cI, 12, .inl t_race_way_bearings)), (a_t_race_way_cuts, .inl (cI, 12, .inl t_race_way_cuts)), (a_t_race_way_deaths, .inl (cZ, 12, .inl t_race_way_deaths)), (a_t_race_way_places, .inl (cI, 12, .inl t_race_way_places))] sz) := by
  refine Met.ofW (cc := cX10_image) (maxL := 1) (ret := none) (by decide) rfl ?_
  intro p e s m args below meth c s₁ B hml hv
  obtain ⟨rfl, hsz, hP, hK, hN, hZ, hD0⟩ := hv
  have hx := B.exec
  have hb := B.bytes
  have hr := B.returns
  have hts := atoms_spec (ws := wsX10_image) B.pre
  have hown : s.vm.findClass RX10 = some m.cls := findClass_of_methodNamed B.named
  have hlocks := B.notSynchronized
  subst hsz
  have hD := hD0.self (sz := s.heap.size)
  generalize hAe : va_A [(a_t, .inr (10, [.ref a_t_race, .ref a_t_kept, .ref a_t_trail, .ref a_t_doubts, .ref a_t_foretelling, .ref a_t_text, .ref a_t_listing, .int t_isKept])), (a_t_kept, .inr (4, [.ref a_t_kept_way, .ref a_t_kept_guns, .ref a_t_kept_runners])), (a_t_kept_guns, .inr (2, [.ref a_t_kept_guns_ticks])), (a_t_kept_guns_ticks, .inl (cI, 6, .inl t_kept_guns_ticks)), (a_t_kept_runners, .inr (6, [.ref a_t_kept_runners_facts, .ref a_t_kept_runners_splits, .ref a_t_kept_runners_torn, .ref a_t_kept_runners_dropped, .ref a_t_kept_runners_waved, .ref a_t_kept_runners_struck, .ref a_t_kept_runners_strikingOrder, .int t_kept_runners_entered, .int t_kept_runners_strikings])), (a_t_kept_runners_dropped, .inl (cZ, 60, .inl t_kept_runners_dropped)), (a_t_kept_runners_facts, .inl (cI, 360, .inl t_kept_runners_facts)), (a_t_kept_runners_splits, .inl (cI, 720, .inl t_kept_runners_splits)), (a_t_kept_runners_strikingOrder, .inl (cI, 60, .inl t_kept_runners_strikingOrder)), (a_t_kept_runners_struck, .inl (cZ, 60, .inl t_kept_runners_struck)), (a_t_kept_runners_torn, .inl (cI, 60, .inl t_kept_runners_torn)), (a_t_kept_runners_waved, .inl (cZ, 60, .inl t_kept_runners_waved)), (a_t_kept_way, .inr (9, [.ref a_t_kept_way_places, .ref a_t_kept_way_bearings, .ref a_t_kept_way_cuts, .ref a_t_kept_way_deaths, .int t_kept_way_mats])), (a_t_kept_way_bearings, .inl (cI, 12, .inl t_kept_way_bearings)), (a_t_kept_way_cuts, .inl (cI, 12, .inl t_kept_way_cuts)), (a_t_kept_way_deaths, .inl (cZ, 12, .inl t_kept_way_deaths)), (a_t_kept_way_places, .inl (cI, 12, .inl t_kept_way_places)), (a_t_race, .inr (4, [.ref a_t_race_way, .ref a_t_race_guns, .ref a_t_race_runners])), (a_t_race_guns, .inr (2, [.ref a_t_race_guns_ticks])), (a_t_race_guns_ticks, .inl (cI, 6, .inl t_race_guns_ticks)), (a_t_race_runners, .inr (6, [.ref a_t_race_runners_facts, .ref a_t_race_runners_splits, .ref a_t_race_runners_torn, .ref a_t_race_runners_dropped, .ref a_t_race_runners_waved, .ref a_t_race_runners_struck, .ref a_t_race_runners_strikingOrder, .int t_race_runners_entered, .int t_race_runners_strikings])), (a_t_race_runners_dropped, .inl (cZ, 60, .inl t_race_runners_dropped)), (a_t_race_runners_facts, .inl (cI, 360, .inl t_race_runners_facts)), (a_t_race_runners_splits, .inl (cI, 720, .inl t_race_runners_splits)), (a_t_race_runners_strikingOrder, .inl (cI, 60, .inl t_race_runners_strikingOrder)), (a_t_race_runners_struck, .inl (cZ, 60, .inl t_race_runners_struck)), (a_t_race_runners_torn, .inl (cI, 60, .inl t_race_runners_torn)), (a_t_race_runners_waved, .inl (cZ, 60, .inl t_race_runners_waved)), (a_t_race_way, .inr (9, [.ref a_t_race_way_places, .ref a_t_race_way_bearings, .ref a_t_race_way_cuts, .ref a_t_race_way_deaths, .int t_race_way_mats])), (a_t_race_way_bearings, .inl (cI, 12, .inl t_race_way_bearings)), (a_t_race_way_cuts, .inl (cI, 12, .inl t_race_way_cuts)), (a_t_race_way_deaths, .inl (cZ, 12, .inl t_race_way_deaths)), (a_t_race_way_places, .inl (cI, 12, .inl t_race_way_places))] s.heap.size = A at hD hZ ⊢
  have hA : ∀ q : Nat, s.heap.size ≤ q → A q := fun q h => by rw [← hAe]; exact Or.inr h
  have hS : va_S A s.heap s.heap [] := va_S.rf
  have hl := lv_entry ([.ref a_t]) (n := 1) (Nat.le_of_ble_eq_true rfl)
  rw [lg_entry_eq]
  generalize (lg_sl ([.ref a_t]) ++ List.replicate (1 - (lg_sl ([.ref a_t])).length) Slot.unset).toArray = ls at hl ⊢
  have hl : lv_has ls 1 [(0, .ref a_t)] := hl
  unfold fX10_image at h
  refine lv_aload_n hx hb dX10_image_0 rfl (lv_at hl 0 rfl) ?_
  refine va_get (D := D) (ci := 10) (C := RX10) (T := TX10) (N := 8) hx hb hts qX10_image_X10 hown hK hP 0 rfl rfl 1 (by decide) (hts _ kX10_image_0) (fun _ h9 => h9) rfl dX10_image_1 ?_
  refine lv_aload_n hx hb dX10_image_4 rfl (lv_at hl 0 rfl) ?_
  refine va_get (D := D) (ci := 10) (C := RX10) (T := TX10) (N := 8) hx hb hts qX10_image_X10 hown hK hP 0 rfl rfl 0 (by decide) (hts _ kX10_image_2) (fun _ h9 => h9) rfl dX10_image_5 ?_
  obtain ⟨⟨t_kept_guns_ticks_r1, t_kept_runners_entered_r2, t_kept_runners_strikings_r3, t_kept_runners_dropped_r4, t_kept_runners_facts_r5, t_kept_runners_splits_r6, t_kept_runners_strikingOrder_r7, t_kept_runners_struck_r8, t_kept_runners_torn_r9, t_kept_runners_waved_r10, t_kept_way_mats_r11, t_kept_way_bearings_r12, t_kept_way_cuts_r13, t_kept_way_deaths_r14, t_kept_way_places_r15⟩, e16, h⟩ := zz_b h
  dsimp only at h
  refine zVv (As := [.ref a_t_race]) (rest := []) (C := RX4) (wr := [(a_t, .inr (10, [.ref a_t_race, .ref a_t_kept, .ref a_t_trail, .ref a_t_doubts, .ref a_t_foretelling, .ref a_t_text, .ref a_t_listing, .int t_isKept]))]) [1, 2, 3, 4, 5, 6, 7, 8, 9, 10, 11, 12, 13, 14, 15, 16, 17, 18, 19, 20, 21, 22, 23, 24, 25, 26, 27, 28, 29, 30, 31, 32] [0] 0 ⟨hx, hb, hml, hown, hts⟩ (mX4_copyFrom l D cB cI cZ a_t_kept a_t_race a_t_kept_way a_t_kept_guns a_t_kept_runners a_t_kept_guns_ticks a_t_kept_runners_facts a_t_kept_runners_splits a_t_kept_runners_torn a_t_kept_runners_dropped a_t_kept_runners_waved a_t_kept_runners_struck a_t_kept_runners_strikingOrder a_t_kept_way_places a_t_kept_way_bearings a_t_kept_way_cuts a_t_kept_way_deaths a_t_race_way a_t_race_guns a_t_race_runners a_t_race_guns_ticks a_t_race_runners_facts a_t_race_runners_splits a_t_race_runners_torn a_t_race_runners_dropped a_t_race_runners_waved a_t_race_runners_struck a_t_race_runners_strikingOrder a_t_race_way_places a_t_race_way_bearings a_t_race_way_cuts a_t_race_way_deaths t_kept_guns_ticks t_kept_runners_entered t_kept_runners_strikings t_kept_runners_dropped t_kept_runners_facts t_kept_runners_splits t_kept_runners_strikingOrder t_kept_runners_struck t_kept_runners_torn t_kept_runners_waved t_kept_way_mats t_kept_way_bearings t_kept_way_cuts t_kept_way_deaths t_kept_way_places t_race_guns_ticks t_race_runners_entered t_race_runners_strikings t_race_runners_dropped t_race_runners_facts t_race_runners_splits t_race_runners_strikingOrder t_race_runners_struck t_race_runners_torn t_race_runners_waved t_race_way_mats t_race_way_bearings t_race_way_cuts t_race_way_deaths t_race_way_places s.heap.size N t_kept_guns_ticks_r1 t_kept_runners_entered_r2 t_kept_runners_strikings_r3 t_kept_runners_dropped_r4 t_kept_runners_facts_r5 t_kept_runners_splits_r6 t_kept_runners_strikingOrder_r7 t_kept_runners_struck_r8 t_kept_runners_torn_r9 t_kept_runners_waved_r10 t_kept_way_mats_r11 t_kept_way_bearings_r12 t_kept_way_cuts_r13 t_kept_way_deaths_r14 t_kept_way_places_r15 e16) (cwV 1 hts gX10_image_X4_copyFrom rfl rfl rfl (by decide +kernel) ⟨Nat.le_of_ble_eq_true rfl, Nat.le_of_ble_eq_true rfl⟩) hK hN hZ hP hD hS hA rfl rfl rfl rfl rfl rfl rfl rfl hl.1 rfl (lv_room (Nat.le_of_ble_eq_true rfl)) dX10_image_8 ⟨Nat.le_of_ble_eq_true rfl, Nat.le_of_ble_eq_true rfl⟩ (fun H locs hP hD hS => ?_)
  have hP : va_P D vwCl [(a_t, .inr (10, [.ref a_t_race, .ref a_t_kept, .ref a_t_trail, .ref a_t_doubts, .ref a_t_foretelling, .ref a_t_text, .ref a_t_listing, .int t_isKept])), (a_t_kept, .inr (4, [.ref a_t_kept_way, .ref a_t_kept_guns, .ref a_t_kept_runners])), (a_t_kept_guns, .inr (2, [.ref a_t_kept_guns_ticks])), (a_t_kept_guns_ticks, .inl (cI, 6, .inl t_kept_guns_ticks_r1)), (a_t_kept_runners, .inr (6, [.ref a_t_kept_runners_facts, .ref a_t_kept_runners_splits, .ref a_t_kept_runners_torn, .ref a_t_kept_runners_dropped, .ref a_t_kept_runners_waved, .ref a_t_kept_runners_struck, .ref a_t_kept_runners_strikingOrder, .int t_kept_runners_entered_r2, .int t_kept_runners_strikings_r3])), (a_t_kept_runners_dropped, .inl (cZ, 60, .inl t_kept_runners_dropped_r4)), (a_t_kept_runners_facts, .inl (cI, 360, .inl t_kept_runners_facts_r5)), (a_t_kept_runners_splits, .inl (cI, 720, .inl t_kept_runners_splits_r6)), (a_t_kept_runners_strikingOrder, .inl (cI, 60, .inl t_kept_runners_strikingOrder_r7)), (a_t_kept_runners_struck, .inl (cZ, 60, .inl t_kept_runners_struck_r8)), (a_t_kept_runners_torn, .inl (cI, 60, .inl t_kept_runners_torn_r9)), (a_t_kept_runners_waved, .inl (cZ, 60, .inl t_kept_runners_waved_r10)), (a_t_kept_way, .inr (9, [.ref a_t_kept_way_places, .ref a_t_kept_way_bearings, .ref a_t_kept_way_cuts, .ref a_t_kept_way_deaths, .int t_kept_way_mats_r11])), (a_t_kept_way_bearings, .inl (cI, 12, .inl t_kept_way_bearings_r12)), (a_t_kept_way_cuts, .inl (cI, 12, .inl t_kept_way_cuts_r13)), (a_t_kept_way_deaths, .inl (cZ, 12, .inl t_kept_way_deaths_r14)), (a_t_kept_way_places, .inl (cI, 12, .inl t_kept_way_places_r15)), (a_t_race, .inr (4, [.ref a_t_race_way, .ref a_t_race_guns, .ref a_t_race_runners])), (a_t_race_guns, .inr (2, [.ref a_t_race_guns_ticks])), (a_t_race_guns_ticks, .inl (cI, 6, .inl t_race_guns_ticks)), (a_t_race_runners, .inr (6, [.ref a_t_race_runners_facts, .ref a_t_race_runners_splits, .ref a_t_race_runners_torn, .ref a_t_race_runners_dropped, .ref a_t_race_runners_waved, .ref a_t_race_runners_struck, .ref a_t_race_runners_strikingOrder, .int t_race_runners_entered, .int t_race_runners_strikings])), (a_t_race_runners_dropped, .inl (cZ, 60, .inl t_race_runners_dropped)), (a_t_race_runners_facts, .inl (cI, 360, .inl t_race_runners_facts)), (a_t_race_runners_splits, .inl (cI, 720, .inl t_race_runners_splits)), (a_t_race_runners_strikingOrder, .inl (cI, 60, .inl t_race_runners_strikingOrder)), (a_t_race_runners_struck, .inl (cZ, 60, .inl t_race_runners_struck)), (a_t_race_runners_torn, .inl (cI, 60, .inl t_race_runners_torn)), (a_t_race_runners_waved, .inl (cZ, 60, .inl t_race_runners_waved)), (a_t_race_way, .inr (9, [.ref a_t_race_way_places, .ref a_t_race_way_bearings, .ref a_t_race_way_cuts, .ref a_t_race_way_deaths, .int t_race_way_mats])), (a_t_race_way_bearings, .inl (cI, 12, .inl t_race_way_bearings)), (a_t_race_way_cuts, .inl (cI, 12, .inl t_race_way_cuts)), (a_t_race_way_deaths, .inl (cZ, 12, .inl t_race_way_deaths)), (a_t_race_way_places, .inl (cI, 12, .inl t_race_way_places))] H := hP
  have hD : va_D A [(a_t, .inr (10, [.ref a_t_race, .ref a_t_kept, .ref a_t_trail, .ref a_t_doubts, .ref a_t_foretelling, .ref a_t_text, .ref a_t_listing, .int t_isKept])), (a_t_kept, .inr (4, [.ref a_t_kept_way, .ref a_t_kept_guns, .ref a_t_kept_runners])), (a_t_kept_guns, .inr (2, [.ref a_t_kept_guns_ticks])), (a_t_kept_guns_ticks, .inl (cI, 6, .inl t_kept_guns_ticks_r1)), (a_t_kept_runners, .inr (6, [.ref a_t_kept_runners_facts, .ref a_t_kept_runners_splits, .ref a_t_kept_runners_torn, .ref a_t_kept_runners_dropped, .ref a_t_kept_runners_waved, .ref a_t_kept_runners_struck, .ref a_t_kept_runners_strikingOrder, .int t_kept_runners_entered_r2, .int t_kept_runners_strikings_r3])), (a_t_kept_runners_dropped, .inl (cZ, 60, .inl t_kept_runners_dropped_r4)), (a_t_kept_runners_facts, .inl (cI, 360, .inl t_kept_runners_facts_r5)), (a_t_kept_runners_splits, .inl (cI, 720, .inl t_kept_runners_splits_r6)), (a_t_kept_runners_strikingOrder, .inl (cI, 60, .inl t_kept_runners_strikingOrder_r7)), (a_t_kept_runners_struck, .inl (cZ, 60, .inl t_kept_runners_struck_r8)), (a_t_kept_runners_torn, .inl (cI, 60, .inl t_kept_runners_torn_r9)), (a_t_kept_runners_waved, .inl (cZ, 60, .inl t_kept_runners_waved_r10)), (a_t_kept_way, .inr (9, [.ref a_t_kept_way_places, .ref a_t_kept_way_bearings, .ref a_t_kept_way_cuts, .ref a_t_kept_way_deaths, .int t_kept_way_mats_r11])), (a_t_kept_way_bearings, .inl (cI, 12, .inl t_kept_way_bearings_r12)), (a_t_kept_way_cuts, .inl (cI, 12, .inl t_kept_way_cuts_r13)), (a_t_kept_way_deaths, .inl (cZ, 12, .inl t_kept_way_deaths_r14)), (a_t_kept_way_places, .inl (cI, 12, .inl t_kept_way_places_r15)), (a_t_race, .inr (4, [.ref a_t_race_way, .ref a_t_race_guns, .ref a_t_race_runners])), (a_t_race_guns, .inr (2, [.ref a_t_race_guns_ticks])), (a_t_race_guns_ticks, .inl (cI, 6, .inl t_race_guns_ticks)), (a_t_race_runners, .inr (6, [.ref a_t_race_runners_facts, .ref a_t_race_runners_splits, .ref a_t_race_runners_torn, .ref a_t_race_runners_dropped, .ref a_t_race_runners_waved, .ref a_t_race_runners_struck, .ref a_t_race_runners_strikingOrder, .int t_race_runners_entered, .int t_race_runners_strikings])), (a_t_race_runners_dropped, .inl (cZ, 60, .inl t_race_runners_dropped)), (a_t_race_runners_facts, .inl (cI, 360, .inl t_race_runners_facts)), (a_t_race_runners_splits, .inl (cI, 720, .inl t_race_runners_splits)), (a_t_race_runners_strikingOrder, .inl (cI, 60, .inl t_race_runners_strikingOrder)), (a_t_race_runners_struck, .inl (cZ, 60, .inl t_race_runners_struck)), (a_t_race_runners_torn, .inl (cI, 60, .inl t_race_runners_torn)), (a_t_race_runners_waved, .inl (cZ, 60, .inl t_race_runners_waved)), (a_t_race_way, .inr (9, [.ref a_t_race_way_places, .ref a_t_race_way_bearings, .ref a_t_race_way_cuts, .ref a_t_race_way_deaths, .int t_race_way_mats])), (a_t_race_way_bearings, .inl (cI, 12, .inl t_race_way_bearings)), (a_t_race_way_cuts, .inl (cI, 12, .inl t_race_way_cuts)), (a_t_race_way_deaths, .inl (cZ, 12, .inl t_race_way_deaths)), (a_t_race_way_places, .inl (cI, 12, .inl t_race_way_places))] := hD
  refine lv_aload_n hx hb dX10_image_11 rfl (lv_at hl 0 rfl) ?_
  refine lv_iconst (v := (1 : Int32)) hx hb dX10_image_12 rfl ?_
  refine va_put (D := D) (ci := 10) (ty := .boolean) (C := RX10) (T := TX10) (N := 8) hx hb hts qX10_image_X10 tyX10 tyX10_ok nmX10 hown hK hP hD hS 0 rfl rfl 7 (by decide) (hts _ kX10_image_3) (fun _ h9 => h9) rfl (by decide +kernel) rfl (by first | rfl | exact zz_fit) (Nat.le_of_ble_eq_true rfl) dX10_image_13 (fun H locs hP hD hS => ?_)
  have hP : va_P D vwCl [(a_t, .inr (10, [.ref a_t_race, .ref a_t_kept, .ref a_t_trail, .ref a_t_doubts, .ref a_t_foretelling, .ref a_t_text, .ref a_t_listing, .int (1 : Int32)])), (a_t_kept, .inr (4, [.ref a_t_kept_way, .ref a_t_kept_guns, .ref a_t_kept_runners])), (a_t_kept_guns, .inr (2, [.ref a_t_kept_guns_ticks])), (a_t_kept_guns_ticks, .inl (cI, 6, .inl t_kept_guns_ticks_r1)), (a_t_kept_runners, .inr (6, [.ref a_t_kept_runners_facts, .ref a_t_kept_runners_splits, .ref a_t_kept_runners_torn, .ref a_t_kept_runners_dropped, .ref a_t_kept_runners_waved, .ref a_t_kept_runners_struck, .ref a_t_kept_runners_strikingOrder, .int t_kept_runners_entered_r2, .int t_kept_runners_strikings_r3])), (a_t_kept_runners_dropped, .inl (cZ, 60, .inl t_kept_runners_dropped_r4)), (a_t_kept_runners_facts, .inl (cI, 360, .inl t_kept_runners_facts_r5)), (a_t_kept_runners_splits, .inl (cI, 720, .inl t_kept_runners_splits_r6)), (a_t_kept_runners_strikingOrder, .inl (cI, 60, .inl t_kept_runners_strikingOrder_r7)), (a_t_kept_runners_struck, .inl (cZ, 60, .inl t_kept_runners_struck_r8)), (a_t_kept_runners_torn, .inl (cI, 60, .inl t_kept_runners_torn_r9)), (a_t_kept_runners_waved, .inl (cZ, 60, .inl t_kept_runners_waved_r10)), (a_t_kept_way, .inr (9, [.ref a_t_kept_way_places, .ref a_t_kept_way_bearings, .ref a_t_kept_way_cuts, .ref a_t_kept_way_deaths, .int t_kept_way_mats_r11])), (a_t_kept_way_bearings, .inl (cI, 12, .inl t_kept_way_bearings_r12)), (a_t_kept_way_cuts, .inl (cI, 12, .inl t_kept_way_cuts_r13)), (a_t_kept_way_deaths, .inl (cZ, 12, .inl t_kept_way_deaths_r14)), (a_t_kept_way_places, .inl (cI, 12, .inl t_kept_way_places_r15)), (a_t_race, .inr (4, [.ref a_t_race_way, .ref a_t_race_guns, .ref a_t_race_runners])), (a_t_race_guns, .inr (2, [.ref a_t_race_guns_ticks])), (a_t_race_guns_ticks, .inl (cI, 6, .inl t_race_guns_ticks)), (a_t_race_runners, .inr (6, [.ref a_t_race_runners_facts, .ref a_t_race_runners_splits, .ref a_t_race_runners_torn, .ref a_t_race_runners_dropped, .ref a_t_race_runners_waved, .ref a_t_race_runners_struck, .ref a_t_race_runners_strikingOrder, .int t_race_runners_entered, .int t_race_runners_strikings])), (a_t_race_runners_dropped, .inl (cZ, 60, .inl t_race_runners_dropped)), (a_t_race_runners_facts, .inl (cI, 360, .inl t_race_runners_facts)), (a_t_race_runners_splits, .inl (cI, 720, .inl t_race_runners_splits)), (a_t_race_runners_strikingOrder, .inl (cI, 60, .inl t_race_runners_strikingOrder)), (a_t_race_runners_struck, .inl (cZ, 60, .inl t_race_runners_struck)), (a_t_race_runners_torn, .inl (cI, 60, .inl t_race_runners_torn)), (a_t_race_runners_waved, .inl (cZ, 60, .inl t_race_runners_waved)), (a_t_race_way, .inr (9, [.ref a_t_race_way_places, .ref a_t_race_way_bearings, .ref a_t_race_way_cuts, .ref a_t_race_way_deaths, .int t_race_way_mats])), (a_t_race_way_bearings, .inl (cI, 12, .inl t_race_way_bearings)), (a_t_race_way_cuts, .inl (cI, 12, .inl t_race_way_cuts)), (a_t_race_way_deaths, .inl (cZ, 12, .inl t_race_way_deaths)), (a_t_race_way_places, .inl (cI, 12, .inl t_race_way_places))] H := hP
  have hD : va_D A [(a_t, .inr (10, [.ref a_t_race, .ref a_t_kept, .ref a_t_trail, .ref a_t_doubts, .ref a_t_foretelling, .ref a_t_text, .ref a_t_listing, .int (1 : Int32)])), (a_t_kept, .inr (4, [.ref a_t_kept_way, .ref a_t_kept_guns, .ref a_t_kept_runners])), (a_t_kept_guns, .inr (2, [.ref a_t_kept_guns_ticks])), (a_t_kept_guns_ticks, .inl (cI, 6, .inl t_kept_guns_ticks_r1)), (a_t_kept_runners, .inr (6, [.ref a_t_kept_runners_facts, .ref a_t_kept_runners_splits, .ref a_t_kept_runners_torn, .ref a_t_kept_runners_dropped, .ref a_t_kept_runners_waved, .ref a_t_kept_runners_struck, .ref a_t_kept_runners_strikingOrder, .int t_kept_runners_entered_r2, .int t_kept_runners_strikings_r3])), (a_t_kept_runners_dropped, .inl (cZ, 60, .inl t_kept_runners_dropped_r4)), (a_t_kept_runners_facts, .inl (cI, 360, .inl t_kept_runners_facts_r5)), (a_t_kept_runners_splits, .inl (cI, 720, .inl t_kept_runners_splits_r6)), (a_t_kept_runners_strikingOrder, .inl (cI, 60, .inl t_kept_runners_strikingOrder_r7)), (a_t_kept_runners_struck, .inl (cZ, 60, .inl t_kept_runners_struck_r8)), (a_t_kept_runners_torn, .inl (cI, 60, .inl t_kept_runners_torn_r9)), (a_t_kept_runners_waved, .inl (cZ, 60, .inl t_kept_runners_waved_r10)), (a_t_kept_way, .inr (9, [.ref a_t_kept_way_places, .ref a_t_kept_way_bearings, .ref a_t_kept_way_cuts, .ref a_t_kept_way_deaths, .int t_kept_way_mats_r11])), (a_t_kept_way_bearings, .inl (cI, 12, .inl t_kept_way_bearings_r12)), (a_t_kept_way_cuts, .inl (cI, 12, .inl t_kept_way_cuts_r13)), (a_t_kept_way_deaths, .inl (cZ, 12, .inl t_kept_way_deaths_r14)), (a_t_kept_way_places, .inl (cI, 12, .inl t_kept_way_places_r15)), (a_t_race, .inr (4, [.ref a_t_race_way, .ref a_t_race_guns, .ref a_t_race_runners])), (a_t_race_guns, .inr (2, [.ref a_t_race_guns_ticks])), (a_t_race_guns_ticks, .inl (cI, 6, .inl t_race_guns_ticks)), (a_t_race_runners, .inr (6, [.ref a_t_race_runners_facts, .ref a_t_race_runners_splits, .ref a_t_race_runners_torn, .ref a_t_race_runners_dropped, .ref a_t_race_runners_waved, .ref a_t_race_runners_struck, .ref a_t_race_runners_strikingOrder, .int t_race_runners_entered, .int t_race_runners_strikings])), (a_t_race_runners_dropped, .inl (cZ, 60, .inl t_race_runners_dropped)), (a_t_race_runners_facts, .inl (cI, 360, .inl t_race_runners_facts)), (a_t_race_runners_splits, .inl (cI, 720, .inl t_race_runners_splits)), (a_t_race_runners_strikingOrder, .inl (cI, 60, .inl t_race_runners_strikingOrder)), (a_t_race_runners_struck, .inl (cZ, 60, .inl t_race_runners_struck)), (a_t_race_runners_torn, .inl (cI, 60, .inl t_race_runners_torn)), (a_t_race_runners_waved, .inl (cZ, 60, .inl t_race_runners_waved)), (a_t_race_way, .inr (9, [.ref a_t_race_way_places, .ref a_t_race_way_bearings, .ref a_t_race_way_cuts, .ref a_t_race_way_deaths, .int t_race_way_mats])), (a_t_race_way_bearings, .inl (cI, 12, .inl t_race_way_bearings)), (a_t_race_way_cuts, .inl (cI, 12, .inl t_race_way_cuts)), (a_t_race_way_deaths, .inl (cZ, 12, .inl t_race_way_deaths)), (a_t_race_way_places, .inl (cI, 12, .inl t_race_way_places))] := hD
  obtain ⟨j0_, g_⟩ := Prod.mk.inj (Option.some.inj h)
  obtain ⟨j1_, g_⟩ := Prod.mk.inj g_
  obtain ⟨j2_, g_⟩ := Prod.mk.inj g_
  obtain ⟨j3_, g_⟩ := Prod.mk.inj g_
  obtain ⟨j4_, g_⟩ := Prod.mk.inj g_
  obtain ⟨j5_, g_⟩ := Prod.mk.inj g_
  obtain ⟨j6_, g_⟩ := Prod.mk.inj g_
  obtain ⟨j7_, g_⟩ := Prod.mk.inj g_
  obtain ⟨j8_, g_⟩ := Prod.mk.inj g_
  obtain ⟨j9_, g_⟩ := Prod.mk.inj g_
  obtain ⟨j10_, g_⟩ := Prod.mk.inj g_
  obtain ⟨j11_, g_⟩ := Prod.mk.inj g_
  obtain ⟨j12_, g_⟩ := Prod.mk.inj g_
  obtain ⟨j13_, g_⟩ := Prod.mk.inj g_
  obtain ⟨j14_, g_⟩ := Prod.mk.inj g_
  have j15_ := g_
  subst j0_
  subst j1_
  subst j2_
  subst j3_
  subst j4_
  subst j5_
  subst j6_
  subst j7_
  subst j8_
  subst j9_
  subst j10_
  subst j11_
  subst j12_
  subst j13_
  subst j14_
  subst j15_
  exact W.vret hx hb hr (fun t ht hW => ⟨⟨(), rfl, trivial, zPost.of hP hD hK ht hW [0, 1, 2, 3, 4, 5, 6, 7, 8, 9, 10, 11, 12, 13, 14, 15, 16, 17, 18, 19, 20, 21, 22, 23, 24, 25, 26, 27, 28, 29, 30, 31, 32] rfl rfl rfl⟩, hS.F ht⟩) hS.2.2 dX10_image_16
/-! RunDeskModel.mats -/
theorem dX11_mats_0 : decode cX11_mats 0 = .ok (.aload_n 0, 1) := by decide +kernel
theorem dX11_mats_1 : decode cX11_mats 1 = .ok (.getfield 9, 3) := by decide +kernel
theorem dX11_mats_4 : decode cX11_mats 4 = .ok (.iconst 0, 1) := by decide +kernel
theorem dX11_mats_5 : decode cX11_mats 5 = .ok (.iaload, 1) := by decide +kernel
theorem dX11_mats_6 : decode cX11_mats 6 = .ok (.ireturn, 1) := by decide +kernel
def fX11_mats (t_now : Nat → Int32) : Option (Int32) := (if zin (0 : Int32) 1562 then some ((t_now ((0 : Int32)).toNatClampNeg)) else none)
theorem kX11_mats_0 : (.fieldLink RX11 9 "RunDeskModel" "now" "[I" : Cond) ∈ wsX11_mats := List.mem_of_getElem? (i := 1) (by decide +kernel)
theorem qX11_mats_X11 : ∀ w ∈ wsX110, w ∈ wsX11_mats := fun _ h => List.mem_cons_of_mem _ (List.mem_append_right _ (h))
set_option maxHeartbeats 4000000 in
set_option maxRecDepth 100000 in
theorem mX11_mats (l : Launch) (D : va_G) (cB cI cZ : ClassId) (a_t : Nat) (a_t_now : Nat) (a_t_kept : Nat) (a_t_text : Nat) (a_t_passing : Nat) (a_t_order : Nat) (a_t_times : Nat) (t_thrown : Int32) (t_isKept : Int32) (t_length : Int32) (t_at : Int32) (t_fault : Int32) (t_open : Int32) (t_asked : Int32) (t_byGun : Int32) (t_prizeMost : Int32) (t_listed : Int32) (t_now : Nat → Int32) (sz : Nat) (r0 : Int32) (h : fX11_mats t_now = some (r0)) : Met l yX11_mats wsX11_mats ({ frames := 0, cells := 0, slots := 0, locals := 0 } : Room) (va_Pc [.ref a_t] (zPre D (zT cB cI cZ) [(a_t, .inr (11, [.int t_thrown, .ref a_t_now, .ref a_t_kept, .int t_isKept, .ref a_t_text, .int t_length, .ref a_t_passing, .int t_at, .int t_fault, .int t_open, .int t_asked, .int t_byGun, .int t_prizeMost, .ref a_t_order, .ref a_t_times, .int t_listed])), (a_t_now, .inl (cI, 1562, .inl t_now))] sz)) (zQi r0 D (zT cB cI cZ) [(a_t, .inr (11, [.int t_thrown, .ref a_t_now, .ref a_t_kept, .int t_isKept, .ref a_t_text, .int t_length, .ref a_t_passing, .int t_at, .int t_fault, .int t_open, .int t_asked, .int t_byGun, .int t_prizeMost, .ref a_t_order, .ref a_t_times, .int t_listed])), (a_t_now, .inl (cI, 1562, .inl t_now))] (va_A [(a_t, .inr (11, [.int t_thrown, .ref a_t_now, .ref a_t_kept, .int t_isKept, .ref a_t_text, .int t_length, .ref a_t_passing, .int t_at, .int t_fault, .int t_open, .int t_asked, .int t_byGun, .int t_prizeMost, .ref a_t_order, .ref a_t_times, .int t_listed])), (a_t_now, .inl (cI, 1562, .inl t_now))] sz)) 0 0 (va_A [(a_t, .inr (11, [.int t_thrown, .ref a_t_now, .ref a_t_kept, .int t_isKept, .ref a_t_text, .int t_length, .ref a_t_passing, .int t_at, .int t_fault, .int t_open, .int t_asked, .int t_byGun, .int t_prizeMost, .ref a_t_order, .ref a_t_times, .int t_listed])), (a_t_now, .inl (cI, 1562, .inl t_now))] sz) := by
  refine Met.ofW (cc := cX11_mats) (maxL := 1) (ret := (some .int)) (by decide) rfl ?_
  intro p e s m args below meth c s₁ B hml hv
  obtain ⟨rfl, hsz, hP, hK, hN, hZ, hD0⟩ := hv
  have hx := B.exec
  have hb := B.bytes
  have hr := B.returns
  have hts := atoms_spec (ws := wsX11_mats) B.pre
  have hown : s.vm.findClass RX11 = some m.cls := findClass_of_methodNamed B.named
  have hlocks := B.notSynchronized
  subst hsz
  have hD := hD0.self (sz := s.heap.size)
  generalize hAe : va_A [(a_t, .inr (11, [.int t_thrown, .ref a_t_now, .ref a_t_kept, .int t_isKept, .ref a_t_text, .int t_length, .ref a_t_passing, .int t_at, .int t_fault, .int t_open, .int t_asked, .int t_byGun, .int t_prizeMost, .ref a_t_order, .ref a_t_times, .int t_listed])), (a_t_now, .inl (cI, 1562, .inl t_now))] s.heap.size = A at hD hZ ⊢
  have hA : ∀ q : Nat, s.heap.size ≤ q → A q := fun q h => by rw [← hAe]; exact Or.inr h
  have hS : va_S A s.heap s.heap [] := va_S.rf
  have hl := lv_entry ([.ref a_t]) (n := 1) (Nat.le_of_ble_eq_true rfl)
  rw [lg_entry_eq]
  generalize (lg_sl ([.ref a_t]) ++ List.replicate (1 - (lg_sl ([.ref a_t])).length) Slot.unset).toArray = ls at hl ⊢
  have hl : lv_has ls 1 [(0, .ref a_t)] := hl
  unfold fX11_mats at h
  refine lv_aload_n hx hb dX11_mats_0 rfl (lv_at hl 0 rfl) ?_
  refine va_get (D := D) (ci := 11) (C := RX11) (T := TX11) (N := 16) hx hb hts qX11_mats_X11 hown hK hP 0 rfl rfl 1 (by decide) (hts _ kX11_mats_0) (fun _ h9 => h9) rfl dX11_mats_1 ?_
  refine lv_iconst (v := (0 : Int32)) hx hb dX11_mats_4 rfl ?_
  obtain ⟨i1, h⟩ := zz_i h
  refine va_iald hx hb hK hP 1 1 rfl rfl i1 dX11_mats_5 ?_
  have j0_ := Option.some.inj h
  subst j0_
  exact W.iret (v := (t_now ((0 : Int32)).toNatClampNeg)) hx hb hr (fun t ht hW => ⟨⟨_, (), rfl, rfl, zPost.of hP hD hK ht hW [0, 1] rfl rfl rfl⟩, hS.F ht⟩) hS.2.2 dX11_mats_6
/-! RunDeskModel.runners -/
theorem dX11_runners_0 : decode cX11_runners 0 = .ok (.aload_n 0, 1) := by decide +kernel
theorem dX11_runners_1 : decode cX11_runners 1 = .ok (.getfield 9, 3) := by decide +kernel
theorem dX11_runners_4 : decode cX11_runners 4 = .ok (.iconst 1, 1) := by decide +kernel
theorem dX11_runners_5 : decode cX11_runners 5 = .ok (.iaload, 1) := by decide +kernel
theorem dX11_runners_6 : decode cX11_runners 6 = .ok (.ireturn, 1) := by decide +kernel
def fX11_runners (t_now : Nat → Int32) : Option (Int32) := (if zin (1 : Int32) 1562 then some ((t_now ((1 : Int32)).toNatClampNeg)) else none)
theorem kX11_runners_0 : (.fieldLink RX11 9 "RunDeskModel" "now" "[I" : Cond) ∈ wsX11_runners := List.mem_of_getElem? (i := 1) (by decide +kernel)
theorem qX11_runners_X11 : ∀ w ∈ wsX110, w ∈ wsX11_runners := fun _ h => List.mem_cons_of_mem _ (List.mem_append_right _ (h))
set_option maxHeartbeats 4000000 in
set_option maxRecDepth 100000 in
theorem mX11_runners (l : Launch) (D : va_G) (cB cI cZ : ClassId) (a_t : Nat) (a_t_now : Nat) (a_t_kept : Nat) (a_t_text : Nat) (a_t_passing : Nat) (a_t_order : Nat) (a_t_times : Nat) (t_thrown : Int32) (t_isKept : Int32) (t_length : Int32) (t_at : Int32) (t_fault : Int32) (t_open : Int32) (t_asked : Int32) (t_byGun : Int32) (t_prizeMost : Int32) (t_listed : Int32) (t_now : Nat → Int32) (sz : Nat) (r0 : Int32) (h : fX11_runners t_now = some (r0)) : Met l yX11_runners wsX11_runners ({ frames := 0, cells := 0, slots := 0, locals := 0 } : Room) (va_Pc [.ref a_t] (zPre D (zT cB cI cZ) [(a_t, .inr (11, [.int t_thrown, .ref a_t_now, .ref a_t_kept, .int t_isKept, .ref a_t_text, .int t_length, .ref a_t_passing, .int t_at, .int t_fault, .int t_open, .int t_asked, .int t_byGun, .int t_prizeMost, .ref a_t_order, .ref a_t_times, .int t_listed])), (a_t_now, .inl (cI, 1562, .inl t_now))] sz)) (zQi r0 D (zT cB cI cZ) [(a_t, .inr (11, [.int t_thrown, .ref a_t_now, .ref a_t_kept, .int t_isKept, .ref a_t_text, .int t_length, .ref a_t_passing, .int t_at, .int t_fault, .int t_open, .int t_asked, .int t_byGun, .int t_prizeMost, .ref a_t_order, .ref a_t_times, .int t_listed])), (a_t_now, .inl (cI, 1562, .inl t_now))] (va_A [(a_t, .inr (11, [.int t_thrown, .ref a_t_now, .ref a_t_kept, .int t_isKept, .ref a_t_text, .int t_length, .ref a_t_passing, .int t_at, .int t_fault, .int t_open, .int t_asked, .int t_byGun, .int t_prizeMost, .ref a_t_order, .ref a_t_times, .int t_listed])), (a_t_now, .inl (cI, 1562, .inl t_now))] sz)) 0 0 (va_A [(a_t, .inr (11, [.int t_thrown, .ref a_t_now, .ref a_t_kept, .int t_isKept, .ref a_t_text, .int t_length, .ref a_t_passing, .int t_at, .int t_fault, .int t_open, .int t_asked, .int t_byGun, .int t_prizeMost, .ref a_t_order, .ref a_t_times, .int t_listed])), (a_t_now, .inl (cI, 1562, .inl t_now))] sz) := by
  refine Met.ofW (cc := cX11_runners) (maxL := 1) (ret := (some .int)) (by decide) rfl ?_
  intro p e s m args below meth c s₁ B hml hv
  obtain ⟨rfl, hsz, hP, hK, hN, hZ, hD0⟩ := hv
  have hx := B.exec
  have hb := B.bytes
  have hr := B.returns
  have hts := atoms_spec (ws := wsX11_runners) B.pre
  have hown : s.vm.findClass RX11 = some m.cls := findClass_of_methodNamed B.named
  have hlocks := B.notSynchronized
  subst hsz
  have hD := hD0.self (sz := s.heap.size)
  generalize hAe : va_A [(a_t, .inr (11, [.int t_thrown, .ref a_t_now, .ref a_t_kept, .int t_isKept, .ref a_t_text, .int t_length, .ref a_t_passing, .int t_at, .int t_fault, .int t_open, .int t_asked, .int t_byGun, .int t_prizeMost, .ref a_t_order, .ref a_t_times, .int t_listed])), (a_t_now, .inl (cI, 1562, .inl t_now))] s.heap.size = A at hD hZ ⊢
  have hA : ∀ q : Nat, s.heap.size ≤ q → A q := fun q h => by rw [← hAe]; exact Or.inr h
  have hS : va_S A s.heap s.heap [] := va_S.rf
  have hl := lv_entry ([.ref a_t]) (n := 1) (Nat.le_of_ble_eq_true rfl)
  rw [lg_entry_eq]
  generalize (lg_sl ([.ref a_t]) ++ List.replicate (1 - (lg_sl ([.ref a_t])).length) Slot.unset).toArray = ls at hl ⊢
  have hl : lv_has ls 1 [(0, .ref a_t)] := hl
  unfold fX11_runners at h
  refine lv_aload_n hx hb dX11_runners_0 rfl (lv_at hl 0 rfl) ?_
  refine va_get (D := D) (ci := 11) (C := RX11) (T := TX11) (N := 16) hx hb hts qX11_runners_X11 hown hK hP 0 rfl rfl 1 (by decide) (hts _ kX11_runners_0) (fun _ h9 => h9) rfl dX11_runners_1 ?_
  refine lv_iconst (v := (1 : Int32)) hx hb dX11_runners_4 rfl ?_
  obtain ⟨i1, h⟩ := zz_i h
  refine va_iald hx hb hK hP 1 1 rfl rfl i1 dX11_runners_5 ?_
  have j0_ := Option.some.inj h
  subst j0_
  exact W.iret (v := (t_now ((1 : Int32)).toNatClampNeg)) hx hb hr (fun t ht hW => ⟨⟨_, (), rfl, rfl, zPost.of hP hD hK ht hW [0, 1] rfl rfl rfl⟩, hS.F ht⟩) hS.2.2 dX11_runners_6
/-! RunDeskModel.ofMat -/
theorem dX11_ofMat_0 : decode cX11_ofMat 0 = .ok (.aload_n 0, 1) := by decide +kernel
theorem dX11_ofMat_1 : decode cX11_ofMat 1 = .ok (.getfield 9, 3) := by decide +kernel
theorem dX11_ofMat_4 : decode cX11_ofMat 4 = .ok (.bipush 8, 2) := by decide +kernel
theorem dX11_ofMat_6 : decode cX11_ofMat 6 = .ok (.iconst 4, 1) := by decide +kernel
theorem dX11_ofMat_7 : decode cX11_ofMat 7 = .ok (.iload_n 1, 1) := by decide +kernel
theorem dX11_ofMat_8 : decode cX11_ofMat 8 = .ok (.imul, 1) := by decide +kernel
theorem dX11_ofMat_9 : decode cX11_ofMat 9 = .ok (.iadd, 1) := by decide +kernel
theorem dX11_ofMat_10 : decode cX11_ofMat 10 = .ok (.iload_n 2, 1) := by decide +kernel
theorem dX11_ofMat_11 : decode cX11_ofMat 11 = .ok (.iadd, 1) := by decide +kernel
theorem dX11_ofMat_12 : decode cX11_ofMat 12 = .ok (.iaload, 1) := by decide +kernel
theorem dX11_ofMat_13 : decode cX11_ofMat 13 = .ok (.ireturn, 1) := by decide +kernel
def fX11_ofMat (t_now : Nat → Int32) (x1 : Int32) (x2 : Int32) : Option (Int32) := (if zin (((8 : Int32) + ((4 : Int32) * x1)) + x2) 1562 then some ((t_now ((((8 : Int32) + ((4 : Int32) * x1)) + x2)).toNatClampNeg)) else none)
theorem kX11_ofMat_0 : (.fieldLink RX11 9 "RunDeskModel" "now" "[I" : Cond) ∈ wsX11_ofMat := List.mem_of_getElem? (i := 1) (by decide +kernel)
theorem qX11_ofMat_X11 : ∀ w ∈ wsX110, w ∈ wsX11_ofMat := fun _ h => List.mem_cons_of_mem _ (List.mem_append_right _ (h))
set_option maxHeartbeats 4000000 in
set_option maxRecDepth 100000 in
theorem mX11_ofMat (l : Launch) (D : va_G) (cB cI cZ : ClassId) (a_t : Nat) (a_t_now : Nat) (a_t_kept : Nat) (a_t_text : Nat) (a_t_passing : Nat) (a_t_order : Nat) (a_t_times : Nat) (t_thrown : Int32) (t_isKept : Int32) (t_length : Int32) (t_at : Int32) (t_fault : Int32) (t_open : Int32) (t_asked : Int32) (t_byGun : Int32) (t_prizeMost : Int32) (t_listed : Int32) (t_now : Nat → Int32) (sz : Nat) (x1 : Int32) (x2 : Int32) (r0 : Int32) (h : fX11_ofMat t_now x1 x2 = some (r0)) : Met l yX11_ofMat wsX11_ofMat ({ frames := 0, cells := 0, slots := 0, locals := 0 } : Room) (va_Pc [.ref a_t, .int x1, .int x2] (zPre D (zT cB cI cZ) [(a_t, .inr (11, [.int t_thrown, .ref a_t_now, .ref a_t_kept, .int t_isKept, .ref a_t_text, .int t_length, .ref a_t_passing, .int t_at, .int t_fault, .int t_open, .int t_asked, .int t_byGun, .int t_prizeMost, .ref a_t_order, .ref a_t_times, .int t_listed])), (a_t_now, .inl (cI, 1562, .inl t_now))] sz)) (zQi r0 D (zT cB cI cZ) [(a_t, .inr (11, [.int t_thrown, .ref a_t_now, .ref a_t_kept, .int t_isKept, .ref a_t_text, .int t_length, .ref a_t_passing, .int t_at, .int t_fault, .int t_open, .int t_asked, .int t_byGun, .int t_prizeMost, .ref a_t_order, .ref a_t_times, .int t_listed])), (a_t_now, .inl (cI, 1562, .inl t_now))] (va_A [(a_t, .inr (11, [.int t_thrown, .ref a_t_now, .ref a_t_kept, .int t_isKept, .ref a_t_text, .int t_length, .ref a_t_passing, .int t_at, .int t_fault, .int t_open, .int t_asked, .int t_byGun, .int t_prizeMost, .ref a_t_order, .ref a_t_times, .int t_listed])), (a_t_now, .inl (cI, 1562, .inl t_now))] sz)) 0 0 (va_A [(a_t, .inr (11, [.int t_thrown, .ref a_t_now, .ref a_t_kept, .int t_isKept, .ref a_t_text, .int t_length, .ref a_t_passing, .int t_at, .int t_fault, .int t_open, .int t_asked, .int t_byGun, .int t_prizeMost, .ref a_t_order, .ref a_t_times, .int t_listed])), (a_t_now, .inl (cI, 1562, .inl t_now))] sz) := by
  refine Met.ofW (cc := cX11_ofMat) (maxL := 3) (ret := (some .int)) (by decide) rfl ?_
  intro p e s m args below meth c s₁ B hml hv
  obtain ⟨rfl, hsz, hP, hK, hN, hZ, hD0⟩ := hv
  have hx := B.exec
  have hb := B.bytes
  have hr := B.returns
  have hts := atoms_spec (ws := wsX11_ofMat) B.pre
  have hown : s.vm.findClass RX11 = some m.cls := findClass_of_methodNamed B.named
  have hlocks := B.notSynchronized
  subst hsz
  have hD := hD0.self (sz := s.heap.size)
  generalize hAe : va_A [(a_t, .inr (11, [.int t_thrown, .ref a_t_now, .ref a_t_kept, .int t_isKept, .ref a_t_text, .int t_length, .ref a_t_passing, .int t_at, .int t_fault, .int t_open, .int t_asked, .int t_byGun, .int t_prizeMost, .ref a_t_order, .ref a_t_times, .int t_listed])), (a_t_now, .inl (cI, 1562, .inl t_now))] s.heap.size = A at hD hZ ⊢
  have hA : ∀ q : Nat, s.heap.size ≤ q → A q := fun q h => by rw [← hAe]; exact Or.inr h
  have hS : va_S A s.heap s.heap [] := va_S.rf
  have hl := lv_entry ([.ref a_t, .int x1, .int x2]) (n := 3) (Nat.le_of_ble_eq_true rfl)
  rw [lg_entry_eq]
  generalize (lg_sl ([.ref a_t, .int x1, .int x2]) ++ List.replicate (3 - (lg_sl ([.ref a_t, .int x1, .int x2])).length) Slot.unset).toArray = ls at hl ⊢
  have hl : lv_has ls 3 [(0, .ref a_t), (1, .int x1), (2, .int x2)] := hl
  unfold fX11_ofMat at h
  refine lv_aload_n hx hb dX11_ofMat_0 rfl (lv_at hl 0 rfl) ?_
  refine va_get (D := D) (ci := 11) (C := RX11) (T := TX11) (N := 16) hx hb hts qX11_ofMat_X11 hown hK hP 0 rfl rfl 1 (by decide) (hts _ kX11_ofMat_0) (fun _ h9 => h9) rfl dX11_ofMat_1 ?_
  refine lv_bipush (v := (8 : Int32)) hx hb dX11_ofMat_4 rfl ?_
  refine lv_iconst (v := (4 : Int32)) hx hb dX11_ofMat_6 rfl ?_
  refine lv_iload_n hx hb dX11_ofMat_7 rfl (lv_at hl 1 rfl) ?_
  refine lv_imul hx hb dX11_ofMat_8 ?_
  refine lv_iadd hx hb dX11_ofMat_9 ?_
  refine lv_iload_n hx hb dX11_ofMat_10 rfl (lv_at hl 2 rfl) ?_
  refine lv_iadd hx hb dX11_ofMat_11 ?_
  obtain ⟨i1, h⟩ := zz_i h
  refine va_iald hx hb hK hP 1 1 rfl rfl i1 dX11_ofMat_12 ?_
  have j0_ := Option.some.inj h
  subst j0_
  exact W.iret (v := (t_now ((((8 : Int32) + ((4 : Int32) * x1)) + x2)).toNatClampNeg)) hx hb hr (fun t ht hW => ⟨⟨_, (), rfl, rfl, zPost.of hP hD hK ht hW [0, 1] rfl rfl rfl⟩, hS.F ht⟩) hS.2.2 dX11_ofMat_13
/-! RunDeskModel.gunOf -/
theorem dX11_gunOf_0 : decode cX11_gunOf 0 = .ok (.aload_n 0, 1) := by decide +kernel
theorem dX11_gunOf_1 : decode cX11_gunOf 1 = .ok (.getfield 9, 3) := by decide +kernel
theorem dX11_gunOf_4 : decode cX11_gunOf 4 = .ok (.bipush 56, 2) := by decide +kernel
theorem dX11_gunOf_6 : decode cX11_gunOf 6 = .ok (.iload_n 1, 1) := by decide +kernel
theorem dX11_gunOf_7 : decode cX11_gunOf 7 = .ok (.iadd, 1) := by decide +kernel
theorem dX11_gunOf_8 : decode cX11_gunOf 8 = .ok (.iaload, 1) := by decide +kernel
theorem dX11_gunOf_9 : decode cX11_gunOf 9 = .ok (.ireturn, 1) := by decide +kernel
def fX11_gunOf (t_now : Nat → Int32) (x1 : Int32) : Option (Int32) := (if zin ((56 : Int32) + x1) 1562 then some ((t_now (((56 : Int32) + x1)).toNatClampNeg)) else none)
theorem kX11_gunOf_0 : (.fieldLink RX11 9 "RunDeskModel" "now" "[I" : Cond) ∈ wsX11_gunOf := List.mem_of_getElem? (i := 1) (by decide +kernel)
theorem qX11_gunOf_X11 : ∀ w ∈ wsX110, w ∈ wsX11_gunOf := fun _ h => List.mem_cons_of_mem _ (List.mem_append_right _ (h))
set_option maxHeartbeats 4000000 in
set_option maxRecDepth 100000 in
theorem mX11_gunOf (l : Launch) (D : va_G) (cB cI cZ : ClassId) (a_t : Nat) (a_t_now : Nat) (a_t_kept : Nat) (a_t_text : Nat) (a_t_passing : Nat) (a_t_order : Nat) (a_t_times : Nat) (t_thrown : Int32) (t_isKept : Int32) (t_length : Int32) (t_at : Int32) (t_fault : Int32) (t_open : Int32) (t_asked : Int32) (t_byGun : Int32) (t_prizeMost : Int32) (t_listed : Int32) (t_now : Nat → Int32) (sz : Nat) (x1 : Int32) (r0 : Int32) (h : fX11_gunOf t_now x1 = some (r0)) : Met l yX11_gunOf wsX11_gunOf ({ frames := 0, cells := 0, slots := 0, locals := 0 } : Room) (va_Pc [.ref a_t, .int x1] (zPre D (zT cB cI cZ) [(a_t, .inr (11, [.int t_thrown, .ref a_t_now, .ref a_t_kept, .int t_isKept, .ref a_t_text, .int t_length, .ref a_t_passing, .int t_at, .int t_fault, .int t_open, .int t_asked, .int t_byGun, .int t_prizeMost, .ref a_t_order, .ref a_t_times, .int t_listed])), (a_t_now, .inl (cI, 1562, .inl t_now))] sz)) (zQi r0 D (zT cB cI cZ) [(a_t, .inr (11, [.int t_thrown, .ref a_t_now, .ref a_t_kept, .int t_isKept, .ref a_t_text, .int t_length, .ref a_t_passing, .int t_at, .int t_fault, .int t_open, .int t_asked, .int t_byGun, .int t_prizeMost, .ref a_t_order, .ref a_t_times, .int t_listed])), (a_t_now, .inl (cI, 1562, .inl t_now))] (va_A [(a_t, .inr (11, [.int t_thrown, .ref a_t_now, .ref a_t_kept, .int t_isKept, .ref a_t_text, .int t_length, .ref a_t_passing, .int t_at, .int t_fault, .int t_open, .int t_asked, .int t_byGun, .int t_prizeMost, .ref a_t_order, .ref a_t_times, .int t_listed])), (a_t_now, .inl (cI, 1562, .inl t_now))] sz)) 0 0 (va_A [(a_t, .inr (11, [.int t_thrown, .ref a_t_now, .ref a_t_kept, .int t_isKept, .ref a_t_text, .int t_length, .ref a_t_passing, .int t_at, .int t_fault, .int t_open, .int t_asked, .int t_byGun, .int t_prizeMost, .ref a_t_order, .ref a_t_times, .int t_listed])), (a_t_now, .inl (cI, 1562, .inl t_now))] sz) := by
  refine Met.ofW (cc := cX11_gunOf) (maxL := 2) (ret := (some .int)) (by decide) rfl ?_
  intro p e s m args below meth c s₁ B hml hv
  obtain ⟨rfl, hsz, hP, hK, hN, hZ, hD0⟩ := hv
  have hx := B.exec
  have hb := B.bytes
  have hr := B.returns
  have hts := atoms_spec (ws := wsX11_gunOf) B.pre
  have hown : s.vm.findClass RX11 = some m.cls := findClass_of_methodNamed B.named
  have hlocks := B.notSynchronized
  subst hsz
  have hD := hD0.self (sz := s.heap.size)
  generalize hAe : va_A [(a_t, .inr (11, [.int t_thrown, .ref a_t_now, .ref a_t_kept, .int t_isKept, .ref a_t_text, .int t_length, .ref a_t_passing, .int t_at, .int t_fault, .int t_open, .int t_asked, .int t_byGun, .int t_prizeMost, .ref a_t_order, .ref a_t_times, .int t_listed])), (a_t_now, .inl (cI, 1562, .inl t_now))] s.heap.size = A at hD hZ ⊢
  have hA : ∀ q : Nat, s.heap.size ≤ q → A q := fun q h => by rw [← hAe]; exact Or.inr h
  have hS : va_S A s.heap s.heap [] := va_S.rf
  have hl := lv_entry ([.ref a_t, .int x1]) (n := 2) (Nat.le_of_ble_eq_true rfl)
  rw [lg_entry_eq]
  generalize (lg_sl ([.ref a_t, .int x1]) ++ List.replicate (2 - (lg_sl ([.ref a_t, .int x1])).length) Slot.unset).toArray = ls at hl ⊢
  have hl : lv_has ls 2 [(0, .ref a_t), (1, .int x1)] := hl
  unfold fX11_gunOf at h
  refine lv_aload_n hx hb dX11_gunOf_0 rfl (lv_at hl 0 rfl) ?_
  refine va_get (D := D) (ci := 11) (C := RX11) (T := TX11) (N := 16) hx hb hts qX11_gunOf_X11 hown hK hP 0 rfl rfl 1 (by decide) (hts _ kX11_gunOf_0) (fun _ h9 => h9) rfl dX11_gunOf_1 ?_
  refine lv_bipush (v := (56 : Int32)) hx hb dX11_gunOf_4 rfl ?_
  refine lv_iload_n hx hb dX11_gunOf_6 rfl (lv_at hl 1 rfl) ?_
  refine lv_iadd hx hb dX11_gunOf_7 ?_
  obtain ⟨i1, h⟩ := zz_i h
  refine va_iald hx hb hK hP 1 1 rfl rfl i1 dX11_gunOf_8 ?_
  have j0_ := Option.some.inj h
  subst j0_
  exact W.iret (v := (t_now (((56 : Int32) + x1)).toNatClampNeg)) hx hb hr (fun t ht hW => ⟨⟨_, (), rfl, rfl, zPost.of hP hD hK ht hW [0, 1] rfl rfl rfl⟩, hS.F ht⟩) hS.2.2 dX11_gunOf_9
/-! RunDeskModel.of -/
theorem dX11_of_0 : decode cX11_of 0 = .ok (.aload_n 0, 1) := by decide +kernel
theorem dX11_of_1 : decode cX11_of 1 = .ok (.getfield 9, 3) := by decide +kernel
theorem dX11_of_4 : decode cX11_of 4 = .ok (.bipush 122, 2) := by decide +kernel
theorem dX11_of_6 : decode cX11_of 6 = .ok (.bipush 24, 2) := by decide +kernel
theorem dX11_of_8 : decode cX11_of 8 = .ok (.iload_n 1, 1) := by decide +kernel
theorem dX11_of_9 : decode cX11_of 9 = .ok (.imul, 1) := by decide +kernel
theorem dX11_of_10 : decode cX11_of 10 = .ok (.iadd, 1) := by decide +kernel
theorem dX11_of_11 : decode cX11_of 11 = .ok (.iload_n 2, 1) := by decide +kernel
theorem dX11_of_12 : decode cX11_of 12 = .ok (.iadd, 1) := by decide +kernel
theorem dX11_of_13 : decode cX11_of 13 = .ok (.iaload, 1) := by decide +kernel
theorem dX11_of_14 : decode cX11_of 14 = .ok (.ireturn, 1) := by decide +kernel
def fX11_of (t_now : Nat → Int32) (x1 : Int32) (x2 : Int32) : Option (Int32) := (if zin (((122 : Int32) + ((24 : Int32) * x1)) + x2) 1562 then some ((t_now ((((122 : Int32) + ((24 : Int32) * x1)) + x2)).toNatClampNeg)) else none)
theorem kX11_of_0 : (.fieldLink RX11 9 "RunDeskModel" "now" "[I" : Cond) ∈ wsX11_of := List.mem_of_getElem? (i := 1) (by decide +kernel)
theorem qX11_of_X11 : ∀ w ∈ wsX110, w ∈ wsX11_of := fun _ h => List.mem_cons_of_mem _ (List.mem_append_right _ (h))
set_option maxHeartbeats 4000000 in
set_option maxRecDepth 100000 in
theorem mX11_of (l : Launch) (D : va_G) (cB cI cZ : ClassId) (a_t : Nat) (a_t_now : Nat) (a_t_kept : Nat) (a_t_text : Nat) (a_t_passing : Nat) (a_t_order : Nat) (a_t_times : Nat) (t_thrown : Int32) (t_isKept : Int32) (t_length : Int32) (t_at : Int32) (t_fault : Int32) (t_open : Int32) (t_asked : Int32) (t_byGun : Int32) (t_prizeMost : Int32) (t_listed : Int32) (t_now : Nat → Int32) (sz : Nat) (x1 : Int32) (x2 : Int32) (r0 : Int32) (h : fX11_of t_now x1 x2 = some (r0)) : Met l yX11_of wsX11_of ({ frames := 0, cells := 0, slots := 0, locals := 0 } : Room) (va_Pc [.ref a_t, .int x1, .int x2] (zPre D (zT cB cI cZ) [(a_t, .inr (11, [.int t_thrown, .ref a_t_now, .ref a_t_kept, .int t_isKept, .ref a_t_text, .int t_length, .ref a_t_passing, .int t_at, .int t_fault, .int t_open, .int t_asked, .int t_byGun, .int t_prizeMost, .ref a_t_order, .ref a_t_times, .int t_listed])), (a_t_now, .inl (cI, 1562, .inl t_now))] sz)) (zQi r0 D (zT cB cI cZ) [(a_t, .inr (11, [.int t_thrown, .ref a_t_now, .ref a_t_kept, .int t_isKept, .ref a_t_text, .int t_length, .ref a_t_passing, .int t_at, .int t_fault, .int t_open, .int t_asked, .int t_byGun, .int t_prizeMost, .ref a_t_order, .ref a_t_times, .int t_listed])), (a_t_now, .inl (cI, 1562, .inl t_now))] (va_A [(a_t, .inr (11, [.int t_thrown, .ref a_t_now, .ref a_t_kept, .int t_isKept, .ref a_t_text, .int t_length, .ref a_t_passing, .int t_at, .int t_fault, .int t_open, .int t_asked, .int t_byGun, .int t_prizeMost, .ref a_t_order, .ref a_t_times, .int t_listed])), (a_t_now, .inl (cI, 1562, .inl t_now))] sz)) 0 0 (va_A [(a_t, .inr (11, [.int t_thrown, .ref a_t_now, .ref a_t_kept, .int t_isKept, .ref a_t_text, .int t_length, .ref a_t_passing, .int t_at, .int t_fault, .int t_open, .int t_asked, .int t_byGun, .int t_prizeMost, .ref a_t_order, .ref a_t_times, .int t_listed])), (a_t_now, .inl (cI, 1562, .inl t_now))] sz) := by
  refine Met.ofW (cc := cX11_of) (maxL := 3) (ret := (some .int)) (by decide) rfl ?_
  intro p e s m args below meth c s₁ B hml hv
  obtain ⟨rfl, hsz, hP, hK, hN, hZ, hD0⟩ := hv
  have hx := B.exec
  have hb := B.bytes
  have hr := B.returns
  have hts := atoms_spec (ws := wsX11_of) B.pre
  have hown : s.vm.findClass RX11 = some m.cls := findClass_of_methodNamed B.named
  have hlocks := B.notSynchronized
  subst hsz
  have hD := hD0.self (sz := s.heap.size)
  generalize hAe : va_A [(a_t, .inr (11, [.int t_thrown, .ref a_t_now, .ref a_t_kept, .int t_isKept, .ref a_t_text, .int t_length, .ref a_t_passing, .int t_at, .int t_fault, .int t_open, .int t_asked, .int t_byGun, .int t_prizeMost, .ref a_t_order, .ref a_t_times, .int t_listed])), (a_t_now, .inl (cI, 1562, .inl t_now))] s.heap.size = A at hD hZ ⊢
  have hA : ∀ q : Nat, s.heap.size ≤ q → A q := fun q h => by rw [← hAe]; exact Or.inr h
  have hS : va_S A s.heap s.heap [] := va_S.rf
  have hl := lv_entry ([.ref a_t, .int x1, .int x2]) (n := 3) (Nat.le_of_ble_eq_true rfl)
  rw [lg_entry_eq]
  generalize (lg_sl ([.ref a_t, .int x1, .int x2]) ++ List.replicate (3 - (lg_sl ([.ref a_t, .int x1, .int x2])).length) Slot.unset).toArray = ls at hl ⊢
  have hl : lv_has ls 3 [(0, .ref a_t), (1, .int x1), (2, .int x2)] := hl
  unfold fX11_of at h
  refine lv_aload_n hx hb dX11_of_0 rfl (lv_at hl 0 rfl) ?_
  refine va_get (D := D) (ci := 11) (C := RX11) (T := TX11) (N := 16) hx hb hts qX11_of_X11 hown hK hP 0 rfl rfl 1 (by decide) (hts _ kX11_of_0) (fun _ h9 => h9) rfl dX11_of_1 ?_
  refine lv_bipush (v := (122 : Int32)) hx hb dX11_of_4 rfl ?_
  refine lv_bipush (v := (24 : Int32)) hx hb dX11_of_6 rfl ?_
  refine lv_iload_n hx hb dX11_of_8 rfl (lv_at hl 1 rfl) ?_
  refine lv_imul hx hb dX11_of_9 ?_
  refine lv_iadd hx hb dX11_of_10 ?_
  refine lv_iload_n hx hb dX11_of_11 rfl (lv_at hl 2 rfl) ?_
  refine lv_iadd hx hb dX11_of_12 ?_
  obtain ⟨i1, h⟩ := zz_i h
  refine va_iald hx hb hK hP 1 1 rfl rfl i1 dX11_of_13 ?_
  have j0_ := Option.some.inj h
  subst j0_
  exact W.iret (v := (t_now ((((122 : Int32) + ((24 : Int32) * x1)) + x2)).toNatClampNeg)) hx hb hr (fun t ht hW => ⟨⟨_, (), rfl, rfl, zPost.of hP hD hK ht hW [0, 1] rfl rfl rfl⟩, hS.F ht⟩) hS.2.2 dX11_of_14
/-! RunDeskModel.put -/
theorem dX11_put_0 : decode cX11_put 0 = .ok (.aload_n 0, 1) := by decide +kernel
theorem dX11_put_1 : decode cX11_put 1 = .ok (.getfield 9, 3) := by decide +kernel
theorem dX11_put_4 : decode cX11_put 4 = .ok (.bipush 122, 2) := by decide +kernel
theorem dX11_put_6 : decode cX11_put 6 = .ok (.bipush 24, 2) := by decide +kernel
theorem dX11_put_8 : decode cX11_put 8 = .ok (.iload_n 1, 1) := by decide +kernel
theorem dX11_put_9 : decode cX11_put 9 = .ok (.imul, 1) := by decide +kernel
theorem dX11_put_10 : decode cX11_put 10 = .ok (.iadd, 1) := by decide +kernel
theorem dX11_put_11 : decode cX11_put 11 = .ok (.iload_n 2, 1) := by decide +kernel
theorem dX11_put_12 : decode cX11_put 12 = .ok (.iadd, 1) := by decide +kernel
theorem dX11_put_13 : decode cX11_put 13 = .ok (.iload_n 3, 1) := by decide +kernel
theorem dX11_put_14 : decode cX11_put 14 = .ok (.iastore, 1) := by decide +kernel
theorem dX11_put_15 : decode cX11_put 15 = .ok (.return_, 1) := by decide +kernel
def fX11_put (t_now : Nat → Int32) (x1 : Int32) (x2 : Int32) (x3 : Int32) : Option ((Nat → Int32)) := (if zin (((122 : Int32) + ((24 : Int32) * x1)) + x2) 1562 then some ((upd t_now ((((122 : Int32) + ((24 : Int32) * x1)) + x2)).toNatClampNeg x3)) else none)
theorem kX11_put_0 : (.fieldLink RX11 9 "RunDeskModel" "now" "[I" : Cond) ∈ wsX11_put := List.mem_of_getElem? (i := 1) (by decide +kernel)
theorem qX11_put_X11 : ∀ w ∈ wsX110, w ∈ wsX11_put := fun _ h => List.mem_cons_of_mem _ (List.mem_append_right _ (h))
set_option maxHeartbeats 4000000 in
set_option maxRecDepth 100000 in
theorem mX11_put (l : Launch) (D : va_G) (cB cI cZ : ClassId) (a_t : Nat) (a_t_now : Nat) (a_t_kept : Nat) (a_t_text : Nat) (a_t_passing : Nat) (a_t_order : Nat) (a_t_times : Nat) (t_thrown : Int32) (t_isKept : Int32) (t_length : Int32) (t_at : Int32) (t_fault : Int32) (t_open : Int32) (t_asked : Int32) (t_byGun : Int32) (t_prizeMost : Int32) (t_listed : Int32) (t_now : Nat → Int32) (sz : Nat) (x1 : Int32) (x2 : Int32) (x3 : Int32) (t_now' : Nat → Int32) (h : fX11_put t_now x1 x2 x3 = some (t_now')) : Met l yX11_put wsX11_put ({ frames := 0, cells := 0, slots := 0, locals := 0 } : Room) (va_Pc [.ref a_t, .int x1, .int x2, .int x3] (zPre D (zT cB cI cZ) [(a_t, .inr (11, [.int t_thrown, .ref a_t_now, .ref a_t_kept, .int t_isKept, .ref a_t_text, .int t_length, .ref a_t_passing, .int t_at, .int t_fault, .int t_open, .int t_asked, .int t_byGun, .int t_prizeMost, .ref a_t_order, .ref a_t_times, .int t_listed])), (a_t_now, .inl (cI, 1562, .inl t_now))] sz)) (zQv D (zT cB cI cZ) [(a_t, .inr (11, [.int t_thrown, .ref a_t_now, .ref a_t_kept, .int t_isKept, .ref a_t_text, .int t_length, .ref a_t_passing, .int t_at, .int t_fault, .int t_open, .int t_asked, .int t_byGun, .int t_prizeMost, .ref a_t_order, .ref a_t_times, .int t_listed])), (a_t_now, .inl (cI, 1562, .inl t_now'))] (va_A [(a_t, .inr (11, [.int t_thrown, .ref a_t_now, .ref a_t_kept, .int t_isKept, .ref a_t_text, .int t_length, .ref a_t_passing, .int t_at, .int t_fault, .int t_open, .int t_asked, .int t_byGun, .int t_prizeMost, .ref a_t_order, .ref a_t_times, .int t_listed])), (a_t_now, .inl (cI, 1562, .inl t_now))] sz)) 0 0 (va_A [(a_t, .inr (11, [.int t_thrown, .ref a_t_now, .ref a_t_kept, .int t_isKept, .ref a_t_text, .int t_length, .ref a_t_passing, .int t_at, .int t_fault, .int t_open, .int t_asked, .int t_byGun, .int t_prizeMost, .ref a_t_order, .ref a_t_times, .int t_listed])), (a_t_now, .inl (cI, 1562, .inl t_now))] sz) := by
  refine Met.ofW (cc := cX11_put) (maxL := 4) (ret := none) (by decide) rfl ?_
  intro p e s m args below meth c s₁ B hml hv
  obtain ⟨rfl, hsz, hP, hK, hN, hZ, hD0⟩ := hv
  have hx := B.exec
  have hb := B.bytes
  have hr := B.returns
  have hts := atoms_spec (ws := wsX11_put) B.pre
  have hown : s.vm.findClass RX11 = some m.cls := findClass_of_methodNamed B.named
  have hlocks := B.notSynchronized
  subst hsz
  have hD := hD0.self (sz := s.heap.size)
  generalize hAe : va_A [(a_t, .inr (11, [.int t_thrown, .ref a_t_now, .ref a_t_kept, .int t_isKept, .ref a_t_text, .int t_length, .ref a_t_passing, .int t_at, .int t_fault, .int t_open, .int t_asked, .int t_byGun, .int t_prizeMost, .ref a_t_order, .ref a_t_times, .int t_listed])), (a_t_now, .inl (cI, 1562, .inl t_now))] s.heap.size = A at hD hZ ⊢
  have hA : ∀ q : Nat, s.heap.size ≤ q → A q := fun q h => by rw [← hAe]; exact Or.inr h
  have hS : va_S A s.heap s.heap [] := va_S.rf
  have hl := lv_entry ([.ref a_t, .int x1, .int x2, .int x3]) (n := 4) (Nat.le_of_ble_eq_true rfl)
  rw [lg_entry_eq]
  generalize (lg_sl ([.ref a_t, .int x1, .int x2, .int x3]) ++ List.replicate (4 - (lg_sl ([.ref a_t, .int x1, .int x2, .int x3])).length) Slot.unset).toArray = ls at hl ⊢
  have hl : lv_has ls 4 [(0, .ref a_t), (1, .int x1), (2, .int x2), (3, .int x3)] := hl
  unfold fX11_put at h
  refine lv_aload_n hx hb dX11_put_0 rfl (lv_at hl 0 rfl) ?_
  refine va_get (D := D) (ci := 11) (C := RX11) (T := TX11) (N := 16) hx hb hts qX11_put_X11 hown hK hP 0 rfl rfl 1 (by decide) (hts _ kX11_put_0) (fun _ h9 => h9) rfl dX11_put_1 ?_
  refine lv_bipush (v := (122 : Int32)) hx hb dX11_put_4 rfl ?_
  refine lv_bipush (v := (24 : Int32)) hx hb dX11_put_6 rfl ?_
  refine lv_iload_n hx hb dX11_put_8 rfl (lv_at hl 1 rfl) ?_
  refine lv_imul hx hb dX11_put_9 ?_
  refine lv_iadd hx hb dX11_put_10 ?_
  refine lv_iload_n hx hb dX11_put_11 rfl (lv_at hl 2 rfl) ?_
  refine lv_iadd hx hb dX11_put_12 ?_
  refine lv_iload_n hx hb dX11_put_13 rfl (lv_at hl 3 rfl) ?_
  obtain ⟨i1, h⟩ := zz_i h
  refine va_iast hx hb hK hP hD hS 1 1 rfl rfl i1 dX11_put_14 (fun H locs hP hD hS => ?_)
  have hP : va_P D vwCl [(a_t, .inr (11, [.int t_thrown, .ref a_t_now, .ref a_t_kept, .int t_isKept, .ref a_t_text, .int t_length, .ref a_t_passing, .int t_at, .int t_fault, .int t_open, .int t_asked, .int t_byGun, .int t_prizeMost, .ref a_t_order, .ref a_t_times, .int t_listed])), (a_t_now, .inl (cI, 1562, .inl (upd t_now ((((122 : Int32) + ((24 : Int32) * x1)) + x2)).toNatClampNeg x3)))] H := hP
  have hD : va_D A [(a_t, .inr (11, [.int t_thrown, .ref a_t_now, .ref a_t_kept, .int t_isKept, .ref a_t_text, .int t_length, .ref a_t_passing, .int t_at, .int t_fault, .int t_open, .int t_asked, .int t_byGun, .int t_prizeMost, .ref a_t_order, .ref a_t_times, .int t_listed])), (a_t_now, .inl (cI, 1562, .inl (upd t_now ((((122 : Int32) + ((24 : Int32) * x1)) + x2)).toNatClampNeg x3)))] := hD
  have j0_ := Option.some.inj h
  subst j0_
  exact W.vret hx hb hr (fun t ht hW => ⟨⟨(), rfl, trivial, zPost.of hP hD hK ht hW [0, 1] rfl rfl rfl⟩, hS.F ht⟩) hS.2.2 dX11_put_15
/-! RunDeskModel.isMat -/
theorem dX11_isMat_0 : decode cX11_isMat 0 = .ok (.iload_n 1, 1) := by decide +kernel
theorem dX11_isMat_1 : decode cX11_isMat 1 = .ok (.ifCond .lt 15, 3) := by decide +kernel
theorem dX11_isMat_4 : decode cX11_isMat 4 = .ok (.iload_n 1, 1) := by decide +kernel
theorem dX11_isMat_5 : decode cX11_isMat 5 = .ok (.aload_n 0, 1) := by decide +kernel
theorem dX11_isMat_6 : decode cX11_isMat 6 = .ok (.invokevirtual 41, 3) := by decide +kernel
theorem dX11_isMat_9 : decode cX11_isMat 9 = .ok (.if_icmp .ge 7, 3) := by decide +kernel
theorem dX11_isMat_12 : decode cX11_isMat 12 = .ok (.iconst 1, 1) := by decide +kernel
theorem dX11_isMat_13 : decode cX11_isMat 13 = .ok (.goto 4, 3) := by decide +kernel
theorem dX11_isMat_16 : decode cX11_isMat 16 = .ok (.iconst 0, 1) := by decide +kernel
theorem dX11_isMat_17 : decode cX11_isMat 17 = .ok (.ireturn, 1) := by decide +kernel
set_option maxRecDepth 20000 in
theorem ggX11_isMat_X11_mats : GoodIn wsX11_isMat wsX11_mats := goodIn_r _ [5, 6, 7, 8, 9, 10, 11, 12, 13, 14, 15, 16, 17, 18, 19, 20, 21, 22] (by decide +kernel) (by decide +kernel)
set_option maxRecDepth 20000 in
theorem gX11_isMat_X11_mats : GoodIn wsX11_isMat (wsV RX11 41 RX11 yX11_mats wsX11_mats) := goodIn_app (goodIn_of _ (by decide +kernel)) ggX11_isMat_X11_mats
def fX11_isMat (t_now : Nat → Int32) (x1 : Int32) : Option (Bool) := (if x1 < 0 then some (false) else ((fX11_mats t_now).bind (fun r2 => (if r2 ≤ x1 then some (false) else some (true)))))
set_option maxHeartbeats 4000000 in
set_option maxRecDepth 100000 in
theorem mX11_isMat (l : Launch) (D : va_G) (cB cI cZ : ClassId) (a_t : Nat) (a_t_now : Nat) (a_t_kept : Nat) (a_t_text : Nat) (a_t_passing : Nat) (a_t_order : Nat) (a_t_times : Nat) (t_thrown : Int32) (t_isKept : Int32) (t_length : Int32) (t_at : Int32) (t_fault : Int32) (t_open : Int32) (t_asked : Int32) (t_byGun : Int32) (t_prizeMost : Int32) (t_listed : Int32) (t_now : Nat → Int32) (sz : Nat) (x1 : Int32) (b0 : Bool) (h : fX11_isMat t_now x1 = some (b0)) : Met l yX11_isMat wsX11_isMat ({ frames := 1, cells := 0, slots := 0, locals := 20 } : Room) (va_Pc [.ref a_t, .int x1] (zPre D (zT cB cI cZ) [(a_t, .inr (11, [.int t_thrown, .ref a_t_now, .ref a_t_kept, .int t_isKept, .ref a_t_text, .int t_length, .ref a_t_passing, .int t_at, .int t_fault, .int t_open, .int t_asked, .int t_byGun, .int t_prizeMost, .ref a_t_order, .ref a_t_times, .int t_listed])), (a_t_now, .inl (cI, 1562, .inl t_now))] sz)) (zQi (zb b0) D (zT cB cI cZ) [(a_t, .inr (11, [.int t_thrown, .ref a_t_now, .ref a_t_kept, .int t_isKept, .ref a_t_text, .int t_length, .ref a_t_passing, .int t_at, .int t_fault, .int t_open, .int t_asked, .int t_byGun, .int t_prizeMost, .ref a_t_order, .ref a_t_times, .int t_listed])), (a_t_now, .inl (cI, 1562, .inl t_now))] (va_A [(a_t, .inr (11, [.int t_thrown, .ref a_t_now, .ref a_t_kept, .int t_isKept, .ref a_t_text, .int t_length, .ref a_t_passing, .int t_at, .int t_fault, .int t_open, .int t_asked, .int t_byGun, .int t_prizeMost, .ref a_t_order, .ref a_t_times, .int t_listed])), (a_t_now, .inl (cI, 1562, .inl t_now))] sz)) 0 0 (va_A [(a_t, .inr (11, [.int t_thrown, .ref a_t_now, .ref a_t_kept, .int t_isKept, .ref a_t_text, .int t_length, .ref a_t_passing, .int t_at, .int t_fault, .int t_open, .int t_asked, .int t_byGun, .int t_prizeMost, .ref a_t_order, .ref a_t_times, .int t_listed])), (a_t_now, .inl (cI, 1562, .inl t_now))] sz) := by
  refine Met.ofW (cc := cX11_isMat) (maxL := 2) (ret := (some .boolean)) (by decide) rfl ?_
  intro p e s m args below meth c s₁ B hml hv
  obtain ⟨rfl, hsz, hP, hK, hN, hZ, hD0⟩ := hv
  have hx := B.exec
  have hb := B.bytes
  have hr := B.returns
  have hts := atoms_spec (ws := wsX11_isMat) B.pre
  have hown : s.vm.findClass RX11 = some m.cls := findClass_of_methodNamed B.named
  have hlocks := B.notSynchronized
  subst hsz
  have hD := hD0.self (sz := s.heap.size)
  generalize hAe : va_A [(a_t, .inr (11, [.int t_thrown, .ref a_t_now, .ref a_t_kept, .int t_isKept, .ref a_t_text, .int t_length, .ref a_t_passing, .int t_at, .int t_fault, .int t_open, .int t_asked, .int t_byGun, .int t_prizeMost, .ref a_t_order, .ref a_t_times, .int t_listed])), (a_t_now, .inl (cI, 1562, .inl t_now))] s.heap.size = A at hD hZ ⊢
  have hA : ∀ q : Nat, s.heap.size ≤ q → A q := fun q h => by rw [← hAe]; exact Or.inr h
  have hS : va_S A s.heap s.heap [] := va_S.rf
  have hl := lv_entry ([.ref a_t, .int x1]) (n := 2) (Nat.le_of_ble_eq_true rfl)
  rw [lg_entry_eq]
  generalize (lg_sl ([.ref a_t, .int x1]) ++ List.replicate (2 - (lg_sl ([.ref a_t, .int x1])).length) Slot.unset).toArray = ls at hl ⊢
  have hl : lv_has ls 2 [(0, .ref a_t), (1, .int x1)] := hl
  unfold fX11_isMat at h
  refine lv_iload_n hx hb dX11_isMat_0 rfl (lv_at hl 1 rfl) ?_
  refine lv_if_lt (tgt := 16) hx hb dX11_isMat_1 (by decide) (fun c1 => ?_) (fun c1 => ?_)
  · have h := zz_t h c1
    refine lv_iconst (v := (0 : Int32)) hx hb dX11_isMat_16 rfl ?_
    have j0_ := Option.some.inj h
    subst j0_
    exact W.zret (v := (0 : Int32)) hx hb hr rfl (fun t ht hW => ⟨⟨_, (), rfl, rfl, zPost.of hP hD hK ht hW [0, 1] rfl rfl rfl⟩, hS.F ht⟩) hS.2.2 dX11_isMat_17
  · have h := zz_f h c1
    refine lv_iload_n hx hb dX11_isMat_4 rfl (lv_at hl 1 rfl) ?_
    refine lv_aload_n hx hb dX11_isMat_5 rfl (lv_at hl 0 rfl) ?_
    obtain ⟨r2, e3, h⟩ := zz_b h
    refine zVi (As := []) (rest := [.int x1]) (C := RX11) (wr := []) [0, 1] [] 0 ⟨hx, hb, hml, hown, hts⟩ (mX11_mats l D cB cI cZ a_t a_t_now a_t_kept a_t_text a_t_passing a_t_order a_t_times t_thrown t_isKept t_length t_at t_fault t_open t_asked t_byGun t_prizeMost t_listed t_now s.heap.size r2 e3) (cwV 0 hts gX11_isMat_X11_mats rfl rfl rfl (by decide +kernel) ⟨Nat.le_of_ble_eq_true rfl, Nat.le_of_ble_eq_true rfl⟩) hK hN hZ hP hD hS hA rfl rfl rfl rfl rfl rfl rfl rfl hl.1 rfl (lv_room (Nat.le_of_ble_eq_true rfl)) dX11_isMat_6 ⟨Nat.le_of_ble_eq_true rfl, Nat.le_of_ble_eq_true rfl⟩ (fun H locs hP hD hS => ?_)
    have hP : va_P D vwCl [(a_t, .inr (11, [.int t_thrown, .ref a_t_now, .ref a_t_kept, .int t_isKept, .ref a_t_text, .int t_length, .ref a_t_passing, .int t_at, .int t_fault, .int t_open, .int t_asked, .int t_byGun, .int t_prizeMost, .ref a_t_order, .ref a_t_times, .int t_listed])), (a_t_now, .inl (cI, 1562, .inl t_now))] H := hP
    have hD : va_D A [(a_t, .inr (11, [.int t_thrown, .ref a_t_now, .ref a_t_kept, .int t_isKept, .ref a_t_text, .int t_length, .ref a_t_passing, .int t_at, .int t_fault, .int t_open, .int t_asked, .int t_byGun, .int t_prizeMost, .ref a_t_order, .ref a_t_times, .int t_listed])), (a_t_now, .inl (cI, 1562, .inl t_now))] := hD
    refine lv_icmp_ge (tgt := 16) hx hb dX11_isMat_9 (by decide) (fun c4 => ?_) (fun c4 => ?_)
    · have h := zz_t h c4
      refine lv_iconst (v := (0 : Int32)) hx hb dX11_isMat_16 rfl ?_
      have j0_ := Option.some.inj h
      subst j0_
      exact W.zret (v := (0 : Int32)) hx hb hr rfl (fun t ht hW => ⟨⟨_, (), rfl, rfl, zPost.of hP hD hK ht hW [0, 1] rfl rfl rfl⟩, hS.F ht⟩) hS.2.2 dX11_isMat_17
    · have h := zz_f h c4
      refine lv_iconst (v := (1 : Int32)) hx hb dX11_isMat_12 rfl ?_
      refine lv_goto (tgt := 17) hx hb dX11_isMat_13 (by decide) ?_
      have j0_ := Option.some.inj h
      subst j0_
      exact W.zret (v := (1 : Int32)) hx hb hr rfl (fun t ht hW => ⟨⟨_, (), rfl, rfl, zPost.of hP hD hK ht hW [0, 1] rfl rfl rfl⟩, hS.F ht⟩) hS.2.2 dX11_isMat_17
/-! RunDeskModel.isRunner -/
theorem dX11_isRunner_0 : decode cX11_isRunner 0 = .ok (.aload_n 0, 1) := by decide +kernel
theorem dX11_isRunner_1 : decode cX11_isRunner 1 = .ok (.iconst 0, 1) := by decide +kernel
theorem dX11_isRunner_2 : decode cX11_isRunner 2 = .ok (.putfield 37, 3) := by decide +kernel
theorem dX11_isRunner_5 : decode cX11_isRunner 5 = .ok (.iload_n 1, 1) := by decide +kernel
theorem dX11_isRunner_6 : decode cX11_isRunner 6 = .ok (.ifCond .lt 15, 3) := by decide +kernel
theorem dX11_isRunner_9 : decode cX11_isRunner 9 = .ok (.iload_n 1, 1) := by decide +kernel
theorem dX11_isRunner_10 : decode cX11_isRunner 10 = .ok (.aload_n 0, 1) := by decide +kernel
theorem dX11_isRunner_11 : decode cX11_isRunner 11 = .ok (.invokevirtual 45, 3) := by decide +kernel
theorem dX11_isRunner_14 : decode cX11_isRunner 14 = .ok (.if_icmp .ge 7, 3) := by decide +kernel
theorem dX11_isRunner_17 : decode cX11_isRunner 17 = .ok (.iconst 1, 1) := by decide +kernel
theorem dX11_isRunner_18 : decode cX11_isRunner 18 = .ok (.goto 4, 3) := by decide +kernel
theorem dX11_isRunner_21 : decode cX11_isRunner 21 = .ok (.iconst 0, 1) := by decide +kernel
theorem dX11_isRunner_22 : decode cX11_isRunner 22 = .ok (.ireturn, 1) := by decide +kernel
set_option maxRecDepth 20000 in
theorem ggX11_isRunner_X11_runners : GoodIn wsX11_isRunner wsX11_runners := goodIn_r _ [6, 7, 8, 9, 10, 11, 12, 13, 14, 15, 16, 17, 18, 19, 20, 21, 22, 23] (by decide +kernel) (by decide +kernel)
set_option maxRecDepth 20000 in
theorem gX11_isRunner_X11_runners : GoodIn wsX11_isRunner (wsV RX11 45 RX11 yX11_runners wsX11_runners) := goodIn_app (goodIn_of _ (by decide +kernel)) ggX11_isRunner_X11_runners
def fX11_isRunner (t_thrown : Int32) (t_now : Nat → Int32) (x1 : Int32) : Option (Bool × Int32) := (if x1 < 0 then some (false, (0 : Int32)) else ((fX11_runners t_now).bind (fun r2 => (if r2 ≤ x1 then some (false, (0 : Int32)) else some (true, (0 : Int32))))))
theorem kX11_isRunner_0 : (.fieldLink RX11 37 "RunDeskModel" "thrown" "I" : Cond) ∈ wsX11_isRunner := List.mem_of_getElem? (i := 1) (by decide +kernel)
theorem qX11_isRunner_X11 : ∀ w ∈ wsX110, w ∈ wsX11_isRunner := fun _ h => List.mem_cons_of_mem _ (List.mem_append_right _ (h))
set_option maxHeartbeats 4000000 in
set_option maxRecDepth 100000 in
theorem mX11_isRunner (l : Launch) (D : va_G) (cB cI cZ : ClassId) (a_t : Nat) (a_t_now : Nat) (a_t_kept : Nat) (a_t_text : Nat) (a_t_passing : Nat) (a_t_order : Nat) (a_t_times : Nat) (t_thrown : Int32) (t_isKept : Int32) (t_length : Int32) (t_at : Int32) (t_fault : Int32) (t_open : Int32) (t_asked : Int32) (t_byGun : Int32) (t_prizeMost : Int32) (t_listed : Int32) (t_now : Nat → Int32) (sz : Nat) (x1 : Int32) (b0 : Bool) (t_thrown' : Int32) (h : fX11_isRunner t_thrown t_now x1 = some (b0, t_thrown')) : Met l yX11_isRunner wsX11_isRunner ({ frames := 1, cells := 0, slots := 0, locals := 20 } : Room) (va_Pc [.ref a_t, .int x1] (zPre D (zT cB cI cZ) [(a_t, .inr (11, [.int t_thrown, .ref a_t_now, .ref a_t_kept, .int t_isKept, .ref a_t_text, .int t_length, .ref a_t_passing, .int t_at, .int t_fault, .int t_open, .int t_asked, .int t_byGun, .int t_prizeMost, .ref a_t_order, .ref a_t_times, .int t_listed])), (a_t_now, .inl (cI, 1562, .inl t_now))] sz)) (zQi (zb b0) D (zT cB cI cZ) [(a_t, .inr (11, [.int t_thrown', .ref a_t_now, .ref a_t_kept, .int t_isKept, .ref a_t_text, .int t_length, .ref a_t_passing, .int t_at, .int t_fault, .int t_open, .int t_asked, .int t_byGun, .int t_prizeMost, .ref a_t_order, .ref a_t_times, .int t_listed])), (a_t_now, .inl (cI, 1562, .inl t_now))] (va_A [(a_t, .inr (11, [.int t_thrown, .ref a_t_now, .ref a_t_kept, .int t_isKept, .ref a_t_text, .int t_length, .ref a_t_passing, .int t_at, .int t_fault, .int t_open, .int t_asked, .int t_byGun, .int t_prizeMost, .ref a_t_order, .ref a_t_times, .int t_listed])), (a_t_now, .inl (cI, 1562, .inl t_now))] sz)) 0 0 (va_A [(a_t, .inr (11, [.int t_thrown, .ref a_t_now, .ref a_t_kept, .int t_isKept, .ref a_t_text, .int t_length, .ref a_t_passing, .int t_at, .int t_fault, .int t_open, .int t_asked, .int t_byGun, .int t_prizeMost, .ref a_t_order, .ref a_t_times, .int t_listed])), (a_t_now, .inl (cI, 1562, .inl t_now))] sz) := by
  refine Met.ofW (cc := cX11_isRunner) (maxL := 2) (ret := (some .boolean)) (by decide) rfl ?_
  intro p e s m args below meth c s₁ B hml hv
  obtain ⟨rfl, hsz, hP, hK, hN, hZ, hD0⟩ := hv
  have hx := B.exec
  have hb := B.bytes
  have hr := B.returns
  have hts := atoms_spec (ws := wsX11_isRunner) B.pre
  have hown : s.vm.findClass RX11 = some m.cls := findClass_of_methodNamed B.named
  have hlocks := B.notSynchronized
  subst hsz
  have hD := hD0.self (sz := s.heap.size)
  generalize hAe : va_A [(a_t, .inr (11, [.int t_thrown, .ref a_t_now, .ref a_t_kept, .int t_isKept, .ref a_t_text, .int t_length, .ref a_t_passing, .int t_at, .int t_fault, .int t_open, .int t_asked, .int t_byGun, .int t_prizeMost, .ref a_t_order, .ref a_t_times, .int t_listed])), (a_t_now, .inl (cI, 1562, .inl t_now))] s.heap.size = A at hD hZ ⊢
  have hA : ∀ q : Nat, s.heap.size ≤ q → A q := fun q h => by rw [← hAe]; exact Or.inr h
  have hS : va_S A s.heap s.heap [] := va_S.rf
  have hl := lv_entry ([.ref a_t, .int x1]) (n := 2) (Nat.le_of_ble_eq_true rfl)
  rw [lg_entry_eq]
  generalize (lg_sl ([.ref a_t, .int x1]) ++ List.replicate (2 - (lg_sl ([.ref a_t, .int x1])).length) Slot.unset).toArray = ls at hl ⊢
  have hl : lv_has ls 2 [(0, .ref a_t), (1, .int x1)] := hl
  unfold fX11_isRunner at h
  refine lv_aload_n hx hb dX11_isRunner_0 rfl (lv_at hl 0 rfl) ?_
  refine lv_iconst (v := (0 : Int32)) hx hb dX11_isRunner_1 rfl ?_
  refine va_put (D := D) (ci := 11) (ty := .int) (C := RX11) (T := TX11) (N := 16) hx hb hts qX11_isRunner_X11 tyX11 tyX11_ok nmX11 hown hK hP hD hS 0 rfl rfl 0 (by decide) (hts _ kX11_isRunner_0) (fun _ h9 => h9) rfl (by decide +kernel) rfl (by first | rfl | exact zz_fit) (Nat.le_of_ble_eq_true rfl) dX11_isRunner_2 (fun H locs hP hD hS => ?_)
  have hP : va_P D vwCl [(a_t, .inr (11, [.int (0 : Int32), .ref a_t_now, .ref a_t_kept, .int t_isKept, .ref a_t_text, .int t_length, .ref a_t_passing, .int t_at, .int t_fault, .int t_open, .int t_asked, .int t_byGun, .int t_prizeMost, .ref a_t_order, .ref a_t_times, .int t_listed])), (a_t_now, .inl (cI, 1562, .inl t_now))] H := hP
  have hD : va_D A [(a_t, .inr (11, [.int (0 : Int32), .ref a_t_now, .ref a_t_kept, .int t_isKept, .ref a_t_text, .int t_length, .ref a_t_passing, .int t_at, .int t_fault, .int t_open, .int t_asked, .int t_byGun, .int t_prizeMost, .ref a_t_order, .ref a_t_times, .int t_listed])), (a_t_now, .inl (cI, 1562, .inl t_now))] := hD
  refine lv_iload_n hx hb dX11_isRunner_5 rfl (lv_at hl 1 rfl) ?_
  refine lv_if_lt (tgt := 21) hx hb dX11_isRunner_6 (by decide) (fun c1 => ?_) (fun c1 => ?_)
  · have h := zz_t h c1
    refine lv_iconst (v := (0 : Int32)) hx hb dX11_isRunner_21 rfl ?_
    obtain ⟨j0_, g_⟩ := Prod.mk.inj (Option.some.inj h)
    have j1_ := g_
    subst j0_
    subst j1_
    exact W.zret (v := (0 : Int32)) hx hb hr rfl (fun t ht hW => ⟨⟨_, (), rfl, rfl, zPost.of hP hD hK ht hW [0, 1] rfl rfl rfl⟩, hS.F ht⟩) hS.2.2 dX11_isRunner_22
  · have h := zz_f h c1
    refine lv_iload_n hx hb dX11_isRunner_9 rfl (lv_at hl 1 rfl) ?_
    refine lv_aload_n hx hb dX11_isRunner_10 rfl (lv_at hl 0 rfl) ?_
    obtain ⟨r2, e3, h⟩ := zz_b h
    refine zVi (As := []) (rest := [.int x1]) (C := RX11) (wr := []) [0, 1] [] 0 ⟨hx, hb, hml, hown, hts⟩ (mX11_runners l D cB cI cZ a_t a_t_now a_t_kept a_t_text a_t_passing a_t_order a_t_times (0 : Int32) t_isKept t_length t_at t_fault t_open t_asked t_byGun t_prizeMost t_listed t_now H.size r2 e3) (cwV 0 hts gX11_isRunner_X11_runners rfl rfl rfl (by decide +kernel) ⟨Nat.le_of_ble_eq_true rfl, Nat.le_of_ble_eq_true rfl⟩) hK hN hZ hP hD hS hA rfl rfl rfl rfl rfl rfl rfl rfl hl.1 rfl (lv_room (Nat.le_of_ble_eq_true rfl)) dX11_isRunner_11 ⟨Nat.le_of_ble_eq_true rfl, Nat.le_of_ble_eq_true rfl⟩ (fun H locs hP hD hS => ?_)
    have hP : va_P D vwCl [(a_t, .inr (11, [.int (0 : Int32), .ref a_t_now, .ref a_t_kept, .int t_isKept, .ref a_t_text, .int t_length, .ref a_t_passing, .int t_at, .int t_fault, .int t_open, .int t_asked, .int t_byGun, .int t_prizeMost, .ref a_t_order, .ref a_t_times, .int t_listed])), (a_t_now, .inl (cI, 1562, .inl t_now))] H := hP
    have hD : va_D A [(a_t, .inr (11, [.int (0 : Int32), .ref a_t_now, .ref a_t_kept, .int t_isKept, .ref a_t_text, .int t_length, .ref a_t_passing, .int t_at, .int t_fault, .int t_open, .int t_asked, .int t_byGun, .int t_prizeMost, .ref a_t_order, .ref a_t_times, .int t_listed])), (a_t_now, .inl (cI, 1562, .inl t_now))] := hD
    refine lv_icmp_ge (tgt := 21) hx hb dX11_isRunner_14 (by decide) (fun c4 => ?_) (fun c4 => ?_)
    · have h := zz_t h c4
      refine lv_iconst (v := (0 : Int32)) hx hb dX11_isRunner_21 rfl ?_
      obtain ⟨j0_, g_⟩ := Prod.mk.inj (Option.some.inj h)
      have j1_ := g_
      subst j0_
      subst j1_
      exact W.zret (v := (0 : Int32)) hx hb hr rfl (fun t ht hW => ⟨⟨_, (), rfl, rfl, zPost.of hP hD hK ht hW [0, 1] rfl rfl rfl⟩, hS.F ht⟩) hS.2.2 dX11_isRunner_22
    · have h := zz_f h c4
      refine lv_iconst (v := (1 : Int32)) hx hb dX11_isRunner_17 rfl ?_
      refine lv_goto (tgt := 22) hx hb dX11_isRunner_18 (by decide) ?_
      obtain ⟨j0_, g_⟩ := Prod.mk.inj (Option.some.inj h)
      have j1_ := g_
      subst j0_
      subst j1_
      exact W.zret (v := (1 : Int32)) hx hb hr rfl (fun t ht hW => ⟨⟨_, (), rfl, rfl, zPost.of hP hD hK ht hW [0, 1] rfl rfl rfl⟩, hS.F ht⟩) hS.2.2 dX11_isRunner_22
/-! RunDeskModel.isIn -/
theorem dX11_isIn_0 : decode cX11_isIn 0 = .ok (.iload_n 0, 1) := by decide +kernel
theorem dX11_isIn_1 : decode cX11_isIn 1 = .ok (.iload_n 1, 1) := by decide +kernel
theorem dX11_isIn_2 : decode cX11_isIn 2 = .ok (.if_icmp .lt 12, 3) := by decide +kernel
theorem dX11_isIn_5 : decode cX11_isIn 5 = .ok (.iload_n 0, 1) := by decide +kernel
theorem dX11_isIn_6 : decode cX11_isIn 6 = .ok (.iload_n 2, 1) := by decide +kernel
theorem dX11_isIn_7 : decode cX11_isIn 7 = .ok (.if_icmp .gt 7, 3) := by decide +kernel
theorem dX11_isIn_10 : decode cX11_isIn 10 = .ok (.iconst 1, 1) := by decide +kernel
theorem dX11_isIn_11 : decode cX11_isIn 11 = .ok (.goto 4, 3) := by decide +kernel
theorem dX11_isIn_14 : decode cX11_isIn 14 = .ok (.iconst 0, 1) := by decide +kernel
theorem dX11_isIn_15 : decode cX11_isIn 15 = .ok (.ireturn, 1) := by decide +kernel
def fX11_isIn (x1 : Int32) (x2 : Int32) (x3 : Int32) : Option (Bool) := (if x1 < x2 then some (false) else (if x3 < x1 then some (false) else some (true)))
set_option maxHeartbeats 4000000 in
set_option maxRecDepth 100000 in
theorem mX11_isIn (l : Launch) (D : va_G) (cB cI cZ : ClassId) (sz : Nat) (x1 : Int32) (x2 : Int32) (x3 : Int32) (b0 : Bool) (h : fX11_isIn x1 x2 x3 = some (b0)) : Met l yX11_isIn wsX11_isIn ({ frames := 0, cells := 0, slots := 0, locals := 0 } : Room) (va_Pc [.int x1, .int x2, .int x3] (zPre D (zT cB cI cZ) [] sz)) (zQi (zb b0) D (zT cB cI cZ) [] (va_A [] sz)) 0 0 (va_A [] sz) := by
  refine Met.ofW (cc := cX11_isIn) (maxL := 3) (ret := (some .boolean)) (by decide) rfl ?_
  intro p e s m args below meth c s₁ B hml hv
  obtain ⟨rfl, hsz, hP, hK, hN, hZ, hD0⟩ := hv
  have hx := B.exec
  have hb := B.bytes
  have hr := B.returns
  have hts := atoms_spec (ws := wsX11_isIn) B.pre
  have hown : s.vm.findClass RX11 = some m.cls := findClass_of_methodNamed B.named
  have hlocks := B.notSynchronized
  subst hsz
  have hD := hD0.self (sz := s.heap.size)
  generalize hAe : va_A [] s.heap.size = A at hD hZ ⊢
  have hA : ∀ q : Nat, s.heap.size ≤ q → A q := fun q h => by rw [← hAe]; exact Or.inr h
  have hS : va_S A s.heap s.heap [] := va_S.rf
  have hl := lv_entry ([.int x1, .int x2, .int x3]) (n := 3) (Nat.le_of_ble_eq_true rfl)
  rw [lg_entry_eq]
  generalize (lg_sl ([.int x1, .int x2, .int x3]) ++ List.replicate (3 - (lg_sl ([.int x1, .int x2, .int x3])).length) Slot.unset).toArray = ls at hl ⊢
  have hl : lv_has ls 3 [(0, .int x1), (1, .int x2), (2, .int x3)] := hl
  unfold fX11_isIn at h
  refine lv_iload_n hx hb dX11_isIn_0 rfl (lv_at hl 0 rfl) ?_
  refine lv_iload_n hx hb dX11_isIn_1 rfl (lv_at hl 1 rfl) ?_
  refine lv_icmp_lt (tgt := 14) hx hb dX11_isIn_2 (by decide) (fun c1 => ?_) (fun c1 => ?_)
  · have h := zz_t h c1
    refine lv_iconst (v := (0 : Int32)) hx hb dX11_isIn_14 rfl ?_
    have j0_ := Option.some.inj h
    subst j0_
    exact W.zret (v := (0 : Int32)) hx hb hr rfl (fun t ht hW => ⟨⟨_, (), rfl, rfl, zPost.of hP hD hK ht hW [] rfl rfl rfl⟩, hS.F ht⟩) hS.2.2 dX11_isIn_15
  · have h := zz_f h c1
    refine lv_iload_n hx hb dX11_isIn_5 rfl (lv_at hl 0 rfl) ?_
    refine lv_iload_n hx hb dX11_isIn_6 rfl (lv_at hl 2 rfl) ?_
    refine lv_icmp_gt (tgt := 14) hx hb dX11_isIn_7 (by decide) (fun c2 => ?_) (fun c2 => ?_)
    · have h := zz_t h c2
      refine lv_iconst (v := (0 : Int32)) hx hb dX11_isIn_14 rfl ?_
      have j0_ := Option.some.inj h
      subst j0_
      exact W.zret (v := (0 : Int32)) hx hb hr rfl (fun t ht hW => ⟨⟨_, (), rfl, rfl, zPost.of hP hD hK ht hW [] rfl rfl rfl⟩, hS.F ht⟩) hS.2.2 dX11_isIn_15
    · have h := zz_f h c2
      refine lv_iconst (v := (1 : Int32)) hx hb dX11_isIn_10 rfl ?_
      refine lv_goto (tgt := 15) hx hb dX11_isIn_11 (by decide) ?_
      have j0_ := Option.some.inj h
      subst j0_
      exact W.zret (v := (1 : Int32)) hx hb hr rfl (fun t ht hW => ⟨⟨_, (), rfl, rfl, zPost.of hP hD hK ht hW [] rfl rfl rfl⟩, hS.F ht⟩) hS.2.2 dX11_isIn_15
/-! RunDeskModel.adds -/
theorem dX11_adds_0 : decode cX11_adds 0 = .ok (.bipush 8, 2) := by decide +kernel
theorem dX11_adds_2 : decode cX11_adds 2 = .ok (.iconst 4, 1) := by decide +kernel
theorem dX11_adds_3 : decode cX11_adds 3 = .ok (.aload_n 0, 1) := by decide +kernel
theorem dX11_adds_4 : decode cX11_adds 4 = .ok (.invokevirtual 41, 3) := by decide +kernel
theorem dX11_adds_7 : decode cX11_adds 7 = .ok (.imul, 1) := by decide +kernel
theorem dX11_adds_8 : decode cX11_adds 8 = .ok (.iadd, 1) := by decide +kernel
theorem dX11_adds_9 : decode cX11_adds 9 = .ok (.istore_n 3, 1) := by decide +kernel
theorem dX11_adds_10 : decode cX11_adds 10 = .ok (.aload_n 0, 1) := by decide +kernel
theorem dX11_adds_11 : decode cX11_adds 11 = .ok (.getfield 9, 3) := by decide +kernel
theorem dX11_adds_14 : decode cX11_adds 14 = .ok (.iload_n 3, 1) := by decide +kernel
theorem dX11_adds_15 : decode cX11_adds 15 = .ok (.iconst 0, 1) := by decide +kernel
theorem dX11_adds_16 : decode cX11_adds 16 = .ok (.iadd, 1) := by decide +kernel
theorem dX11_adds_17 : decode cX11_adds 17 = .ok (.iload_n 1, 1) := by decide +kernel
theorem dX11_adds_18 : decode cX11_adds 18 = .ok (.iastore, 1) := by decide +kernel
theorem dX11_adds_19 : decode cX11_adds 19 = .ok (.aload_n 0, 1) := by decide +kernel
theorem dX11_adds_20 : decode cX11_adds 20 = .ok (.getfield 9, 3) := by decide +kernel
theorem dX11_adds_23 : decode cX11_adds 23 = .ok (.iload_n 3, 1) := by decide +kernel
theorem dX11_adds_24 : decode cX11_adds 24 = .ok (.iconst 1, 1) := by decide +kernel
theorem dX11_adds_25 : decode cX11_adds 25 = .ok (.iadd, 1) := by decide +kernel
theorem dX11_adds_26 : decode cX11_adds 26 = .ok (.iload_n 2, 1) := by decide +kernel
theorem dX11_adds_27 : decode cX11_adds 27 = .ok (.iastore, 1) := by decide +kernel
theorem dX11_adds_28 : decode cX11_adds 28 = .ok (.aload_n 0, 1) := by decide +kernel
theorem dX11_adds_29 : decode cX11_adds 29 = .ok (.getfield 9, 3) := by decide +kernel
theorem dX11_adds_32 : decode cX11_adds 32 = .ok (.iload_n 3, 1) := by decide +kernel
theorem dX11_adds_33 : decode cX11_adds 33 = .ok (.iconst 2, 1) := by decide +kernel
theorem dX11_adds_34 : decode cX11_adds 34 = .ok (.iadd, 1) := by decide +kernel
theorem dX11_adds_35 : decode cX11_adds 35 = .ok (.iconst 0, 1) := by decide +kernel
theorem dX11_adds_36 : decode cX11_adds 36 = .ok (.iastore, 1) := by decide +kernel
theorem dX11_adds_37 : decode cX11_adds 37 = .ok (.aload_n 0, 1) := by decide +kernel
theorem dX11_adds_38 : decode cX11_adds 38 = .ok (.getfield 9, 3) := by decide +kernel
theorem dX11_adds_41 : decode cX11_adds 41 = .ok (.iload_n 3, 1) := by decide +kernel
theorem dX11_adds_42 : decode cX11_adds 42 = .ok (.iconst 3, 1) := by decide +kernel
theorem dX11_adds_43 : decode cX11_adds 43 = .ok (.iadd, 1) := by decide +kernel
theorem dX11_adds_44 : decode cX11_adds 44 = .ok (.iconst (-1), 1) := by decide +kernel
theorem dX11_adds_45 : decode cX11_adds 45 = .ok (.iastore, 1) := by decide +kernel
theorem dX11_adds_46 : decode cX11_adds 46 = .ok (.iconst 0, 1) := by decide +kernel
theorem dX11_adds_47 : decode cX11_adds 47 = .ok (.istore 4, 2) := by decide +kernel
theorem dX11_adds_49 : decode cX11_adds 49 = .ok (.iload 4, 2) := by decide +kernel
theorem dX11_adds_51 : decode cX11_adds 51 = .ok (.aload_n 0, 1) := by decide +kernel
theorem dX11_adds_52 : decode cX11_adds 52 = .ok (.invokevirtual 45, 3) := by decide +kernel
theorem dX11_adds_55 : decode cX11_adds 55 = .ok (.if_icmp .ge 23, 3) := by decide +kernel
theorem dX11_adds_58 : decode cX11_adds 58 = .ok (.aload_n 0, 1) := by decide +kernel
theorem dX11_adds_59 : decode cX11_adds 59 = .ok (.iload 4, 2) := by decide +kernel
theorem dX11_adds_61 : decode cX11_adds 61 = .ok (.bipush 12, 2) := by decide +kernel
theorem dX11_adds_63 : decode cX11_adds 63 = .ok (.aload_n 0, 1) := by decide +kernel
theorem dX11_adds_64 : decode cX11_adds 64 = .ok (.invokevirtual 41, 3) := by decide +kernel
theorem dX11_adds_67 : decode cX11_adds 67 = .ok (.iadd, 1) := by decide +kernel
theorem dX11_adds_68 : decode cX11_adds 68 = .ok (.iconst (-1), 1) := by decide +kernel
theorem dX11_adds_69 : decode cX11_adds 69 = .ok (.invokevirtual 48, 3) := by decide +kernel
theorem dX11_adds_72 : decode cX11_adds 72 = .ok (.iinc 4 1, 3) := by decide +kernel
theorem dX11_adds_75 : decode cX11_adds 75 = .ok (.goto (-26), 3) := by decide +kernel
theorem dX11_adds_78 : decode cX11_adds 78 = .ok (.aload_n 0, 1) := by decide +kernel
theorem dX11_adds_79 : decode cX11_adds 79 = .ok (.getfield 9, 3) := by decide +kernel
theorem dX11_adds_82 : decode cX11_adds 82 = .ok (.iconst 0, 1) := by decide +kernel
theorem dX11_adds_83 : decode cX11_adds 83 = .ok (.dup2, 1) := by decide +kernel
theorem dX11_adds_84 : decode cX11_adds 84 = .ok (.iaload, 1) := by decide +kernel
theorem dX11_adds_85 : decode cX11_adds 85 = .ok (.iconst 1, 1) := by decide +kernel
theorem dX11_adds_86 : decode cX11_adds 86 = .ok (.iadd, 1) := by decide +kernel
theorem dX11_adds_87 : decode cX11_adds 87 = .ok (.iastore, 1) := by decide +kernel
theorem dX11_adds_88 : decode cX11_adds 88 = .ok (.return_, 1) := by decide +kernel
set_option maxRecDepth 20000 in
theorem ggX11_adds_X11_mats : GoodIn wsX11_adds wsX11_mats := goodIn_r _ [6, 1, 15, 16, 17, 18, 19, 20, 21, 22, 23, 24, 25, 26, 27, 28, 29, 30] (by decide +kernel) (by decide +kernel)
set_option maxRecDepth 20000 in
theorem gX11_adds_X11_mats : GoodIn wsX11_adds (wsV RX11 41 RX11 yX11_mats wsX11_mats) := goodIn_app (goodIn_of _ (by decide +kernel)) ggX11_adds_X11_mats
set_option maxRecDepth 20000 in
theorem ggX11_adds_X11_runners : GoodIn wsX11_adds wsX11_runners := goodIn_r _ [10, 1, 15, 16, 17, 18, 19, 20, 21, 22, 23, 24, 25, 26, 27, 28, 29, 30] (by decide +kernel) (by decide +kernel)
set_option maxRecDepth 20000 in
theorem gX11_adds_X11_runners : GoodIn wsX11_adds (wsV RX11 45 RX11 yX11_runners wsX11_runners) := goodIn_app (goodIn_of _ (by decide +kernel)) ggX11_adds_X11_runners
set_option maxRecDepth 20000 in
theorem ggX11_adds_X11_put : GoodIn wsX11_adds wsX11_put := goodIn_r _ [14, 1, 15, 16, 17, 18, 19, 20, 21, 22, 23, 24, 25, 26, 27, 28, 29, 30] (by decide +kernel) (by decide +kernel)
set_option maxRecDepth 20000 in
theorem gX11_adds_X11_put : GoodIn wsX11_adds (wsV RX11 48 RX11 yX11_put wsX11_put) := goodIn_app (goodIn_of _ (by decide +kernel)) ggX11_adds_X11_put
def fX11_adds_L49  (K49_78 : Int32 → (Nat → Int32) → Option ((Nat → Int32))) : Nat → Int32 → (Nat → Int32) → Option ((Nat → Int32))
  | 0, _, _ => none
  | n49 + 1, v4_49, t_now_l49 => ((fX11_runners t_now_l49).bind (fun r9 => (if r9 ≤ v4_49 then (K49_78 v4_49 t_now_l49) else ((fX11_mats t_now_l49).bind (fun r12 => ((fX11_put t_now_l49 v4_49 ((12 : Int32) + r12) (-1 : Int32)).bind (fun t_now_r14 => (fX11_adds_L49 K49_78 n49 (v4_49 + (1 : Int32)) t_now_r14))))))))
def fX11_adds (N : Nat) (t_now : Nat → Int32) (x1 : Int32) (x2 : Int32) : Option ((Nat → Int32)) := ((fX11_mats t_now).bind (fun r1 => (if zin (((8 : Int32) + ((4 : Int32) * r1)) + (0 : Int32)) 1562 then (if zin (((8 : Int32) + ((4 : Int32) * r1)) + (1 : Int32)) 1562 then (if zin (((8 : Int32) + ((4 : Int32) * r1)) + (2 : Int32)) 1562 then (if zin (((8 : Int32) + ((4 : Int32) * r1)) + (3 : Int32)) 1562 then fX11_adds_L49 (fun (v4_49 : Int32) (t_now_l49 : Nat → Int32) => (if zin (0 : Int32) 1562 then (if zin (0 : Int32) 1562 then some ((upd t_now_l49 ((0 : Int32)).toNatClampNeg ((t_now_l49 ((0 : Int32)).toNatClampNeg) + (1 : Int32)))) else none) else none)) N (0 : Int32) (upd (upd (upd (upd t_now ((((8 : Int32) + ((4 : Int32) * r1)) + (0 : Int32))).toNatClampNeg x1) ((((8 : Int32) + ((4 : Int32) * r1)) + (1 : Int32))).toNatClampNeg x2) ((((8 : Int32) + ((4 : Int32) * r1)) + (2 : Int32))).toNatClampNeg (0 : Int32)) ((((8 : Int32) + ((4 : Int32) * r1)) + (3 : Int32))).toNatClampNeg (-1 : Int32)) else none) else none) else none) else none)))
theorem kX11_adds_0 : (.fieldLink RX11 9 "RunDeskModel" "now" "[I" : Cond) ∈ wsX11_adds := List.mem_of_getElem? (i := 1) (by decide +kernel)
theorem qX11_adds_X11 : ∀ w ∈ wsX110, w ∈ wsX11_adds := fun _ h => List.mem_cons_of_mem _ (List.mem_append_right _ (h))
set_option maxHeartbeats 4000000 in
set_option maxRecDepth 100000 in
theorem mX11_adds (l : Launch) (D : va_G) (cB cI cZ : ClassId) (a_t : Nat) (a_t_now : Nat) (a_t_kept : Nat) (a_t_text : Nat) (a_t_passing : Nat) (a_t_order : Nat) (a_t_times : Nat) (t_thrown : Int32) (t_isKept : Int32) (t_length : Int32) (t_at : Int32) (t_fault : Int32) (t_open : Int32) (t_asked : Int32) (t_byGun : Int32) (t_prizeMost : Int32) (t_listed : Int32) (t_now : Nat → Int32) (sz : Nat) (x1 : Int32) (x2 : Int32) (N : Nat) (t_now' : Nat → Int32) (h : fX11_adds N t_now x1 x2 = some (t_now')) : Met l yX11_adds wsX11_adds ({ frames := 1, cells := 0, slots := 0, locals := 23 } : Room) (va_Pc [.ref a_t, .int x1, .int x2] (zPre D (zT cB cI cZ) [(a_t, .inr (11, [.int t_thrown, .ref a_t_now, .ref a_t_kept, .int t_isKept, .ref a_t_text, .int t_length, .ref a_t_passing, .int t_at, .int t_fault, .int t_open, .int t_asked, .int t_byGun, .int t_prizeMost, .ref a_t_order, .ref a_t_times, .int t_listed])), (a_t_now, .inl (cI, 1562, .inl t_now))] sz)) (zQv D (zT cB cI cZ) [(a_t, .inr (11, [.int t_thrown, .ref a_t_now, .ref a_t_kept, .int t_isKept, .ref a_t_text, .int t_length, .ref a_t_passing, .int t_at, .int t_fault, .int t_open, .int t_asked, .int t_byGun, .int t_prizeMost, .ref a_t_order, .ref a_t_times, .int t_listed])), (a_t_now, .inl (cI, 1562, .inl t_now'))] (va_A [(a_t, .inr (11, [.int t_thrown, .ref a_t_now, .ref a_t_kept, .int t_isKept, .ref a_t_text, .int t_length, .ref a_t_passing, .int t_at, .int t_fault, .int t_open, .int t_asked, .int t_byGun, .int t_prizeMost, .ref a_t_order, .ref a_t_times, .int t_listed])), (a_t_now, .inl (cI, 1562, .inl t_now))] sz)) 0 0 (va_A [(a_t, .inr (11, [.int t_thrown, .ref a_t_now, .ref a_t_kept, .int t_isKept, .ref a_t_text, .int t_length, .ref a_t_passing, .int t_at, .int t_fault, .int t_open, .int t_asked, .int t_byGun, .int t_prizeMost, .ref a_t_order, .ref a_t_times, .int t_listed])), (a_t_now, .inl (cI, 1562, .inl t_now))] sz) := by
  refine Met.ofW (cc := cX11_adds) (maxL := 5) (ret := none) (by decide) rfl ?_
  intro p e s m args below meth c s₁ B hml hv
  obtain ⟨rfl, hsz, hP, hK, hN, hZ, hD0⟩ := hv
  have hx := B.exec
  have hb := B.bytes
  have hr := B.returns
  have hts := atoms_spec (ws := wsX11_adds) B.pre
  have hown : s.vm.findClass RX11 = some m.cls := findClass_of_methodNamed B.named
  have hlocks := B.notSynchronized
  subst hsz
  have hD := hD0.self (sz := s.heap.size)
  generalize hAe : va_A [(a_t, .inr (11, [.int t_thrown, .ref a_t_now, .ref a_t_kept, .int t_isKept, .ref a_t_text, .int t_length, .ref a_t_passing, .int t_at, .int t_fault, .int t_open, .int t_asked, .int t_byGun, .int t_prizeMost, .ref a_t_order, .ref a_t_times, .int t_listed])), (a_t_now, .inl (cI, 1562, .inl t_now))] s.heap.size = A at hD hZ ⊢
  have hA : ∀ q : Nat, s.heap.size ≤ q → A q := fun q h => by rw [← hAe]; exact Or.inr h
  have hS : va_S A s.heap s.heap [] := va_S.rf
  have hl := lv_entry ([.ref a_t, .int x1, .int x2]) (n := 5) (Nat.le_of_ble_eq_true rfl)
  rw [lg_entry_eq]
  generalize (lg_sl ([.ref a_t, .int x1, .int x2]) ++ List.replicate (5 - (lg_sl ([.ref a_t, .int x1, .int x2])).length) Slot.unset).toArray = ls at hl ⊢
  have hl : lv_has ls 5 [(0, .ref a_t), (1, .int x1), (2, .int x2)] := hl
  unfold fX11_adds at h
  refine lv_bipush (v := (8 : Int32)) hx hb dX11_adds_0 rfl ?_
  refine lv_iconst (v := (4 : Int32)) hx hb dX11_adds_2 rfl ?_
  refine lv_aload_n hx hb dX11_adds_3 rfl (lv_at hl 0 rfl) ?_
  obtain ⟨r1, e2, h⟩ := zz_b h
  refine zVi (As := []) (rest := [.int (4 : Int32), .int (8 : Int32)]) (C := RX11) (wr := []) [0, 1] [] 0 ⟨hx, hb, hml, hown, hts⟩ (mX11_mats l D cB cI cZ a_t a_t_now a_t_kept a_t_text a_t_passing a_t_order a_t_times t_thrown t_isKept t_length t_at t_fault t_open t_asked t_byGun t_prizeMost t_listed t_now s.heap.size r1 e2) (cwV 0 hts gX11_adds_X11_mats rfl rfl rfl (by decide +kernel) ⟨Nat.le_of_ble_eq_true rfl, Nat.le_of_ble_eq_true rfl⟩) hK hN hZ hP hD hS hA rfl rfl rfl rfl rfl rfl rfl rfl hl.1 rfl (lv_room (Nat.le_of_ble_eq_true rfl)) dX11_adds_4 ⟨Nat.le_of_ble_eq_true rfl, Nat.le_of_ble_eq_true rfl⟩ (fun H locs hP hD hS => ?_)
  have hP : va_P D vwCl [(a_t, .inr (11, [.int t_thrown, .ref a_t_now, .ref a_t_kept, .int t_isKept, .ref a_t_text, .int t_length, .ref a_t_passing, .int t_at, .int t_fault, .int t_open, .int t_asked, .int t_byGun, .int t_prizeMost, .ref a_t_order, .ref a_t_times, .int t_listed])), (a_t_now, .inl (cI, 1562, .inl t_now))] H := hP
  have hD : va_D A [(a_t, .inr (11, [.int t_thrown, .ref a_t_now, .ref a_t_kept, .int t_isKept, .ref a_t_text, .int t_length, .ref a_t_passing, .int t_at, .int t_fault, .int t_open, .int t_asked, .int t_byGun, .int t_prizeMost, .ref a_t_order, .ref a_t_times, .int t_listed])), (a_t_now, .inl (cI, 1562, .inl t_now))] := hD
  refine lv_imul hx hb dX11_adds_7 ?_
  refine lv_iadd hx hb dX11_adds_8 ?_
  refine lv_istore_n (lv' := [(3, .int ((8 : Int32) + ((4 : Int32) * r1))), (0, .ref a_t), (1, .int x1), (2, .int x2)]) hx hb dX11_adds_9 rfl hl (by decide) rfl (fun ls hl => ?_)
  refine lv_aload_n hx hb dX11_adds_10 rfl (lv_at hl 1 rfl) ?_
  refine va_get (D := D) (ci := 11) (C := RX11) (T := TX11) (N := 16) hx hb hts qX11_adds_X11 hown hK hP 0 rfl rfl 1 (by decide) (hts _ kX11_adds_0) (fun _ h9 => h9) rfl dX11_adds_11 ?_
  refine lv_iload_n hx hb dX11_adds_14 rfl (lv_at hl 0 rfl) ?_
  refine lv_iconst (v := (0 : Int32)) hx hb dX11_adds_15 rfl ?_
  refine lv_iadd hx hb dX11_adds_16 ?_
  refine lv_iload_n hx hb dX11_adds_17 rfl (lv_at hl 2 rfl) ?_
  obtain ⟨i3, h⟩ := zz_i h
  refine va_iast hx hb hK hP hD hS 1 1 rfl rfl i3 dX11_adds_18 (fun H locs hP hD hS => ?_)
  have hP : va_P D vwCl [(a_t, .inr (11, [.int t_thrown, .ref a_t_now, .ref a_t_kept, .int t_isKept, .ref a_t_text, .int t_length, .ref a_t_passing, .int t_at, .int t_fault, .int t_open, .int t_asked, .int t_byGun, .int t_prizeMost, .ref a_t_order, .ref a_t_times, .int t_listed])), (a_t_now, .inl (cI, 1562, .inl (upd t_now ((((8 : Int32) + ((4 : Int32) * r1)) + (0 : Int32))).toNatClampNeg x1)))] H := hP
  have hD : va_D A [(a_t, .inr (11, [.int t_thrown, .ref a_t_now, .ref a_t_kept, .int t_isKept, .ref a_t_text, .int t_length, .ref a_t_passing, .int t_at, .int t_fault, .int t_open, .int t_asked, .int t_byGun, .int t_prizeMost, .ref a_t_order, .ref a_t_times, .int t_listed])), (a_t_now, .inl (cI, 1562, .inl (upd t_now ((((8 : Int32) + ((4 : Int32) * r1)) + (0 : Int32))).toNatClampNeg x1)))] := hD
  refine lv_aload_n hx hb dX11_adds_19 rfl (lv_at hl 1 rfl) ?_
  refine va_get (D := D) (ci := 11) (C := RX11) (T := TX11) (N := 16) hx hb hts qX11_adds_X11 hown hK hP 0 rfl rfl 1 (by decide) (hts _ kX11_adds_0) (fun _ h9 => h9) rfl dX11_adds_20 ?_
  refine lv_iload_n hx hb dX11_adds_23 rfl (lv_at hl 0 rfl) ?_
  refine lv_iconst (v := (1 : Int32)) hx hb dX11_adds_24 rfl ?_
  refine lv_iadd hx hb dX11_adds_25 ?_
  refine lv_iload_n hx hb dX11_adds_26 rfl (lv_at hl 3 rfl) ?_
  obtain ⟨i4, h⟩ := zz_i h
  refine va_iast hx hb hK hP hD hS 1 1 rfl rfl i4 dX11_adds_27 (fun H locs hP hD hS => ?_)
  have hP : va_P D vwCl [(a_t, .inr (11, [.int t_thrown, .ref a_t_now, .ref a_t_kept, .int t_isKept, .ref a_t_text, .int t_length, .ref a_t_passing, .int t_at, .int t_fault, .int t_open, .int t_asked, .int t_byGun, .int t_prizeMost, .ref a_t_order, .ref a_t_times, .int t_listed])), (a_t_now, .inl (cI, 1562, .inl (upd (upd t_now ((((8 : Int32) + ((4 : Int32) * r1)) + (0 : Int32))).toNatClampNeg x1) ((((8 : Int32) + ((4 : Int32) * r1)) + (1 : Int32))).toNatClampNeg x2)))] H := hP
  have hD : va_D A [(a_t, .inr (11, [.int t_thrown, .ref a_t_now, .ref a_t_kept, .int t_isKept, .ref a_t_text, .int t_length, .ref a_t_passing, .int t_at, .int t_fault, .int t_open, .int t_asked, .int t_byGun, .int t_prizeMost, .ref a_t_order, .ref a_t_times, .int t_listed])), (a_t_now, .inl (cI, 1562, .inl (upd (upd t_now ((((8 : Int32) + ((4 : Int32) * r1)) + (0 : Int32))).toNatClampNeg x1) ((((8 : Int32) + ((4 : Int32) * r1)) + (1 : Int32))).toNatClampNeg x2)))] := hD
  refine lv_aload_n hx hb dX11_adds_28 rfl (lv_at hl 1 rfl) ?_
  refine va_get (D := D) (ci := 11) (C := RX11) (T := TX11) (N := 16) hx hb hts qX11_adds_X11 hown hK hP 0 rfl rfl 1 (by decide) (hts _ kX11_adds_0) (fun _ h9 => h9) rfl dX11_adds_29 ?_
  refine lv_iload_n hx hb dX11_adds_32 rfl (lv_at hl 0 rfl) ?_
  refine lv_iconst (v := (2 : Int32)) hx hb dX11_adds_33 rfl ?_
  refine lv_iadd hx hb dX11_adds_34 ?_
  refine lv_iconst (v := (0 : Int32)) hx hb dX11_adds_35 rfl ?_
  obtain ⟨i5, h⟩ := zz_i h
  refine va_iast hx hb hK hP hD hS 1 1 rfl rfl i5 dX11_adds_36 (fun H locs hP hD hS => ?_)
  have hP : va_P D vwCl [(a_t, .inr (11, [.int t_thrown, .ref a_t_now, .ref a_t_kept, .int t_isKept, .ref a_t_text, .int t_length, .ref a_t_passing, .int t_at, .int t_fault, .int t_open, .int t_asked, .int t_byGun, .int t_prizeMost, .ref a_t_order, .ref a_t_times, .int t_listed])), (a_t_now, .inl (cI, 1562, .inl (upd (upd (upd t_now ((((8 : Int32) + ((4 : Int32) * r1)) + (0 : Int32))).toNatClampNeg x1) ((((8 : Int32) + ((4 : Int32) * r1)) + (1 : Int32))).toNatClampNeg x2) ((((8 : Int32) + ((4 : Int32) * r1)) + (2 : Int32))).toNatClampNeg (0 : Int32))))] H := hP
  have hD : va_D A [(a_t, .inr (11, [.int t_thrown, .ref a_t_now, .ref a_t_kept, .int t_isKept, .ref a_t_text, .int t_length, .ref a_t_passing, .int t_at, .int t_fault, .int t_open, .int t_asked, .int t_byGun, .int t_prizeMost, .ref a_t_order, .ref a_t_times, .int t_listed])), (a_t_now, .inl (cI, 1562, .inl (upd (upd (upd t_now ((((8 : Int32) + ((4 : Int32) * r1)) + (0 : Int32))).toNatClampNeg x1) ((((8 : Int32) + ((4 : Int32) * r1)) + (1 : Int32))).toNatClampNeg x2) ((((8 : Int32) + ((4 : Int32) * r1)) + (2 : Int32))).toNatClampNeg (0 : Int32))))] := hD
  refine lv_aload_n hx hb dX11_adds_37 rfl (lv_at hl 1 rfl) ?_
  refine va_get (D := D) (ci := 11) (C := RX11) (T := TX11) (N := 16) hx hb hts qX11_adds_X11 hown hK hP 0 rfl rfl 1 (by decide) (hts _ kX11_adds_0) (fun _ h9 => h9) rfl dX11_adds_38 ?_
  refine lv_iload_n hx hb dX11_adds_41 rfl (lv_at hl 0 rfl) ?_
  refine lv_iconst (v := (3 : Int32)) hx hb dX11_adds_42 rfl ?_
  refine lv_iadd hx hb dX11_adds_43 ?_
  refine lv_iconst (v := (-1 : Int32)) hx hb dX11_adds_44 rfl ?_
  obtain ⟨i6, h⟩ := zz_i h
  refine va_iast hx hb hK hP hD hS 1 1 rfl rfl i6 dX11_adds_45 (fun H locs hP hD hS => ?_)
  have hP : va_P D vwCl [(a_t, .inr (11, [.int t_thrown, .ref a_t_now, .ref a_t_kept, .int t_isKept, .ref a_t_text, .int t_length, .ref a_t_passing, .int t_at, .int t_fault, .int t_open, .int t_asked, .int t_byGun, .int t_prizeMost, .ref a_t_order, .ref a_t_times, .int t_listed])), (a_t_now, .inl (cI, 1562, .inl (upd (upd (upd (upd t_now ((((8 : Int32) + ((4 : Int32) * r1)) + (0 : Int32))).toNatClampNeg x1) ((((8 : Int32) + ((4 : Int32) * r1)) + (1 : Int32))).toNatClampNeg x2) ((((8 : Int32) + ((4 : Int32) * r1)) + (2 : Int32))).toNatClampNeg (0 : Int32)) ((((8 : Int32) + ((4 : Int32) * r1)) + (3 : Int32))).toNatClampNeg (-1 : Int32))))] H := hP
  have hD : va_D A [(a_t, .inr (11, [.int t_thrown, .ref a_t_now, .ref a_t_kept, .int t_isKept, .ref a_t_text, .int t_length, .ref a_t_passing, .int t_at, .int t_fault, .int t_open, .int t_asked, .int t_byGun, .int t_prizeMost, .ref a_t_order, .ref a_t_times, .int t_listed])), (a_t_now, .inl (cI, 1562, .inl (upd (upd (upd (upd t_now ((((8 : Int32) + ((4 : Int32) * r1)) + (0 : Int32))).toNatClampNeg x1) ((((8 : Int32) + ((4 : Int32) * r1)) + (1 : Int32))).toNatClampNeg x2) ((((8 : Int32) + ((4 : Int32) * r1)) + (2 : Int32))).toNatClampNeg (0 : Int32)) ((((8 : Int32) + ((4 : Int32) * r1)) + (3 : Int32))).toNatClampNeg (-1 : Int32))))] := hD
  refine lv_iconst (v := (0 : Int32)) hx hb dX11_adds_46 rfl ?_
  refine lv_istore (lv' := [(4, .int (0 : Int32)), (3, .int ((8 : Int32) + ((4 : Int32) * r1))), (0, .ref a_t), (1, .int x1), (2, .int x2)]) hx hb dX11_adds_47 hl (by decide) rfl (fun ls hl => ?_)
  have X49_78 : ∀ (v4_49 : Int32) (t_now_l49 : Nat → Int32) (H : Heap) (locs : List Loc) (ls : Array Slot), (if zin (0 : Int32) 1562 then (if zin (0 : Int32) 1562 then some ((upd t_now_l49 ((0 : Int32)).toNatClampNeg ((t_now_l49 ((0 : Int32)).toNatClampNeg) + (1 : Int32)))) else none) else none) = some (t_now') → va_P D vwCl [(a_t, .inr (11, [.int t_thrown, .ref a_t_now, .ref a_t_kept, .int t_isKept, .ref a_t_text, .int t_length, .ref a_t_passing, .int t_at, .int t_fault, .int t_open, .int t_asked, .int t_byGun, .int t_prizeMost, .ref a_t_order, .ref a_t_times, .int t_listed])), (a_t_now, .inl (cI, 1562, .inl t_now_l49))] H → va_D A [(a_t, .inr (11, [.int t_thrown, .ref a_t_now, .ref a_t_kept, .int t_isKept, .ref a_t_text, .int t_length, .ref a_t_passing, .int t_at, .int t_fault, .int t_open, .int t_asked, .int t_byGun, .int t_prizeMost, .ref a_t_order, .ref a_t_times, .int t_listed])), (a_t_now, .inl (cI, 1562, .inl t_now_l49))] → va_S A s.heap H locs → lv_has ls 5 [(4, .int v4_49), (3, .int ((8 : Int32) + ((4 : Int32) * r1))), (0, .ref a_t), (1, .int x1), (2, .int x2)] → W p l e (headSpec wsX11_adds ({ frames := 1, cells := 0, slots := 0, locals := 23 } : Room)).room s m #[Value.ref a_t, Value.int x1, Value.int x2] below meth c H locs 0 0 (MQ below (zQv D (zT cB cI cZ) [(a_t, .inr (11, [.int t_thrown, .ref a_t_now, .ref a_t_kept, .int t_isKept, .ref a_t_text, .int t_length, .ref a_t_passing, .int t_at, .int t_fault, .int t_open, .int t_asked, .int t_byGun, .int t_prizeMost, .ref a_t_order, .ref a_t_times, .int t_listed])), (a_t_now, .inl (cI, 1562, .inl t_now'))] A) #[Value.ref a_t, Value.int x1, Value.int x2] s 0 0 A) (F0 m 78 ls []) := by
    intro v4_49 t_now_l49 H locs ls h hP hD hS hl
    refine lv_aload_n hx hb dX11_adds_78 rfl (lv_at hl 2 rfl) ?_
    refine va_get (D := D) (ci := 11) (C := RX11) (T := TX11) (N := 16) hx hb hts qX11_adds_X11 hown hK hP 0 rfl rfl 1 (by decide) (hts _ kX11_adds_0) (fun _ h9 => h9) rfl dX11_adds_79 ?_
    refine lv_iconst (v := (0 : Int32)) hx hb dX11_adds_82 rfl ?_
    refine lv_dup2_11 hx hb dX11_adds_83 rfl rfl ?_
    obtain ⟨i7, h⟩ := zz_i h
    refine va_iald hx hb hK hP 1 1 rfl rfl i7 dX11_adds_84 ?_
    refine lv_iconst (v := (1 : Int32)) hx hb dX11_adds_85 rfl ?_
    refine lv_iadd hx hb dX11_adds_86 ?_
    obtain ⟨i8, h⟩ := zz_i h
    refine va_iast hx hb hK hP hD hS 1 1 rfl rfl i8 dX11_adds_87 (fun H locs hP hD hS => ?_)
    have hP : va_P D vwCl [(a_t, .inr (11, [.int t_thrown, .ref a_t_now, .ref a_t_kept, .int t_isKept, .ref a_t_text, .int t_length, .ref a_t_passing, .int t_at, .int t_fault, .int t_open, .int t_asked, .int t_byGun, .int t_prizeMost, .ref a_t_order, .ref a_t_times, .int t_listed])), (a_t_now, .inl (cI, 1562, .inl (upd t_now_l49 ((0 : Int32)).toNatClampNeg ((t_now_l49 ((0 : Int32)).toNatClampNeg) + (1 : Int32)))))] H := hP
    have hD : va_D A [(a_t, .inr (11, [.int t_thrown, .ref a_t_now, .ref a_t_kept, .int t_isKept, .ref a_t_text, .int t_length, .ref a_t_passing, .int t_at, .int t_fault, .int t_open, .int t_asked, .int t_byGun, .int t_prizeMost, .ref a_t_order, .ref a_t_times, .int t_listed])), (a_t_now, .inl (cI, 1562, .inl (upd t_now_l49 ((0 : Int32)).toNatClampNeg ((t_now_l49 ((0 : Int32)).toNatClampNeg) + (1 : Int32)))))] := hD
    have j0_ := Option.some.inj h
    subst j0_
    exact W.vret hx hb hr (fun t ht hW => ⟨⟨(), rfl, trivial, zPost.of hP hD hK ht hW [0, 1] rfl rfl rfl⟩, hS.F ht⟩) hS.2.2 dX11_adds_88
  have L49 : ∀ (n : Nat) (v4_49 : Int32) (t_now_l49 : Nat → Int32) (H : Heap) (locs : List Loc) (ls : Array Slot), fX11_adds_L49 (fun (v4_49 : Int32) (t_now_l49 : Nat → Int32) => (if zin (0 : Int32) 1562 then (if zin (0 : Int32) 1562 then some ((upd t_now_l49 ((0 : Int32)).toNatClampNeg ((t_now_l49 ((0 : Int32)).toNatClampNeg) + (1 : Int32)))) else none) else none)) n v4_49 t_now_l49 = some (t_now') → va_P D vwCl [(a_t, .inr (11, [.int t_thrown, .ref a_t_now, .ref a_t_kept, .int t_isKept, .ref a_t_text, .int t_length, .ref a_t_passing, .int t_at, .int t_fault, .int t_open, .int t_asked, .int t_byGun, .int t_prizeMost, .ref a_t_order, .ref a_t_times, .int t_listed])), (a_t_now, .inl (cI, 1562, .inl t_now_l49))] H → va_D A [(a_t, .inr (11, [.int t_thrown, .ref a_t_now, .ref a_t_kept, .int t_isKept, .ref a_t_text, .int t_length, .ref a_t_passing, .int t_at, .int t_fault, .int t_open, .int t_asked, .int t_byGun, .int t_prizeMost, .ref a_t_order, .ref a_t_times, .int t_listed])), (a_t_now, .inl (cI, 1562, .inl t_now_l49))] → va_S A s.heap H locs → lv_has ls 5 [(4, .int v4_49), (3, .int ((8 : Int32) + ((4 : Int32) * r1))), (0, .ref a_t), (1, .int x1), (2, .int x2)] → W p l e (headSpec wsX11_adds ({ frames := 1, cells := 0, slots := 0, locals := 23 } : Room)).room s m #[Value.ref a_t, Value.int x1, Value.int x2] below meth c H locs 0 0 (MQ below (zQv D (zT cB cI cZ) [(a_t, .inr (11, [.int t_thrown, .ref a_t_now, .ref a_t_kept, .int t_isKept, .ref a_t_text, .int t_length, .ref a_t_passing, .int t_at, .int t_fault, .int t_open, .int t_asked, .int t_byGun, .int t_prizeMost, .ref a_t_order, .ref a_t_times, .int t_listed])), (a_t_now, .inl (cI, 1562, .inl t_now'))] A) #[Value.ref a_t, Value.int x1, Value.int x2] s 0 0 A) (F0 m 49 ls []) := by
    intro n
    induction n with
    | zero => intro _ _ H locs ls h hP hD hS hl; cases h
    | succ n49 ih49 =>
      intro v4_49 t_now_l49 H locs ls h hP hD hS hl
      rw [fX11_adds_L49.eq_2] at h
      refine lv_iload hx hb dX11_adds_49 (lv_at hl 0 rfl) ?_
      refine lv_aload_n hx hb dX11_adds_51 rfl (lv_at hl 2 rfl) ?_
      obtain ⟨r9, e10, h⟩ := zz_b h
      refine zVi (As := []) (rest := [.int v4_49]) (C := RX11) (wr := []) [0, 1] [] 0 ⟨hx, hb, hml, hown, hts⟩ (mX11_runners l D cB cI cZ a_t a_t_now a_t_kept a_t_text a_t_passing a_t_order a_t_times t_thrown t_isKept t_length t_at t_fault t_open t_asked t_byGun t_prizeMost t_listed t_now_l49 H.size r9 e10) (cwV 0 hts gX11_adds_X11_runners rfl rfl rfl (by decide +kernel) ⟨Nat.le_of_ble_eq_true rfl, Nat.le_of_ble_eq_true rfl⟩) hK hN hZ hP hD hS hA rfl rfl rfl rfl rfl rfl rfl rfl hl.1 rfl (lv_room (Nat.le_of_ble_eq_true rfl)) dX11_adds_52 ⟨Nat.le_of_ble_eq_true rfl, Nat.le_of_ble_eq_true rfl⟩ (fun H locs hP hD hS => ?_)
      have hP : va_P D vwCl [(a_t, .inr (11, [.int t_thrown, .ref a_t_now, .ref a_t_kept, .int t_isKept, .ref a_t_text, .int t_length, .ref a_t_passing, .int t_at, .int t_fault, .int t_open, .int t_asked, .int t_byGun, .int t_prizeMost, .ref a_t_order, .ref a_t_times, .int t_listed])), (a_t_now, .inl (cI, 1562, .inl t_now_l49))] H := hP
      have hD : va_D A [(a_t, .inr (11, [.int t_thrown, .ref a_t_now, .ref a_t_kept, .int t_isKept, .ref a_t_text, .int t_length, .ref a_t_passing, .int t_at, .int t_fault, .int t_open, .int t_asked, .int t_byGun, .int t_prizeMost, .ref a_t_order, .ref a_t_times, .int t_listed])), (a_t_now, .inl (cI, 1562, .inl t_now_l49))] := hD
      refine lv_icmp_ge (tgt := 78) hx hb dX11_adds_55 (by decide) (fun c11 => ?_) (fun c11 => ?_)
      · have h := zz_t h c11
        exact X49_78 v4_49 t_now_l49 _ _ _ h (hP.sub [0, 1] rfl) (hD.sub [0, 1] rfl rfl) hS (lv_sub hl [0, 1, 2, 3, 4] rfl)
      · have h := zz_f h c11
        refine lv_aload_n hx hb dX11_adds_58 rfl (lv_at hl 2 rfl) ?_
        refine lv_iload hx hb dX11_adds_59 (lv_at hl 0 rfl) ?_
        refine lv_bipush (v := (12 : Int32)) hx hb dX11_adds_61 rfl ?_
        refine lv_aload_n hx hb dX11_adds_63 rfl (lv_at hl 2 rfl) ?_
        obtain ⟨r12, e13, h⟩ := zz_b h
        refine zVi (As := []) (rest := [.int (12 : Int32), .int v4_49, .ref a_t]) (C := RX11) (wr := []) [0, 1] [] 0 ⟨hx, hb, hml, hown, hts⟩ (mX11_mats l D cB cI cZ a_t a_t_now a_t_kept a_t_text a_t_passing a_t_order a_t_times t_thrown t_isKept t_length t_at t_fault t_open t_asked t_byGun t_prizeMost t_listed t_now_l49 H.size r12 e13) (cwV 0 hts gX11_adds_X11_mats rfl rfl rfl (by decide +kernel) ⟨Nat.le_of_ble_eq_true rfl, Nat.le_of_ble_eq_true rfl⟩) hK hN hZ hP hD hS hA rfl rfl rfl rfl rfl rfl rfl rfl hl.1 rfl (lv_room (Nat.le_of_ble_eq_true rfl)) dX11_adds_64 ⟨Nat.le_of_ble_eq_true rfl, Nat.le_of_ble_eq_true rfl⟩ (fun H locs hP hD hS => ?_)
        have hP : va_P D vwCl [(a_t, .inr (11, [.int t_thrown, .ref a_t_now, .ref a_t_kept, .int t_isKept, .ref a_t_text, .int t_length, .ref a_t_passing, .int t_at, .int t_fault, .int t_open, .int t_asked, .int t_byGun, .int t_prizeMost, .ref a_t_order, .ref a_t_times, .int t_listed])), (a_t_now, .inl (cI, 1562, .inl t_now_l49))] H := hP
        have hD : va_D A [(a_t, .inr (11, [.int t_thrown, .ref a_t_now, .ref a_t_kept, .int t_isKept, .ref a_t_text, .int t_length, .ref a_t_passing, .int t_at, .int t_fault, .int t_open, .int t_asked, .int t_byGun, .int t_prizeMost, .ref a_t_order, .ref a_t_times, .int t_listed])), (a_t_now, .inl (cI, 1562, .inl t_now_l49))] := hD
        refine lv_iadd hx hb dX11_adds_67 ?_
        refine lv_iconst (v := (-1 : Int32)) hx hb dX11_adds_68 rfl ?_
        obtain ⟨t_now_r14, e15, h⟩ := zz_b h
        refine zVv (As := [.int v4_49, .int ((12 : Int32) + r12), .int (-1 : Int32)]) (rest := []) (C := RX11) (wr := []) [0, 1] [] 0 ⟨hx, hb, hml, hown, hts⟩ (mX11_put l D cB cI cZ a_t a_t_now a_t_kept a_t_text a_t_passing a_t_order a_t_times t_thrown t_isKept t_length t_at t_fault t_open t_asked t_byGun t_prizeMost t_listed t_now_l49 H.size v4_49 ((12 : Int32) + r12) (-1 : Int32) t_now_r14 e15) (cwV 3 hts gX11_adds_X11_put rfl rfl rfl (by decide +kernel) ⟨Nat.le_of_ble_eq_true rfl, Nat.le_of_ble_eq_true rfl⟩) hK hN hZ hP hD hS hA rfl rfl rfl rfl rfl rfl rfl rfl hl.1 rfl (lv_room (Nat.le_of_ble_eq_true rfl)) dX11_adds_69 ⟨Nat.le_of_ble_eq_true rfl, Nat.le_of_ble_eq_true rfl⟩ (fun H locs hP hD hS => ?_)
        have hP : va_P D vwCl [(a_t, .inr (11, [.int t_thrown, .ref a_t_now, .ref a_t_kept, .int t_isKept, .ref a_t_text, .int t_length, .ref a_t_passing, .int t_at, .int t_fault, .int t_open, .int t_asked, .int t_byGun, .int t_prizeMost, .ref a_t_order, .ref a_t_times, .int t_listed])), (a_t_now, .inl (cI, 1562, .inl t_now_r14))] H := hP
        have hD : va_D A [(a_t, .inr (11, [.int t_thrown, .ref a_t_now, .ref a_t_kept, .int t_isKept, .ref a_t_text, .int t_length, .ref a_t_passing, .int t_at, .int t_fault, .int t_open, .int t_asked, .int t_byGun, .int t_prizeMost, .ref a_t_order, .ref a_t_times, .int t_listed])), (a_t_now, .inl (cI, 1562, .inl t_now_r14))] := hD
        refine lv_iinc (v := (v4_49 + (1 : Int32))) (lv' := [(4, .int (v4_49 + (1 : Int32))), (3, .int ((8 : Int32) + ((4 : Int32) * r1))), (0, .ref a_t), (1, .int x1), (2, .int x2)]) hx hb dX11_adds_72 hl (k := 0) rfl rfl (by decide) rfl (fun ls hl => ?_)
        refine lv_goto (tgt := 49) hx hb dX11_adds_75 (by decide) ?_
        exact ih49 (v4_49 + (1 : Int32)) t_now_r14 _ _ _ h (hP.sub [0, 1] rfl) (hD.sub [0, 1] rfl rfl) hS (lv_sub hl [0, 1, 2, 3, 4] rfl)
  exact L49 N (0 : Int32) (upd (upd (upd (upd t_now ((((8 : Int32) + ((4 : Int32) * r1)) + (0 : Int32))).toNatClampNeg x1) ((((8 : Int32) + ((4 : Int32) * r1)) + (1 : Int32))).toNatClampNeg x2) ((((8 : Int32) + ((4 : Int32) * r1)) + (2 : Int32))).toNatClampNeg (0 : Int32)) ((((8 : Int32) + ((4 : Int32) * r1)) + (3 : Int32))).toNatClampNeg (-1 : Int32)) _ _ _ h hP hD hS hl
/-! RunDeskModel.begin -/
theorem dX11_begin_0 : decode cX11_begin 0 = .ok (.iconst 0, 1) := by decide +kernel
theorem dX11_begin_1 : decode cX11_begin 1 = .ok (.istore_n 2, 1) := by decide +kernel
theorem dX11_begin_2 : decode cX11_begin 2 = .ok (.iload_n 2, 1) := by decide +kernel
theorem dX11_begin_3 : decode cX11_begin 3 = .ok (.sipush 1562, 3) := by decide +kernel
theorem dX11_begin_6 : decode cX11_begin 6 = .ok (.if_icmp .ge 16, 3) := by decide +kernel
theorem dX11_begin_9 : decode cX11_begin 9 = .ok (.aload_n 0, 1) := by decide +kernel
theorem dX11_begin_10 : decode cX11_begin 10 = .ok (.getfield 9, 3) := by decide +kernel
theorem dX11_begin_13 : decode cX11_begin 13 = .ok (.iload_n 2, 1) := by decide +kernel
theorem dX11_begin_14 : decode cX11_begin 14 = .ok (.iconst 0, 1) := by decide +kernel
theorem dX11_begin_15 : decode cX11_begin 15 = .ok (.iastore, 1) := by decide +kernel
theorem dX11_begin_16 : decode cX11_begin 16 = .ok (.iinc 2 1, 3) := by decide +kernel
theorem dX11_begin_19 : decode cX11_begin 19 = .ok (.goto (-17), 3) := by decide +kernel
theorem dX11_begin_22 : decode cX11_begin 22 = .ok (.iconst 0, 1) := by decide +kernel
theorem dX11_begin_23 : decode cX11_begin 23 = .ok (.istore_n 2, 1) := by decide +kernel
theorem dX11_begin_24 : decode cX11_begin 24 = .ok (.iload_n 2, 1) := by decide +kernel
theorem dX11_begin_25 : decode cX11_begin 25 = .ok (.bipush 6, 2) := by decide +kernel
theorem dX11_begin_27 : decode cX11_begin 27 = .ok (.if_icmp .ge 19, 3) := by decide +kernel
theorem dX11_begin_30 : decode cX11_begin 30 = .ok (.aload_n 0, 1) := by decide +kernel
theorem dX11_begin_31 : decode cX11_begin 31 = .ok (.getfield 9, 3) := by decide +kernel
theorem dX11_begin_34 : decode cX11_begin 34 = .ok (.bipush 56, 2) := by decide +kernel
theorem dX11_begin_36 : decode cX11_begin 36 = .ok (.iload_n 2, 1) := by decide +kernel
theorem dX11_begin_37 : decode cX11_begin 37 = .ok (.iadd, 1) := by decide +kernel
theorem dX11_begin_38 : decode cX11_begin 38 = .ok (.iconst (-1), 1) := by decide +kernel
theorem dX11_begin_39 : decode cX11_begin 39 = .ok (.iastore, 1) := by decide +kernel
theorem dX11_begin_40 : decode cX11_begin 40 = .ok (.iinc 2 1, 3) := by decide +kernel
theorem dX11_begin_43 : decode cX11_begin 43 = .ok (.goto (-19), 3) := by decide +kernel
theorem dX11_begin_46 : decode cX11_begin 46 = .ok (.aload_n 0, 1) := by decide +kernel
theorem dX11_begin_47 : decode cX11_begin 47 = .ok (.iconst 0, 1) := by decide +kernel
theorem dX11_begin_48 : decode cX11_begin 48 = .ok (.iload_n 1, 1) := by decide +kernel
theorem dX11_begin_49 : decode cX11_begin 49 = .ok (.invokevirtual 33, 3) := by decide +kernel
theorem dX11_begin_52 : decode cX11_begin 52 = .ok (.return_, 1) := by decide +kernel
set_option maxRecDepth 20000 in
theorem ggX11_begin_X11_adds : GoodIn wsX11_begin wsX11_adds := goodIn_r _ [6, 1, 7, 8, 9, 5, 10, 11, 12, 13, 14, 15, 16, 17, 18, 19, 20, 21, 22, 23, 24, 25, 26, 27, 28, 29, 30, 31, 32, 33, 34] (by decide +kernel) (by decide +kernel)
set_option maxRecDepth 20000 in
theorem gX11_begin_X11_adds : GoodIn wsX11_begin (wsV RX11 33 RX11 yX11_adds wsX11_adds) := goodIn_app (goodIn_of _ (by decide +kernel)) ggX11_begin_X11_adds
def fX11_begin_L24  (K24_46 : Int32 → (Nat → Int32) → Option ((Nat → Int32))) : Nat → Int32 → (Nat → Int32) → Option ((Nat → Int32))
  | 0, _, _ => none
  | n24 + 1, v2_24, t_now_l24 => (if (6 : Int32) ≤ v2_24 then (K24_46 v2_24 t_now_l24) else (if zin ((56 : Int32) + v2_24) 1562 then (fX11_begin_L24 K24_46 n24 (v2_24 + (1 : Int32)) (upd t_now_l24 (((56 : Int32) + v2_24)).toNatClampNeg (-1 : Int32))) else none))
def fX11_begin_L2  (K2_22 : Int32 → (Nat → Int32) → Option ((Nat → Int32))) : Nat → Int32 → (Nat → Int32) → Option ((Nat → Int32))
  | 0, _, _ => none
  | n2 + 1, v2_2, t_now_l2 => (if (1562 : Int32) ≤ v2_2 then (K2_22 v2_2 t_now_l2) else (if zin v2_2 1562 then (fX11_begin_L2 K2_22 n2 (v2_2 + (1 : Int32)) (upd t_now_l2 (v2_2).toNatClampNeg (0 : Int32))) else none))
def fX11_begin (N : Nat) (t_now : Nat → Int32) (x1 : Int32) : Option ((Nat → Int32)) := fX11_begin_L2 (fun (v2_2 : Int32) (t_now_l2 : Nat → Int32) => fX11_begin_L24 (fun (v2_24 : Int32) (t_now_l24 : Nat → Int32) => ((fX11_adds N t_now_l24 (0 : Int32) x1).bind (fun t_now_r1 => some (t_now_r1)))) N (0 : Int32) t_now_l2) N (0 : Int32) t_now
theorem kX11_begin_0 : (.fieldLink RX11 9 "RunDeskModel" "now" "[I" : Cond) ∈ wsX11_begin := List.mem_of_getElem? (i := 1) (by decide +kernel)
theorem qX11_begin_X11 : ∀ w ∈ wsX110, w ∈ wsX11_begin := fun _ h => List.mem_cons_of_mem _ (List.mem_append_right _ (h))
set_option maxHeartbeats 4000000 in
set_option maxRecDepth 100000 in
theorem mX11_begin (l : Launch) (D : va_G) (cB cI cZ : ClassId) (a_t : Nat) (a_t_now : Nat) (a_t_kept : Nat) (a_t_text : Nat) (a_t_passing : Nat) (a_t_order : Nat) (a_t_times : Nat) (t_thrown : Int32) (t_isKept : Int32) (t_length : Int32) (t_at : Int32) (t_fault : Int32) (t_open : Int32) (t_asked : Int32) (t_byGun : Int32) (t_prizeMost : Int32) (t_listed : Int32) (t_now : Nat → Int32) (sz : Nat) (x1 : Int32) (N : Nat) (t_now' : Nat → Int32) (h : fX11_begin N t_now x1 = some (t_now')) : Met l yX11_begin wsX11_begin ({ frames := 2, cells := 0, slots := 0, locals := 47 } : Room) (va_Pc [.ref a_t, .int x1] (zPre D (zT cB cI cZ) [(a_t, .inr (11, [.int t_thrown, .ref a_t_now, .ref a_t_kept, .int t_isKept, .ref a_t_text, .int t_length, .ref a_t_passing, .int t_at, .int t_fault, .int t_open, .int t_asked, .int t_byGun, .int t_prizeMost, .ref a_t_order, .ref a_t_times, .int t_listed])), (a_t_now, .inl (cI, 1562, .inl t_now))] sz)) (zQv D (zT cB cI cZ) [(a_t, .inr (11, [.int t_thrown, .ref a_t_now, .ref a_t_kept, .int t_isKept, .ref a_t_text, .int t_length, .ref a_t_passing, .int t_at, .int t_fault, .int t_open, .int t_asked, .int t_byGun, .int t_prizeMost, .ref a_t_order, .ref a_t_times, .int t_listed])), (a_t_now, .inl (cI, 1562, .inl t_now'))] (va_A [(a_t, .inr (11, [.int t_thrown, .ref a_t_now, .ref a_t_kept, .int t_isKept, .ref a_t_text, .int t_length, .ref a_t_passing, .int t_at, .int t_fault, .int t_open, .int t_asked, .int t_byGun, .int t_prizeMost, .ref a_t_order, .ref a_t_times, .int t_listed])), (a_t_now, .inl (cI, 1562, .inl t_now))] sz)) 0 0 (va_A [(a_t, .inr (11, [.int t_thrown, .ref a_t_now, .ref a_t_kept, .int t_isKept, .ref a_t_text, .int t_length, .ref a_t_passing, .int t_at, .int t_fault, .int t_open, .int t_asked, .int t_byGun, .int t_prizeMost, .ref a_t_order, .ref a_t_times, .int t_listed])), (a_t_now, .inl (cI, 1562, .inl t_now))] sz) := by
  refine Met.ofW (cc := cX11_begin) (maxL := 3) (ret := none) (by decide) rfl ?_
  intro p e s m args below meth c s₁ B hml hv
  obtain ⟨rfl, hsz, hP, hK, hN, hZ, hD0⟩ := hv
  have hx := B.exec
  have hb := B.bytes
  have hr := B.returns
  have hts := atoms_spec (ws := wsX11_begin) B.pre
  have hown : s.vm.findClass RX11 = some m.cls := findClass_of_methodNamed B.named
  have hlocks := B.notSynchronized
  subst hsz
  have hD := hD0.self (sz := s.heap.size)
  generalize hAe : va_A [(a_t, .inr (11, [.int t_thrown, .ref a_t_now, .ref a_t_kept, .int t_isKept, .ref a_t_text, .int t_length, .ref a_t_passing, .int t_at, .int t_fault, .int t_open, .int t_asked, .int t_byGun, .int t_prizeMost, .ref a_t_order, .ref a_t_times, .int t_listed])), (a_t_now, .inl (cI, 1562, .inl t_now))] s.heap.size = A at hD hZ ⊢
  have hA : ∀ q : Nat, s.heap.size ≤ q → A q := fun q h => by rw [← hAe]; exact Or.inr h
  have hS : va_S A s.heap s.heap [] := va_S.rf
  have hl := lv_entry ([.ref a_t, .int x1]) (n := 3) (Nat.le_of_ble_eq_true rfl)
  rw [lg_entry_eq]
  generalize (lg_sl ([.ref a_t, .int x1]) ++ List.replicate (3 - (lg_sl ([.ref a_t, .int x1])).length) Slot.unset).toArray = ls at hl ⊢
  have hl : lv_has ls 3 [(0, .ref a_t), (1, .int x1)] := hl
  unfold fX11_begin at h
  refine lv_iconst (v := (0 : Int32)) hx hb dX11_begin_0 rfl ?_
  refine lv_istore_n (lv' := [(2, .int (0 : Int32)), (0, .ref a_t), (1, .int x1)]) hx hb dX11_begin_1 rfl hl (by decide) rfl (fun ls hl => ?_)
  have X2_22 : ∀ (v2_2 : Int32) (t_now_l2 : Nat → Int32) (H : Heap) (locs : List Loc) (ls : Array Slot), fX11_begin_L24 (fun (v2_24 : Int32) (t_now_l24 : Nat → Int32) => ((fX11_adds N t_now_l24 (0 : Int32) x1).bind (fun t_now_r1 => some (t_now_r1)))) N (0 : Int32) t_now_l2 = some (t_now') → va_P D vwCl [(a_t, .inr (11, [.int t_thrown, .ref a_t_now, .ref a_t_kept, .int t_isKept, .ref a_t_text, .int t_length, .ref a_t_passing, .int t_at, .int t_fault, .int t_open, .int t_asked, .int t_byGun, .int t_prizeMost, .ref a_t_order, .ref a_t_times, .int t_listed])), (a_t_now, .inl (cI, 1562, .inl t_now_l2))] H → va_D A [(a_t, .inr (11, [.int t_thrown, .ref a_t_now, .ref a_t_kept, .int t_isKept, .ref a_t_text, .int t_length, .ref a_t_passing, .int t_at, .int t_fault, .int t_open, .int t_asked, .int t_byGun, .int t_prizeMost, .ref a_t_order, .ref a_t_times, .int t_listed])), (a_t_now, .inl (cI, 1562, .inl t_now_l2))] → va_S A s.heap H locs → lv_has ls 3 [(2, .int v2_2), (0, .ref a_t), (1, .int x1)] → W p l e (headSpec wsX11_begin ({ frames := 2, cells := 0, slots := 0, locals := 47 } : Room)).room s m #[Value.ref a_t, Value.int x1] below meth c H locs 0 0 (MQ below (zQv D (zT cB cI cZ) [(a_t, .inr (11, [.int t_thrown, .ref a_t_now, .ref a_t_kept, .int t_isKept, .ref a_t_text, .int t_length, .ref a_t_passing, .int t_at, .int t_fault, .int t_open, .int t_asked, .int t_byGun, .int t_prizeMost, .ref a_t_order, .ref a_t_times, .int t_listed])), (a_t_now, .inl (cI, 1562, .inl t_now'))] A) #[Value.ref a_t, Value.int x1] s 0 0 A) (F0 m 22 ls []) := by
    intro v2_2 t_now_l2 H locs ls h hP hD hS hl
    refine lv_iconst (v := (0 : Int32)) hx hb dX11_begin_22 rfl ?_
    refine lv_istore_n (lv' := [(2, .int (0 : Int32)), (0, .ref a_t), (1, .int x1)]) hx hb dX11_begin_23 rfl hl (by decide) rfl (fun ls hl => ?_)
    have X24_46 : ∀ (v2_24 : Int32) (t_now_l24 : Nat → Int32) (H : Heap) (locs : List Loc) (ls : Array Slot), ((fX11_adds N t_now_l24 (0 : Int32) x1).bind (fun t_now_r1 => some (t_now_r1))) = some (t_now') → va_P D vwCl [(a_t, .inr (11, [.int t_thrown, .ref a_t_now, .ref a_t_kept, .int t_isKept, .ref a_t_text, .int t_length, .ref a_t_passing, .int t_at, .int t_fault, .int t_open, .int t_asked, .int t_byGun, .int t_prizeMost, .ref a_t_order, .ref a_t_times, .int t_listed])), (a_t_now, .inl (cI, 1562, .inl t_now_l24))] H → va_D A [(a_t, .inr (11, [.int t_thrown, .ref a_t_now, .ref a_t_kept, .int t_isKept, .ref a_t_text, .int t_length, .ref a_t_passing, .int t_at, .int t_fault, .int t_open, .int t_asked, .int t_byGun, .int t_prizeMost, .ref a_t_order, .ref a_t_times, .int t_listed])), (a_t_now, .inl (cI, 1562, .inl t_now_l24))] → va_S A s.heap H locs → lv_has ls 3 [(2, .int v2_24), (0, .ref a_t), (1, .int x1)] → W p l e (headSpec wsX11_begin ({ frames := 2, cells := 0, slots := 0, locals := 47 } : Room)).room s m #[Value.ref a_t, Value.int x1] below meth c H locs 0 0 (MQ below (zQv D (zT cB cI cZ) [(a_t, .inr (11, [.int t_thrown, .ref a_t_now, .ref a_t_kept, .int t_isKept, .ref a_t_text, .int t_length, .ref a_t_passing, .int t_at, .int t_fault, .int t_open, .int t_asked, .int t_byGun, .int t_prizeMost, .ref a_t_order, .ref a_t_times, .int t_listed])), (a_t_now, .inl (cI, 1562, .inl t_now'))] A) #[Value.ref a_t, Value.int x1] s 0 0 A) (F0 m 46 ls []) := by
      intro v2_24 t_now_l24 H locs ls h hP hD hS hl
      refine lv_aload_n hx hb dX11_begin_46 rfl (lv_at hl 1 rfl) ?_
      refine lv_iconst (v := (0 : Int32)) hx hb dX11_begin_47 rfl ?_
      refine lv_iload_n hx hb dX11_begin_48 rfl (lv_at hl 2 rfl) ?_
      obtain ⟨t_now_r1, e2, h⟩ := zz_b h
      refine zVv (As := [.int (0 : Int32), .int x1]) (rest := []) (C := RX11) (wr := []) [0, 1] [] 0 ⟨hx, hb, hml, hown, hts⟩ (mX11_adds l D cB cI cZ a_t a_t_now a_t_kept a_t_text a_t_passing a_t_order a_t_times t_thrown t_isKept t_length t_at t_fault t_open t_asked t_byGun t_prizeMost t_listed t_now_l24 H.size (0 : Int32) x1 N t_now_r1 e2) (cwV 2 hts gX11_begin_X11_adds rfl rfl rfl (by decide +kernel) ⟨Nat.le_of_ble_eq_true rfl, Nat.le_of_ble_eq_true rfl⟩) hK hN hZ hP hD hS hA rfl rfl rfl rfl rfl rfl rfl rfl hl.1 rfl (lv_room (Nat.le_of_ble_eq_true rfl)) dX11_begin_49 ⟨Nat.le_of_ble_eq_true rfl, Nat.le_of_ble_eq_true rfl⟩ (fun H locs hP hD hS => ?_)
      have hP : va_P D vwCl [(a_t, .inr (11, [.int t_thrown, .ref a_t_now, .ref a_t_kept, .int t_isKept, .ref a_t_text, .int t_length, .ref a_t_passing, .int t_at, .int t_fault, .int t_open, .int t_asked, .int t_byGun, .int t_prizeMost, .ref a_t_order, .ref a_t_times, .int t_listed])), (a_t_now, .inl (cI, 1562, .inl t_now_r1))] H := hP
      have hD : va_D A [(a_t, .inr (11, [.int t_thrown, .ref a_t_now, .ref a_t_kept, .int t_isKept, .ref a_t_text, .int t_length, .ref a_t_passing, .int t_at, .int t_fault, .int t_open, .int t_asked, .int t_byGun, .int t_prizeMost, .ref a_t_order, .ref a_t_times, .int t_listed])), (a_t_now, .inl (cI, 1562, .inl t_now_r1))] := hD
      have j0_ := Option.some.inj h
      subst j0_
      exact W.vret hx hb hr (fun t ht hW => ⟨⟨(), rfl, trivial, zPost.of hP hD hK ht hW [0, 1] rfl rfl rfl⟩, hS.F ht⟩) hS.2.2 dX11_begin_52
    have L24 : ∀ (n : Nat) (v2_24 : Int32) (t_now_l24 : Nat → Int32) (H : Heap) (locs : List Loc) (ls : Array Slot), fX11_begin_L24 (fun (v2_24 : Int32) (t_now_l24 : Nat → Int32) => ((fX11_adds N t_now_l24 (0 : Int32) x1).bind (fun t_now_r1 => some (t_now_r1)))) n v2_24 t_now_l24 = some (t_now') → va_P D vwCl [(a_t, .inr (11, [.int t_thrown, .ref a_t_now, .ref a_t_kept, .int t_isKept, .ref a_t_text, .int t_length, .ref a_t_passing, .int t_at, .int t_fault, .int t_open, .int t_asked, .int t_byGun, .int t_prizeMost, .ref a_t_order, .ref a_t_times, .int t_listed])), (a_t_now, .inl (cI, 1562, .inl t_now_l24))] H → va_D A [(a_t, .inr (11, [.int t_thrown, .ref a_t_now, .ref a_t_kept, .int t_isKept, .ref a_t_text, .int t_length, .ref a_t_passing, .int t_at, .int t_fault, .int t_open, .int t_asked, .int t_byGun, .int t_prizeMost, .ref a_t_order, .ref a_t_times, .int t_listed])), (a_t_now, .inl (cI, 1562, .inl t_now_l24))] → va_S A s.heap H locs → lv_has ls 3 [(2, .int v2_24), (0, .ref a_t), (1, .int x1)] → W p l e (headSpec wsX11_begin ({ frames := 2, cells := 0, slots := 0, locals := 47 } : Room)).room s m #[Value.ref a_t, Value.int x1] below meth c H locs 0 0 (MQ below (zQv D (zT cB cI cZ) [(a_t, .inr (11, [.int t_thrown, .ref a_t_now, .ref a_t_kept, .int t_isKept, .ref a_t_text, .int t_length, .ref a_t_passing, .int t_at, .int t_fault, .int t_open, .int t_asked, .int t_byGun, .int t_prizeMost, .ref a_t_order, .ref a_t_times, .int t_listed])), (a_t_now, .inl (cI, 1562, .inl t_now'))] A) #[Value.ref a_t, Value.int x1] s 0 0 A) (F0 m 24 ls []) := by
      intro n
      induction n with
      | zero => intro _ _ H locs ls h hP hD hS hl; cases h
      | succ n24 ih24 =>
        intro v2_24 t_now_l24 H locs ls h hP hD hS hl
        rw [fX11_begin_L24.eq_2] at h
        refine lv_iload_n hx hb dX11_begin_24 rfl (lv_at hl 0 rfl) ?_
        refine lv_bipush (v := (6 : Int32)) hx hb dX11_begin_25 rfl ?_
        refine lv_icmp_ge (tgt := 46) hx hb dX11_begin_27 (by decide) (fun c3 => ?_) (fun c3 => ?_)
        · have h := zz_t h c3
          exact X24_46 v2_24 t_now_l24 _ _ _ h (hP.sub [0, 1] rfl) (hD.sub [0, 1] rfl rfl) hS (lv_sub hl [0, 1, 2] rfl)
        · have h := zz_f h c3
          refine lv_aload_n hx hb dX11_begin_30 rfl (lv_at hl 1 rfl) ?_
          refine va_get (D := D) (ci := 11) (C := RX11) (T := TX11) (N := 16) hx hb hts qX11_begin_X11 hown hK hP 0 rfl rfl 1 (by decide) (hts _ kX11_begin_0) (fun _ h9 => h9) rfl dX11_begin_31 ?_
          refine lv_bipush (v := (56 : Int32)) hx hb dX11_begin_34 rfl ?_
          refine lv_iload_n hx hb dX11_begin_36 rfl (lv_at hl 0 rfl) ?_
          refine lv_iadd hx hb dX11_begin_37 ?_
          refine lv_iconst (v := (-1 : Int32)) hx hb dX11_begin_38 rfl ?_
          obtain ⟨i4, h⟩ := zz_i h
          refine va_iast hx hb hK hP hD hS 1 1 rfl rfl i4 dX11_begin_39 (fun H locs hP hD hS => ?_)
          have hP : va_P D vwCl [(a_t, .inr (11, [.int t_thrown, .ref a_t_now, .ref a_t_kept, .int t_isKept, .ref a_t_text, .int t_length, .ref a_t_passing, .int t_at, .int t_fault, .int t_open, .int t_asked, .int t_byGun, .int t_prizeMost, .ref a_t_order, .ref a_t_times, .int t_listed])), (a_t_now, .inl (cI, 1562, .inl (upd t_now_l24 (((56 : Int32) + v2_24)).toNatClampNeg (-1 : Int32))))] H := hP
          have hD : va_D A [(a_t, .inr (11, [.int t_thrown, .ref a_t_now, .ref a_t_kept, .int t_isKept, .ref a_t_text, .int t_length, .ref a_t_passing, .int t_at, .int t_fault, .int t_open, .int t_asked, .int t_byGun, .int t_prizeMost, .ref a_t_order, .ref a_t_times, .int t_listed])), (a_t_now, .inl (cI, 1562, .inl (upd t_now_l24 (((56 : Int32) + v2_24)).toNatClampNeg (-1 : Int32))))] := hD
          refine lv_iinc (v := (v2_24 + (1 : Int32))) (lv' := [(2, .int (v2_24 + (1 : Int32))), (0, .ref a_t), (1, .int x1)]) hx hb dX11_begin_40 hl (k := 0) rfl rfl (by decide) rfl (fun ls hl => ?_)
          refine lv_goto (tgt := 24) hx hb dX11_begin_43 (by decide) ?_
          exact ih24 (v2_24 + (1 : Int32)) (upd t_now_l24 (((56 : Int32) + v2_24)).toNatClampNeg (-1 : Int32)) _ _ _ h (hP.sub [0, 1] rfl) (hD.sub [0, 1] rfl rfl) hS (lv_sub hl [0, 1, 2] rfl)
    exact L24 N (0 : Int32) t_now_l2 _ _ _ h hP hD hS hl
  have L2 : ∀ (n : Nat) (v2_2 : Int32) (t_now_l2 : Nat → Int32) (H : Heap) (locs : List Loc) (ls : Array Slot), fX11_begin_L2 (fun (v2_2 : Int32) (t_now_l2 : Nat → Int32) => fX11_begin_L24 (fun (v2_24 : Int32) (t_now_l24 : Nat → Int32) => ((fX11_adds N t_now_l24 (0 : Int32) x1).bind (fun t_now_r1 => some (t_now_r1)))) N (0 : Int32) t_now_l2) n v2_2 t_now_l2 = some (t_now') → va_P D vwCl [(a_t, .inr (11, [.int t_thrown, .ref a_t_now, .ref a_t_kept, .int t_isKept, .ref a_t_text, .int t_length, .ref a_t_passing, .int t_at, .int t_fault, .int t_open, .int t_asked, .int t_byGun, .int t_prizeMost, .ref a_t_order, .ref a_t_times, .int t_listed])), (a_t_now, .inl (cI, 1562, .inl t_now_l2))] H → va_D A [(a_t, .inr (11, [.int t_thrown, .ref a_t_now, .ref a_t_kept, .int t_isKept, .ref a_t_text, .int t_length, .ref a_t_passing, .int t_at, .int t_fault, .int t_open, .int t_asked, .int t_byGun, .int t_prizeMost, .ref a_t_order, .ref a_t_times, .int t_listed])), (a_t_now, .inl (cI, 1562, .inl t_now_l2))] → va_S A s.heap H locs → lv_has ls 3 [(2, .int v2_2), (0, .ref a_t), (1, .int x1)] → W p l e (headSpec wsX11_begin ({ frames := 2, cells := 0, slots := 0, locals := 47 } : Room)).room s m #[Value.ref a_t, Value.int x1] below meth c H locs 0 0 (MQ below (zQv D (zT cB cI cZ) [(a_t, .inr (11, [.int t_thrown, .ref a_t_now, .ref a_t_kept, .int t_isKept, .ref a_t_text, .int t_length, .ref a_t_passing, .int t_at, .int t_fault, .int t_open, .int t_asked, .int t_byGun, .int t_prizeMost, .ref a_t_order, .ref a_t_times, .int t_listed])), (a_t_now, .inl (cI, 1562, .inl t_now'))] A) #[Value.ref a_t, Value.int x1] s 0 0 A) (F0 m 2 ls []) := by
    intro n
    induction n with
    | zero => intro _ _ H locs ls h hP hD hS hl; cases h
    | succ n2 ih2 =>
      intro v2_2 t_now_l2 H locs ls h hP hD hS hl
      rw [fX11_begin_L2.eq_2] at h
      refine lv_iload_n hx hb dX11_begin_2 rfl (lv_at hl 0 rfl) ?_
      refine lv_sipush (v := (1562 : Int32)) hx hb dX11_begin_3 rfl ?_
      refine lv_icmp_ge (tgt := 22) hx hb dX11_begin_6 (by decide) (fun c5 => ?_) (fun c5 => ?_)
      · have h := zz_t h c5
        exact X2_22 v2_2 t_now_l2 _ _ _ h (hP.sub [0, 1] rfl) (hD.sub [0, 1] rfl rfl) hS (lv_sub hl [0, 1, 2] rfl)
      · have h := zz_f h c5
        refine lv_aload_n hx hb dX11_begin_9 rfl (lv_at hl 1 rfl) ?_
        refine va_get (D := D) (ci := 11) (C := RX11) (T := TX11) (N := 16) hx hb hts qX11_begin_X11 hown hK hP 0 rfl rfl 1 (by decide) (hts _ kX11_begin_0) (fun _ h9 => h9) rfl dX11_begin_10 ?_
        refine lv_iload_n hx hb dX11_begin_13 rfl (lv_at hl 0 rfl) ?_
        refine lv_iconst (v := (0 : Int32)) hx hb dX11_begin_14 rfl ?_
        obtain ⟨i6, h⟩ := zz_i h
        refine va_iast hx hb hK hP hD hS 1 1 rfl rfl i6 dX11_begin_15 (fun H locs hP hD hS => ?_)
        have hP : va_P D vwCl [(a_t, .inr (11, [.int t_thrown, .ref a_t_now, .ref a_t_kept, .int t_isKept, .ref a_t_text, .int t_length, .ref a_t_passing, .int t_at, .int t_fault, .int t_open, .int t_asked, .int t_byGun, .int t_prizeMost, .ref a_t_order, .ref a_t_times, .int t_listed])), (a_t_now, .inl (cI, 1562, .inl (upd t_now_l2 (v2_2).toNatClampNeg (0 : Int32))))] H := hP
        have hD : va_D A [(a_t, .inr (11, [.int t_thrown, .ref a_t_now, .ref a_t_kept, .int t_isKept, .ref a_t_text, .int t_length, .ref a_t_passing, .int t_at, .int t_fault, .int t_open, .int t_asked, .int t_byGun, .int t_prizeMost, .ref a_t_order, .ref a_t_times, .int t_listed])), (a_t_now, .inl (cI, 1562, .inl (upd t_now_l2 (v2_2).toNatClampNeg (0 : Int32))))] := hD
        refine lv_iinc (v := (v2_2 + (1 : Int32))) (lv' := [(2, .int (v2_2 + (1 : Int32))), (0, .ref a_t), (1, .int x1)]) hx hb dX11_begin_16 hl (k := 0) rfl rfl (by decide) rfl (fun ls hl => ?_)
        refine lv_goto (tgt := 2) hx hb dX11_begin_19 (by decide) ?_
        exact ih2 (v2_2 + (1 : Int32)) (upd t_now_l2 (v2_2).toNatClampNeg (0 : Int32)) _ _ _ h (hP.sub [0, 1] rfl) (hD.sub [0, 1] rfl rfl) hS (lv_sub hl [0, 1, 2] rfl)
  exact L2 N (0 : Int32) t_now _ _ _ h hP hD hS hl
/-! RunDeskModel.way -/
theorem dX11_way_0 : decode cX11_way 0 = .ok (.aload_n 0, 1) := by decide +kernel
theorem dX11_way_1 : decode cX11_way 1 = .ok (.iconst 0, 1) := by decide +kernel
theorem dX11_way_2 : decode cX11_way 2 = .ok (.putfield 37, 3) := by decide +kernel
theorem dX11_way_5 : decode cX11_way 5 = .ok (.iload_n 1, 1) := by decide +kernel
theorem dX11_way_6 : decode cX11_way 6 = .ok (.iconst 1, 1) := by decide +kernel
theorem dX11_way_7 : decode cX11_way 7 = .ok (.sipush 1000, 3) := by decide +kernel
theorem dX11_way_10 : decode cX11_way 10 = .ok (.invokestatic 52, 3) := by decide +kernel
theorem dX11_way_13 : decode cX11_way 13 = .ok (.ifCond .ne 5, 3) := by decide +kernel
theorem dX11_way_16 : decode cX11_way 16 = .ok (.iconst 0, 1) := by decide +kernel
theorem dX11_way_17 : decode cX11_way 17 = .ok (.ireturn, 1) := by decide +kernel
theorem dX11_way_18 : decode cX11_way 18 = .ok (.aload_n 0, 1) := by decide +kernel
theorem dX11_way_19 : decode cX11_way 19 = .ok (.iload_n 1, 1) := by decide +kernel
theorem dX11_way_20 : decode cX11_way 20 = .ok (.invokevirtual 29, 3) := by decide +kernel
theorem dX11_way_23 : decode cX11_way 23 = .ok (.iconst 1, 1) := by decide +kernel
theorem dX11_way_24 : decode cX11_way 24 = .ok (.ireturn, 1) := by decide +kernel
set_option maxRecDepth 20000 in
theorem ggX11_way_X11_isIn : GoodIn wsX11_way wsX11_isIn := goodIn_r _ [5] (by decide +kernel) (by decide +kernel)
set_option maxRecDepth 20000 in
theorem gX11_way_X11_isIn : GoodIn wsX11_way (va_wsS RX11 52 yX11_isIn wsX11_isIn) := goodIn_app (goodIn_of _ (by decide +kernel)) ggX11_way_X11_isIn
set_option maxRecDepth 20000 in
theorem ggX11_way_X11_begin : GoodIn wsX11_way wsX11_begin := goodIn_r _ [9, 10, 11, 12, 13, 4, 14, 15, 16, 17, 18, 19, 20, 21, 22, 23, 24, 25, 26, 27, 28, 29, 30, 31, 32, 33, 34, 35, 36, 37, 38, 39, 40, 41, 42] (by decide +kernel) (by decide +kernel)
set_option maxRecDepth 20000 in
theorem gX11_way_X11_begin : GoodIn wsX11_way (wsV RX11 29 RX11 yX11_begin wsX11_begin) := goodIn_app (goodIn_of _ (by decide +kernel)) ggX11_way_X11_begin
def fX11_way (N : Nat) (t_thrown : Int32) (t_now : Nat → Int32) (x1 : Int32) : Option (Bool × Int32 × (Nat → Int32)) := ((fX11_isIn x1 (1 : Int32) (1000 : Int32)).bind (fun b1 => (if (zb b1) = 0 then some (false, (0 : Int32), t_now) else ((fX11_begin N t_now x1).bind (fun t_now_r4 => some (true, (0 : Int32), t_now_r4))))))
theorem kX11_way_0 : (.fieldLink RX11 37 "RunDeskModel" "thrown" "I" : Cond) ∈ wsX11_way := List.mem_of_getElem? (i := 1) (by decide +kernel)
theorem qX11_way_X11 : ∀ w ∈ wsX110, w ∈ wsX11_way := fun _ h => List.mem_cons_of_mem _ (List.mem_append_right _ (h))
set_option maxHeartbeats 4000000 in
set_option maxRecDepth 100000 in
theorem mX11_way (l : Launch) (D : va_G) (cB cI cZ : ClassId) (a_t : Nat) (a_t_now : Nat) (a_t_kept : Nat) (a_t_text : Nat) (a_t_passing : Nat) (a_t_order : Nat) (a_t_times : Nat) (t_thrown : Int32) (t_isKept : Int32) (t_length : Int32) (t_at : Int32) (t_fault : Int32) (t_open : Int32) (t_asked : Int32) (t_byGun : Int32) (t_prizeMost : Int32) (t_listed : Int32) (t_now : Nat → Int32) (sz : Nat) (x1 : Int32) (N : Nat) (b0 : Bool) (t_thrown' : Int32) (t_now' : Nat → Int32) (h : fX11_way N t_thrown t_now x1 = some (b0, t_thrown', t_now')) : Met l yX11_way wsX11_way ({ frames := 3, cells := 0, slots := 0, locals := 69 } : Room) (va_Pc [.ref a_t, .int x1] (zPre D (zT cB cI cZ) [(a_t, .inr (11, [.int t_thrown, .ref a_t_now, .ref a_t_kept, .int t_isKept, .ref a_t_text, .int t_length, .ref a_t_passing, .int t_at, .int t_fault, .int t_open, .int t_asked, .int t_byGun, .int t_prizeMost, .ref a_t_order, .ref a_t_times, .int t_listed])), (a_t_now, .inl (cI, 1562, .inl t_now))] sz)) (zQi (zb b0) D (zT cB cI cZ) [(a_t, .inr (11, [.int t_thrown', .ref a_t_now, .ref a_t_kept, .int t_isKept, .ref a_t_text, .int t_length, .ref a_t_passing, .int t_at, .int t_fault, .int t_open, .int t_asked, .int t_byGun, .int t_prizeMost, .ref a_t_order, .ref a_t_times, .int t_listed])), (a_t_now, .inl (cI, 1562, .inl t_now'))] (va_A [(a_t, .inr (11, [.int t_thrown, .ref a_t_now, .ref a_t_kept, .int t_isKept, .ref a_t_text, .int t_length, .ref a_t_passing, .int t_at, .int t_fault, .int t_open, .int t_asked, .int t_byGun, .int t_prizeMost, .ref a_t_order, .ref a_t_times, .int t_listed])), (a_t_now, .inl (cI, 1562, .inl t_now))] sz)) 0 0 (va_A [(a_t, .inr (11, [.int t_thrown, .ref a_t_now, .ref a_t_kept, .int t_isKept, .ref a_t_text, .int t_length, .ref a_t_passing, .int t_at, .int t_fault, .int t_open, .int t_asked, .int t_byGun, .int t_prizeMost, .ref a_t_order, .ref a_t_times, .int t_listed])), (a_t_now, .inl (cI, 1562, .inl t_now))] sz) := by
  refine Met.ofW (cc := cX11_way) (maxL := 2) (ret := (some .boolean)) (by decide) rfl ?_
  intro p e s m args below meth c s₁ B hml hv
  obtain ⟨rfl, hsz, hP, hK, hN, hZ, hD0⟩ := hv
  have hx := B.exec
  have hb := B.bytes
  have hr := B.returns
  have hts := atoms_spec (ws := wsX11_way) B.pre
  have hown : s.vm.findClass RX11 = some m.cls := findClass_of_methodNamed B.named
  have hlocks := B.notSynchronized
  subst hsz
  have hD := hD0.self (sz := s.heap.size)
  generalize hAe : va_A [(a_t, .inr (11, [.int t_thrown, .ref a_t_now, .ref a_t_kept, .int t_isKept, .ref a_t_text, .int t_length, .ref a_t_passing, .int t_at, .int t_fault, .int t_open, .int t_asked, .int t_byGun, .int t_prizeMost, .ref a_t_order, .ref a_t_times, .int t_listed])), (a_t_now, .inl (cI, 1562, .inl t_now))] s.heap.size = A at hD hZ ⊢
  have hA : ∀ q : Nat, s.heap.size ≤ q → A q := fun q h => by rw [← hAe]; exact Or.inr h
  have hS : va_S A s.heap s.heap [] := va_S.rf
  have hl := lv_entry ([.ref a_t, .int x1]) (n := 2) (Nat.le_of_ble_eq_true rfl)
  rw [lg_entry_eq]
  generalize (lg_sl ([.ref a_t, .int x1]) ++ List.replicate (2 - (lg_sl ([.ref a_t, .int x1])).length) Slot.unset).toArray = ls at hl ⊢
  have hl : lv_has ls 2 [(0, .ref a_t), (1, .int x1)] := hl
  unfold fX11_way at h
  refine lv_aload_n hx hb dX11_way_0 rfl (lv_at hl 0 rfl) ?_
  refine lv_iconst (v := (0 : Int32)) hx hb dX11_way_1 rfl ?_
  refine va_put (D := D) (ci := 11) (ty := .int) (C := RX11) (T := TX11) (N := 16) hx hb hts qX11_way_X11 tyX11 tyX11_ok nmX11 hown hK hP hD hS 0 rfl rfl 0 (by decide) (hts _ kX11_way_0) (fun _ h9 => h9) rfl (by decide +kernel) rfl (by first | rfl | exact zz_fit) (Nat.le_of_ble_eq_true rfl) dX11_way_2 (fun H locs hP hD hS => ?_)
  have hP : va_P D vwCl [(a_t, .inr (11, [.int (0 : Int32), .ref a_t_now, .ref a_t_kept, .int t_isKept, .ref a_t_text, .int t_length, .ref a_t_passing, .int t_at, .int t_fault, .int t_open, .int t_asked, .int t_byGun, .int t_prizeMost, .ref a_t_order, .ref a_t_times, .int t_listed])), (a_t_now, .inl (cI, 1562, .inl t_now))] H := hP
  have hD : va_D A [(a_t, .inr (11, [.int (0 : Int32), .ref a_t_now, .ref a_t_kept, .int t_isKept, .ref a_t_text, .int t_length, .ref a_t_passing, .int t_at, .int t_fault, .int t_open, .int t_asked, .int t_byGun, .int t_prizeMost, .ref a_t_order, .ref a_t_times, .int t_listed])), (a_t_now, .inl (cI, 1562, .inl t_now))] := hD
  refine lv_iload_n hx hb dX11_way_5 rfl (lv_at hl 1 rfl) ?_
  refine lv_iconst (v := (1 : Int32)) hx hb dX11_way_6 rfl ?_
  refine lv_sipush (v := (1000 : Int32)) hx hb dX11_way_7 rfl ?_
  obtain ⟨b1, e2, h⟩ := zz_b h
  refine zSi (As := [.int x1, .int (1 : Int32), .int (1000 : Int32)]) (rest := []) (wr := [(a_t, .inr (11, [.int (0 : Int32), .ref a_t_now, .ref a_t_kept, .int t_isKept, .ref a_t_text, .int t_length, .ref a_t_passing, .int t_at, .int t_fault, .int t_open, .int t_asked, .int t_byGun, .int t_prizeMost, .ref a_t_order, .ref a_t_times, .int t_listed])), (a_t_now, .inl (cI, 1562, .inl t_now))]) [] [0, 1] ⟨hx, hb, hml, hown, hts⟩ (mX11_isIn l D cB cI cZ H.size x1 (1 : Int32) (1000 : Int32) b1 e2) (va_cwS 3 hts gX11_way_X11_isIn rfl rfl rfl (by decide +kernel) ⟨Nat.le_of_ble_eq_true rfl, Nat.le_of_ble_eq_true rfl⟩) hK hN hZ hP hD hS hA rfl rfl rfl rfl rfl rfl hl.1 rfl (lv_room (Nat.le_of_ble_eq_true rfl)) dX11_way_10 ⟨Nat.le_of_ble_eq_true rfl, Nat.le_of_ble_eq_true rfl⟩ (fun H locs hP hD hS => ?_)
  have hP : va_P D vwCl [(a_t, .inr (11, [.int (0 : Int32), .ref a_t_now, .ref a_t_kept, .int t_isKept, .ref a_t_text, .int t_length, .ref a_t_passing, .int t_at, .int t_fault, .int t_open, .int t_asked, .int t_byGun, .int t_prizeMost, .ref a_t_order, .ref a_t_times, .int t_listed])), (a_t_now, .inl (cI, 1562, .inl t_now))] H := hP
  have hD : va_D A [(a_t, .inr (11, [.int (0 : Int32), .ref a_t_now, .ref a_t_kept, .int t_isKept, .ref a_t_text, .int t_length, .ref a_t_passing, .int t_at, .int t_fault, .int t_open, .int t_asked, .int t_byGun, .int t_prizeMost, .ref a_t_order, .ref a_t_times, .int t_listed])), (a_t_now, .inl (cI, 1562, .inl t_now))] := hD
  refine lv_if_ne (tgt := 18) hx hb dX11_way_13 (by decide) (fun c3 => ?_) (fun c3 => ?_)
  · have h := zz_f h c3
    refine lv_aload_n hx hb dX11_way_18 rfl (lv_at hl 0 rfl) ?_
    refine lv_iload_n hx hb dX11_way_19 rfl (lv_at hl 1 rfl) ?_
    obtain ⟨t_now_r4, e5, h⟩ := zz_b h
    refine zVv (As := [.int x1]) (rest := []) (C := RX11) (wr := []) [0, 1] [] 0 ⟨hx, hb, hml, hown, hts⟩ (mX11_begin l D cB cI cZ a_t a_t_now a_t_kept a_t_text a_t_passing a_t_order a_t_times (0 : Int32) t_isKept t_length t_at t_fault t_open t_asked t_byGun t_prizeMost t_listed t_now H.size x1 N t_now_r4 e5) (cwV 1 hts gX11_way_X11_begin rfl rfl rfl (by decide +kernel) ⟨Nat.le_of_ble_eq_true rfl, Nat.le_of_ble_eq_true rfl⟩) hK hN hZ hP hD hS hA rfl rfl rfl rfl rfl rfl rfl rfl hl.1 rfl (lv_room (Nat.le_of_ble_eq_true rfl)) dX11_way_20 ⟨Nat.le_of_ble_eq_true rfl, Nat.le_of_ble_eq_true rfl⟩ (fun H locs hP hD hS => ?_)
    have hP : va_P D vwCl [(a_t, .inr (11, [.int (0 : Int32), .ref a_t_now, .ref a_t_kept, .int t_isKept, .ref a_t_text, .int t_length, .ref a_t_passing, .int t_at, .int t_fault, .int t_open, .int t_asked, .int t_byGun, .int t_prizeMost, .ref a_t_order, .ref a_t_times, .int t_listed])), (a_t_now, .inl (cI, 1562, .inl t_now_r4))] H := hP
    have hD : va_D A [(a_t, .inr (11, [.int (0 : Int32), .ref a_t_now, .ref a_t_kept, .int t_isKept, .ref a_t_text, .int t_length, .ref a_t_passing, .int t_at, .int t_fault, .int t_open, .int t_asked, .int t_byGun, .int t_prizeMost, .ref a_t_order, .ref a_t_times, .int t_listed])), (a_t_now, .inl (cI, 1562, .inl t_now_r4))] := hD
    refine lv_iconst (v := (1 : Int32)) hx hb dX11_way_23 rfl ?_
    obtain ⟨j0_, g_⟩ := Prod.mk.inj (Option.some.inj h)
    obtain ⟨j1_, g_⟩ := Prod.mk.inj g_
    have j2_ := g_
    subst j0_
    subst j1_
    subst j2_
    exact W.zret (v := (1 : Int32)) hx hb hr rfl (fun t ht hW => ⟨⟨_, (), rfl, rfl, zPost.of hP hD hK ht hW [0, 1] rfl rfl rfl⟩, hS.F ht⟩) hS.2.2 dX11_way_24
  · have h := zz_t h c3
    refine lv_iconst (v := (0 : Int32)) hx hb dX11_way_16 rfl ?_
    obtain ⟨j0_, g_⟩ := Prod.mk.inj (Option.some.inj h)
    obtain ⟨j1_, g_⟩ := Prod.mk.inj g_
    have j2_ := g_
    subst j0_
    subst j1_
    subst j2_
    exact W.zret (v := (0 : Int32)) hx hb hr rfl (fun t ht hW => ⟨⟨_, (), rfl, rfl, zPost.of hP hD hK ht hW [0, 1] rfl rfl rfl⟩, hS.F ht⟩) hS.2.2 dX11_way_17
/-! RunDeskModel.mat -/
theorem dX11_mat_0 : decode cX11_mat 0 = .ok (.aload_n 0, 1) := by decide +kernel
theorem dX11_mat_1 : decode cX11_mat 1 = .ok (.iconst 0, 1) := by decide +kernel
theorem dX11_mat_2 : decode cX11_mat 2 = .ok (.putfield 37, 3) := by decide +kernel
theorem dX11_mat_5 : decode cX11_mat 5 = .ok (.aload_n 0, 1) := by decide +kernel
theorem dX11_mat_6 : decode cX11_mat 6 = .ok (.invokevirtual 41, 3) := by decide +kernel
theorem dX11_mat_9 : decode cX11_mat 9 = .ok (.bipush 12, 2) := by decide +kernel
theorem dX11_mat_11 : decode cX11_mat 11 = .ok (.if_icmp .eq 35, 3) := by decide +kernel
theorem dX11_mat_14 : decode cX11_mat 14 = .ok (.iload_n 1, 1) := by decide +kernel
theorem dX11_mat_15 : decode cX11_mat 15 = .ok (.aload_n 0, 1) := by decide +kernel
theorem dX11_mat_16 : decode cX11_mat 16 = .ok (.aload_n 0, 1) := by decide +kernel
theorem dX11_mat_17 : decode cX11_mat 17 = .ok (.invokevirtual 41, 3) := by decide +kernel
theorem dX11_mat_20 : decode cX11_mat 20 = .ok (.iconst 1, 1) := by decide +kernel
theorem dX11_mat_21 : decode cX11_mat 21 = .ok (.isub, 1) := by decide +kernel
theorem dX11_mat_22 : decode cX11_mat 22 = .ok (.iconst 0, 1) := by decide +kernel
theorem dX11_mat_23 : decode cX11_mat 23 = .ok (.invokevirtual 56, 3) := by decide +kernel
theorem dX11_mat_26 : decode cX11_mat 26 = .ok (.if_icmp .le 20, 3) := by decide +kernel
theorem dX11_mat_29 : decode cX11_mat 29 = .ok (.iload_n 1, 1) := by decide +kernel
theorem dX11_mat_30 : decode cX11_mat 30 = .ok (.ldc 60, 2) := by decide +kernel
theorem dX11_mat_32 : decode cX11_mat 32 = .ok (.if_icmp .gt 14, 3) := by decide +kernel
theorem dX11_mat_35 : decode cX11_mat 35 = .ok (.iload_n 2, 1) := by decide +kernel
theorem dX11_mat_36 : decode cX11_mat 36 = .ok (.iconst 1, 1) := by decide +kernel
theorem dX11_mat_37 : decode cX11_mat 37 = .ok (.sipush 1000, 3) := by decide +kernel
theorem dX11_mat_40 : decode cX11_mat 40 = .ok (.invokestatic 52, 3) := by decide +kernel
theorem dX11_mat_43 : decode cX11_mat 43 = .ok (.ifCond .ne 5, 3) := by decide +kernel
theorem dX11_mat_46 : decode cX11_mat 46 = .ok (.iconst (-1), 1) := by decide +kernel
theorem dX11_mat_47 : decode cX11_mat 47 = .ok (.ireturn, 1) := by decide +kernel
theorem dX11_mat_48 : decode cX11_mat 48 = .ok (.aload_n 0, 1) := by decide +kernel
theorem dX11_mat_49 : decode cX11_mat 49 = .ok (.iload_n 1, 1) := by decide +kernel
theorem dX11_mat_50 : decode cX11_mat 50 = .ok (.iload_n 2, 1) := by decide +kernel
theorem dX11_mat_51 : decode cX11_mat 51 = .ok (.invokevirtual 33, 3) := by decide +kernel
theorem dX11_mat_54 : decode cX11_mat 54 = .ok (.aload_n 0, 1) := by decide +kernel
theorem dX11_mat_55 : decode cX11_mat 55 = .ok (.invokevirtual 41, 3) := by decide +kernel
theorem dX11_mat_58 : decode cX11_mat 58 = .ok (.iconst 1, 1) := by decide +kernel
theorem dX11_mat_59 : decode cX11_mat 59 = .ok (.isub, 1) := by decide +kernel
theorem dX11_mat_60 : decode cX11_mat 60 = .ok (.ireturn, 1) := by decide +kernel
set_option maxRecDepth 20000 in
theorem ggX11_mat_X11_mats : GoodIn wsX11_mat wsX11_mats := goodIn_r _ [7, 8, 28, 29, 30, 31, 32, 33, 34, 35, 36, 37, 38, 39, 40, 41, 42, 43] (by decide +kernel) (by decide +kernel)
set_option maxRecDepth 20000 in
theorem gX11_mat_X11_mats : GoodIn wsX11_mat (wsV RX11 41 RX11 yX11_mats wsX11_mats) := goodIn_app (goodIn_of _ (by decide +kernel)) ggX11_mat_X11_mats
set_option maxRecDepth 20000 in
theorem ggX11_mat_X11_ofMat : GoodIn wsX11_mat wsX11_ofMat := goodIn_r _ [12, 8, 28, 29, 30, 31, 32, 33, 34, 35, 36, 37, 38, 39, 40, 41, 42, 43] (by decide +kernel) (by decide +kernel)
set_option maxRecDepth 20000 in
theorem gX11_mat_X11_ofMat : GoodIn wsX11_mat (wsV RX11 56 RX11 yX11_ofMat wsX11_ofMat) := goodIn_app (goodIn_of _ (by decide +kernel)) ggX11_mat_X11_ofMat
set_option maxRecDepth 20000 in
theorem ggX11_mat_X11_isIn : GoodIn wsX11_mat wsX11_isIn := goodIn_r _ [15] (by decide +kernel) (by decide +kernel)
set_option maxRecDepth 20000 in
theorem gX11_mat_X11_isIn : GoodIn wsX11_mat (va_wsS RX11 52 yX11_isIn wsX11_isIn) := goodIn_app (goodIn_of _ (by decide +kernel)) ggX11_mat_X11_isIn
set_option maxRecDepth 20000 in
theorem ggX11_mat_X11_adds : GoodIn wsX11_mat wsX11_adds := goodIn_r _ [19, 8, 3, 4, 5, 6, 7, 20, 21, 22, 23, 24, 25, 26, 27, 28, 29, 30, 31, 32, 33, 34, 35, 36, 37, 38, 39, 40, 41, 42, 43] (by decide +kernel) (by decide +kernel)
set_option maxRecDepth 20000 in
theorem gX11_mat_X11_adds : GoodIn wsX11_mat (wsV RX11 33 RX11 yX11_adds wsX11_adds) := goodIn_app (goodIn_of _ (by decide +kernel)) ggX11_mat_X11_adds
def fX11_mat (N : Nat) (t_thrown : Int32) (t_now : Nat → Int32) (x1 : Int32) (x2 : Int32) : Option (Int32 × Int32 × (Nat → Int32)) := ((fX11_mats t_now).bind (fun r1 => (if r1 = (12 : Int32) then some ((-1 : Int32), (0 : Int32), t_now) else ((fX11_mats t_now).bind (fun r4 => ((fX11_ofMat t_now (r4 - (1 : Int32)) (0 : Int32)).bind (fun r6 => (if x1 ≤ r6 then some ((-1 : Int32), (0 : Int32), t_now) else (if (100000 : Int32) < x1 then some ((-1 : Int32), (0 : Int32), t_now) else ((fX11_isIn x2 (1 : Int32) (1000 : Int32)).bind (fun b10 => (if (zb b10) = 0 then some ((-1 : Int32), (0 : Int32), t_now) else ((fX11_adds N t_now x1 x2).bind (fun t_now_r13 => ((fX11_mats t_now_r13).bind (fun r15 => some ((r15 - (1 : Int32)), (0 : Int32), t_now_r13)))))))))))))))))
theorem kX11_mat_0 : (.fieldLink RX11 37 "RunDeskModel" "thrown" "I" : Cond) ∈ wsX11_mat := List.mem_of_getElem? (i := 1) (by decide +kernel)
theorem qX11_mat_X11 : ∀ w ∈ wsX110, w ∈ wsX11_mat := fun _ h => List.mem_cons_of_mem _ (List.mem_append_right _ (h))
theorem kX11_mat_2 : (.constant RX11 60 (100000) : Cond) ∈ wsX11_mat := List.mem_of_getElem? (i := 2) (by decide +kernel)
set_option maxHeartbeats 4000000 in
set_option maxRecDepth 100000 in
theorem mX11_mat (l : Launch) (D : va_G) (cB cI cZ : ClassId) (a_t : Nat) (a_t_now : Nat) (a_t_kept : Nat) (a_t_text : Nat) (a_t_passing : Nat) (a_t_order : Nat) (a_t_times : Nat) (t_thrown : Int32) (t_isKept : Int32) (t_length : Int32) (t_at : Int32) (t_fault : Int32) (t_open : Int32) (t_asked : Int32) (t_byGun : Int32) (t_prizeMost : Int32) (t_listed : Int32) (t_now : Nat → Int32) (sz : Nat) (x1 : Int32) (x2 : Int32) (N : Nat) (r0 : Int32) (t_thrown' : Int32) (t_now' : Nat → Int32) (h : fX11_mat N t_thrown t_now x1 x2 = some (r0, t_thrown', t_now')) : Met l yX11_mat wsX11_mat ({ frames := 2, cells := 0, slots := 0, locals := 47 } : Room) (va_Pc [.ref a_t, .int x1, .int x2] (zPre D (zT cB cI cZ) [(a_t, .inr (11, [.int t_thrown, .ref a_t_now, .ref a_t_kept, .int t_isKept, .ref a_t_text, .int t_length, .ref a_t_passing, .int t_at, .int t_fault, .int t_open, .int t_asked, .int t_byGun, .int t_prizeMost, .ref a_t_order, .ref a_t_times, .int t_listed])), (a_t_now, .inl (cI, 1562, .inl t_now))] sz)) (zQi r0 D (zT cB cI cZ) [(a_t, .inr (11, [.int t_thrown', .ref a_t_now, .ref a_t_kept, .int t_isKept, .ref a_t_text, .int t_length, .ref a_t_passing, .int t_at, .int t_fault, .int t_open, .int t_asked, .int t_byGun, .int t_prizeMost, .ref a_t_order, .ref a_t_times, .int t_listed])), (a_t_now, .inl (cI, 1562, .inl t_now'))] (va_A [(a_t, .inr (11, [.int t_thrown, .ref a_t_now, .ref a_t_kept, .int t_isKept, .ref a_t_text, .int t_length, .ref a_t_passing, .int t_at, .int t_fault, .int t_open, .int t_asked, .int t_byGun, .int t_prizeMost, .ref a_t_order, .ref a_t_times, .int t_listed])), (a_t_now, .inl (cI, 1562, .inl t_now))] sz)) 0 0 (va_A [(a_t, .inr (11, [.int t_thrown, .ref a_t_now, .ref a_t_kept, .int t_isKept, .ref a_t_text, .int t_length, .ref a_t_passing, .int t_at, .int t_fault, .int t_open, .int t_asked, .int t_byGun, .int t_prizeMost, .ref a_t_order, .ref a_t_times, .int t_listed])), (a_t_now, .inl (cI, 1562, .inl t_now))] sz) := by
  refine Met.ofW (cc := cX11_mat) (maxL := 3) (ret := (some .int)) (by decide) rfl ?_
  intro p e s m args below meth c s₁ B hml hv
  obtain ⟨rfl, hsz, hP, hK, hN, hZ, hD0⟩ := hv
  have hx := B.exec
  have hb := B.bytes
  have hr := B.returns
  have hts := atoms_spec (ws := wsX11_mat) B.pre
  have hown : s.vm.findClass RX11 = some m.cls := findClass_of_methodNamed B.named
  have hlocks := B.notSynchronized
  subst hsz
  have hD := hD0.self (sz := s.heap.size)
  generalize hAe : va_A [(a_t, .inr (11, [.int t_thrown, .ref a_t_now, .ref a_t_kept, .int t_isKept, .ref a_t_text, .int t_length, .ref a_t_passing, .int t_at, .int t_fault, .int t_open, .int t_asked, .int t_byGun, .int t_prizeMost, .ref a_t_order, .ref a_t_times, .int t_listed])), (a_t_now, .inl (cI, 1562, .inl t_now))] s.heap.size = A at hD hZ ⊢
  have hA : ∀ q : Nat, s.heap.size ≤ q → A q := fun q h => by rw [← hAe]; exact Or.inr h
  have hS : va_S A s.heap s.heap [] := va_S.rf
  have hl := lv_entry ([.ref a_t, .int x1, .int x2]) (n := 3) (Nat.le_of_ble_eq_true rfl)
  rw [lg_entry_eq]
  generalize (lg_sl ([.ref a_t, .int x1, .int x2]) ++ List.replicate (3 - (lg_sl ([.ref a_t, .int x1, .int x2])).length) Slot.unset).toArray = ls at hl ⊢
  have hl : lv_has ls 3 [(0, .ref a_t), (1, .int x1), (2, .int x2)] := hl
  unfold fX11_mat at h
  refine lv_aload_n hx hb dX11_mat_0 rfl (lv_at hl 0 rfl) ?_
  refine lv_iconst (v := (0 : Int32)) hx hb dX11_mat_1 rfl ?_
  refine va_put (D := D) (ci := 11) (ty := .int) (C := RX11) (T := TX11) (N := 16) hx hb hts qX11_mat_X11 tyX11 tyX11_ok nmX11 hown hK hP hD hS 0 rfl rfl 0 (by decide) (hts _ kX11_mat_0) (fun _ h9 => h9) rfl (by decide +kernel) rfl (by first | rfl | exact zz_fit) (Nat.le_of_ble_eq_true rfl) dX11_mat_2 (fun H locs hP hD hS => ?_)
  have hP : va_P D vwCl [(a_t, .inr (11, [.int (0 : Int32), .ref a_t_now, .ref a_t_kept, .int t_isKept, .ref a_t_text, .int t_length, .ref a_t_passing, .int t_at, .int t_fault, .int t_open, .int t_asked, .int t_byGun, .int t_prizeMost, .ref a_t_order, .ref a_t_times, .int t_listed])), (a_t_now, .inl (cI, 1562, .inl t_now))] H := hP
  have hD : va_D A [(a_t, .inr (11, [.int (0 : Int32), .ref a_t_now, .ref a_t_kept, .int t_isKept, .ref a_t_text, .int t_length, .ref a_t_passing, .int t_at, .int t_fault, .int t_open, .int t_asked, .int t_byGun, .int t_prizeMost, .ref a_t_order, .ref a_t_times, .int t_listed])), (a_t_now, .inl (cI, 1562, .inl t_now))] := hD
  refine lv_aload_n hx hb dX11_mat_5 rfl (lv_at hl 0 rfl) ?_
  obtain ⟨r1, e2, h⟩ := zz_b h
  refine zVi (As := []) (rest := []) (C := RX11) (wr := []) [0, 1] [] 0 ⟨hx, hb, hml, hown, hts⟩ (mX11_mats l D cB cI cZ a_t a_t_now a_t_kept a_t_text a_t_passing a_t_order a_t_times (0 : Int32) t_isKept t_length t_at t_fault t_open t_asked t_byGun t_prizeMost t_listed t_now H.size r1 e2) (cwV 0 hts gX11_mat_X11_mats rfl rfl rfl (by decide +kernel) ⟨Nat.le_of_ble_eq_true rfl, Nat.le_of_ble_eq_true rfl⟩) hK hN hZ hP hD hS hA rfl rfl rfl rfl rfl rfl rfl rfl hl.1 rfl (lv_room (Nat.le_of_ble_eq_true rfl)) dX11_mat_6 ⟨Nat.le_of_ble_eq_true rfl, Nat.le_of_ble_eq_true rfl⟩ (fun H locs hP hD hS => ?_)
  have hP : va_P D vwCl [(a_t, .inr (11, [.int (0 : Int32), .ref a_t_now, .ref a_t_kept, .int t_isKept, .ref a_t_text, .int t_length, .ref a_t_passing, .int t_at, .int t_fault, .int t_open, .int t_asked, .int t_byGun, .int t_prizeMost, .ref a_t_order, .ref a_t_times, .int t_listed])), (a_t_now, .inl (cI, 1562, .inl t_now))] H := hP
  have hD : va_D A [(a_t, .inr (11, [.int (0 : Int32), .ref a_t_now, .ref a_t_kept, .int t_isKept, .ref a_t_text, .int t_length, .ref a_t_passing, .int t_at, .int t_fault, .int t_open, .int t_asked, .int t_byGun, .int t_prizeMost, .ref a_t_order, .ref a_t_times, .int t_listed])), (a_t_now, .inl (cI, 1562, .inl t_now))] := hD
  refine lv_bipush (v := (12 : Int32)) hx hb dX11_mat_9 rfl ?_
  refine lv_icmp_eq (tgt := 46) hx hb dX11_mat_11 (by decide) (fun c3 => ?_) (fun c3 => ?_)
  · have h := zz_t h c3
    refine lv_iconst (v := (-1 : Int32)) hx hb dX11_mat_46 rfl ?_
    obtain ⟨j0_, g_⟩ := Prod.mk.inj (Option.some.inj h)
    obtain ⟨j1_, g_⟩ := Prod.mk.inj g_
    have j2_ := g_
    subst j0_
    subst j1_
    subst j2_
    exact W.iret (v := (-1 : Int32)) hx hb hr (fun t ht hW => ⟨⟨_, (), rfl, rfl, zPost.of hP hD hK ht hW [0, 1] rfl rfl rfl⟩, hS.F ht⟩) hS.2.2 dX11_mat_47
  · have h := zz_f h c3
    refine lv_iload_n hx hb dX11_mat_14 rfl (lv_at hl 1 rfl) ?_
    refine lv_aload_n hx hb dX11_mat_15 rfl (lv_at hl 0 rfl) ?_
    refine lv_aload_n hx hb dX11_mat_16 rfl (lv_at hl 0 rfl) ?_
    obtain ⟨r4, e5, h⟩ := zz_b h
    refine zVi (As := []) (rest := [.ref a_t, .int x1]) (C := RX11) (wr := []) [0, 1] [] 0 ⟨hx, hb, hml, hown, hts⟩ (mX11_mats l D cB cI cZ a_t a_t_now a_t_kept a_t_text a_t_passing a_t_order a_t_times (0 : Int32) t_isKept t_length t_at t_fault t_open t_asked t_byGun t_prizeMost t_listed t_now H.size r4 e5) (cwV 0 hts gX11_mat_X11_mats rfl rfl rfl (by decide +kernel) ⟨Nat.le_of_ble_eq_true rfl, Nat.le_of_ble_eq_true rfl⟩) hK hN hZ hP hD hS hA rfl rfl rfl rfl rfl rfl rfl rfl hl.1 rfl (lv_room (Nat.le_of_ble_eq_true rfl)) dX11_mat_17 ⟨Nat.le_of_ble_eq_true rfl, Nat.le_of_ble_eq_true rfl⟩ (fun H locs hP hD hS => ?_)
    have hP : va_P D vwCl [(a_t, .inr (11, [.int (0 : Int32), .ref a_t_now, .ref a_t_kept, .int t_isKept, .ref a_t_text, .int t_length, .ref a_t_passing, .int t_at, .int t_fault, .int t_open, .int t_asked, .int t_byGun, .int t_prizeMost, .ref a_t_order, .ref a_t_times, .int t_listed])), (a_t_now, .inl (cI, 1562, .inl t_now))] H := hP
    have hD : va_D A [(a_t, .inr (11, [.int (0 : Int32), .ref a_t_now, .ref a_t_kept, .int t_isKept, .ref a_t_text, .int t_length, .ref a_t_passing, .int t_at, .int t_fault, .int t_open, .int t_asked, .int t_byGun, .int t_prizeMost, .ref a_t_order, .ref a_t_times, .int t_listed])), (a_t_now, .inl (cI, 1562, .inl t_now))] := hD
    refine lv_iconst (v := (1 : Int32)) hx hb dX11_mat_20 rfl ?_
    refine lv_isub hx hb dX11_mat_21 ?_
    refine lv_iconst (v := (0 : Int32)) hx hb dX11_mat_22 rfl ?_
    obtain ⟨r6, e7, h⟩ := zz_b h
    refine zVi (As := [.int (r4 - (1 : Int32)), .int (0 : Int32)]) (rest := [.int x1]) (C := RX11) (wr := []) [0, 1] [] 0 ⟨hx, hb, hml, hown, hts⟩ (mX11_ofMat l D cB cI cZ a_t a_t_now a_t_kept a_t_text a_t_passing a_t_order a_t_times (0 : Int32) t_isKept t_length t_at t_fault t_open t_asked t_byGun t_prizeMost t_listed t_now H.size (r4 - (1 : Int32)) (0 : Int32) r6 e7) (cwV 2 hts gX11_mat_X11_ofMat rfl rfl rfl (by decide +kernel) ⟨Nat.le_of_ble_eq_true rfl, Nat.le_of_ble_eq_true rfl⟩) hK hN hZ hP hD hS hA rfl rfl rfl rfl rfl rfl rfl rfl hl.1 rfl (lv_room (Nat.le_of_ble_eq_true rfl)) dX11_mat_23 ⟨Nat.le_of_ble_eq_true rfl, Nat.le_of_ble_eq_true rfl⟩ (fun H locs hP hD hS => ?_)
    have hP : va_P D vwCl [(a_t, .inr (11, [.int (0 : Int32), .ref a_t_now, .ref a_t_kept, .int t_isKept, .ref a_t_text, .int t_length, .ref a_t_passing, .int t_at, .int t_fault, .int t_open, .int t_asked, .int t_byGun, .int t_prizeMost, .ref a_t_order, .ref a_t_times, .int t_listed])), (a_t_now, .inl (cI, 1562, .inl t_now))] H := hP
    have hD : va_D A [(a_t, .inr (11, [.int (0 : Int32), .ref a_t_now, .ref a_t_kept, .int t_isKept, .ref a_t_text, .int t_length, .ref a_t_passing, .int t_at, .int t_fault, .int t_open, .int t_asked, .int t_byGun, .int t_prizeMost, .ref a_t_order, .ref a_t_times, .int t_listed])), (a_t_now, .inl (cI, 1562, .inl t_now))] := hD
    refine lv_icmp_le (tgt := 46) hx hb dX11_mat_26 (by decide) (fun c8 => ?_) (fun c8 => ?_)
    · have h := zz_t h c8
      refine lv_iconst (v := (-1 : Int32)) hx hb dX11_mat_46 rfl ?_
      obtain ⟨j0_, g_⟩ := Prod.mk.inj (Option.some.inj h)
      obtain ⟨j1_, g_⟩ := Prod.mk.inj g_
      have j2_ := g_
      subst j0_
      subst j1_
      subst j2_
      exact W.iret (v := (-1 : Int32)) hx hb hr (fun t ht hW => ⟨⟨_, (), rfl, rfl, zPost.of hP hD hK ht hW [0, 1] rfl rfl rfl⟩, hS.F ht⟩) hS.2.2 dX11_mat_47
    · have h := zz_f h c8
      refine lv_iload_n hx hb dX11_mat_29 rfl (lv_at hl 1 rfl) ?_
      refine lv_ldc (v := (100000 : Int32)) hx hb hown (hts _ kX11_mat_2) dX11_mat_30 ?_
      refine lv_icmp_gt (tgt := 46) hx hb dX11_mat_32 (by decide) (fun c9 => ?_) (fun c9 => ?_)
      · have h := zz_t h c9
        refine lv_iconst (v := (-1 : Int32)) hx hb dX11_mat_46 rfl ?_
        obtain ⟨j0_, g_⟩ := Prod.mk.inj (Option.some.inj h)
        obtain ⟨j1_, g_⟩ := Prod.mk.inj g_
        have j2_ := g_
        subst j0_
        subst j1_
        subst j2_
        exact W.iret (v := (-1 : Int32)) hx hb hr (fun t ht hW => ⟨⟨_, (), rfl, rfl, zPost.of hP hD hK ht hW [0, 1] rfl rfl rfl⟩, hS.F ht⟩) hS.2.2 dX11_mat_47
      · have h := zz_f h c9
        refine lv_iload_n hx hb dX11_mat_35 rfl (lv_at hl 2 rfl) ?_
        refine lv_iconst (v := (1 : Int32)) hx hb dX11_mat_36 rfl ?_
        refine lv_sipush (v := (1000 : Int32)) hx hb dX11_mat_37 rfl ?_
        obtain ⟨b10, e11, h⟩ := zz_b h
        refine zSi (As := [.int x2, .int (1 : Int32), .int (1000 : Int32)]) (rest := []) (wr := [(a_t, .inr (11, [.int (0 : Int32), .ref a_t_now, .ref a_t_kept, .int t_isKept, .ref a_t_text, .int t_length, .ref a_t_passing, .int t_at, .int t_fault, .int t_open, .int t_asked, .int t_byGun, .int t_prizeMost, .ref a_t_order, .ref a_t_times, .int t_listed])), (a_t_now, .inl (cI, 1562, .inl t_now))]) [] [0, 1] ⟨hx, hb, hml, hown, hts⟩ (mX11_isIn l D cB cI cZ H.size x2 (1 : Int32) (1000 : Int32) b10 e11) (va_cwS 3 hts gX11_mat_X11_isIn rfl rfl rfl (by decide +kernel) ⟨Nat.le_of_ble_eq_true rfl, Nat.le_of_ble_eq_true rfl⟩) hK hN hZ hP hD hS hA rfl rfl rfl rfl rfl rfl hl.1 rfl (lv_room (Nat.le_of_ble_eq_true rfl)) dX11_mat_40 ⟨Nat.le_of_ble_eq_true rfl, Nat.le_of_ble_eq_true rfl⟩ (fun H locs hP hD hS => ?_)
        have hP : va_P D vwCl [(a_t, .inr (11, [.int (0 : Int32), .ref a_t_now, .ref a_t_kept, .int t_isKept, .ref a_t_text, .int t_length, .ref a_t_passing, .int t_at, .int t_fault, .int t_open, .int t_asked, .int t_byGun, .int t_prizeMost, .ref a_t_order, .ref a_t_times, .int t_listed])), (a_t_now, .inl (cI, 1562, .inl t_now))] H := hP
        have hD : va_D A [(a_t, .inr (11, [.int (0 : Int32), .ref a_t_now, .ref a_t_kept, .int t_isKept, .ref a_t_text, .int t_length, .ref a_t_passing, .int t_at, .int t_fault, .int t_open, .int t_asked, .int t_byGun, .int t_prizeMost, .ref a_t_order, .ref a_t_times, .int t_listed])), (a_t_now, .inl (cI, 1562, .inl t_now))] := hD
        refine lv_if_ne (tgt := 48) hx hb dX11_mat_43 (by decide) (fun c12 => ?_) (fun c12 => ?_)
        · have h := zz_f h c12
          refine lv_aload_n hx hb dX11_mat_48 rfl (lv_at hl 0 rfl) ?_
          refine lv_iload_n hx hb dX11_mat_49 rfl (lv_at hl 1 rfl) ?_
          refine lv_iload_n hx hb dX11_mat_50 rfl (lv_at hl 2 rfl) ?_
          obtain ⟨t_now_r13, e14, h⟩ := zz_b h
          refine zVv (As := [.int x1, .int x2]) (rest := []) (C := RX11) (wr := []) [0, 1] [] 0 ⟨hx, hb, hml, hown, hts⟩ (mX11_adds l D cB cI cZ a_t a_t_now a_t_kept a_t_text a_t_passing a_t_order a_t_times (0 : Int32) t_isKept t_length t_at t_fault t_open t_asked t_byGun t_prizeMost t_listed t_now H.size x1 x2 N t_now_r13 e14) (cwV 2 hts gX11_mat_X11_adds rfl rfl rfl (by decide +kernel) ⟨Nat.le_of_ble_eq_true rfl, Nat.le_of_ble_eq_true rfl⟩) hK hN hZ hP hD hS hA rfl rfl rfl rfl rfl rfl rfl rfl hl.1 rfl (lv_room (Nat.le_of_ble_eq_true rfl)) dX11_mat_51 ⟨Nat.le_of_ble_eq_true rfl, Nat.le_of_ble_eq_true rfl⟩ (fun H locs hP hD hS => ?_)
          have hP : va_P D vwCl [(a_t, .inr (11, [.int (0 : Int32), .ref a_t_now, .ref a_t_kept, .int t_isKept, .ref a_t_text, .int t_length, .ref a_t_passing, .int t_at, .int t_fault, .int t_open, .int t_asked, .int t_byGun, .int t_prizeMost, .ref a_t_order, .ref a_t_times, .int t_listed])), (a_t_now, .inl (cI, 1562, .inl t_now_r13))] H := hP
          have hD : va_D A [(a_t, .inr (11, [.int (0 : Int32), .ref a_t_now, .ref a_t_kept, .int t_isKept, .ref a_t_text, .int t_length, .ref a_t_passing, .int t_at, .int t_fault, .int t_open, .int t_asked, .int t_byGun, .int t_prizeMost, .ref a_t_order, .ref a_t_times, .int t_listed])), (a_t_now, .inl (cI, 1562, .inl t_now_r13))] := hD
          refine lv_aload_n hx hb dX11_mat_54 rfl (lv_at hl 0 rfl) ?_
          obtain ⟨r15, e16, h⟩ := zz_b h
          refine zVi (As := []) (rest := []) (C := RX11) (wr := []) [0, 1] [] 0 ⟨hx, hb, hml, hown, hts⟩ (mX11_mats l D cB cI cZ a_t a_t_now a_t_kept a_t_text a_t_passing a_t_order a_t_times (0 : Int32) t_isKept t_length t_at t_fault t_open t_asked t_byGun t_prizeMost t_listed t_now_r13 H.size r15 e16) (cwV 0 hts gX11_mat_X11_mats rfl rfl rfl (by decide +kernel) ⟨Nat.le_of_ble_eq_true rfl, Nat.le_of_ble_eq_true rfl⟩) hK hN hZ hP hD hS hA rfl rfl rfl rfl rfl rfl rfl rfl hl.1 rfl (lv_room (Nat.le_of_ble_eq_true rfl)) dX11_mat_55 ⟨Nat.le_of_ble_eq_true rfl, Nat.le_of_ble_eq_true rfl⟩ (fun H locs hP hD hS => ?_)
          have hP : va_P D vwCl [(a_t, .inr (11, [.int (0 : Int32), .ref a_t_now, .ref a_t_kept, .int t_isKept, .ref a_t_text, .int t_length, .ref a_t_passing, .int t_at, .int t_fault, .int t_open, .int t_asked, .int t_byGun, .int t_prizeMost, .ref a_t_order, .ref a_t_times, .int t_listed])), (a_t_now, .inl (cI, 1562, .inl t_now_r13))] H := hP
          have hD : va_D A [(a_t, .inr (11, [.int (0 : Int32), .ref a_t_now, .ref a_t_kept, .int t_isKept, .ref a_t_text, .int t_length, .ref a_t_passing, .int t_at, .int t_fault, .int t_open, .int t_asked, .int t_byGun, .int t_prizeMost, .ref a_t_order, .ref a_t_times, .int t_listed])), (a_t_now, .inl (cI, 1562, .inl t_now_r13))] := hD
          refine lv_iconst (v := (1 : Int32)) hx hb dX11_mat_58 rfl ?_
          refine lv_isub hx hb dX11_mat_59 ?_
          obtain ⟨j0_, g_⟩ := Prod.mk.inj (Option.some.inj h)
          obtain ⟨j1_, g_⟩ := Prod.mk.inj g_
          have j2_ := g_
          subst j0_
          subst j1_
          subst j2_
          exact W.iret (v := (r15 - (1 : Int32))) hx hb hr (fun t ht hW => ⟨⟨_, (), rfl, rfl, zPost.of hP hD hK ht hW [0, 1] rfl rfl rfl⟩, hS.F ht⟩) hS.2.2 dX11_mat_60
        · have h := zz_t h c12
          refine lv_iconst (v := (-1 : Int32)) hx hb dX11_mat_46 rfl ?_
          obtain ⟨j0_, g_⟩ := Prod.mk.inj (Option.some.inj h)
          obtain ⟨j1_, g_⟩ := Prod.mk.inj g_
          have j2_ := g_
          subst j0_
          subst j1_
          subst j2_
          exact W.iret (v := (-1 : Int32)) hx hb hr (fun t ht hW => ⟨⟨_, (), rfl, rfl, zPost.of hP hD hK ht hW [0, 1] rfl rfl rfl⟩, hS.F ht⟩) hS.2.2 dX11_mat_47
