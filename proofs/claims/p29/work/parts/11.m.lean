/-! RunDesk$Foretelling.passersIn -/
theorem dX1_passersIn_0 : decode cX1_passersIn 0 = .ok (.aload_n 1, 1) := by decide +kernel
theorem dX1_passersIn_1 : decode cX1_passersIn 1 = .ok (.getfield 31, 3) := by decide +kernel
theorem dX1_passersIn_4 : decode cX1_passersIn 4 = .ok (.iload_n 2, 1) := by decide +kernel
theorem dX1_passersIn_5 : decode cX1_passersIn 5 = .ok (.invokevirtual 37, 3) := by decide +kernel
theorem dX1_passersIn_8 : decode cX1_passersIn 8 = .ok (.istore 4, 2) := by decide +kernel
theorem dX1_passersIn_10 : decode cX1_passersIn 10 = .ok (.iconst 0, 1) := by decide +kernel
theorem dX1_passersIn_11 : decode cX1_passersIn 11 = .ok (.istore 5, 2) := by decide +kernel
theorem dX1_passersIn_13 : decode cX1_passersIn 13 = .ok (.iconst 0, 1) := by decide +kernel
theorem dX1_passersIn_14 : decode cX1_passersIn 14 = .ok (.istore 6, 2) := by decide +kernel
theorem dX1_passersIn_16 : decode cX1_passersIn 16 = .ok (.iload 6, 2) := by decide +kernel
theorem dX1_passersIn_18 : decode cX1_passersIn 18 = .ok (.aload_n 1, 1) := by decide +kernel
theorem dX1_passersIn_19 : decode cX1_passersIn 19 = .ok (.getfield 43, 3) := by decide +kernel
theorem dX1_passersIn_22 : decode cX1_passersIn 22 = .ok (.invokevirtual 47, 3) := by decide +kernel
theorem dX1_passersIn_25 : decode cX1_passersIn 25 = .ok (.if_icmp .ge 55, 3) := by decide +kernel
theorem dX1_passersIn_28 : decode cX1_passersIn 28 = .ok (.aload_n 1, 1) := by decide +kernel
theorem dX1_passersIn_29 : decode cX1_passersIn 29 = .ok (.iload 6, 2) := by decide +kernel
theorem dX1_passersIn_31 : decode cX1_passersIn 31 = .ok (.invokevirtual 53, 3) := by decide +kernel
theorem dX1_passersIn_34 : decode cX1_passersIn 34 = .ok (.istore 7, 2) := by decide +kernel
theorem dX1_passersIn_36 : decode cX1_passersIn 36 = .ok (.aload_n 1, 1) := by decide +kernel
theorem dX1_passersIn_37 : decode cX1_passersIn 37 = .ok (.getfield 43, 3) := by decide +kernel
theorem dX1_passersIn_40 : decode cX1_passersIn 40 = .ok (.iload 6, 2) := by decide +kernel
theorem dX1_passersIn_42 : decode cX1_passersIn 42 = .ok (.iconst 1, 1) := by decide +kernel
theorem dX1_passersIn_43 : decode cX1_passersIn 43 = .ok (.invokevirtual 56, 3) := by decide +kernel
theorem dX1_passersIn_46 : decode cX1_passersIn 46 = .ok (.istore 8, 2) := by decide +kernel
theorem dX1_passersIn_48 : decode cX1_passersIn 48 = .ok (.iload 7, 2) := by decide +kernel
theorem dX1_passersIn_50 : decode cX1_passersIn 50 = .ok (.iconst (-1), 1) := by decide +kernel
theorem dX1_passersIn_51 : decode cX1_passersIn 51 = .ok (.if_icmp .eq 23, 3) := by decide +kernel
theorem dX1_passersIn_54 : decode cX1_passersIn 54 = .ok (.iload 7, 2) := by decide +kernel
theorem dX1_passersIn_56 : decode cX1_passersIn 56 = .ok (.iload 4, 2) := by decide +kernel
theorem dX1_passersIn_58 : decode cX1_passersIn 58 = .ok (.iload 8, 2) := by decide +kernel
theorem dX1_passersIn_60 : decode cX1_passersIn 60 = .ok (.invokestatic 60, 3) := by decide +kernel
theorem dX1_passersIn_63 : decode cX1_passersIn 63 = .ok (.iadd, 1) := by decide +kernel
theorem dX1_passersIn_64 : decode cX1_passersIn 64 = .ok (.bipush 60, 2) := by decide +kernel
theorem dX1_passersIn_66 : decode cX1_passersIn 66 = .ok (.idiv, 1) := by decide +kernel
theorem dX1_passersIn_67 : decode cX1_passersIn 67 = .ok (.iload_n 3, 1) := by decide +kernel
theorem dX1_passersIn_68 : decode cX1_passersIn 68 = .ok (.if_icmp .ne 6, 3) := by decide +kernel
theorem dX1_passersIn_71 : decode cX1_passersIn 71 = .ok (.iinc 5 1, 3) := by decide +kernel
theorem dX1_passersIn_74 : decode cX1_passersIn 74 = .ok (.iinc 6 1, 3) := by decide +kernel
theorem dX1_passersIn_77 : decode cX1_passersIn 77 = .ok (.goto (-61), 3) := by decide +kernel
theorem dX1_passersIn_80 : decode cX1_passersIn 80 = .ok (.iload 5, 2) := by decide +kernel
theorem dX1_passersIn_82 : decode cX1_passersIn 82 = .ok (.ireturn, 1) := by decide +kernel
set_option maxRecDepth 20000 in
theorem ggX1_passersIn_X9_placeAt : GoodIn wsX1_passersIn wsX9_placeAt := goodIn_sub (List.forall_mem_cons.mpr ⟨List.mem_cons_of_mem _ (List.mem_append_left _ (List.mem_append_left _ (List.mem_append_left _ (List.mem_append_left _ (List.mem_append_left _ (List.mem_of_getElem? (l := wsX1_passersIn_r1) (i := 4) rfl)))))), (List.forall_mem_append.mpr ⟨(List.forall_mem_cons.mpr ⟨List.mem_cons_of_mem _ (List.mem_append_left _ (List.mem_append_left _ (List.mem_append_left _ (List.mem_append_left _ (List.mem_append_left _ (List.mem_of_getElem? (l := wsX1_passersIn_r1) (i := 5) rfl)))))), (List.forall_mem_cons.mpr ⟨List.mem_cons_of_mem _ (List.mem_append_left _ (List.mem_append_left _ (List.mem_append_left _ (List.mem_append_left _ (List.mem_append_left _ (List.mem_of_getElem? (l := wsX1_passersIn_r1) (i := 6) rfl)))))), (List.forall_mem_cons.mpr ⟨List.mem_cons_of_mem _ (List.mem_append_left _ (List.mem_append_left _ (List.mem_append_left _ (List.mem_append_left _ (List.mem_append_left _ (List.mem_of_getElem? (l := wsX1_passersIn_r1) (i := 7) rfl)))))), (List.forall_mem_cons.mpr ⟨List.mem_cons_of_mem _ (List.mem_append_left _ (List.mem_append_left _ (List.mem_append_left _ (List.mem_append_left _ (List.mem_append_left _ (List.mem_of_getElem? (l := wsX1_passersIn_r1) (i := 8) rfl)))))), (List.forall_mem_cons.mpr ⟨List.mem_cons_of_mem _ (List.mem_append_left _ (List.mem_append_left _ (List.mem_append_left _ (List.mem_append_left _ (List.mem_append_left _ (List.mem_of_getElem? (l := wsX1_passersIn_r1) (i := 3) rfl)))))), (List.forall_mem_cons.mpr ⟨List.mem_cons_of_mem _ (List.mem_append_left _ (List.mem_append_left _ (List.mem_append_left _ (List.mem_append_left _ (List.mem_append_left _ (List.mem_of_getElem? (l := wsX1_passersIn_r1) (i := 9) rfl)))))), (List.forall_mem_cons.mpr ⟨List.mem_cons_of_mem _ (List.mem_append_left _ (List.mem_append_left _ (List.mem_append_left _ (List.mem_append_left _ (List.mem_append_left _ (List.mem_of_getElem? (l := wsX1_passersIn_r1) (i := 10) rfl)))))), (fun _ h => nomatch h)⟩)⟩)⟩)⟩)⟩)⟩)⟩), (fun _ h => List.mem_cons_of_mem _ (List.mem_append_left _ (List.mem_append_left _ (List.mem_append_right _ (h)))))⟩)⟩) (by decide +kernel)
set_option maxRecDepth 20000 in
theorem gX1_passersIn_X9_placeAt : GoodIn wsX1_passersIn (wsV RX1 37 RX9 yX9_placeAt wsX9_placeAt) := goodIn_app (goodIn_of _ (by decide +kernel)) ggX1_passersIn_X9_placeAt
set_option maxRecDepth 20000 in
theorem ggX1_passersIn_X6_size : GoodIn wsX1_passersIn wsX6_size := goodIn_sub (List.forall_mem_cons.mpr ⟨List.mem_cons_of_mem _ (List.mem_append_left _ (List.mem_append_left _ (List.mem_append_left _ (List.mem_append_left _ (List.mem_append_left _ (List.mem_of_getElem? (l := wsX1_passersIn_r1) (i := 15) rfl)))))), (List.forall_mem_append.mpr ⟨(List.forall_mem_cons.mpr ⟨List.mem_cons_of_mem _ (List.mem_append_left _ (List.mem_append_left _ (List.mem_append_left _ (List.mem_append_left _ (List.mem_append_left _ (List.mem_of_getElem? (l := wsX1_passersIn_r1) (i := 16) rfl)))))), (fun _ h => nomatch h)⟩), (fun _ h => List.mem_cons_of_mem _ (List.mem_append_left _ (List.mem_append_right _ (h))))⟩)⟩) (by decide +kernel)
set_option maxRecDepth 20000 in
theorem gX1_passersIn_X6_size : GoodIn wsX1_passersIn (wsV RX1 47 RX6 yX6_size wsX6_size) := goodIn_app (goodIn_of _ (by decide +kernel)) ggX1_passersIn_X6_size
set_option maxRecDepth 20000 in
theorem ggX1_passersIn_X4_gunOf : GoodIn wsX1_passersIn wsX4_gunOf := goodIn_sub (List.forall_mem_cons.mpr ⟨List.mem_cons_of_mem _ (List.mem_append_left _ (List.mem_append_left _ (List.mem_append_left _ (List.mem_append_left _ (List.mem_append_left _ (List.mem_of_getElem? (l := wsX1_passersIn_r1) (i := 21) rfl)))))), (List.forall_mem_append.mpr ⟨(List.forall_mem_append.mpr ⟨(List.forall_mem_append.mpr ⟨(List.forall_mem_cons.mpr ⟨List.mem_cons_of_mem _ (List.mem_append_left _ (List.mem_append_left _ (List.mem_append_left _ (List.mem_append_left _ (List.mem_append_left _ (List.mem_of_getElem? (l := wsX1_passersIn_r1) (i := 22) rfl)))))), (List.forall_mem_cons.mpr ⟨List.mem_cons_of_mem _ (List.mem_append_left _ (List.mem_append_left _ (List.mem_append_left _ (List.mem_append_left _ (List.mem_append_left _ (List.mem_of_getElem? (l := wsX1_passersIn_r1) (i := 23) rfl)))))), (List.forall_mem_cons.mpr ⟨List.mem_cons_of_mem _ (List.mem_append_left _ (List.mem_append_left _ (List.mem_append_left _ (List.mem_append_left _ (List.mem_append_right _ (List.mem_of_getElem? (l := wsX1_passersIn_r2) (i := 0) rfl)))))), (List.forall_mem_cons.mpr ⟨List.mem_cons_of_mem _ (List.mem_append_left _ (List.mem_append_left _ (List.mem_append_left _ (List.mem_append_left _ (List.mem_append_right _ (List.mem_of_getElem? (l := wsX1_passersIn_r2) (i := 1) rfl)))))), (List.forall_mem_cons.mpr ⟨List.mem_cons_of_mem _ (List.mem_append_left _ (List.mem_append_left _ (List.mem_append_left _ (List.mem_append_left _ (List.mem_append_right _ (List.mem_of_getElem? (l := wsX1_passersIn_r2) (i := 2) rfl)))))), (List.forall_mem_cons.mpr ⟨List.mem_cons_of_mem _ (List.mem_append_left _ (List.mem_append_left _ (List.mem_append_left _ (List.mem_append_left _ (List.mem_append_left _ (List.mem_of_getElem? (l := wsX1_passersIn_r1) (i := 14) rfl)))))), (List.forall_mem_cons.mpr ⟨List.mem_cons_of_mem _ (List.mem_append_left _ (List.mem_append_left _ (List.mem_append_left _ (List.mem_append_left _ (List.mem_append_right _ (List.mem_of_getElem? (l := wsX1_passersIn_r2) (i := 3) rfl)))))), (List.forall_mem_cons.mpr ⟨List.mem_cons_of_mem _ (List.mem_append_left _ (List.mem_append_left _ (List.mem_append_left _ (List.mem_append_left _ (List.mem_append_left _ (List.mem_of_getElem? (l := wsX1_passersIn_r1) (i := 16) rfl)))))), (List.forall_mem_cons.mpr ⟨List.mem_cons_of_mem _ (List.mem_append_left _ (List.mem_append_left _ (List.mem_append_left _ (List.mem_append_left _ (List.mem_append_right _ (List.mem_of_getElem? (l := wsX1_passersIn_r2) (i := 4) rfl)))))), (List.forall_mem_cons.mpr ⟨List.mem_cons_of_mem _ (List.mem_append_left _ (List.mem_append_left _ (List.mem_append_left _ (List.mem_append_left _ (List.mem_append_right _ (List.mem_of_getElem? (l := wsX1_passersIn_r2) (i := 5) rfl)))))), (List.forall_mem_cons.mpr ⟨List.mem_cons_of_mem _ (List.mem_append_left _ (List.mem_append_left _ (List.mem_append_left _ (List.mem_append_left _ (List.mem_append_right _ (List.mem_of_getElem? (l := wsX1_passersIn_r2) (i := 6) rfl)))))), (List.forall_mem_cons.mpr ⟨List.mem_cons_of_mem _ (List.mem_append_left _ (List.mem_append_left _ (List.mem_append_left _ (List.mem_append_left _ (List.mem_append_right _ (List.mem_of_getElem? (l := wsX1_passersIn_r2) (i := 7) rfl)))))), (List.forall_mem_cons.mpr ⟨List.mem_cons_of_mem _ (List.mem_append_left _ (List.mem_append_left _ (List.mem_append_left _ (List.mem_append_left _ (List.mem_append_right _ (List.mem_of_getElem? (l := wsX1_passersIn_r2) (i := 8) rfl)))))), (List.forall_mem_cons.mpr ⟨List.mem_cons_of_mem _ (List.mem_append_left _ (List.mem_append_left _ (List.mem_append_left _ (List.mem_append_left _ (List.mem_append_right _ (List.mem_of_getElem? (l := wsX1_passersIn_r2) (i := 9) rfl)))))), (List.forall_mem_cons.mpr ⟨List.mem_cons_of_mem _ (List.mem_append_left _ (List.mem_append_left _ (List.mem_append_left _ (List.mem_append_left _ (List.mem_append_right _ (List.mem_of_getElem? (l := wsX1_passersIn_r2) (i := 10) rfl)))))), (fun _ h => nomatch h)⟩)⟩)⟩)⟩)⟩)⟩)⟩)⟩)⟩)⟩)⟩)⟩)⟩)⟩)⟩), (fun _ h => List.mem_cons_of_mem _ (List.mem_append_left _ (List.mem_append_left _ (List.mem_append_left _ (List.mem_append_right _ (h))))))⟩), (fun _ h => List.mem_cons_of_mem _ (List.mem_append_left _ (List.mem_append_right _ (h))))⟩), (fun _ h => List.mem_cons_of_mem _ (List.mem_append_right _ (h)))⟩)⟩) (by decide +kernel)
set_option maxRecDepth 20000 in
theorem gX1_passersIn_X4_gunOf : GoodIn wsX1_passersIn (wsV RX1 53 RX4 yX4_gunOf wsX4_gunOf) := goodIn_app (goodIn_of _ (by decide +kernel)) ggX1_passersIn_X4_gunOf
set_option maxRecDepth 20000 in
theorem ggX1_passersIn_X6_factOf : GoodIn wsX1_passersIn wsX6_factOf := goodIn_sub (List.forall_mem_cons.mpr ⟨List.mem_cons_of_mem _ (List.mem_append_left _ (List.mem_append_left _ (List.mem_append_left _ (List.mem_append_left _ (List.mem_append_right _ (List.mem_of_getElem? (l := wsX1_passersIn_r2) (i := 3) rfl)))))), (List.forall_mem_append.mpr ⟨(List.forall_mem_cons.mpr ⟨List.mem_cons_of_mem _ (List.mem_append_left _ (List.mem_append_left _ (List.mem_append_left _ (List.mem_append_left _ (List.mem_append_left _ (List.mem_of_getElem? (l := wsX1_passersIn_r1) (i := 16) rfl)))))), (List.forall_mem_cons.mpr ⟨List.mem_cons_of_mem _ (List.mem_append_left _ (List.mem_append_left _ (List.mem_append_left _ (List.mem_append_left _ (List.mem_append_right _ (List.mem_of_getElem? (l := wsX1_passersIn_r2) (i := 4) rfl)))))), (fun _ h => nomatch h)⟩)⟩), (fun _ h => List.mem_cons_of_mem _ (List.mem_append_left _ (List.mem_append_right _ (h))))⟩)⟩) (by decide +kernel)
set_option maxRecDepth 20000 in
theorem gX1_passersIn_X6_factOf : GoodIn wsX1_passersIn (wsV RX1 56 RX6 yX6_factOf wsX6_factOf) := goodIn_app (goodIn_of _ (by decide +kernel)) ggX1_passersIn_X6_factOf
set_option maxRecDepth 20000 in
theorem ggX1_passersIn_X10_secondsCut : GoodIn wsX1_passersIn wsX10_secondsCut := goodIn_sub (List.forall_mem_cons.mpr ⟨List.mem_cons_of_mem _ (List.mem_append_left _ (List.mem_append_left _ (List.mem_append_left _ (List.mem_append_left _ (List.mem_append_right _ (List.mem_of_getElem? (l := wsX1_passersIn_r2) (i := 14) rfl)))))), (fun _ h => nomatch h)⟩) (by decide +kernel)
set_option maxRecDepth 20000 in
theorem gX1_passersIn_X10_secondsCut_n60 : GoodIn wsX1_passersIn (wsX10_secondsCut) := ggX1_passersIn_X10_secondsCut
theorem qX1_passersIn_X4 : ∀ w ∈ wsX40, w ∈ wsX1_passersIn := fun _ h => List.mem_cons_of_mem _ (List.mem_append_left _ (List.mem_append_left _ (List.mem_append_left _ (List.mem_append_right _ (h)))))
theorem kX1_passersIn_1 : (.initialized RX10 : Cond) ∈ wsX1_passersIn := List.mem_of_getElem? (i := 38) (by decide +kernel)
theorem kX1_passersIn_2 : (.static yX10_secondsCut : Cond) ∈ wsX1_passersIn := List.mem_of_getElem? (i := 37) (by decide +kernel)
set_option maxHeartbeats 4000000 in
set_option maxRecDepth 100000 in
theorem mX1_passersIn (l : Launch) (D : va_G) (cB cI cZ : ClassId) (a_t : Nat) (a_p1 : Nat) (a_t_seconds : Nat) (a_t_pens : Nat) (a_t_minutes : Nat) (a_t_passers : Nat) (a_t_tried : Nat) (a_p1_way : Nat) (a_p1_guns : Nat) (a_p1_runners : Nat) (a_p1_guns_ticks : Nat) (a_p1_runners_facts : Nat) (a_p1_runners_splits : Nat) (a_p1_runners_torn : Nat) (a_p1_runners_dropped : Nat) (a_p1_runners_waved : Nat) (a_p1_runners_struck : Nat) (a_p1_runners_strikingOrder : Nat) (a_p1_way_places : Nat) (a_p1_way_bearings : Nat) (a_p1_way_cuts : Nat) (a_p1_way_deaths : Nat) (p1_guns_ticks : Nat → Int32) (p1_runners_entered : Int32) (p1_runners_strikings : Int32) (p1_runners_facts : Nat → Int32) (p1_way_mats : Int32) (p1_way_places : Nat → Int32) (sz : Nat) (x2 : Int32) (x3 : Int32) (N : Nat) (r0 : Int32) (h : fX1_passersIn N p1_guns_ticks p1_runners_entered p1_runners_facts p1_way_mats p1_way_places x2 x3 = some (r0)) : Met l yX1_passersIn wsX1_passersIn ({ frames := 2, cells := 0, slots := 0, locals := 43 } : Room) (va_Pc [.ref a_t, .ref a_p1, .int x2, .int x3] (zPre D (zT cB cI cZ) [(a_t, .inr (1, [.ref a_t_seconds, .ref a_t_pens, .ref a_t_minutes, .ref a_t_passers, .ref a_t_tried])), (a_p1, .inr (4, [.ref a_p1_way, .ref a_p1_guns, .ref a_p1_runners])), (a_p1_guns, .inr (2, [.ref a_p1_guns_ticks])), (a_p1_guns_ticks, .inl (cI, 6, .inl p1_guns_ticks)), (a_p1_runners, .inr (6, [.ref a_p1_runners_facts, .ref a_p1_runners_splits, .ref a_p1_runners_torn, .ref a_p1_runners_dropped, .ref a_p1_runners_waved, .ref a_p1_runners_struck, .ref a_p1_runners_strikingOrder, .int p1_runners_entered, .int p1_runners_strikings])), (a_p1_runners_facts, .inl (cI, 360, .inl p1_runners_facts)), (a_p1_way, .inr (9, [.ref a_p1_way_places, .ref a_p1_way_bearings, .ref a_p1_way_cuts, .ref a_p1_way_deaths, .int p1_way_mats])), (a_p1_way_places, .inl (cI, 12, .inl p1_way_places))] sz)) (zQi r0 D (zT cB cI cZ) [(a_t, .inr (1, [.ref a_t_seconds, .ref a_t_pens, .ref a_t_minutes, .ref a_t_passers, .ref a_t_tried])), (a_p1, .inr (4, [.ref a_p1_way, .ref a_p1_guns, .ref a_p1_runners])), (a_p1_guns, .inr (2, [.ref a_p1_guns_ticks])), (a_p1_guns_ticks, .inl (cI, 6, .inl p1_guns_ticks)), (a_p1_runners, .inr (6, [.ref a_p1_runners_facts, .ref a_p1_runners_splits, .ref a_p1_runners_torn, .ref a_p1_runners_dropped, .ref a_p1_runners_waved, .ref a_p1_runners_struck, .ref a_p1_runners_strikingOrder, .int p1_runners_entered, .int p1_runners_strikings])), (a_p1_runners_facts, .inl (cI, 360, .inl p1_runners_facts)), (a_p1_way, .inr (9, [.ref a_p1_way_places, .ref a_p1_way_bearings, .ref a_p1_way_cuts, .ref a_p1_way_deaths, .int p1_way_mats])), (a_p1_way_places, .inl (cI, 12, .inl p1_way_places))] (va_A [(a_t, .inr (1, [.ref a_t_seconds, .ref a_t_pens, .ref a_t_minutes, .ref a_t_passers, .ref a_t_tried])), (a_p1, .inr (4, [.ref a_p1_way, .ref a_p1_guns, .ref a_p1_runners])), (a_p1_guns, .inr (2, [.ref a_p1_guns_ticks])), (a_p1_guns_ticks, .inl (cI, 6, .inl p1_guns_ticks)), (a_p1_runners, .inr (6, [.ref a_p1_runners_facts, .ref a_p1_runners_splits, .ref a_p1_runners_torn, .ref a_p1_runners_dropped, .ref a_p1_runners_waved, .ref a_p1_runners_struck, .ref a_p1_runners_strikingOrder, .int p1_runners_entered, .int p1_runners_strikings])), (a_p1_runners_facts, .inl (cI, 360, .inl p1_runners_facts)), (a_p1_way, .inr (9, [.ref a_p1_way_places, .ref a_p1_way_bearings, .ref a_p1_way_cuts, .ref a_p1_way_deaths, .int p1_way_mats])), (a_p1_way_places, .inl (cI, 12, .inl p1_way_places))] sz)) 0 0 (va_A [(a_t, .inr (1, [.ref a_t_seconds, .ref a_t_pens, .ref a_t_minutes, .ref a_t_passers, .ref a_t_tried])), (a_p1, .inr (4, [.ref a_p1_way, .ref a_p1_guns, .ref a_p1_runners])), (a_p1_guns, .inr (2, [.ref a_p1_guns_ticks])), (a_p1_guns_ticks, .inl (cI, 6, .inl p1_guns_ticks)), (a_p1_runners, .inr (6, [.ref a_p1_runners_facts, .ref a_p1_runners_splits, .ref a_p1_runners_torn, .ref a_p1_runners_dropped, .ref a_p1_runners_waved, .ref a_p1_runners_struck, .ref a_p1_runners_strikingOrder, .int p1_runners_entered, .int p1_runners_strikings])), (a_p1_runners_facts, .inl (cI, 360, .inl p1_runners_facts)), (a_p1_way, .inr (9, [.ref a_p1_way_places, .ref a_p1_way_bearings, .ref a_p1_way_cuts, .ref a_p1_way_deaths, .int p1_way_mats])), (a_p1_way_places, .inl (cI, 12, .inl p1_way_places))] sz) := by
  refine Met.ofW (cc := cX1_passersIn) (maxL := 9) (ret := (some .int)) (by decide) rfl ?_
  intro p e s m args below meth c s₁ B hml hv
  obtain ⟨rfl, hsz, hP, hK, hN, hZ, hD0⟩ := hv
  have hx := B.exec
  have hb := B.bytes
  have hr := B.returns
  have hts := atoms_spec (ws := wsX1_passersIn) B.pre
  have hown : s.vm.findClass RX1 = some m.cls := findClass_of_methodNamed B.named
  have hlocks := B.notSynchronized
  subst hsz
  have hD := hD0.self (sz := s.heap.size)
  generalize hAe : va_A [(a_t, .inr (1, [.ref a_t_seconds, .ref a_t_pens, .ref a_t_minutes, .ref a_t_passers, .ref a_t_tried])), (a_p1, .inr (4, [.ref a_p1_way, .ref a_p1_guns, .ref a_p1_runners])), (a_p1_guns, .inr (2, [.ref a_p1_guns_ticks])), (a_p1_guns_ticks, .inl (cI, 6, .inl p1_guns_ticks)), (a_p1_runners, .inr (6, [.ref a_p1_runners_facts, .ref a_p1_runners_splits, .ref a_p1_runners_torn, .ref a_p1_runners_dropped, .ref a_p1_runners_waved, .ref a_p1_runners_struck, .ref a_p1_runners_strikingOrder, .int p1_runners_entered, .int p1_runners_strikings])), (a_p1_runners_facts, .inl (cI, 360, .inl p1_runners_facts)), (a_p1_way, .inr (9, [.ref a_p1_way_places, .ref a_p1_way_bearings, .ref a_p1_way_cuts, .ref a_p1_way_deaths, .int p1_way_mats])), (a_p1_way_places, .inl (cI, 12, .inl p1_way_places))] s.heap.size = A at hD hZ ⊢
  have hA : ∀ q : Nat, s.heap.size ≤ q → A q := fun q h => by rw [← hAe]; exact Or.inr h
  have hS : va_S A s.heap s.heap [] := va_S.rf
  have hl := lv_entry ([.ref a_t, .ref a_p1, .int x2, .int x3]) (n := 9) (Nat.le_of_ble_eq_true rfl)
  rw [lg_entry_eq]
  generalize (lg_sl ([.ref a_t, .ref a_p1, .int x2, .int x3]) ++ List.replicate (9 - (lg_sl ([.ref a_t, .ref a_p1, .int x2, .int x3])).length) Slot.unset).toArray = ls at hl ⊢
  have hl : lv_has ls 9 [(0, .ref a_t), (1, .ref a_p1), (2, .int x2), (3, .int x3)] := hl
  unfold fX1_passersIn at h
  refine lv_aload_n hx hb dX1_passersIn_0 rfl (lv_at hl 1 rfl) ?_
  refine va_getN (host := "RunDesk") (D := D) (ci := 4) (C := RX4) (T := TX4) (N := 3) hx hb hts qX1_passersIn_X4 hown hK hP 1 rfl rfl 0 (by decide) (va_Nw.use rfl (hN _ (List.mem_of_getElem? (i := 1) rfl))) (fun _ h9 => h9) rfl dX1_passersIn_1 ?_
  refine lv_iload_n hx hb dX1_passersIn_4 rfl (lv_at hl 2 rfl) ?_
  obtain ⟨r1, e2, h⟩ := zz_b h
  refine zVi (As := [.int x2]) (rest := []) (C := RX9) (wr := [(a_t, .inr (1, [.ref a_t_seconds, .ref a_t_pens, .ref a_t_minutes, .ref a_t_passers, .ref a_t_tried])), (a_p1, .inr (4, [.ref a_p1_way, .ref a_p1_guns, .ref a_p1_runners])), (a_p1_guns, .inr (2, [.ref a_p1_guns_ticks])), (a_p1_guns_ticks, .inl (cI, 6, .inl p1_guns_ticks)), (a_p1_runners, .inr (6, [.ref a_p1_runners_facts, .ref a_p1_runners_splits, .ref a_p1_runners_torn, .ref a_p1_runners_dropped, .ref a_p1_runners_waved, .ref a_p1_runners_struck, .ref a_p1_runners_strikingOrder, .int p1_runners_entered, .int p1_runners_strikings])), (a_p1_runners_facts, .inl (cI, 360, .inl p1_runners_facts))]) [6, 7] [0, 1, 2, 3, 4, 5] 0 ⟨hx, hb, hml, hown, hts⟩ (mX9_placeAt l D cB cI cZ a_p1_way a_p1_way_places a_p1_way_bearings a_p1_way_cuts a_p1_way_deaths p1_way_mats p1_way_places s.heap.size x2 r1 e2) (cwV 1 hts gX1_passersIn_X9_placeAt rfl rfl rfl (by decide +kernel) ⟨Nat.le_of_ble_eq_true rfl, Nat.le_of_ble_eq_true rfl⟩) hK hN hZ hP hD hS hA rfl rfl rfl rfl rfl rfl rfl rfl hl.1 rfl (lv_room (Nat.le_of_ble_eq_true rfl)) dX1_passersIn_5 ⟨Nat.le_of_ble_eq_true rfl, Nat.le_of_ble_eq_true rfl⟩ (fun H locs hP hD hS => ?_)
  have hP : va_P D vwCl [(a_t, .inr (1, [.ref a_t_seconds, .ref a_t_pens, .ref a_t_minutes, .ref a_t_passers, .ref a_t_tried])), (a_p1, .inr (4, [.ref a_p1_way, .ref a_p1_guns, .ref a_p1_runners])), (a_p1_guns, .inr (2, [.ref a_p1_guns_ticks])), (a_p1_guns_ticks, .inl (cI, 6, .inl p1_guns_ticks)), (a_p1_runners, .inr (6, [.ref a_p1_runners_facts, .ref a_p1_runners_splits, .ref a_p1_runners_torn, .ref a_p1_runners_dropped, .ref a_p1_runners_waved, .ref a_p1_runners_struck, .ref a_p1_runners_strikingOrder, .int p1_runners_entered, .int p1_runners_strikings])), (a_p1_runners_facts, .inl (cI, 360, .inl p1_runners_facts)), (a_p1_way, .inr (9, [.ref a_p1_way_places, .ref a_p1_way_bearings, .ref a_p1_way_cuts, .ref a_p1_way_deaths, .int p1_way_mats])), (a_p1_way_places, .inl (cI, 12, .inl p1_way_places))] H := hP
  have hD : va_D A [(a_t, .inr (1, [.ref a_t_seconds, .ref a_t_pens, .ref a_t_minutes, .ref a_t_passers, .ref a_t_tried])), (a_p1, .inr (4, [.ref a_p1_way, .ref a_p1_guns, .ref a_p1_runners])), (a_p1_guns, .inr (2, [.ref a_p1_guns_ticks])), (a_p1_guns_ticks, .inl (cI, 6, .inl p1_guns_ticks)), (a_p1_runners, .inr (6, [.ref a_p1_runners_facts, .ref a_p1_runners_splits, .ref a_p1_runners_torn, .ref a_p1_runners_dropped, .ref a_p1_runners_waved, .ref a_p1_runners_struck, .ref a_p1_runners_strikingOrder, .int p1_runners_entered, .int p1_runners_strikings])), (a_p1_runners_facts, .inl (cI, 360, .inl p1_runners_facts)), (a_p1_way, .inr (9, [.ref a_p1_way_places, .ref a_p1_way_bearings, .ref a_p1_way_cuts, .ref a_p1_way_deaths, .int p1_way_mats])), (a_p1_way_places, .inl (cI, 12, .inl p1_way_places))] := hD
  refine lv_istore (lv' := [(4, .int r1), (0, .ref a_t), (1, .ref a_p1), (2, .int x2), (3, .int x3)]) hx hb dX1_passersIn_8 hl (by decide) rfl (fun ls hl => ?_)
  refine lv_iconst (v := (nI 0)) hx hb dX1_passersIn_10 rfl ?_
  refine lv_istore (lv' := [(5, .int (nI 0)), (4, .int r1), (0, .ref a_t), (1, .ref a_p1), (2, .int x2), (3, .int x3)]) hx hb dX1_passersIn_11 hl (by decide) rfl (fun ls hl => ?_)
  refine lv_iconst (v := (nI 0)) hx hb dX1_passersIn_13 rfl ?_
  refine lv_istore (lv' := [(6, .int (nI 0)), (5, .int (nI 0)), (4, .int r1), (0, .ref a_t), (1, .ref a_p1), (2, .int x2), (3, .int x3)]) hx hb dX1_passersIn_14 hl (by decide) rfl (fun ls hl => ?_)
  have X16_80 : ∀ (v5_16 : Int32) (v6_16 : Int32) (H : Heap) (locs : List Loc) (ls : Array Slot), some (v5_16) = some (r0) → va_P D vwCl [(a_t, .inr (1, [.ref a_t_seconds, .ref a_t_pens, .ref a_t_minutes, .ref a_t_passers, .ref a_t_tried])), (a_p1, .inr (4, [.ref a_p1_way, .ref a_p1_guns, .ref a_p1_runners])), (a_p1_guns, .inr (2, [.ref a_p1_guns_ticks])), (a_p1_guns_ticks, .inl (cI, 6, .inl p1_guns_ticks)), (a_p1_runners, .inr (6, [.ref a_p1_runners_facts, .ref a_p1_runners_splits, .ref a_p1_runners_torn, .ref a_p1_runners_dropped, .ref a_p1_runners_waved, .ref a_p1_runners_struck, .ref a_p1_runners_strikingOrder, .int p1_runners_entered, .int p1_runners_strikings])), (a_p1_runners_facts, .inl (cI, 360, .inl p1_runners_facts)), (a_p1_way, .inr (9, [.ref a_p1_way_places, .ref a_p1_way_bearings, .ref a_p1_way_cuts, .ref a_p1_way_deaths, .int p1_way_mats])), (a_p1_way_places, .inl (cI, 12, .inl p1_way_places))] H → va_D A [(a_t, .inr (1, [.ref a_t_seconds, .ref a_t_pens, .ref a_t_minutes, .ref a_t_passers, .ref a_t_tried])), (a_p1, .inr (4, [.ref a_p1_way, .ref a_p1_guns, .ref a_p1_runners])), (a_p1_guns, .inr (2, [.ref a_p1_guns_ticks])), (a_p1_guns_ticks, .inl (cI, 6, .inl p1_guns_ticks)), (a_p1_runners, .inr (6, [.ref a_p1_runners_facts, .ref a_p1_runners_splits, .ref a_p1_runners_torn, .ref a_p1_runners_dropped, .ref a_p1_runners_waved, .ref a_p1_runners_struck, .ref a_p1_runners_strikingOrder, .int p1_runners_entered, .int p1_runners_strikings])), (a_p1_runners_facts, .inl (cI, 360, .inl p1_runners_facts)), (a_p1_way, .inr (9, [.ref a_p1_way_places, .ref a_p1_way_bearings, .ref a_p1_way_cuts, .ref a_p1_way_deaths, .int p1_way_mats])), (a_p1_way_places, .inl (cI, 12, .inl p1_way_places))] → va_S A s.heap H locs → lv_has ls 9 [(6, .int v6_16), (5, .int v5_16), (4, .int r1), (0, .ref a_t), (1, .ref a_p1), (2, .int x2), (3, .int x3)] → W p l e (headSpec wsX1_passersIn ({ frames := 2, cells := 0, slots := 0, locals := 43 } : Room)).room s m #[Value.ref a_t, Value.ref a_p1, Value.int x2, Value.int x3] below meth c H locs 0 0 (MQ below (zQi r0 D (zT cB cI cZ) [(a_t, .inr (1, [.ref a_t_seconds, .ref a_t_pens, .ref a_t_minutes, .ref a_t_passers, .ref a_t_tried])), (a_p1, .inr (4, [.ref a_p1_way, .ref a_p1_guns, .ref a_p1_runners])), (a_p1_guns, .inr (2, [.ref a_p1_guns_ticks])), (a_p1_guns_ticks, .inl (cI, 6, .inl p1_guns_ticks)), (a_p1_runners, .inr (6, [.ref a_p1_runners_facts, .ref a_p1_runners_splits, .ref a_p1_runners_torn, .ref a_p1_runners_dropped, .ref a_p1_runners_waved, .ref a_p1_runners_struck, .ref a_p1_runners_strikingOrder, .int p1_runners_entered, .int p1_runners_strikings])), (a_p1_runners_facts, .inl (cI, 360, .inl p1_runners_facts)), (a_p1_way, .inr (9, [.ref a_p1_way_places, .ref a_p1_way_bearings, .ref a_p1_way_cuts, .ref a_p1_way_deaths, .int p1_way_mats])), (a_p1_way_places, .inl (cI, 12, .inl p1_way_places))] A) #[Value.ref a_t, Value.ref a_p1, Value.int x2, Value.int x3] s 0 0 A) (F0 m 80 ls []) := by
    intro v5_16 v6_16 H locs ls h hP hD hS hl
    refine lv_iload hx hb dX1_passersIn_80 (lv_at hl 1 rfl) ?_
    have j0_ := Option.some.inj h
    subst j0_
    exact W.iret (v := v5_16) hx hb hr (fun t ht hW => ⟨⟨_, (), rfl, rfl, zPost.of hP hD hK ht hW [0, 1, 2, 3, 4, 5, 6, 7] rfl rfl rfl⟩, hS.F ht⟩) hS.2.2 dX1_passersIn_82
  have L16 : ∀ (n : Nat) (v5_16 : Int32) (v6_16 : Int32) (H : Heap) (locs : List Loc) (ls : Array Slot), fX1_passersIn_L16 p1_guns_ticks p1_runners_entered p1_runners_facts x3 r1 (fun (v5_16 : Int32) (v6_16 : Int32) => some (v5_16)) n v5_16 v6_16 = some (r0) → va_P D vwCl [(a_t, .inr (1, [.ref a_t_seconds, .ref a_t_pens, .ref a_t_minutes, .ref a_t_passers, .ref a_t_tried])), (a_p1, .inr (4, [.ref a_p1_way, .ref a_p1_guns, .ref a_p1_runners])), (a_p1_guns, .inr (2, [.ref a_p1_guns_ticks])), (a_p1_guns_ticks, .inl (cI, 6, .inl p1_guns_ticks)), (a_p1_runners, .inr (6, [.ref a_p1_runners_facts, .ref a_p1_runners_splits, .ref a_p1_runners_torn, .ref a_p1_runners_dropped, .ref a_p1_runners_waved, .ref a_p1_runners_struck, .ref a_p1_runners_strikingOrder, .int p1_runners_entered, .int p1_runners_strikings])), (a_p1_runners_facts, .inl (cI, 360, .inl p1_runners_facts)), (a_p1_way, .inr (9, [.ref a_p1_way_places, .ref a_p1_way_bearings, .ref a_p1_way_cuts, .ref a_p1_way_deaths, .int p1_way_mats])), (a_p1_way_places, .inl (cI, 12, .inl p1_way_places))] H → va_D A [(a_t, .inr (1, [.ref a_t_seconds, .ref a_t_pens, .ref a_t_minutes, .ref a_t_passers, .ref a_t_tried])), (a_p1, .inr (4, [.ref a_p1_way, .ref a_p1_guns, .ref a_p1_runners])), (a_p1_guns, .inr (2, [.ref a_p1_guns_ticks])), (a_p1_guns_ticks, .inl (cI, 6, .inl p1_guns_ticks)), (a_p1_runners, .inr (6, [.ref a_p1_runners_facts, .ref a_p1_runners_splits, .ref a_p1_runners_torn, .ref a_p1_runners_dropped, .ref a_p1_runners_waved, .ref a_p1_runners_struck, .ref a_p1_runners_strikingOrder, .int p1_runners_entered, .int p1_runners_strikings])), (a_p1_runners_facts, .inl (cI, 360, .inl p1_runners_facts)), (a_p1_way, .inr (9, [.ref a_p1_way_places, .ref a_p1_way_bearings, .ref a_p1_way_cuts, .ref a_p1_way_deaths, .int p1_way_mats])), (a_p1_way_places, .inl (cI, 12, .inl p1_way_places))] → va_S A s.heap H locs → lv_has ls 9 [(6, .int v6_16), (5, .int v5_16), (4, .int r1), (0, .ref a_t), (1, .ref a_p1), (2, .int x2), (3, .int x3)] → W p l e (headSpec wsX1_passersIn ({ frames := 2, cells := 0, slots := 0, locals := 43 } : Room)).room s m #[Value.ref a_t, Value.ref a_p1, Value.int x2, Value.int x3] below meth c H locs 0 0 (MQ below (zQi r0 D (zT cB cI cZ) [(a_t, .inr (1, [.ref a_t_seconds, .ref a_t_pens, .ref a_t_minutes, .ref a_t_passers, .ref a_t_tried])), (a_p1, .inr (4, [.ref a_p1_way, .ref a_p1_guns, .ref a_p1_runners])), (a_p1_guns, .inr (2, [.ref a_p1_guns_ticks])), (a_p1_guns_ticks, .inl (cI, 6, .inl p1_guns_ticks)), (a_p1_runners, .inr (6, [.ref a_p1_runners_facts, .ref a_p1_runners_splits, .ref a_p1_runners_torn, .ref a_p1_runners_dropped, .ref a_p1_runners_waved, .ref a_p1_runners_struck, .ref a_p1_runners_strikingOrder, .int p1_runners_entered, .int p1_runners_strikings])), (a_p1_runners_facts, .inl (cI, 360, .inl p1_runners_facts)), (a_p1_way, .inr (9, [.ref a_p1_way_places, .ref a_p1_way_bearings, .ref a_p1_way_cuts, .ref a_p1_way_deaths, .int p1_way_mats])), (a_p1_way_places, .inl (cI, 12, .inl p1_way_places))] A) #[Value.ref a_t, Value.ref a_p1, Value.int x2, Value.int x3] s 0 0 A) (F0 m 16 ls []) := by
    intro n
    induction n with
    | zero => intro _ _ H locs ls h hP hD hS hl; cases h
    | succ n16 ih16 =>
      intro v5_16 v6_16 H locs ls h hP hD hS hl
      rw [fX1_passersIn_L16.eq_2] at h
      refine lv_iload hx hb dX1_passersIn_16 (lv_at hl 0 rfl) ?_
      refine lv_aload_n hx hb dX1_passersIn_18 rfl (lv_at hl 4 rfl) ?_
      refine va_getN (host := "RunDesk") (D := D) (ci := 4) (C := RX4) (T := TX4) (N := 3) hx hb hts qX1_passersIn_X4 hown hK hP 1 rfl rfl 2 (by decide) (va_Nw.use rfl (hN _ (List.mem_of_getElem? (i := 8) rfl))) (fun _ h9 => h9) rfl dX1_passersIn_19 ?_
      obtain ⟨r3, e4, h⟩ := zz_b h
      refine zVi (As := []) (rest := [.int v6_16]) (C := RX6) (wr := [(a_t, .inr (1, [.ref a_t_seconds, .ref a_t_pens, .ref a_t_minutes, .ref a_t_passers, .ref a_t_tried])), (a_p1, .inr (4, [.ref a_p1_way, .ref a_p1_guns, .ref a_p1_runners])), (a_p1_guns, .inr (2, [.ref a_p1_guns_ticks])), (a_p1_guns_ticks, .inl (cI, 6, .inl p1_guns_ticks)), (a_p1_runners_facts, .inl (cI, 360, .inl p1_runners_facts)), (a_p1_way, .inr (9, [.ref a_p1_way_places, .ref a_p1_way_bearings, .ref a_p1_way_cuts, .ref a_p1_way_deaths, .int p1_way_mats])), (a_p1_way_places, .inl (cI, 12, .inl p1_way_places))]) [4] [0, 1, 2, 3, 5, 6, 7] 0 ⟨hx, hb, hml, hown, hts⟩ (mX6_size l D cB cI cZ a_p1_runners a_p1_runners_facts a_p1_runners_splits a_p1_runners_torn a_p1_runners_dropped a_p1_runners_waved a_p1_runners_struck a_p1_runners_strikingOrder p1_runners_entered p1_runners_strikings H.size r3 e4) (cwV 0 hts gX1_passersIn_X6_size rfl rfl rfl (by decide +kernel) ⟨Nat.le_of_ble_eq_true rfl, Nat.le_of_ble_eq_true rfl⟩) hK hN hZ hP hD hS hA rfl rfl rfl rfl rfl rfl rfl rfl hl.1 rfl (lv_room (Nat.le_of_ble_eq_true rfl)) dX1_passersIn_22 ⟨Nat.le_of_ble_eq_true rfl, Nat.le_of_ble_eq_true rfl⟩ (fun H locs hP hD hS => ?_)
      have hP : va_P D vwCl [(a_t, .inr (1, [.ref a_t_seconds, .ref a_t_pens, .ref a_t_minutes, .ref a_t_passers, .ref a_t_tried])), (a_p1, .inr (4, [.ref a_p1_way, .ref a_p1_guns, .ref a_p1_runners])), (a_p1_guns, .inr (2, [.ref a_p1_guns_ticks])), (a_p1_guns_ticks, .inl (cI, 6, .inl p1_guns_ticks)), (a_p1_runners_facts, .inl (cI, 360, .inl p1_runners_facts)), (a_p1_way, .inr (9, [.ref a_p1_way_places, .ref a_p1_way_bearings, .ref a_p1_way_cuts, .ref a_p1_way_deaths, .int p1_way_mats])), (a_p1_way_places, .inl (cI, 12, .inl p1_way_places)), (a_p1_runners, .inr (6, [.ref a_p1_runners_facts, .ref a_p1_runners_splits, .ref a_p1_runners_torn, .ref a_p1_runners_dropped, .ref a_p1_runners_waved, .ref a_p1_runners_struck, .ref a_p1_runners_strikingOrder, .int p1_runners_entered, .int p1_runners_strikings]))] H := hP
      have hD : va_D A [(a_t, .inr (1, [.ref a_t_seconds, .ref a_t_pens, .ref a_t_minutes, .ref a_t_passers, .ref a_t_tried])), (a_p1, .inr (4, [.ref a_p1_way, .ref a_p1_guns, .ref a_p1_runners])), (a_p1_guns, .inr (2, [.ref a_p1_guns_ticks])), (a_p1_guns_ticks, .inl (cI, 6, .inl p1_guns_ticks)), (a_p1_runners_facts, .inl (cI, 360, .inl p1_runners_facts)), (a_p1_way, .inr (9, [.ref a_p1_way_places, .ref a_p1_way_bearings, .ref a_p1_way_cuts, .ref a_p1_way_deaths, .int p1_way_mats])), (a_p1_way_places, .inl (cI, 12, .inl p1_way_places)), (a_p1_runners, .inr (6, [.ref a_p1_runners_facts, .ref a_p1_runners_splits, .ref a_p1_runners_torn, .ref a_p1_runners_dropped, .ref a_p1_runners_waved, .ref a_p1_runners_struck, .ref a_p1_runners_strikingOrder, .int p1_runners_entered, .int p1_runners_strikings]))] := hD
      refine lv_icmp_ge (tgt := 80) hx hb dX1_passersIn_25 (by decide) (fun c5 => ?_) (fun c5 => ?_)
      · have h := zz_t h c5
        exact X16_80 v5_16 v6_16 _ _ _ h (hP.sub [0, 1, 2, 3, 7, 4, 5, 6] rfl) (hD.sub [0, 1, 2, 3, 7, 4, 5, 6] rfl rfl) hS (lv_sub hl [0, 1, 2, 3, 4, 5, 6] rfl)
      · have h := zz_f h c5
        refine lv_aload_n hx hb dX1_passersIn_28 rfl (lv_at hl 4 rfl) ?_
        refine lv_iload hx hb dX1_passersIn_29 (lv_at hl 0 rfl) ?_
        obtain ⟨r6, e7, h⟩ := zz_b h
        refine zVi (As := [.int v6_16]) (rest := []) (C := RX4) (wr := [(a_t, .inr (1, [.ref a_t_seconds, .ref a_t_pens, .ref a_t_minutes, .ref a_t_passers, .ref a_t_tried])), (a_p1_way, .inr (9, [.ref a_p1_way_places, .ref a_p1_way_bearings, .ref a_p1_way_cuts, .ref a_p1_way_deaths, .int p1_way_mats])), (a_p1_way_places, .inl (cI, 12, .inl p1_way_places))]) [1, 2, 3, 7, 4] [0, 5, 6] 0 ⟨hx, hb, hml, hown, hts⟩ (mX4_gunOf l D cB cI cZ a_p1 a_p1_way a_p1_guns a_p1_runners a_p1_guns_ticks a_p1_runners_facts a_p1_runners_splits a_p1_runners_torn a_p1_runners_dropped a_p1_runners_waved a_p1_runners_struck a_p1_runners_strikingOrder p1_guns_ticks p1_runners_entered p1_runners_strikings p1_runners_facts H.size v6_16 r6 e7) (cwV 1 hts gX1_passersIn_X4_gunOf rfl rfl rfl (by decide +kernel) ⟨Nat.le_of_ble_eq_true rfl, Nat.le_of_ble_eq_true rfl⟩) hK hN hZ hP hD hS hA rfl rfl rfl rfl rfl rfl rfl rfl hl.1 rfl (lv_room (Nat.le_of_ble_eq_true rfl)) dX1_passersIn_31 ⟨Nat.le_of_ble_eq_true rfl, Nat.le_of_ble_eq_true rfl⟩ (fun H locs hP hD hS => ?_)
        have hP : va_P D vwCl [(a_t, .inr (1, [.ref a_t_seconds, .ref a_t_pens, .ref a_t_minutes, .ref a_t_passers, .ref a_t_tried])), (a_p1_way, .inr (9, [.ref a_p1_way_places, .ref a_p1_way_bearings, .ref a_p1_way_cuts, .ref a_p1_way_deaths, .int p1_way_mats])), (a_p1_way_places, .inl (cI, 12, .inl p1_way_places)), (a_p1, .inr (4, [.ref a_p1_way, .ref a_p1_guns, .ref a_p1_runners])), (a_p1_guns, .inr (2, [.ref a_p1_guns_ticks])), (a_p1_guns_ticks, .inl (cI, 6, .inl p1_guns_ticks)), (a_p1_runners, .inr (6, [.ref a_p1_runners_facts, .ref a_p1_runners_splits, .ref a_p1_runners_torn, .ref a_p1_runners_dropped, .ref a_p1_runners_waved, .ref a_p1_runners_struck, .ref a_p1_runners_strikingOrder, .int p1_runners_entered, .int p1_runners_strikings])), (a_p1_runners_facts, .inl (cI, 360, .inl p1_runners_facts))] H := hP
        have hD : va_D A [(a_t, .inr (1, [.ref a_t_seconds, .ref a_t_pens, .ref a_t_minutes, .ref a_t_passers, .ref a_t_tried])), (a_p1_way, .inr (9, [.ref a_p1_way_places, .ref a_p1_way_bearings, .ref a_p1_way_cuts, .ref a_p1_way_deaths, .int p1_way_mats])), (a_p1_way_places, .inl (cI, 12, .inl p1_way_places)), (a_p1, .inr (4, [.ref a_p1_way, .ref a_p1_guns, .ref a_p1_runners])), (a_p1_guns, .inr (2, [.ref a_p1_guns_ticks])), (a_p1_guns_ticks, .inl (cI, 6, .inl p1_guns_ticks)), (a_p1_runners, .inr (6, [.ref a_p1_runners_facts, .ref a_p1_runners_splits, .ref a_p1_runners_torn, .ref a_p1_runners_dropped, .ref a_p1_runners_waved, .ref a_p1_runners_struck, .ref a_p1_runners_strikingOrder, .int p1_runners_entered, .int p1_runners_strikings])), (a_p1_runners_facts, .inl (cI, 360, .inl p1_runners_facts))] := hD
        refine lv_istore (lv' := [(7, .int r6), (6, .int v6_16), (5, .int v5_16), (4, .int r1), (0, .ref a_t), (1, .ref a_p1), (2, .int x2), (3, .int x3)]) hx hb dX1_passersIn_34 hl (by decide) rfl (fun ls hl => ?_)
        refine lv_aload_n hx hb dX1_passersIn_36 rfl (lv_at hl 5 rfl) ?_
        refine va_getN (host := "RunDesk") (D := D) (ci := 4) (C := RX4) (T := TX4) (N := 3) hx hb hts qX1_passersIn_X4 hown hK hP 3 rfl rfl 2 (by decide) (va_Nw.use rfl (hN _ (List.mem_of_getElem? (i := 8) rfl))) (fun _ h9 => h9) rfl dX1_passersIn_37 ?_
        refine lv_iload hx hb dX1_passersIn_40 (lv_at hl 1 rfl) ?_
        refine lv_iconst (v := (nI 1)) hx hb dX1_passersIn_42 rfl ?_
        obtain ⟨r8, e9, h⟩ := zz_b h
        refine zVi (As := [.int v6_16, .int (nI 1)]) (rest := []) (C := RX6) (wr := [(a_t, .inr (1, [.ref a_t_seconds, .ref a_t_pens, .ref a_t_minutes, .ref a_t_passers, .ref a_t_tried])), (a_p1_way, .inr (9, [.ref a_p1_way_places, .ref a_p1_way_bearings, .ref a_p1_way_cuts, .ref a_p1_way_deaths, .int p1_way_mats])), (a_p1_way_places, .inl (cI, 12, .inl p1_way_places)), (a_p1, .inr (4, [.ref a_p1_way, .ref a_p1_guns, .ref a_p1_runners])), (a_p1_guns, .inr (2, [.ref a_p1_guns_ticks])), (a_p1_guns_ticks, .inl (cI, 6, .inl p1_guns_ticks))]) [6, 7] [0, 1, 2, 3, 4, 5] 0 ⟨hx, hb, hml, hown, hts⟩ (mX6_factOf l D cB cI cZ a_p1_runners a_p1_runners_facts a_p1_runners_splits a_p1_runners_torn a_p1_runners_dropped a_p1_runners_waved a_p1_runners_struck a_p1_runners_strikingOrder p1_runners_entered p1_runners_strikings p1_runners_facts H.size v6_16 (nI 1) r8 e9) (cwV 2 hts gX1_passersIn_X6_factOf rfl rfl rfl (by decide +kernel) ⟨Nat.le_of_ble_eq_true rfl, Nat.le_of_ble_eq_true rfl⟩) hK hN hZ hP hD hS hA rfl rfl rfl rfl rfl rfl rfl rfl hl.1 rfl (lv_room (Nat.le_of_ble_eq_true rfl)) dX1_passersIn_43 ⟨Nat.le_of_ble_eq_true rfl, Nat.le_of_ble_eq_true rfl⟩ (fun H locs hP hD hS => ?_)
        have hP : va_P D vwCl [(a_t, .inr (1, [.ref a_t_seconds, .ref a_t_pens, .ref a_t_minutes, .ref a_t_passers, .ref a_t_tried])), (a_p1_way, .inr (9, [.ref a_p1_way_places, .ref a_p1_way_bearings, .ref a_p1_way_cuts, .ref a_p1_way_deaths, .int p1_way_mats])), (a_p1_way_places, .inl (cI, 12, .inl p1_way_places)), (a_p1, .inr (4, [.ref a_p1_way, .ref a_p1_guns, .ref a_p1_runners])), (a_p1_guns, .inr (2, [.ref a_p1_guns_ticks])), (a_p1_guns_ticks, .inl (cI, 6, .inl p1_guns_ticks)), (a_p1_runners, .inr (6, [.ref a_p1_runners_facts, .ref a_p1_runners_splits, .ref a_p1_runners_torn, .ref a_p1_runners_dropped, .ref a_p1_runners_waved, .ref a_p1_runners_struck, .ref a_p1_runners_strikingOrder, .int p1_runners_entered, .int p1_runners_strikings])), (a_p1_runners_facts, .inl (cI, 360, .inl p1_runners_facts))] H := hP
        have hD : va_D A [(a_t, .inr (1, [.ref a_t_seconds, .ref a_t_pens, .ref a_t_minutes, .ref a_t_passers, .ref a_t_tried])), (a_p1_way, .inr (9, [.ref a_p1_way_places, .ref a_p1_way_bearings, .ref a_p1_way_cuts, .ref a_p1_way_deaths, .int p1_way_mats])), (a_p1_way_places, .inl (cI, 12, .inl p1_way_places)), (a_p1, .inr (4, [.ref a_p1_way, .ref a_p1_guns, .ref a_p1_runners])), (a_p1_guns, .inr (2, [.ref a_p1_guns_ticks])), (a_p1_guns_ticks, .inl (cI, 6, .inl p1_guns_ticks)), (a_p1_runners, .inr (6, [.ref a_p1_runners_facts, .ref a_p1_runners_splits, .ref a_p1_runners_torn, .ref a_p1_runners_dropped, .ref a_p1_runners_waved, .ref a_p1_runners_struck, .ref a_p1_runners_strikingOrder, .int p1_runners_entered, .int p1_runners_strikings])), (a_p1_runners_facts, .inl (cI, 360, .inl p1_runners_facts))] := hD
        refine lv_istore (lv' := [(8, .int r8), (7, .int r6), (6, .int v6_16), (5, .int v5_16), (4, .int r1), (0, .ref a_t), (1, .ref a_p1), (2, .int x2), (3, .int x3)]) hx hb dX1_passersIn_46 hl (by decide) rfl (fun ls hl => ?_)
        refine lv_iload hx hb dX1_passersIn_48 (lv_at hl 1 rfl) ?_
        refine lv_iconst (v := (-1 : Int32)) hx hb dX1_passersIn_50 rfl ?_
        refine lv_icmp_eq (tgt := 74) hx hb dX1_passersIn_51 (by decide) (fun c10 => ?_) (fun c10 => ?_)
        · have h := zz_t h c10
          refine lv_iinc (v := (v6_16 + (nI 1))) (lv' := [(6, .int (v6_16 + (nI 1))), (8, .int r8), (7, .int r6), (5, .int v5_16), (4, .int r1), (0, .ref a_t), (1, .ref a_p1), (2, .int x2), (3, .int x3)]) hx hb dX1_passersIn_74 hl (k := 2) rfl rfl (by decide) rfl (fun ls hl => ?_)
          refine lv_goto (tgt := 16) hx hb dX1_passersIn_77 (by decide) ?_
          exact ih16 v5_16 (v6_16 + (nI 1)) _ _ _ h (hP.sub [0, 3, 4, 5, 6, 7, 1, 2] rfl) (hD.sub [0, 3, 4, 5, 6, 7, 1, 2] rfl rfl) hS (lv_sub hl [0, 3, 4, 5, 6, 7, 8] rfl)
        · have h := zz_f h c10
          refine lv_iload hx hb dX1_passersIn_54 (lv_at hl 1 rfl) ?_
          refine lv_iload hx hb dX1_passersIn_56 (lv_at hl 4 rfl) ?_
          refine lv_iload hx hb dX1_passersIn_58 (lv_at hl 0 rfl) ?_
          obtain ⟨r11, e12, h⟩ := zz_b h
          refine zNi (As := [.int r1, .int r8]) (rest := [.int r6]) (host := "RunDesk") (wr := [(a_t, .inr (1, [.ref a_t_seconds, .ref a_t_pens, .ref a_t_minutes, .ref a_t_passers, .ref a_t_tried])), (a_p1_way, .inr (9, [.ref a_p1_way_places, .ref a_p1_way_bearings, .ref a_p1_way_cuts, .ref a_p1_way_deaths, .int p1_way_mats])), (a_p1_way_places, .inl (cI, 12, .inl p1_way_places)), (a_p1, .inr (4, [.ref a_p1_way, .ref a_p1_guns, .ref a_p1_runners])), (a_p1_guns, .inr (2, [.ref a_p1_guns_ticks])), (a_p1_guns_ticks, .inl (cI, 6, .inl p1_guns_ticks)), (a_p1_runners, .inr (6, [.ref a_p1_runners_facts, .ref a_p1_runners_splits, .ref a_p1_runners_torn, .ref a_p1_runners_dropped, .ref a_p1_runners_waved, .ref a_p1_runners_struck, .ref a_p1_runners_strikingOrder, .int p1_runners_entered, .int p1_runners_strikings])), (a_p1_runners_facts, .inl (cI, 360, .inl p1_runners_facts))]) [] [0, 1, 2, 3, 4, 5, 6, 7] ⟨hx, hb, hml, hown, hts⟩ (mX10_secondsCut l D cB cI cZ H.size r1 r8 r11 e12) ⟨va_cnB 2 hts gX1_passersIn_X10_secondsCut_n60 rfl rfl rfl (hN _ (List.mem_of_getElem? (i := 31) rfl)) (hts _ kX1_passersIn_1) (by decide +kernel) ⟨Nat.le_of_ble_eq_true rfl, Nat.le_of_ble_eq_true rfl⟩, (hts _ kX1_passersIn_2), trivial⟩ hK hN hZ hP hD hS hA rfl rfl rfl rfl rfl rfl hl.1 rfl (lv_room (Nat.le_of_ble_eq_true rfl)) dX1_passersIn_60 ⟨Nat.le_of_ble_eq_true rfl, Nat.le_of_ble_eq_true rfl⟩ (fun H locs hP hD hS => ?_)
          have hP : va_P D vwCl [(a_t, .inr (1, [.ref a_t_seconds, .ref a_t_pens, .ref a_t_minutes, .ref a_t_passers, .ref a_t_tried])), (a_p1_way, .inr (9, [.ref a_p1_way_places, .ref a_p1_way_bearings, .ref a_p1_way_cuts, .ref a_p1_way_deaths, .int p1_way_mats])), (a_p1_way_places, .inl (cI, 12, .inl p1_way_places)), (a_p1, .inr (4, [.ref a_p1_way, .ref a_p1_guns, .ref a_p1_runners])), (a_p1_guns, .inr (2, [.ref a_p1_guns_ticks])), (a_p1_guns_ticks, .inl (cI, 6, .inl p1_guns_ticks)), (a_p1_runners, .inr (6, [.ref a_p1_runners_facts, .ref a_p1_runners_splits, .ref a_p1_runners_torn, .ref a_p1_runners_dropped, .ref a_p1_runners_waved, .ref a_p1_runners_struck, .ref a_p1_runners_strikingOrder, .int p1_runners_entered, .int p1_runners_strikings])), (a_p1_runners_facts, .inl (cI, 360, .inl p1_runners_facts))] H := hP
          have hD : va_D A [(a_t, .inr (1, [.ref a_t_seconds, .ref a_t_pens, .ref a_t_minutes, .ref a_t_passers, .ref a_t_tried])), (a_p1_way, .inr (9, [.ref a_p1_way_places, .ref a_p1_way_bearings, .ref a_p1_way_cuts, .ref a_p1_way_deaths, .int p1_way_mats])), (a_p1_way_places, .inl (cI, 12, .inl p1_way_places)), (a_p1, .inr (4, [.ref a_p1_way, .ref a_p1_guns, .ref a_p1_runners])), (a_p1_guns, .inr (2, [.ref a_p1_guns_ticks])), (a_p1_guns_ticks, .inl (cI, 6, .inl p1_guns_ticks)), (a_p1_runners, .inr (6, [.ref a_p1_runners_facts, .ref a_p1_runners_splits, .ref a_p1_runners_torn, .ref a_p1_runners_dropped, .ref a_p1_runners_waved, .ref a_p1_runners_struck, .ref a_p1_runners_strikingOrder, .int p1_runners_entered, .int p1_runners_strikings])), (a_p1_runners_facts, .inl (cI, 360, .inl p1_runners_facts))] := hD
          refine lv_iadd hx hb dX1_passersIn_63 ?_
          refine lv_bipush (v := (nI 60)) hx hb dX1_passersIn_64 rfl ?_
          refine lv_idiv hx hb dX1_passersIn_66 (by decide) ?_
          refine lv_iload_n hx hb dX1_passersIn_67 rfl (lv_at hl 8 rfl) ?_
          refine lv_icmp_ne (tgt := 74) hx hb dX1_passersIn_68 (by decide) (fun c13 => ?_) (fun c13 => ?_)
          · have h := zz_f h c13
            refine lv_iinc (v := (v6_16 + (nI 1))) (lv' := [(6, .int (v6_16 + (nI 1))), (8, .int r8), (7, .int r6), (5, .int v5_16), (4, .int r1), (0, .ref a_t), (1, .ref a_p1), (2, .int x2), (3, .int x3)]) hx hb dX1_passersIn_74 hl (k := 2) rfl rfl (by decide) rfl (fun ls hl => ?_)
            refine lv_goto (tgt := 16) hx hb dX1_passersIn_77 (by decide) ?_
            exact ih16 v5_16 (v6_16 + (nI 1)) _ _ _ h (hP.sub [0, 3, 4, 5, 6, 7, 1, 2] rfl) (hD.sub [0, 3, 4, 5, 6, 7, 1, 2] rfl rfl) hS (lv_sub hl [0, 3, 4, 5, 6, 7, 8] rfl)
          · have h := zz_t h c13
            refine lv_iinc (v := (v5_16 + (nI 1))) (lv' := [(5, .int (v5_16 + (nI 1))), (8, .int r8), (7, .int r6), (6, .int v6_16), (4, .int r1), (0, .ref a_t), (1, .ref a_p1), (2, .int x2), (3, .int x3)]) hx hb dX1_passersIn_71 hl (k := 3) rfl rfl (by decide) rfl (fun ls hl => ?_)
            refine lv_iinc (v := (v6_16 + (nI 1))) (lv' := [(6, .int (v6_16 + (nI 1))), (5, .int (v5_16 + (nI 1))), (8, .int r8), (7, .int r6), (4, .int r1), (0, .ref a_t), (1, .ref a_p1), (2, .int x2), (3, .int x3)]) hx hb dX1_passersIn_74 hl (k := 3) rfl rfl (by decide) rfl (fun ls hl => ?_)
            refine lv_goto (tgt := 16) hx hb dX1_passersIn_77 (by decide) ?_
            exact ih16 (v5_16 + (nI 1)) (v6_16 + (nI 1)) _ _ _ h (hP.sub [0, 3, 4, 5, 6, 7, 1, 2] rfl) (hD.sub [0, 3, 4, 5, 6, 7, 1, 2] rfl rfl) hS (lv_sub hl [0, 1, 4, 5, 6, 7, 8] rfl)
  exact L16 N (nI 0) (nI 0) _ _ _ h hP hD hS hl
/-! RunDesk$Foretelling.prepare -/
theorem dX1_prepare_0 : decode cX1_prepare 0 = .ok (.aload_n 1, 1) := by decide +kernel
theorem dX1_prepare_1 : decode cX1_prepare 1 = .ok (.getfield 31, 3) := by decide +kernel
theorem dX1_prepare_4 : decode cX1_prepare 4 = .ok (.iload_n 2, 1) := by decide +kernel
theorem dX1_prepare_5 : decode cX1_prepare 5 = .ok (.invokevirtual 37, 3) := by decide +kernel
theorem dX1_prepare_8 : decode cX1_prepare 8 = .ok (.istore_n 3, 1) := by decide +kernel
theorem dX1_prepare_9 : decode cX1_prepare 9 = .ok (.iconst 0, 1) := by decide +kernel
theorem dX1_prepare_10 : decode cX1_prepare 10 = .ok (.istore 4, 2) := by decide +kernel
theorem dX1_prepare_12 : decode cX1_prepare 12 = .ok (.iload 4, 2) := by decide +kernel
theorem dX1_prepare_14 : decode cX1_prepare 14 = .ok (.aload_n 1, 1) := by decide +kernel
theorem dX1_prepare_15 : decode cX1_prepare 15 = .ok (.getfield 43, 3) := by decide +kernel
theorem dX1_prepare_18 : decode cX1_prepare 18 = .ok (.invokevirtual 47, 3) := by decide +kernel
theorem dX1_prepare_21 : decode cX1_prepare 21 = .ok (.if_icmp .ge 73, 3) := by decide +kernel
theorem dX1_prepare_24 : decode cX1_prepare 24 = .ok (.iload 4, 2) := by decide +kernel
theorem dX1_prepare_26 : decode cX1_prepare 26 = .ok (.bipush 60, 2) := by decide +kernel
theorem dX1_prepare_28 : decode cX1_prepare 28 = .ok (.if_icmp .ge 66, 3) := by decide +kernel
theorem dX1_prepare_31 : decode cX1_prepare 31 = .ok (.aload_n 0, 1) := by decide +kernel
theorem dX1_prepare_32 : decode cX1_prepare 32 = .ok (.getfield 15, 3) := by decide +kernel
theorem dX1_prepare_35 : decode cX1_prepare 35 = .ok (.iload 4, 2) := by decide +kernel
theorem dX1_prepare_37 : decode cX1_prepare 37 = .ok (.aload_n 1, 1) := by decide +kernel
theorem dX1_prepare_38 : decode cX1_prepare 38 = .ok (.getfield 43, 3) := by decide +kernel
theorem dX1_prepare_41 : decode cX1_prepare 41 = .ok (.iload 4, 2) := by decide +kernel
theorem dX1_prepare_43 : decode cX1_prepare 43 = .ok (.iconst 5, 1) := by decide +kernel
theorem dX1_prepare_44 : decode cX1_prepare 44 = .ok (.invokevirtual 56, 3) := by decide +kernel
theorem dX1_prepare_47 : decode cX1_prepare 47 = .ok (.iastore, 1) := by decide +kernel
theorem dX1_prepare_48 : decode cX1_prepare 48 = .ok (.iload_n 2, 1) := by decide +kernel
theorem dX1_prepare_49 : decode cX1_prepare 49 = .ok (.ifCond .lt 39, 3) := by decide +kernel
theorem dX1_prepare_52 : decode cX1_prepare 52 = .ok (.iload_n 2, 1) := by decide +kernel
theorem dX1_prepare_53 : decode cX1_prepare 53 = .ok (.bipush 12, 2) := by decide +kernel
theorem dX1_prepare_55 : decode cX1_prepare 55 = .ok (.if_icmp .ge 33, 3) := by decide +kernel
theorem dX1_prepare_58 : decode cX1_prepare 58 = .ok (.aload_n 1, 1) := by decide +kernel
theorem dX1_prepare_59 : decode cX1_prepare 59 = .ok (.getfield 43, 3) := by decide +kernel
theorem dX1_prepare_62 : decode cX1_prepare 62 = .ok (.iload 4, 2) := by decide +kernel
theorem dX1_prepare_64 : decode cX1_prepare 64 = .ok (.iconst 1, 1) := by decide +kernel
theorem dX1_prepare_65 : decode cX1_prepare 65 = .ok (.invokevirtual 56, 3) := by decide +kernel
theorem dX1_prepare_68 : decode cX1_prepare 68 = .ok (.istore 5, 2) := by decide +kernel
theorem dX1_prepare_70 : decode cX1_prepare 70 = .ok (.aload_n 0, 1) := by decide +kernel
theorem dX1_prepare_71 : decode cX1_prepare 71 = .ok (.getfield 9, 3) := by decide +kernel
theorem dX1_prepare_74 : decode cX1_prepare 74 = .ok (.iload 4, 2) := by decide +kernel
theorem dX1_prepare_76 : decode cX1_prepare 76 = .ok (.bipush 12, 2) := by decide +kernel
theorem dX1_prepare_78 : decode cX1_prepare 78 = .ok (.imul, 1) := by decide +kernel
theorem dX1_prepare_79 : decode cX1_prepare 79 = .ok (.iload_n 2, 1) := by decide +kernel
theorem dX1_prepare_80 : decode cX1_prepare 80 = .ok (.iadd, 1) := by decide +kernel
theorem dX1_prepare_81 : decode cX1_prepare 81 = .ok (.iload_n 3, 1) := by decide +kernel
theorem dX1_prepare_82 : decode cX1_prepare 82 = .ok (.iload 5, 2) := by decide +kernel
theorem dX1_prepare_84 : decode cX1_prepare 84 = .ok (.invokestatic 60, 3) := by decide +kernel
theorem dX1_prepare_87 : decode cX1_prepare 87 = .ok (.iastore, 1) := by decide +kernel
theorem dX1_prepare_88 : decode cX1_prepare 88 = .ok (.iinc 4 1, 3) := by decide +kernel
theorem dX1_prepare_91 : decode cX1_prepare 91 = .ok (.goto (-79), 3) := by decide +kernel
theorem dX1_prepare_94 : decode cX1_prepare 94 = .ok (.return_, 1) := by decide +kernel
set_option maxRecDepth 20000 in
theorem ggX1_prepare_X9_placeAt : GoodIn wsX1_prepare wsX9_placeAt := goodIn_sub (List.forall_mem_cons.mpr ⟨List.mem_cons_of_mem _ (List.mem_append_left _ (List.mem_append_left _ (List.mem_append_left _ (List.mem_append_left _ (List.mem_append_left _ (List.mem_of_getElem? (l := wsX1_prepare_r1) (i := 6) rfl)))))), (List.forall_mem_append.mpr ⟨(List.forall_mem_cons.mpr ⟨List.mem_cons_of_mem _ (List.mem_append_left _ (List.mem_append_left _ (List.mem_append_left _ (List.mem_append_left _ (List.mem_append_left _ (List.mem_of_getElem? (l := wsX1_prepare_r1) (i := 7) rfl)))))), (List.forall_mem_cons.mpr ⟨List.mem_cons_of_mem _ (List.mem_append_left _ (List.mem_append_left _ (List.mem_append_left _ (List.mem_append_left _ (List.mem_append_left _ (List.mem_of_getElem? (l := wsX1_prepare_r1) (i := 8) rfl)))))), (List.forall_mem_cons.mpr ⟨List.mem_cons_of_mem _ (List.mem_append_left _ (List.mem_append_left _ (List.mem_append_left _ (List.mem_append_left _ (List.mem_append_left _ (List.mem_of_getElem? (l := wsX1_prepare_r1) (i := 9) rfl)))))), (List.forall_mem_cons.mpr ⟨List.mem_cons_of_mem _ (List.mem_append_left _ (List.mem_append_left _ (List.mem_append_left _ (List.mem_append_left _ (List.mem_append_left _ (List.mem_of_getElem? (l := wsX1_prepare_r1) (i := 10) rfl)))))), (List.forall_mem_cons.mpr ⟨List.mem_cons_of_mem _ (List.mem_append_left _ (List.mem_append_left _ (List.mem_append_left _ (List.mem_append_left _ (List.mem_append_left _ (List.mem_of_getElem? (l := wsX1_prepare_r1) (i := 5) rfl)))))), (List.forall_mem_cons.mpr ⟨List.mem_cons_of_mem _ (List.mem_append_left _ (List.mem_append_left _ (List.mem_append_left _ (List.mem_append_left _ (List.mem_append_left _ (List.mem_of_getElem? (l := wsX1_prepare_r1) (i := 11) rfl)))))), (List.forall_mem_cons.mpr ⟨List.mem_cons_of_mem _ (List.mem_append_left _ (List.mem_append_left _ (List.mem_append_left _ (List.mem_append_left _ (List.mem_append_left _ (List.mem_of_getElem? (l := wsX1_prepare_r1) (i := 12) rfl)))))), (fun _ h => nomatch h)⟩)⟩)⟩)⟩)⟩)⟩)⟩), (fun _ h => List.mem_cons_of_mem _ (List.mem_append_left _ (List.mem_append_right _ (h))))⟩)⟩) (by decide +kernel)
set_option maxRecDepth 20000 in
theorem gX1_prepare_X9_placeAt : GoodIn wsX1_prepare (wsV RX1 37 RX9 yX9_placeAt wsX9_placeAt) := goodIn_app (goodIn_of _ (by decide +kernel)) ggX1_prepare_X9_placeAt
set_option maxRecDepth 20000 in
theorem ggX1_prepare_X6_size : GoodIn wsX1_prepare wsX6_size := goodIn_sub (List.forall_mem_cons.mpr ⟨List.mem_cons_of_mem _ (List.mem_append_left _ (List.mem_append_left _ (List.mem_append_left _ (List.mem_append_left _ (List.mem_append_left _ (List.mem_of_getElem? (l := wsX1_prepare_r1) (i := 17) rfl)))))), (List.forall_mem_append.mpr ⟨(List.forall_mem_cons.mpr ⟨List.mem_cons_of_mem _ (List.mem_append_left _ (List.mem_append_left _ (List.mem_append_left _ (List.mem_append_left _ (List.mem_append_left _ (List.mem_of_getElem? (l := wsX1_prepare_r1) (i := 18) rfl)))))), (fun _ h => nomatch h)⟩), (fun _ h => List.mem_cons_of_mem _ (List.mem_append_right _ (h)))⟩)⟩) (by decide +kernel)
set_option maxRecDepth 20000 in
theorem gX1_prepare_X6_size : GoodIn wsX1_prepare (wsV RX1 47 RX6 yX6_size wsX6_size) := goodIn_app (goodIn_of _ (by decide +kernel)) ggX1_prepare_X6_size
set_option maxRecDepth 20000 in
theorem ggX1_prepare_X6_factOf : GoodIn wsX1_prepare wsX6_factOf := goodIn_sub (List.forall_mem_cons.mpr ⟨List.mem_cons_of_mem _ (List.mem_append_left _ (List.mem_append_left _ (List.mem_append_left _ (List.mem_append_left _ (List.mem_append_left _ (List.mem_of_getElem? (l := wsX1_prepare_r1) (i := 22) rfl)))))), (List.forall_mem_append.mpr ⟨(List.forall_mem_cons.mpr ⟨List.mem_cons_of_mem _ (List.mem_append_left _ (List.mem_append_left _ (List.mem_append_left _ (List.mem_append_left _ (List.mem_append_left _ (List.mem_of_getElem? (l := wsX1_prepare_r1) (i := 18) rfl)))))), (List.forall_mem_cons.mpr ⟨List.mem_cons_of_mem _ (List.mem_append_left _ (List.mem_append_left _ (List.mem_append_left _ (List.mem_append_left _ (List.mem_append_left _ (List.mem_of_getElem? (l := wsX1_prepare_r1) (i := 23) rfl)))))), (fun _ h => nomatch h)⟩)⟩), (fun _ h => List.mem_cons_of_mem _ (List.mem_append_right _ (h)))⟩)⟩) (by decide +kernel)
set_option maxRecDepth 20000 in
theorem gX1_prepare_X6_factOf : GoodIn wsX1_prepare (wsV RX1 56 RX6 yX6_factOf wsX6_factOf) := goodIn_app (goodIn_of _ (by decide +kernel)) ggX1_prepare_X6_factOf
set_option maxRecDepth 20000 in
theorem ggX1_prepare_X10_secondsCut : GoodIn wsX1_prepare wsX10_secondsCut := goodIn_sub (List.forall_mem_cons.mpr ⟨List.mem_cons_of_mem _ (List.mem_append_left _ (List.mem_append_left _ (List.mem_append_left _ (List.mem_append_left _ (List.mem_append_right _ (List.mem_of_getElem? (l := wsX1_prepare_r2) (i := 2) rfl)))))), (fun _ h => nomatch h)⟩) (by decide +kernel)
set_option maxRecDepth 20000 in
theorem gX1_prepare_X10_secondsCut_n60 : GoodIn wsX1_prepare (wsX10_secondsCut) := ggX1_prepare_X10_secondsCut
theorem qX1_prepare_X4 : ∀ w ∈ wsX40, w ∈ wsX1_prepare := fun _ h => List.mem_cons_of_mem _ (List.mem_append_left _ (List.mem_append_left _ (List.mem_append_left _ (List.mem_append_right _ (h)))))
theorem kX1_prepare_1 : (.fieldLink RX1 15 "RunDesk$Foretelling" "pens" "[I" : Cond) ∈ wsX1_prepare := List.mem_of_getElem? (i := 1) (by decide +kernel)
theorem qX1_prepare_X1 : ∀ w ∈ wsX10, w ∈ wsX1_prepare := fun _ h => List.mem_cons_of_mem _ (List.mem_append_left _ (List.mem_append_left _ (List.mem_append_right _ (h))))
theorem kX1_prepare_3 : (.fieldLink RX1 9 "RunDesk$Foretelling" "seconds" "[I" : Cond) ∈ wsX1_prepare := List.mem_of_getElem? (i := 2) (by decide +kernel)
theorem kX1_prepare_4 : (.initialized RX10 : Cond) ∈ wsX1_prepare := List.mem_of_getElem? (i := 26) (by decide +kernel)
theorem kX1_prepare_5 : (.static yX10_secondsCut : Cond) ∈ wsX1_prepare := List.mem_of_getElem? (i := 25) (by decide +kernel)
set_option maxHeartbeats 4000000 in
set_option maxRecDepth 100000 in
theorem mX1_prepare (l : Launch) (D : va_G) (cB cI cZ : ClassId) (a_t : Nat) (a_p1 : Nat) (a_t_seconds : Nat) (a_t_pens : Nat) (a_t_minutes : Nat) (a_t_passers : Nat) (a_t_tried : Nat) (a_p1_way : Nat) (a_p1_guns : Nat) (a_p1_runners : Nat) (a_p1_runners_facts : Nat) (a_p1_runners_splits : Nat) (a_p1_runners_torn : Nat) (a_p1_runners_dropped : Nat) (a_p1_runners_waved : Nat) (a_p1_runners_struck : Nat) (a_p1_runners_strikingOrder : Nat) (a_p1_way_places : Nat) (a_p1_way_bearings : Nat) (a_p1_way_cuts : Nat) (a_p1_way_deaths : Nat) (t_pens : Nat → Int32) (t_seconds : Nat → Int32) (p1_runners_entered : Int32) (p1_runners_strikings : Int32) (p1_runners_facts : Nat → Int32) (p1_way_mats : Int32) (p1_way_places : Nat → Int32) (sz : Nat) (x2 : Int32) (N : Nat) (t_pens' : Nat → Int32) (t_seconds' : Nat → Int32) (h : fX1_prepare N t_pens t_seconds p1_runners_entered p1_runners_facts p1_way_mats p1_way_places x2 = some (t_pens', t_seconds')) : Met l yX1_prepare wsX1_prepare ({ frames := 2, cells := 0, slots := 0, locals := 42 } : Room) (va_Pc [.ref a_t, .ref a_p1, .int x2] (zPre D (zT cB cI cZ) [(a_t, .inr (1, [.ref a_t_seconds, .ref a_t_pens, .ref a_t_minutes, .ref a_t_passers, .ref a_t_tried])), (a_t_pens, .inl (cI, 60, .inl t_pens)), (a_t_seconds, .inl (cI, 720, .inl t_seconds)), (a_p1, .inr (4, [.ref a_p1_way, .ref a_p1_guns, .ref a_p1_runners])), (a_p1_runners, .inr (6, [.ref a_p1_runners_facts, .ref a_p1_runners_splits, .ref a_p1_runners_torn, .ref a_p1_runners_dropped, .ref a_p1_runners_waved, .ref a_p1_runners_struck, .ref a_p1_runners_strikingOrder, .int p1_runners_entered, .int p1_runners_strikings])), (a_p1_runners_facts, .inl (cI, 360, .inl p1_runners_facts)), (a_p1_way, .inr (9, [.ref a_p1_way_places, .ref a_p1_way_bearings, .ref a_p1_way_cuts, .ref a_p1_way_deaths, .int p1_way_mats])), (a_p1_way_places, .inl (cI, 12, .inl p1_way_places))] sz)) (zQv D (zT cB cI cZ) [(a_t, .inr (1, [.ref a_t_seconds, .ref a_t_pens, .ref a_t_minutes, .ref a_t_passers, .ref a_t_tried])), (a_t_pens, .inl (cI, 60, .inl t_pens')), (a_t_seconds, .inl (cI, 720, .inl t_seconds')), (a_p1, .inr (4, [.ref a_p1_way, .ref a_p1_guns, .ref a_p1_runners])), (a_p1_runners, .inr (6, [.ref a_p1_runners_facts, .ref a_p1_runners_splits, .ref a_p1_runners_torn, .ref a_p1_runners_dropped, .ref a_p1_runners_waved, .ref a_p1_runners_struck, .ref a_p1_runners_strikingOrder, .int p1_runners_entered, .int p1_runners_strikings])), (a_p1_runners_facts, .inl (cI, 360, .inl p1_runners_facts)), (a_p1_way, .inr (9, [.ref a_p1_way_places, .ref a_p1_way_bearings, .ref a_p1_way_cuts, .ref a_p1_way_deaths, .int p1_way_mats])), (a_p1_way_places, .inl (cI, 12, .inl p1_way_places))] (va_A [(a_t, .inr (1, [.ref a_t_seconds, .ref a_t_pens, .ref a_t_minutes, .ref a_t_passers, .ref a_t_tried])), (a_t_pens, .inl (cI, 60, .inl t_pens)), (a_t_seconds, .inl (cI, 720, .inl t_seconds)), (a_p1, .inr (4, [.ref a_p1_way, .ref a_p1_guns, .ref a_p1_runners])), (a_p1_runners, .inr (6, [.ref a_p1_runners_facts, .ref a_p1_runners_splits, .ref a_p1_runners_torn, .ref a_p1_runners_dropped, .ref a_p1_runners_waved, .ref a_p1_runners_struck, .ref a_p1_runners_strikingOrder, .int p1_runners_entered, .int p1_runners_strikings])), (a_p1_runners_facts, .inl (cI, 360, .inl p1_runners_facts)), (a_p1_way, .inr (9, [.ref a_p1_way_places, .ref a_p1_way_bearings, .ref a_p1_way_cuts, .ref a_p1_way_deaths, .int p1_way_mats])), (a_p1_way_places, .inl (cI, 12, .inl p1_way_places))] sz)) 0 0 (va_A [(a_t, .inr (1, [.ref a_t_seconds, .ref a_t_pens, .ref a_t_minutes, .ref a_t_passers, .ref a_t_tried])), (a_t_pens, .inl (cI, 60, .inl t_pens)), (a_t_seconds, .inl (cI, 720, .inl t_seconds)), (a_p1, .inr (4, [.ref a_p1_way, .ref a_p1_guns, .ref a_p1_runners])), (a_p1_runners, .inr (6, [.ref a_p1_runners_facts, .ref a_p1_runners_splits, .ref a_p1_runners_torn, .ref a_p1_runners_dropped, .ref a_p1_runners_waved, .ref a_p1_runners_struck, .ref a_p1_runners_strikingOrder, .int p1_runners_entered, .int p1_runners_strikings])), (a_p1_runners_facts, .inl (cI, 360, .inl p1_runners_facts)), (a_p1_way, .inr (9, [.ref a_p1_way_places, .ref a_p1_way_bearings, .ref a_p1_way_cuts, .ref a_p1_way_deaths, .int p1_way_mats])), (a_p1_way_places, .inl (cI, 12, .inl p1_way_places))] sz) := by
  refine Met.ofW (cc := cX1_prepare) (maxL := 6) (ret := none) (by decide) rfl ?_
  intro p e s m args below meth c s₁ B hml hv
  obtain ⟨rfl, hsz, hP, hK, hN, hZ, hD0⟩ := hv
  have hx := B.exec
  have hb := B.bytes
  have hr := B.returns
  have hts := atoms_spec (ws := wsX1_prepare) B.pre
  have hown : s.vm.findClass RX1 = some m.cls := findClass_of_methodNamed B.named
  have hlocks := B.notSynchronized
  subst hsz
  have hD := hD0.self (sz := s.heap.size)
  generalize hAe : va_A [(a_t, .inr (1, [.ref a_t_seconds, .ref a_t_pens, .ref a_t_minutes, .ref a_t_passers, .ref a_t_tried])), (a_t_pens, .inl (cI, 60, .inl t_pens)), (a_t_seconds, .inl (cI, 720, .inl t_seconds)), (a_p1, .inr (4, [.ref a_p1_way, .ref a_p1_guns, .ref a_p1_runners])), (a_p1_runners, .inr (6, [.ref a_p1_runners_facts, .ref a_p1_runners_splits, .ref a_p1_runners_torn, .ref a_p1_runners_dropped, .ref a_p1_runners_waved, .ref a_p1_runners_struck, .ref a_p1_runners_strikingOrder, .int p1_runners_entered, .int p1_runners_strikings])), (a_p1_runners_facts, .inl (cI, 360, .inl p1_runners_facts)), (a_p1_way, .inr (9, [.ref a_p1_way_places, .ref a_p1_way_bearings, .ref a_p1_way_cuts, .ref a_p1_way_deaths, .int p1_way_mats])), (a_p1_way_places, .inl (cI, 12, .inl p1_way_places))] s.heap.size = A at hD hZ ⊢
  have hA : ∀ q : Nat, s.heap.size ≤ q → A q := fun q h => by rw [← hAe]; exact Or.inr h
  have hS : va_S A s.heap s.heap [] := va_S.rf
  have hl := lv_entry ([.ref a_t, .ref a_p1, .int x2]) (n := 6) (Nat.le_of_ble_eq_true rfl)
  rw [lg_entry_eq]
  generalize (lg_sl ([.ref a_t, .ref a_p1, .int x2]) ++ List.replicate (6 - (lg_sl ([.ref a_t, .ref a_p1, .int x2])).length) Slot.unset).toArray = ls at hl ⊢
  have hl : lv_has ls 6 [(0, .ref a_t), (1, .ref a_p1), (2, .int x2)] := hl
  unfold fX1_prepare at h
  refine lv_aload_n hx hb dX1_prepare_0 rfl (lv_at hl 1 rfl) ?_
  refine va_getN (host := "RunDesk") (D := D) (ci := 4) (C := RX4) (T := TX4) (N := 3) hx hb hts qX1_prepare_X4 hown hK hP 3 rfl rfl 0 (by decide) (va_Nw.use rfl (hN _ (List.mem_of_getElem? (i := 1) rfl))) (fun _ h9 => h9) rfl dX1_prepare_1 ?_
  refine lv_iload_n hx hb dX1_prepare_4 rfl (lv_at hl 2 rfl) ?_
  obtain ⟨r1, e2, h⟩ := zz_b h
  refine zVi (As := [.int x2]) (rest := []) (C := RX9) (wr := [(a_t, .inr (1, [.ref a_t_seconds, .ref a_t_pens, .ref a_t_minutes, .ref a_t_passers, .ref a_t_tried])), (a_t_pens, .inl (cI, 60, .inl t_pens)), (a_t_seconds, .inl (cI, 720, .inl t_seconds)), (a_p1, .inr (4, [.ref a_p1_way, .ref a_p1_guns, .ref a_p1_runners])), (a_p1_runners, .inr (6, [.ref a_p1_runners_facts, .ref a_p1_runners_splits, .ref a_p1_runners_torn, .ref a_p1_runners_dropped, .ref a_p1_runners_waved, .ref a_p1_runners_struck, .ref a_p1_runners_strikingOrder, .int p1_runners_entered, .int p1_runners_strikings])), (a_p1_runners_facts, .inl (cI, 360, .inl p1_runners_facts))]) [6, 7] [0, 1, 2, 3, 4, 5] 0 ⟨hx, hb, hml, hown, hts⟩ (mX9_placeAt l D cB cI cZ a_p1_way a_p1_way_places a_p1_way_bearings a_p1_way_cuts a_p1_way_deaths p1_way_mats p1_way_places s.heap.size x2 r1 e2) (cwV 1 hts gX1_prepare_X9_placeAt rfl rfl rfl (by decide +kernel) ⟨Nat.le_of_ble_eq_true rfl, Nat.le_of_ble_eq_true rfl⟩) hK hN hZ hP hD hS hA rfl rfl rfl rfl rfl rfl rfl rfl hl.1 rfl (lv_room (Nat.le_of_ble_eq_true rfl)) dX1_prepare_5 ⟨Nat.le_of_ble_eq_true rfl, Nat.le_of_ble_eq_true rfl⟩ (fun H locs hP hD hS => ?_)
  have hP : va_P D vwCl [(a_t, .inr (1, [.ref a_t_seconds, .ref a_t_pens, .ref a_t_minutes, .ref a_t_passers, .ref a_t_tried])), (a_t_pens, .inl (cI, 60, .inl t_pens)), (a_t_seconds, .inl (cI, 720, .inl t_seconds)), (a_p1, .inr (4, [.ref a_p1_way, .ref a_p1_guns, .ref a_p1_runners])), (a_p1_runners, .inr (6, [.ref a_p1_runners_facts, .ref a_p1_runners_splits, .ref a_p1_runners_torn, .ref a_p1_runners_dropped, .ref a_p1_runners_waved, .ref a_p1_runners_struck, .ref a_p1_runners_strikingOrder, .int p1_runners_entered, .int p1_runners_strikings])), (a_p1_runners_facts, .inl (cI, 360, .inl p1_runners_facts)), (a_p1_way, .inr (9, [.ref a_p1_way_places, .ref a_p1_way_bearings, .ref a_p1_way_cuts, .ref a_p1_way_deaths, .int p1_way_mats])), (a_p1_way_places, .inl (cI, 12, .inl p1_way_places))] H := hP
  have hD : va_D A [(a_t, .inr (1, [.ref a_t_seconds, .ref a_t_pens, .ref a_t_minutes, .ref a_t_passers, .ref a_t_tried])), (a_t_pens, .inl (cI, 60, .inl t_pens)), (a_t_seconds, .inl (cI, 720, .inl t_seconds)), (a_p1, .inr (4, [.ref a_p1_way, .ref a_p1_guns, .ref a_p1_runners])), (a_p1_runners, .inr (6, [.ref a_p1_runners_facts, .ref a_p1_runners_splits, .ref a_p1_runners_torn, .ref a_p1_runners_dropped, .ref a_p1_runners_waved, .ref a_p1_runners_struck, .ref a_p1_runners_strikingOrder, .int p1_runners_entered, .int p1_runners_strikings])), (a_p1_runners_facts, .inl (cI, 360, .inl p1_runners_facts)), (a_p1_way, .inr (9, [.ref a_p1_way_places, .ref a_p1_way_bearings, .ref a_p1_way_cuts, .ref a_p1_way_deaths, .int p1_way_mats])), (a_p1_way_places, .inl (cI, 12, .inl p1_way_places))] := hD
  refine lv_istore_n (lv' := [(3, .int r1), (0, .ref a_t), (1, .ref a_p1), (2, .int x2)]) hx hb dX1_prepare_8 rfl hl (by decide) rfl (fun ls hl => ?_)
  refine lv_iconst (v := (nI 0)) hx hb dX1_prepare_9 rfl ?_
  refine lv_istore (lv' := [(4, .int (nI 0)), (3, .int r1), (0, .ref a_t), (1, .ref a_p1), (2, .int x2)]) hx hb dX1_prepare_10 hl (by decide) rfl (fun ls hl => ?_)
  have X12_94 : ∀ (v4_12 : Int32) (t_pens_l12 : Nat → Int32) (t_seconds_l12 : Nat → Int32) (H : Heap) (locs : List Loc) (ls : Array Slot), some (t_pens_l12, t_seconds_l12) = some (t_pens', t_seconds') → va_P D vwCl [(a_t, .inr (1, [.ref a_t_seconds, .ref a_t_pens, .ref a_t_minutes, .ref a_t_passers, .ref a_t_tried])), (a_t_pens, .inl (cI, 60, .inl t_pens_l12)), (a_t_seconds, .inl (cI, 720, .inl t_seconds_l12)), (a_p1, .inr (4, [.ref a_p1_way, .ref a_p1_guns, .ref a_p1_runners])), (a_p1_runners, .inr (6, [.ref a_p1_runners_facts, .ref a_p1_runners_splits, .ref a_p1_runners_torn, .ref a_p1_runners_dropped, .ref a_p1_runners_waved, .ref a_p1_runners_struck, .ref a_p1_runners_strikingOrder, .int p1_runners_entered, .int p1_runners_strikings])), (a_p1_runners_facts, .inl (cI, 360, .inl p1_runners_facts)), (a_p1_way, .inr (9, [.ref a_p1_way_places, .ref a_p1_way_bearings, .ref a_p1_way_cuts, .ref a_p1_way_deaths, .int p1_way_mats])), (a_p1_way_places, .inl (cI, 12, .inl p1_way_places))] H → va_D A [(a_t, .inr (1, [.ref a_t_seconds, .ref a_t_pens, .ref a_t_minutes, .ref a_t_passers, .ref a_t_tried])), (a_t_pens, .inl (cI, 60, .inl t_pens_l12)), (a_t_seconds, .inl (cI, 720, .inl t_seconds_l12)), (a_p1, .inr (4, [.ref a_p1_way, .ref a_p1_guns, .ref a_p1_runners])), (a_p1_runners, .inr (6, [.ref a_p1_runners_facts, .ref a_p1_runners_splits, .ref a_p1_runners_torn, .ref a_p1_runners_dropped, .ref a_p1_runners_waved, .ref a_p1_runners_struck, .ref a_p1_runners_strikingOrder, .int p1_runners_entered, .int p1_runners_strikings])), (a_p1_runners_facts, .inl (cI, 360, .inl p1_runners_facts)), (a_p1_way, .inr (9, [.ref a_p1_way_places, .ref a_p1_way_bearings, .ref a_p1_way_cuts, .ref a_p1_way_deaths, .int p1_way_mats])), (a_p1_way_places, .inl (cI, 12, .inl p1_way_places))] → va_S A s.heap H locs → lv_has ls 6 [(4, .int v4_12), (3, .int r1), (0, .ref a_t), (1, .ref a_p1), (2, .int x2)] → W p l e (headSpec wsX1_prepare ({ frames := 2, cells := 0, slots := 0, locals := 42 } : Room)).room s m #[Value.ref a_t, Value.ref a_p1, Value.int x2] below meth c H locs 0 0 (MQ below (zQv D (zT cB cI cZ) [(a_t, .inr (1, [.ref a_t_seconds, .ref a_t_pens, .ref a_t_minutes, .ref a_t_passers, .ref a_t_tried])), (a_t_pens, .inl (cI, 60, .inl t_pens')), (a_t_seconds, .inl (cI, 720, .inl t_seconds')), (a_p1, .inr (4, [.ref a_p1_way, .ref a_p1_guns, .ref a_p1_runners])), (a_p1_runners, .inr (6, [.ref a_p1_runners_facts, .ref a_p1_runners_splits, .ref a_p1_runners_torn, .ref a_p1_runners_dropped, .ref a_p1_runners_waved, .ref a_p1_runners_struck, .ref a_p1_runners_strikingOrder, .int p1_runners_entered, .int p1_runners_strikings])), (a_p1_runners_facts, .inl (cI, 360, .inl p1_runners_facts)), (a_p1_way, .inr (9, [.ref a_p1_way_places, .ref a_p1_way_bearings, .ref a_p1_way_cuts, .ref a_p1_way_deaths, .int p1_way_mats])), (a_p1_way_places, .inl (cI, 12, .inl p1_way_places))] A) #[Value.ref a_t, Value.ref a_p1, Value.int x2] s 0 0 A) (F0 m 94 ls []) := by
    intro v4_12 t_pens_l12 t_seconds_l12 H locs ls h hP hD hS hl
    obtain ⟨j0_, g_⟩ := Prod.mk.inj (Option.some.inj h)
    have j1_ := g_
    subst j0_
    subst j1_
    exact W.vret hx hb hr (fun t ht hW => ⟨⟨(), rfl, trivial, zPost.of hP hD hK ht hW [0, 1, 2, 3, 4, 5, 6, 7] rfl rfl rfl⟩, hS.F ht⟩) hS.2.2 dX1_prepare_94
  have L12 : ∀ (n : Nat) (v4_12 : Int32) (t_pens_l12 : Nat → Int32) (t_seconds_l12 : Nat → Int32) (H : Heap) (locs : List Loc) (ls : Array Slot), fX1_prepare_L12 p1_runners_entered p1_runners_facts x2 r1 (fun (v4_12 : Int32) (t_pens_l12 : Nat → Int32) (t_seconds_l12 : Nat → Int32) => some (t_pens_l12, t_seconds_l12)) n v4_12 t_pens_l12 t_seconds_l12 = some (t_pens', t_seconds') → va_P D vwCl [(a_t, .inr (1, [.ref a_t_seconds, .ref a_t_pens, .ref a_t_minutes, .ref a_t_passers, .ref a_t_tried])), (a_t_pens, .inl (cI, 60, .inl t_pens_l12)), (a_t_seconds, .inl (cI, 720, .inl t_seconds_l12)), (a_p1, .inr (4, [.ref a_p1_way, .ref a_p1_guns, .ref a_p1_runners])), (a_p1_runners, .inr (6, [.ref a_p1_runners_facts, .ref a_p1_runners_splits, .ref a_p1_runners_torn, .ref a_p1_runners_dropped, .ref a_p1_runners_waved, .ref a_p1_runners_struck, .ref a_p1_runners_strikingOrder, .int p1_runners_entered, .int p1_runners_strikings])), (a_p1_runners_facts, .inl (cI, 360, .inl p1_runners_facts)), (a_p1_way, .inr (9, [.ref a_p1_way_places, .ref a_p1_way_bearings, .ref a_p1_way_cuts, .ref a_p1_way_deaths, .int p1_way_mats])), (a_p1_way_places, .inl (cI, 12, .inl p1_way_places))] H → va_D A [(a_t, .inr (1, [.ref a_t_seconds, .ref a_t_pens, .ref a_t_minutes, .ref a_t_passers, .ref a_t_tried])), (a_t_pens, .inl (cI, 60, .inl t_pens_l12)), (a_t_seconds, .inl (cI, 720, .inl t_seconds_l12)), (a_p1, .inr (4, [.ref a_p1_way, .ref a_p1_guns, .ref a_p1_runners])), (a_p1_runners, .inr (6, [.ref a_p1_runners_facts, .ref a_p1_runners_splits, .ref a_p1_runners_torn, .ref a_p1_runners_dropped, .ref a_p1_runners_waved, .ref a_p1_runners_struck, .ref a_p1_runners_strikingOrder, .int p1_runners_entered, .int p1_runners_strikings])), (a_p1_runners_facts, .inl (cI, 360, .inl p1_runners_facts)), (a_p1_way, .inr (9, [.ref a_p1_way_places, .ref a_p1_way_bearings, .ref a_p1_way_cuts, .ref a_p1_way_deaths, .int p1_way_mats])), (a_p1_way_places, .inl (cI, 12, .inl p1_way_places))] → va_S A s.heap H locs → lv_has ls 6 [(4, .int v4_12), (3, .int r1), (0, .ref a_t), (1, .ref a_p1), (2, .int x2)] → W p l e (headSpec wsX1_prepare ({ frames := 2, cells := 0, slots := 0, locals := 42 } : Room)).room s m #[Value.ref a_t, Value.ref a_p1, Value.int x2] below meth c H locs 0 0 (MQ below (zQv D (zT cB cI cZ) [(a_t, .inr (1, [.ref a_t_seconds, .ref a_t_pens, .ref a_t_minutes, .ref a_t_passers, .ref a_t_tried])), (a_t_pens, .inl (cI, 60, .inl t_pens')), (a_t_seconds, .inl (cI, 720, .inl t_seconds')), (a_p1, .inr (4, [.ref a_p1_way, .ref a_p1_guns, .ref a_p1_runners])), (a_p1_runners, .inr (6, [.ref a_p1_runners_facts, .ref a_p1_runners_splits, .ref a_p1_runners_torn, .ref a_p1_runners_dropped, .ref a_p1_runners_waved, .ref a_p1_runners_struck, .ref a_p1_runners_strikingOrder, .int p1_runners_entered, .int p1_runners_strikings])), (a_p1_runners_facts, .inl (cI, 360, .inl p1_runners_facts)), (a_p1_way, .inr (9, [.ref a_p1_way_places, .ref a_p1_way_bearings, .ref a_p1_way_cuts, .ref a_p1_way_deaths, .int p1_way_mats])), (a_p1_way_places, .inl (cI, 12, .inl p1_way_places))] A) #[Value.ref a_t, Value.ref a_p1, Value.int x2] s 0 0 A) (F0 m 12 ls []) := by
    intro n
    induction n with
    | zero => intro _ _ _ H locs ls h hP hD hS hl; cases h
    | succ n12 ih12 =>
      intro v4_12 t_pens_l12 t_seconds_l12 H locs ls h hP hD hS hl
      rw [fX1_prepare_L12.eq_2] at h
      refine lv_iload hx hb dX1_prepare_12 (lv_at hl 0 rfl) ?_
      refine lv_aload_n hx hb dX1_prepare_14 rfl (lv_at hl 3 rfl) ?_
      refine va_getN (host := "RunDesk") (D := D) (ci := 4) (C := RX4) (T := TX4) (N := 3) hx hb hts qX1_prepare_X4 hown hK hP 3 rfl rfl 2 (by decide) (va_Nw.use rfl (hN _ (List.mem_of_getElem? (i := 8) rfl))) (fun _ h9 => h9) rfl dX1_prepare_15 ?_
      obtain ⟨r3, e4, h⟩ := zz_b h
      refine zVi (As := []) (rest := [.int v4_12]) (C := RX6) (wr := [(a_t, .inr (1, [.ref a_t_seconds, .ref a_t_pens, .ref a_t_minutes, .ref a_t_passers, .ref a_t_tried])), (a_t_pens, .inl (cI, 60, .inl t_pens_l12)), (a_t_seconds, .inl (cI, 720, .inl t_seconds_l12)), (a_p1, .inr (4, [.ref a_p1_way, .ref a_p1_guns, .ref a_p1_runners])), (a_p1_runners_facts, .inl (cI, 360, .inl p1_runners_facts)), (a_p1_way, .inr (9, [.ref a_p1_way_places, .ref a_p1_way_bearings, .ref a_p1_way_cuts, .ref a_p1_way_deaths, .int p1_way_mats])), (a_p1_way_places, .inl (cI, 12, .inl p1_way_places))]) [4] [0, 1, 2, 3, 5, 6, 7] 0 ⟨hx, hb, hml, hown, hts⟩ (mX6_size l D cB cI cZ a_p1_runners a_p1_runners_facts a_p1_runners_splits a_p1_runners_torn a_p1_runners_dropped a_p1_runners_waved a_p1_runners_struck a_p1_runners_strikingOrder p1_runners_entered p1_runners_strikings H.size r3 e4) (cwV 0 hts gX1_prepare_X6_size rfl rfl rfl (by decide +kernel) ⟨Nat.le_of_ble_eq_true rfl, Nat.le_of_ble_eq_true rfl⟩) hK hN hZ hP hD hS hA rfl rfl rfl rfl rfl rfl rfl rfl hl.1 rfl (lv_room (Nat.le_of_ble_eq_true rfl)) dX1_prepare_18 ⟨Nat.le_of_ble_eq_true rfl, Nat.le_of_ble_eq_true rfl⟩ (fun H locs hP hD hS => ?_)
      have hP : va_P D vwCl [(a_t, .inr (1, [.ref a_t_seconds, .ref a_t_pens, .ref a_t_minutes, .ref a_t_passers, .ref a_t_tried])), (a_t_pens, .inl (cI, 60, .inl t_pens_l12)), (a_t_seconds, .inl (cI, 720, .inl t_seconds_l12)), (a_p1, .inr (4, [.ref a_p1_way, .ref a_p1_guns, .ref a_p1_runners])), (a_p1_runners_facts, .inl (cI, 360, .inl p1_runners_facts)), (a_p1_way, .inr (9, [.ref a_p1_way_places, .ref a_p1_way_bearings, .ref a_p1_way_cuts, .ref a_p1_way_deaths, .int p1_way_mats])), (a_p1_way_places, .inl (cI, 12, .inl p1_way_places)), (a_p1_runners, .inr (6, [.ref a_p1_runners_facts, .ref a_p1_runners_splits, .ref a_p1_runners_torn, .ref a_p1_runners_dropped, .ref a_p1_runners_waved, .ref a_p1_runners_struck, .ref a_p1_runners_strikingOrder, .int p1_runners_entered, .int p1_runners_strikings]))] H := hP
      have hD : va_D A [(a_t, .inr (1, [.ref a_t_seconds, .ref a_t_pens, .ref a_t_minutes, .ref a_t_passers, .ref a_t_tried])), (a_t_pens, .inl (cI, 60, .inl t_pens_l12)), (a_t_seconds, .inl (cI, 720, .inl t_seconds_l12)), (a_p1, .inr (4, [.ref a_p1_way, .ref a_p1_guns, .ref a_p1_runners])), (a_p1_runners_facts, .inl (cI, 360, .inl p1_runners_facts)), (a_p1_way, .inr (9, [.ref a_p1_way_places, .ref a_p1_way_bearings, .ref a_p1_way_cuts, .ref a_p1_way_deaths, .int p1_way_mats])), (a_p1_way_places, .inl (cI, 12, .inl p1_way_places)), (a_p1_runners, .inr (6, [.ref a_p1_runners_facts, .ref a_p1_runners_splits, .ref a_p1_runners_torn, .ref a_p1_runners_dropped, .ref a_p1_runners_waved, .ref a_p1_runners_struck, .ref a_p1_runners_strikingOrder, .int p1_runners_entered, .int p1_runners_strikings]))] := hD
      refine lv_icmp_ge (tgt := 94) hx hb dX1_prepare_21 (by decide) (fun c5 => ?_) (fun c5 => ?_)
      · have h := zz_t h c5
        exact X12_94 v4_12 t_pens_l12 t_seconds_l12 _ _ _ h (hP.sub [0, 1, 2, 3, 7, 4, 5, 6] rfl) (hD.sub [0, 1, 2, 3, 7, 4, 5, 6] rfl rfl) hS (lv_sub hl [0, 1, 2, 3, 4] rfl)
      · have h := zz_f h c5
        refine lv_iload hx hb dX1_prepare_24 (lv_at hl 0 rfl) ?_
        refine lv_bipush (v := (nI 60)) hx hb dX1_prepare_26 rfl ?_
        refine lv_icmp_ge (tgt := 94) hx hb dX1_prepare_28 (by decide) (fun c6 => ?_) (fun c6 => ?_)
        · have h := zz_t h c6
          exact X12_94 v4_12 t_pens_l12 t_seconds_l12 _ _ _ h (hP.sub [0, 1, 2, 3, 7, 4, 5, 6] rfl) (hD.sub [0, 1, 2, 3, 7, 4, 5, 6] rfl rfl) hS (lv_sub hl [0, 1, 2, 3, 4] rfl)
        · have h := zz_f h c6
          refine lv_aload_n hx hb dX1_prepare_31 rfl (lv_at hl 2 rfl) ?_
          refine va_get (D := D) (ci := 1) (C := RX1) (T := TX1) (N := 5) hx hb hts qX1_prepare_X1 hown hK hP 0 rfl rfl 1 (by decide) (hts _ kX1_prepare_1) (fun _ h9 => h9) rfl dX1_prepare_32 ?_
          refine lv_iload hx hb dX1_prepare_35 (lv_at hl 0 rfl) ?_
          refine lv_aload_n hx hb dX1_prepare_37 rfl (lv_at hl 3 rfl) ?_
          refine va_getN (host := "RunDesk") (D := D) (ci := 4) (C := RX4) (T := TX4) (N := 3) hx hb hts qX1_prepare_X4 hown hK hP 3 rfl rfl 2 (by decide) (va_Nw.use rfl (hN _ (List.mem_of_getElem? (i := 8) rfl))) (fun _ h9 => h9) rfl dX1_prepare_38 ?_
          refine lv_iload hx hb dX1_prepare_41 (lv_at hl 0 rfl) ?_
          refine lv_iconst (v := (nI 5)) hx hb dX1_prepare_43 rfl ?_
          obtain ⟨r7, e8, h⟩ := zz_b h
          refine zVi (As := [.int v4_12, .int (nI 5)]) (rest := [.int v4_12, .ref a_t_pens]) (C := RX6) (wr := [(a_t, .inr (1, [.ref a_t_seconds, .ref a_t_pens, .ref a_t_minutes, .ref a_t_passers, .ref a_t_tried])), (a_t_pens, .inl (cI, 60, .inl t_pens_l12)), (a_t_seconds, .inl (cI, 720, .inl t_seconds_l12)), (a_p1, .inr (4, [.ref a_p1_way, .ref a_p1_guns, .ref a_p1_runners])), (a_p1_way, .inr (9, [.ref a_p1_way_places, .ref a_p1_way_bearings, .ref a_p1_way_cuts, .ref a_p1_way_deaths, .int p1_way_mats])), (a_p1_way_places, .inl (cI, 12, .inl p1_way_places))]) [7, 4] [0, 1, 2, 3, 5, 6] 0 ⟨hx, hb, hml, hown, hts⟩ (mX6_factOf l D cB cI cZ a_p1_runners a_p1_runners_facts a_p1_runners_splits a_p1_runners_torn a_p1_runners_dropped a_p1_runners_waved a_p1_runners_struck a_p1_runners_strikingOrder p1_runners_entered p1_runners_strikings p1_runners_facts H.size v4_12 (nI 5) r7 e8) (cwV 2 hts gX1_prepare_X6_factOf rfl rfl rfl (by decide +kernel) ⟨Nat.le_of_ble_eq_true rfl, Nat.le_of_ble_eq_true rfl⟩) hK hN hZ hP hD hS hA rfl rfl rfl rfl rfl rfl rfl rfl hl.1 rfl (lv_room (Nat.le_of_ble_eq_true rfl)) dX1_prepare_44 ⟨Nat.le_of_ble_eq_true rfl, Nat.le_of_ble_eq_true rfl⟩ (fun H locs hP hD hS => ?_)
          have hP : va_P D vwCl [(a_t, .inr (1, [.ref a_t_seconds, .ref a_t_pens, .ref a_t_minutes, .ref a_t_passers, .ref a_t_tried])), (a_t_pens, .inl (cI, 60, .inl t_pens_l12)), (a_t_seconds, .inl (cI, 720, .inl t_seconds_l12)), (a_p1, .inr (4, [.ref a_p1_way, .ref a_p1_guns, .ref a_p1_runners])), (a_p1_way, .inr (9, [.ref a_p1_way_places, .ref a_p1_way_bearings, .ref a_p1_way_cuts, .ref a_p1_way_deaths, .int p1_way_mats])), (a_p1_way_places, .inl (cI, 12, .inl p1_way_places)), (a_p1_runners, .inr (6, [.ref a_p1_runners_facts, .ref a_p1_runners_splits, .ref a_p1_runners_torn, .ref a_p1_runners_dropped, .ref a_p1_runners_waved, .ref a_p1_runners_struck, .ref a_p1_runners_strikingOrder, .int p1_runners_entered, .int p1_runners_strikings])), (a_p1_runners_facts, .inl (cI, 360, .inl p1_runners_facts))] H := hP
          have hD : va_D A [(a_t, .inr (1, [.ref a_t_seconds, .ref a_t_pens, .ref a_t_minutes, .ref a_t_passers, .ref a_t_tried])), (a_t_pens, .inl (cI, 60, .inl t_pens_l12)), (a_t_seconds, .inl (cI, 720, .inl t_seconds_l12)), (a_p1, .inr (4, [.ref a_p1_way, .ref a_p1_guns, .ref a_p1_runners])), (a_p1_way, .inr (9, [.ref a_p1_way_places, .ref a_p1_way_bearings, .ref a_p1_way_cuts, .ref a_p1_way_deaths, .int p1_way_mats])), (a_p1_way_places, .inl (cI, 12, .inl p1_way_places)), (a_p1_runners, .inr (6, [.ref a_p1_runners_facts, .ref a_p1_runners_splits, .ref a_p1_runners_torn, .ref a_p1_runners_dropped, .ref a_p1_runners_waved, .ref a_p1_runners_struck, .ref a_p1_runners_strikingOrder, .int p1_runners_entered, .int p1_runners_strikings])), (a_p1_runners_facts, .inl (cI, 360, .inl p1_runners_facts))] := hD
          obtain ⟨i9, h⟩ := zz_i h
          refine va_iast hx hb hK hP hD hS 1 1 rfl rfl i9 dX1_prepare_47 (fun H locs hP hD hS => ?_)
          have hP : va_P D vwCl [(a_t, .inr (1, [.ref a_t_seconds, .ref a_t_pens, .ref a_t_minutes, .ref a_t_passers, .ref a_t_tried])), (a_t_pens, .inl (cI, 60, .inl (upd t_pens_l12 (v4_12).toNatClampNeg r7))), (a_t_seconds, .inl (cI, 720, .inl t_seconds_l12)), (a_p1, .inr (4, [.ref a_p1_way, .ref a_p1_guns, .ref a_p1_runners])), (a_p1_way, .inr (9, [.ref a_p1_way_places, .ref a_p1_way_bearings, .ref a_p1_way_cuts, .ref a_p1_way_deaths, .int p1_way_mats])), (a_p1_way_places, .inl (cI, 12, .inl p1_way_places)), (a_p1_runners, .inr (6, [.ref a_p1_runners_facts, .ref a_p1_runners_splits, .ref a_p1_runners_torn, .ref a_p1_runners_dropped, .ref a_p1_runners_waved, .ref a_p1_runners_struck, .ref a_p1_runners_strikingOrder, .int p1_runners_entered, .int p1_runners_strikings])), (a_p1_runners_facts, .inl (cI, 360, .inl p1_runners_facts))] H := hP
          have hD : va_D A [(a_t, .inr (1, [.ref a_t_seconds, .ref a_t_pens, .ref a_t_minutes, .ref a_t_passers, .ref a_t_tried])), (a_t_pens, .inl (cI, 60, .inl (upd t_pens_l12 (v4_12).toNatClampNeg r7))), (a_t_seconds, .inl (cI, 720, .inl t_seconds_l12)), (a_p1, .inr (4, [.ref a_p1_way, .ref a_p1_guns, .ref a_p1_runners])), (a_p1_way, .inr (9, [.ref a_p1_way_places, .ref a_p1_way_bearings, .ref a_p1_way_cuts, .ref a_p1_way_deaths, .int p1_way_mats])), (a_p1_way_places, .inl (cI, 12, .inl p1_way_places)), (a_p1_runners, .inr (6, [.ref a_p1_runners_facts, .ref a_p1_runners_splits, .ref a_p1_runners_torn, .ref a_p1_runners_dropped, .ref a_p1_runners_waved, .ref a_p1_runners_struck, .ref a_p1_runners_strikingOrder, .int p1_runners_entered, .int p1_runners_strikings])), (a_p1_runners_facts, .inl (cI, 360, .inl p1_runners_facts))] := hD
          refine lv_iload_n hx hb dX1_prepare_48 rfl (lv_at hl 4 rfl) ?_
          refine lv_if_lt (tgt := 88) hx hb dX1_prepare_49 (by decide) (fun c10 => ?_) (fun c10 => ?_)
          · have h := zz_t h c10
            refine lv_iinc (v := (v4_12 + (nI 1))) (lv' := [(4, .int (v4_12 + (nI 1))), (3, .int r1), (0, .ref a_t), (1, .ref a_p1), (2, .int x2)]) hx hb dX1_prepare_88 hl (k := 0) rfl rfl (by decide) rfl (fun ls hl => ?_)
            refine lv_goto (tgt := 12) hx hb dX1_prepare_91 (by decide) ?_
            exact ih12 (v4_12 + (nI 1)) (upd t_pens_l12 (v4_12).toNatClampNeg r7) t_seconds_l12 _ _ _ h (hP.sub [0, 1, 2, 3, 6, 7, 4, 5] rfl) (hD.sub [0, 1, 2, 3, 6, 7, 4, 5] rfl rfl) hS (lv_sub hl [0, 1, 2, 3, 4] rfl)
          · have h := zz_f h c10
            refine lv_iload_n hx hb dX1_prepare_52 rfl (lv_at hl 4 rfl) ?_
            refine lv_bipush (v := (nI 12)) hx hb dX1_prepare_53 rfl ?_
            refine lv_icmp_ge (tgt := 88) hx hb dX1_prepare_55 (by decide) (fun c11 => ?_) (fun c11 => ?_)
            · have h := zz_t h c11
              refine lv_iinc (v := (v4_12 + (nI 1))) (lv' := [(4, .int (v4_12 + (nI 1))), (3, .int r1), (0, .ref a_t), (1, .ref a_p1), (2, .int x2)]) hx hb dX1_prepare_88 hl (k := 0) rfl rfl (by decide) rfl (fun ls hl => ?_)
              refine lv_goto (tgt := 12) hx hb dX1_prepare_91 (by decide) ?_
              exact ih12 (v4_12 + (nI 1)) (upd t_pens_l12 (v4_12).toNatClampNeg r7) t_seconds_l12 _ _ _ h (hP.sub [0, 1, 2, 3, 6, 7, 4, 5] rfl) (hD.sub [0, 1, 2, 3, 6, 7, 4, 5] rfl rfl) hS (lv_sub hl [0, 1, 2, 3, 4] rfl)
            · have h := zz_f h c11
              refine lv_aload_n hx hb dX1_prepare_58 rfl (lv_at hl 3 rfl) ?_
              refine va_getN (host := "RunDesk") (D := D) (ci := 4) (C := RX4) (T := TX4) (N := 3) hx hb hts qX1_prepare_X4 hown hK hP 3 rfl rfl 2 (by decide) (va_Nw.use rfl (hN _ (List.mem_of_getElem? (i := 8) rfl))) (fun _ h9 => h9) rfl dX1_prepare_59 ?_
              refine lv_iload hx hb dX1_prepare_62 (lv_at hl 0 rfl) ?_
              refine lv_iconst (v := (nI 1)) hx hb dX1_prepare_64 rfl ?_
              obtain ⟨r12, e13, h⟩ := zz_b h
              refine zVi (As := [.int v4_12, .int (nI 1)]) (rest := []) (C := RX6) (wr := [(a_t, .inr (1, [.ref a_t_seconds, .ref a_t_pens, .ref a_t_minutes, .ref a_t_passers, .ref a_t_tried])), (a_t_pens, .inl (cI, 60, .inl (upd t_pens_l12 (v4_12).toNatClampNeg r7))), (a_t_seconds, .inl (cI, 720, .inl t_seconds_l12)), (a_p1, .inr (4, [.ref a_p1_way, .ref a_p1_guns, .ref a_p1_runners])), (a_p1_way, .inr (9, [.ref a_p1_way_places, .ref a_p1_way_bearings, .ref a_p1_way_cuts, .ref a_p1_way_deaths, .int p1_way_mats])), (a_p1_way_places, .inl (cI, 12, .inl p1_way_places))]) [6, 7] [0, 1, 2, 3, 4, 5] 0 ⟨hx, hb, hml, hown, hts⟩ (mX6_factOf l D cB cI cZ a_p1_runners a_p1_runners_facts a_p1_runners_splits a_p1_runners_torn a_p1_runners_dropped a_p1_runners_waved a_p1_runners_struck a_p1_runners_strikingOrder p1_runners_entered p1_runners_strikings p1_runners_facts H.size v4_12 (nI 1) r12 e13) (cwV 2 hts gX1_prepare_X6_factOf rfl rfl rfl (by decide +kernel) ⟨Nat.le_of_ble_eq_true rfl, Nat.le_of_ble_eq_true rfl⟩) hK hN hZ hP hD hS hA rfl rfl rfl rfl rfl rfl rfl rfl hl.1 rfl (lv_room (Nat.le_of_ble_eq_true rfl)) dX1_prepare_65 ⟨Nat.le_of_ble_eq_true rfl, Nat.le_of_ble_eq_true rfl⟩ (fun H locs hP hD hS => ?_)
              have hP : va_P D vwCl [(a_t, .inr (1, [.ref a_t_seconds, .ref a_t_pens, .ref a_t_minutes, .ref a_t_passers, .ref a_t_tried])), (a_t_pens, .inl (cI, 60, .inl (upd t_pens_l12 (v4_12).toNatClampNeg r7))), (a_t_seconds, .inl (cI, 720, .inl t_seconds_l12)), (a_p1, .inr (4, [.ref a_p1_way, .ref a_p1_guns, .ref a_p1_runners])), (a_p1_way, .inr (9, [.ref a_p1_way_places, .ref a_p1_way_bearings, .ref a_p1_way_cuts, .ref a_p1_way_deaths, .int p1_way_mats])), (a_p1_way_places, .inl (cI, 12, .inl p1_way_places)), (a_p1_runners, .inr (6, [.ref a_p1_runners_facts, .ref a_p1_runners_splits, .ref a_p1_runners_torn, .ref a_p1_runners_dropped, .ref a_p1_runners_waved, .ref a_p1_runners_struck, .ref a_p1_runners_strikingOrder, .int p1_runners_entered, .int p1_runners_strikings])), (a_p1_runners_facts, .inl (cI, 360, .inl p1_runners_facts))] H := hP
              have hD : va_D A [(a_t, .inr (1, [.ref a_t_seconds, .ref a_t_pens, .ref a_t_minutes, .ref a_t_passers, .ref a_t_tried])), (a_t_pens, .inl (cI, 60, .inl (upd t_pens_l12 (v4_12).toNatClampNeg r7))), (a_t_seconds, .inl (cI, 720, .inl t_seconds_l12)), (a_p1, .inr (4, [.ref a_p1_way, .ref a_p1_guns, .ref a_p1_runners])), (a_p1_way, .inr (9, [.ref a_p1_way_places, .ref a_p1_way_bearings, .ref a_p1_way_cuts, .ref a_p1_way_deaths, .int p1_way_mats])), (a_p1_way_places, .inl (cI, 12, .inl p1_way_places)), (a_p1_runners, .inr (6, [.ref a_p1_runners_facts, .ref a_p1_runners_splits, .ref a_p1_runners_torn, .ref a_p1_runners_dropped, .ref a_p1_runners_waved, .ref a_p1_runners_struck, .ref a_p1_runners_strikingOrder, .int p1_runners_entered, .int p1_runners_strikings])), (a_p1_runners_facts, .inl (cI, 360, .inl p1_runners_facts))] := hD
              refine lv_istore (lv' := [(5, .int r12), (4, .int v4_12), (3, .int r1), (0, .ref a_t), (1, .ref a_p1), (2, .int x2)]) hx hb dX1_prepare_68 hl (by decide) rfl (fun ls hl => ?_)
              refine lv_aload_n hx hb dX1_prepare_70 rfl (lv_at hl 3 rfl) ?_
              refine va_get (D := D) (ci := 1) (C := RX1) (T := TX1) (N := 5) hx hb hts qX1_prepare_X1 hown hK hP 0 rfl rfl 0 (by decide) (hts _ kX1_prepare_3) (fun _ h9 => h9) rfl dX1_prepare_71 ?_
              refine lv_iload hx hb dX1_prepare_74 (lv_at hl 1 rfl) ?_
              refine lv_bipush (v := (nI 12)) hx hb dX1_prepare_76 rfl ?_
              refine lv_imul hx hb dX1_prepare_78 ?_
              refine lv_iload_n hx hb dX1_prepare_79 rfl (lv_at hl 5 rfl) ?_
              refine lv_iadd hx hb dX1_prepare_80 ?_
              refine lv_iload_n hx hb dX1_prepare_81 rfl (lv_at hl 2 rfl) ?_
              refine lv_iload hx hb dX1_prepare_82 (lv_at hl 0 rfl) ?_
              obtain ⟨r14, e15, h⟩ := zz_b h
              refine zNi (As := [.int r1, .int r12]) (rest := [.int ((v4_12 * (nI 12)) + x2), .ref a_t_seconds]) (host := "RunDesk") (wr := [(a_t, .inr (1, [.ref a_t_seconds, .ref a_t_pens, .ref a_t_minutes, .ref a_t_passers, .ref a_t_tried])), (a_t_pens, .inl (cI, 60, .inl (upd t_pens_l12 (v4_12).toNatClampNeg r7))), (a_t_seconds, .inl (cI, 720, .inl t_seconds_l12)), (a_p1, .inr (4, [.ref a_p1_way, .ref a_p1_guns, .ref a_p1_runners])), (a_p1_way, .inr (9, [.ref a_p1_way_places, .ref a_p1_way_bearings, .ref a_p1_way_cuts, .ref a_p1_way_deaths, .int p1_way_mats])), (a_p1_way_places, .inl (cI, 12, .inl p1_way_places)), (a_p1_runners, .inr (6, [.ref a_p1_runners_facts, .ref a_p1_runners_splits, .ref a_p1_runners_torn, .ref a_p1_runners_dropped, .ref a_p1_runners_waved, .ref a_p1_runners_struck, .ref a_p1_runners_strikingOrder, .int p1_runners_entered, .int p1_runners_strikings])), (a_p1_runners_facts, .inl (cI, 360, .inl p1_runners_facts))]) [] [0, 1, 2, 3, 4, 5, 6, 7] ⟨hx, hb, hml, hown, hts⟩ (mX10_secondsCut l D cB cI cZ H.size r1 r12 r14 e15) ⟨va_cnB 2 hts gX1_prepare_X10_secondsCut_n60 rfl rfl rfl (hN _ (List.mem_of_getElem? (i := 31) rfl)) (hts _ kX1_prepare_4) (by decide +kernel) ⟨Nat.le_of_ble_eq_true rfl, Nat.le_of_ble_eq_true rfl⟩, (hts _ kX1_prepare_5), trivial⟩ hK hN hZ hP hD hS hA rfl rfl rfl rfl rfl rfl hl.1 rfl (lv_room (Nat.le_of_ble_eq_true rfl)) dX1_prepare_84 ⟨Nat.le_of_ble_eq_true rfl, Nat.le_of_ble_eq_true rfl⟩ (fun H locs hP hD hS => ?_)
              have hP : va_P D vwCl [(a_t, .inr (1, [.ref a_t_seconds, .ref a_t_pens, .ref a_t_minutes, .ref a_t_passers, .ref a_t_tried])), (a_t_pens, .inl (cI, 60, .inl (upd t_pens_l12 (v4_12).toNatClampNeg r7))), (a_t_seconds, .inl (cI, 720, .inl t_seconds_l12)), (a_p1, .inr (4, [.ref a_p1_way, .ref a_p1_guns, .ref a_p1_runners])), (a_p1_way, .inr (9, [.ref a_p1_way_places, .ref a_p1_way_bearings, .ref a_p1_way_cuts, .ref a_p1_way_deaths, .int p1_way_mats])), (a_p1_way_places, .inl (cI, 12, .inl p1_way_places)), (a_p1_runners, .inr (6, [.ref a_p1_runners_facts, .ref a_p1_runners_splits, .ref a_p1_runners_torn, .ref a_p1_runners_dropped, .ref a_p1_runners_waved, .ref a_p1_runners_struck, .ref a_p1_runners_strikingOrder, .int p1_runners_entered, .int p1_runners_strikings])), (a_p1_runners_facts, .inl (cI, 360, .inl p1_runners_facts))] H := hP
              have hD : va_D A [(a_t, .inr (1, [.ref a_t_seconds, .ref a_t_pens, .ref a_t_minutes, .ref a_t_passers, .ref a_t_tried])), (a_t_pens, .inl (cI, 60, .inl (upd t_pens_l12 (v4_12).toNatClampNeg r7))), (a_t_seconds, .inl (cI, 720, .inl t_seconds_l12)), (a_p1, .inr (4, [.ref a_p1_way, .ref a_p1_guns, .ref a_p1_runners])), (a_p1_way, .inr (9, [.ref a_p1_way_places, .ref a_p1_way_bearings, .ref a_p1_way_cuts, .ref a_p1_way_deaths, .int p1_way_mats])), (a_p1_way_places, .inl (cI, 12, .inl p1_way_places)), (a_p1_runners, .inr (6, [.ref a_p1_runners_facts, .ref a_p1_runners_splits, .ref a_p1_runners_torn, .ref a_p1_runners_dropped, .ref a_p1_runners_waved, .ref a_p1_runners_struck, .ref a_p1_runners_strikingOrder, .int p1_runners_entered, .int p1_runners_strikings])), (a_p1_runners_facts, .inl (cI, 360, .inl p1_runners_facts))] := hD
              obtain ⟨i16, h⟩ := zz_i h
              refine va_iast hx hb hK hP hD hS 2 1 rfl rfl i16 dX1_prepare_87 (fun H locs hP hD hS => ?_)
              have hP : va_P D vwCl [(a_t, .inr (1, [.ref a_t_seconds, .ref a_t_pens, .ref a_t_minutes, .ref a_t_passers, .ref a_t_tried])), (a_t_pens, .inl (cI, 60, .inl (upd t_pens_l12 (v4_12).toNatClampNeg r7))), (a_t_seconds, .inl (cI, 720, .inl (upd t_seconds_l12 (((v4_12 * (nI 12)) + x2)).toNatClampNeg r14))), (a_p1, .inr (4, [.ref a_p1_way, .ref a_p1_guns, .ref a_p1_runners])), (a_p1_way, .inr (9, [.ref a_p1_way_places, .ref a_p1_way_bearings, .ref a_p1_way_cuts, .ref a_p1_way_deaths, .int p1_way_mats])), (a_p1_way_places, .inl (cI, 12, .inl p1_way_places)), (a_p1_runners, .inr (6, [.ref a_p1_runners_facts, .ref a_p1_runners_splits, .ref a_p1_runners_torn, .ref a_p1_runners_dropped, .ref a_p1_runners_waved, .ref a_p1_runners_struck, .ref a_p1_runners_strikingOrder, .int p1_runners_entered, .int p1_runners_strikings])), (a_p1_runners_facts, .inl (cI, 360, .inl p1_runners_facts))] H := hP
              have hD : va_D A [(a_t, .inr (1, [.ref a_t_seconds, .ref a_t_pens, .ref a_t_minutes, .ref a_t_passers, .ref a_t_tried])), (a_t_pens, .inl (cI, 60, .inl (upd t_pens_l12 (v4_12).toNatClampNeg r7))), (a_t_seconds, .inl (cI, 720, .inl (upd t_seconds_l12 (((v4_12 * (nI 12)) + x2)).toNatClampNeg r14))), (a_p1, .inr (4, [.ref a_p1_way, .ref a_p1_guns, .ref a_p1_runners])), (a_p1_way, .inr (9, [.ref a_p1_way_places, .ref a_p1_way_bearings, .ref a_p1_way_cuts, .ref a_p1_way_deaths, .int p1_way_mats])), (a_p1_way_places, .inl (cI, 12, .inl p1_way_places)), (a_p1_runners, .inr (6, [.ref a_p1_runners_facts, .ref a_p1_runners_splits, .ref a_p1_runners_torn, .ref a_p1_runners_dropped, .ref a_p1_runners_waved, .ref a_p1_runners_struck, .ref a_p1_runners_strikingOrder, .int p1_runners_entered, .int p1_runners_strikings])), (a_p1_runners_facts, .inl (cI, 360, .inl p1_runners_facts))] := hD
              refine lv_iinc (v := (v4_12 + (nI 1))) (lv' := [(4, .int (v4_12 + (nI 1))), (5, .int r12), (3, .int r1), (0, .ref a_t), (1, .ref a_p1), (2, .int x2)]) hx hb dX1_prepare_88 hl (k := 1) rfl rfl (by decide) rfl (fun ls hl => ?_)
              refine lv_goto (tgt := 12) hx hb dX1_prepare_91 (by decide) ?_
              exact ih12 (v4_12 + (nI 1)) (upd t_pens_l12 (v4_12).toNatClampNeg r7) (upd t_seconds_l12 (((v4_12 * (nI 12)) + x2)).toNatClampNeg r14) _ _ _ h (hP.sub [0, 1, 2, 3, 6, 7, 4, 5] rfl) (hD.sub [0, 1, 2, 3, 6, 7, 4, 5] rfl rfl) hS (lv_sub hl [0, 2, 3, 4, 5] rfl)
  exact L12 N (nI 0) t_pens t_seconds _ _ _ h hP hD hS hl
/-! RunDesk$Way.bearingAt -/
theorem dX9_bearingAt_0 : decode cX9_bearingAt 0 = .ok (.aload_n 0, 1) := by decide +kernel
theorem dX9_bearingAt_1 : decode cX9_bearingAt 1 = .ok (.iload_n 1, 1) := by decide +kernel
theorem dX9_bearingAt_2 : decode cX9_bearingAt 2 = .ok (.invokevirtual 33, 3) := by decide +kernel
theorem dX9_bearingAt_5 : decode cX9_bearingAt 5 = .ok (.ifCond .eq 12, 3) := by decide +kernel
theorem dX9_bearingAt_8 : decode cX9_bearingAt 8 = .ok (.aload_n 0, 1) := by decide +kernel
theorem dX9_bearingAt_9 : decode cX9_bearingAt 9 = .ok (.getfield 15, 3) := by decide +kernel
theorem dX9_bearingAt_12 : decode cX9_bearingAt 12 = .ok (.iload_n 1, 1) := by decide +kernel
theorem dX9_bearingAt_13 : decode cX9_bearingAt 13 = .ok (.iaload, 1) := by decide +kernel
theorem dX9_bearingAt_14 : decode cX9_bearingAt 14 = .ok (.goto 4, 3) := by decide +kernel
theorem dX9_bearingAt_17 : decode cX9_bearingAt 17 = .ok (.iconst (-1), 1) := by decide +kernel
theorem dX9_bearingAt_18 : decode cX9_bearingAt 18 = .ok (.ireturn, 1) := by decide +kernel
set_option maxRecDepth 20000 in
theorem ggX9_bearingAt_X9_has : GoodIn wsX9_bearingAt wsX9_has := goodIn_sub (List.forall_mem_cons.mpr ⟨List.mem_cons_of_mem _ (List.mem_append_left _ (List.mem_of_getElem? (i := 5) rfl)), (List.forall_mem_append.mpr ⟨(List.forall_mem_cons.mpr ⟨List.mem_cons_of_mem _ (List.mem_append_left _ (List.mem_of_getElem? (i := 6) rfl)), (fun _ h => nomatch h)⟩), (fun _ h => List.mem_cons_of_mem _ (List.mem_append_right _ (h)))⟩)⟩) (by decide +kernel)
set_option maxRecDepth 20000 in
theorem gX9_bearingAt_X9_has : GoodIn wsX9_bearingAt (wsV RX9 33 RX9 yX9_has wsX9_has) := goodIn_app (goodIn_of _ (by decide +kernel)) ggX9_bearingAt_X9_has
theorem kX9_bearingAt_0 : (.fieldLink RX9 15 "RunDesk$Way" "bearings" "[I" : Cond) ∈ wsX9_bearingAt := List.mem_of_getElem? (i := 1) (by decide +kernel)
theorem qX9_bearingAt_X9 : ∀ w ∈ wsX90, w ∈ wsX9_bearingAt := fun _ h => List.mem_cons_of_mem _ (List.mem_append_right _ (h))
set_option maxHeartbeats 4000000 in
set_option maxRecDepth 100000 in
theorem mX9_bearingAt (l : Launch) (D : va_G) (cB cI cZ : ClassId) (a_t : Nat) (a_t_places : Nat) (a_t_bearings : Nat) (a_t_cuts : Nat) (a_t_deaths : Nat) (t_mats : Int32) (t_bearings : Nat → Int32) (sz : Nat) (x1 : Int32) (r0 : Int32) (h : fX9_bearingAt t_mats t_bearings x1 = some (r0)) : Met l yX9_bearingAt wsX9_bearingAt ({ frames := 1, cells := 0, slots := 0, locals := 21 } : Room) (va_Pc [.ref a_t, .int x1] (zPre D (zT cB cI cZ) [(a_t, .inr (9, [.ref a_t_places, .ref a_t_bearings, .ref a_t_cuts, .ref a_t_deaths, .int t_mats])), (a_t_bearings, .inl (cI, 12, .inl t_bearings))] sz)) (zQi r0 D (zT cB cI cZ) [(a_t, .inr (9, [.ref a_t_places, .ref a_t_bearings, .ref a_t_cuts, .ref a_t_deaths, .int t_mats])), (a_t_bearings, .inl (cI, 12, .inl t_bearings))] (va_A [(a_t, .inr (9, [.ref a_t_places, .ref a_t_bearings, .ref a_t_cuts, .ref a_t_deaths, .int t_mats])), (a_t_bearings, .inl (cI, 12, .inl t_bearings))] sz)) 0 0 (va_A [(a_t, .inr (9, [.ref a_t_places, .ref a_t_bearings, .ref a_t_cuts, .ref a_t_deaths, .int t_mats])), (a_t_bearings, .inl (cI, 12, .inl t_bearings))] sz) := by
  refine Met.ofW (cc := cX9_bearingAt) (maxL := 2) (ret := (some .int)) (by decide) rfl ?_
  intro p e s m args below meth c s₁ B hml hv
  obtain ⟨rfl, hsz, hP, hK, hN, hZ, hD0⟩ := hv
  have hx := B.exec
  have hb := B.bytes
  have hr := B.returns
  have hts := atoms_spec (ws := wsX9_bearingAt) B.pre
  have hown : s.vm.findClass RX9 = some m.cls := findClass_of_methodNamed B.named
  have hlocks := B.notSynchronized
  subst hsz
  have hD := hD0.self (sz := s.heap.size)
  generalize hAe : va_A [(a_t, .inr (9, [.ref a_t_places, .ref a_t_bearings, .ref a_t_cuts, .ref a_t_deaths, .int t_mats])), (a_t_bearings, .inl (cI, 12, .inl t_bearings))] s.heap.size = A at hD hZ ⊢
  have hA : ∀ q : Nat, s.heap.size ≤ q → A q := fun q h => by rw [← hAe]; exact Or.inr h
  have hS : va_S A s.heap s.heap [] := va_S.rf
  have hl := lv_entry ([.ref a_t, .int x1]) (n := 2) (Nat.le_of_ble_eq_true rfl)
  rw [lg_entry_eq]
  generalize (lg_sl ([.ref a_t, .int x1]) ++ List.replicate (2 - (lg_sl ([.ref a_t, .int x1])).length) Slot.unset).toArray = ls at hl ⊢
  have hl : lv_has ls 2 [(0, .ref a_t), (1, .int x1)] := hl
  unfold fX9_bearingAt at h
  refine lv_aload_n hx hb dX9_bearingAt_0 rfl (lv_at hl 0 rfl) ?_
  refine lv_iload_n hx hb dX9_bearingAt_1 rfl (lv_at hl 1 rfl) ?_
  obtain ⟨b1, e2, h⟩ := zz_b h
  refine zVi (As := [.int x1]) (rest := []) (C := RX9) (wr := [(a_t_bearings, .inl (cI, 12, .inl t_bearings))]) [0] [1] 0 ⟨hx, hb, hml, hown, hts⟩ (mX9_has l D cB cI cZ a_t a_t_places a_t_bearings a_t_cuts a_t_deaths t_mats s.heap.size x1 b1 e2) (cwV 1 hts gX9_bearingAt_X9_has rfl rfl rfl (by decide +kernel) ⟨Nat.le_of_ble_eq_true rfl, Nat.le_of_ble_eq_true rfl⟩) hK hN hZ hP hD hS hA rfl rfl rfl rfl rfl rfl rfl rfl hl.1 rfl (lv_room (Nat.le_of_ble_eq_true rfl)) dX9_bearingAt_2 ⟨Nat.le_of_ble_eq_true rfl, Nat.le_of_ble_eq_true rfl⟩ (fun H locs hP hD hS => ?_)
  have hP : va_P D vwCl [(a_t_bearings, .inl (cI, 12, .inl t_bearings)), (a_t, .inr (9, [.ref a_t_places, .ref a_t_bearings, .ref a_t_cuts, .ref a_t_deaths, .int t_mats]))] H := hP
  have hD : va_D A [(a_t_bearings, .inl (cI, 12, .inl t_bearings)), (a_t, .inr (9, [.ref a_t_places, .ref a_t_bearings, .ref a_t_cuts, .ref a_t_deaths, .int t_mats]))] := hD
  refine lv_if_eq (tgt := 17) hx hb dX9_bearingAt_5 (by decide) (fun c3 => ?_) (fun c3 => ?_)
  · have h := zz_t h c3
    refine lv_iconst (v := (-1 : Int32)) hx hb dX9_bearingAt_17 rfl ?_
    have j0_ := Option.some.inj h
    subst j0_
    exact W.iret (v := (-1 : Int32)) hx hb hr (fun t ht hW => ⟨⟨_, (), rfl, rfl, zPost.of hP hD hK ht hW [1, 0] rfl rfl rfl⟩, hS.F ht⟩) hS.2.2 dX9_bearingAt_18
  · have h := zz_f h c3
    refine lv_aload_n hx hb dX9_bearingAt_8 rfl (lv_at hl 0 rfl) ?_
    refine va_get (D := D) (ci := 9) (C := RX9) (T := TX9) (N := 5) hx hb hts qX9_bearingAt_X9 hown hK hP 1 rfl rfl 1 (by decide) (hts _ kX9_bearingAt_0) (fun _ h9 => h9) rfl dX9_bearingAt_9 ?_
    refine lv_iload_n hx hb dX9_bearingAt_12 rfl (lv_at hl 1 rfl) ?_
    obtain ⟨i4, h⟩ := zz_i h
    refine va_iald hx hb hK hP 0 1 rfl rfl i4 dX9_bearingAt_13 ?_
    refine lv_goto (tgt := 18) hx hb dX9_bearingAt_14 (by decide) ?_
    have j0_ := Option.some.inj h
    subst j0_
    exact W.iret (v := (t_bearings (x1).toNatClampNeg)) hx hb hr (fun t ht hW => ⟨⟨_, (), rfl, rfl, zPost.of hP hD hK ht hW [1, 0] rfl rfl rfl⟩, hS.F ht⟩) hS.2.2 dX9_bearingAt_18
/-! RunDesk$Foretelling.forgetPassers -/
theorem dX1_forgetPassers_0 : decode cX1_forgetPassers 0 = .ok (.iconst 0, 1) := by decide +kernel
theorem dX1_forgetPassers_1 : decode cX1_forgetPassers 1 = .ok (.istore_n 2, 1) := by decide +kernel
theorem dX1_forgetPassers_2 : decode cX1_forgetPassers 2 = .ok (.iload_n 2, 1) := by decide +kernel
theorem dX1_forgetPassers_3 : decode cX1_forgetPassers 3 = .ok (.iload_n 1, 1) := by decide +kernel
theorem dX1_forgetPassers_4 : decode cX1_forgetPassers 4 = .ok (.if_icmp .ge 40, 3) := by decide +kernel
theorem dX1_forgetPassers_7 : decode cX1_forgetPassers 7 = .ok (.iload_n 2, 1) := by decide +kernel
theorem dX1_forgetPassers_8 : decode cX1_forgetPassers 8 = .ok (.bipush 60, 2) := by decide +kernel
theorem dX1_forgetPassers_10 : decode cX1_forgetPassers 10 = .ok (.if_icmp .ge 34, 3) := by decide +kernel
theorem dX1_forgetPassers_13 : decode cX1_forgetPassers 13 = .ok (.aload_n 0, 1) := by decide +kernel
theorem dX1_forgetPassers_14 : decode cX1_forgetPassers 14 = .ok (.getfield 18, 3) := by decide +kernel
theorem dX1_forgetPassers_17 : decode cX1_forgetPassers 17 = .ok (.iload_n 2, 1) := by decide +kernel
theorem dX1_forgetPassers_18 : decode cX1_forgetPassers 18 = .ok (.iaload, 1) := by decide +kernel
theorem dX1_forgetPassers_19 : decode cX1_forgetPassers 19 = .ok (.istore_n 3, 1) := by decide +kernel
theorem dX1_forgetPassers_20 : decode cX1_forgetPassers 20 = .ok (.iload_n 3, 1) := by decide +kernel
theorem dX1_forgetPassers_21 : decode cX1_forgetPassers 21 = .ok (.ifCond .lt 17, 3) := by decide +kernel
theorem dX1_forgetPassers_24 : decode cX1_forgetPassers 24 = .ok (.iload_n 3, 1) := by decide +kernel
theorem dX1_forgetPassers_25 : decode cX1_forgetPassers 25 = .ok (.sipush 4001, 3) := by decide +kernel
theorem dX1_forgetPassers_28 : decode cX1_forgetPassers 28 = .ok (.if_icmp .ge 10, 3) := by decide +kernel
theorem dX1_forgetPassers_31 : decode cX1_forgetPassers 31 = .ok (.aload_n 0, 1) := by decide +kernel
theorem dX1_forgetPassers_32 : decode cX1_forgetPassers 32 = .ok (.getfield 21, 3) := by decide +kernel
theorem dX1_forgetPassers_35 : decode cX1_forgetPassers 35 = .ok (.iload_n 3, 1) := by decide +kernel
theorem dX1_forgetPassers_36 : decode cX1_forgetPassers 36 = .ok (.iconst 0, 1) := by decide +kernel
theorem dX1_forgetPassers_37 : decode cX1_forgetPassers 37 = .ok (.iastore, 1) := by decide +kernel
theorem dX1_forgetPassers_38 : decode cX1_forgetPassers 38 = .ok (.iinc 2 1, 3) := by decide +kernel
theorem dX1_forgetPassers_41 : decode cX1_forgetPassers 41 = .ok (.goto (-39), 3) := by decide +kernel
theorem dX1_forgetPassers_44 : decode cX1_forgetPassers 44 = .ok (.return_, 1) := by decide +kernel
theorem kX1_forgetPassers_0 : (.fieldLink RX1 18 "RunDesk$Foretelling" "minutes" "[I" : Cond) ∈ wsX1_forgetPassers := List.mem_of_getElem? (i := 1) (by decide +kernel)
theorem qX1_forgetPassers_X1 : ∀ w ∈ wsX10, w ∈ wsX1_forgetPassers := fun _ h => List.mem_cons_of_mem _ (List.mem_append_right _ (h))
theorem kX1_forgetPassers_2 : (.fieldLink RX1 21 "RunDesk$Foretelling" "passers" "[I" : Cond) ∈ wsX1_forgetPassers := List.mem_of_getElem? (i := 2) (by decide +kernel)
set_option maxHeartbeats 4000000 in
set_option maxRecDepth 100000 in
theorem mX1_forgetPassers (l : Launch) (D : va_G) (cB cI cZ : ClassId) (a_t : Nat) (a_t_seconds : Nat) (a_t_pens : Nat) (a_t_minutes : Nat) (a_t_passers : Nat) (a_t_tried : Nat) (t_minutes : Nat → Int32) (t_passers : Nat → Int32) (sz : Nat) (x1 : Int32) (N : Nat) (t_passers' : Nat → Int32) (h : fX1_forgetPassers N t_minutes t_passers x1 = some (t_passers')) : Met l yX1_forgetPassers wsX1_forgetPassers ({ frames := 0, cells := 0, slots := 0, locals := 0 } : Room) (va_Pc [.ref a_t, .int x1] (zPre D (zT cB cI cZ) [(a_t, .inr (1, [.ref a_t_seconds, .ref a_t_pens, .ref a_t_minutes, .ref a_t_passers, .ref a_t_tried])), (a_t_minutes, .inl (cI, 60, .inl t_minutes)), (a_t_passers, .inl (cI, 4001, .inl t_passers))] sz)) (zQv D (zT cB cI cZ) [(a_t, .inr (1, [.ref a_t_seconds, .ref a_t_pens, .ref a_t_minutes, .ref a_t_passers, .ref a_t_tried])), (a_t_minutes, .inl (cI, 60, .inl t_minutes)), (a_t_passers, .inl (cI, 4001, .inl t_passers'))] (va_A [(a_t, .inr (1, [.ref a_t_seconds, .ref a_t_pens, .ref a_t_minutes, .ref a_t_passers, .ref a_t_tried])), (a_t_minutes, .inl (cI, 60, .inl t_minutes)), (a_t_passers, .inl (cI, 4001, .inl t_passers))] sz)) 0 0 (va_A [(a_t, .inr (1, [.ref a_t_seconds, .ref a_t_pens, .ref a_t_minutes, .ref a_t_passers, .ref a_t_tried])), (a_t_minutes, .inl (cI, 60, .inl t_minutes)), (a_t_passers, .inl (cI, 4001, .inl t_passers))] sz) := by
  refine Met.ofW (cc := cX1_forgetPassers) (maxL := 4) (ret := none) (by decide) rfl ?_
  intro p e s m args below meth c s₁ B hml hv
  obtain ⟨rfl, hsz, hP, hK, hN, hZ, hD0⟩ := hv
  have hx := B.exec
  have hb := B.bytes
  have hr := B.returns
  have hts := atoms_spec (ws := wsX1_forgetPassers) B.pre
  have hown : s.vm.findClass RX1 = some m.cls := findClass_of_methodNamed B.named
  have hlocks := B.notSynchronized
  subst hsz
  have hD := hD0.self (sz := s.heap.size)
  generalize hAe : va_A [(a_t, .inr (1, [.ref a_t_seconds, .ref a_t_pens, .ref a_t_minutes, .ref a_t_passers, .ref a_t_tried])), (a_t_minutes, .inl (cI, 60, .inl t_minutes)), (a_t_passers, .inl (cI, 4001, .inl t_passers))] s.heap.size = A at hD hZ ⊢
  have hA : ∀ q : Nat, s.heap.size ≤ q → A q := fun q h => by rw [← hAe]; exact Or.inr h
  have hS : va_S A s.heap s.heap [] := va_S.rf
  have hl := lv_entry ([.ref a_t, .int x1]) (n := 4) (Nat.le_of_ble_eq_true rfl)
  rw [lg_entry_eq]
  generalize (lg_sl ([.ref a_t, .int x1]) ++ List.replicate (4 - (lg_sl ([.ref a_t, .int x1])).length) Slot.unset).toArray = ls at hl ⊢
  have hl : lv_has ls 4 [(0, .ref a_t), (1, .int x1)] := hl
  unfold fX1_forgetPassers at h
  refine lv_iconst (v := (nI 0)) hx hb dX1_forgetPassers_0 rfl ?_
  refine lv_istore_n (lv' := [(2, .int (nI 0)), (0, .ref a_t), (1, .int x1)]) hx hb dX1_forgetPassers_1 rfl hl (by decide) rfl (fun ls hl => ?_)
  have X2_44 : ∀ (v2_2 : Int32) (t_passers_l2 : Nat → Int32) (H : Heap) (locs : List Loc) (ls : Array Slot), some (t_passers_l2) = some (t_passers') → va_P D vwCl [(a_t, .inr (1, [.ref a_t_seconds, .ref a_t_pens, .ref a_t_minutes, .ref a_t_passers, .ref a_t_tried])), (a_t_minutes, .inl (cI, 60, .inl t_minutes)), (a_t_passers, .inl (cI, 4001, .inl t_passers_l2))] H → va_D A [(a_t, .inr (1, [.ref a_t_seconds, .ref a_t_pens, .ref a_t_minutes, .ref a_t_passers, .ref a_t_tried])), (a_t_minutes, .inl (cI, 60, .inl t_minutes)), (a_t_passers, .inl (cI, 4001, .inl t_passers_l2))] → va_S A s.heap H locs → lv_has ls 4 [(2, .int v2_2), (0, .ref a_t), (1, .int x1)] → W p l e (headSpec wsX1_forgetPassers ({ frames := 0, cells := 0, slots := 0, locals := 0 } : Room)).room s m #[Value.ref a_t, Value.int x1] below meth c H locs 0 0 (MQ below (zQv D (zT cB cI cZ) [(a_t, .inr (1, [.ref a_t_seconds, .ref a_t_pens, .ref a_t_minutes, .ref a_t_passers, .ref a_t_tried])), (a_t_minutes, .inl (cI, 60, .inl t_minutes)), (a_t_passers, .inl (cI, 4001, .inl t_passers'))] A) #[Value.ref a_t, Value.int x1] s 0 0 A) (F0 m 44 ls []) := by
    intro v2_2 t_passers_l2 H locs ls h hP hD hS hl
    have j0_ := Option.some.inj h
    subst j0_
    exact W.vret hx hb hr (fun t ht hW => ⟨⟨(), rfl, trivial, zPost.of hP hD hK ht hW [0, 1, 2] rfl rfl rfl⟩, hS.F ht⟩) hS.2.2 dX1_forgetPassers_44
  have L2 : ∀ (n : Nat) (v2_2 : Int32) (t_passers_l2 : Nat → Int32) (H : Heap) (locs : List Loc) (ls : Array Slot), fX1_forgetPassers_L2 t_minutes x1 (fun (v2_2 : Int32) (t_passers_l2 : Nat → Int32) => some (t_passers_l2)) n v2_2 t_passers_l2 = some (t_passers') → va_P D vwCl [(a_t, .inr (1, [.ref a_t_seconds, .ref a_t_pens, .ref a_t_minutes, .ref a_t_passers, .ref a_t_tried])), (a_t_minutes, .inl (cI, 60, .inl t_minutes)), (a_t_passers, .inl (cI, 4001, .inl t_passers_l2))] H → va_D A [(a_t, .inr (1, [.ref a_t_seconds, .ref a_t_pens, .ref a_t_minutes, .ref a_t_passers, .ref a_t_tried])), (a_t_minutes, .inl (cI, 60, .inl t_minutes)), (a_t_passers, .inl (cI, 4001, .inl t_passers_l2))] → va_S A s.heap H locs → lv_has ls 4 [(2, .int v2_2), (0, .ref a_t), (1, .int x1)] → W p l e (headSpec wsX1_forgetPassers ({ frames := 0, cells := 0, slots := 0, locals := 0 } : Room)).room s m #[Value.ref a_t, Value.int x1] below meth c H locs 0 0 (MQ below (zQv D (zT cB cI cZ) [(a_t, .inr (1, [.ref a_t_seconds, .ref a_t_pens, .ref a_t_minutes, .ref a_t_passers, .ref a_t_tried])), (a_t_minutes, .inl (cI, 60, .inl t_minutes)), (a_t_passers, .inl (cI, 4001, .inl t_passers'))] A) #[Value.ref a_t, Value.int x1] s 0 0 A) (F0 m 2 ls []) := by
    intro n
    induction n with
    | zero => intro _ _ H locs ls h hP hD hS hl; cases h
    | succ n2 ih2 =>
      intro v2_2 t_passers_l2 H locs ls h hP hD hS hl
      rw [fX1_forgetPassers_L2.eq_2] at h
      refine lv_iload_n hx hb dX1_forgetPassers_2 rfl (lv_at hl 0 rfl) ?_
      refine lv_iload_n hx hb dX1_forgetPassers_3 rfl (lv_at hl 2 rfl) ?_
      refine lv_icmp_ge (tgt := 44) hx hb dX1_forgetPassers_4 (by decide) (fun c1 => ?_) (fun c1 => ?_)
      · have h := zz_t h c1
        exact X2_44 v2_2 t_passers_l2 _ _ _ h (hP.sub [0, 1, 2] rfl) (hD.sub [0, 1, 2] rfl rfl) hS (lv_sub hl [0, 1, 2] rfl)
      · have h := zz_f h c1
        refine lv_iload_n hx hb dX1_forgetPassers_7 rfl (lv_at hl 0 rfl) ?_
        refine lv_bipush (v := (nI 60)) hx hb dX1_forgetPassers_8 rfl ?_
        refine lv_icmp_ge (tgt := 44) hx hb dX1_forgetPassers_10 (by decide) (fun c2 => ?_) (fun c2 => ?_)
        · have h := zz_t h c2
          exact X2_44 v2_2 t_passers_l2 _ _ _ h (hP.sub [0, 1, 2] rfl) (hD.sub [0, 1, 2] rfl rfl) hS (lv_sub hl [0, 1, 2] rfl)
        · have h := zz_f h c2
          refine lv_aload_n hx hb dX1_forgetPassers_13 rfl (lv_at hl 1 rfl) ?_
          refine va_get (D := D) (ci := 1) (C := RX1) (T := TX1) (N := 5) hx hb hts qX1_forgetPassers_X1 hown hK hP 0 rfl rfl 2 (by decide) (hts _ kX1_forgetPassers_0) (fun _ h9 => h9) rfl dX1_forgetPassers_14 ?_
          refine lv_iload_n hx hb dX1_forgetPassers_17 rfl (lv_at hl 0 rfl) ?_
          obtain ⟨i3, h⟩ := zz_i h
          refine va_iald hx hb hK hP 1 1 rfl rfl i3 dX1_forgetPassers_18 ?_
          refine lv_istore_n (lv' := [(3, .int (t_minutes (v2_2).toNatClampNeg)), (2, .int v2_2), (0, .ref a_t), (1, .int x1)]) hx hb dX1_forgetPassers_19 rfl hl (by decide) rfl (fun ls hl => ?_)
          refine lv_iload_n hx hb dX1_forgetPassers_20 rfl (lv_at hl 0 rfl) ?_
          refine lv_if_lt (tgt := 38) hx hb dX1_forgetPassers_21 (by decide) (fun c4 => ?_) (fun c4 => ?_)
          · have h := zz_t h c4
            refine lv_iinc (v := (v2_2 + (nI 1))) (lv' := [(2, .int (v2_2 + (nI 1))), (3, .int (t_minutes (v2_2).toNatClampNeg)), (0, .ref a_t), (1, .int x1)]) hx hb dX1_forgetPassers_38 hl (k := 1) rfl rfl (by decide) rfl (fun ls hl => ?_)
            refine lv_goto (tgt := 2) hx hb dX1_forgetPassers_41 (by decide) ?_
            exact ih2 (v2_2 + (nI 1)) t_passers_l2 _ _ _ h (hP.sub [0, 1, 2] rfl) (hD.sub [0, 1, 2] rfl rfl) hS (lv_sub hl [0, 2, 3] rfl)
          · have h := zz_f h c4
            refine lv_iload_n hx hb dX1_forgetPassers_24 rfl (lv_at hl 0 rfl) ?_
            refine lv_sipush (v := (nI 4001)) hx hb dX1_forgetPassers_25 rfl ?_
            refine lv_icmp_ge (tgt := 38) hx hb dX1_forgetPassers_28 (by decide) (fun c5 => ?_) (fun c5 => ?_)
            · have h := zz_t h c5
              refine lv_iinc (v := (v2_2 + (nI 1))) (lv' := [(2, .int (v2_2 + (nI 1))), (3, .int (t_minutes (v2_2).toNatClampNeg)), (0, .ref a_t), (1, .int x1)]) hx hb dX1_forgetPassers_38 hl (k := 1) rfl rfl (by decide) rfl (fun ls hl => ?_)
              refine lv_goto (tgt := 2) hx hb dX1_forgetPassers_41 (by decide) ?_
              exact ih2 (v2_2 + (nI 1)) t_passers_l2 _ _ _ h (hP.sub [0, 1, 2] rfl) (hD.sub [0, 1, 2] rfl rfl) hS (lv_sub hl [0, 2, 3] rfl)
            · have h := zz_f h c5
              refine lv_aload_n hx hb dX1_forgetPassers_31 rfl (lv_at hl 2 rfl) ?_
              refine va_get (D := D) (ci := 1) (C := RX1) (T := TX1) (N := 5) hx hb hts qX1_forgetPassers_X1 hown hK hP 0 rfl rfl 3 (by decide) (hts _ kX1_forgetPassers_2) (fun _ h9 => h9) rfl dX1_forgetPassers_32 ?_
              refine lv_iload_n hx hb dX1_forgetPassers_35 rfl (lv_at hl 0 rfl) ?_
              refine lv_iconst (v := (nI 0)) hx hb dX1_forgetPassers_36 rfl ?_
              obtain ⟨i6, h⟩ := zz_i h
              refine va_iast hx hb hK hP hD hS 2 1 rfl rfl i6 dX1_forgetPassers_37 (fun H locs hP hD hS => ?_)
              have hP : va_P D vwCl [(a_t, .inr (1, [.ref a_t_seconds, .ref a_t_pens, .ref a_t_minutes, .ref a_t_passers, .ref a_t_tried])), (a_t_minutes, .inl (cI, 60, .inl t_minutes)), (a_t_passers, .inl (cI, 4001, .inl (upd t_passers_l2 ((t_minutes (v2_2).toNatClampNeg)).toNatClampNeg (nI 0))))] H := hP
              have hD : va_D A [(a_t, .inr (1, [.ref a_t_seconds, .ref a_t_pens, .ref a_t_minutes, .ref a_t_passers, .ref a_t_tried])), (a_t_minutes, .inl (cI, 60, .inl t_minutes)), (a_t_passers, .inl (cI, 4001, .inl (upd t_passers_l2 ((t_minutes (v2_2).toNatClampNeg)).toNatClampNeg (nI 0))))] := hD
              refine lv_iinc (v := (v2_2 + (nI 1))) (lv' := [(2, .int (v2_2 + (nI 1))), (3, .int (t_minutes (v2_2).toNatClampNeg)), (0, .ref a_t), (1, .int x1)]) hx hb dX1_forgetPassers_38 hl (k := 1) rfl rfl (by decide) rfl (fun ls hl => ?_)
              refine lv_goto (tgt := 2) hx hb dX1_forgetPassers_41 (by decide) ?_
              exact ih2 (v2_2 + (nI 1)) (upd t_passers_l2 ((t_minutes (v2_2).toNatClampNeg)).toNatClampNeg (nI 0)) _ _ _ h (hP.sub [0, 1, 2] rfl) (hD.sub [0, 1, 2] rfl rfl) hS (lv_sub hl [0, 2, 3] rfl)
  exact L2 N (nI 0) t_passers _ _ _ h hP hD hS hl
/-! RunDesk$Foretelling.firstTight -/
theorem dX1_firstTight_0 : decode cX1_firstTight 0 = .ok (.aload_n 1, 1) := by decide +kernel
theorem dX1_firstTight_1 : decode cX1_firstTight 1 = .ok (.getfield 31, 3) := by decide +kernel
theorem dX1_firstTight_4 : decode cX1_firstTight 4 = .ok (.iload_n 3, 1) := by decide +kernel
theorem dX1_firstTight_5 : decode cX1_firstTight 5 = .ok (.invokevirtual 74, 3) := by decide +kernel
theorem dX1_firstTight_8 : decode cX1_firstTight 8 = .ok (.istore 4, 2) := by decide +kernel
theorem dX1_firstTight_10 : decode cX1_firstTight 10 = .ok (.aload_n 1, 1) := by decide +kernel
theorem dX1_firstTight_11 : decode cX1_firstTight 11 = .ok (.getfield 43, 3) := by decide +kernel
theorem dX1_firstTight_14 : decode cX1_firstTight 14 = .ok (.invokevirtual 47, 3) := by decide +kernel
theorem dX1_firstTight_17 : decode cX1_firstTight 17 = .ok (.istore 5, 2) := by decide +kernel
theorem dX1_firstTight_19 : decode cX1_firstTight 19 = .ok (.iload_n 3, 1) := by decide +kernel
theorem dX1_firstTight_20 : decode cX1_firstTight 20 = .ok (.ifCond .lt 16, 3) := by decide +kernel
theorem dX1_firstTight_23 : decode cX1_firstTight 23 = .ok (.iload_n 3, 1) := by decide +kernel
theorem dX1_firstTight_24 : decode cX1_firstTight 24 = .ok (.bipush 12, 2) := by decide +kernel
theorem dX1_firstTight_26 : decode cX1_firstTight 26 = .ok (.if_icmp .ge 10, 3) := by decide +kernel
theorem dX1_firstTight_29 : decode cX1_firstTight 29 = .ok (.iload 5, 2) := by decide +kernel
theorem dX1_firstTight_31 : decode cX1_firstTight 31 = .ok (.iload 4, 2) := by decide +kernel
theorem dX1_firstTight_33 : decode cX1_firstTight 33 = .ok (.if_icmp .gt 5, 3) := by decide +kernel
theorem dX1_firstTight_36 : decode cX1_firstTight 36 = .ok (.iconst (-1), 1) := by decide +kernel
theorem dX1_firstTight_37 : decode cX1_firstTight 37 = .ok (.ireturn, 1) := by decide +kernel
theorem dX1_firstTight_38 : decode cX1_firstTight 38 = .ok (.iconst (-1), 1) := by decide +kernel
theorem dX1_firstTight_39 : decode cX1_firstTight 39 = .ok (.istore 6, 2) := by decide +kernel
theorem dX1_firstTight_41 : decode cX1_firstTight 41 = .ok (.iconst 0, 1) := by decide +kernel
theorem dX1_firstTight_42 : decode cX1_firstTight 42 = .ok (.istore 7, 2) := by decide +kernel
theorem dX1_firstTight_44 : decode cX1_firstTight 44 = .ok (.iload 7, 2) := by decide +kernel
theorem dX1_firstTight_46 : decode cX1_firstTight 46 = .ok (.iload 5, 2) := by decide +kernel
theorem dX1_firstTight_48 : decode cX1_firstTight 48 = .ok (.if_icmp .ge 138, 3) := by decide +kernel
theorem dX1_firstTight_51 : decode cX1_firstTight 51 = .ok (.iload 7, 2) := by decide +kernel
theorem dX1_firstTight_53 : decode cX1_firstTight 53 = .ok (.bipush 60, 2) := by decide +kernel
theorem dX1_firstTight_55 : decode cX1_firstTight 55 = .ok (.if_icmp .ge 131, 3) := by decide +kernel
theorem dX1_firstTight_58 : decode cX1_firstTight 58 = .ok (.aload_n 2, 1) := by decide +kernel
theorem dX1_firstTight_59 : decode cX1_firstTight 59 = .ok (.aload_n 0, 1) := by decide +kernel
theorem dX1_firstTight_60 : decode cX1_firstTight 60 = .ok (.getfield 15, 3) := by decide +kernel
theorem dX1_firstTight_63 : decode cX1_firstTight 63 = .ok (.iload 7, 2) := by decide +kernel
theorem dX1_firstTight_65 : decode cX1_firstTight 65 = .ok (.iaload, 1) := by decide +kernel
theorem dX1_firstTight_66 : decode cX1_firstTight 66 = .ok (.invokevirtual 77, 3) := by decide +kernel
theorem dX1_firstTight_69 : decode cX1_firstTight 69 = .ok (.istore 8, 2) := by decide +kernel
theorem dX1_firstTight_71 : decode cX1_firstTight 71 = .ok (.iload 8, 2) := by decide +kernel
theorem dX1_firstTight_73 : decode cX1_firstTight 73 = .ok (.iconst (-1), 1) := by decide +kernel
theorem dX1_firstTight_74 : decode cX1_firstTight 74 = .ok (.if_icmp .ne 7, 3) := by decide +kernel
theorem dX1_firstTight_77 : decode cX1_firstTight 77 = .ok (.iconst (-1), 1) := by decide +kernel
theorem dX1_firstTight_78 : decode cX1_firstTight 78 = .ok (.goto 21, 3) := by decide +kernel
theorem dX1_firstTight_81 : decode cX1_firstTight 81 = .ok (.iload 8, 2) := by decide +kernel
theorem dX1_firstTight_83 : decode cX1_firstTight 83 = .ok (.aload_n 0, 1) := by decide +kernel
theorem dX1_firstTight_84 : decode cX1_firstTight 84 = .ok (.getfield 9, 3) := by decide +kernel
theorem dX1_firstTight_87 : decode cX1_firstTight 87 = .ok (.iload 7, 2) := by decide +kernel
theorem dX1_firstTight_89 : decode cX1_firstTight 89 = .ok (.bipush 12, 2) := by decide +kernel
theorem dX1_firstTight_91 : decode cX1_firstTight 91 = .ok (.imul, 1) := by decide +kernel
theorem dX1_firstTight_92 : decode cX1_firstTight 92 = .ok (.iload_n 3, 1) := by decide +kernel
theorem dX1_firstTight_93 : decode cX1_firstTight 93 = .ok (.iadd, 1) := by decide +kernel
theorem dX1_firstTight_94 : decode cX1_firstTight 94 = .ok (.iaload, 1) := by decide +kernel
theorem dX1_firstTight_95 : decode cX1_firstTight 95 = .ok (.iadd, 1) := by decide +kernel
theorem dX1_firstTight_96 : decode cX1_firstTight 96 = .ok (.bipush 60, 2) := by decide +kernel
theorem dX1_firstTight_98 : decode cX1_firstTight 98 = .ok (.idiv, 1) := by decide +kernel
theorem dX1_firstTight_99 : decode cX1_firstTight 99 = .ok (.istore 9, 2) := by decide +kernel
theorem dX1_firstTight_101 : decode cX1_firstTight 101 = .ok (.aload_n 0, 1) := by decide +kernel
theorem dX1_firstTight_102 : decode cX1_firstTight 102 = .ok (.getfield 18, 3) := by decide +kernel
theorem dX1_firstTight_105 : decode cX1_firstTight 105 = .ok (.iload 7, 2) := by decide +kernel
theorem dX1_firstTight_107 : decode cX1_firstTight 107 = .ok (.iload 9, 2) := by decide +kernel
theorem dX1_firstTight_109 : decode cX1_firstTight 109 = .ok (.iastore, 1) := by decide +kernel
theorem dX1_firstTight_110 : decode cX1_firstTight 110 = .ok (.iload 9, 2) := by decide +kernel
theorem dX1_firstTight_112 : decode cX1_firstTight 112 = .ok (.ifCond .lt 68, 3) := by decide +kernel
theorem dX1_firstTight_115 : decode cX1_firstTight 115 = .ok (.iload 9, 2) := by decide +kernel
theorem dX1_firstTight_117 : decode cX1_firstTight 117 = .ok (.sipush 4001, 3) := by decide +kernel
theorem dX1_firstTight_120 : decode cX1_firstTight 120 = .ok (.if_icmp .ge 60, 3) := by decide +kernel
theorem dX1_firstTight_123 : decode cX1_firstTight 123 = .ok (.aload_n 0, 1) := by decide +kernel
theorem dX1_firstTight_124 : decode cX1_firstTight 124 = .ok (.getfield 21, 3) := by decide +kernel
theorem dX1_firstTight_127 : decode cX1_firstTight 127 = .ok (.iload 9, 2) := by decide +kernel
theorem dX1_firstTight_129 : decode cX1_firstTight 129 = .ok (.dup2, 1) := by decide +kernel
theorem dX1_firstTight_130 : decode cX1_firstTight 130 = .ok (.iaload, 1) := by decide +kernel
theorem dX1_firstTight_131 : decode cX1_firstTight 131 = .ok (.iconst 1, 1) := by decide +kernel
theorem dX1_firstTight_132 : decode cX1_firstTight 132 = .ok (.iadd, 1) := by decide +kernel
theorem dX1_firstTight_133 : decode cX1_firstTight 133 = .ok (.iastore, 1) := by decide +kernel
theorem dX1_firstTight_134 : decode cX1_firstTight 134 = .ok (.aload_n 0, 1) := by decide +kernel
theorem dX1_firstTight_135 : decode cX1_firstTight 135 = .ok (.getfield 21, 3) := by decide +kernel
theorem dX1_firstTight_138 : decode cX1_firstTight 138 = .ok (.iload 9, 2) := by decide +kernel
theorem dX1_firstTight_140 : decode cX1_firstTight 140 = .ok (.iaload, 1) := by decide +kernel
theorem dX1_firstTight_141 : decode cX1_firstTight 141 = .ok (.iload 4, 2) := by decide +kernel
theorem dX1_firstTight_143 : decode cX1_firstTight 143 = .ok (.if_icmp .le 7, 3) := by decide +kernel
theorem dX1_firstTight_146 : decode cX1_firstTight 146 = .ok (.iconst 1, 1) := by decide +kernel
theorem dX1_firstTight_147 : decode cX1_firstTight 147 = .ok (.goto 4, 3) := by decide +kernel
theorem dX1_firstTight_150 : decode cX1_firstTight 150 = .ok (.iconst 0, 1) := by decide +kernel
theorem dX1_firstTight_151 : decode cX1_firstTight 151 = .ok (.istore 10, 2) := by decide +kernel
theorem dX1_firstTight_153 : decode cX1_firstTight 153 = .ok (.iload 10, 2) := by decide +kernel
theorem dX1_firstTight_155 : decode cX1_firstTight 155 = .ok (.ifCond .eq 21, 3) := by decide +kernel
theorem dX1_firstTight_158 : decode cX1_firstTight 158 = .ok (.iload 6, 2) := by decide +kernel
theorem dX1_firstTight_160 : decode cX1_firstTight 160 = .ok (.iconst (-1), 1) := by decide +kernel
theorem dX1_firstTight_161 : decode cX1_firstTight 161 = .ok (.if_icmp .eq 10, 3) := by decide +kernel
theorem dX1_firstTight_164 : decode cX1_firstTight 164 = .ok (.iload 9, 2) := by decide +kernel
theorem dX1_firstTight_166 : decode cX1_firstTight 166 = .ok (.iload 6, 2) := by decide +kernel
theorem dX1_firstTight_168 : decode cX1_firstTight 168 = .ok (.if_icmp .ge 8, 3) := by decide +kernel
theorem dX1_firstTight_171 : decode cX1_firstTight 171 = .ok (.iload 9, 2) := by decide +kernel
theorem dX1_firstTight_173 : decode cX1_firstTight 173 = .ok (.goto 5, 3) := by decide +kernel
theorem dX1_firstTight_176 : decode cX1_firstTight 176 = .ok (.iload 6, 2) := by decide +kernel
theorem dX1_firstTight_178 : decode cX1_firstTight 178 = .ok (.istore 6, 2) := by decide +kernel
theorem dX1_firstTight_180 : decode cX1_firstTight 180 = .ok (.iinc 7 1, 3) := by decide +kernel
theorem dX1_firstTight_183 : decode cX1_firstTight 183 = .ok (.goto (-139), 3) := by decide +kernel
theorem dX1_firstTight_186 : decode cX1_firstTight 186 = .ok (.aload_n 0, 1) := by decide +kernel
theorem dX1_firstTight_187 : decode cX1_firstTight 187 = .ok (.iload 5, 2) := by decide +kernel
theorem dX1_firstTight_189 : decode cX1_firstTight 189 = .ok (.invokevirtual 80, 3) := by decide +kernel
theorem dX1_firstTight_192 : decode cX1_firstTight 192 = .ok (.iload 6, 2) := by decide +kernel
theorem dX1_firstTight_194 : decode cX1_firstTight 194 = .ok (.ireturn, 1) := by decide +kernel
set_option maxRecDepth 20000 in
theorem ggX1_firstTight_X9_bearingAt : GoodIn wsX1_firstTight wsX9_bearingAt := goodIn_sub (List.forall_mem_cons.mpr ⟨List.mem_cons_of_mem _ (List.mem_append_left _ (List.mem_append_left _ (List.mem_append_left _ (List.mem_append_left _ (List.mem_append_left _ (List.mem_append_left _ (List.mem_of_getElem? (l := wsX1_firstTight_r1) (i := 8) rfl))))))), (List.forall_mem_append.mpr ⟨(List.forall_mem_cons.mpr ⟨List.mem_cons_of_mem _ (List.mem_append_left _ (List.mem_append_left _ (List.mem_append_left _ (List.mem_append_left _ (List.mem_append_left _ (List.mem_append_left _ (List.mem_of_getElem? (l := wsX1_firstTight_r1) (i := 9) rfl))))))), (List.forall_mem_cons.mpr ⟨List.mem_cons_of_mem _ (List.mem_append_left _ (List.mem_append_left _ (List.mem_append_left _ (List.mem_append_left _ (List.mem_append_left _ (List.mem_append_left _ (List.mem_of_getElem? (l := wsX1_firstTight_r1) (i := 10) rfl))))))), (List.forall_mem_cons.mpr ⟨List.mem_cons_of_mem _ (List.mem_append_left _ (List.mem_append_left _ (List.mem_append_left _ (List.mem_append_left _ (List.mem_append_left _ (List.mem_append_left _ (List.mem_of_getElem? (l := wsX1_firstTight_r1) (i := 11) rfl))))))), (List.forall_mem_cons.mpr ⟨List.mem_cons_of_mem _ (List.mem_append_left _ (List.mem_append_left _ (List.mem_append_left _ (List.mem_append_left _ (List.mem_append_left _ (List.mem_append_left _ (List.mem_of_getElem? (l := wsX1_firstTight_r1) (i := 12) rfl))))))), (List.forall_mem_cons.mpr ⟨List.mem_cons_of_mem _ (List.mem_append_left _ (List.mem_append_left _ (List.mem_append_left _ (List.mem_append_left _ (List.mem_append_left _ (List.mem_append_left _ (List.mem_of_getElem? (l := wsX1_firstTight_r1) (i := 7) rfl))))))), (List.forall_mem_cons.mpr ⟨List.mem_cons_of_mem _ (List.mem_append_left _ (List.mem_append_left _ (List.mem_append_left _ (List.mem_append_left _ (List.mem_append_left _ (List.mem_append_left _ (List.mem_of_getElem? (l := wsX1_firstTight_r1) (i := 13) rfl))))))), (List.forall_mem_cons.mpr ⟨List.mem_cons_of_mem _ (List.mem_append_left _ (List.mem_append_left _ (List.mem_append_left _ (List.mem_append_left _ (List.mem_append_left _ (List.mem_append_left _ (List.mem_of_getElem? (l := wsX1_firstTight_r1) (i := 14) rfl))))))), (fun _ h => nomatch h)⟩)⟩)⟩)⟩)⟩)⟩)⟩), (fun _ h => List.mem_cons_of_mem _ (List.mem_append_left _ (List.mem_append_left _ (List.mem_append_right _ (h)))))⟩)⟩) (by decide +kernel)
set_option maxRecDepth 20000 in
theorem gX1_firstTight_X9_bearingAt : GoodIn wsX1_firstTight (wsV RX1 74 RX9 yX9_bearingAt wsX9_bearingAt) := goodIn_app (goodIn_of _ (by decide +kernel)) ggX1_firstTight_X9_bearingAt
set_option maxRecDepth 20000 in
theorem ggX1_firstTight_X6_size : GoodIn wsX1_firstTight wsX6_size := goodIn_sub (List.forall_mem_cons.mpr ⟨List.mem_cons_of_mem _ (List.mem_append_left _ (List.mem_append_left _ (List.mem_append_left _ (List.mem_append_left _ (List.mem_append_left _ (List.mem_append_left _ (List.mem_of_getElem? (l := wsX1_firstTight_r1) (i := 19) rfl))))))), (List.forall_mem_append.mpr ⟨(List.forall_mem_cons.mpr ⟨List.mem_cons_of_mem _ (List.mem_append_left _ (List.mem_append_left _ (List.mem_append_left _ (List.mem_append_left _ (List.mem_append_left _ (List.mem_append_left _ (List.mem_of_getElem? (l := wsX1_firstTight_r1) (i := 20) rfl))))))), (fun _ h => nomatch h)⟩), (fun _ h => List.mem_cons_of_mem _ (List.mem_append_left _ (List.mem_append_right _ (h))))⟩)⟩) (by decide +kernel)
set_option maxRecDepth 20000 in
theorem gX1_firstTight_X6_size : GoodIn wsX1_firstTight (wsV RX1 47 RX6 yX6_size wsX6_size) := goodIn_app (goodIn_of _ (by decide +kernel)) ggX1_firstTight_X6_size
set_option maxRecDepth 20000 in
theorem ggX1_firstTight_X2_tickOf : GoodIn wsX1_firstTight wsX2_tickOf := goodIn_sub (List.forall_mem_cons.mpr ⟨List.mem_cons_of_mem _ (List.mem_append_left _ (List.mem_append_left _ (List.mem_append_left _ (List.mem_append_left _ (List.mem_append_left _ (List.mem_append_right _ (List.mem_of_getElem? (l := wsX1_firstTight_r2) (i := 1) rfl))))))), (List.forall_mem_append.mpr ⟨(List.forall_mem_cons.mpr ⟨List.mem_cons_of_mem _ (List.mem_append_left _ (List.mem_append_left _ (List.mem_append_left _ (List.mem_append_left _ (List.mem_append_left _ (List.mem_append_right _ (List.mem_of_getElem? (l := wsX1_firstTight_r2) (i := 2) rfl))))))), (fun _ h => nomatch h)⟩), (fun _ h => List.mem_cons_of_mem _ (List.mem_append_right _ (h)))⟩)⟩) (by decide +kernel)
set_option maxRecDepth 20000 in
theorem gX1_firstTight_X2_tickOf : GoodIn wsX1_firstTight (wsV RX1 77 RX2 yX2_tickOf wsX2_tickOf) := goodIn_app (goodIn_of _ (by decide +kernel)) ggX1_firstTight_X2_tickOf
set_option maxRecDepth 20000 in
theorem ggX1_firstTight_X1_forgetPassers : GoodIn wsX1_firstTight wsX1_forgetPassers := goodIn_sub (List.forall_mem_cons.mpr ⟨List.mem_cons_of_mem _ (List.mem_append_left _ (List.mem_append_left _ (List.mem_append_left _ (List.mem_append_left _ (List.mem_append_left _ (List.mem_append_right _ (List.mem_of_getElem? (l := wsX1_firstTight_r2) (i := 7) rfl))))))), (List.forall_mem_append.mpr ⟨(List.forall_mem_cons.mpr ⟨List.mem_cons_of_mem _ (List.mem_append_left _ (List.mem_append_left _ (List.mem_append_left _ (List.mem_append_left _ (List.mem_append_left _ (List.mem_append_left _ (List.mem_of_getElem? (l := wsX1_firstTight_r1) (i := 2) rfl))))))), (List.forall_mem_cons.mpr ⟨List.mem_cons_of_mem _ (List.mem_append_left _ (List.mem_append_left _ (List.mem_append_left _ (List.mem_append_left _ (List.mem_append_left _ (List.mem_append_left _ (List.mem_of_getElem? (l := wsX1_firstTight_r1) (i := 3) rfl))))))), (fun _ h => nomatch h)⟩)⟩), (fun _ h => List.mem_cons_of_mem _ (List.mem_append_left _ (List.mem_append_left _ (List.mem_append_left _ (List.mem_append_right _ (h))))))⟩)⟩) (by decide +kernel)
set_option maxRecDepth 20000 in
theorem gX1_firstTight_X1_forgetPassers : GoodIn wsX1_firstTight (wsV RX1 80 RX1 yX1_forgetPassers wsX1_forgetPassers) := goodIn_app (goodIn_of _ (by decide +kernel)) ggX1_firstTight_X1_forgetPassers
theorem qX1_firstTight_X4 : ∀ w ∈ wsX40, w ∈ wsX1_firstTight := fun _ h => List.mem_cons_of_mem _ (List.mem_append_left _ (List.mem_append_left _ (List.mem_append_left _ (List.mem_append_left _ (List.mem_append_right _ (h))))))
theorem kX1_firstTight_1 : (.fieldLink RX1 15 "RunDesk$Foretelling" "pens" "[I" : Cond) ∈ wsX1_firstTight := List.mem_of_getElem? (i := 1) (by decide +kernel)
theorem qX1_firstTight_X1 : ∀ w ∈ wsX10, w ∈ wsX1_firstTight := fun _ h => List.mem_cons_of_mem _ (List.mem_append_left _ (List.mem_append_left _ (List.mem_append_left _ (List.mem_append_right _ (h)))))
theorem kX1_firstTight_3 : (.fieldLink RX1 9 "RunDesk$Foretelling" "seconds" "[I" : Cond) ∈ wsX1_firstTight := List.mem_of_getElem? (i := 2) (by decide +kernel)
theorem kX1_firstTight_4 : (.fieldLink RX1 18 "RunDesk$Foretelling" "minutes" "[I" : Cond) ∈ wsX1_firstTight := List.mem_of_getElem? (i := 3) (by decide +kernel)
theorem kX1_firstTight_5 : (.fieldLink RX1 21 "RunDesk$Foretelling" "passers" "[I" : Cond) ∈ wsX1_firstTight := List.mem_of_getElem? (i := 4) (by decide +kernel)
set_option maxHeartbeats 4000000 in
set_option maxRecDepth 100000 in
theorem mX1_firstTight (l : Launch) (D : va_G) (cB cI cZ : ClassId) (a_t : Nat) (a_p1 : Nat) (a_p2 : Nat) (a_t_seconds : Nat) (a_t_pens : Nat) (a_t_minutes : Nat) (a_t_passers : Nat) (a_t_tried : Nat) (a_p1_way : Nat) (a_p1_guns : Nat) (a_p1_runners : Nat) (a_p1_runners_facts : Nat) (a_p1_runners_splits : Nat) (a_p1_runners_torn : Nat) (a_p1_runners_dropped : Nat) (a_p1_runners_waved : Nat) (a_p1_runners_struck : Nat) (a_p1_runners_strikingOrder : Nat) (a_p1_way_places : Nat) (a_p1_way_bearings : Nat) (a_p1_way_cuts : Nat) (a_p1_way_deaths : Nat) (a_p2_ticks : Nat) (t_minutes : Nat → Int32) (t_passers : Nat → Int32) (t_pens : Nat → Int32) (t_seconds : Nat → Int32) (p1_runners_entered : Int32) (p1_runners_strikings : Int32) (p1_way_mats : Int32) (p1_way_bearings : Nat → Int32) (p2_ticks : Nat → Int32) (sz : Nat) (x3 : Int32) (N : Nat) (r0 : Int32) (t_minutes' : Nat → Int32) (t_passers' : Nat → Int32) (h : fX1_firstTight N t_minutes t_passers t_pens t_seconds p1_runners_entered p1_way_mats p1_way_bearings p2_ticks x3 = some (r0, t_minutes', t_passers')) : Met l yX1_firstTight wsX1_firstTight ({ frames := 2, cells := 0, slots := 0, locals := 42 } : Room) (va_Pc [.ref a_t, .ref a_p1, .ref a_p2, .int x3] (zPre D (zT cB cI cZ) [(a_t, .inr (1, [.ref a_t_seconds, .ref a_t_pens, .ref a_t_minutes, .ref a_t_passers, .ref a_t_tried])), (a_t_minutes, .inl (cI, 60, .inl t_minutes)), (a_t_passers, .inl (cI, 4001, .inl t_passers)), (a_t_pens, .inl (cI, 60, .inl t_pens)), (a_t_seconds, .inl (cI, 720, .inl t_seconds)), (a_p1, .inr (4, [.ref a_p1_way, .ref a_p1_guns, .ref a_p1_runners])), (a_p1_runners, .inr (6, [.ref a_p1_runners_facts, .ref a_p1_runners_splits, .ref a_p1_runners_torn, .ref a_p1_runners_dropped, .ref a_p1_runners_waved, .ref a_p1_runners_struck, .ref a_p1_runners_strikingOrder, .int p1_runners_entered, .int p1_runners_strikings])), (a_p1_way, .inr (9, [.ref a_p1_way_places, .ref a_p1_way_bearings, .ref a_p1_way_cuts, .ref a_p1_way_deaths, .int p1_way_mats])), (a_p1_way_bearings, .inl (cI, 12, .inl p1_way_bearings)), (a_p2, .inr (2, [.ref a_p2_ticks])), (a_p2_ticks, .inl (cI, 6, .inl p2_ticks))] sz)) (zQi r0 D (zT cB cI cZ) [(a_t, .inr (1, [.ref a_t_seconds, .ref a_t_pens, .ref a_t_minutes, .ref a_t_passers, .ref a_t_tried])), (a_t_minutes, .inl (cI, 60, .inl t_minutes')), (a_t_passers, .inl (cI, 4001, .inl t_passers')), (a_t_pens, .inl (cI, 60, .inl t_pens)), (a_t_seconds, .inl (cI, 720, .inl t_seconds)), (a_p1, .inr (4, [.ref a_p1_way, .ref a_p1_guns, .ref a_p1_runners])), (a_p1_runners, .inr (6, [.ref a_p1_runners_facts, .ref a_p1_runners_splits, .ref a_p1_runners_torn, .ref a_p1_runners_dropped, .ref a_p1_runners_waved, .ref a_p1_runners_struck, .ref a_p1_runners_strikingOrder, .int p1_runners_entered, .int p1_runners_strikings])), (a_p1_way, .inr (9, [.ref a_p1_way_places, .ref a_p1_way_bearings, .ref a_p1_way_cuts, .ref a_p1_way_deaths, .int p1_way_mats])), (a_p1_way_bearings, .inl (cI, 12, .inl p1_way_bearings)), (a_p2, .inr (2, [.ref a_p2_ticks])), (a_p2_ticks, .inl (cI, 6, .inl p2_ticks))] (va_A [(a_t, .inr (1, [.ref a_t_seconds, .ref a_t_pens, .ref a_t_minutes, .ref a_t_passers, .ref a_t_tried])), (a_t_minutes, .inl (cI, 60, .inl t_minutes)), (a_t_passers, .inl (cI, 4001, .inl t_passers)), (a_t_pens, .inl (cI, 60, .inl t_pens)), (a_t_seconds, .inl (cI, 720, .inl t_seconds)), (a_p1, .inr (4, [.ref a_p1_way, .ref a_p1_guns, .ref a_p1_runners])), (a_p1_runners, .inr (6, [.ref a_p1_runners_facts, .ref a_p1_runners_splits, .ref a_p1_runners_torn, .ref a_p1_runners_dropped, .ref a_p1_runners_waved, .ref a_p1_runners_struck, .ref a_p1_runners_strikingOrder, .int p1_runners_entered, .int p1_runners_strikings])), (a_p1_way, .inr (9, [.ref a_p1_way_places, .ref a_p1_way_bearings, .ref a_p1_way_cuts, .ref a_p1_way_deaths, .int p1_way_mats])), (a_p1_way_bearings, .inl (cI, 12, .inl p1_way_bearings)), (a_p2, .inr (2, [.ref a_p2_ticks])), (a_p2_ticks, .inl (cI, 6, .inl p2_ticks))] sz)) 0 0 (va_A [(a_t, .inr (1, [.ref a_t_seconds, .ref a_t_pens, .ref a_t_minutes, .ref a_t_passers, .ref a_t_tried])), (a_t_minutes, .inl (cI, 60, .inl t_minutes)), (a_t_passers, .inl (cI, 4001, .inl t_passers)), (a_t_pens, .inl (cI, 60, .inl t_pens)), (a_t_seconds, .inl (cI, 720, .inl t_seconds)), (a_p1, .inr (4, [.ref a_p1_way, .ref a_p1_guns, .ref a_p1_runners])), (a_p1_runners, .inr (6, [.ref a_p1_runners_facts, .ref a_p1_runners_splits, .ref a_p1_runners_torn, .ref a_p1_runners_dropped, .ref a_p1_runners_waved, .ref a_p1_runners_struck, .ref a_p1_runners_strikingOrder, .int p1_runners_entered, .int p1_runners_strikings])), (a_p1_way, .inr (9, [.ref a_p1_way_places, .ref a_p1_way_bearings, .ref a_p1_way_cuts, .ref a_p1_way_deaths, .int p1_way_mats])), (a_p1_way_bearings, .inl (cI, 12, .inl p1_way_bearings)), (a_p2, .inr (2, [.ref a_p2_ticks])), (a_p2_ticks, .inl (cI, 6, .inl p2_ticks))] sz) := by
  refine Met.ofW (cc := cX1_firstTight) (maxL := 11) (ret := (some .int)) (by decide) rfl ?_
  intro p e s m args below meth c s₁ B hml hv
  obtain ⟨rfl, hsz, hP, hK, hN, hZ, hD0⟩ := hv
  have hx := B.exec
  have hb := B.bytes
  have hr := B.returns
  have hts := atoms_spec (ws := wsX1_firstTight) B.pre
  have hown : s.vm.findClass RX1 = some m.cls := findClass_of_methodNamed B.named
  have hlocks := B.notSynchronized
  subst hsz
  have hD := hD0.self (sz := s.heap.size)
  generalize hAe : va_A [(a_t, .inr (1, [.ref a_t_seconds, .ref a_t_pens, .ref a_t_minutes, .ref a_t_passers, .ref a_t_tried])), (a_t_minutes, .inl (cI, 60, .inl t_minutes)), (a_t_passers, .inl (cI, 4001, .inl t_passers)), (a_t_pens, .inl (cI, 60, .inl t_pens)), (a_t_seconds, .inl (cI, 720, .inl t_seconds)), (a_p1, .inr (4, [.ref a_p1_way, .ref a_p1_guns, .ref a_p1_runners])), (a_p1_runners, .inr (6, [.ref a_p1_runners_facts, .ref a_p1_runners_splits, .ref a_p1_runners_torn, .ref a_p1_runners_dropped, .ref a_p1_runners_waved, .ref a_p1_runners_struck, .ref a_p1_runners_strikingOrder, .int p1_runners_entered, .int p1_runners_strikings])), (a_p1_way, .inr (9, [.ref a_p1_way_places, .ref a_p1_way_bearings, .ref a_p1_way_cuts, .ref a_p1_way_deaths, .int p1_way_mats])), (a_p1_way_bearings, .inl (cI, 12, .inl p1_way_bearings)), (a_p2, .inr (2, [.ref a_p2_ticks])), (a_p2_ticks, .inl (cI, 6, .inl p2_ticks))] s.heap.size = A at hD hZ ⊢
  have hA : ∀ q : Nat, s.heap.size ≤ q → A q := fun q h => by rw [← hAe]; exact Or.inr h
  have hS : va_S A s.heap s.heap [] := va_S.rf
  have hl := lv_entry ([.ref a_t, .ref a_p1, .ref a_p2, .int x3]) (n := 11) (Nat.le_of_ble_eq_true rfl)
  rw [lg_entry_eq]
  generalize (lg_sl ([.ref a_t, .ref a_p1, .ref a_p2, .int x3]) ++ List.replicate (11 - (lg_sl ([.ref a_t, .ref a_p1, .ref a_p2, .int x3])).length) Slot.unset).toArray = ls at hl ⊢
  have hl : lv_has ls 11 [(0, .ref a_t), (1, .ref a_p1), (2, .ref a_p2), (3, .int x3)] := hl
  unfold fX1_firstTight at h
  refine lv_aload_n hx hb dX1_firstTight_0 rfl (lv_at hl 1 rfl) ?_
  refine va_getN (host := "RunDesk") (D := D) (ci := 4) (C := RX4) (T := TX4) (N := 3) hx hb hts qX1_firstTight_X4 hown hK hP 5 rfl rfl 0 (by decide) (va_Nw.use rfl (hN _ (List.mem_of_getElem? (i := 1) rfl))) (fun _ h9 => h9) rfl dX1_firstTight_1 ?_
  refine lv_iload_n hx hb dX1_firstTight_4 rfl (lv_at hl 3 rfl) ?_
  obtain ⟨r1, e2, h⟩ := zz_b h
  refine zVi (As := [.int x3]) (rest := []) (C := RX9) (wr := [(a_t, .inr (1, [.ref a_t_seconds, .ref a_t_pens, .ref a_t_minutes, .ref a_t_passers, .ref a_t_tried])), (a_t_minutes, .inl (cI, 60, .inl t_minutes)), (a_t_passers, .inl (cI, 4001, .inl t_passers)), (a_t_pens, .inl (cI, 60, .inl t_pens)), (a_t_seconds, .inl (cI, 720, .inl t_seconds)), (a_p1, .inr (4, [.ref a_p1_way, .ref a_p1_guns, .ref a_p1_runners])), (a_p1_runners, .inr (6, [.ref a_p1_runners_facts, .ref a_p1_runners_splits, .ref a_p1_runners_torn, .ref a_p1_runners_dropped, .ref a_p1_runners_waved, .ref a_p1_runners_struck, .ref a_p1_runners_strikingOrder, .int p1_runners_entered, .int p1_runners_strikings])), (a_p2, .inr (2, [.ref a_p2_ticks])), (a_p2_ticks, .inl (cI, 6, .inl p2_ticks))]) [7, 8] [0, 1, 2, 3, 4, 5, 6, 9, 10] 0 ⟨hx, hb, hml, hown, hts⟩ (mX9_bearingAt l D cB cI cZ a_p1_way a_p1_way_places a_p1_way_bearings a_p1_way_cuts a_p1_way_deaths p1_way_mats p1_way_bearings s.heap.size x3 r1 e2) (cwV 1 hts gX1_firstTight_X9_bearingAt rfl rfl rfl (by decide +kernel) ⟨Nat.le_of_ble_eq_true rfl, Nat.le_of_ble_eq_true rfl⟩) hK hN hZ hP hD hS hA rfl rfl rfl rfl rfl rfl rfl rfl hl.1 rfl (lv_room (Nat.le_of_ble_eq_true rfl)) dX1_firstTight_5 ⟨Nat.le_of_ble_eq_true rfl, Nat.le_of_ble_eq_true rfl⟩ (fun H locs hP hD hS => ?_)
  have hP : va_P D vwCl [(a_t, .inr (1, [.ref a_t_seconds, .ref a_t_pens, .ref a_t_minutes, .ref a_t_passers, .ref a_t_tried])), (a_t_minutes, .inl (cI, 60, .inl t_minutes)), (a_t_passers, .inl (cI, 4001, .inl t_passers)), (a_t_pens, .inl (cI, 60, .inl t_pens)), (a_t_seconds, .inl (cI, 720, .inl t_seconds)), (a_p1, .inr (4, [.ref a_p1_way, .ref a_p1_guns, .ref a_p1_runners])), (a_p1_runners, .inr (6, [.ref a_p1_runners_facts, .ref a_p1_runners_splits, .ref a_p1_runners_torn, .ref a_p1_runners_dropped, .ref a_p1_runners_waved, .ref a_p1_runners_struck, .ref a_p1_runners_strikingOrder, .int p1_runners_entered, .int p1_runners_strikings])), (a_p2, .inr (2, [.ref a_p2_ticks])), (a_p2_ticks, .inl (cI, 6, .inl p2_ticks)), (a_p1_way, .inr (9, [.ref a_p1_way_places, .ref a_p1_way_bearings, .ref a_p1_way_cuts, .ref a_p1_way_deaths, .int p1_way_mats])), (a_p1_way_bearings, .inl (cI, 12, .inl p1_way_bearings))] H := hP
  have hD : va_D A [(a_t, .inr (1, [.ref a_t_seconds, .ref a_t_pens, .ref a_t_minutes, .ref a_t_passers, .ref a_t_tried])), (a_t_minutes, .inl (cI, 60, .inl t_minutes)), (a_t_passers, .inl (cI, 4001, .inl t_passers)), (a_t_pens, .inl (cI, 60, .inl t_pens)), (a_t_seconds, .inl (cI, 720, .inl t_seconds)), (a_p1, .inr (4, [.ref a_p1_way, .ref a_p1_guns, .ref a_p1_runners])), (a_p1_runners, .inr (6, [.ref a_p1_runners_facts, .ref a_p1_runners_splits, .ref a_p1_runners_torn, .ref a_p1_runners_dropped, .ref a_p1_runners_waved, .ref a_p1_runners_struck, .ref a_p1_runners_strikingOrder, .int p1_runners_entered, .int p1_runners_strikings])), (a_p2, .inr (2, [.ref a_p2_ticks])), (a_p2_ticks, .inl (cI, 6, .inl p2_ticks)), (a_p1_way, .inr (9, [.ref a_p1_way_places, .ref a_p1_way_bearings, .ref a_p1_way_cuts, .ref a_p1_way_deaths, .int p1_way_mats])), (a_p1_way_bearings, .inl (cI, 12, .inl p1_way_bearings))] := hD
  refine lv_istore (lv' := [(4, .int r1), (0, .ref a_t), (1, .ref a_p1), (2, .ref a_p2), (3, .int x3)]) hx hb dX1_firstTight_8 hl (by decide) rfl (fun ls hl => ?_)
  refine lv_aload_n hx hb dX1_firstTight_10 rfl (lv_at hl 2 rfl) ?_
  refine va_getN (host := "RunDesk") (D := D) (ci := 4) (C := RX4) (T := TX4) (N := 3) hx hb hts qX1_firstTight_X4 hown hK hP 5 rfl rfl 2 (by decide) (va_Nw.use rfl (hN _ (List.mem_of_getElem? (i := 8) rfl))) (fun _ h9 => h9) rfl dX1_firstTight_11 ?_
  obtain ⟨r3, e4, h⟩ := zz_b h
  refine zVi (As := []) (rest := []) (C := RX6) (wr := [(a_t, .inr (1, [.ref a_t_seconds, .ref a_t_pens, .ref a_t_minutes, .ref a_t_passers, .ref a_t_tried])), (a_t_minutes, .inl (cI, 60, .inl t_minutes)), (a_t_passers, .inl (cI, 4001, .inl t_passers)), (a_t_pens, .inl (cI, 60, .inl t_pens)), (a_t_seconds, .inl (cI, 720, .inl t_seconds)), (a_p1, .inr (4, [.ref a_p1_way, .ref a_p1_guns, .ref a_p1_runners])), (a_p2, .inr (2, [.ref a_p2_ticks])), (a_p2_ticks, .inl (cI, 6, .inl p2_ticks)), (a_p1_way, .inr (9, [.ref a_p1_way_places, .ref a_p1_way_bearings, .ref a_p1_way_cuts, .ref a_p1_way_deaths, .int p1_way_mats])), (a_p1_way_bearings, .inl (cI, 12, .inl p1_way_bearings))]) [6] [0, 1, 2, 3, 4, 5, 7, 8, 9, 10] 0 ⟨hx, hb, hml, hown, hts⟩ (mX6_size l D cB cI cZ a_p1_runners a_p1_runners_facts a_p1_runners_splits a_p1_runners_torn a_p1_runners_dropped a_p1_runners_waved a_p1_runners_struck a_p1_runners_strikingOrder p1_runners_entered p1_runners_strikings H.size r3 e4) (cwV 0 hts gX1_firstTight_X6_size rfl rfl rfl (by decide +kernel) ⟨Nat.le_of_ble_eq_true rfl, Nat.le_of_ble_eq_true rfl⟩) hK hN hZ hP hD hS hA rfl rfl rfl rfl rfl rfl rfl rfl hl.1 rfl (lv_room (Nat.le_of_ble_eq_true rfl)) dX1_firstTight_14 ⟨Nat.le_of_ble_eq_true rfl, Nat.le_of_ble_eq_true rfl⟩ (fun H locs hP hD hS => ?_)
  have hP : va_P D vwCl [(a_t, .inr (1, [.ref a_t_seconds, .ref a_t_pens, .ref a_t_minutes, .ref a_t_passers, .ref a_t_tried])), (a_t_minutes, .inl (cI, 60, .inl t_minutes)), (a_t_passers, .inl (cI, 4001, .inl t_passers)), (a_t_pens, .inl (cI, 60, .inl t_pens)), (a_t_seconds, .inl (cI, 720, .inl t_seconds)), (a_p1, .inr (4, [.ref a_p1_way, .ref a_p1_guns, .ref a_p1_runners])), (a_p2, .inr (2, [.ref a_p2_ticks])), (a_p2_ticks, .inl (cI, 6, .inl p2_ticks)), (a_p1_way, .inr (9, [.ref a_p1_way_places, .ref a_p1_way_bearings, .ref a_p1_way_cuts, .ref a_p1_way_deaths, .int p1_way_mats])), (a_p1_way_bearings, .inl (cI, 12, .inl p1_way_bearings)), (a_p1_runners, .inr (6, [.ref a_p1_runners_facts, .ref a_p1_runners_splits, .ref a_p1_runners_torn, .ref a_p1_runners_dropped, .ref a_p1_runners_waved, .ref a_p1_runners_struck, .ref a_p1_runners_strikingOrder, .int p1_runners_entered, .int p1_runners_strikings]))] H := hP
  have hD : va_D A [(a_t, .inr (1, [.ref a_t_seconds, .ref a_t_pens, .ref a_t_minutes, .ref a_t_passers, .ref a_t_tried])), (a_t_minutes, .inl (cI, 60, .inl t_minutes)), (a_t_passers, .inl (cI, 4001, .inl t_passers)), (a_t_pens, .inl (cI, 60, .inl t_pens)), (a_t_seconds, .inl (cI, 720, .inl t_seconds)), (a_p1, .inr (4, [.ref a_p1_way, .ref a_p1_guns, .ref a_p1_runners])), (a_p2, .inr (2, [.ref a_p2_ticks])), (a_p2_ticks, .inl (cI, 6, .inl p2_ticks)), (a_p1_way, .inr (9, [.ref a_p1_way_places, .ref a_p1_way_bearings, .ref a_p1_way_cuts, .ref a_p1_way_deaths, .int p1_way_mats])), (a_p1_way_bearings, .inl (cI, 12, .inl p1_way_bearings)), (a_p1_runners, .inr (6, [.ref a_p1_runners_facts, .ref a_p1_runners_splits, .ref a_p1_runners_torn, .ref a_p1_runners_dropped, .ref a_p1_runners_waved, .ref a_p1_runners_struck, .ref a_p1_runners_strikingOrder, .int p1_runners_entered, .int p1_runners_strikings]))] := hD
  refine lv_istore (lv' := [(5, .int r3), (4, .int r1), (0, .ref a_t), (1, .ref a_p1), (2, .ref a_p2), (3, .int x3)]) hx hb dX1_firstTight_17 hl (by decide) rfl (fun ls hl => ?_)
  refine lv_iload_n hx hb dX1_firstTight_19 rfl (lv_at hl 5 rfl) ?_
  refine lv_if_lt (tgt := 36) hx hb dX1_firstTight_20 (by decide) (fun c5 => ?_) (fun c5 => ?_)
  · have h := zz_t h c5
    refine lv_iconst (v := (-1 : Int32)) hx hb dX1_firstTight_36 rfl ?_
    obtain ⟨j0_, g_⟩ := Prod.mk.inj (Option.some.inj h)
    obtain ⟨j1_, g_⟩ := Prod.mk.inj g_
    have j2_ := g_
    subst j0_
    subst j1_
    subst j2_
    exact W.iret (v := (-1 : Int32)) hx hb hr (fun t ht hW => ⟨⟨_, (), rfl, rfl, zPost.of hP hD hK ht hW [0, 1, 2, 3, 4, 5, 10, 8, 9, 6, 7] rfl rfl rfl⟩, hS.F ht⟩) hS.2.2 dX1_firstTight_37
  · have h := zz_f h c5
    refine lv_iload_n hx hb dX1_firstTight_23 rfl (lv_at hl 5 rfl) ?_
    refine lv_bipush (v := (nI 12)) hx hb dX1_firstTight_24 rfl ?_
    refine lv_icmp_ge (tgt := 36) hx hb dX1_firstTight_26 (by decide) (fun c6 => ?_) (fun c6 => ?_)
    · have h := zz_t h c6
      refine lv_iconst (v := (-1 : Int32)) hx hb dX1_firstTight_36 rfl ?_
      obtain ⟨j0_, g_⟩ := Prod.mk.inj (Option.some.inj h)
      obtain ⟨j1_, g_⟩ := Prod.mk.inj g_
      have j2_ := g_
      subst j0_
      subst j1_
      subst j2_
      exact W.iret (v := (-1 : Int32)) hx hb hr (fun t ht hW => ⟨⟨_, (), rfl, rfl, zPost.of hP hD hK ht hW [0, 1, 2, 3, 4, 5, 10, 8, 9, 6, 7] rfl rfl rfl⟩, hS.F ht⟩) hS.2.2 dX1_firstTight_37
    · have h := zz_f h c6
      refine lv_iload hx hb dX1_firstTight_29 (lv_at hl 0 rfl) ?_
      refine lv_iload hx hb dX1_firstTight_31 (lv_at hl 1 rfl) ?_
      refine lv_icmp_gt (tgt := 38) hx hb dX1_firstTight_33 (by decide) (fun c7 => ?_) (fun c7 => ?_)
      · have h := zz_t h c7
        refine lv_iconst (v := (-1 : Int32)) hx hb dX1_firstTight_38 rfl ?_
        refine lv_istore (lv' := [(6, .int (-1 : Int32)), (5, .int r3), (4, .int r1), (0, .ref a_t), (1, .ref a_p1), (2, .ref a_p2), (3, .int x3)]) hx hb dX1_firstTight_39 hl (by decide) rfl (fun ls hl => ?_)
        refine lv_iconst (v := (nI 0)) hx hb dX1_firstTight_41 rfl ?_
        refine lv_istore (lv' := [(7, .int (nI 0)), (6, .int (-1 : Int32)), (5, .int r3), (4, .int r1), (0, .ref a_t), (1, .ref a_p1), (2, .ref a_p2), (3, .int x3)]) hx hb dX1_firstTight_42 hl (by decide) rfl (fun ls hl => ?_)
        have X44_186 : ∀ (v6_44 : Int32) (v7_44 : Int32) (t_minutes_l44 : Nat → Int32) (t_passers_l44 : Nat → Int32) (H : Heap) (locs : List Loc) (ls : Array Slot), ((fX1_forgetPassers N t_minutes_l44 t_passers_l44 r3).bind (fun t_passers_r8 => some (v6_44, t_minutes_l44, t_passers_r8))) = some (r0, t_minutes', t_passers') → va_P D vwCl [(a_t, .inr (1, [.ref a_t_seconds, .ref a_t_pens, .ref a_t_minutes, .ref a_t_passers, .ref a_t_tried])), (a_t_minutes, .inl (cI, 60, .inl t_minutes_l44)), (a_t_passers, .inl (cI, 4001, .inl t_passers_l44)), (a_t_pens, .inl (cI, 60, .inl t_pens)), (a_t_seconds, .inl (cI, 720, .inl t_seconds)), (a_p1, .inr (4, [.ref a_p1_way, .ref a_p1_guns, .ref a_p1_runners])), (a_p2, .inr (2, [.ref a_p2_ticks])), (a_p2_ticks, .inl (cI, 6, .inl p2_ticks)), (a_p1_way, .inr (9, [.ref a_p1_way_places, .ref a_p1_way_bearings, .ref a_p1_way_cuts, .ref a_p1_way_deaths, .int p1_way_mats])), (a_p1_way_bearings, .inl (cI, 12, .inl p1_way_bearings)), (a_p1_runners, .inr (6, [.ref a_p1_runners_facts, .ref a_p1_runners_splits, .ref a_p1_runners_torn, .ref a_p1_runners_dropped, .ref a_p1_runners_waved, .ref a_p1_runners_struck, .ref a_p1_runners_strikingOrder, .int p1_runners_entered, .int p1_runners_strikings]))] H → va_D A [(a_t, .inr (1, [.ref a_t_seconds, .ref a_t_pens, .ref a_t_minutes, .ref a_t_passers, .ref a_t_tried])), (a_t_minutes, .inl (cI, 60, .inl t_minutes_l44)), (a_t_passers, .inl (cI, 4001, .inl t_passers_l44)), (a_t_pens, .inl (cI, 60, .inl t_pens)), (a_t_seconds, .inl (cI, 720, .inl t_seconds)), (a_p1, .inr (4, [.ref a_p1_way, .ref a_p1_guns, .ref a_p1_runners])), (a_p2, .inr (2, [.ref a_p2_ticks])), (a_p2_ticks, .inl (cI, 6, .inl p2_ticks)), (a_p1_way, .inr (9, [.ref a_p1_way_places, .ref a_p1_way_bearings, .ref a_p1_way_cuts, .ref a_p1_way_deaths, .int p1_way_mats])), (a_p1_way_bearings, .inl (cI, 12, .inl p1_way_bearings)), (a_p1_runners, .inr (6, [.ref a_p1_runners_facts, .ref a_p1_runners_splits, .ref a_p1_runners_torn, .ref a_p1_runners_dropped, .ref a_p1_runners_waved, .ref a_p1_runners_struck, .ref a_p1_runners_strikingOrder, .int p1_runners_entered, .int p1_runners_strikings]))] → va_S A s.heap H locs → lv_has ls 11 [(7, .int v7_44), (6, .int v6_44), (5, .int r3), (4, .int r1), (0, .ref a_t), (1, .ref a_p1), (2, .ref a_p2), (3, .int x3)] → W p l e (headSpec wsX1_firstTight ({ frames := 2, cells := 0, slots := 0, locals := 42 } : Room)).room s m #[Value.ref a_t, Value.ref a_p1, Value.ref a_p2, Value.int x3] below meth c H locs 0 0 (MQ below (zQi r0 D (zT cB cI cZ) [(a_t, .inr (1, [.ref a_t_seconds, .ref a_t_pens, .ref a_t_minutes, .ref a_t_passers, .ref a_t_tried])), (a_t_minutes, .inl (cI, 60, .inl t_minutes')), (a_t_passers, .inl (cI, 4001, .inl t_passers')), (a_t_pens, .inl (cI, 60, .inl t_pens)), (a_t_seconds, .inl (cI, 720, .inl t_seconds)), (a_p1, .inr (4, [.ref a_p1_way, .ref a_p1_guns, .ref a_p1_runners])), (a_p1_runners, .inr (6, [.ref a_p1_runners_facts, .ref a_p1_runners_splits, .ref a_p1_runners_torn, .ref a_p1_runners_dropped, .ref a_p1_runners_waved, .ref a_p1_runners_struck, .ref a_p1_runners_strikingOrder, .int p1_runners_entered, .int p1_runners_strikings])), (a_p1_way, .inr (9, [.ref a_p1_way_places, .ref a_p1_way_bearings, .ref a_p1_way_cuts, .ref a_p1_way_deaths, .int p1_way_mats])), (a_p1_way_bearings, .inl (cI, 12, .inl p1_way_bearings)), (a_p2, .inr (2, [.ref a_p2_ticks])), (a_p2_ticks, .inl (cI, 6, .inl p2_ticks))] A) #[Value.ref a_t, Value.ref a_p1, Value.ref a_p2, Value.int x3] s 0 0 A) (F0 m 186 ls []) := by
          intro v6_44 v7_44 t_minutes_l44 t_passers_l44 H locs ls h hP hD hS hl
          refine lv_aload_n hx hb dX1_firstTight_186 rfl (lv_at hl 4 rfl) ?_
          refine lv_iload hx hb dX1_firstTight_187 (lv_at hl 2 rfl) ?_
          obtain ⟨t_passers_r8, e9, h⟩ := zz_b h
          refine zVv (As := [.int r3]) (rest := []) (C := RX1) (wr := [(a_t_pens, .inl (cI, 60, .inl t_pens)), (a_t_seconds, .inl (cI, 720, .inl t_seconds)), (a_p1, .inr (4, [.ref a_p1_way, .ref a_p1_guns, .ref a_p1_runners])), (a_p2, .inr (2, [.ref a_p2_ticks])), (a_p2_ticks, .inl (cI, 6, .inl p2_ticks)), (a_p1_way, .inr (9, [.ref a_p1_way_places, .ref a_p1_way_bearings, .ref a_p1_way_cuts, .ref a_p1_way_deaths, .int p1_way_mats])), (a_p1_way_bearings, .inl (cI, 12, .inl p1_way_bearings)), (a_p1_runners, .inr (6, [.ref a_p1_runners_facts, .ref a_p1_runners_splits, .ref a_p1_runners_torn, .ref a_p1_runners_dropped, .ref a_p1_runners_waved, .ref a_p1_runners_struck, .ref a_p1_runners_strikingOrder, .int p1_runners_entered, .int p1_runners_strikings]))]) [0, 1, 2] [3, 4, 5, 6, 7, 8, 9, 10] 0 ⟨hx, hb, hml, hown, hts⟩ (mX1_forgetPassers l D cB cI cZ a_t a_t_seconds a_t_pens a_t_minutes a_t_passers a_t_tried t_minutes_l44 t_passers_l44 H.size r3 N t_passers_r8 e9) (cwV 1 hts gX1_firstTight_X1_forgetPassers rfl rfl rfl (by decide +kernel) ⟨Nat.le_of_ble_eq_true rfl, Nat.le_of_ble_eq_true rfl⟩) hK hN hZ hP hD hS hA rfl rfl rfl rfl rfl rfl rfl rfl hl.1 rfl (lv_room (Nat.le_of_ble_eq_true rfl)) dX1_firstTight_189 ⟨Nat.le_of_ble_eq_true rfl, Nat.le_of_ble_eq_true rfl⟩ (fun H locs hP hD hS => ?_)
          have hP : va_P D vwCl [(a_t_pens, .inl (cI, 60, .inl t_pens)), (a_t_seconds, .inl (cI, 720, .inl t_seconds)), (a_p1, .inr (4, [.ref a_p1_way, .ref a_p1_guns, .ref a_p1_runners])), (a_p2, .inr (2, [.ref a_p2_ticks])), (a_p2_ticks, .inl (cI, 6, .inl p2_ticks)), (a_p1_way, .inr (9, [.ref a_p1_way_places, .ref a_p1_way_bearings, .ref a_p1_way_cuts, .ref a_p1_way_deaths, .int p1_way_mats])), (a_p1_way_bearings, .inl (cI, 12, .inl p1_way_bearings)), (a_p1_runners, .inr (6, [.ref a_p1_runners_facts, .ref a_p1_runners_splits, .ref a_p1_runners_torn, .ref a_p1_runners_dropped, .ref a_p1_runners_waved, .ref a_p1_runners_struck, .ref a_p1_runners_strikingOrder, .int p1_runners_entered, .int p1_runners_strikings])), (a_t, .inr (1, [.ref a_t_seconds, .ref a_t_pens, .ref a_t_minutes, .ref a_t_passers, .ref a_t_tried])), (a_t_minutes, .inl (cI, 60, .inl t_minutes_l44)), (a_t_passers, .inl (cI, 4001, .inl t_passers_r8))] H := hP
          have hD : va_D A [(a_t_pens, .inl (cI, 60, .inl t_pens)), (a_t_seconds, .inl (cI, 720, .inl t_seconds)), (a_p1, .inr (4, [.ref a_p1_way, .ref a_p1_guns, .ref a_p1_runners])), (a_p2, .inr (2, [.ref a_p2_ticks])), (a_p2_ticks, .inl (cI, 6, .inl p2_ticks)), (a_p1_way, .inr (9, [.ref a_p1_way_places, .ref a_p1_way_bearings, .ref a_p1_way_cuts, .ref a_p1_way_deaths, .int p1_way_mats])), (a_p1_way_bearings, .inl (cI, 12, .inl p1_way_bearings)), (a_p1_runners, .inr (6, [.ref a_p1_runners_facts, .ref a_p1_runners_splits, .ref a_p1_runners_torn, .ref a_p1_runners_dropped, .ref a_p1_runners_waved, .ref a_p1_runners_struck, .ref a_p1_runners_strikingOrder, .int p1_runners_entered, .int p1_runners_strikings])), (a_t, .inr (1, [.ref a_t_seconds, .ref a_t_pens, .ref a_t_minutes, .ref a_t_passers, .ref a_t_tried])), (a_t_minutes, .inl (cI, 60, .inl t_minutes_l44)), (a_t_passers, .inl (cI, 4001, .inl t_passers_r8))] := hD
          refine lv_iload hx hb dX1_firstTight_192 (lv_at hl 1 rfl) ?_
          obtain ⟨j0_, g_⟩ := Prod.mk.inj (Option.some.inj h)
          obtain ⟨j1_, g_⟩ := Prod.mk.inj g_
          have j2_ := g_
          subst j0_
          subst j1_
          subst j2_
          exact W.iret (v := v6_44) hx hb hr (fun t ht hW => ⟨⟨_, (), rfl, rfl, zPost.of hP hD hK ht hW [8, 9, 10, 0, 1, 2, 7, 5, 6, 3, 4] rfl rfl rfl⟩, hS.F ht⟩) hS.2.2 dX1_firstTight_194
        have L44 : ∀ (n : Nat) (v6_44 : Int32) (v7_44 : Int32) (t_minutes_l44 : Nat → Int32) (t_passers_l44 : Nat → Int32) (H : Heap) (locs : List Loc) (ls : Array Slot), fX1_firstTight_L44 t_pens t_seconds p2_ticks x3 r1 r3 (fun (v6_44 : Int32) (v7_44 : Int32) (t_minutes_l44 : Nat → Int32) (t_passers_l44 : Nat → Int32) => ((fX1_forgetPassers N t_minutes_l44 t_passers_l44 r3).bind (fun t_passers_r8 => some (v6_44, t_minutes_l44, t_passers_r8)))) n v6_44 v7_44 t_minutes_l44 t_passers_l44 = some (r0, t_minutes', t_passers') → va_P D vwCl [(a_t, .inr (1, [.ref a_t_seconds, .ref a_t_pens, .ref a_t_minutes, .ref a_t_passers, .ref a_t_tried])), (a_t_minutes, .inl (cI, 60, .inl t_minutes_l44)), (a_t_passers, .inl (cI, 4001, .inl t_passers_l44)), (a_t_pens, .inl (cI, 60, .inl t_pens)), (a_t_seconds, .inl (cI, 720, .inl t_seconds)), (a_p1, .inr (4, [.ref a_p1_way, .ref a_p1_guns, .ref a_p1_runners])), (a_p2, .inr (2, [.ref a_p2_ticks])), (a_p2_ticks, .inl (cI, 6, .inl p2_ticks)), (a_p1_way, .inr (9, [.ref a_p1_way_places, .ref a_p1_way_bearings, .ref a_p1_way_cuts, .ref a_p1_way_deaths, .int p1_way_mats])), (a_p1_way_bearings, .inl (cI, 12, .inl p1_way_bearings)), (a_p1_runners, .inr (6, [.ref a_p1_runners_facts, .ref a_p1_runners_splits, .ref a_p1_runners_torn, .ref a_p1_runners_dropped, .ref a_p1_runners_waved, .ref a_p1_runners_struck, .ref a_p1_runners_strikingOrder, .int p1_runners_entered, .int p1_runners_strikings]))] H → va_D A [(a_t, .inr (1, [.ref a_t_seconds, .ref a_t_pens, .ref a_t_minutes, .ref a_t_passers, .ref a_t_tried])), (a_t_minutes, .inl (cI, 60, .inl t_minutes_l44)), (a_t_passers, .inl (cI, 4001, .inl t_passers_l44)), (a_t_pens, .inl (cI, 60, .inl t_pens)), (a_t_seconds, .inl (cI, 720, .inl t_seconds)), (a_p1, .inr (4, [.ref a_p1_way, .ref a_p1_guns, .ref a_p1_runners])), (a_p2, .inr (2, [.ref a_p2_ticks])), (a_p2_ticks, .inl (cI, 6, .inl p2_ticks)), (a_p1_way, .inr (9, [.ref a_p1_way_places, .ref a_p1_way_bearings, .ref a_p1_way_cuts, .ref a_p1_way_deaths, .int p1_way_mats])), (a_p1_way_bearings, .inl (cI, 12, .inl p1_way_bearings)), (a_p1_runners, .inr (6, [.ref a_p1_runners_facts, .ref a_p1_runners_splits, .ref a_p1_runners_torn, .ref a_p1_runners_dropped, .ref a_p1_runners_waved, .ref a_p1_runners_struck, .ref a_p1_runners_strikingOrder, .int p1_runners_entered, .int p1_runners_strikings]))] → va_S A s.heap H locs → lv_has ls 11 [(7, .int v7_44), (6, .int v6_44), (5, .int r3), (4, .int r1), (0, .ref a_t), (1, .ref a_p1), (2, .ref a_p2), (3, .int x3)] → W p l e (headSpec wsX1_firstTight ({ frames := 2, cells := 0, slots := 0, locals := 42 } : Room)).room s m #[Value.ref a_t, Value.ref a_p1, Value.ref a_p2, Value.int x3] below meth c H locs 0 0 (MQ below (zQi r0 D (zT cB cI cZ) [(a_t, .inr (1, [.ref a_t_seconds, .ref a_t_pens, .ref a_t_minutes, .ref a_t_passers, .ref a_t_tried])), (a_t_minutes, .inl (cI, 60, .inl t_minutes')), (a_t_passers, .inl (cI, 4001, .inl t_passers')), (a_t_pens, .inl (cI, 60, .inl t_pens)), (a_t_seconds, .inl (cI, 720, .inl t_seconds)), (a_p1, .inr (4, [.ref a_p1_way, .ref a_p1_guns, .ref a_p1_runners])), (a_p1_runners, .inr (6, [.ref a_p1_runners_facts, .ref a_p1_runners_splits, .ref a_p1_runners_torn, .ref a_p1_runners_dropped, .ref a_p1_runners_waved, .ref a_p1_runners_struck, .ref a_p1_runners_strikingOrder, .int p1_runners_entered, .int p1_runners_strikings])), (a_p1_way, .inr (9, [.ref a_p1_way_places, .ref a_p1_way_bearings, .ref a_p1_way_cuts, .ref a_p1_way_deaths, .int p1_way_mats])), (a_p1_way_bearings, .inl (cI, 12, .inl p1_way_bearings)), (a_p2, .inr (2, [.ref a_p2_ticks])), (a_p2_ticks, .inl (cI, 6, .inl p2_ticks))] A) #[Value.ref a_t, Value.ref a_p1, Value.ref a_p2, Value.int x3] s 0 0 A) (F0 m 44 ls []) := by
          intro n
          induction n with
          | zero => intro _ _ _ _ H locs ls h hP hD hS hl; cases h
          | succ n44 ih44 =>
            intro v6_44 v7_44 t_minutes_l44 t_passers_l44 H locs ls h hP hD hS hl
            rw [fX1_firstTight_L44.eq_2] at h
            refine lv_iload hx hb dX1_firstTight_44 (lv_at hl 0 rfl) ?_
            refine lv_iload hx hb dX1_firstTight_46 (lv_at hl 2 rfl) ?_
            refine lv_icmp_ge (tgt := 186) hx hb dX1_firstTight_48 (by decide) (fun c10 => ?_) (fun c10 => ?_)
            · have h := zz_t h c10
              exact X44_186 v6_44 v7_44 t_minutes_l44 t_passers_l44 _ _ _ h (hP.sub [0, 1, 2, 3, 4, 5, 6, 7, 8, 9, 10] rfl) (hD.sub [0, 1, 2, 3, 4, 5, 6, 7, 8, 9, 10] rfl rfl) hS (lv_sub hl [0, 1, 2, 3, 4, 5, 6, 7] rfl)
            · have h := zz_f h c10
              refine lv_iload hx hb dX1_firstTight_51 (lv_at hl 0 rfl) ?_
              refine lv_bipush (v := (nI 60)) hx hb dX1_firstTight_53 rfl ?_
              refine lv_icmp_ge (tgt := 186) hx hb dX1_firstTight_55 (by decide) (fun c11 => ?_) (fun c11 => ?_)
              · have h := zz_t h c11
                exact X44_186 v6_44 v7_44 t_minutes_l44 t_passers_l44 _ _ _ h (hP.sub [0, 1, 2, 3, 4, 5, 6, 7, 8, 9, 10] rfl) (hD.sub [0, 1, 2, 3, 4, 5, 6, 7, 8, 9, 10] rfl rfl) hS (lv_sub hl [0, 1, 2, 3, 4, 5, 6, 7] rfl)
              · have h := zz_f h c11
                refine lv_aload_n hx hb dX1_firstTight_58 rfl (lv_at hl 6 rfl) ?_
                refine lv_aload_n hx hb dX1_firstTight_59 rfl (lv_at hl 4 rfl) ?_
                refine va_get (D := D) (ci := 1) (C := RX1) (T := TX1) (N := 5) hx hb hts qX1_firstTight_X1 hown hK hP 0 rfl rfl 1 (by decide) (hts _ kX1_firstTight_1) (fun _ h9 => h9) rfl dX1_firstTight_60 ?_
                refine lv_iload hx hb dX1_firstTight_63 (lv_at hl 0 rfl) ?_
                obtain ⟨i12, h⟩ := zz_i h
                refine va_iald hx hb hK hP 3 1 rfl rfl i12 dX1_firstTight_65 ?_
                obtain ⟨r13, e14, h⟩ := zz_b h
                refine zVi (As := [.int (t_pens (v7_44).toNatClampNeg)]) (rest := []) (C := RX2) (wr := [(a_t, .inr (1, [.ref a_t_seconds, .ref a_t_pens, .ref a_t_minutes, .ref a_t_passers, .ref a_t_tried])), (a_t_minutes, .inl (cI, 60, .inl t_minutes_l44)), (a_t_passers, .inl (cI, 4001, .inl t_passers_l44)), (a_t_pens, .inl (cI, 60, .inl t_pens)), (a_t_seconds, .inl (cI, 720, .inl t_seconds)), (a_p1, .inr (4, [.ref a_p1_way, .ref a_p1_guns, .ref a_p1_runners])), (a_p1_way, .inr (9, [.ref a_p1_way_places, .ref a_p1_way_bearings, .ref a_p1_way_cuts, .ref a_p1_way_deaths, .int p1_way_mats])), (a_p1_way_bearings, .inl (cI, 12, .inl p1_way_bearings)), (a_p1_runners, .inr (6, [.ref a_p1_runners_facts, .ref a_p1_runners_splits, .ref a_p1_runners_torn, .ref a_p1_runners_dropped, .ref a_p1_runners_waved, .ref a_p1_runners_struck, .ref a_p1_runners_strikingOrder, .int p1_runners_entered, .int p1_runners_strikings]))]) [6, 7] [0, 1, 2, 3, 4, 5, 8, 9, 10] 0 ⟨hx, hb, hml, hown, hts⟩ (mX2_tickOf l D cB cI cZ a_p2 a_p2_ticks p2_ticks H.size (t_pens (v7_44).toNatClampNeg) r13 e14) (cwV 1 hts gX1_firstTight_X2_tickOf rfl rfl rfl (by decide +kernel) ⟨Nat.le_of_ble_eq_true rfl, Nat.le_of_ble_eq_true rfl⟩) hK hN hZ hP hD hS hA rfl rfl rfl rfl rfl rfl rfl rfl hl.1 rfl (lv_room (Nat.le_of_ble_eq_true rfl)) dX1_firstTight_66 ⟨Nat.le_of_ble_eq_true rfl, Nat.le_of_ble_eq_true rfl⟩ (fun H locs hP hD hS => ?_)
                have hP : va_P D vwCl [(a_t, .inr (1, [.ref a_t_seconds, .ref a_t_pens, .ref a_t_minutes, .ref a_t_passers, .ref a_t_tried])), (a_t_minutes, .inl (cI, 60, .inl t_minutes_l44)), (a_t_passers, .inl (cI, 4001, .inl t_passers_l44)), (a_t_pens, .inl (cI, 60, .inl t_pens)), (a_t_seconds, .inl (cI, 720, .inl t_seconds)), (a_p1, .inr (4, [.ref a_p1_way, .ref a_p1_guns, .ref a_p1_runners])), (a_p1_way, .inr (9, [.ref a_p1_way_places, .ref a_p1_way_bearings, .ref a_p1_way_cuts, .ref a_p1_way_deaths, .int p1_way_mats])), (a_p1_way_bearings, .inl (cI, 12, .inl p1_way_bearings)), (a_p1_runners, .inr (6, [.ref a_p1_runners_facts, .ref a_p1_runners_splits, .ref a_p1_runners_torn, .ref a_p1_runners_dropped, .ref a_p1_runners_waved, .ref a_p1_runners_struck, .ref a_p1_runners_strikingOrder, .int p1_runners_entered, .int p1_runners_strikings])), (a_p2, .inr (2, [.ref a_p2_ticks])), (a_p2_ticks, .inl (cI, 6, .inl p2_ticks))] H := hP
                have hD : va_D A [(a_t, .inr (1, [.ref a_t_seconds, .ref a_t_pens, .ref a_t_minutes, .ref a_t_passers, .ref a_t_tried])), (a_t_minutes, .inl (cI, 60, .inl t_minutes_l44)), (a_t_passers, .inl (cI, 4001, .inl t_passers_l44)), (a_t_pens, .inl (cI, 60, .inl t_pens)), (a_t_seconds, .inl (cI, 720, .inl t_seconds)), (a_p1, .inr (4, [.ref a_p1_way, .ref a_p1_guns, .ref a_p1_runners])), (a_p1_way, .inr (9, [.ref a_p1_way_places, .ref a_p1_way_bearings, .ref a_p1_way_cuts, .ref a_p1_way_deaths, .int p1_way_mats])), (a_p1_way_bearings, .inl (cI, 12, .inl p1_way_bearings)), (a_p1_runners, .inr (6, [.ref a_p1_runners_facts, .ref a_p1_runners_splits, .ref a_p1_runners_torn, .ref a_p1_runners_dropped, .ref a_p1_runners_waved, .ref a_p1_runners_struck, .ref a_p1_runners_strikingOrder, .int p1_runners_entered, .int p1_runners_strikings])), (a_p2, .inr (2, [.ref a_p2_ticks])), (a_p2_ticks, .inl (cI, 6, .inl p2_ticks))] := hD
                refine lv_istore (lv' := [(8, .int r13), (7, .int v7_44), (6, .int v6_44), (5, .int r3), (4, .int r1), (0, .ref a_t), (1, .ref a_p1), (2, .ref a_p2), (3, .int x3)]) hx hb dX1_firstTight_69 hl (by decide) rfl (fun ls hl => ?_)
                refine lv_iload hx hb dX1_firstTight_71 (lv_at hl 0 rfl) ?_
                refine lv_iconst (v := (-1 : Int32)) hx hb dX1_firstTight_73 rfl ?_
                have J99L44 : ∀ (s0_j99 : Int32) (H : Heap) (locs : List Loc) (ls : Array Slot), fX1_firstTight_J99L44 r1 v6_44 v7_44 t_minutes_l44 t_passers_l44 (fX1_firstTight_L44 t_pens t_seconds p2_ticks x3 r1 r3 (fun (v6_44 : Int32) (v7_44 : Int32) (t_minutes_l44 : Nat → Int32) (t_passers_l44 : Nat → Int32) => ((fX1_forgetPassers N t_minutes_l44 t_passers_l44 r3).bind (fun t_passers_r8 => some (v6_44, t_minutes_l44, t_passers_r8)))) n44) s0_j99 = some (r0, t_minutes', t_passers') → va_P D vwCl [(a_t, .inr (1, [.ref a_t_seconds, .ref a_t_pens, .ref a_t_minutes, .ref a_t_passers, .ref a_t_tried])), (a_t_minutes, .inl (cI, 60, .inl t_minutes_l44)), (a_t_passers, .inl (cI, 4001, .inl t_passers_l44)), (a_t_pens, .inl (cI, 60, .inl t_pens)), (a_t_seconds, .inl (cI, 720, .inl t_seconds)), (a_p1, .inr (4, [.ref a_p1_way, .ref a_p1_guns, .ref a_p1_runners])), (a_p1_way, .inr (9, [.ref a_p1_way_places, .ref a_p1_way_bearings, .ref a_p1_way_cuts, .ref a_p1_way_deaths, .int p1_way_mats])), (a_p1_way_bearings, .inl (cI, 12, .inl p1_way_bearings)), (a_p1_runners, .inr (6, [.ref a_p1_runners_facts, .ref a_p1_runners_splits, .ref a_p1_runners_torn, .ref a_p1_runners_dropped, .ref a_p1_runners_waved, .ref a_p1_runners_struck, .ref a_p1_runners_strikingOrder, .int p1_runners_entered, .int p1_runners_strikings])), (a_p2, .inr (2, [.ref a_p2_ticks])), (a_p2_ticks, .inl (cI, 6, .inl p2_ticks))] H → va_D A [(a_t, .inr (1, [.ref a_t_seconds, .ref a_t_pens, .ref a_t_minutes, .ref a_t_passers, .ref a_t_tried])), (a_t_minutes, .inl (cI, 60, .inl t_minutes_l44)), (a_t_passers, .inl (cI, 4001, .inl t_passers_l44)), (a_t_pens, .inl (cI, 60, .inl t_pens)), (a_t_seconds, .inl (cI, 720, .inl t_seconds)), (a_p1, .inr (4, [.ref a_p1_way, .ref a_p1_guns, .ref a_p1_runners])), (a_p1_way, .inr (9, [.ref a_p1_way_places, .ref a_p1_way_bearings, .ref a_p1_way_cuts, .ref a_p1_way_deaths, .int p1_way_mats])), (a_p1_way_bearings, .inl (cI, 12, .inl p1_way_bearings)), (a_p1_runners, .inr (6, [.ref a_p1_runners_facts, .ref a_p1_runners_splits, .ref a_p1_runners_torn, .ref a_p1_runners_dropped, .ref a_p1_runners_waved, .ref a_p1_runners_struck, .ref a_p1_runners_strikingOrder, .int p1_runners_entered, .int p1_runners_strikings])), (a_p2, .inr (2, [.ref a_p2_ticks])), (a_p2_ticks, .inl (cI, 6, .inl p2_ticks))] → va_S A s.heap H locs → lv_has ls 11 [(8, .int r13), (7, .int v7_44), (6, .int v6_44), (5, .int r3), (4, .int r1), (0, .ref a_t), (1, .ref a_p1), (2, .ref a_p2), (3, .int x3)] → W p l e (headSpec wsX1_firstTight ({ frames := 2, cells := 0, slots := 0, locals := 42 } : Room)).room s m #[Value.ref a_t, Value.ref a_p1, Value.ref a_p2, Value.int x3] below meth c H locs 0 0 (MQ below (zQi r0 D (zT cB cI cZ) [(a_t, .inr (1, [.ref a_t_seconds, .ref a_t_pens, .ref a_t_minutes, .ref a_t_passers, .ref a_t_tried])), (a_t_minutes, .inl (cI, 60, .inl t_minutes')), (a_t_passers, .inl (cI, 4001, .inl t_passers')), (a_t_pens, .inl (cI, 60, .inl t_pens)), (a_t_seconds, .inl (cI, 720, .inl t_seconds)), (a_p1, .inr (4, [.ref a_p1_way, .ref a_p1_guns, .ref a_p1_runners])), (a_p1_runners, .inr (6, [.ref a_p1_runners_facts, .ref a_p1_runners_splits, .ref a_p1_runners_torn, .ref a_p1_runners_dropped, .ref a_p1_runners_waved, .ref a_p1_runners_struck, .ref a_p1_runners_strikingOrder, .int p1_runners_entered, .int p1_runners_strikings])), (a_p1_way, .inr (9, [.ref a_p1_way_places, .ref a_p1_way_bearings, .ref a_p1_way_cuts, .ref a_p1_way_deaths, .int p1_way_mats])), (a_p1_way_bearings, .inl (cI, 12, .inl p1_way_bearings)), (a_p2, .inr (2, [.ref a_p2_ticks])), (a_p2_ticks, .inl (cI, 6, .inl p2_ticks))] A) #[Value.ref a_t, Value.ref a_p1, Value.ref a_p2, Value.int x3] s 0 0 A) (F0 m 99 ls [.int s0_j99]) := by
                  intro s0_j99 H locs ls h hP hD hS hl
                  unfold fX1_firstTight_J99L44 at h
                  refine lv_istore (lv' := [(9, .int s0_j99), (8, .int r13), (7, .int v7_44), (6, .int v6_44), (5, .int r3), (4, .int r1), (0, .ref a_t), (1, .ref a_p1), (2, .ref a_p2), (3, .int x3)]) hx hb dX1_firstTight_99 hl (by decide) rfl (fun ls hl => ?_)
                  refine lv_aload_n hx hb dX1_firstTight_101 rfl (lv_at hl 6 rfl) ?_
                  refine va_get (D := D) (ci := 1) (C := RX1) (T := TX1) (N := 5) hx hb hts qX1_firstTight_X1 hown hK hP 0 rfl rfl 2 (by decide) (hts _ kX1_firstTight_4) (fun _ h9 => h9) rfl dX1_firstTight_102 ?_
                  refine lv_iload hx hb dX1_firstTight_105 (lv_at hl 2 rfl) ?_
                  refine lv_iload hx hb dX1_firstTight_107 (lv_at hl 0 rfl) ?_
                  obtain ⟨i15, h⟩ := zz_i h
                  refine va_iast hx hb hK hP hD hS 1 1 rfl rfl i15 dX1_firstTight_109 (fun H locs hP hD hS => ?_)
                  have hP : va_P D vwCl [(a_t, .inr (1, [.ref a_t_seconds, .ref a_t_pens, .ref a_t_minutes, .ref a_t_passers, .ref a_t_tried])), (a_t_minutes, .inl (cI, 60, .inl (upd t_minutes_l44 (v7_44).toNatClampNeg s0_j99))), (a_t_passers, .inl (cI, 4001, .inl t_passers_l44)), (a_t_pens, .inl (cI, 60, .inl t_pens)), (a_t_seconds, .inl (cI, 720, .inl t_seconds)), (a_p1, .inr (4, [.ref a_p1_way, .ref a_p1_guns, .ref a_p1_runners])), (a_p1_way, .inr (9, [.ref a_p1_way_places, .ref a_p1_way_bearings, .ref a_p1_way_cuts, .ref a_p1_way_deaths, .int p1_way_mats])), (a_p1_way_bearings, .inl (cI, 12, .inl p1_way_bearings)), (a_p1_runners, .inr (6, [.ref a_p1_runners_facts, .ref a_p1_runners_splits, .ref a_p1_runners_torn, .ref a_p1_runners_dropped, .ref a_p1_runners_waved, .ref a_p1_runners_struck, .ref a_p1_runners_strikingOrder, .int p1_runners_entered, .int p1_runners_strikings])), (a_p2, .inr (2, [.ref a_p2_ticks])), (a_p2_ticks, .inl (cI, 6, .inl p2_ticks))] H := hP
                  have hD : va_D A [(a_t, .inr (1, [.ref a_t_seconds, .ref a_t_pens, .ref a_t_minutes, .ref a_t_passers, .ref a_t_tried])), (a_t_minutes, .inl (cI, 60, .inl (upd t_minutes_l44 (v7_44).toNatClampNeg s0_j99))), (a_t_passers, .inl (cI, 4001, .inl t_passers_l44)), (a_t_pens, .inl (cI, 60, .inl t_pens)), (a_t_seconds, .inl (cI, 720, .inl t_seconds)), (a_p1, .inr (4, [.ref a_p1_way, .ref a_p1_guns, .ref a_p1_runners])), (a_p1_way, .inr (9, [.ref a_p1_way_places, .ref a_p1_way_bearings, .ref a_p1_way_cuts, .ref a_p1_way_deaths, .int p1_way_mats])), (a_p1_way_bearings, .inl (cI, 12, .inl p1_way_bearings)), (a_p1_runners, .inr (6, [.ref a_p1_runners_facts, .ref a_p1_runners_splits, .ref a_p1_runners_torn, .ref a_p1_runners_dropped, .ref a_p1_runners_waved, .ref a_p1_runners_struck, .ref a_p1_runners_strikingOrder, .int p1_runners_entered, .int p1_runners_strikings])), (a_p2, .inr (2, [.ref a_p2_ticks])), (a_p2_ticks, .inl (cI, 6, .inl p2_ticks))] := hD
                  refine lv_iload hx hb dX1_firstTight_110 (lv_at hl 0 rfl) ?_
                  have J180L44 : ∀ (v6_j180 : Int32) (t_passers_j180 : Nat → Int32) (H : Heap) (locs : List Loc) (ls : Array Slot), fX1_firstTight_J180L44 v7_44 t_minutes_l44 s0_j99 (fX1_firstTight_L44 t_pens t_seconds p2_ticks x3 r1 r3 (fun (v6_44 : Int32) (v7_44 : Int32) (t_minutes_l44 : Nat → Int32) (t_passers_l44 : Nat → Int32) => ((fX1_forgetPassers N t_minutes_l44 t_passers_l44 r3).bind (fun t_passers_r8 => some (v6_44, t_minutes_l44, t_passers_r8)))) n44) v6_j180 t_passers_j180 = some (r0, t_minutes', t_passers') → va_P D vwCl [(a_t, .inr (1, [.ref a_t_seconds, .ref a_t_pens, .ref a_t_minutes, .ref a_t_passers, .ref a_t_tried])), (a_t_minutes, .inl (cI, 60, .inl (upd t_minutes_l44 (v7_44).toNatClampNeg s0_j99))), (a_t_passers, .inl (cI, 4001, .inl t_passers_j180)), (a_t_pens, .inl (cI, 60, .inl t_pens)), (a_t_seconds, .inl (cI, 720, .inl t_seconds)), (a_p1, .inr (4, [.ref a_p1_way, .ref a_p1_guns, .ref a_p1_runners])), (a_p1_way, .inr (9, [.ref a_p1_way_places, .ref a_p1_way_bearings, .ref a_p1_way_cuts, .ref a_p1_way_deaths, .int p1_way_mats])), (a_p1_way_bearings, .inl (cI, 12, .inl p1_way_bearings)), (a_p1_runners, .inr (6, [.ref a_p1_runners_facts, .ref a_p1_runners_splits, .ref a_p1_runners_torn, .ref a_p1_runners_dropped, .ref a_p1_runners_waved, .ref a_p1_runners_struck, .ref a_p1_runners_strikingOrder, .int p1_runners_entered, .int p1_runners_strikings])), (a_p2, .inr (2, [.ref a_p2_ticks])), (a_p2_ticks, .inl (cI, 6, .inl p2_ticks))] H → va_D A [(a_t, .inr (1, [.ref a_t_seconds, .ref a_t_pens, .ref a_t_minutes, .ref a_t_passers, .ref a_t_tried])), (a_t_minutes, .inl (cI, 60, .inl (upd t_minutes_l44 (v7_44).toNatClampNeg s0_j99))), (a_t_passers, .inl (cI, 4001, .inl t_passers_j180)), (a_t_pens, .inl (cI, 60, .inl t_pens)), (a_t_seconds, .inl (cI, 720, .inl t_seconds)), (a_p1, .inr (4, [.ref a_p1_way, .ref a_p1_guns, .ref a_p1_runners])), (a_p1_way, .inr (9, [.ref a_p1_way_places, .ref a_p1_way_bearings, .ref a_p1_way_cuts, .ref a_p1_way_deaths, .int p1_way_mats])), (a_p1_way_bearings, .inl (cI, 12, .inl p1_way_bearings)), (a_p1_runners, .inr (6, [.ref a_p1_runners_facts, .ref a_p1_runners_splits, .ref a_p1_runners_torn, .ref a_p1_runners_dropped, .ref a_p1_runners_waved, .ref a_p1_runners_struck, .ref a_p1_runners_strikingOrder, .int p1_runners_entered, .int p1_runners_strikings])), (a_p2, .inr (2, [.ref a_p2_ticks])), (a_p2_ticks, .inl (cI, 6, .inl p2_ticks))] → va_S A s.heap H locs → lv_has ls 11 [(9, .int s0_j99), (8, .int r13), (7, .int v7_44), (6, .int v6_j180), (5, .int r3), (4, .int r1), (0, .ref a_t), (1, .ref a_p1), (2, .ref a_p2), (3, .int x3)] → W p l e (headSpec wsX1_firstTight ({ frames := 2, cells := 0, slots := 0, locals := 42 } : Room)).room s m #[Value.ref a_t, Value.ref a_p1, Value.ref a_p2, Value.int x3] below meth c H locs 0 0 (MQ below (zQi r0 D (zT cB cI cZ) [(a_t, .inr (1, [.ref a_t_seconds, .ref a_t_pens, .ref a_t_minutes, .ref a_t_passers, .ref a_t_tried])), (a_t_minutes, .inl (cI, 60, .inl t_minutes')), (a_t_passers, .inl (cI, 4001, .inl t_passers')), (a_t_pens, .inl (cI, 60, .inl t_pens)), (a_t_seconds, .inl (cI, 720, .inl t_seconds)), (a_p1, .inr (4, [.ref a_p1_way, .ref a_p1_guns, .ref a_p1_runners])), (a_p1_runners, .inr (6, [.ref a_p1_runners_facts, .ref a_p1_runners_splits, .ref a_p1_runners_torn, .ref a_p1_runners_dropped, .ref a_p1_runners_waved, .ref a_p1_runners_struck, .ref a_p1_runners_strikingOrder, .int p1_runners_entered, .int p1_runners_strikings])), (a_p1_way, .inr (9, [.ref a_p1_way_places, .ref a_p1_way_bearings, .ref a_p1_way_cuts, .ref a_p1_way_deaths, .int p1_way_mats])), (a_p1_way_bearings, .inl (cI, 12, .inl p1_way_bearings)), (a_p2, .inr (2, [.ref a_p2_ticks])), (a_p2_ticks, .inl (cI, 6, .inl p2_ticks))] A) #[Value.ref a_t, Value.ref a_p1, Value.ref a_p2, Value.int x3] s 0 0 A) (F0 m 180 ls []) := by
                    intro v6_j180 t_passers_j180 H locs ls h hP hD hS hl
                    unfold fX1_firstTight_J180L44 at h
                    refine lv_iinc (v := (v7_44 + (nI 1))) (lv' := [(7, .int (v7_44 + (nI 1))), (9, .int s0_j99), (8, .int r13), (6, .int v6_j180), (5, .int r3), (4, .int r1), (0, .ref a_t), (1, .ref a_p1), (2, .ref a_p2), (3, .int x3)]) hx hb dX1_firstTight_180 hl (k := 2) rfl rfl (by decide) rfl (fun ls hl => ?_)
                    refine lv_goto (tgt := 44) hx hb dX1_firstTight_183 (by decide) ?_
                    exact ih44 v6_j180 (v7_44 + (nI 1)) (upd t_minutes_l44 (v7_44).toNatClampNeg s0_j99) t_passers_j180 _ _ _ h (hP.sub [0, 1, 2, 3, 4, 5, 9, 10, 6, 7, 8] rfl) (hD.sub [0, 1, 2, 3, 4, 5, 9, 10, 6, 7, 8] rfl rfl) hS (lv_sub hl [0, 3, 4, 5, 6, 7, 8, 9] rfl)
                  refine lv_if_lt (tgt := 180) hx hb dX1_firstTight_112 (by decide) (fun c16 => ?_) (fun c16 => ?_)
                  · have h := zz_t h c16
                    exact J180L44 v6_44 t_passers_l44 _ _ _ h (hP.sub [0, 1, 2, 3, 4, 5, 6, 7, 8, 9, 10] rfl) (hD.sub [0, 1, 2, 3, 4, 5, 6, 7, 8, 9, 10] rfl rfl) hS (lv_sub hl [0, 1, 2, 3, 4, 5, 6, 7, 8, 9] rfl)
                  · have h := zz_f h c16
                    refine lv_iload hx hb dX1_firstTight_115 (lv_at hl 0 rfl) ?_
                    refine lv_sipush (v := (nI 4001)) hx hb dX1_firstTight_117 rfl ?_
                    refine lv_icmp_ge (tgt := 180) hx hb dX1_firstTight_120 (by decide) (fun c17 => ?_) (fun c17 => ?_)
                    · have h := zz_t h c17
                      exact J180L44 v6_44 t_passers_l44 _ _ _ h (hP.sub [0, 1, 2, 3, 4, 5, 6, 7, 8, 9, 10] rfl) (hD.sub [0, 1, 2, 3, 4, 5, 6, 7, 8, 9, 10] rfl rfl) hS (lv_sub hl [0, 1, 2, 3, 4, 5, 6, 7, 8, 9] rfl)
                    · have h := zz_f h c17
                      refine lv_aload_n hx hb dX1_firstTight_123 rfl (lv_at hl 6 rfl) ?_
                      refine va_get (D := D) (ci := 1) (C := RX1) (T := TX1) (N := 5) hx hb hts qX1_firstTight_X1 hown hK hP 0 rfl rfl 3 (by decide) (hts _ kX1_firstTight_5) (fun _ h9 => h9) rfl dX1_firstTight_124 ?_
                      refine lv_iload hx hb dX1_firstTight_127 (lv_at hl 0 rfl) ?_
                      refine lv_dup2_11 hx hb dX1_firstTight_129 rfl rfl ?_
                      obtain ⟨i18, h⟩ := zz_i h
                      refine va_iald hx hb hK hP 2 1 rfl rfl i18 dX1_firstTight_130 ?_
                      refine lv_iconst (v := (nI 1)) hx hb dX1_firstTight_131 rfl ?_
                      refine lv_iadd hx hb dX1_firstTight_132 ?_
                      obtain ⟨i19, h⟩ := zz_i h
                      refine va_iast hx hb hK hP hD hS 2 1 rfl rfl i19 dX1_firstTight_133 (fun H locs hP hD hS => ?_)
                      have hP : va_P D vwCl [(a_t, .inr (1, [.ref a_t_seconds, .ref a_t_pens, .ref a_t_minutes, .ref a_t_passers, .ref a_t_tried])), (a_t_minutes, .inl (cI, 60, .inl (upd t_minutes_l44 (v7_44).toNatClampNeg s0_j99))), (a_t_passers, .inl (cI, 4001, .inl (upd t_passers_l44 (s0_j99).toNatClampNeg ((t_passers_l44 (s0_j99).toNatClampNeg) + (nI 1))))), (a_t_pens, .inl (cI, 60, .inl t_pens)), (a_t_seconds, .inl (cI, 720, .inl t_seconds)), (a_p1, .inr (4, [.ref a_p1_way, .ref a_p1_guns, .ref a_p1_runners])), (a_p1_way, .inr (9, [.ref a_p1_way_places, .ref a_p1_way_bearings, .ref a_p1_way_cuts, .ref a_p1_way_deaths, .int p1_way_mats])), (a_p1_way_bearings, .inl (cI, 12, .inl p1_way_bearings)), (a_p1_runners, .inr (6, [.ref a_p1_runners_facts, .ref a_p1_runners_splits, .ref a_p1_runners_torn, .ref a_p1_runners_dropped, .ref a_p1_runners_waved, .ref a_p1_runners_struck, .ref a_p1_runners_strikingOrder, .int p1_runners_entered, .int p1_runners_strikings])), (a_p2, .inr (2, [.ref a_p2_ticks])), (a_p2_ticks, .inl (cI, 6, .inl p2_ticks))] H := hP
                      have hD : va_D A [(a_t, .inr (1, [.ref a_t_seconds, .ref a_t_pens, .ref a_t_minutes, .ref a_t_passers, .ref a_t_tried])), (a_t_minutes, .inl (cI, 60, .inl (upd t_minutes_l44 (v7_44).toNatClampNeg s0_j99))), (a_t_passers, .inl (cI, 4001, .inl (upd t_passers_l44 (s0_j99).toNatClampNeg ((t_passers_l44 (s0_j99).toNatClampNeg) + (nI 1))))), (a_t_pens, .inl (cI, 60, .inl t_pens)), (a_t_seconds, .inl (cI, 720, .inl t_seconds)), (a_p1, .inr (4, [.ref a_p1_way, .ref a_p1_guns, .ref a_p1_runners])), (a_p1_way, .inr (9, [.ref a_p1_way_places, .ref a_p1_way_bearings, .ref a_p1_way_cuts, .ref a_p1_way_deaths, .int p1_way_mats])), (a_p1_way_bearings, .inl (cI, 12, .inl p1_way_bearings)), (a_p1_runners, .inr (6, [.ref a_p1_runners_facts, .ref a_p1_runners_splits, .ref a_p1_runners_torn, .ref a_p1_runners_dropped, .ref a_p1_runners_waved, .ref a_p1_runners_struck, .ref a_p1_runners_strikingOrder, .int p1_runners_entered, .int p1_runners_strikings])), (a_p2, .inr (2, [.ref a_p2_ticks])), (a_p2_ticks, .inl (cI, 6, .inl p2_ticks))] := hD
                      refine lv_aload_n hx hb dX1_firstTight_134 rfl (lv_at hl 6 rfl) ?_
                      refine va_get (D := D) (ci := 1) (C := RX1) (T := TX1) (N := 5) hx hb hts qX1_firstTight_X1 hown hK hP 0 rfl rfl 3 (by decide) (hts _ kX1_firstTight_5) (fun _ h9 => h9) rfl dX1_firstTight_135 ?_
                      refine lv_iload hx hb dX1_firstTight_138 (lv_at hl 0 rfl) ?_
                      obtain ⟨i20, h⟩ := zz_i h
                      refine va_iald hx hb hK hP 2 1 rfl rfl i20 dX1_firstTight_140 ?_
                      refine lv_iload hx hb dX1_firstTight_141 (lv_at hl 5 rfl) ?_
                      refine lv_icmp_le (tgt := 150) hx hb dX1_firstTight_143 (by decide) (fun c21 => ?_) (fun c21 => ?_)
                      · have h := zz_t h c21
                        refine lv_iconst (v := (nI 0)) hx hb dX1_firstTight_150 rfl ?_
                        refine lv_istore (lv' := [(10, .int (nI 0)), (9, .int s0_j99), (8, .int r13), (7, .int v7_44), (6, .int v6_44), (5, .int r3), (4, .int r1), (0, .ref a_t), (1, .ref a_p1), (2, .ref a_p2), (3, .int x3)]) hx hb dX1_firstTight_151 hl (by decide) rfl (fun ls hl => ?_)
                        refine lv_iload hx hb dX1_firstTight_153 (lv_at hl 0 rfl) ?_
                        refine lv_if_eq (tgt := 176) hx hb dX1_firstTight_155 (by decide) (fun _ => ?_) (fun c_ => absurd (by decide) c_)
                        refine lv_iload hx hb dX1_firstTight_176 (lv_at hl 4 rfl) ?_
                        refine lv_istore (lv' := [(6, .int v6_44), (10, .int (nI 0)), (9, .int s0_j99), (8, .int r13), (7, .int v7_44), (5, .int r3), (4, .int r1), (0, .ref a_t), (1, .ref a_p1), (2, .ref a_p2), (3, .int x3)]) hx hb dX1_firstTight_178 hl (by decide) rfl (fun ls hl => ?_)
                        exact J180L44 v6_44 (upd t_passers_l44 (s0_j99).toNatClampNeg ((t_passers_l44 (s0_j99).toNatClampNeg) + (nI 1))) _ _ _ h (hP.sub [0, 1, 2, 3, 4, 5, 6, 7, 8, 9, 10] rfl) (hD.sub [0, 1, 2, 3, 4, 5, 6, 7, 8, 9, 10] rfl rfl) hS (lv_sub hl [2, 3, 4, 0, 5, 6, 7, 8, 9, 10] rfl)
                      · have h := zz_f h c21
                        refine lv_iconst (v := (nI 1)) hx hb dX1_firstTight_146 rfl ?_
                        refine lv_goto (tgt := 151) hx hb dX1_firstTight_147 (by decide) ?_
                        refine lv_istore (lv' := [(10, .int (nI 1)), (9, .int s0_j99), (8, .int r13), (7, .int v7_44), (6, .int v6_44), (5, .int r3), (4, .int r1), (0, .ref a_t), (1, .ref a_p1), (2, .ref a_p2), (3, .int x3)]) hx hb dX1_firstTight_151 hl (by decide) rfl (fun ls hl => ?_)
                        refine lv_iload hx hb dX1_firstTight_153 (lv_at hl 0 rfl) ?_
                        refine lv_if_eq (tgt := 176) hx hb dX1_firstTight_155 (by decide) (fun c_ => absurd c_ (by decide)) (fun _ => ?_)
                        refine lv_iload hx hb dX1_firstTight_158 (lv_at hl 4 rfl) ?_
                        refine lv_iconst (v := (-1 : Int32)) hx hb dX1_firstTight_160 rfl ?_
                        refine lv_icmp_eq (tgt := 171) hx hb dX1_firstTight_161 (by decide) (fun c22 => ?_) (fun c22 => ?_)
                        · have h := zz_t h c22
                          refine lv_iload hx hb dX1_firstTight_171 (lv_at hl 1 rfl) ?_
                          refine lv_goto (tgt := 178) hx hb dX1_firstTight_173 (by decide) ?_
                          refine lv_istore (lv' := [(6, .int s0_j99), (10, .int (nI 1)), (9, .int s0_j99), (8, .int r13), (7, .int v7_44), (5, .int r3), (4, .int r1), (0, .ref a_t), (1, .ref a_p1), (2, .ref a_p2), (3, .int x3)]) hx hb dX1_firstTight_178 hl (by decide) rfl (fun ls hl => ?_)
                          exact J180L44 s0_j99 (upd t_passers_l44 (s0_j99).toNatClampNeg ((t_passers_l44 (s0_j99).toNatClampNeg) + (nI 1))) _ _ _ h (hP.sub [0, 1, 2, 3, 4, 5, 6, 7, 8, 9, 10] rfl) (hD.sub [0, 1, 2, 3, 4, 5, 6, 7, 8, 9, 10] rfl rfl) hS (lv_sub hl [2, 3, 4, 0, 5, 6, 7, 8, 9, 10] rfl)
                        · have h := zz_f h c22
                          refine lv_iload hx hb dX1_firstTight_164 (lv_at hl 1 rfl) ?_
                          refine lv_iload hx hb dX1_firstTight_166 (lv_at hl 4 rfl) ?_
                          refine lv_icmp_ge (tgt := 176) hx hb dX1_firstTight_168 (by decide) (fun c23 => ?_) (fun c23 => ?_)
                          · have h := zz_t h c23
                            refine lv_iload hx hb dX1_firstTight_176 (lv_at hl 4 rfl) ?_
                            refine lv_istore (lv' := [(6, .int v6_44), (10, .int (nI 1)), (9, .int s0_j99), (8, .int r13), (7, .int v7_44), (5, .int r3), (4, .int r1), (0, .ref a_t), (1, .ref a_p1), (2, .ref a_p2), (3, .int x3)]) hx hb dX1_firstTight_178 hl (by decide) rfl (fun ls hl => ?_)
                            exact J180L44 v6_44 (upd t_passers_l44 (s0_j99).toNatClampNeg ((t_passers_l44 (s0_j99).toNatClampNeg) + (nI 1))) _ _ _ h (hP.sub [0, 1, 2, 3, 4, 5, 6, 7, 8, 9, 10] rfl) (hD.sub [0, 1, 2, 3, 4, 5, 6, 7, 8, 9, 10] rfl rfl) hS (lv_sub hl [2, 3, 4, 0, 5, 6, 7, 8, 9, 10] rfl)
                          · have h := zz_f h c23
                            refine lv_iload hx hb dX1_firstTight_171 (lv_at hl 1 rfl) ?_
                            refine lv_goto (tgt := 178) hx hb dX1_firstTight_173 (by decide) ?_
                            refine lv_istore (lv' := [(6, .int s0_j99), (10, .int (nI 1)), (9, .int s0_j99), (8, .int r13), (7, .int v7_44), (5, .int r3), (4, .int r1), (0, .ref a_t), (1, .ref a_p1), (2, .ref a_p2), (3, .int x3)]) hx hb dX1_firstTight_178 hl (by decide) rfl (fun ls hl => ?_)
                            exact J180L44 s0_j99 (upd t_passers_l44 (s0_j99).toNatClampNeg ((t_passers_l44 (s0_j99).toNatClampNeg) + (nI 1))) _ _ _ h (hP.sub [0, 1, 2, 3, 4, 5, 6, 7, 8, 9, 10] rfl) (hD.sub [0, 1, 2, 3, 4, 5, 6, 7, 8, 9, 10] rfl rfl) hS (lv_sub hl [2, 3, 4, 0, 5, 6, 7, 8, 9, 10] rfl)
                refine lv_icmp_ne (tgt := 81) hx hb dX1_firstTight_74 (by decide) (fun c24 => ?_) (fun c24 => ?_)
                · have h := zz_f h c24
                  refine lv_iload hx hb dX1_firstTight_81 (lv_at hl 0 rfl) ?_
                  refine lv_aload_n hx hb dX1_firstTight_83 rfl (lv_at hl 5 rfl) ?_
                  refine va_get (D := D) (ci := 1) (C := RX1) (T := TX1) (N := 5) hx hb hts qX1_firstTight_X1 hown hK hP 0 rfl rfl 0 (by decide) (hts _ kX1_firstTight_3) (fun _ h9 => h9) rfl dX1_firstTight_84 ?_
                  refine lv_iload hx hb dX1_firstTight_87 (lv_at hl 1 rfl) ?_
                  refine lv_bipush (v := (nI 12)) hx hb dX1_firstTight_89 rfl ?_
                  refine lv_imul hx hb dX1_firstTight_91 ?_
                  refine lv_iload_n hx hb dX1_firstTight_92 rfl (lv_at hl 8 rfl) ?_
                  refine lv_iadd hx hb dX1_firstTight_93 ?_
                  obtain ⟨i25, h⟩ := zz_i h
                  refine va_iald hx hb hK hP 4 1 rfl rfl i25 dX1_firstTight_94 ?_
                  refine lv_iadd hx hb dX1_firstTight_95 ?_
                  refine lv_bipush (v := (nI 60)) hx hb dX1_firstTight_96 rfl ?_
                  refine lv_idiv hx hb dX1_firstTight_98 (by decide) ?_
                  exact J99L44 ((r13 + (t_seconds (((v7_44 * (nI 12)) + x3)).toNatClampNeg)) / (nI 60)) _ _ _ h (hP.sub [0, 1, 2, 3, 4, 5, 6, 7, 8, 9, 10] rfl) (hD.sub [0, 1, 2, 3, 4, 5, 6, 7, 8, 9, 10] rfl rfl) hS (lv_sub hl [0, 1, 2, 3, 4, 5, 6, 7, 8] rfl)
                · have h := zz_t h c24
                  refine lv_iconst (v := (-1 : Int32)) hx hb dX1_firstTight_77 rfl ?_
                  refine lv_goto (tgt := 99) hx hb dX1_firstTight_78 (by decide) ?_
                  exact J99L44 (-1 : Int32) _ _ _ h (hP.sub [0, 1, 2, 3, 4, 5, 6, 7, 8, 9, 10] rfl) (hD.sub [0, 1, 2, 3, 4, 5, 6, 7, 8, 9, 10] rfl rfl) hS (lv_sub hl [0, 1, 2, 3, 4, 5, 6, 7, 8] rfl)
        exact L44 N (-1 : Int32) (nI 0) t_minutes t_passers _ _ _ h hP hD hS hl
      · have h := zz_f h c7
        refine lv_iconst (v := (-1 : Int32)) hx hb dX1_firstTight_36 rfl ?_
        obtain ⟨j0_, g_⟩ := Prod.mk.inj (Option.some.inj h)
        obtain ⟨j1_, g_⟩ := Prod.mk.inj g_
        have j2_ := g_
        subst j0_
        subst j1_
        subst j2_
        exact W.iret (v := (-1 : Int32)) hx hb hr (fun t ht hW => ⟨⟨_, (), rfl, rfl, zPost.of hP hD hK ht hW [0, 1, 2, 3, 4, 5, 10, 8, 9, 6, 7] rfl rfl rfl⟩, hS.F ht⟩) hS.2.2 dX1_firstTight_37
/-! RunDesk$Foretelling.firstTightMinute -/
theorem dX1_firstTightMinute_0 : decode cX1_firstTightMinute 0 = .ok (.aload_n 0, 1) := by decide +kernel
theorem dX1_firstTightMinute_1 : decode cX1_firstTightMinute 1 = .ok (.aload_n 1, 1) := by decide +kernel
theorem dX1_firstTightMinute_2 : decode cX1_firstTightMinute 2 = .ok (.iload_n 2, 1) := by decide +kernel
theorem dX1_firstTightMinute_3 : decode cX1_firstTightMinute 3 = .ok (.invokevirtual 63, 3) := by decide +kernel
theorem dX1_firstTightMinute_6 : decode cX1_firstTightMinute 6 = .ok (.aload_n 0, 1) := by decide +kernel
theorem dX1_firstTightMinute_7 : decode cX1_firstTightMinute 7 = .ok (.aload_n 1, 1) := by decide +kernel
theorem dX1_firstTightMinute_8 : decode cX1_firstTightMinute 8 = .ok (.aload_n 1, 1) := by decide +kernel
theorem dX1_firstTightMinute_9 : decode cX1_firstTightMinute 9 = .ok (.getfield 67, 3) := by decide +kernel
theorem dX1_firstTightMinute_12 : decode cX1_firstTightMinute 12 = .ok (.iload_n 2, 1) := by decide +kernel
theorem dX1_firstTightMinute_13 : decode cX1_firstTightMinute 13 = .ok (.invokevirtual 70, 3) := by decide +kernel
theorem dX1_firstTightMinute_16 : decode cX1_firstTightMinute 16 = .ok (.ireturn, 1) := by decide +kernel
set_option maxRecDepth 20000 in
theorem ggX1_firstTightMinute_X1_prepare : GoodIn wsX1_firstTightMinute wsX1_prepare := goodIn_sub (List.forall_mem_cons.mpr ⟨List.mem_cons_of_mem _ (List.mem_append_left _ (List.mem_append_left _ (List.mem_append_left _ (List.mem_append_left _ (List.mem_append_left _ (List.mem_append_left _ (List.mem_of_getElem? (l := wsX1_firstTightMinute_r1) (i := 4) rfl))))))), (List.forall_mem_append.mpr ⟨(List.forall_mem_append.mpr ⟨(List.forall_mem_append.mpr ⟨(List.forall_mem_append.mpr ⟨(List.forall_mem_append.mpr ⟨(List.forall_mem_cons.mpr ⟨List.mem_cons_of_mem _ (List.mem_append_left _ (List.mem_append_left _ (List.mem_append_left _ (List.mem_append_left _ (List.mem_append_left _ (List.mem_append_left _ (List.mem_of_getElem? (l := wsX1_firstTightMinute_r1) (i := 5) rfl))))))), (List.forall_mem_cons.mpr ⟨List.mem_cons_of_mem _ (List.mem_append_left _ (List.mem_append_left _ (List.mem_append_left _ (List.mem_append_left _ (List.mem_append_left _ (List.mem_append_left _ (List.mem_of_getElem? (l := wsX1_firstTightMinute_r1) (i := 6) rfl))))))), (List.forall_mem_cons.mpr ⟨List.mem_cons_of_mem _ (List.mem_append_left _ (List.mem_append_left _ (List.mem_append_left _ (List.mem_append_left _ (List.mem_append_left _ (List.mem_append_left _ (List.mem_of_getElem? (l := wsX1_firstTightMinute_r1) (i := 7) rfl))))))), (List.forall_mem_cons.mpr ⟨List.mem_cons_of_mem _ (List.mem_append_left _ (List.mem_append_left _ (List.mem_append_left _ (List.mem_append_left _ (List.mem_append_left _ (List.mem_append_left _ (List.mem_of_getElem? (l := wsX1_firstTightMinute_r1) (i := 8) rfl))))))), (List.forall_mem_cons.mpr ⟨List.mem_cons_of_mem _ (List.mem_append_left _ (List.mem_append_left _ (List.mem_append_left _ (List.mem_append_left _ (List.mem_append_left _ (List.mem_append_left _ (List.mem_of_getElem? (l := wsX1_firstTightMinute_r1) (i := 9) rfl))))))), (List.forall_mem_cons.mpr ⟨List.mem_cons_of_mem _ (List.mem_append_left _ (List.mem_append_left _ (List.mem_append_left _ (List.mem_append_left _ (List.mem_append_left _ (List.mem_append_left _ (List.mem_of_getElem? (l := wsX1_firstTightMinute_r1) (i := 10) rfl))))))), (List.forall_mem_cons.mpr ⟨List.mem_cons_of_mem _ (List.mem_append_left _ (List.mem_append_left _ (List.mem_append_left _ (List.mem_append_left _ (List.mem_append_left _ (List.mem_append_left _ (List.mem_of_getElem? (l := wsX1_firstTightMinute_r1) (i := 11) rfl))))))), (List.forall_mem_cons.mpr ⟨List.mem_cons_of_mem _ (List.mem_append_left _ (List.mem_append_left _ (List.mem_append_left _ (List.mem_append_left _ (List.mem_append_left _ (List.mem_append_left _ (List.mem_of_getElem? (l := wsX1_firstTightMinute_r1) (i := 12) rfl))))))), (List.forall_mem_cons.mpr ⟨List.mem_cons_of_mem _ (List.mem_append_left _ (List.mem_append_left _ (List.mem_append_left _ (List.mem_append_left _ (List.mem_append_left _ (List.mem_append_left _ (List.mem_of_getElem? (l := wsX1_firstTightMinute_r1) (i := 13) rfl))))))), (List.forall_mem_cons.mpr ⟨List.mem_cons_of_mem _ (List.mem_append_left _ (List.mem_append_left _ (List.mem_append_left _ (List.mem_append_left _ (List.mem_append_left _ (List.mem_append_left _ (List.mem_of_getElem? (l := wsX1_firstTightMinute_r1) (i := 14) rfl))))))), (List.forall_mem_cons.mpr ⟨List.mem_cons_of_mem _ (List.mem_append_left _ (List.mem_append_left _ (List.mem_append_left _ (List.mem_append_left _ (List.mem_append_left _ (List.mem_append_left _ (List.mem_of_getElem? (l := wsX1_firstTightMinute_r1) (i := 15) rfl))))))), (List.forall_mem_cons.mpr ⟨List.mem_cons_of_mem _ (List.mem_append_left _ (List.mem_append_left _ (List.mem_append_left _ (List.mem_append_left _ (List.mem_append_left _ (List.mem_append_left _ (List.mem_of_getElem? (l := wsX1_firstTightMinute_r1) (i := 16) rfl))))))), (List.forall_mem_cons.mpr ⟨List.mem_cons_of_mem _ (List.mem_append_left _ (List.mem_append_left _ (List.mem_append_left _ (List.mem_append_left _ (List.mem_append_left _ (List.mem_append_left _ (List.mem_of_getElem? (l := wsX1_firstTightMinute_r1) (i := 17) rfl))))))), (List.forall_mem_cons.mpr ⟨List.mem_cons_of_mem _ (List.mem_append_left _ (List.mem_append_left _ (List.mem_append_left _ (List.mem_append_left _ (List.mem_append_left _ (List.mem_append_left _ (List.mem_of_getElem? (l := wsX1_firstTightMinute_r1) (i := 18) rfl))))))), (List.forall_mem_cons.mpr ⟨List.mem_cons_of_mem _ (List.mem_append_left _ (List.mem_append_left _ (List.mem_append_left _ (List.mem_append_left _ (List.mem_append_left _ (List.mem_append_left _ (List.mem_of_getElem? (l := wsX1_firstTightMinute_r1) (i := 19) rfl))))))), (List.forall_mem_cons.mpr ⟨List.mem_cons_of_mem _ (List.mem_append_left _ (List.mem_append_left _ (List.mem_append_left _ (List.mem_append_left _ (List.mem_append_left _ (List.mem_append_left _ (List.mem_of_getElem? (l := wsX1_firstTightMinute_r1) (i := 20) rfl))))))), (List.forall_mem_cons.mpr ⟨List.mem_cons_of_mem _ (List.mem_append_left _ (List.mem_append_left _ (List.mem_append_left _ (List.mem_append_left _ (List.mem_append_left _ (List.mem_append_left _ (List.mem_of_getElem? (l := wsX1_firstTightMinute_r1) (i := 21) rfl))))))), (List.forall_mem_cons.mpr ⟨List.mem_cons_of_mem _ (List.mem_append_left _ (List.mem_append_left _ (List.mem_append_left _ (List.mem_append_left _ (List.mem_append_left _ (List.mem_append_left _ (List.mem_of_getElem? (l := wsX1_firstTightMinute_r1) (i := 22) rfl))))))), (List.forall_mem_cons.mpr ⟨List.mem_cons_of_mem _ (List.mem_append_left _ (List.mem_append_left _ (List.mem_append_left _ (List.mem_append_left _ (List.mem_append_left _ (List.mem_append_left _ (List.mem_of_getElem? (l := wsX1_firstTightMinute_r1) (i := 23) rfl))))))), (List.forall_mem_cons.mpr ⟨List.mem_cons_of_mem _ (List.mem_append_left _ (List.mem_append_left _ (List.mem_append_left _ (List.mem_append_left _ (List.mem_append_left _ (List.mem_append_right _ (List.mem_append_left _ (List.mem_of_getElem? (l := wsX1_firstTightMinute_r2) (i := 0) rfl)))))))), (List.forall_mem_cons.mpr ⟨List.mem_cons_of_mem _ (List.mem_append_left _ (List.mem_append_left _ (List.mem_append_left _ (List.mem_append_left _ (List.mem_append_left _ (List.mem_append_right _ (List.mem_append_left _ (List.mem_of_getElem? (l := wsX1_firstTightMinute_r2) (i := 1) rfl)))))))), (List.forall_mem_cons.mpr ⟨List.mem_cons_of_mem _ (List.mem_append_left _ (List.mem_append_left _ (List.mem_append_left _ (List.mem_append_left _ (List.mem_append_left _ (List.mem_append_right _ (List.mem_append_left _ (List.mem_of_getElem? (l := wsX1_firstTightMinute_r2) (i := 2) rfl)))))))), (List.forall_mem_cons.mpr ⟨List.mem_cons_of_mem _ (List.mem_append_left _ (List.mem_append_left _ (List.mem_append_left _ (List.mem_append_left _ (List.mem_append_left _ (List.mem_append_right _ (List.mem_append_left _ (List.mem_of_getElem? (l := wsX1_firstTightMinute_r2) (i := 3) rfl)))))))), (List.forall_mem_cons.mpr ⟨List.mem_cons_of_mem _ (List.mem_append_left _ (List.mem_append_left _ (List.mem_append_left _ (List.mem_append_left _ (List.mem_append_left _ (List.mem_append_right _ (List.mem_append_left _ (List.mem_of_getElem? (l := wsX1_firstTightMinute_r2) (i := 4) rfl)))))))), (fun _ h => nomatch h)⟩)⟩)⟩)⟩)⟩)⟩)⟩)⟩)⟩)⟩)⟩)⟩)⟩)⟩)⟩)⟩)⟩)⟩)⟩)⟩)⟩)⟩)⟩)⟩), (List.forall_mem_cons.mpr ⟨List.mem_cons_of_mem _ (List.mem_append_left _ (List.mem_append_left _ (List.mem_append_left _ (List.mem_append_left _ (List.mem_append_left _ (List.mem_append_right _ (List.mem_append_left _ (List.mem_of_getElem? (l := wsX1_firstTightMinute_r2) (i := 5) rfl)))))))), (List.forall_mem_cons.mpr ⟨List.mem_cons_of_mem _ (List.mem_append_left _ (List.mem_append_left _ (List.mem_append_left _ (List.mem_append_left _ (List.mem_append_left _ (List.mem_append_right _ (List.mem_append_left _ (List.mem_of_getElem? (l := wsX1_firstTightMinute_r2) (i := 6) rfl)))))))), (List.forall_mem_cons.mpr ⟨List.mem_cons_of_mem _ (List.mem_append_left _ (List.mem_append_left _ (List.mem_append_left _ (List.mem_append_left _ (List.mem_append_left _ (List.mem_append_right _ (List.mem_append_left _ (List.mem_of_getElem? (l := wsX1_firstTightMinute_r2) (i := 7) rfl)))))))), (fun _ h => nomatch h)⟩)⟩)⟩)⟩), (fun _ h => List.mem_cons_of_mem _ (List.mem_append_left _ (List.mem_append_left _ (List.mem_append_left _ (List.mem_append_left _ (List.mem_append_right _ (h)))))))⟩), (fun _ h => List.mem_cons_of_mem _ (List.mem_append_left _ (List.mem_append_left _ (List.mem_append_left _ (List.mem_append_right _ (h))))))⟩), (fun _ h => List.mem_cons_of_mem _ (List.mem_append_left _ (List.mem_append_left _ (List.mem_append_right _ (h)))))⟩), (fun _ h => List.mem_cons_of_mem _ (List.mem_append_left _ (List.mem_append_right _ (h))))⟩)⟩) (by decide +kernel)
set_option maxRecDepth 20000 in
theorem gX1_firstTightMinute_X1_prepare : GoodIn wsX1_firstTightMinute (wsV RX1 63 RX1 yX1_prepare wsX1_prepare) := goodIn_app (goodIn_of _ (by decide +kernel)) ggX1_firstTightMinute_X1_prepare
set_option maxRecDepth 20000 in
theorem ggX1_firstTightMinute_X1_firstTight : GoodIn wsX1_firstTightMinute wsX1_firstTight := goodIn_sub (List.forall_mem_cons.mpr ⟨List.mem_cons_of_mem _ (List.mem_append_left _ (List.mem_append_left _ (List.mem_append_left _ (List.mem_append_left _ (List.mem_append_left _ (List.mem_append_right _ (List.mem_append_left _ (List.mem_of_getElem? (l := wsX1_firstTightMinute_r2) (i := 11) rfl)))))))), (List.forall_mem_append.mpr ⟨(List.forall_mem_append.mpr ⟨(List.forall_mem_append.mpr ⟨(List.forall_mem_append.mpr ⟨(List.forall_mem_append.mpr ⟨(List.forall_mem_append.mpr ⟨(List.forall_mem_cons.mpr ⟨List.mem_cons_of_mem _ (List.mem_append_left _ (List.mem_append_left _ (List.mem_append_left _ (List.mem_append_left _ (List.mem_append_left _ (List.mem_append_left _ (List.mem_of_getElem? (l := wsX1_firstTightMinute_r1) (i := 5) rfl))))))), (List.forall_mem_cons.mpr ⟨List.mem_cons_of_mem _ (List.mem_append_left _ (List.mem_append_left _ (List.mem_append_left _ (List.mem_append_left _ (List.mem_append_left _ (List.mem_append_left _ (List.mem_of_getElem? (l := wsX1_firstTightMinute_r1) (i := 6) rfl))))))), (List.forall_mem_cons.mpr ⟨List.mem_cons_of_mem _ (List.mem_append_left _ (List.mem_append_left _ (List.mem_append_left _ (List.mem_append_left _ (List.mem_append_left _ (List.mem_append_right _ (List.mem_append_left _ (List.mem_of_getElem? (l := wsX1_firstTightMinute_r2) (i := 12) rfl)))))))), (List.forall_mem_cons.mpr ⟨List.mem_cons_of_mem _ (List.mem_append_left _ (List.mem_append_left _ (List.mem_append_left _ (List.mem_append_left _ (List.mem_append_left _ (List.mem_append_right _ (List.mem_append_left _ (List.mem_of_getElem? (l := wsX1_firstTightMinute_r2) (i := 13) rfl)))))))), (List.forall_mem_cons.mpr ⟨List.mem_cons_of_mem _ (List.mem_append_left _ (List.mem_append_left _ (List.mem_append_left _ (List.mem_append_left _ (List.mem_append_left _ (List.mem_append_right _ (List.mem_append_left _ (List.mem_of_getElem? (l := wsX1_firstTightMinute_r2) (i := 14) rfl)))))))), (List.forall_mem_cons.mpr ⟨List.mem_cons_of_mem _ (List.mem_append_left _ (List.mem_append_left _ (List.mem_append_left _ (List.mem_append_left _ (List.mem_append_left _ (List.mem_append_right _ (List.mem_append_left _ (List.mem_of_getElem? (l := wsX1_firstTightMinute_r2) (i := 15) rfl)))))))), (List.forall_mem_cons.mpr ⟨List.mem_cons_of_mem _ (List.mem_append_left _ (List.mem_append_left _ (List.mem_append_left _ (List.mem_append_left _ (List.mem_append_left _ (List.mem_append_right _ (List.mem_append_left _ (List.mem_of_getElem? (l := wsX1_firstTightMinute_r2) (i := 16) rfl)))))))), (List.forall_mem_cons.mpr ⟨List.mem_cons_of_mem _ (List.mem_append_left _ (List.mem_append_left _ (List.mem_append_left _ (List.mem_append_left _ (List.mem_append_left _ (List.mem_append_left _ (List.mem_of_getElem? (l := wsX1_firstTightMinute_r1) (i := 10) rfl))))))), (List.forall_mem_cons.mpr ⟨List.mem_cons_of_mem _ (List.mem_append_left _ (List.mem_append_left _ (List.mem_append_left _ (List.mem_append_left _ (List.mem_append_left _ (List.mem_append_right _ (List.mem_append_left _ (List.mem_of_getElem? (l := wsX1_firstTightMinute_r2) (i := 17) rfl)))))))), (List.forall_mem_cons.mpr ⟨List.mem_cons_of_mem _ (List.mem_append_left _ (List.mem_append_left _ (List.mem_append_left _ (List.mem_append_left _ (List.mem_append_left _ (List.mem_append_right _ (List.mem_append_left _ (List.mem_of_getElem? (l := wsX1_firstTightMinute_r2) (i := 18) rfl)))))))), (List.forall_mem_cons.mpr ⟨List.mem_cons_of_mem _ (List.mem_append_left _ (List.mem_append_left _ (List.mem_append_left _ (List.mem_append_left _ (List.mem_append_left _ (List.mem_append_left _ (List.mem_of_getElem? (l := wsX1_firstTightMinute_r1) (i := 13) rfl))))))), (List.forall_mem_cons.mpr ⟨List.mem_cons_of_mem _ (List.mem_append_left _ (List.mem_append_left _ (List.mem_append_left _ (List.mem_append_left _ (List.mem_append_left _ (List.mem_append_left _ (List.mem_of_getElem? (l := wsX1_firstTightMinute_r1) (i := 14) rfl))))))), (List.forall_mem_cons.mpr ⟨List.mem_cons_of_mem _ (List.mem_append_left _ (List.mem_append_left _ (List.mem_append_left _ (List.mem_append_left _ (List.mem_append_left _ (List.mem_append_left _ (List.mem_of_getElem? (l := wsX1_firstTightMinute_r1) (i := 15) rfl))))))), (List.forall_mem_cons.mpr ⟨List.mem_cons_of_mem _ (List.mem_append_left _ (List.mem_append_left _ (List.mem_append_left _ (List.mem_append_left _ (List.mem_append_left _ (List.mem_append_left _ (List.mem_of_getElem? (l := wsX1_firstTightMinute_r1) (i := 16) rfl))))))), (List.forall_mem_cons.mpr ⟨List.mem_cons_of_mem _ (List.mem_append_left _ (List.mem_append_left _ (List.mem_append_left _ (List.mem_append_left _ (List.mem_append_left _ (List.mem_append_left _ (List.mem_of_getElem? (l := wsX1_firstTightMinute_r1) (i := 17) rfl))))))), (List.forall_mem_cons.mpr ⟨List.mem_cons_of_mem _ (List.mem_append_left _ (List.mem_append_left _ (List.mem_append_left _ (List.mem_append_left _ (List.mem_append_left _ (List.mem_append_left _ (List.mem_of_getElem? (l := wsX1_firstTightMinute_r1) (i := 18) rfl))))))), (List.forall_mem_cons.mpr ⟨List.mem_cons_of_mem _ (List.mem_append_left _ (List.mem_append_left _ (List.mem_append_left _ (List.mem_append_left _ (List.mem_append_left _ (List.mem_append_left _ (List.mem_of_getElem? (l := wsX1_firstTightMinute_r1) (i := 19) rfl))))))), (List.forall_mem_cons.mpr ⟨List.mem_cons_of_mem _ (List.mem_append_left _ (List.mem_append_left _ (List.mem_append_left _ (List.mem_append_left _ (List.mem_append_left _ (List.mem_append_left _ (List.mem_of_getElem? (l := wsX1_firstTightMinute_r1) (i := 20) rfl))))))), (List.forall_mem_cons.mpr ⟨List.mem_cons_of_mem _ (List.mem_append_left _ (List.mem_append_left _ (List.mem_append_left _ (List.mem_append_left _ (List.mem_append_left _ (List.mem_append_left _ (List.mem_of_getElem? (l := wsX1_firstTightMinute_r1) (i := 21) rfl))))))), (List.forall_mem_cons.mpr ⟨List.mem_cons_of_mem _ (List.mem_append_left _ (List.mem_append_left _ (List.mem_append_left _ (List.mem_append_left _ (List.mem_append_left _ (List.mem_append_left _ (List.mem_of_getElem? (l := wsX1_firstTightMinute_r1) (i := 22) rfl))))))), (List.forall_mem_cons.mpr ⟨List.mem_cons_of_mem _ (List.mem_append_left _ (List.mem_append_left _ (List.mem_append_left _ (List.mem_append_left _ (List.mem_append_left _ (List.mem_append_left _ (List.mem_of_getElem? (l := wsX1_firstTightMinute_r1) (i := 23) rfl))))))), (List.forall_mem_cons.mpr ⟨List.mem_cons_of_mem _ (List.mem_append_left _ (List.mem_append_left _ (List.mem_append_left _ (List.mem_append_left _ (List.mem_append_left _ (List.mem_append_right _ (List.mem_append_left _ (List.mem_of_getElem? (l := wsX1_firstTightMinute_r2) (i := 19) rfl)))))))), (List.forall_mem_cons.mpr ⟨List.mem_cons_of_mem _ (List.mem_append_left _ (List.mem_append_left _ (List.mem_append_left _ (List.mem_append_left _ (List.mem_append_left _ (List.mem_append_right _ (List.mem_append_left _ (List.mem_of_getElem? (l := wsX1_firstTightMinute_r2) (i := 20) rfl)))))))), (List.forall_mem_cons.mpr ⟨List.mem_cons_of_mem _ (List.mem_append_left _ (List.mem_append_left _ (List.mem_append_left _ (List.mem_append_left _ (List.mem_append_left _ (List.mem_append_right _ (List.mem_append_left _ (List.mem_of_getElem? (l := wsX1_firstTightMinute_r2) (i := 21) rfl)))))))), (fun _ h => nomatch h)⟩)⟩)⟩)⟩)⟩)⟩)⟩)⟩)⟩)⟩)⟩)⟩)⟩)⟩)⟩)⟩)⟩)⟩)⟩)⟩)⟩)⟩)⟩)⟩), (List.forall_mem_cons.mpr ⟨List.mem_cons_of_mem _ (List.mem_append_left _ (List.mem_append_left _ (List.mem_append_left _ (List.mem_append_left _ (List.mem_append_left _ (List.mem_append_right _ (List.mem_append_left _ (List.mem_of_getElem? (l := wsX1_firstTightMinute_r2) (i := 22) rfl)))))))), (List.forall_mem_cons.mpr ⟨List.mem_cons_of_mem _ (List.mem_append_left _ (List.mem_append_left _ (List.mem_append_left _ (List.mem_append_left _ (List.mem_append_left _ (List.mem_append_right _ (List.mem_append_left _ (List.mem_of_getElem? (l := wsX1_firstTightMinute_r2) (i := 23) rfl)))))))), (List.forall_mem_cons.mpr ⟨List.mem_cons_of_mem _ (List.mem_append_left _ (List.mem_append_left _ (List.mem_append_left _ (List.mem_append_left _ (List.mem_append_left _ (List.mem_append_right _ (List.mem_append_right _ (List.mem_of_getElem? (l := wsX1_firstTightMinute_r3) (i := 0) rfl)))))))), (List.forall_mem_cons.mpr ⟨List.mem_cons_of_mem _ (List.mem_append_left _ (List.mem_append_left _ (List.mem_append_left _ (List.mem_append_left _ (List.mem_append_left _ (List.mem_append_right _ (List.mem_append_right _ (List.mem_of_getElem? (l := wsX1_firstTightMinute_r3) (i := 1) rfl)))))))), (List.forall_mem_cons.mpr ⟨List.mem_cons_of_mem _ (List.mem_append_left _ (List.mem_append_left _ (List.mem_append_left _ (List.mem_append_left _ (List.mem_append_left _ (List.mem_append_right _ (List.mem_append_right _ (List.mem_of_getElem? (l := wsX1_firstTightMinute_r3) (i := 2) rfl)))))))), (List.forall_mem_cons.mpr ⟨List.mem_cons_of_mem _ (List.mem_append_left _ (List.mem_append_left _ (List.mem_append_left _ (List.mem_append_left _ (List.mem_append_left _ (List.mem_append_right _ (List.mem_append_right _ (List.mem_of_getElem? (l := wsX1_firstTightMinute_r3) (i := 3) rfl)))))))), (List.forall_mem_cons.mpr ⟨List.mem_cons_of_mem _ (List.mem_append_left _ (List.mem_append_left _ (List.mem_append_left _ (List.mem_append_left _ (List.mem_append_left _ (List.mem_append_left _ (List.mem_of_getElem? (l := wsX1_firstTightMinute_r1) (i := 3) rfl))))))), (List.forall_mem_cons.mpr ⟨List.mem_cons_of_mem _ (List.mem_append_left _ (List.mem_append_left _ (List.mem_append_left _ (List.mem_append_left _ (List.mem_append_left _ (List.mem_append_right _ (List.mem_append_right _ (List.mem_of_getElem? (l := wsX1_firstTightMinute_r3) (i := 4) rfl)))))))), (fun _ h => nomatch h)⟩)⟩)⟩)⟩)⟩)⟩)⟩)⟩)⟩), (fun _ h => List.mem_cons_of_mem _ (List.mem_append_left _ (List.mem_append_left _ (List.mem_append_left _ (List.mem_append_left _ (List.mem_append_right _ (h)))))))⟩), (fun _ h => List.mem_cons_of_mem _ (List.mem_append_left _ (List.mem_append_left _ (List.mem_append_left _ (List.mem_append_right _ (h))))))⟩), (fun _ h => List.mem_cons_of_mem _ (List.mem_append_left _ (List.mem_append_left _ (List.mem_append_right _ (h)))))⟩), (fun _ h => List.mem_cons_of_mem _ (List.mem_append_left _ (List.mem_append_right _ (h))))⟩), (fun _ h => List.mem_cons_of_mem _ (List.mem_append_right _ (h)))⟩)⟩) (by decide +kernel)
set_option maxRecDepth 20000 in
theorem gX1_firstTightMinute_X1_firstTight : GoodIn wsX1_firstTightMinute (wsV RX1 70 RX1 yX1_firstTight wsX1_firstTight) := goodIn_app (goodIn_of _ (by decide +kernel)) ggX1_firstTightMinute_X1_firstTight
theorem qX1_firstTightMinute_X4 : ∀ w ∈ wsX40, w ∈ wsX1_firstTightMinute := fun _ h => List.mem_cons_of_mem _ (List.mem_append_left _ (List.mem_append_left _ (List.mem_append_left _ (List.mem_append_left _ (List.mem_append_right _ (h))))))
set_option maxHeartbeats 4000000 in
set_option maxRecDepth 100000 in
theorem mX1_firstTightMinute (l : Launch) (D : va_G) (cB cI cZ : ClassId) (a_t : Nat) (a_p1 : Nat) (a_t_seconds : Nat) (a_t_pens : Nat) (a_t_minutes : Nat) (a_t_passers : Nat) (a_t_tried : Nat) (a_p1_way : Nat) (a_p1_guns : Nat) (a_p1_runners : Nat) (a_p1_guns_ticks : Nat) (a_p1_runners_facts : Nat) (a_p1_runners_splits : Nat) (a_p1_runners_torn : Nat) (a_p1_runners_dropped : Nat) (a_p1_runners_waved : Nat) (a_p1_runners_struck : Nat) (a_p1_runners_strikingOrder : Nat) (a_p1_way_places : Nat) (a_p1_way_bearings : Nat) (a_p1_way_cuts : Nat) (a_p1_way_deaths : Nat) (t_minutes : Nat → Int32) (t_passers : Nat → Int32) (t_pens : Nat → Int32) (t_seconds : Nat → Int32) (p1_guns_ticks : Nat → Int32) (p1_runners_entered : Int32) (p1_runners_strikings : Int32) (p1_runners_facts : Nat → Int32) (p1_way_mats : Int32) (p1_way_bearings : Nat → Int32) (p1_way_places : Nat → Int32) (sz : Nat) (x2 : Int32) (N : Nat) (r0 : Int32) (t_minutes' : Nat → Int32) (t_passers' : Nat → Int32) (t_pens' : Nat → Int32) (t_seconds' : Nat → Int32) (h : fX1_firstTightMinute N t_minutes t_passers t_pens t_seconds p1_guns_ticks p1_runners_entered p1_runners_facts p1_way_mats p1_way_bearings p1_way_places x2 = some (r0, t_minutes', t_passers', t_pens', t_seconds')) : Met l yX1_firstTightMinute wsX1_firstTightMinute ({ frames := 3, cells := 0, slots := 0, locals := 72 } : Room) (va_Pc [.ref a_t, .ref a_p1, .int x2] (zPre D (zT cB cI cZ) [(a_t, .inr (1, [.ref a_t_seconds, .ref a_t_pens, .ref a_t_minutes, .ref a_t_passers, .ref a_t_tried])), (a_t_minutes, .inl (cI, 60, .inl t_minutes)), (a_t_passers, .inl (cI, 4001, .inl t_passers)), (a_t_pens, .inl (cI, 60, .inl t_pens)), (a_t_seconds, .inl (cI, 720, .inl t_seconds)), (a_p1, .inr (4, [.ref a_p1_way, .ref a_p1_guns, .ref a_p1_runners])), (a_p1_guns, .inr (2, [.ref a_p1_guns_ticks])), (a_p1_guns_ticks, .inl (cI, 6, .inl p1_guns_ticks)), (a_p1_runners, .inr (6, [.ref a_p1_runners_facts, .ref a_p1_runners_splits, .ref a_p1_runners_torn, .ref a_p1_runners_dropped, .ref a_p1_runners_waved, .ref a_p1_runners_struck, .ref a_p1_runners_strikingOrder, .int p1_runners_entered, .int p1_runners_strikings])), (a_p1_runners_facts, .inl (cI, 360, .inl p1_runners_facts)), (a_p1_way, .inr (9, [.ref a_p1_way_places, .ref a_p1_way_bearings, .ref a_p1_way_cuts, .ref a_p1_way_deaths, .int p1_way_mats])), (a_p1_way_bearings, .inl (cI, 12, .inl p1_way_bearings)), (a_p1_way_places, .inl (cI, 12, .inl p1_way_places))] sz)) (zQi r0 D (zT cB cI cZ) [(a_t, .inr (1, [.ref a_t_seconds, .ref a_t_pens, .ref a_t_minutes, .ref a_t_passers, .ref a_t_tried])), (a_t_minutes, .inl (cI, 60, .inl t_minutes')), (a_t_passers, .inl (cI, 4001, .inl t_passers')), (a_t_pens, .inl (cI, 60, .inl t_pens')), (a_t_seconds, .inl (cI, 720, .inl t_seconds')), (a_p1, .inr (4, [.ref a_p1_way, .ref a_p1_guns, .ref a_p1_runners])), (a_p1_guns, .inr (2, [.ref a_p1_guns_ticks])), (a_p1_guns_ticks, .inl (cI, 6, .inl p1_guns_ticks)), (a_p1_runners, .inr (6, [.ref a_p1_runners_facts, .ref a_p1_runners_splits, .ref a_p1_runners_torn, .ref a_p1_runners_dropped, .ref a_p1_runners_waved, .ref a_p1_runners_struck, .ref a_p1_runners_strikingOrder, .int p1_runners_entered, .int p1_runners_strikings])), (a_p1_runners_facts, .inl (cI, 360, .inl p1_runners_facts)), (a_p1_way, .inr (9, [.ref a_p1_way_places, .ref a_p1_way_bearings, .ref a_p1_way_cuts, .ref a_p1_way_deaths, .int p1_way_mats])), (a_p1_way_bearings, .inl (cI, 12, .inl p1_way_bearings)), (a_p1_way_places, .inl (cI, 12, .inl p1_way_places))] (va_A [(a_t, .inr (1, [.ref a_t_seconds, .ref a_t_pens, .ref a_t_minutes, .ref a_t_passers, .ref a_t_tried])), (a_t_minutes, .inl (cI, 60, .inl t_minutes)), (a_t_passers, .inl (cI, 4001, .inl t_passers)), (a_t_pens, .inl (cI, 60, .inl t_pens)), (a_t_seconds, .inl (cI, 720, .inl t_seconds)), (a_p1, .inr (4, [.ref a_p1_way, .ref a_p1_guns, .ref a_p1_runners])), (a_p1_guns, .inr (2, [.ref a_p1_guns_ticks])), (a_p1_guns_ticks, .inl (cI, 6, .inl p1_guns_ticks)), (a_p1_runners, .inr (6, [.ref a_p1_runners_facts, .ref a_p1_runners_splits, .ref a_p1_runners_torn, .ref a_p1_runners_dropped, .ref a_p1_runners_waved, .ref a_p1_runners_struck, .ref a_p1_runners_strikingOrder, .int p1_runners_entered, .int p1_runners_strikings])), (a_p1_runners_facts, .inl (cI, 360, .inl p1_runners_facts)), (a_p1_way, .inr (9, [.ref a_p1_way_places, .ref a_p1_way_bearings, .ref a_p1_way_cuts, .ref a_p1_way_deaths, .int p1_way_mats])), (a_p1_way_bearings, .inl (cI, 12, .inl p1_way_bearings)), (a_p1_way_places, .inl (cI, 12, .inl p1_way_places))] sz)) 0 0 (va_A [(a_t, .inr (1, [.ref a_t_seconds, .ref a_t_pens, .ref a_t_minutes, .ref a_t_passers, .ref a_t_tried])), (a_t_minutes, .inl (cI, 60, .inl t_minutes)), (a_t_passers, .inl (cI, 4001, .inl t_passers)), (a_t_pens, .inl (cI, 60, .inl t_pens)), (a_t_seconds, .inl (cI, 720, .inl t_seconds)), (a_p1, .inr (4, [.ref a_p1_way, .ref a_p1_guns, .ref a_p1_runners])), (a_p1_guns, .inr (2, [.ref a_p1_guns_ticks])), (a_p1_guns_ticks, .inl (cI, 6, .inl p1_guns_ticks)), (a_p1_runners, .inr (6, [.ref a_p1_runners_facts, .ref a_p1_runners_splits, .ref a_p1_runners_torn, .ref a_p1_runners_dropped, .ref a_p1_runners_waved, .ref a_p1_runners_struck, .ref a_p1_runners_strikingOrder, .int p1_runners_entered, .int p1_runners_strikings])), (a_p1_runners_facts, .inl (cI, 360, .inl p1_runners_facts)), (a_p1_way, .inr (9, [.ref a_p1_way_places, .ref a_p1_way_bearings, .ref a_p1_way_cuts, .ref a_p1_way_deaths, .int p1_way_mats])), (a_p1_way_bearings, .inl (cI, 12, .inl p1_way_bearings)), (a_p1_way_places, .inl (cI, 12, .inl p1_way_places))] sz) := by
  refine Met.ofW (cc := cX1_firstTightMinute) (maxL := 3) (ret := (some .int)) (by decide) rfl ?_
  intro p e s m args below meth c s₁ B hml hv
  obtain ⟨rfl, hsz, hP, hK, hN, hZ, hD0⟩ := hv
  have hx := B.exec
  have hb := B.bytes
  have hr := B.returns
  have hts := atoms_spec (ws := wsX1_firstTightMinute) B.pre
  have hown : s.vm.findClass RX1 = some m.cls := findClass_of_methodNamed B.named
  have hlocks := B.notSynchronized
  subst hsz
  have hD := hD0.self (sz := s.heap.size)
  generalize hAe : va_A [(a_t, .inr (1, [.ref a_t_seconds, .ref a_t_pens, .ref a_t_minutes, .ref a_t_passers, .ref a_t_tried])), (a_t_minutes, .inl (cI, 60, .inl t_minutes)), (a_t_passers, .inl (cI, 4001, .inl t_passers)), (a_t_pens, .inl (cI, 60, .inl t_pens)), (a_t_seconds, .inl (cI, 720, .inl t_seconds)), (a_p1, .inr (4, [.ref a_p1_way, .ref a_p1_guns, .ref a_p1_runners])), (a_p1_guns, .inr (2, [.ref a_p1_guns_ticks])), (a_p1_guns_ticks, .inl (cI, 6, .inl p1_guns_ticks)), (a_p1_runners, .inr (6, [.ref a_p1_runners_facts, .ref a_p1_runners_splits, .ref a_p1_runners_torn, .ref a_p1_runners_dropped, .ref a_p1_runners_waved, .ref a_p1_runners_struck, .ref a_p1_runners_strikingOrder, .int p1_runners_entered, .int p1_runners_strikings])), (a_p1_runners_facts, .inl (cI, 360, .inl p1_runners_facts)), (a_p1_way, .inr (9, [.ref a_p1_way_places, .ref a_p1_way_bearings, .ref a_p1_way_cuts, .ref a_p1_way_deaths, .int p1_way_mats])), (a_p1_way_bearings, .inl (cI, 12, .inl p1_way_bearings)), (a_p1_way_places, .inl (cI, 12, .inl p1_way_places))] s.heap.size = A at hD hZ ⊢
  have hA : ∀ q : Nat, s.heap.size ≤ q → A q := fun q h => by rw [← hAe]; exact Or.inr h
  have hS : va_S A s.heap s.heap [] := va_S.rf
  have hl := lv_entry ([.ref a_t, .ref a_p1, .int x2]) (n := 3) (Nat.le_of_ble_eq_true rfl)
  rw [lg_entry_eq]
  generalize (lg_sl ([.ref a_t, .ref a_p1, .int x2]) ++ List.replicate (3 - (lg_sl ([.ref a_t, .ref a_p1, .int x2])).length) Slot.unset).toArray = ls at hl ⊢
  have hl : lv_has ls 3 [(0, .ref a_t), (1, .ref a_p1), (2, .int x2)] := hl
  unfold fX1_firstTightMinute at h
  refine lv_aload_n hx hb dX1_firstTightMinute_0 rfl (lv_at hl 0 rfl) ?_
  refine lv_aload_n hx hb dX1_firstTightMinute_1 rfl (lv_at hl 1 rfl) ?_
  refine lv_iload_n hx hb dX1_firstTightMinute_2 rfl (lv_at hl 2 rfl) ?_
  obtain ⟨⟨t_pens_r1, t_seconds_r2⟩, e3, h⟩ := zz_b h
  dsimp only at h
  refine zVv (As := [.ref a_p1, .int x2]) (rest := []) (C := RX1) (wr := [(a_t_minutes, .inl (cI, 60, .inl t_minutes)), (a_t_passers, .inl (cI, 4001, .inl t_passers)), (a_p1_guns, .inr (2, [.ref a_p1_guns_ticks])), (a_p1_guns_ticks, .inl (cI, 6, .inl p1_guns_ticks)), (a_p1_way_bearings, .inl (cI, 12, .inl p1_way_bearings))]) [0, 3, 4, 5, 8, 9, 10, 12] [1, 2, 6, 7, 11] 0 ⟨hx, hb, hml, hown, hts⟩ (mX1_prepare l D cB cI cZ a_t a_p1 a_t_seconds a_t_pens a_t_minutes a_t_passers a_t_tried a_p1_way a_p1_guns a_p1_runners a_p1_runners_facts a_p1_runners_splits a_p1_runners_torn a_p1_runners_dropped a_p1_runners_waved a_p1_runners_struck a_p1_runners_strikingOrder a_p1_way_places a_p1_way_bearings a_p1_way_cuts a_p1_way_deaths t_pens t_seconds p1_runners_entered p1_runners_strikings p1_runners_facts p1_way_mats p1_way_places s.heap.size x2 N t_pens_r1 t_seconds_r2 e3) (cwV 2 hts gX1_firstTightMinute_X1_prepare rfl rfl rfl (by decide +kernel) ⟨Nat.le_of_ble_eq_true rfl, Nat.le_of_ble_eq_true rfl⟩) hK hN hZ hP hD hS hA rfl rfl rfl rfl rfl rfl rfl rfl hl.1 rfl (lv_room (Nat.le_of_ble_eq_true rfl)) dX1_firstTightMinute_3 ⟨Nat.le_of_ble_eq_true rfl, Nat.le_of_ble_eq_true rfl⟩ (fun H locs hP hD hS => ?_)
  have hP : va_P D vwCl [(a_t_minutes, .inl (cI, 60, .inl t_minutes)), (a_t_passers, .inl (cI, 4001, .inl t_passers)), (a_p1_guns, .inr (2, [.ref a_p1_guns_ticks])), (a_p1_guns_ticks, .inl (cI, 6, .inl p1_guns_ticks)), (a_p1_way_bearings, .inl (cI, 12, .inl p1_way_bearings)), (a_t, .inr (1, [.ref a_t_seconds, .ref a_t_pens, .ref a_t_minutes, .ref a_t_passers, .ref a_t_tried])), (a_t_pens, .inl (cI, 60, .inl t_pens_r1)), (a_t_seconds, .inl (cI, 720, .inl t_seconds_r2)), (a_p1, .inr (4, [.ref a_p1_way, .ref a_p1_guns, .ref a_p1_runners])), (a_p1_runners, .inr (6, [.ref a_p1_runners_facts, .ref a_p1_runners_splits, .ref a_p1_runners_torn, .ref a_p1_runners_dropped, .ref a_p1_runners_waved, .ref a_p1_runners_struck, .ref a_p1_runners_strikingOrder, .int p1_runners_entered, .int p1_runners_strikings])), (a_p1_runners_facts, .inl (cI, 360, .inl p1_runners_facts)), (a_p1_way, .inr (9, [.ref a_p1_way_places, .ref a_p1_way_bearings, .ref a_p1_way_cuts, .ref a_p1_way_deaths, .int p1_way_mats])), (a_p1_way_places, .inl (cI, 12, .inl p1_way_places))] H := hP
  have hD : va_D A [(a_t_minutes, .inl (cI, 60, .inl t_minutes)), (a_t_passers, .inl (cI, 4001, .inl t_passers)), (a_p1_guns, .inr (2, [.ref a_p1_guns_ticks])), (a_p1_guns_ticks, .inl (cI, 6, .inl p1_guns_ticks)), (a_p1_way_bearings, .inl (cI, 12, .inl p1_way_bearings)), (a_t, .inr (1, [.ref a_t_seconds, .ref a_t_pens, .ref a_t_minutes, .ref a_t_passers, .ref a_t_tried])), (a_t_pens, .inl (cI, 60, .inl t_pens_r1)), (a_t_seconds, .inl (cI, 720, .inl t_seconds_r2)), (a_p1, .inr (4, [.ref a_p1_way, .ref a_p1_guns, .ref a_p1_runners])), (a_p1_runners, .inr (6, [.ref a_p1_runners_facts, .ref a_p1_runners_splits, .ref a_p1_runners_torn, .ref a_p1_runners_dropped, .ref a_p1_runners_waved, .ref a_p1_runners_struck, .ref a_p1_runners_strikingOrder, .int p1_runners_entered, .int p1_runners_strikings])), (a_p1_runners_facts, .inl (cI, 360, .inl p1_runners_facts)), (a_p1_way, .inr (9, [.ref a_p1_way_places, .ref a_p1_way_bearings, .ref a_p1_way_cuts, .ref a_p1_way_deaths, .int p1_way_mats])), (a_p1_way_places, .inl (cI, 12, .inl p1_way_places))] := hD
  refine lv_aload_n hx hb dX1_firstTightMinute_6 rfl (lv_at hl 0 rfl) ?_
  refine lv_aload_n hx hb dX1_firstTightMinute_7 rfl (lv_at hl 1 rfl) ?_
  refine lv_aload_n hx hb dX1_firstTightMinute_8 rfl (lv_at hl 1 rfl) ?_
  refine va_getN (host := "RunDesk") (D := D) (ci := 4) (C := RX4) (T := TX4) (N := 3) hx hb hts qX1_firstTightMinute_X4 hown hK hP 8 rfl rfl 1 (by decide) (va_Nw.use rfl (hN _ (List.mem_of_getElem? (i := 4) rfl))) (fun _ h9 => h9) rfl dX1_firstTightMinute_9 ?_
  refine lv_iload_n hx hb dX1_firstTightMinute_12 rfl (lv_at hl 2 rfl) ?_
  obtain ⟨⟨r4, t_minutes_r5, t_passers_r6⟩, e7, h⟩ := zz_b h
  dsimp only at h
  refine zVi (As := [.ref a_p1, .ref a_p1_guns, .int x2]) (rest := []) (C := RX1) (wr := [(a_p1_runners_facts, .inl (cI, 360, .inl p1_runners_facts)), (a_p1_way_places, .inl (cI, 12, .inl p1_way_places))]) [5, 0, 1, 6, 7, 8, 9, 11, 4, 2, 3] [10, 12] 0 ⟨hx, hb, hml, hown, hts⟩ (mX1_firstTight l D cB cI cZ a_t a_p1 a_p1_guns a_t_seconds a_t_pens a_t_minutes a_t_passers a_t_tried a_p1_way a_p1_guns a_p1_runners a_p1_runners_facts a_p1_runners_splits a_p1_runners_torn a_p1_runners_dropped a_p1_runners_waved a_p1_runners_struck a_p1_runners_strikingOrder a_p1_way_places a_p1_way_bearings a_p1_way_cuts a_p1_way_deaths a_p1_guns_ticks t_minutes t_passers t_pens_r1 t_seconds_r2 p1_runners_entered p1_runners_strikings p1_way_mats p1_way_bearings p1_guns_ticks H.size x2 N r4 t_minutes_r5 t_passers_r6 e7) (cwV 3 hts gX1_firstTightMinute_X1_firstTight rfl rfl rfl (by decide +kernel) ⟨Nat.le_of_ble_eq_true rfl, Nat.le_of_ble_eq_true rfl⟩) hK hN hZ hP hD hS hA rfl rfl rfl rfl rfl rfl rfl rfl hl.1 rfl (lv_room (Nat.le_of_ble_eq_true rfl)) dX1_firstTightMinute_13 ⟨Nat.le_of_ble_eq_true rfl, Nat.le_of_ble_eq_true rfl⟩ (fun H locs hP hD hS => ?_)
  have hP : va_P D vwCl [(a_p1_runners_facts, .inl (cI, 360, .inl p1_runners_facts)), (a_p1_way_places, .inl (cI, 12, .inl p1_way_places)), (a_t, .inr (1, [.ref a_t_seconds, .ref a_t_pens, .ref a_t_minutes, .ref a_t_passers, .ref a_t_tried])), (a_t_minutes, .inl (cI, 60, .inl t_minutes_r5)), (a_t_passers, .inl (cI, 4001, .inl t_passers_r6)), (a_t_pens, .inl (cI, 60, .inl t_pens_r1)), (a_t_seconds, .inl (cI, 720, .inl t_seconds_r2)), (a_p1, .inr (4, [.ref a_p1_way, .ref a_p1_guns, .ref a_p1_runners])), (a_p1_runners, .inr (6, [.ref a_p1_runners_facts, .ref a_p1_runners_splits, .ref a_p1_runners_torn, .ref a_p1_runners_dropped, .ref a_p1_runners_waved, .ref a_p1_runners_struck, .ref a_p1_runners_strikingOrder, .int p1_runners_entered, .int p1_runners_strikings])), (a_p1_way, .inr (9, [.ref a_p1_way_places, .ref a_p1_way_bearings, .ref a_p1_way_cuts, .ref a_p1_way_deaths, .int p1_way_mats])), (a_p1_way_bearings, .inl (cI, 12, .inl p1_way_bearings)), (a_p1_guns, .inr (2, [.ref a_p1_guns_ticks])), (a_p1_guns_ticks, .inl (cI, 6, .inl p1_guns_ticks))] H := hP
  have hD : va_D A [(a_p1_runners_facts, .inl (cI, 360, .inl p1_runners_facts)), (a_p1_way_places, .inl (cI, 12, .inl p1_way_places)), (a_t, .inr (1, [.ref a_t_seconds, .ref a_t_pens, .ref a_t_minutes, .ref a_t_passers, .ref a_t_tried])), (a_t_minutes, .inl (cI, 60, .inl t_minutes_r5)), (a_t_passers, .inl (cI, 4001, .inl t_passers_r6)), (a_t_pens, .inl (cI, 60, .inl t_pens_r1)), (a_t_seconds, .inl (cI, 720, .inl t_seconds_r2)), (a_p1, .inr (4, [.ref a_p1_way, .ref a_p1_guns, .ref a_p1_runners])), (a_p1_runners, .inr (6, [.ref a_p1_runners_facts, .ref a_p1_runners_splits, .ref a_p1_runners_torn, .ref a_p1_runners_dropped, .ref a_p1_runners_waved, .ref a_p1_runners_struck, .ref a_p1_runners_strikingOrder, .int p1_runners_entered, .int p1_runners_strikings])), (a_p1_way, .inr (9, [.ref a_p1_way_places, .ref a_p1_way_bearings, .ref a_p1_way_cuts, .ref a_p1_way_deaths, .int p1_way_mats])), (a_p1_way_bearings, .inl (cI, 12, .inl p1_way_bearings)), (a_p1_guns, .inr (2, [.ref a_p1_guns_ticks])), (a_p1_guns_ticks, .inl (cI, 6, .inl p1_guns_ticks))] := hD
  obtain ⟨j0_, g_⟩ := Prod.mk.inj (Option.some.inj h)
  obtain ⟨j1_, g_⟩ := Prod.mk.inj g_
  obtain ⟨j2_, g_⟩ := Prod.mk.inj g_
  obtain ⟨j3_, g_⟩ := Prod.mk.inj g_
  have j4_ := g_
  subst j0_
  subst j1_
  subst j2_
  subst j3_
  subst j4_
  exact W.iret (v := r4) hx hb hr (fun t ht hW => ⟨⟨_, (), rfl, rfl, zPost.of hP hD hK ht hW [2, 3, 4, 5, 6, 7, 11, 12, 8, 0, 9, 10, 1] rfl rfl rfl⟩, hS.F ht⟩) hS.2.2 dX1_firstTightMinute_16
/-! RunDesk$Guns.fireInSteps -/
theorem dX2_fireInSteps_0 : decode cX2_fireInSteps 0 = .ok (.iconst 0, 1) := by decide +kernel
theorem dX2_fireInSteps_1 : decode cX2_fireInSteps 1 = .ok (.istore_n 3, 1) := by decide +kernel
theorem dX2_fireInSteps_2 : decode cX2_fireInSteps 2 = .ok (.iload_n 3, 1) := by decide +kernel
theorem dX2_fireInSteps_3 : decode cX2_fireInSteps 3 = .ok (.bipush 6, 2) := by decide +kernel
theorem dX2_fireInSteps_5 : decode cX2_fireInSteps 5 = .ok (.if_icmp .ge 20, 3) := by decide +kernel
theorem dX2_fireInSteps_8 : decode cX2_fireInSteps 8 = .ok (.aload_n 0, 1) := by decide +kernel
theorem dX2_fireInSteps_9 : decode cX2_fireInSteps 9 = .ok (.getfield 9, 3) := by decide +kernel
theorem dX2_fireInSteps_12 : decode cX2_fireInSteps 12 = .ok (.iload_n 3, 1) := by decide +kernel
theorem dX2_fireInSteps_13 : decode cX2_fireInSteps 13 = .ok (.iload_n 1, 1) := by decide +kernel
theorem dX2_fireInSteps_14 : decode cX2_fireInSteps 14 = .ok (.iload_n 3, 1) := by decide +kernel
theorem dX2_fireInSteps_15 : decode cX2_fireInSteps 15 = .ok (.iload_n 2, 1) := by decide +kernel
theorem dX2_fireInSteps_16 : decode cX2_fireInSteps 16 = .ok (.imul, 1) := by decide +kernel
theorem dX2_fireInSteps_17 : decode cX2_fireInSteps 17 = .ok (.iadd, 1) := by decide +kernel
theorem dX2_fireInSteps_18 : decode cX2_fireInSteps 18 = .ok (.iastore, 1) := by decide +kernel
theorem dX2_fireInSteps_19 : decode cX2_fireInSteps 19 = .ok (.iinc 3 1, 3) := by decide +kernel
theorem dX2_fireInSteps_22 : decode cX2_fireInSteps 22 = .ok (.goto (-20), 3) := by decide +kernel
theorem dX2_fireInSteps_25 : decode cX2_fireInSteps 25 = .ok (.return_, 1) := by decide +kernel
theorem kX2_fireInSteps_0 : (.fieldLink RX2 9 "RunDesk$Guns" "ticks" "[I" : Cond) ∈ wsX2_fireInSteps := List.mem_of_getElem? (i := 1) (by decide +kernel)
theorem qX2_fireInSteps_X2 : ∀ w ∈ wsX20, w ∈ wsX2_fireInSteps := fun _ h => List.mem_cons_of_mem _ (List.mem_append_right _ (h))
set_option maxHeartbeats 4000000 in
set_option maxRecDepth 100000 in
theorem mX2_fireInSteps (l : Launch) (D : va_G) (cB cI cZ : ClassId) (a_t : Nat) (a_t_ticks : Nat) (t_ticks : Nat → Int32) (sz : Nat) (x1 : Int32) (x2 : Int32) (N : Nat) (t_ticks' : Nat → Int32) (h : fX2_fireInSteps N t_ticks x1 x2 = some (t_ticks')) : Met l yX2_fireInSteps wsX2_fireInSteps ({ frames := 0, cells := 0, slots := 0, locals := 0 } : Room) (va_Pc [.ref a_t, .int x1, .int x2] (zPre D (zT cB cI cZ) [(a_t, .inr (2, [.ref a_t_ticks])), (a_t_ticks, .inl (cI, 6, .inl t_ticks))] sz)) (zQv D (zT cB cI cZ) [(a_t, .inr (2, [.ref a_t_ticks])), (a_t_ticks, .inl (cI, 6, .inl t_ticks'))] (va_A [(a_t, .inr (2, [.ref a_t_ticks])), (a_t_ticks, .inl (cI, 6, .inl t_ticks))] sz)) 0 0 (va_A [(a_t, .inr (2, [.ref a_t_ticks])), (a_t_ticks, .inl (cI, 6, .inl t_ticks))] sz) := by
  refine Met.ofW (cc := cX2_fireInSteps) (maxL := 4) (ret := none) (by decide) rfl ?_
  intro p e s m args below meth c s₁ B hml hv
  obtain ⟨rfl, hsz, hP, hK, hN, hZ, hD0⟩ := hv
  have hx := B.exec
  have hb := B.bytes
  have hr := B.returns
  have hts := atoms_spec (ws := wsX2_fireInSteps) B.pre
  have hown : s.vm.findClass RX2 = some m.cls := findClass_of_methodNamed B.named
  have hlocks := B.notSynchronized
  subst hsz
  have hD := hD0.self (sz := s.heap.size)
  generalize hAe : va_A [(a_t, .inr (2, [.ref a_t_ticks])), (a_t_ticks, .inl (cI, 6, .inl t_ticks))] s.heap.size = A at hD hZ ⊢
  have hA : ∀ q : Nat, s.heap.size ≤ q → A q := fun q h => by rw [← hAe]; exact Or.inr h
  have hS : va_S A s.heap s.heap [] := va_S.rf
  have hl := lv_entry ([.ref a_t, .int x1, .int x2]) (n := 4) (Nat.le_of_ble_eq_true rfl)
  rw [lg_entry_eq]
  generalize (lg_sl ([.ref a_t, .int x1, .int x2]) ++ List.replicate (4 - (lg_sl ([.ref a_t, .int x1, .int x2])).length) Slot.unset).toArray = ls at hl ⊢
  have hl : lv_has ls 4 [(0, .ref a_t), (1, .int x1), (2, .int x2)] := hl
  unfold fX2_fireInSteps at h
  refine lv_iconst (v := (nI 0)) hx hb dX2_fireInSteps_0 rfl ?_
  refine lv_istore_n (lv' := [(3, .int (nI 0)), (0, .ref a_t), (1, .int x1), (2, .int x2)]) hx hb dX2_fireInSteps_1 rfl hl (by decide) rfl (fun ls hl => ?_)
  have X2_25 : ∀ (v3_2 : Int32) (t_ticks_l2 : Nat → Int32) (H : Heap) (locs : List Loc) (ls : Array Slot), some (t_ticks_l2) = some (t_ticks') → va_P D vwCl [(a_t, .inr (2, [.ref a_t_ticks])), (a_t_ticks, .inl (cI, 6, .inl t_ticks_l2))] H → va_D A [(a_t, .inr (2, [.ref a_t_ticks])), (a_t_ticks, .inl (cI, 6, .inl t_ticks_l2))] → va_S A s.heap H locs → lv_has ls 4 [(3, .int v3_2), (0, .ref a_t), (1, .int x1), (2, .int x2)] → W p l e (headSpec wsX2_fireInSteps ({ frames := 0, cells := 0, slots := 0, locals := 0 } : Room)).room s m #[Value.ref a_t, Value.int x1, Value.int x2] below meth c H locs 0 0 (MQ below (zQv D (zT cB cI cZ) [(a_t, .inr (2, [.ref a_t_ticks])), (a_t_ticks, .inl (cI, 6, .inl t_ticks'))] A) #[Value.ref a_t, Value.int x1, Value.int x2] s 0 0 A) (F0 m 25 ls []) := by
    intro v3_2 t_ticks_l2 H locs ls h hP hD hS hl
    have j0_ := Option.some.inj h
    subst j0_
    exact W.vret hx hb hr (fun t ht hW => ⟨⟨(), rfl, trivial, zPost.of hP hD hK ht hW [0, 1] rfl rfl rfl⟩, hS.F ht⟩) hS.2.2 dX2_fireInSteps_25
  have L2 : ∀ (n : Nat) (v3_2 : Int32) (t_ticks_l2 : Nat → Int32) (H : Heap) (locs : List Loc) (ls : Array Slot), fX2_fireInSteps_L2 x1 x2 (fun (v3_2 : Int32) (t_ticks_l2 : Nat → Int32) => some (t_ticks_l2)) n v3_2 t_ticks_l2 = some (t_ticks') → va_P D vwCl [(a_t, .inr (2, [.ref a_t_ticks])), (a_t_ticks, .inl (cI, 6, .inl t_ticks_l2))] H → va_D A [(a_t, .inr (2, [.ref a_t_ticks])), (a_t_ticks, .inl (cI, 6, .inl t_ticks_l2))] → va_S A s.heap H locs → lv_has ls 4 [(3, .int v3_2), (0, .ref a_t), (1, .int x1), (2, .int x2)] → W p l e (headSpec wsX2_fireInSteps ({ frames := 0, cells := 0, slots := 0, locals := 0 } : Room)).room s m #[Value.ref a_t, Value.int x1, Value.int x2] below meth c H locs 0 0 (MQ below (zQv D (zT cB cI cZ) [(a_t, .inr (2, [.ref a_t_ticks])), (a_t_ticks, .inl (cI, 6, .inl t_ticks'))] A) #[Value.ref a_t, Value.int x1, Value.int x2] s 0 0 A) (F0 m 2 ls []) := by
    intro n
    induction n with
    | zero => intro _ _ H locs ls h hP hD hS hl; cases h
    | succ n2 ih2 =>
      intro v3_2 t_ticks_l2 H locs ls h hP hD hS hl
      rw [fX2_fireInSteps_L2.eq_2] at h
      refine lv_iload_n hx hb dX2_fireInSteps_2 rfl (lv_at hl 0 rfl) ?_
      refine lv_bipush (v := (nI 6)) hx hb dX2_fireInSteps_3 rfl ?_
      refine lv_icmp_ge (tgt := 25) hx hb dX2_fireInSteps_5 (by decide) (fun c1 => ?_) (fun c1 => ?_)
      · have h := zz_t h c1
        exact X2_25 v3_2 t_ticks_l2 _ _ _ h (hP.sub [0, 1] rfl) (hD.sub [0, 1] rfl rfl) hS (lv_sub hl [0, 1, 2, 3] rfl)
      · have h := zz_f h c1
        refine lv_aload_n hx hb dX2_fireInSteps_8 rfl (lv_at hl 1 rfl) ?_
        refine va_get (D := D) (ci := 2) (C := RX2) (T := TX2) (N := 1) hx hb hts qX2_fireInSteps_X2 hown hK hP 0 rfl rfl 0 (by decide) (hts _ kX2_fireInSteps_0) (fun _ h9 => h9) rfl dX2_fireInSteps_9 ?_
        refine lv_iload_n hx hb dX2_fireInSteps_12 rfl (lv_at hl 0 rfl) ?_
        refine lv_iload_n hx hb dX2_fireInSteps_13 rfl (lv_at hl 2 rfl) ?_
        refine lv_iload_n hx hb dX2_fireInSteps_14 rfl (lv_at hl 0 rfl) ?_
        refine lv_iload_n hx hb dX2_fireInSteps_15 rfl (lv_at hl 3 rfl) ?_
        refine lv_imul hx hb dX2_fireInSteps_16 ?_
        refine lv_iadd hx hb dX2_fireInSteps_17 ?_
        obtain ⟨i2, h⟩ := zz_i h
        refine va_iast hx hb hK hP hD hS 1 1 rfl rfl i2 dX2_fireInSteps_18 (fun H locs hP hD hS => ?_)
        have hP : va_P D vwCl [(a_t, .inr (2, [.ref a_t_ticks])), (a_t_ticks, .inl (cI, 6, .inl (upd t_ticks_l2 (v3_2).toNatClampNeg (x1 + (v3_2 * x2)))))] H := hP
        have hD : va_D A [(a_t, .inr (2, [.ref a_t_ticks])), (a_t_ticks, .inl (cI, 6, .inl (upd t_ticks_l2 (v3_2).toNatClampNeg (x1 + (v3_2 * x2)))))] := hD
        refine lv_iinc (v := (v3_2 + (nI 1))) (lv' := [(3, .int (v3_2 + (nI 1))), (0, .ref a_t), (1, .int x1), (2, .int x2)]) hx hb dX2_fireInSteps_19 hl (k := 0) rfl rfl (by decide) rfl (fun ls hl => ?_)
        refine lv_goto (tgt := 2) hx hb dX2_fireInSteps_22 (by decide) ?_
        exact ih2 (v3_2 + (nI 1)) (upd t_ticks_l2 (v3_2).toNatClampNeg (x1 + (v3_2 * x2))) _ _ _ h (hP.sub [0, 1] rfl) (hD.sub [0, 1] rfl rfl) hS (lv_sub hl [0, 1, 2, 3] rfl)
  exact L2 N (nI 0) t_ticks _ _ _ h hP hD hS hl
/-! RunDesk$Foretelling.someTightMat -/
theorem dX1_someTightMat_0 : decode cX1_someTightMat 0 = .ok (.aload_n 0, 1) := by decide +kernel
theorem dX1_someTightMat_1 : decode cX1_someTightMat 1 = .ok (.aload_n 1, 1) := by decide +kernel
theorem dX1_someTightMat_2 : decode cX1_someTightMat 2 = .ok (.aload_n 0, 1) := by decide +kernel
theorem dX1_someTightMat_3 : decode cX1_someTightMat 3 = .ok (.getfield 27, 3) := by decide +kernel
theorem dX1_someTightMat_6 : decode cX1_someTightMat 6 = .ok (.iload_n 2, 1) := by decide +kernel
theorem dX1_someTightMat_7 : decode cX1_someTightMat 7 = .ok (.invokevirtual 70, 3) := by decide +kernel
theorem dX1_someTightMat_10 : decode cX1_someTightMat 10 = .ok (.iconst (-1), 1) := by decide +kernel
theorem dX1_someTightMat_11 : decode cX1_someTightMat 11 = .ok (.if_icmp .eq 5, 3) := by decide +kernel
theorem dX1_someTightMat_14 : decode cX1_someTightMat 14 = .ok (.iload_n 2, 1) := by decide +kernel
theorem dX1_someTightMat_15 : decode cX1_someTightMat 15 = .ok (.ireturn, 1) := by decide +kernel
theorem dX1_someTightMat_16 : decode cX1_someTightMat 16 = .ok (.iconst 0, 1) := by decide +kernel
theorem dX1_someTightMat_17 : decode cX1_someTightMat 17 = .ok (.istore_n 3, 1) := by decide +kernel
theorem dX1_someTightMat_18 : decode cX1_someTightMat 18 = .ok (.iload_n 3, 1) := by decide +kernel
theorem dX1_someTightMat_19 : decode cX1_someTightMat 19 = .ok (.aload_n 1, 1) := by decide +kernel
theorem dX1_someTightMat_20 : decode cX1_someTightMat 20 = .ok (.getfield 31, 3) := by decide +kernel
theorem dX1_someTightMat_23 : decode cX1_someTightMat 23 = .ok (.invokevirtual 84, 3) := by decide +kernel
theorem dX1_someTightMat_26 : decode cX1_someTightMat 26 = .ok (.if_icmp .ge 25, 3) := by decide +kernel
theorem dX1_someTightMat_29 : decode cX1_someTightMat 29 = .ok (.aload_n 0, 1) := by decide +kernel
theorem dX1_someTightMat_30 : decode cX1_someTightMat 30 = .ok (.aload_n 1, 1) := by decide +kernel
theorem dX1_someTightMat_31 : decode cX1_someTightMat 31 = .ok (.aload_n 0, 1) := by decide +kernel
theorem dX1_someTightMat_32 : decode cX1_someTightMat 32 = .ok (.getfield 27, 3) := by decide +kernel
theorem dX1_someTightMat_35 : decode cX1_someTightMat 35 = .ok (.iload_n 3, 1) := by decide +kernel
theorem dX1_someTightMat_36 : decode cX1_someTightMat 36 = .ok (.invokevirtual 70, 3) := by decide +kernel
theorem dX1_someTightMat_39 : decode cX1_someTightMat 39 = .ok (.iconst (-1), 1) := by decide +kernel
theorem dX1_someTightMat_40 : decode cX1_someTightMat 40 = .ok (.if_icmp .eq 5, 3) := by decide +kernel
theorem dX1_someTightMat_43 : decode cX1_someTightMat 43 = .ok (.iload_n 3, 1) := by decide +kernel
theorem dX1_someTightMat_44 : decode cX1_someTightMat 44 = .ok (.ireturn, 1) := by decide +kernel
theorem dX1_someTightMat_45 : decode cX1_someTightMat 45 = .ok (.iinc 3 1, 3) := by decide +kernel
theorem dX1_someTightMat_48 : decode cX1_someTightMat 48 = .ok (.goto (-30), 3) := by decide +kernel
theorem dX1_someTightMat_51 : decode cX1_someTightMat 51 = .ok (.iconst (-1), 1) := by decide +kernel
theorem dX1_someTightMat_52 : decode cX1_someTightMat 52 = .ok (.ireturn, 1) := by decide +kernel
set_option maxRecDepth 20000 in
theorem ggX1_someTightMat_X1_firstTight : GoodIn wsX1_someTightMat wsX1_firstTight := goodIn_sub (List.forall_mem_cons.mpr ⟨List.mem_cons_of_mem _ (List.mem_append_left _ (List.mem_append_left _ (List.mem_append_left _ (List.mem_append_left _ (List.mem_append_left _ (List.mem_append_left _ (List.mem_of_getElem? (l := wsX1_someTightMat_r1) (i := 5) rfl))))))), (List.forall_mem_append.mpr ⟨(List.forall_mem_append.mpr ⟨(List.forall_mem_append.mpr ⟨(List.forall_mem_append.mpr ⟨(List.forall_mem_append.mpr ⟨(List.forall_mem_append.mpr ⟨(List.forall_mem_cons.mpr ⟨List.mem_cons_of_mem _ (List.mem_append_left _ (List.mem_append_left _ (List.mem_append_left _ (List.mem_append_left _ (List.mem_append_left _ (List.mem_append_left _ (List.mem_of_getElem? (l := wsX1_someTightMat_r1) (i := 6) rfl))))))), (List.forall_mem_cons.mpr ⟨List.mem_cons_of_mem _ (List.mem_append_left _ (List.mem_append_left _ (List.mem_append_left _ (List.mem_append_left _ (List.mem_append_left _ (List.mem_append_left _ (List.mem_of_getElem? (l := wsX1_someTightMat_r1) (i := 7) rfl))))))), (List.forall_mem_cons.mpr ⟨List.mem_cons_of_mem _ (List.mem_append_left _ (List.mem_append_left _ (List.mem_append_left _ (List.mem_append_left _ (List.mem_append_left _ (List.mem_append_left _ (List.mem_of_getElem? (l := wsX1_someTightMat_r1) (i := 8) rfl))))))), (List.forall_mem_cons.mpr ⟨List.mem_cons_of_mem _ (List.mem_append_left _ (List.mem_append_left _ (List.mem_append_left _ (List.mem_append_left _ (List.mem_append_left _ (List.mem_append_left _ (List.mem_of_getElem? (l := wsX1_someTightMat_r1) (i := 9) rfl))))))), (List.forall_mem_cons.mpr ⟨List.mem_cons_of_mem _ (List.mem_append_left _ (List.mem_append_left _ (List.mem_append_left _ (List.mem_append_left _ (List.mem_append_left _ (List.mem_append_left _ (List.mem_of_getElem? (l := wsX1_someTightMat_r1) (i := 10) rfl))))))), (List.forall_mem_cons.mpr ⟨List.mem_cons_of_mem _ (List.mem_append_left _ (List.mem_append_left _ (List.mem_append_left _ (List.mem_append_left _ (List.mem_append_left _ (List.mem_append_left _ (List.mem_of_getElem? (l := wsX1_someTightMat_r1) (i := 11) rfl))))))), (List.forall_mem_cons.mpr ⟨List.mem_cons_of_mem _ (List.mem_append_left _ (List.mem_append_left _ (List.mem_append_left _ (List.mem_append_left _ (List.mem_append_left _ (List.mem_append_left _ (List.mem_of_getElem? (l := wsX1_someTightMat_r1) (i := 12) rfl))))))), (List.forall_mem_cons.mpr ⟨List.mem_cons_of_mem _ (List.mem_append_left _ (List.mem_append_left _ (List.mem_append_left _ (List.mem_append_left _ (List.mem_append_left _ (List.mem_append_left _ (List.mem_of_getElem? (l := wsX1_someTightMat_r1) (i := 13) rfl))))))), (List.forall_mem_cons.mpr ⟨List.mem_cons_of_mem _ (List.mem_append_left _ (List.mem_append_left _ (List.mem_append_left _ (List.mem_append_left _ (List.mem_append_left _ (List.mem_append_left _ (List.mem_of_getElem? (l := wsX1_someTightMat_r1) (i := 14) rfl))))))), (List.forall_mem_cons.mpr ⟨List.mem_cons_of_mem _ (List.mem_append_left _ (List.mem_append_left _ (List.mem_append_left _ (List.mem_append_left _ (List.mem_append_left _ (List.mem_append_left _ (List.mem_of_getElem? (l := wsX1_someTightMat_r1) (i := 15) rfl))))))), (List.forall_mem_cons.mpr ⟨List.mem_cons_of_mem _ (List.mem_append_left _ (List.mem_append_left _ (List.mem_append_left _ (List.mem_append_left _ (List.mem_append_left _ (List.mem_append_left _ (List.mem_of_getElem? (l := wsX1_someTightMat_r1) (i := 16) rfl))))))), (List.forall_mem_cons.mpr ⟨List.mem_cons_of_mem _ (List.mem_append_left _ (List.mem_append_left _ (List.mem_append_left _ (List.mem_append_left _ (List.mem_append_left _ (List.mem_append_left _ (List.mem_of_getElem? (l := wsX1_someTightMat_r1) (i := 17) rfl))))))), (List.forall_mem_cons.mpr ⟨List.mem_cons_of_mem _ (List.mem_append_left _ (List.mem_append_left _ (List.mem_append_left _ (List.mem_append_left _ (List.mem_append_left _ (List.mem_append_left _ (List.mem_of_getElem? (l := wsX1_someTightMat_r1) (i := 18) rfl))))))), (List.forall_mem_cons.mpr ⟨List.mem_cons_of_mem _ (List.mem_append_left _ (List.mem_append_left _ (List.mem_append_left _ (List.mem_append_left _ (List.mem_append_left _ (List.mem_append_left _ (List.mem_of_getElem? (l := wsX1_someTightMat_r1) (i := 19) rfl))))))), (List.forall_mem_cons.mpr ⟨List.mem_cons_of_mem _ (List.mem_append_left _ (List.mem_append_left _ (List.mem_append_left _ (List.mem_append_left _ (List.mem_append_left _ (List.mem_append_left _ (List.mem_of_getElem? (l := wsX1_someTightMat_r1) (i := 20) rfl))))))), (List.forall_mem_cons.mpr ⟨List.mem_cons_of_mem _ (List.mem_append_left _ (List.mem_append_left _ (List.mem_append_left _ (List.mem_append_left _ (List.mem_append_left _ (List.mem_append_left _ (List.mem_of_getElem? (l := wsX1_someTightMat_r1) (i := 21) rfl))))))), (List.forall_mem_cons.mpr ⟨List.mem_cons_of_mem _ (List.mem_append_left _ (List.mem_append_left _ (List.mem_append_left _ (List.mem_append_left _ (List.mem_append_left _ (List.mem_append_left _ (List.mem_of_getElem? (l := wsX1_someTightMat_r1) (i := 22) rfl))))))), (List.forall_mem_cons.mpr ⟨List.mem_cons_of_mem _ (List.mem_append_left _ (List.mem_append_left _ (List.mem_append_left _ (List.mem_append_left _ (List.mem_append_left _ (List.mem_append_left _ (List.mem_of_getElem? (l := wsX1_someTightMat_r1) (i := 23) rfl))))))), (List.forall_mem_cons.mpr ⟨List.mem_cons_of_mem _ (List.mem_append_left _ (List.mem_append_left _ (List.mem_append_left _ (List.mem_append_left _ (List.mem_append_left _ (List.mem_append_right _ (List.mem_of_getElem? (l := wsX1_someTightMat_r2) (i := 0) rfl))))))), (List.forall_mem_cons.mpr ⟨List.mem_cons_of_mem _ (List.mem_append_left _ (List.mem_append_left _ (List.mem_append_left _ (List.mem_append_left _ (List.mem_append_left _ (List.mem_append_right _ (List.mem_of_getElem? (l := wsX1_someTightMat_r2) (i := 1) rfl))))))), (List.forall_mem_cons.mpr ⟨List.mem_cons_of_mem _ (List.mem_append_left _ (List.mem_append_left _ (List.mem_append_left _ (List.mem_append_left _ (List.mem_append_left _ (List.mem_append_right _ (List.mem_of_getElem? (l := wsX1_someTightMat_r2) (i := 2) rfl))))))), (List.forall_mem_cons.mpr ⟨List.mem_cons_of_mem _ (List.mem_append_left _ (List.mem_append_left _ (List.mem_append_left _ (List.mem_append_left _ (List.mem_append_left _ (List.mem_append_right _ (List.mem_of_getElem? (l := wsX1_someTightMat_r2) (i := 3) rfl))))))), (List.forall_mem_cons.mpr ⟨List.mem_cons_of_mem _ (List.mem_append_left _ (List.mem_append_left _ (List.mem_append_left _ (List.mem_append_left _ (List.mem_append_left _ (List.mem_append_right _ (List.mem_of_getElem? (l := wsX1_someTightMat_r2) (i := 4) rfl))))))), (List.forall_mem_cons.mpr ⟨List.mem_cons_of_mem _ (List.mem_append_left _ (List.mem_append_left _ (List.mem_append_left _ (List.mem_append_left _ (List.mem_append_left _ (List.mem_append_right _ (List.mem_of_getElem? (l := wsX1_someTightMat_r2) (i := 5) rfl))))))), (fun _ h => nomatch h)⟩)⟩)⟩)⟩)⟩)⟩)⟩)⟩)⟩)⟩)⟩)⟩)⟩)⟩)⟩)⟩)⟩)⟩)⟩)⟩)⟩)⟩)⟩)⟩), (List.forall_mem_cons.mpr ⟨List.mem_cons_of_mem _ (List.mem_append_left _ (List.mem_append_left _ (List.mem_append_left _ (List.mem_append_left _ (List.mem_append_left _ (List.mem_append_right _ (List.mem_of_getElem? (l := wsX1_someTightMat_r2) (i := 6) rfl))))))), (List.forall_mem_cons.mpr ⟨List.mem_cons_of_mem _ (List.mem_append_left _ (List.mem_append_left _ (List.mem_append_left _ (List.mem_append_left _ (List.mem_append_left _ (List.mem_append_right _ (List.mem_of_getElem? (l := wsX1_someTightMat_r2) (i := 7) rfl))))))), (List.forall_mem_cons.mpr ⟨List.mem_cons_of_mem _ (List.mem_append_left _ (List.mem_append_left _ (List.mem_append_left _ (List.mem_append_left _ (List.mem_append_left _ (List.mem_append_right _ (List.mem_of_getElem? (l := wsX1_someTightMat_r2) (i := 8) rfl))))))), (List.forall_mem_cons.mpr ⟨List.mem_cons_of_mem _ (List.mem_append_left _ (List.mem_append_left _ (List.mem_append_left _ (List.mem_append_left _ (List.mem_append_left _ (List.mem_append_right _ (List.mem_of_getElem? (l := wsX1_someTightMat_r2) (i := 9) rfl))))))), (List.forall_mem_cons.mpr ⟨List.mem_cons_of_mem _ (List.mem_append_left _ (List.mem_append_left _ (List.mem_append_left _ (List.mem_append_left _ (List.mem_append_left _ (List.mem_append_right _ (List.mem_of_getElem? (l := wsX1_someTightMat_r2) (i := 10) rfl))))))), (List.forall_mem_cons.mpr ⟨List.mem_cons_of_mem _ (List.mem_append_left _ (List.mem_append_left _ (List.mem_append_left _ (List.mem_append_left _ (List.mem_append_left _ (List.mem_append_right _ (List.mem_of_getElem? (l := wsX1_someTightMat_r2) (i := 11) rfl))))))), (List.forall_mem_cons.mpr ⟨List.mem_cons_of_mem _ (List.mem_append_left _ (List.mem_append_left _ (List.mem_append_left _ (List.mem_append_left _ (List.mem_append_left _ (List.mem_append_left _ (List.mem_of_getElem? (l := wsX1_someTightMat_r1) (i := 4) rfl))))))), (List.forall_mem_cons.mpr ⟨List.mem_cons_of_mem _ (List.mem_append_left _ (List.mem_append_left _ (List.mem_append_left _ (List.mem_append_left _ (List.mem_append_left _ (List.mem_append_right _ (List.mem_of_getElem? (l := wsX1_someTightMat_r2) (i := 12) rfl))))))), (fun _ h => nomatch h)⟩)⟩)⟩)⟩)⟩)⟩)⟩)⟩)⟩), (fun _ h => List.mem_cons_of_mem _ (List.mem_append_left _ (List.mem_append_left _ (List.mem_append_left _ (List.mem_append_right _ (h))))))⟩), (fun _ h => List.mem_cons_of_mem _ (List.mem_append_left _ (List.mem_append_left _ (List.mem_append_left _ (List.mem_append_left _ (List.mem_append_right _ (h)))))))⟩), (fun _ h => List.mem_cons_of_mem _ (List.mem_append_left _ (List.mem_append_left _ (List.mem_append_right _ (h)))))⟩), (fun _ h => List.mem_cons_of_mem _ (List.mem_append_left _ (List.mem_append_right _ (h))))⟩), (fun _ h => List.mem_cons_of_mem _ (List.mem_append_right _ (h)))⟩)⟩) (by decide +kernel)
set_option maxRecDepth 20000 in
theorem gX1_someTightMat_X1_firstTight : GoodIn wsX1_someTightMat (wsV RX1 70 RX1 yX1_firstTight wsX1_firstTight) := goodIn_app (goodIn_of _ (by decide +kernel)) ggX1_someTightMat_X1_firstTight
set_option maxRecDepth 20000 in
theorem ggX1_someTightMat_X9_size : GoodIn wsX1_someTightMat wsX9_size := goodIn_sub (List.forall_mem_cons.mpr ⟨List.mem_cons_of_mem _ (List.mem_append_left _ (List.mem_append_left _ (List.mem_append_left _ (List.mem_append_left _ (List.mem_append_left _ (List.mem_append_right _ (List.mem_of_getElem? (l := wsX1_someTightMat_r2) (i := 16) rfl))))))), (List.forall_mem_append.mpr ⟨(List.forall_mem_cons.mpr ⟨List.mem_cons_of_mem _ (List.mem_append_left _ (List.mem_append_left _ (List.mem_append_left _ (List.mem_append_left _ (List.mem_append_left _ (List.mem_append_left _ (List.mem_of_getElem? (l := wsX1_someTightMat_r1) (i := 20) rfl))))))), (fun _ h => nomatch h)⟩), (fun _ h => List.mem_cons_of_mem _ (List.mem_append_left _ (List.mem_append_left _ (List.mem_append_right _ (h)))))⟩)⟩) (by decide +kernel)
set_option maxRecDepth 20000 in
theorem gX1_someTightMat_X9_size : GoodIn wsX1_someTightMat (wsV RX1 84 RX9 yX9_size wsX9_size) := goodIn_app (goodIn_of _ (by decide +kernel)) ggX1_someTightMat_X9_size
theorem kX1_someTightMat_0 : (.fieldLink RX1 27 "RunDesk$Foretelling" "tried" "LRunDesk$Guns;" : Cond) ∈ wsX1_someTightMat := List.mem_of_getElem? (i := 1) (by decide +kernel)
theorem qX1_someTightMat_X1 : ∀ w ∈ wsX10, w ∈ wsX1_someTightMat := fun _ h => List.mem_cons_of_mem _ (List.mem_append_left _ (List.mem_append_left _ (List.mem_append_left _ (List.mem_append_left _ (List.mem_append_right _ (h))))))
theorem qX1_someTightMat_X4 : ∀ w ∈ wsX40, w ∈ wsX1_someTightMat := fun _ h => List.mem_cons_of_mem _ (List.mem_append_left _ (List.mem_append_left _ (List.mem_append_left _ (List.mem_append_right _ (h)))))
set_option maxHeartbeats 4000000 in
set_option maxRecDepth 100000 in
theorem mX1_someTightMat (l : Launch) (D : va_G) (cB cI cZ : ClassId) (a_t : Nat) (a_p1 : Nat) (a_t_seconds : Nat) (a_t_pens : Nat) (a_t_minutes : Nat) (a_t_passers : Nat) (a_t_tried : Nat) (a_t_tried_ticks : Nat) (a_p1_way : Nat) (a_p1_guns : Nat) (a_p1_runners : Nat) (a_p1_runners_facts : Nat) (a_p1_runners_splits : Nat) (a_p1_runners_torn : Nat) (a_p1_runners_dropped : Nat) (a_p1_runners_waved : Nat) (a_p1_runners_struck : Nat) (a_p1_runners_strikingOrder : Nat) (a_p1_way_places : Nat) (a_p1_way_bearings : Nat) (a_p1_way_cuts : Nat) (a_p1_way_deaths : Nat) (t_minutes : Nat → Int32) (t_passers : Nat → Int32) (t_pens : Nat → Int32) (t_seconds : Nat → Int32) (t_tried_ticks : Nat → Int32) (p1_runners_entered : Int32) (p1_runners_strikings : Int32) (p1_way_mats : Int32) (p1_way_bearings : Nat → Int32) (sz : Nat) (x2 : Int32) (N : Nat) (r0 : Int32) (t_minutes' : Nat → Int32) (t_passers' : Nat → Int32) (h : fX1_someTightMat N t_minutes t_passers t_pens t_seconds t_tried_ticks p1_runners_entered p1_way_mats p1_way_bearings x2 = some (r0, t_minutes', t_passers')) : Met l yX1_someTightMat wsX1_someTightMat ({ frames := 3, cells := 0, slots := 0, locals := 72 } : Room) (va_Pc [.ref a_t, .ref a_p1, .int x2] (zPre D (zT cB cI cZ) [(a_t, .inr (1, [.ref a_t_seconds, .ref a_t_pens, .ref a_t_minutes, .ref a_t_passers, .ref a_t_tried])), (a_t_minutes, .inl (cI, 60, .inl t_minutes)), (a_t_passers, .inl (cI, 4001, .inl t_passers)), (a_t_pens, .inl (cI, 60, .inl t_pens)), (a_t_seconds, .inl (cI, 720, .inl t_seconds)), (a_t_tried, .inr (2, [.ref a_t_tried_ticks])), (a_t_tried_ticks, .inl (cI, 6, .inl t_tried_ticks)), (a_p1, .inr (4, [.ref a_p1_way, .ref a_p1_guns, .ref a_p1_runners])), (a_p1_runners, .inr (6, [.ref a_p1_runners_facts, .ref a_p1_runners_splits, .ref a_p1_runners_torn, .ref a_p1_runners_dropped, .ref a_p1_runners_waved, .ref a_p1_runners_struck, .ref a_p1_runners_strikingOrder, .int p1_runners_entered, .int p1_runners_strikings])), (a_p1_way, .inr (9, [.ref a_p1_way_places, .ref a_p1_way_bearings, .ref a_p1_way_cuts, .ref a_p1_way_deaths, .int p1_way_mats])), (a_p1_way_bearings, .inl (cI, 12, .inl p1_way_bearings))] sz)) (zQi r0 D (zT cB cI cZ) [(a_t, .inr (1, [.ref a_t_seconds, .ref a_t_pens, .ref a_t_minutes, .ref a_t_passers, .ref a_t_tried])), (a_t_minutes, .inl (cI, 60, .inl t_minutes')), (a_t_passers, .inl (cI, 4001, .inl t_passers')), (a_t_pens, .inl (cI, 60, .inl t_pens)), (a_t_seconds, .inl (cI, 720, .inl t_seconds)), (a_t_tried, .inr (2, [.ref a_t_tried_ticks])), (a_t_tried_ticks, .inl (cI, 6, .inl t_tried_ticks)), (a_p1, .inr (4, [.ref a_p1_way, .ref a_p1_guns, .ref a_p1_runners])), (a_p1_runners, .inr (6, [.ref a_p1_runners_facts, .ref a_p1_runners_splits, .ref a_p1_runners_torn, .ref a_p1_runners_dropped, .ref a_p1_runners_waved, .ref a_p1_runners_struck, .ref a_p1_runners_strikingOrder, .int p1_runners_entered, .int p1_runners_strikings])), (a_p1_way, .inr (9, [.ref a_p1_way_places, .ref a_p1_way_bearings, .ref a_p1_way_cuts, .ref a_p1_way_deaths, .int p1_way_mats])), (a_p1_way_bearings, .inl (cI, 12, .inl p1_way_bearings))] (va_A [(a_t, .inr (1, [.ref a_t_seconds, .ref a_t_pens, .ref a_t_minutes, .ref a_t_passers, .ref a_t_tried])), (a_t_minutes, .inl (cI, 60, .inl t_minutes)), (a_t_passers, .inl (cI, 4001, .inl t_passers)), (a_t_pens, .inl (cI, 60, .inl t_pens)), (a_t_seconds, .inl (cI, 720, .inl t_seconds)), (a_t_tried, .inr (2, [.ref a_t_tried_ticks])), (a_t_tried_ticks, .inl (cI, 6, .inl t_tried_ticks)), (a_p1, .inr (4, [.ref a_p1_way, .ref a_p1_guns, .ref a_p1_runners])), (a_p1_runners, .inr (6, [.ref a_p1_runners_facts, .ref a_p1_runners_splits, .ref a_p1_runners_torn, .ref a_p1_runners_dropped, .ref a_p1_runners_waved, .ref a_p1_runners_struck, .ref a_p1_runners_strikingOrder, .int p1_runners_entered, .int p1_runners_strikings])), (a_p1_way, .inr (9, [.ref a_p1_way_places, .ref a_p1_way_bearings, .ref a_p1_way_cuts, .ref a_p1_way_deaths, .int p1_way_mats])), (a_p1_way_bearings, .inl (cI, 12, .inl p1_way_bearings))] sz)) 0 0 (va_A [(a_t, .inr (1, [.ref a_t_seconds, .ref a_t_pens, .ref a_t_minutes, .ref a_t_passers, .ref a_t_tried])), (a_t_minutes, .inl (cI, 60, .inl t_minutes)), (a_t_passers, .inl (cI, 4001, .inl t_passers)), (a_t_pens, .inl (cI, 60, .inl t_pens)), (a_t_seconds, .inl (cI, 720, .inl t_seconds)), (a_t_tried, .inr (2, [.ref a_t_tried_ticks])), (a_t_tried_ticks, .inl (cI, 6, .inl t_tried_ticks)), (a_p1, .inr (4, [.ref a_p1_way, .ref a_p1_guns, .ref a_p1_runners])), (a_p1_runners, .inr (6, [.ref a_p1_runners_facts, .ref a_p1_runners_splits, .ref a_p1_runners_torn, .ref a_p1_runners_dropped, .ref a_p1_runners_waved, .ref a_p1_runners_struck, .ref a_p1_runners_strikingOrder, .int p1_runners_entered, .int p1_runners_strikings])), (a_p1_way, .inr (9, [.ref a_p1_way_places, .ref a_p1_way_bearings, .ref a_p1_way_cuts, .ref a_p1_way_deaths, .int p1_way_mats])), (a_p1_way_bearings, .inl (cI, 12, .inl p1_way_bearings))] sz) := by
  refine Met.ofW (cc := cX1_someTightMat) (maxL := 4) (ret := (some .int)) (by decide) rfl ?_
  intro p e s m args below meth c s₁ B hml hv
  obtain ⟨rfl, hsz, hP, hK, hN, hZ, hD0⟩ := hv
  have hx := B.exec
  have hb := B.bytes
  have hr := B.returns
  have hts := atoms_spec (ws := wsX1_someTightMat) B.pre
  have hown : s.vm.findClass RX1 = some m.cls := findClass_of_methodNamed B.named
  have hlocks := B.notSynchronized
  subst hsz
  have hD := hD0.self (sz := s.heap.size)
  generalize hAe : va_A [(a_t, .inr (1, [.ref a_t_seconds, .ref a_t_pens, .ref a_t_minutes, .ref a_t_passers, .ref a_t_tried])), (a_t_minutes, .inl (cI, 60, .inl t_minutes)), (a_t_passers, .inl (cI, 4001, .inl t_passers)), (a_t_pens, .inl (cI, 60, .inl t_pens)), (a_t_seconds, .inl (cI, 720, .inl t_seconds)), (a_t_tried, .inr (2, [.ref a_t_tried_ticks])), (a_t_tried_ticks, .inl (cI, 6, .inl t_tried_ticks)), (a_p1, .inr (4, [.ref a_p1_way, .ref a_p1_guns, .ref a_p1_runners])), (a_p1_runners, .inr (6, [.ref a_p1_runners_facts, .ref a_p1_runners_splits, .ref a_p1_runners_torn, .ref a_p1_runners_dropped, .ref a_p1_runners_waved, .ref a_p1_runners_struck, .ref a_p1_runners_strikingOrder, .int p1_runners_entered, .int p1_runners_strikings])), (a_p1_way, .inr (9, [.ref a_p1_way_places, .ref a_p1_way_bearings, .ref a_p1_way_cuts, .ref a_p1_way_deaths, .int p1_way_mats])), (a_p1_way_bearings, .inl (cI, 12, .inl p1_way_bearings))] s.heap.size = A at hD hZ ⊢
  have hA : ∀ q : Nat, s.heap.size ≤ q → A q := fun q h => by rw [← hAe]; exact Or.inr h
  have hS : va_S A s.heap s.heap [] := va_S.rf
  have hl := lv_entry ([.ref a_t, .ref a_p1, .int x2]) (n := 4) (Nat.le_of_ble_eq_true rfl)
  rw [lg_entry_eq]
  generalize (lg_sl ([.ref a_t, .ref a_p1, .int x2]) ++ List.replicate (4 - (lg_sl ([.ref a_t, .ref a_p1, .int x2])).length) Slot.unset).toArray = ls at hl ⊢
  have hl : lv_has ls 4 [(0, .ref a_t), (1, .ref a_p1), (2, .int x2)] := hl
  unfold fX1_someTightMat at h
  refine lv_aload_n hx hb dX1_someTightMat_0 rfl (lv_at hl 0 rfl) ?_
  refine lv_aload_n hx hb dX1_someTightMat_1 rfl (lv_at hl 1 rfl) ?_
  refine lv_aload_n hx hb dX1_someTightMat_2 rfl (lv_at hl 0 rfl) ?_
  refine va_get (D := D) (ci := 1) (C := RX1) (T := TX1) (N := 5) hx hb hts qX1_someTightMat_X1 hown hK hP 0 rfl rfl 4 (by decide) (hts _ kX1_someTightMat_0) (fun _ h9 => h9) rfl dX1_someTightMat_3 ?_
  refine lv_iload_n hx hb dX1_someTightMat_6 rfl (lv_at hl 2 rfl) ?_
  obtain ⟨⟨r1, t_minutes_r2, t_passers_r3⟩, e4, h⟩ := zz_b h
  dsimp only at h
  refine zVi (As := [.ref a_p1, .ref a_t_tried, .int x2]) (rest := []) (C := RX1) (wr := []) [0, 1, 2, 3, 4, 7, 8, 9, 10, 5, 6] [] 0 ⟨hx, hb, hml, hown, hts⟩ (mX1_firstTight l D cB cI cZ a_t a_p1 a_t_tried a_t_seconds a_t_pens a_t_minutes a_t_passers a_t_tried a_p1_way a_p1_guns a_p1_runners a_p1_runners_facts a_p1_runners_splits a_p1_runners_torn a_p1_runners_dropped a_p1_runners_waved a_p1_runners_struck a_p1_runners_strikingOrder a_p1_way_places a_p1_way_bearings a_p1_way_cuts a_p1_way_deaths a_t_tried_ticks t_minutes t_passers t_pens t_seconds p1_runners_entered p1_runners_strikings p1_way_mats p1_way_bearings t_tried_ticks s.heap.size x2 N r1 t_minutes_r2 t_passers_r3 e4) (cwV 3 hts gX1_someTightMat_X1_firstTight rfl rfl rfl (by decide +kernel) ⟨Nat.le_of_ble_eq_true rfl, Nat.le_of_ble_eq_true rfl⟩) hK hN hZ hP hD hS hA rfl rfl rfl rfl rfl rfl rfl rfl hl.1 rfl (lv_room (Nat.le_of_ble_eq_true rfl)) dX1_someTightMat_7 ⟨Nat.le_of_ble_eq_true rfl, Nat.le_of_ble_eq_true rfl⟩ (fun H locs hP hD hS => ?_)
  have hP : va_P D vwCl [(a_t, .inr (1, [.ref a_t_seconds, .ref a_t_pens, .ref a_t_minutes, .ref a_t_passers, .ref a_t_tried])), (a_t_minutes, .inl (cI, 60, .inl t_minutes_r2)), (a_t_passers, .inl (cI, 4001, .inl t_passers_r3)), (a_t_pens, .inl (cI, 60, .inl t_pens)), (a_t_seconds, .inl (cI, 720, .inl t_seconds)), (a_p1, .inr (4, [.ref a_p1_way, .ref a_p1_guns, .ref a_p1_runners])), (a_p1_runners, .inr (6, [.ref a_p1_runners_facts, .ref a_p1_runners_splits, .ref a_p1_runners_torn, .ref a_p1_runners_dropped, .ref a_p1_runners_waved, .ref a_p1_runners_struck, .ref a_p1_runners_strikingOrder, .int p1_runners_entered, .int p1_runners_strikings])), (a_p1_way, .inr (9, [.ref a_p1_way_places, .ref a_p1_way_bearings, .ref a_p1_way_cuts, .ref a_p1_way_deaths, .int p1_way_mats])), (a_p1_way_bearings, .inl (cI, 12, .inl p1_way_bearings)), (a_t_tried, .inr (2, [.ref a_t_tried_ticks])), (a_t_tried_ticks, .inl (cI, 6, .inl t_tried_ticks))] H := hP
  have hD : va_D A [(a_t, .inr (1, [.ref a_t_seconds, .ref a_t_pens, .ref a_t_minutes, .ref a_t_passers, .ref a_t_tried])), (a_t_minutes, .inl (cI, 60, .inl t_minutes_r2)), (a_t_passers, .inl (cI, 4001, .inl t_passers_r3)), (a_t_pens, .inl (cI, 60, .inl t_pens)), (a_t_seconds, .inl (cI, 720, .inl t_seconds)), (a_p1, .inr (4, [.ref a_p1_way, .ref a_p1_guns, .ref a_p1_runners])), (a_p1_runners, .inr (6, [.ref a_p1_runners_facts, .ref a_p1_runners_splits, .ref a_p1_runners_torn, .ref a_p1_runners_dropped, .ref a_p1_runners_waved, .ref a_p1_runners_struck, .ref a_p1_runners_strikingOrder, .int p1_runners_entered, .int p1_runners_strikings])), (a_p1_way, .inr (9, [.ref a_p1_way_places, .ref a_p1_way_bearings, .ref a_p1_way_cuts, .ref a_p1_way_deaths, .int p1_way_mats])), (a_p1_way_bearings, .inl (cI, 12, .inl p1_way_bearings)), (a_t_tried, .inr (2, [.ref a_t_tried_ticks])), (a_t_tried_ticks, .inl (cI, 6, .inl t_tried_ticks))] := hD
  refine lv_iconst (v := (-1 : Int32)) hx hb dX1_someTightMat_10 rfl ?_
  refine lv_icmp_eq (tgt := 16) hx hb dX1_someTightMat_11 (by decide) (fun c5 => ?_) (fun c5 => ?_)
  · have h := zz_t h c5
    refine lv_iconst (v := (nI 0)) hx hb dX1_someTightMat_16 rfl ?_
    refine lv_istore_n (lv' := [(3, .int (nI 0)), (0, .ref a_t), (1, .ref a_p1), (2, .int x2)]) hx hb dX1_someTightMat_17 rfl hl (by decide) rfl (fun ls hl => ?_)
    have X18_51 : ∀ (v3_18 : Int32) (t_minutes_l18 : Nat → Int32) (t_passers_l18 : Nat → Int32) (H : Heap) (locs : List Loc) (ls : Array Slot), some ((-1 : Int32), t_minutes_l18, t_passers_l18) = some (r0, t_minutes', t_passers') → va_P D vwCl [(a_t, .inr (1, [.ref a_t_seconds, .ref a_t_pens, .ref a_t_minutes, .ref a_t_passers, .ref a_t_tried])), (a_t_minutes, .inl (cI, 60, .inl t_minutes_l18)), (a_t_passers, .inl (cI, 4001, .inl t_passers_l18)), (a_t_pens, .inl (cI, 60, .inl t_pens)), (a_t_seconds, .inl (cI, 720, .inl t_seconds)), (a_p1, .inr (4, [.ref a_p1_way, .ref a_p1_guns, .ref a_p1_runners])), (a_p1_runners, .inr (6, [.ref a_p1_runners_facts, .ref a_p1_runners_splits, .ref a_p1_runners_torn, .ref a_p1_runners_dropped, .ref a_p1_runners_waved, .ref a_p1_runners_struck, .ref a_p1_runners_strikingOrder, .int p1_runners_entered, .int p1_runners_strikings])), (a_p1_way, .inr (9, [.ref a_p1_way_places, .ref a_p1_way_bearings, .ref a_p1_way_cuts, .ref a_p1_way_deaths, .int p1_way_mats])), (a_p1_way_bearings, .inl (cI, 12, .inl p1_way_bearings)), (a_t_tried, .inr (2, [.ref a_t_tried_ticks])), (a_t_tried_ticks, .inl (cI, 6, .inl t_tried_ticks))] H → va_D A [(a_t, .inr (1, [.ref a_t_seconds, .ref a_t_pens, .ref a_t_minutes, .ref a_t_passers, .ref a_t_tried])), (a_t_minutes, .inl (cI, 60, .inl t_minutes_l18)), (a_t_passers, .inl (cI, 4001, .inl t_passers_l18)), (a_t_pens, .inl (cI, 60, .inl t_pens)), (a_t_seconds, .inl (cI, 720, .inl t_seconds)), (a_p1, .inr (4, [.ref a_p1_way, .ref a_p1_guns, .ref a_p1_runners])), (a_p1_runners, .inr (6, [.ref a_p1_runners_facts, .ref a_p1_runners_splits, .ref a_p1_runners_torn, .ref a_p1_runners_dropped, .ref a_p1_runners_waved, .ref a_p1_runners_struck, .ref a_p1_runners_strikingOrder, .int p1_runners_entered, .int p1_runners_strikings])), (a_p1_way, .inr (9, [.ref a_p1_way_places, .ref a_p1_way_bearings, .ref a_p1_way_cuts, .ref a_p1_way_deaths, .int p1_way_mats])), (a_p1_way_bearings, .inl (cI, 12, .inl p1_way_bearings)), (a_t_tried, .inr (2, [.ref a_t_tried_ticks])), (a_t_tried_ticks, .inl (cI, 6, .inl t_tried_ticks))] → va_S A s.heap H locs → lv_has ls 4 [(3, .int v3_18), (0, .ref a_t), (1, .ref a_p1), (2, .int x2)] → W p l e (headSpec wsX1_someTightMat ({ frames := 3, cells := 0, slots := 0, locals := 72 } : Room)).room s m #[Value.ref a_t, Value.ref a_p1, Value.int x2] below meth c H locs 0 0 (MQ below (zQi r0 D (zT cB cI cZ) [(a_t, .inr (1, [.ref a_t_seconds, .ref a_t_pens, .ref a_t_minutes, .ref a_t_passers, .ref a_t_tried])), (a_t_minutes, .inl (cI, 60, .inl t_minutes')), (a_t_passers, .inl (cI, 4001, .inl t_passers')), (a_t_pens, .inl (cI, 60, .inl t_pens)), (a_t_seconds, .inl (cI, 720, .inl t_seconds)), (a_t_tried, .inr (2, [.ref a_t_tried_ticks])), (a_t_tried_ticks, .inl (cI, 6, .inl t_tried_ticks)), (a_p1, .inr (4, [.ref a_p1_way, .ref a_p1_guns, .ref a_p1_runners])), (a_p1_runners, .inr (6, [.ref a_p1_runners_facts, .ref a_p1_runners_splits, .ref a_p1_runners_torn, .ref a_p1_runners_dropped, .ref a_p1_runners_waved, .ref a_p1_runners_struck, .ref a_p1_runners_strikingOrder, .int p1_runners_entered, .int p1_runners_strikings])), (a_p1_way, .inr (9, [.ref a_p1_way_places, .ref a_p1_way_bearings, .ref a_p1_way_cuts, .ref a_p1_way_deaths, .int p1_way_mats])), (a_p1_way_bearings, .inl (cI, 12, .inl p1_way_bearings))] A) #[Value.ref a_t, Value.ref a_p1, Value.int x2] s 0 0 A) (F0 m 51 ls []) := by
      intro v3_18 t_minutes_l18 t_passers_l18 H locs ls h hP hD hS hl
      refine lv_iconst (v := (-1 : Int32)) hx hb dX1_someTightMat_51 rfl ?_
      obtain ⟨j0_, g_⟩ := Prod.mk.inj (Option.some.inj h)
      obtain ⟨j1_, g_⟩ := Prod.mk.inj g_
      have j2_ := g_
      subst j0_
      subst j1_
      subst j2_
      exact W.iret (v := (-1 : Int32)) hx hb hr (fun t ht hW => ⟨⟨_, (), rfl, rfl, zPost.of hP hD hK ht hW [0, 1, 2, 3, 4, 9, 10, 5, 6, 7, 8] rfl rfl rfl⟩, hS.F ht⟩) hS.2.2 dX1_someTightMat_52
    have L18 : ∀ (n : Nat) (v3_18 : Int32) (t_minutes_l18 : Nat → Int32) (t_passers_l18 : Nat → Int32) (H : Heap) (locs : List Loc) (ls : Array Slot), fX1_someTightMat_L18 N t_pens t_seconds t_tried_ticks p1_runners_entered p1_way_mats p1_way_bearings (fun (v3_18 : Int32) (t_minutes_l18 : Nat → Int32) (t_passers_l18 : Nat → Int32) => some ((-1 : Int32), t_minutes_l18, t_passers_l18)) n v3_18 t_minutes_l18 t_passers_l18 = some (r0, t_minutes', t_passers') → va_P D vwCl [(a_t, .inr (1, [.ref a_t_seconds, .ref a_t_pens, .ref a_t_minutes, .ref a_t_passers, .ref a_t_tried])), (a_t_minutes, .inl (cI, 60, .inl t_minutes_l18)), (a_t_passers, .inl (cI, 4001, .inl t_passers_l18)), (a_t_pens, .inl (cI, 60, .inl t_pens)), (a_t_seconds, .inl (cI, 720, .inl t_seconds)), (a_p1, .inr (4, [.ref a_p1_way, .ref a_p1_guns, .ref a_p1_runners])), (a_p1_runners, .inr (6, [.ref a_p1_runners_facts, .ref a_p1_runners_splits, .ref a_p1_runners_torn, .ref a_p1_runners_dropped, .ref a_p1_runners_waved, .ref a_p1_runners_struck, .ref a_p1_runners_strikingOrder, .int p1_runners_entered, .int p1_runners_strikings])), (a_p1_way, .inr (9, [.ref a_p1_way_places, .ref a_p1_way_bearings, .ref a_p1_way_cuts, .ref a_p1_way_deaths, .int p1_way_mats])), (a_p1_way_bearings, .inl (cI, 12, .inl p1_way_bearings)), (a_t_tried, .inr (2, [.ref a_t_tried_ticks])), (a_t_tried_ticks, .inl (cI, 6, .inl t_tried_ticks))] H → va_D A [(a_t, .inr (1, [.ref a_t_seconds, .ref a_t_pens, .ref a_t_minutes, .ref a_t_passers, .ref a_t_tried])), (a_t_minutes, .inl (cI, 60, .inl t_minutes_l18)), (a_t_passers, .inl (cI, 4001, .inl t_passers_l18)), (a_t_pens, .inl (cI, 60, .inl t_pens)), (a_t_seconds, .inl (cI, 720, .inl t_seconds)), (a_p1, .inr (4, [.ref a_p1_way, .ref a_p1_guns, .ref a_p1_runners])), (a_p1_runners, .inr (6, [.ref a_p1_runners_facts, .ref a_p1_runners_splits, .ref a_p1_runners_torn, .ref a_p1_runners_dropped, .ref a_p1_runners_waved, .ref a_p1_runners_struck, .ref a_p1_runners_strikingOrder, .int p1_runners_entered, .int p1_runners_strikings])), (a_p1_way, .inr (9, [.ref a_p1_way_places, .ref a_p1_way_bearings, .ref a_p1_way_cuts, .ref a_p1_way_deaths, .int p1_way_mats])), (a_p1_way_bearings, .inl (cI, 12, .inl p1_way_bearings)), (a_t_tried, .inr (2, [.ref a_t_tried_ticks])), (a_t_tried_ticks, .inl (cI, 6, .inl t_tried_ticks))] → va_S A s.heap H locs → lv_has ls 4 [(3, .int v3_18), (0, .ref a_t), (1, .ref a_p1), (2, .int x2)] → W p l e (headSpec wsX1_someTightMat ({ frames := 3, cells := 0, slots := 0, locals := 72 } : Room)).room s m #[Value.ref a_t, Value.ref a_p1, Value.int x2] below meth c H locs 0 0 (MQ below (zQi r0 D (zT cB cI cZ) [(a_t, .inr (1, [.ref a_t_seconds, .ref a_t_pens, .ref a_t_minutes, .ref a_t_passers, .ref a_t_tried])), (a_t_minutes, .inl (cI, 60, .inl t_minutes')), (a_t_passers, .inl (cI, 4001, .inl t_passers')), (a_t_pens, .inl (cI, 60, .inl t_pens)), (a_t_seconds, .inl (cI, 720, .inl t_seconds)), (a_t_tried, .inr (2, [.ref a_t_tried_ticks])), (a_t_tried_ticks, .inl (cI, 6, .inl t_tried_ticks)), (a_p1, .inr (4, [.ref a_p1_way, .ref a_p1_guns, .ref a_p1_runners])), (a_p1_runners, .inr (6, [.ref a_p1_runners_facts, .ref a_p1_runners_splits, .ref a_p1_runners_torn, .ref a_p1_runners_dropped, .ref a_p1_runners_waved, .ref a_p1_runners_struck, .ref a_p1_runners_strikingOrder, .int p1_runners_entered, .int p1_runners_strikings])), (a_p1_way, .inr (9, [.ref a_p1_way_places, .ref a_p1_way_bearings, .ref a_p1_way_cuts, .ref a_p1_way_deaths, .int p1_way_mats])), (a_p1_way_bearings, .inl (cI, 12, .inl p1_way_bearings))] A) #[Value.ref a_t, Value.ref a_p1, Value.int x2] s 0 0 A) (F0 m 18 ls []) := by
      intro n
      induction n with
      | zero => intro _ _ _ H locs ls h hP hD hS hl; cases h
      | succ n18 ih18 =>
        intro v3_18 t_minutes_l18 t_passers_l18 H locs ls h hP hD hS hl
        rw [fX1_someTightMat_L18.eq_2] at h
        refine lv_iload_n hx hb dX1_someTightMat_18 rfl (lv_at hl 0 rfl) ?_
        refine lv_aload_n hx hb dX1_someTightMat_19 rfl (lv_at hl 2 rfl) ?_
        refine va_getN (host := "RunDesk") (D := D) (ci := 4) (C := RX4) (T := TX4) (N := 3) hx hb hts qX1_someTightMat_X4 hown hK hP 5 rfl rfl 0 (by decide) (va_Nw.use rfl (hN _ (List.mem_of_getElem? (i := 1) rfl))) (fun _ h9 => h9) rfl dX1_someTightMat_20 ?_
        obtain ⟨r6, e7, h⟩ := zz_b h
        refine zVi (As := []) (rest := [.int v3_18]) (C := RX9) (wr := [(a_t, .inr (1, [.ref a_t_seconds, .ref a_t_pens, .ref a_t_minutes, .ref a_t_passers, .ref a_t_tried])), (a_t_minutes, .inl (cI, 60, .inl t_minutes_l18)), (a_t_passers, .inl (cI, 4001, .inl t_passers_l18)), (a_t_pens, .inl (cI, 60, .inl t_pens)), (a_t_seconds, .inl (cI, 720, .inl t_seconds)), (a_p1, .inr (4, [.ref a_p1_way, .ref a_p1_guns, .ref a_p1_runners])), (a_p1_runners, .inr (6, [.ref a_p1_runners_facts, .ref a_p1_runners_splits, .ref a_p1_runners_torn, .ref a_p1_runners_dropped, .ref a_p1_runners_waved, .ref a_p1_runners_struck, .ref a_p1_runners_strikingOrder, .int p1_runners_entered, .int p1_runners_strikings])), (a_p1_way_bearings, .inl (cI, 12, .inl p1_way_bearings)), (a_t_tried, .inr (2, [.ref a_t_tried_ticks])), (a_t_tried_ticks, .inl (cI, 6, .inl t_tried_ticks))]) [7] [0, 1, 2, 3, 4, 5, 6, 8, 9, 10] 0 ⟨hx, hb, hml, hown, hts⟩ (mX9_size l D cB cI cZ a_p1_way a_p1_way_places a_p1_way_bearings a_p1_way_cuts a_p1_way_deaths p1_way_mats H.size r6 e7) (cwV 0 hts gX1_someTightMat_X9_size rfl rfl rfl (by decide +kernel) ⟨Nat.le_of_ble_eq_true rfl, Nat.le_of_ble_eq_true rfl⟩) hK hN hZ hP hD hS hA rfl rfl rfl rfl rfl rfl rfl rfl hl.1 rfl (lv_room (Nat.le_of_ble_eq_true rfl)) dX1_someTightMat_23 ⟨Nat.le_of_ble_eq_true rfl, Nat.le_of_ble_eq_true rfl⟩ (fun H locs hP hD hS => ?_)
        have hP : va_P D vwCl [(a_t, .inr (1, [.ref a_t_seconds, .ref a_t_pens, .ref a_t_minutes, .ref a_t_passers, .ref a_t_tried])), (a_t_minutes, .inl (cI, 60, .inl t_minutes_l18)), (a_t_passers, .inl (cI, 4001, .inl t_passers_l18)), (a_t_pens, .inl (cI, 60, .inl t_pens)), (a_t_seconds, .inl (cI, 720, .inl t_seconds)), (a_p1, .inr (4, [.ref a_p1_way, .ref a_p1_guns, .ref a_p1_runners])), (a_p1_runners, .inr (6, [.ref a_p1_runners_facts, .ref a_p1_runners_splits, .ref a_p1_runners_torn, .ref a_p1_runners_dropped, .ref a_p1_runners_waved, .ref a_p1_runners_struck, .ref a_p1_runners_strikingOrder, .int p1_runners_entered, .int p1_runners_strikings])), (a_p1_way_bearings, .inl (cI, 12, .inl p1_way_bearings)), (a_t_tried, .inr (2, [.ref a_t_tried_ticks])), (a_t_tried_ticks, .inl (cI, 6, .inl t_tried_ticks)), (a_p1_way, .inr (9, [.ref a_p1_way_places, .ref a_p1_way_bearings, .ref a_p1_way_cuts, .ref a_p1_way_deaths, .int p1_way_mats]))] H := hP
        have hD : va_D A [(a_t, .inr (1, [.ref a_t_seconds, .ref a_t_pens, .ref a_t_minutes, .ref a_t_passers, .ref a_t_tried])), (a_t_minutes, .inl (cI, 60, .inl t_minutes_l18)), (a_t_passers, .inl (cI, 4001, .inl t_passers_l18)), (a_t_pens, .inl (cI, 60, .inl t_pens)), (a_t_seconds, .inl (cI, 720, .inl t_seconds)), (a_p1, .inr (4, [.ref a_p1_way, .ref a_p1_guns, .ref a_p1_runners])), (a_p1_runners, .inr (6, [.ref a_p1_runners_facts, .ref a_p1_runners_splits, .ref a_p1_runners_torn, .ref a_p1_runners_dropped, .ref a_p1_runners_waved, .ref a_p1_runners_struck, .ref a_p1_runners_strikingOrder, .int p1_runners_entered, .int p1_runners_strikings])), (a_p1_way_bearings, .inl (cI, 12, .inl p1_way_bearings)), (a_t_tried, .inr (2, [.ref a_t_tried_ticks])), (a_t_tried_ticks, .inl (cI, 6, .inl t_tried_ticks)), (a_p1_way, .inr (9, [.ref a_p1_way_places, .ref a_p1_way_bearings, .ref a_p1_way_cuts, .ref a_p1_way_deaths, .int p1_way_mats]))] := hD
        refine lv_icmp_ge (tgt := 51) hx hb dX1_someTightMat_26 (by decide) (fun c8 => ?_) (fun c8 => ?_)
        · have h := zz_t h c8
          exact X18_51 v3_18 t_minutes_l18 t_passers_l18 _ _ _ h (hP.sub [0, 1, 2, 3, 4, 5, 6, 10, 7, 8, 9] rfl) (hD.sub [0, 1, 2, 3, 4, 5, 6, 10, 7, 8, 9] rfl rfl) hS (lv_sub hl [0, 1, 2, 3] rfl)
        · have h := zz_f h c8
          refine lv_aload_n hx hb dX1_someTightMat_29 rfl (lv_at hl 1 rfl) ?_
          refine lv_aload_n hx hb dX1_someTightMat_30 rfl (lv_at hl 2 rfl) ?_
          refine lv_aload_n hx hb dX1_someTightMat_31 rfl (lv_at hl 1 rfl) ?_
          refine va_get (D := D) (ci := 1) (C := RX1) (T := TX1) (N := 5) hx hb hts qX1_someTightMat_X1 hown hK hP 0 rfl rfl 4 (by decide) (hts _ kX1_someTightMat_0) (fun _ h9 => h9) rfl dX1_someTightMat_32 ?_
          refine lv_iload_n hx hb dX1_someTightMat_35 rfl (lv_at hl 0 rfl) ?_
          obtain ⟨⟨r9, t_minutes_r10, t_passers_r11⟩, e12, h⟩ := zz_b h
          dsimp only at h
          refine zVi (As := [.ref a_p1, .ref a_t_tried, .int v3_18]) (rest := []) (C := RX1) (wr := []) [0, 1, 2, 3, 4, 5, 6, 10, 7, 8, 9] [] 0 ⟨hx, hb, hml, hown, hts⟩ (mX1_firstTight l D cB cI cZ a_t a_p1 a_t_tried a_t_seconds a_t_pens a_t_minutes a_t_passers a_t_tried a_p1_way a_p1_guns a_p1_runners a_p1_runners_facts a_p1_runners_splits a_p1_runners_torn a_p1_runners_dropped a_p1_runners_waved a_p1_runners_struck a_p1_runners_strikingOrder a_p1_way_places a_p1_way_bearings a_p1_way_cuts a_p1_way_deaths a_t_tried_ticks t_minutes_l18 t_passers_l18 t_pens t_seconds p1_runners_entered p1_runners_strikings p1_way_mats p1_way_bearings t_tried_ticks H.size v3_18 N r9 t_minutes_r10 t_passers_r11 e12) (cwV 3 hts gX1_someTightMat_X1_firstTight rfl rfl rfl (by decide +kernel) ⟨Nat.le_of_ble_eq_true rfl, Nat.le_of_ble_eq_true rfl⟩) hK hN hZ hP hD hS hA rfl rfl rfl rfl rfl rfl rfl rfl hl.1 rfl (lv_room (Nat.le_of_ble_eq_true rfl)) dX1_someTightMat_36 ⟨Nat.le_of_ble_eq_true rfl, Nat.le_of_ble_eq_true rfl⟩ (fun H locs hP hD hS => ?_)
          have hP : va_P D vwCl [(a_t, .inr (1, [.ref a_t_seconds, .ref a_t_pens, .ref a_t_minutes, .ref a_t_passers, .ref a_t_tried])), (a_t_minutes, .inl (cI, 60, .inl t_minutes_r10)), (a_t_passers, .inl (cI, 4001, .inl t_passers_r11)), (a_t_pens, .inl (cI, 60, .inl t_pens)), (a_t_seconds, .inl (cI, 720, .inl t_seconds)), (a_p1, .inr (4, [.ref a_p1_way, .ref a_p1_guns, .ref a_p1_runners])), (a_p1_runners, .inr (6, [.ref a_p1_runners_facts, .ref a_p1_runners_splits, .ref a_p1_runners_torn, .ref a_p1_runners_dropped, .ref a_p1_runners_waved, .ref a_p1_runners_struck, .ref a_p1_runners_strikingOrder, .int p1_runners_entered, .int p1_runners_strikings])), (a_p1_way, .inr (9, [.ref a_p1_way_places, .ref a_p1_way_bearings, .ref a_p1_way_cuts, .ref a_p1_way_deaths, .int p1_way_mats])), (a_p1_way_bearings, .inl (cI, 12, .inl p1_way_bearings)), (a_t_tried, .inr (2, [.ref a_t_tried_ticks])), (a_t_tried_ticks, .inl (cI, 6, .inl t_tried_ticks))] H := hP
          have hD : va_D A [(a_t, .inr (1, [.ref a_t_seconds, .ref a_t_pens, .ref a_t_minutes, .ref a_t_passers, .ref a_t_tried])), (a_t_minutes, .inl (cI, 60, .inl t_minutes_r10)), (a_t_passers, .inl (cI, 4001, .inl t_passers_r11)), (a_t_pens, .inl (cI, 60, .inl t_pens)), (a_t_seconds, .inl (cI, 720, .inl t_seconds)), (a_p1, .inr (4, [.ref a_p1_way, .ref a_p1_guns, .ref a_p1_runners])), (a_p1_runners, .inr (6, [.ref a_p1_runners_facts, .ref a_p1_runners_splits, .ref a_p1_runners_torn, .ref a_p1_runners_dropped, .ref a_p1_runners_waved, .ref a_p1_runners_struck, .ref a_p1_runners_strikingOrder, .int p1_runners_entered, .int p1_runners_strikings])), (a_p1_way, .inr (9, [.ref a_p1_way_places, .ref a_p1_way_bearings, .ref a_p1_way_cuts, .ref a_p1_way_deaths, .int p1_way_mats])), (a_p1_way_bearings, .inl (cI, 12, .inl p1_way_bearings)), (a_t_tried, .inr (2, [.ref a_t_tried_ticks])), (a_t_tried_ticks, .inl (cI, 6, .inl t_tried_ticks))] := hD
          refine lv_iconst (v := (-1 : Int32)) hx hb dX1_someTightMat_39 rfl ?_
          refine lv_icmp_eq (tgt := 45) hx hb dX1_someTightMat_40 (by decide) (fun c13 => ?_) (fun c13 => ?_)
          · have h := zz_t h c13
            refine lv_iinc (v := (v3_18 + (nI 1))) (lv' := [(3, .int (v3_18 + (nI 1))), (0, .ref a_t), (1, .ref a_p1), (2, .int x2)]) hx hb dX1_someTightMat_45 hl (k := 0) rfl rfl (by decide) rfl (fun ls hl => ?_)
            refine lv_goto (tgt := 18) hx hb dX1_someTightMat_48 (by decide) ?_
            exact ih18 (v3_18 + (nI 1)) t_minutes_r10 t_passers_r11 _ _ _ h (hP.sub [0, 1, 2, 3, 4, 5, 6, 7, 8, 9, 10] rfl) (hD.sub [0, 1, 2, 3, 4, 5, 6, 7, 8, 9, 10] rfl rfl) hS (lv_sub hl [0, 1, 2, 3] rfl)
          · have h := zz_f h c13
            refine lv_iload_n hx hb dX1_someTightMat_43 rfl (lv_at hl 0 rfl) ?_
            obtain ⟨j0_, g_⟩ := Prod.mk.inj (Option.some.inj h)
            obtain ⟨j1_, g_⟩ := Prod.mk.inj g_
            have j2_ := g_
            subst j0_
            subst j1_
            subst j2_
            exact W.iret (v := v3_18) hx hb hr (fun t ht hW => ⟨⟨_, (), rfl, rfl, zPost.of hP hD hK ht hW [0, 1, 2, 3, 4, 9, 10, 5, 6, 7, 8] rfl rfl rfl⟩, hS.F ht⟩) hS.2.2 dX1_someTightMat_44
    exact L18 N (nI 0) t_minutes_r2 t_passers_r3 _ _ _ h hP hD hS hl
  · have h := zz_f h c5
    refine lv_iload_n hx hb dX1_someTightMat_14 rfl (lv_at hl 2 rfl) ?_
    obtain ⟨j0_, g_⟩ := Prod.mk.inj (Option.some.inj h)
    obtain ⟨j1_, g_⟩ := Prod.mk.inj g_
    have j2_ := g_
    subst j0_
    subst j1_
    subst j2_
    exact W.iret (v := x2) hx hb hr (fun t ht hW => ⟨⟨_, (), rfl, rfl, zPost.of hP hD hK ht hW [0, 1, 2, 3, 4, 9, 10, 5, 6, 7, 8] rfl rfl rfl⟩, hS.F ht⟩) hS.2.2 dX1_someTightMat_15
/-! RunDesk$Guns.copyFrom -/
theorem dX2_copyFrom_0 : decode cX2_copyFrom 0 = .ok (.aload_n 1, 1) := by decide +kernel
theorem dX2_copyFrom_1 : decode cX2_copyFrom 1 = .ok (.getfield 9, 3) := by decide +kernel
theorem dX2_copyFrom_4 : decode cX2_copyFrom 4 = .ok (.iconst 0, 1) := by decide +kernel
theorem dX2_copyFrom_5 : decode cX2_copyFrom 5 = .ok (.aload_n 0, 1) := by decide +kernel
theorem dX2_copyFrom_6 : decode cX2_copyFrom 6 = .ok (.getfield 9, 3) := by decide +kernel
theorem dX2_copyFrom_9 : decode cX2_copyFrom 9 = .ok (.iconst 0, 1) := by decide +kernel
theorem dX2_copyFrom_10 : decode cX2_copyFrom 10 = .ok (.bipush 6, 2) := by decide +kernel
theorem dX2_copyFrom_12 : decode cX2_copyFrom 12 = .ok (.invokestatic 25, 3) := by decide +kernel
theorem dX2_copyFrom_15 : decode cX2_copyFrom 15 = .ok (.return_, 1) := by decide +kernel
theorem kX2_copyFrom_0 : (.fieldLink RX2 9 "RunDesk$Guns" "ticks" "[I" : Cond) ∈ wsX2_copyFrom := List.mem_of_getElem? (i := 1) (by decide +kernel)
theorem qX2_copyFrom_X2 : ∀ w ∈ wsX20, w ∈ wsX2_copyFrom := fun _ h => List.mem_cons_of_mem _ (List.mem_append_right _ (h))
theorem kX2_copyFrom_2 : (.methodLink RX2 25 arraycopyName : Cond) ∈ wsX2_copyFrom := List.mem_of_getElem? (i := 2) (by decide +kernel)
theorem kX2_copyFrom_3 : (.native arraycopyName : Cond) ∈ wsX2_copyFrom := List.mem_of_getElem? (i := 3) (by decide +kernel)
theorem kX2_copyFrom_4 : (.static arraycopyName : Cond) ∈ wsX2_copyFrom := List.mem_of_getElem? (i := 4) (by decide +kernel)
theorem kX2_copyFrom_5 : (.initialized "java/lang/System" : Cond) ∈ wsX2_copyFrom := List.mem_of_getElem? (i := 5) (by decide +kernel)
set_option maxHeartbeats 4000000 in
set_option maxRecDepth 100000 in
theorem mX2_copyFrom (l : Launch) (D : va_G) (cB cI cZ : ClassId) (a_t : Nat) (a_p1 : Nat) (a_t_ticks : Nat) (a_p1_ticks : Nat) (t_ticks : Nat → Int32) (p1_ticks : Nat → Int32) (sz : Nat) (t_ticks' : Nat → Int32) (h : fX2_copyFrom t_ticks p1_ticks = some (t_ticks')) : Met l yX2_copyFrom wsX2_copyFrom ({ frames := 1, cells := 0, slots := 0, locals := 60 } : Room) (va_Pc [.ref a_t, .ref a_p1] (zPre D (zT cB cI cZ) [(a_t, .inr (2, [.ref a_t_ticks])), (a_t_ticks, .inl (cI, 6, .inl t_ticks)), (a_p1, .inr (2, [.ref a_p1_ticks])), (a_p1_ticks, .inl (cI, 6, .inl p1_ticks))] sz)) (zQv D (zT cB cI cZ) [(a_t, .inr (2, [.ref a_t_ticks])), (a_t_ticks, .inl (cI, 6, .inl t_ticks')), (a_p1, .inr (2, [.ref a_p1_ticks])), (a_p1_ticks, .inl (cI, 6, .inl p1_ticks))] (va_A [(a_t, .inr (2, [.ref a_t_ticks])), (a_t_ticks, .inl (cI, 6, .inl t_ticks)), (a_p1, .inr (2, [.ref a_p1_ticks])), (a_p1_ticks, .inl (cI, 6, .inl p1_ticks))] sz)) 0 0 (va_A [(a_t, .inr (2, [.ref a_t_ticks])), (a_t_ticks, .inl (cI, 6, .inl t_ticks)), (a_p1, .inr (2, [.ref a_p1_ticks])), (a_p1_ticks, .inl (cI, 6, .inl p1_ticks))] sz) := by
  refine Met.ofW (cc := cX2_copyFrom) (maxL := 2) (ret := none) (by decide) rfl ?_
  intro p e s m args below meth c s₁ B hml hv
  obtain ⟨rfl, hsz, hP, hK, hN, hZ, hD0⟩ := hv
  have hx := B.exec
  have hb := B.bytes
  have hr := B.returns
  have hts := atoms_spec (ws := wsX2_copyFrom) B.pre
  have hown : s.vm.findClass RX2 = some m.cls := findClass_of_methodNamed B.named
  have hlocks := B.notSynchronized
  subst hsz
  have hD := hD0.self (sz := s.heap.size)
  generalize hAe : va_A [(a_t, .inr (2, [.ref a_t_ticks])), (a_t_ticks, .inl (cI, 6, .inl t_ticks)), (a_p1, .inr (2, [.ref a_p1_ticks])), (a_p1_ticks, .inl (cI, 6, .inl p1_ticks))] s.heap.size = A at hD hZ ⊢
  have hA : ∀ q : Nat, s.heap.size ≤ q → A q := fun q h => by rw [← hAe]; exact Or.inr h
  have hS : va_S A s.heap s.heap [] := va_S.rf
  have hl := lv_entry ([.ref a_t, .ref a_p1]) (n := 2) (Nat.le_of_ble_eq_true rfl)
  rw [lg_entry_eq]
  generalize (lg_sl ([.ref a_t, .ref a_p1]) ++ List.replicate (2 - (lg_sl ([.ref a_t, .ref a_p1])).length) Slot.unset).toArray = ls at hl ⊢
  have hl : lv_has ls 2 [(0, .ref a_t), (1, .ref a_p1)] := hl
  unfold fX2_copyFrom at h
  refine lv_aload_n hx hb dX2_copyFrom_0 rfl (lv_at hl 1 rfl) ?_
  refine va_get (D := D) (ci := 2) (C := RX2) (T := TX2) (N := 1) hx hb hts qX2_copyFrom_X2 hown hK hP 2 rfl rfl 0 (by decide) (hts _ kX2_copyFrom_0) (fun _ h9 => h9) rfl dX2_copyFrom_1 ?_
  refine lv_iconst (v := (nI 0)) hx hb dX2_copyFrom_4 rfl ?_
  refine lv_aload_n hx hb dX2_copyFrom_5 rfl (lv_at hl 0 rfl) ?_
  refine va_get (D := D) (ci := 2) (C := RX2) (T := TX2) (N := 1) hx hb hts qX2_copyFrom_X2 hown hK hP 0 rfl rfl 0 (by decide) (hts _ kX2_copyFrom_0) (fun _ h9 => h9) rfl dX2_copyFrom_6 ?_
  refine lv_iconst (v := (nI 0)) hx hb dX2_copyFrom_9 rfl ?_
  refine lv_bipush (v := (nI 6)) hx hb dX2_copyFrom_10 rfl ?_
  refine va_copyi (ty := .int) hx hb (hml.trans hl.1.symm) hown (hts _ kX2_copyFrom_2) (hts _ kX2_copyFrom_3) (hts _ kX2_copyFrom_4) (hts _ kX2_copyFrom_5) hK hP hD hS 3 1 1 1 rfl rfl rfl rfl rfl (by decide) (by decide) (by decide) (by decide) (by decide) (fun _ _ => rfl) (Nat.le_of_ble_eq_true rfl) (Nat.le_of_ble_eq_true rfl) dX2_copyFrom_12 (fun H locs hP hD hS => ?_)
  have hP : va_P D vwCl [(a_t, .inr (2, [.ref a_t_ticks])), (a_t_ticks, .inl (cI, 6, .inl (va_cpy p1_ticks t_ticks 0 0 6))), (a_p1, .inr (2, [.ref a_p1_ticks])), (a_p1_ticks, .inl (cI, 6, .inl p1_ticks))] H := hP
  have hD : va_D A [(a_t, .inr (2, [.ref a_t_ticks])), (a_t_ticks, .inl (cI, 6, .inl (va_cpy p1_ticks t_ticks 0 0 6))), (a_p1, .inr (2, [.ref a_p1_ticks])), (a_p1_ticks, .inl (cI, 6, .inl p1_ticks))] := hD
  have j0_ := Option.some.inj h
  subst j0_
  exact W.vret hx hb hr (fun t ht hW => ⟨⟨(), rfl, trivial, zPost.of hP hD hK ht hW [0, 1, 2, 3] rfl rfl rfl⟩, hS.F ht⟩) hS.2.2 dX2_copyFrom_15
/-! RunDesk$Foretelling.planFrom -/
theorem dX1_planFrom_0 : decode cX1_planFrom 0 = .ok (.iconst 0, 1) := by decide +kernel
theorem dX1_planFrom_1 : decode cX1_planFrom 1 = .ok (.istore 4, 2) := by decide +kernel
theorem dX1_planFrom_3 : decode cX1_planFrom 3 = .ok (.iload 4, 2) := by decide +kernel
theorem dX1_planFrom_5 : decode cX1_planFrom 5 = .ok (.aload_n 1, 1) := by decide +kernel
theorem dX1_planFrom_6 : decode cX1_planFrom 6 = .ok (.getfield 31, 3) := by decide +kernel
theorem dX1_planFrom_9 : decode cX1_planFrom 9 = .ok (.invokevirtual 84, 3) := by decide +kernel
theorem dX1_planFrom_12 : decode cX1_planFrom 12 = .ok (.if_icmp .ge 16, 3) := by decide +kernel
theorem dX1_planFrom_15 : decode cX1_planFrom 15 = .ok (.aload_n 0, 1) := by decide +kernel
theorem dX1_planFrom_16 : decode cX1_planFrom 16 = .ok (.aload_n 1, 1) := by decide +kernel
theorem dX1_planFrom_17 : decode cX1_planFrom 17 = .ok (.iload 4, 2) := by decide +kernel
theorem dX1_planFrom_19 : decode cX1_planFrom 19 = .ok (.invokevirtual 63, 3) := by decide +kernel
theorem dX1_planFrom_22 : decode cX1_planFrom 22 = .ok (.iinc 4 1, 3) := by decide +kernel
theorem dX1_planFrom_25 : decode cX1_planFrom 25 = .ok (.goto (-22), 3) := by decide +kernel
theorem dX1_planFrom_28 : decode cX1_planFrom 28 = .ok (.iconst 0, 1) := by decide +kernel
theorem dX1_planFrom_29 : decode cX1_planFrom 29 = .ok (.istore 4, 2) := by decide +kernel
theorem dX1_planFrom_31 : decode cX1_planFrom 31 = .ok (.iconst 0, 1) := by decide +kernel
theorem dX1_planFrom_32 : decode cX1_planFrom 32 = .ok (.istore 5, 2) := by decide +kernel
theorem dX1_planFrom_34 : decode cX1_planFrom 34 = .ok (.iload 5, 2) := by decide +kernel
theorem dX1_planFrom_36 : decode cX1_planFrom 36 = .ok (.iload_n 3, 1) := by decide +kernel
theorem dX1_planFrom_37 : decode cX1_planFrom 37 = .ok (.if_icmp .gt 48, 3) := by decide +kernel
theorem dX1_planFrom_40 : decode cX1_planFrom 40 = .ok (.aload_n 0, 1) := by decide +kernel
theorem dX1_planFrom_41 : decode cX1_planFrom 41 = .ok (.getfield 27, 3) := by decide +kernel
theorem dX1_planFrom_44 : decode cX1_planFrom 44 = .ok (.iload_n 2, 1) := by decide +kernel
theorem dX1_planFrom_45 : decode cX1_planFrom 45 = .ok (.iload 5, 2) := by decide +kernel
theorem dX1_planFrom_47 : decode cX1_planFrom 47 = .ok (.invokevirtual 85, 3) := by decide +kernel
theorem dX1_planFrom_50 : decode cX1_planFrom 50 = .ok (.aload_n 0, 1) := by decide +kernel
theorem dX1_planFrom_51 : decode cX1_planFrom 51 = .ok (.aload_n 1, 1) := by decide +kernel
theorem dX1_planFrom_52 : decode cX1_planFrom 52 = .ok (.iload 4, 2) := by decide +kernel
theorem dX1_planFrom_54 : decode cX1_planFrom 54 = .ok (.invokevirtual 89, 3) := by decide +kernel
theorem dX1_planFrom_57 : decode cX1_planFrom 57 = .ok (.istore 4, 2) := by decide +kernel
theorem dX1_planFrom_59 : decode cX1_planFrom 59 = .ok (.iload 4, 2) := by decide +kernel
theorem dX1_planFrom_61 : decode cX1_planFrom 61 = .ok (.iconst (-1), 1) := by decide +kernel
theorem dX1_planFrom_62 : decode cX1_planFrom 62 = .ok (.if_icmp .ne 17, 3) := by decide +kernel
theorem dX1_planFrom_65 : decode cX1_planFrom 65 = .ok (.aload_n 1, 1) := by decide +kernel
theorem dX1_planFrom_66 : decode cX1_planFrom 66 = .ok (.getfield 67, 3) := by decide +kernel
theorem dX1_planFrom_69 : decode cX1_planFrom 69 = .ok (.aload_n 0, 1) := by decide +kernel
theorem dX1_planFrom_70 : decode cX1_planFrom 70 = .ok (.getfield 27, 3) := by decide +kernel
theorem dX1_planFrom_73 : decode cX1_planFrom 73 = .ok (.invokevirtual 93, 3) := by decide +kernel
theorem dX1_planFrom_76 : decode cX1_planFrom 76 = .ok (.iload 5, 2) := by decide +kernel
theorem dX1_planFrom_78 : decode cX1_planFrom 78 = .ok (.ireturn, 1) := by decide +kernel
theorem dX1_planFrom_79 : decode cX1_planFrom 79 = .ok (.iinc 5 1, 3) := by decide +kernel
theorem dX1_planFrom_82 : decode cX1_planFrom 82 = .ok (.goto (-48), 3) := by decide +kernel
theorem dX1_planFrom_85 : decode cX1_planFrom 85 = .ok (.iconst (-1), 1) := by decide +kernel
theorem dX1_planFrom_86 : decode cX1_planFrom 86 = .ok (.ireturn, 1) := by decide +kernel
set_option maxRecDepth 20000 in
theorem ggX1_planFrom_X9_size : GoodIn wsX1_planFrom wsX9_size := goodIn_sub (List.forall_mem_cons.mpr ⟨List.mem_cons_of_mem _ (List.mem_append_left _ (List.mem_append_left _ (List.mem_append_left _ (List.mem_append_left _ (List.mem_append_left _ (List.mem_append_left _ (List.mem_of_getElem? (l := wsX1_planFrom_r1) (i := 5) rfl))))))), (List.forall_mem_append.mpr ⟨(List.forall_mem_cons.mpr ⟨List.mem_cons_of_mem _ (List.mem_append_left _ (List.mem_append_left _ (List.mem_append_left _ (List.mem_append_left _ (List.mem_append_left _ (List.mem_append_left _ (List.mem_of_getElem? (l := wsX1_planFrom_r1) (i := 6) rfl))))))), (fun _ h => nomatch h)⟩), (fun _ h => List.mem_cons_of_mem _ (List.mem_append_left _ (List.mem_append_left _ (List.mem_append_right _ (h)))))⟩)⟩) (by decide +kernel)
set_option maxRecDepth 20000 in
theorem gX1_planFrom_X9_size : GoodIn wsX1_planFrom (wsV RX1 84 RX9 yX9_size wsX9_size) := goodIn_app (goodIn_of _ (by decide +kernel)) ggX1_planFrom_X9_size
set_option maxRecDepth 20000 in
theorem ggX1_planFrom_X1_prepare : GoodIn wsX1_planFrom wsX1_prepare := goodIn_sub (List.forall_mem_cons.mpr ⟨List.mem_cons_of_mem _ (List.mem_append_left _ (List.mem_append_left _ (List.mem_append_left _ (List.mem_append_left _ (List.mem_append_left _ (List.mem_append_left _ (List.mem_of_getElem? (l := wsX1_planFrom_r1) (i := 11) rfl))))))), (List.forall_mem_append.mpr ⟨(List.forall_mem_append.mpr ⟨(List.forall_mem_append.mpr ⟨(List.forall_mem_append.mpr ⟨(List.forall_mem_append.mpr ⟨(List.forall_mem_cons.mpr ⟨List.mem_cons_of_mem _ (List.mem_append_left _ (List.mem_append_left _ (List.mem_append_left _ (List.mem_append_left _ (List.mem_append_left _ (List.mem_append_left _ (List.mem_of_getElem? (l := wsX1_planFrom_r1) (i := 12) rfl))))))), (List.forall_mem_cons.mpr ⟨List.mem_cons_of_mem _ (List.mem_append_left _ (List.mem_append_left _ (List.mem_append_left _ (List.mem_append_left _ (List.mem_append_left _ (List.mem_append_left _ (List.mem_of_getElem? (l := wsX1_planFrom_r1) (i := 13) rfl))))))), (List.forall_mem_cons.mpr ⟨List.mem_cons_of_mem _ (List.mem_append_left _ (List.mem_append_left _ (List.mem_append_left _ (List.mem_append_left _ (List.mem_append_left _ (List.mem_append_left _ (List.mem_of_getElem? (l := wsX1_planFrom_r1) (i := 14) rfl))))))), (List.forall_mem_cons.mpr ⟨List.mem_cons_of_mem _ (List.mem_append_left _ (List.mem_append_left _ (List.mem_append_left _ (List.mem_append_left _ (List.mem_append_left _ (List.mem_append_left _ (List.mem_of_getElem? (l := wsX1_planFrom_r1) (i := 15) rfl))))))), (List.forall_mem_cons.mpr ⟨List.mem_cons_of_mem _ (List.mem_append_left _ (List.mem_append_left _ (List.mem_append_left _ (List.mem_append_left _ (List.mem_append_left _ (List.mem_append_left _ (List.mem_of_getElem? (l := wsX1_planFrom_r1) (i := 16) rfl))))))), (List.forall_mem_cons.mpr ⟨List.mem_cons_of_mem _ (List.mem_append_left _ (List.mem_append_left _ (List.mem_append_left _ (List.mem_append_left _ (List.mem_append_left _ (List.mem_append_left _ (List.mem_of_getElem? (l := wsX1_planFrom_r1) (i := 4) rfl))))))), (List.forall_mem_cons.mpr ⟨List.mem_cons_of_mem _ (List.mem_append_left _ (List.mem_append_left _ (List.mem_append_left _ (List.mem_append_left _ (List.mem_append_left _ (List.mem_append_left _ (List.mem_of_getElem? (l := wsX1_planFrom_r1) (i := 17) rfl))))))), (List.forall_mem_cons.mpr ⟨List.mem_cons_of_mem _ (List.mem_append_left _ (List.mem_append_left _ (List.mem_append_left _ (List.mem_append_left _ (List.mem_append_left _ (List.mem_append_left _ (List.mem_of_getElem? (l := wsX1_planFrom_r1) (i := 18) rfl))))))), (List.forall_mem_cons.mpr ⟨List.mem_cons_of_mem _ (List.mem_append_left _ (List.mem_append_left _ (List.mem_append_left _ (List.mem_append_left _ (List.mem_append_left _ (List.mem_append_left _ (List.mem_of_getElem? (l := wsX1_planFrom_r1) (i := 19) rfl))))))), (List.forall_mem_cons.mpr ⟨List.mem_cons_of_mem _ (List.mem_append_left _ (List.mem_append_left _ (List.mem_append_left _ (List.mem_append_left _ (List.mem_append_left _ (List.mem_append_left _ (List.mem_of_getElem? (l := wsX1_planFrom_r1) (i := 20) rfl))))))), (List.forall_mem_cons.mpr ⟨List.mem_cons_of_mem _ (List.mem_append_left _ (List.mem_append_left _ (List.mem_append_left _ (List.mem_append_left _ (List.mem_append_left _ (List.mem_append_left _ (List.mem_of_getElem? (l := wsX1_planFrom_r1) (i := 21) rfl))))))), (List.forall_mem_cons.mpr ⟨List.mem_cons_of_mem _ (List.mem_append_left _ (List.mem_append_left _ (List.mem_append_left _ (List.mem_append_left _ (List.mem_append_left _ (List.mem_append_left _ (List.mem_of_getElem? (l := wsX1_planFrom_r1) (i := 22) rfl))))))), (List.forall_mem_cons.mpr ⟨List.mem_cons_of_mem _ (List.mem_append_left _ (List.mem_append_left _ (List.mem_append_left _ (List.mem_append_left _ (List.mem_append_left _ (List.mem_append_left _ (List.mem_of_getElem? (l := wsX1_planFrom_r1) (i := 6) rfl))))))), (List.forall_mem_cons.mpr ⟨List.mem_cons_of_mem _ (List.mem_append_left _ (List.mem_append_left _ (List.mem_append_left _ (List.mem_append_left _ (List.mem_append_left _ (List.mem_append_left _ (List.mem_of_getElem? (l := wsX1_planFrom_r1) (i := 23) rfl))))))), (List.forall_mem_cons.mpr ⟨List.mem_cons_of_mem _ (List.mem_append_left _ (List.mem_append_left _ (List.mem_append_left _ (List.mem_append_left _ (List.mem_append_left _ (List.mem_append_right _ (List.mem_append_left _ (List.mem_of_getElem? (l := wsX1_planFrom_r2) (i := 0) rfl)))))))), (List.forall_mem_cons.mpr ⟨List.mem_cons_of_mem _ (List.mem_append_left _ (List.mem_append_left _ (List.mem_append_left _ (List.mem_append_left _ (List.mem_append_left _ (List.mem_append_right _ (List.mem_append_left _ (List.mem_of_getElem? (l := wsX1_planFrom_r2) (i := 1) rfl)))))))), (List.forall_mem_cons.mpr ⟨List.mem_cons_of_mem _ (List.mem_append_left _ (List.mem_append_left _ (List.mem_append_left _ (List.mem_append_left _ (List.mem_append_left _ (List.mem_append_right _ (List.mem_append_left _ (List.mem_of_getElem? (l := wsX1_planFrom_r2) (i := 2) rfl)))))))), (List.forall_mem_cons.mpr ⟨List.mem_cons_of_mem _ (List.mem_append_left _ (List.mem_append_left _ (List.mem_append_left _ (List.mem_append_left _ (List.mem_append_left _ (List.mem_append_right _ (List.mem_append_left _ (List.mem_of_getElem? (l := wsX1_planFrom_r2) (i := 3) rfl)))))))), (List.forall_mem_cons.mpr ⟨List.mem_cons_of_mem _ (List.mem_append_left _ (List.mem_append_left _ (List.mem_append_left _ (List.mem_append_left _ (List.mem_append_left _ (List.mem_append_right _ (List.mem_append_left _ (List.mem_of_getElem? (l := wsX1_planFrom_r2) (i := 4) rfl)))))))), (List.forall_mem_cons.mpr ⟨List.mem_cons_of_mem _ (List.mem_append_left _ (List.mem_append_left _ (List.mem_append_left _ (List.mem_append_left _ (List.mem_append_left _ (List.mem_append_right _ (List.mem_append_left _ (List.mem_of_getElem? (l := wsX1_planFrom_r2) (i := 5) rfl)))))))), (List.forall_mem_cons.mpr ⟨List.mem_cons_of_mem _ (List.mem_append_left _ (List.mem_append_left _ (List.mem_append_left _ (List.mem_append_left _ (List.mem_append_left _ (List.mem_append_right _ (List.mem_append_left _ (List.mem_of_getElem? (l := wsX1_planFrom_r2) (i := 6) rfl)))))))), (List.forall_mem_cons.mpr ⟨List.mem_cons_of_mem _ (List.mem_append_left _ (List.mem_append_left _ (List.mem_append_left _ (List.mem_append_left _ (List.mem_append_left _ (List.mem_append_right _ (List.mem_append_left _ (List.mem_of_getElem? (l := wsX1_planFrom_r2) (i := 7) rfl)))))))), (List.forall_mem_cons.mpr ⟨List.mem_cons_of_mem _ (List.mem_append_left _ (List.mem_append_left _ (List.mem_append_left _ (List.mem_append_left _ (List.mem_append_left _ (List.mem_append_right _ (List.mem_append_left _ (List.mem_of_getElem? (l := wsX1_planFrom_r2) (i := 8) rfl)))))))), (List.forall_mem_cons.mpr ⟨List.mem_cons_of_mem _ (List.mem_append_left _ (List.mem_append_left _ (List.mem_append_left _ (List.mem_append_left _ (List.mem_append_left _ (List.mem_append_right _ (List.mem_append_left _ (List.mem_of_getElem? (l := wsX1_planFrom_r2) (i := 9) rfl)))))))), (fun _ h => nomatch h)⟩)⟩)⟩)⟩)⟩)⟩)⟩)⟩)⟩)⟩)⟩)⟩)⟩)⟩)⟩)⟩)⟩)⟩)⟩)⟩)⟩)⟩)⟩)⟩), (List.forall_mem_cons.mpr ⟨List.mem_cons_of_mem _ (List.mem_append_left _ (List.mem_append_left _ (List.mem_append_left _ (List.mem_append_left _ (List.mem_append_left _ (List.mem_append_right _ (List.mem_append_left _ (List.mem_of_getElem? (l := wsX1_planFrom_r2) (i := 10) rfl)))))))), (List.forall_mem_cons.mpr ⟨List.mem_cons_of_mem _ (List.mem_append_left _ (List.mem_append_left _ (List.mem_append_left _ (List.mem_append_left _ (List.mem_append_left _ (List.mem_append_right _ (List.mem_append_left _ (List.mem_of_getElem? (l := wsX1_planFrom_r2) (i := 11) rfl)))))))), (List.forall_mem_cons.mpr ⟨List.mem_cons_of_mem _ (List.mem_append_left _ (List.mem_append_left _ (List.mem_append_left _ (List.mem_append_left _ (List.mem_append_left _ (List.mem_append_right _ (List.mem_append_left _ (List.mem_of_getElem? (l := wsX1_planFrom_r2) (i := 12) rfl)))))))), (fun _ h => nomatch h)⟩)⟩)⟩)⟩), (fun _ h => List.mem_cons_of_mem _ (List.mem_append_left _ (List.mem_append_left _ (List.mem_append_left _ (List.mem_append_left _ (List.mem_append_right _ (h)))))))⟩), (fun _ h => List.mem_cons_of_mem _ (List.mem_append_left _ (List.mem_append_left _ (List.mem_append_left _ (List.mem_append_right _ (h))))))⟩), (fun _ h => List.mem_cons_of_mem _ (List.mem_append_left _ (List.mem_append_left _ (List.mem_append_right _ (h)))))⟩), (fun _ h => List.mem_cons_of_mem _ (List.mem_append_left _ (List.mem_append_right _ (h))))⟩)⟩) (by decide +kernel)
set_option maxRecDepth 20000 in
theorem gX1_planFrom_X1_prepare : GoodIn wsX1_planFrom (wsV RX1 63 RX1 yX1_prepare wsX1_prepare) := goodIn_app (goodIn_of _ (by decide +kernel)) ggX1_planFrom_X1_prepare
set_option maxRecDepth 20000 in
theorem ggX1_planFrom_X2_fireInSteps : GoodIn wsX1_planFrom wsX2_fireInSteps := goodIn_sub (List.forall_mem_cons.mpr ⟨List.mem_cons_of_mem _ (List.mem_append_left _ (List.mem_append_left _ (List.mem_append_left _ (List.mem_append_left _ (List.mem_append_left _ (List.mem_append_right _ (List.mem_append_left _ (List.mem_of_getElem? (l := wsX1_planFrom_r2) (i := 17) rfl)))))))), (List.forall_mem_append.mpr ⟨(List.forall_mem_cons.mpr ⟨List.mem_cons_of_mem _ (List.mem_append_left _ (List.mem_append_left _ (List.mem_append_left _ (List.mem_append_left _ (List.mem_append_left _ (List.mem_append_right _ (List.mem_append_left _ (List.mem_of_getElem? (l := wsX1_planFrom_r2) (i := 18) rfl)))))))), (fun _ h => nomatch h)⟩), (fun _ h => List.mem_cons_of_mem _ (List.mem_append_right _ (h)))⟩)⟩) (by decide +kernel)
set_option maxRecDepth 20000 in
theorem gX1_planFrom_X2_fireInSteps : GoodIn wsX1_planFrom (wsV RX1 85 RX2 yX2_fireInSteps wsX2_fireInSteps) := goodIn_app (goodIn_of _ (by decide +kernel)) ggX1_planFrom_X2_fireInSteps
set_option maxRecDepth 20000 in
theorem ggX1_planFrom_X1_someTightMat : GoodIn wsX1_planFrom wsX1_someTightMat := goodIn_sub (List.forall_mem_cons.mpr ⟨List.mem_cons_of_mem _ (List.mem_append_left _ (List.mem_append_left _ (List.mem_append_left _ (List.mem_append_left _ (List.mem_append_left _ (List.mem_append_right _ (List.mem_append_left _ (List.mem_of_getElem? (l := wsX1_planFrom_r2) (i := 22) rfl)))))))), (List.forall_mem_append.mpr ⟨(List.forall_mem_append.mpr ⟨(List.forall_mem_append.mpr ⟨(List.forall_mem_append.mpr ⟨(List.forall_mem_append.mpr ⟨(List.forall_mem_append.mpr ⟨(List.forall_mem_cons.mpr ⟨List.mem_cons_of_mem _ (List.mem_append_left _ (List.mem_append_left _ (List.mem_append_left _ (List.mem_append_left _ (List.mem_append_left _ (List.mem_append_left _ (List.mem_of_getElem? (l := wsX1_planFrom_r1) (i := 0) rfl))))))), (List.forall_mem_cons.mpr ⟨List.mem_cons_of_mem _ (List.mem_append_left _ (List.mem_append_left _ (List.mem_append_left _ (List.mem_append_left _ (List.mem_append_left _ (List.mem_append_right _ (List.mem_append_left _ (List.mem_of_getElem? (l := wsX1_planFrom_r2) (i := 23) rfl)))))))), (List.forall_mem_cons.mpr ⟨List.mem_cons_of_mem _ (List.mem_append_left _ (List.mem_append_left _ (List.mem_append_left _ (List.mem_append_left _ (List.mem_append_left _ (List.mem_append_right _ (List.mem_append_right _ (List.mem_append_left _ (List.mem_of_getElem? (l := wsX1_planFrom_r3) (i := 0) rfl))))))))), (List.forall_mem_cons.mpr ⟨List.mem_cons_of_mem _ (List.mem_append_left _ (List.mem_append_left _ (List.mem_append_left _ (List.mem_append_left _ (List.mem_append_left _ (List.mem_append_right _ (List.mem_append_right _ (List.mem_append_left _ (List.mem_of_getElem? (l := wsX1_planFrom_r3) (i := 1) rfl))))))))), (List.forall_mem_cons.mpr ⟨List.mem_cons_of_mem _ (List.mem_append_left _ (List.mem_append_left _ (List.mem_append_left _ (List.mem_append_left _ (List.mem_append_left _ (List.mem_append_left _ (List.mem_of_getElem? (l := wsX1_planFrom_r1) (i := 10) rfl))))))), (List.forall_mem_cons.mpr ⟨List.mem_cons_of_mem _ (List.mem_append_left _ (List.mem_append_left _ (List.mem_append_left _ (List.mem_append_left _ (List.mem_append_left _ (List.mem_append_right _ (List.mem_append_right _ (List.mem_append_left _ (List.mem_of_getElem? (l := wsX1_planFrom_r3) (i := 2) rfl))))))))), (List.forall_mem_cons.mpr ⟨List.mem_cons_of_mem _ (List.mem_append_left _ (List.mem_append_left _ (List.mem_append_left _ (List.mem_append_left _ (List.mem_append_left _ (List.mem_append_left _ (List.mem_of_getElem? (l := wsX1_planFrom_r1) (i := 12) rfl))))))), (List.forall_mem_cons.mpr ⟨List.mem_cons_of_mem _ (List.mem_append_left _ (List.mem_append_left _ (List.mem_append_left _ (List.mem_append_left _ (List.mem_append_left _ (List.mem_append_left _ (List.mem_of_getElem? (l := wsX1_planFrom_r1) (i := 13) rfl))))))), (List.forall_mem_cons.mpr ⟨List.mem_cons_of_mem _ (List.mem_append_left _ (List.mem_append_left _ (List.mem_append_left _ (List.mem_append_left _ (List.mem_append_left _ (List.mem_append_right _ (List.mem_append_right _ (List.mem_append_left _ (List.mem_of_getElem? (l := wsX1_planFrom_r3) (i := 3) rfl))))))))), (List.forall_mem_cons.mpr ⟨List.mem_cons_of_mem _ (List.mem_append_left _ (List.mem_append_left _ (List.mem_append_left _ (List.mem_append_left _ (List.mem_append_left _ (List.mem_append_right _ (List.mem_append_right _ (List.mem_append_left _ (List.mem_of_getElem? (l := wsX1_planFrom_r3) (i := 4) rfl))))))))), (List.forall_mem_cons.mpr ⟨List.mem_cons_of_mem _ (List.mem_append_left _ (List.mem_append_left _ (List.mem_append_left _ (List.mem_append_left _ (List.mem_append_left _ (List.mem_append_right _ (List.mem_append_right _ (List.mem_append_left _ (List.mem_of_getElem? (l := wsX1_planFrom_r3) (i := 5) rfl))))))))), (List.forall_mem_cons.mpr ⟨List.mem_cons_of_mem _ (List.mem_append_left _ (List.mem_append_left _ (List.mem_append_left _ (List.mem_append_left _ (List.mem_append_left _ (List.mem_append_right _ (List.mem_append_right _ (List.mem_append_left _ (List.mem_of_getElem? (l := wsX1_planFrom_r3) (i := 6) rfl))))))))), (List.forall_mem_cons.mpr ⟨List.mem_cons_of_mem _ (List.mem_append_left _ (List.mem_append_left _ (List.mem_append_left _ (List.mem_append_left _ (List.mem_append_left _ (List.mem_append_right _ (List.mem_append_right _ (List.mem_append_left _ (List.mem_of_getElem? (l := wsX1_planFrom_r3) (i := 7) rfl))))))))), (List.forall_mem_cons.mpr ⟨List.mem_cons_of_mem _ (List.mem_append_left _ (List.mem_append_left _ (List.mem_append_left _ (List.mem_append_left _ (List.mem_append_left _ (List.mem_append_left _ (List.mem_of_getElem? (l := wsX1_planFrom_r1) (i := 4) rfl))))))), (List.forall_mem_cons.mpr ⟨List.mem_cons_of_mem _ (List.mem_append_left _ (List.mem_append_left _ (List.mem_append_left _ (List.mem_append_left _ (List.mem_append_left _ (List.mem_append_right _ (List.mem_append_right _ (List.mem_append_left _ (List.mem_of_getElem? (l := wsX1_planFrom_r3) (i := 8) rfl))))))))), (List.forall_mem_cons.mpr ⟨List.mem_cons_of_mem _ (List.mem_append_left _ (List.mem_append_left _ (List.mem_append_left _ (List.mem_append_left _ (List.mem_append_left _ (List.mem_append_right _ (List.mem_append_right _ (List.mem_append_left _ (List.mem_of_getElem? (l := wsX1_planFrom_r3) (i := 9) rfl))))))))), (List.forall_mem_cons.mpr ⟨List.mem_cons_of_mem _ (List.mem_append_left _ (List.mem_append_left _ (List.mem_append_left _ (List.mem_append_left _ (List.mem_append_left _ (List.mem_append_left _ (List.mem_of_getElem? (l := wsX1_planFrom_r1) (i := 19) rfl))))))), (List.forall_mem_cons.mpr ⟨List.mem_cons_of_mem _ (List.mem_append_left _ (List.mem_append_left _ (List.mem_append_left _ (List.mem_append_left _ (List.mem_append_left _ (List.mem_append_left _ (List.mem_of_getElem? (l := wsX1_planFrom_r1) (i := 20) rfl))))))), (List.forall_mem_cons.mpr ⟨List.mem_cons_of_mem _ (List.mem_append_left _ (List.mem_append_left _ (List.mem_append_left _ (List.mem_append_left _ (List.mem_append_left _ (List.mem_append_left _ (List.mem_of_getElem? (l := wsX1_planFrom_r1) (i := 21) rfl))))))), (List.forall_mem_cons.mpr ⟨List.mem_cons_of_mem _ (List.mem_append_left _ (List.mem_append_left _ (List.mem_append_left _ (List.mem_append_left _ (List.mem_append_left _ (List.mem_append_left _ (List.mem_of_getElem? (l := wsX1_planFrom_r1) (i := 22) rfl))))))), (List.forall_mem_cons.mpr ⟨List.mem_cons_of_mem _ (List.mem_append_left _ (List.mem_append_left _ (List.mem_append_left _ (List.mem_append_left _ (List.mem_append_left _ (List.mem_append_left _ (List.mem_of_getElem? (l := wsX1_planFrom_r1) (i := 6) rfl))))))), (List.forall_mem_cons.mpr ⟨List.mem_cons_of_mem _ (List.mem_append_left _ (List.mem_append_left _ (List.mem_append_left _ (List.mem_append_left _ (List.mem_append_left _ (List.mem_append_left _ (List.mem_of_getElem? (l := wsX1_planFrom_r1) (i := 23) rfl))))))), (List.forall_mem_cons.mpr ⟨List.mem_cons_of_mem _ (List.mem_append_left _ (List.mem_append_left _ (List.mem_append_left _ (List.mem_append_left _ (List.mem_append_left _ (List.mem_append_right _ (List.mem_append_left _ (List.mem_of_getElem? (l := wsX1_planFrom_r2) (i := 0) rfl)))))))), (List.forall_mem_cons.mpr ⟨List.mem_cons_of_mem _ (List.mem_append_left _ (List.mem_append_left _ (List.mem_append_left _ (List.mem_append_left _ (List.mem_append_left _ (List.mem_append_right _ (List.mem_append_left _ (List.mem_of_getElem? (l := wsX1_planFrom_r2) (i := 1) rfl)))))))), (fun _ h => nomatch h)⟩)⟩)⟩)⟩)⟩)⟩)⟩)⟩)⟩)⟩)⟩)⟩)⟩)⟩)⟩)⟩)⟩)⟩)⟩)⟩)⟩)⟩)⟩)⟩), (List.forall_mem_cons.mpr ⟨List.mem_cons_of_mem _ (List.mem_append_left _ (List.mem_append_left _ (List.mem_append_left _ (List.mem_append_left _ (List.mem_append_left _ (List.mem_append_right _ (List.mem_append_left _ (List.mem_of_getElem? (l := wsX1_planFrom_r2) (i := 2) rfl)))))))), (List.forall_mem_cons.mpr ⟨List.mem_cons_of_mem _ (List.mem_append_left _ (List.mem_append_left _ (List.mem_append_left _ (List.mem_append_left _ (List.mem_append_left _ (List.mem_append_right _ (List.mem_append_left _ (List.mem_of_getElem? (l := wsX1_planFrom_r2) (i := 3) rfl)))))))), (List.forall_mem_cons.mpr ⟨List.mem_cons_of_mem _ (List.mem_append_left _ (List.mem_append_left _ (List.mem_append_left _ (List.mem_append_left _ (List.mem_append_left _ (List.mem_append_right _ (List.mem_append_left _ (List.mem_of_getElem? (l := wsX1_planFrom_r2) (i := 4) rfl)))))))), (List.forall_mem_cons.mpr ⟨List.mem_cons_of_mem _ (List.mem_append_left _ (List.mem_append_left _ (List.mem_append_left _ (List.mem_append_left _ (List.mem_append_left _ (List.mem_append_right _ (List.mem_append_right _ (List.mem_append_left _ (List.mem_of_getElem? (l := wsX1_planFrom_r3) (i := 10) rfl))))))))), (List.forall_mem_cons.mpr ⟨List.mem_cons_of_mem _ (List.mem_append_left _ (List.mem_append_left _ (List.mem_append_left _ (List.mem_append_left _ (List.mem_append_left _ (List.mem_append_right _ (List.mem_append_right _ (List.mem_append_left _ (List.mem_of_getElem? (l := wsX1_planFrom_r3) (i := 11) rfl))))))))), (List.forall_mem_cons.mpr ⟨List.mem_cons_of_mem _ (List.mem_append_left _ (List.mem_append_left _ (List.mem_append_left _ (List.mem_append_left _ (List.mem_append_left _ (List.mem_append_right _ (List.mem_append_right _ (List.mem_append_left _ (List.mem_of_getElem? (l := wsX1_planFrom_r3) (i := 12) rfl))))))))), (List.forall_mem_cons.mpr ⟨List.mem_cons_of_mem _ (List.mem_append_left _ (List.mem_append_left _ (List.mem_append_left _ (List.mem_append_left _ (List.mem_append_left _ (List.mem_append_right _ (List.mem_append_left _ (List.mem_of_getElem? (l := wsX1_planFrom_r2) (i := 16) rfl)))))))), (List.forall_mem_cons.mpr ⟨List.mem_cons_of_mem _ (List.mem_append_left _ (List.mem_append_left _ (List.mem_append_left _ (List.mem_append_left _ (List.mem_append_left _ (List.mem_append_right _ (List.mem_append_right _ (List.mem_append_left _ (List.mem_of_getElem? (l := wsX1_planFrom_r3) (i := 13) rfl))))))))), (List.forall_mem_cons.mpr ⟨List.mem_cons_of_mem _ (List.mem_append_left _ (List.mem_append_left _ (List.mem_append_left _ (List.mem_append_left _ (List.mem_append_left _ (List.mem_append_right _ (List.mem_append_left _ (List.mem_of_getElem? (l := wsX1_planFrom_r2) (i := 18) rfl)))))))), (List.forall_mem_cons.mpr ⟨List.mem_cons_of_mem _ (List.mem_append_left _ (List.mem_append_left _ (List.mem_append_left _ (List.mem_append_left _ (List.mem_append_left _ (List.mem_append_right _ (List.mem_append_right _ (List.mem_append_left _ (List.mem_of_getElem? (l := wsX1_planFrom_r3) (i := 14) rfl))))))))), (List.forall_mem_cons.mpr ⟨List.mem_cons_of_mem _ (List.mem_append_left _ (List.mem_append_left _ (List.mem_append_left _ (List.mem_append_left _ (List.mem_append_left _ (List.mem_append_right _ (List.mem_append_right _ (List.mem_append_left _ (List.mem_of_getElem? (l := wsX1_planFrom_r3) (i := 15) rfl))))))))), (List.forall_mem_cons.mpr ⟨List.mem_cons_of_mem _ (List.mem_append_left _ (List.mem_append_left _ (List.mem_append_left _ (List.mem_append_left _ (List.mem_append_left _ (List.mem_append_right _ (List.mem_append_right _ (List.mem_append_left _ (List.mem_of_getElem? (l := wsX1_planFrom_r3) (i := 16) rfl))))))))), (List.forall_mem_cons.mpr ⟨List.mem_cons_of_mem _ (List.mem_append_left _ (List.mem_append_left _ (List.mem_append_left _ (List.mem_append_left _ (List.mem_append_left _ (List.mem_append_right _ (List.mem_append_right _ (List.mem_append_left _ (List.mem_of_getElem? (l := wsX1_planFrom_r3) (i := 17) rfl))))))))), (List.forall_mem_cons.mpr ⟨List.mem_cons_of_mem _ (List.mem_append_left _ (List.mem_append_left _ (List.mem_append_left _ (List.mem_append_left _ (List.mem_append_left _ (List.mem_append_left _ (List.mem_of_getElem? (l := wsX1_planFrom_r1) (i := 1) rfl))))))), (List.forall_mem_cons.mpr ⟨List.mem_cons_of_mem _ (List.mem_append_left _ (List.mem_append_left _ (List.mem_append_left _ (List.mem_append_left _ (List.mem_append_left _ (List.mem_append_left _ (List.mem_of_getElem? (l := wsX1_planFrom_r1) (i := 2) rfl))))))), (List.forall_mem_cons.mpr ⟨List.mem_cons_of_mem _ (List.mem_append_left _ (List.mem_append_left _ (List.mem_append_left _ (List.mem_append_left _ (List.mem_append_left _ (List.mem_append_left _ (List.mem_of_getElem? (l := wsX1_planFrom_r1) (i := 3) rfl))))))), (List.forall_mem_cons.mpr ⟨List.mem_cons_of_mem _ (List.mem_append_left _ (List.mem_append_left _ (List.mem_append_left _ (List.mem_append_left _ (List.mem_append_left _ (List.mem_append_left _ (List.mem_of_getElem? (l := wsX1_planFrom_r1) (i := 5) rfl))))))), (fun _ h => nomatch h)⟩)⟩)⟩)⟩)⟩)⟩)⟩)⟩)⟩)⟩)⟩)⟩)⟩)⟩)⟩)⟩)⟩)⟩), (fun _ h => List.mem_cons_of_mem _ (List.mem_append_left _ (List.mem_append_left _ (List.mem_append_left _ (List.mem_append_right _ (h))))))⟩), (fun _ h => List.mem_cons_of_mem _ (List.mem_append_left _ (List.mem_append_left _ (List.mem_append_left _ (List.mem_append_left _ (List.mem_append_right _ (h)))))))⟩), (fun _ h => List.mem_cons_of_mem _ (List.mem_append_left _ (List.mem_append_left _ (List.mem_append_right _ (h)))))⟩), (fun _ h => List.mem_cons_of_mem _ (List.mem_append_left _ (List.mem_append_right _ (h))))⟩), (fun _ h => List.mem_cons_of_mem _ (List.mem_append_right _ (h)))⟩)⟩) (by decide +kernel)
set_option maxRecDepth 20000 in
theorem gX1_planFrom_X1_someTightMat : GoodIn wsX1_planFrom (wsV RX1 89 RX1 yX1_someTightMat wsX1_someTightMat) := goodIn_app (goodIn_of _ (by decide +kernel)) ggX1_planFrom_X1_someTightMat
set_option maxRecDepth 20000 in
theorem ggX1_planFrom_X2_copyFrom : GoodIn wsX1_planFrom wsX2_copyFrom := goodIn_sub (List.forall_mem_cons.mpr ⟨List.mem_cons_of_mem _ (List.mem_append_left _ (List.mem_append_left _ (List.mem_append_left _ (List.mem_append_left _ (List.mem_append_left _ (List.mem_append_right _ (List.mem_append_right _ (List.mem_append_left _ (List.mem_of_getElem? (l := wsX1_planFrom_r3) (i := 21) rfl))))))))), (List.forall_mem_append.mpr ⟨(List.forall_mem_cons.mpr ⟨List.mem_cons_of_mem _ (List.mem_append_left _ (List.mem_append_left _ (List.mem_append_left _ (List.mem_append_left _ (List.mem_append_left _ (List.mem_append_right _ (List.mem_append_left _ (List.mem_of_getElem? (l := wsX1_planFrom_r2) (i := 18) rfl)))))))), (List.forall_mem_cons.mpr ⟨List.mem_cons_of_mem _ (List.mem_append_left _ (List.mem_append_left _ (List.mem_append_left _ (List.mem_append_left _ (List.mem_append_left _ (List.mem_append_right _ (List.mem_append_right _ (List.mem_append_left _ (List.mem_of_getElem? (l := wsX1_planFrom_r3) (i := 22) rfl))))))))), (List.forall_mem_cons.mpr ⟨List.mem_cons_of_mem _ (List.mem_append_left _ (List.mem_append_left _ (List.mem_append_left _ (List.mem_append_left _ (List.mem_append_left _ (List.mem_append_right _ (List.mem_append_right _ (List.mem_append_left _ (List.mem_of_getElem? (l := wsX1_planFrom_r3) (i := 23) rfl))))))))), (List.forall_mem_cons.mpr ⟨List.mem_cons_of_mem _ (List.mem_append_left _ (List.mem_append_left _ (List.mem_append_left _ (List.mem_append_left _ (List.mem_append_left _ (List.mem_append_right _ (List.mem_append_right _ (List.mem_append_right _ (List.mem_of_getElem? (l := wsX1_planFrom_r4) (i := 0) rfl))))))))), (List.forall_mem_cons.mpr ⟨List.mem_cons_of_mem _ (List.mem_append_left _ (List.mem_append_left _ (List.mem_append_left _ (List.mem_append_left _ (List.mem_append_left _ (List.mem_append_right _ (List.mem_append_right _ (List.mem_append_right _ (List.mem_of_getElem? (l := wsX1_planFrom_r4) (i := 1) rfl))))))))), (fun _ h => nomatch h)⟩)⟩)⟩)⟩)⟩), (fun _ h => List.mem_cons_of_mem _ (List.mem_append_right _ (h)))⟩)⟩) (by decide +kernel)
set_option maxRecDepth 20000 in
theorem gX1_planFrom_X2_copyFrom : GoodIn wsX1_planFrom (wsV RX1 93 RX2 yX2_copyFrom wsX2_copyFrom) := goodIn_app (goodIn_of _ (by decide +kernel)) ggX1_planFrom_X2_copyFrom
theorem kX1_planFrom_0 : (.fieldLink RX1 27 "RunDesk$Foretelling" "tried" "LRunDesk$Guns;" : Cond) ∈ wsX1_planFrom := List.mem_of_getElem? (i := 1) (by decide +kernel)
theorem qX1_planFrom_X1 : ∀ w ∈ wsX10, w ∈ wsX1_planFrom := fun _ h => List.mem_cons_of_mem _ (List.mem_append_left _ (List.mem_append_left _ (List.mem_append_left _ (List.mem_append_right _ (h)))))
theorem qX1_planFrom_X4 : ∀ w ∈ wsX40, w ∈ wsX1_planFrom := fun _ h => List.mem_cons_of_mem _ (List.mem_append_left _ (List.mem_append_left _ (List.mem_append_left _ (List.mem_append_left _ (List.mem_append_right _ (h))))))
set_option maxHeartbeats 4000000 in
set_option maxRecDepth 100000 in
theorem mX1_planFrom (l : Launch) (D : va_G) (cB cI cZ : ClassId) (a_t : Nat) (a_p1 : Nat) (a_t_seconds : Nat) (a_t_pens : Nat) (a_t_minutes : Nat) (a_t_passers : Nat) (a_t_tried : Nat) (a_t_tried_ticks : Nat) (a_p1_way : Nat) (a_p1_guns : Nat) (a_p1_runners : Nat) (a_p1_guns_ticks : Nat) (a_p1_runners_facts : Nat) (a_p1_runners_splits : Nat) (a_p1_runners_torn : Nat) (a_p1_runners_dropped : Nat) (a_p1_runners_waved : Nat) (a_p1_runners_struck : Nat) (a_p1_runners_strikingOrder : Nat) (a_p1_way_places : Nat) (a_p1_way_bearings : Nat) (a_p1_way_cuts : Nat) (a_p1_way_deaths : Nat) (t_minutes : Nat → Int32) (t_passers : Nat → Int32) (t_pens : Nat → Int32) (t_seconds : Nat → Int32) (t_tried_ticks : Nat → Int32) (p1_guns_ticks : Nat → Int32) (p1_runners_entered : Int32) (p1_runners_strikings : Int32) (p1_runners_facts : Nat → Int32) (p1_way_mats : Int32) (p1_way_bearings : Nat → Int32) (p1_way_places : Nat → Int32) (sz : Nat) (x2 : Int32) (x3 : Int32) (N : Nat) (r0 : Int32) (t_minutes' : Nat → Int32) (t_passers' : Nat → Int32) (t_pens' : Nat → Int32) (t_seconds' : Nat → Int32) (t_tried_ticks' : Nat → Int32) (p1_guns_ticks' : Nat → Int32) (h : fX1_planFrom N t_minutes t_passers t_pens t_seconds t_tried_ticks p1_guns_ticks p1_runners_entered p1_runners_facts p1_way_mats p1_way_bearings p1_way_places x2 x3 = some (r0, t_minutes', t_passers', t_pens', t_seconds', t_tried_ticks', p1_guns_ticks')) : Met l yX1_planFrom wsX1_planFrom ({ frames := 4, cells := 0, slots := 0, locals := 95 } : Room) (va_Pc [.ref a_t, .ref a_p1, .int x2, .int x3] (zPre D (zT cB cI cZ) [(a_t, .inr (1, [.ref a_t_seconds, .ref a_t_pens, .ref a_t_minutes, .ref a_t_passers, .ref a_t_tried])), (a_t_minutes, .inl (cI, 60, .inl t_minutes)), (a_t_passers, .inl (cI, 4001, .inl t_passers)), (a_t_pens, .inl (cI, 60, .inl t_pens)), (a_t_seconds, .inl (cI, 720, .inl t_seconds)), (a_t_tried, .inr (2, [.ref a_t_tried_ticks])), (a_t_tried_ticks, .inl (cI, 6, .inl t_tried_ticks)), (a_p1, .inr (4, [.ref a_p1_way, .ref a_p1_guns, .ref a_p1_runners])), (a_p1_guns, .inr (2, [.ref a_p1_guns_ticks])), (a_p1_guns_ticks, .inl (cI, 6, .inl p1_guns_ticks)), (a_p1_runners, .inr (6, [.ref a_p1_runners_facts, .ref a_p1_runners_splits, .ref a_p1_runners_torn, .ref a_p1_runners_dropped, .ref a_p1_runners_waved, .ref a_p1_runners_struck, .ref a_p1_runners_strikingOrder, .int p1_runners_entered, .int p1_runners_strikings])), (a_p1_runners_facts, .inl (cI, 360, .inl p1_runners_facts)), (a_p1_way, .inr (9, [.ref a_p1_way_places, .ref a_p1_way_bearings, .ref a_p1_way_cuts, .ref a_p1_way_deaths, .int p1_way_mats])), (a_p1_way_bearings, .inl (cI, 12, .inl p1_way_bearings)), (a_p1_way_places, .inl (cI, 12, .inl p1_way_places))] sz)) (zQi r0 D (zT cB cI cZ) [(a_t, .inr (1, [.ref a_t_seconds, .ref a_t_pens, .ref a_t_minutes, .ref a_t_passers, .ref a_t_tried])), (a_t_minutes, .inl (cI, 60, .inl t_minutes')), (a_t_passers, .inl (cI, 4001, .inl t_passers')), (a_t_pens, .inl (cI, 60, .inl t_pens')), (a_t_seconds, .inl (cI, 720, .inl t_seconds')), (a_t_tried, .inr (2, [.ref a_t_tried_ticks])), (a_t_tried_ticks, .inl (cI, 6, .inl t_tried_ticks')), (a_p1, .inr (4, [.ref a_p1_way, .ref a_p1_guns, .ref a_p1_runners])), (a_p1_guns, .inr (2, [.ref a_p1_guns_ticks])), (a_p1_guns_ticks, .inl (cI, 6, .inl p1_guns_ticks')), (a_p1_runners, .inr (6, [.ref a_p1_runners_facts, .ref a_p1_runners_splits, .ref a_p1_runners_torn, .ref a_p1_runners_dropped, .ref a_p1_runners_waved, .ref a_p1_runners_struck, .ref a_p1_runners_strikingOrder, .int p1_runners_entered, .int p1_runners_strikings])), (a_p1_runners_facts, .inl (cI, 360, .inl p1_runners_facts)), (a_p1_way, .inr (9, [.ref a_p1_way_places, .ref a_p1_way_bearings, .ref a_p1_way_cuts, .ref a_p1_way_deaths, .int p1_way_mats])), (a_p1_way_bearings, .inl (cI, 12, .inl p1_way_bearings)), (a_p1_way_places, .inl (cI, 12, .inl p1_way_places))] (va_A [(a_t, .inr (1, [.ref a_t_seconds, .ref a_t_pens, .ref a_t_minutes, .ref a_t_passers, .ref a_t_tried])), (a_t_minutes, .inl (cI, 60, .inl t_minutes)), (a_t_passers, .inl (cI, 4001, .inl t_passers)), (a_t_pens, .inl (cI, 60, .inl t_pens)), (a_t_seconds, .inl (cI, 720, .inl t_seconds)), (a_t_tried, .inr (2, [.ref a_t_tried_ticks])), (a_t_tried_ticks, .inl (cI, 6, .inl t_tried_ticks)), (a_p1, .inr (4, [.ref a_p1_way, .ref a_p1_guns, .ref a_p1_runners])), (a_p1_guns, .inr (2, [.ref a_p1_guns_ticks])), (a_p1_guns_ticks, .inl (cI, 6, .inl p1_guns_ticks)), (a_p1_runners, .inr (6, [.ref a_p1_runners_facts, .ref a_p1_runners_splits, .ref a_p1_runners_torn, .ref a_p1_runners_dropped, .ref a_p1_runners_waved, .ref a_p1_runners_struck, .ref a_p1_runners_strikingOrder, .int p1_runners_entered, .int p1_runners_strikings])), (a_p1_runners_facts, .inl (cI, 360, .inl p1_runners_facts)), (a_p1_way, .inr (9, [.ref a_p1_way_places, .ref a_p1_way_bearings, .ref a_p1_way_cuts, .ref a_p1_way_deaths, .int p1_way_mats])), (a_p1_way_bearings, .inl (cI, 12, .inl p1_way_bearings)), (a_p1_way_places, .inl (cI, 12, .inl p1_way_places))] sz)) 0 0 (va_A [(a_t, .inr (1, [.ref a_t_seconds, .ref a_t_pens, .ref a_t_minutes, .ref a_t_passers, .ref a_t_tried])), (a_t_minutes, .inl (cI, 60, .inl t_minutes)), (a_t_passers, .inl (cI, 4001, .inl t_passers)), (a_t_pens, .inl (cI, 60, .inl t_pens)), (a_t_seconds, .inl (cI, 720, .inl t_seconds)), (a_t_tried, .inr (2, [.ref a_t_tried_ticks])), (a_t_tried_ticks, .inl (cI, 6, .inl t_tried_ticks)), (a_p1, .inr (4, [.ref a_p1_way, .ref a_p1_guns, .ref a_p1_runners])), (a_p1_guns, .inr (2, [.ref a_p1_guns_ticks])), (a_p1_guns_ticks, .inl (cI, 6, .inl p1_guns_ticks)), (a_p1_runners, .inr (6, [.ref a_p1_runners_facts, .ref a_p1_runners_splits, .ref a_p1_runners_torn, .ref a_p1_runners_dropped, .ref a_p1_runners_waved, .ref a_p1_runners_struck, .ref a_p1_runners_strikingOrder, .int p1_runners_entered, .int p1_runners_strikings])), (a_p1_runners_facts, .inl (cI, 360, .inl p1_runners_facts)), (a_p1_way, .inr (9, [.ref a_p1_way_places, .ref a_p1_way_bearings, .ref a_p1_way_cuts, .ref a_p1_way_deaths, .int p1_way_mats])), (a_p1_way_bearings, .inl (cI, 12, .inl p1_way_bearings)), (a_p1_way_places, .inl (cI, 12, .inl p1_way_places))] sz) := by
  refine Met.ofW (cc := cX1_planFrom) (maxL := 6) (ret := (some .int)) (by decide) rfl ?_
  intro p e s m args below meth c s₁ B hml hv
  obtain ⟨rfl, hsz, hP, hK, hN, hZ, hD0⟩ := hv
  have hx := B.exec
  have hb := B.bytes
  have hr := B.returns
  have hts := atoms_spec (ws := wsX1_planFrom) B.pre
  have hown : s.vm.findClass RX1 = some m.cls := findClass_of_methodNamed B.named
  have hlocks := B.notSynchronized
  subst hsz
  have hD := hD0.self (sz := s.heap.size)
  generalize hAe : va_A [(a_t, .inr (1, [.ref a_t_seconds, .ref a_t_pens, .ref a_t_minutes, .ref a_t_passers, .ref a_t_tried])), (a_t_minutes, .inl (cI, 60, .inl t_minutes)), (a_t_passers, .inl (cI, 4001, .inl t_passers)), (a_t_pens, .inl (cI, 60, .inl t_pens)), (a_t_seconds, .inl (cI, 720, .inl t_seconds)), (a_t_tried, .inr (2, [.ref a_t_tried_ticks])), (a_t_tried_ticks, .inl (cI, 6, .inl t_tried_ticks)), (a_p1, .inr (4, [.ref a_p1_way, .ref a_p1_guns, .ref a_p1_runners])), (a_p1_guns, .inr (2, [.ref a_p1_guns_ticks])), (a_p1_guns_ticks, .inl (cI, 6, .inl p1_guns_ticks)), (a_p1_runners, .inr (6, [.ref a_p1_runners_facts, .ref a_p1_runners_splits, .ref a_p1_runners_torn, .ref a_p1_runners_dropped, .ref a_p1_runners_waved, .ref a_p1_runners_struck, .ref a_p1_runners_strikingOrder, .int p1_runners_entered, .int p1_runners_strikings])), (a_p1_runners_facts, .inl (cI, 360, .inl p1_runners_facts)), (a_p1_way, .inr (9, [.ref a_p1_way_places, .ref a_p1_way_bearings, .ref a_p1_way_cuts, .ref a_p1_way_deaths, .int p1_way_mats])), (a_p1_way_bearings, .inl (cI, 12, .inl p1_way_bearings)), (a_p1_way_places, .inl (cI, 12, .inl p1_way_places))] s.heap.size = A at hD hZ ⊢
  have hA : ∀ q : Nat, s.heap.size ≤ q → A q := fun q h => by rw [← hAe]; exact Or.inr h
  have hS : va_S A s.heap s.heap [] := va_S.rf
  have hl := lv_entry ([.ref a_t, .ref a_p1, .int x2, .int x3]) (n := 6) (Nat.le_of_ble_eq_true rfl)
  rw [lg_entry_eq]
  generalize (lg_sl ([.ref a_t, .ref a_p1, .int x2, .int x3]) ++ List.replicate (6 - (lg_sl ([.ref a_t, .ref a_p1, .int x2, .int x3])).length) Slot.unset).toArray = ls at hl ⊢
  have hl : lv_has ls 6 [(0, .ref a_t), (1, .ref a_p1), (2, .int x2), (3, .int x3)] := hl
  unfold fX1_planFrom at h
  refine lv_iconst (v := (nI 0)) hx hb dX1_planFrom_0 rfl ?_
  refine lv_istore (lv' := [(4, .int (nI 0)), (0, .ref a_t), (1, .ref a_p1), (2, .int x2), (3, .int x3)]) hx hb dX1_planFrom_1 hl (by decide) rfl (fun ls hl => ?_)
  have X3_28 : ∀ (v4_3 : Int32) (t_pens_l3 : Nat → Int32) (t_seconds_l3 : Nat → Int32) (H : Heap) (locs : List Loc) (ls : Array Slot), fX1_planFrom_L34 N p1_runners_entered p1_way_mats p1_way_bearings x2 x3 t_pens_l3 t_seconds_l3 (fun (v4_34 : Int32) (v5_34 : Int32) (t_minutes_l34 : Nat → Int32) (t_passers_l34 : Nat → Int32) (t_tried_ticks_l34 : Nat → Int32) (p1_guns_ticks_l34 : Nat → Int32) => some ((-1 : Int32), t_minutes_l34, t_passers_l34, t_pens_l3, t_seconds_l3, t_tried_ticks_l34, p1_guns_ticks_l34)) N (nI 0) (nI 0) t_minutes t_passers t_tried_ticks p1_guns_ticks = some (r0, t_minutes', t_passers', t_pens', t_seconds', t_tried_ticks', p1_guns_ticks') → va_P D vwCl [(a_t, .inr (1, [.ref a_t_seconds, .ref a_t_pens, .ref a_t_minutes, .ref a_t_passers, .ref a_t_tried])), (a_t_minutes, .inl (cI, 60, .inl t_minutes)), (a_t_passers, .inl (cI, 4001, .inl t_passers)), (a_t_pens, .inl (cI, 60, .inl t_pens_l3)), (a_t_seconds, .inl (cI, 720, .inl t_seconds_l3)), (a_t_tried, .inr (2, [.ref a_t_tried_ticks])), (a_t_tried_ticks, .inl (cI, 6, .inl t_tried_ticks)), (a_p1, .inr (4, [.ref a_p1_way, .ref a_p1_guns, .ref a_p1_runners])), (a_p1_guns, .inr (2, [.ref a_p1_guns_ticks])), (a_p1_guns_ticks, .inl (cI, 6, .inl p1_guns_ticks)), (a_p1_runners, .inr (6, [.ref a_p1_runners_facts, .ref a_p1_runners_splits, .ref a_p1_runners_torn, .ref a_p1_runners_dropped, .ref a_p1_runners_waved, .ref a_p1_runners_struck, .ref a_p1_runners_strikingOrder, .int p1_runners_entered, .int p1_runners_strikings])), (a_p1_runners_facts, .inl (cI, 360, .inl p1_runners_facts)), (a_p1_way, .inr (9, [.ref a_p1_way_places, .ref a_p1_way_bearings, .ref a_p1_way_cuts, .ref a_p1_way_deaths, .int p1_way_mats])), (a_p1_way_bearings, .inl (cI, 12, .inl p1_way_bearings)), (a_p1_way_places, .inl (cI, 12, .inl p1_way_places))] H → va_D A [(a_t, .inr (1, [.ref a_t_seconds, .ref a_t_pens, .ref a_t_minutes, .ref a_t_passers, .ref a_t_tried])), (a_t_minutes, .inl (cI, 60, .inl t_minutes)), (a_t_passers, .inl (cI, 4001, .inl t_passers)), (a_t_pens, .inl (cI, 60, .inl t_pens_l3)), (a_t_seconds, .inl (cI, 720, .inl t_seconds_l3)), (a_t_tried, .inr (2, [.ref a_t_tried_ticks])), (a_t_tried_ticks, .inl (cI, 6, .inl t_tried_ticks)), (a_p1, .inr (4, [.ref a_p1_way, .ref a_p1_guns, .ref a_p1_runners])), (a_p1_guns, .inr (2, [.ref a_p1_guns_ticks])), (a_p1_guns_ticks, .inl (cI, 6, .inl p1_guns_ticks)), (a_p1_runners, .inr (6, [.ref a_p1_runners_facts, .ref a_p1_runners_splits, .ref a_p1_runners_torn, .ref a_p1_runners_dropped, .ref a_p1_runners_waved, .ref a_p1_runners_struck, .ref a_p1_runners_strikingOrder, .int p1_runners_entered, .int p1_runners_strikings])), (a_p1_runners_facts, .inl (cI, 360, .inl p1_runners_facts)), (a_p1_way, .inr (9, [.ref a_p1_way_places, .ref a_p1_way_bearings, .ref a_p1_way_cuts, .ref a_p1_way_deaths, .int p1_way_mats])), (a_p1_way_bearings, .inl (cI, 12, .inl p1_way_bearings)), (a_p1_way_places, .inl (cI, 12, .inl p1_way_places))] → va_S A s.heap H locs → lv_has ls 6 [(4, .int v4_3), (0, .ref a_t), (1, .ref a_p1), (2, .int x2), (3, .int x3)] → W p l e (headSpec wsX1_planFrom ({ frames := 4, cells := 0, slots := 0, locals := 95 } : Room)).room s m #[Value.ref a_t, Value.ref a_p1, Value.int x2, Value.int x3] below meth c H locs 0 0 (MQ below (zQi r0 D (zT cB cI cZ) [(a_t, .inr (1, [.ref a_t_seconds, .ref a_t_pens, .ref a_t_minutes, .ref a_t_passers, .ref a_t_tried])), (a_t_minutes, .inl (cI, 60, .inl t_minutes')), (a_t_passers, .inl (cI, 4001, .inl t_passers')), (a_t_pens, .inl (cI, 60, .inl t_pens')), (a_t_seconds, .inl (cI, 720, .inl t_seconds')), (a_t_tried, .inr (2, [.ref a_t_tried_ticks])), (a_t_tried_ticks, .inl (cI, 6, .inl t_tried_ticks')), (a_p1, .inr (4, [.ref a_p1_way, .ref a_p1_guns, .ref a_p1_runners])), (a_p1_guns, .inr (2, [.ref a_p1_guns_ticks])), (a_p1_guns_ticks, .inl (cI, 6, .inl p1_guns_ticks')), (a_p1_runners, .inr (6, [.ref a_p1_runners_facts, .ref a_p1_runners_splits, .ref a_p1_runners_torn, .ref a_p1_runners_dropped, .ref a_p1_runners_waved, .ref a_p1_runners_struck, .ref a_p1_runners_strikingOrder, .int p1_runners_entered, .int p1_runners_strikings])), (a_p1_runners_facts, .inl (cI, 360, .inl p1_runners_facts)), (a_p1_way, .inr (9, [.ref a_p1_way_places, .ref a_p1_way_bearings, .ref a_p1_way_cuts, .ref a_p1_way_deaths, .int p1_way_mats])), (a_p1_way_bearings, .inl (cI, 12, .inl p1_way_bearings)), (a_p1_way_places, .inl (cI, 12, .inl p1_way_places))] A) #[Value.ref a_t, Value.ref a_p1, Value.int x2, Value.int x3] s 0 0 A) (F0 m 28 ls []) := by
    intro v4_3 t_pens_l3 t_seconds_l3 H locs ls h hP hD hS hl
    refine lv_iconst (v := (nI 0)) hx hb dX1_planFrom_28 rfl ?_
    refine lv_istore (lv' := [(4, .int (nI 0)), (0, .ref a_t), (1, .ref a_p1), (2, .int x2), (3, .int x3)]) hx hb dX1_planFrom_29 hl (by decide) rfl (fun ls hl => ?_)
    refine lv_iconst (v := (nI 0)) hx hb dX1_planFrom_31 rfl ?_
    refine lv_istore (lv' := [(5, .int (nI 0)), (4, .int (nI 0)), (0, .ref a_t), (1, .ref a_p1), (2, .int x2), (3, .int x3)]) hx hb dX1_planFrom_32 hl (by decide) rfl (fun ls hl => ?_)
    have X34_85 : ∀ (v4_34 : Int32) (v5_34 : Int32) (t_minutes_l34 : Nat → Int32) (t_passers_l34 : Nat → Int32) (t_tried_ticks_l34 : Nat → Int32) (p1_guns_ticks_l34 : Nat → Int32) (H : Heap) (locs : List Loc) (ls : Array Slot), some ((-1 : Int32), t_minutes_l34, t_passers_l34, t_pens_l3, t_seconds_l3, t_tried_ticks_l34, p1_guns_ticks_l34) = some (r0, t_minutes', t_passers', t_pens', t_seconds', t_tried_ticks', p1_guns_ticks') → va_P D vwCl [(a_t, .inr (1, [.ref a_t_seconds, .ref a_t_pens, .ref a_t_minutes, .ref a_t_passers, .ref a_t_tried])), (a_t_minutes, .inl (cI, 60, .inl t_minutes_l34)), (a_t_passers, .inl (cI, 4001, .inl t_passers_l34)), (a_t_pens, .inl (cI, 60, .inl t_pens_l3)), (a_t_seconds, .inl (cI, 720, .inl t_seconds_l3)), (a_t_tried, .inr (2, [.ref a_t_tried_ticks])), (a_t_tried_ticks, .inl (cI, 6, .inl t_tried_ticks_l34)), (a_p1, .inr (4, [.ref a_p1_way, .ref a_p1_guns, .ref a_p1_runners])), (a_p1_guns, .inr (2, [.ref a_p1_guns_ticks])), (a_p1_guns_ticks, .inl (cI, 6, .inl p1_guns_ticks_l34)), (a_p1_runners, .inr (6, [.ref a_p1_runners_facts, .ref a_p1_runners_splits, .ref a_p1_runners_torn, .ref a_p1_runners_dropped, .ref a_p1_runners_waved, .ref a_p1_runners_struck, .ref a_p1_runners_strikingOrder, .int p1_runners_entered, .int p1_runners_strikings])), (a_p1_runners_facts, .inl (cI, 360, .inl p1_runners_facts)), (a_p1_way, .inr (9, [.ref a_p1_way_places, .ref a_p1_way_bearings, .ref a_p1_way_cuts, .ref a_p1_way_deaths, .int p1_way_mats])), (a_p1_way_bearings, .inl (cI, 12, .inl p1_way_bearings)), (a_p1_way_places, .inl (cI, 12, .inl p1_way_places))] H → va_D A [(a_t, .inr (1, [.ref a_t_seconds, .ref a_t_pens, .ref a_t_minutes, .ref a_t_passers, .ref a_t_tried])), (a_t_minutes, .inl (cI, 60, .inl t_minutes_l34)), (a_t_passers, .inl (cI, 4001, .inl t_passers_l34)), (a_t_pens, .inl (cI, 60, .inl t_pens_l3)), (a_t_seconds, .inl (cI, 720, .inl t_seconds_l3)), (a_t_tried, .inr (2, [.ref a_t_tried_ticks])), (a_t_tried_ticks, .inl (cI, 6, .inl t_tried_ticks_l34)), (a_p1, .inr (4, [.ref a_p1_way, .ref a_p1_guns, .ref a_p1_runners])), (a_p1_guns, .inr (2, [.ref a_p1_guns_ticks])), (a_p1_guns_ticks, .inl (cI, 6, .inl p1_guns_ticks_l34)), (a_p1_runners, .inr (6, [.ref a_p1_runners_facts, .ref a_p1_runners_splits, .ref a_p1_runners_torn, .ref a_p1_runners_dropped, .ref a_p1_runners_waved, .ref a_p1_runners_struck, .ref a_p1_runners_strikingOrder, .int p1_runners_entered, .int p1_runners_strikings])), (a_p1_runners_facts, .inl (cI, 360, .inl p1_runners_facts)), (a_p1_way, .inr (9, [.ref a_p1_way_places, .ref a_p1_way_bearings, .ref a_p1_way_cuts, .ref a_p1_way_deaths, .int p1_way_mats])), (a_p1_way_bearings, .inl (cI, 12, .inl p1_way_bearings)), (a_p1_way_places, .inl (cI, 12, .inl p1_way_places))] → va_S A s.heap H locs → lv_has ls 6 [(5, .int v5_34), (4, .int v4_34), (0, .ref a_t), (1, .ref a_p1), (2, .int x2), (3, .int x3)] → W p l e (headSpec wsX1_planFrom ({ frames := 4, cells := 0, slots := 0, locals := 95 } : Room)).room s m #[Value.ref a_t, Value.ref a_p1, Value.int x2, Value.int x3] below meth c H locs 0 0 (MQ below (zQi r0 D (zT cB cI cZ) [(a_t, .inr (1, [.ref a_t_seconds, .ref a_t_pens, .ref a_t_minutes, .ref a_t_passers, .ref a_t_tried])), (a_t_minutes, .inl (cI, 60, .inl t_minutes')), (a_t_passers, .inl (cI, 4001, .inl t_passers')), (a_t_pens, .inl (cI, 60, .inl t_pens')), (a_t_seconds, .inl (cI, 720, .inl t_seconds')), (a_t_tried, .inr (2, [.ref a_t_tried_ticks])), (a_t_tried_ticks, .inl (cI, 6, .inl t_tried_ticks')), (a_p1, .inr (4, [.ref a_p1_way, .ref a_p1_guns, .ref a_p1_runners])), (a_p1_guns, .inr (2, [.ref a_p1_guns_ticks])), (a_p1_guns_ticks, .inl (cI, 6, .inl p1_guns_ticks')), (a_p1_runners, .inr (6, [.ref a_p1_runners_facts, .ref a_p1_runners_splits, .ref a_p1_runners_torn, .ref a_p1_runners_dropped, .ref a_p1_runners_waved, .ref a_p1_runners_struck, .ref a_p1_runners_strikingOrder, .int p1_runners_entered, .int p1_runners_strikings])), (a_p1_runners_facts, .inl (cI, 360, .inl p1_runners_facts)), (a_p1_way, .inr (9, [.ref a_p1_way_places, .ref a_p1_way_bearings, .ref a_p1_way_cuts, .ref a_p1_way_deaths, .int p1_way_mats])), (a_p1_way_bearings, .inl (cI, 12, .inl p1_way_bearings)), (a_p1_way_places, .inl (cI, 12, .inl p1_way_places))] A) #[Value.ref a_t, Value.ref a_p1, Value.int x2, Value.int x3] s 0 0 A) (F0 m 85 ls []) := by
      intro v4_34 v5_34 t_minutes_l34 t_passers_l34 t_tried_ticks_l34 p1_guns_ticks_l34 H locs ls h hP hD hS hl
      refine lv_iconst (v := (-1 : Int32)) hx hb dX1_planFrom_85 rfl ?_
      obtain ⟨j0_, g_⟩ := Prod.mk.inj (Option.some.inj h)
      obtain ⟨j1_, g_⟩ := Prod.mk.inj g_
      obtain ⟨j2_, g_⟩ := Prod.mk.inj g_
      obtain ⟨j3_, g_⟩ := Prod.mk.inj g_
      obtain ⟨j4_, g_⟩ := Prod.mk.inj g_
      obtain ⟨j5_, g_⟩ := Prod.mk.inj g_
      have j6_ := g_
      subst j0_
      subst j1_
      subst j2_
      subst j3_
      subst j4_
      subst j5_
      subst j6_
      exact W.iret (v := (-1 : Int32)) hx hb hr (fun t ht hW => ⟨⟨_, (), rfl, rfl, zPost.of hP hD hK ht hW [0, 1, 2, 3, 4, 5, 6, 7, 8, 9, 10, 11, 12, 13, 14] rfl rfl rfl⟩, hS.F ht⟩) hS.2.2 dX1_planFrom_86
    have L34 : ∀ (n : Nat) (v4_34 : Int32) (v5_34 : Int32) (t_minutes_l34 : Nat → Int32) (t_passers_l34 : Nat → Int32) (t_tried_ticks_l34 : Nat → Int32) (p1_guns_ticks_l34 : Nat → Int32) (H : Heap) (locs : List Loc) (ls : Array Slot), fX1_planFrom_L34 N p1_runners_entered p1_way_mats p1_way_bearings x2 x3 t_pens_l3 t_seconds_l3 (fun (v4_34 : Int32) (v5_34 : Int32) (t_minutes_l34 : Nat → Int32) (t_passers_l34 : Nat → Int32) (t_tried_ticks_l34 : Nat → Int32) (p1_guns_ticks_l34 : Nat → Int32) => some ((-1 : Int32), t_minutes_l34, t_passers_l34, t_pens_l3, t_seconds_l3, t_tried_ticks_l34, p1_guns_ticks_l34)) n v4_34 v5_34 t_minutes_l34 t_passers_l34 t_tried_ticks_l34 p1_guns_ticks_l34 = some (r0, t_minutes', t_passers', t_pens', t_seconds', t_tried_ticks', p1_guns_ticks') → va_P D vwCl [(a_t, .inr (1, [.ref a_t_seconds, .ref a_t_pens, .ref a_t_minutes, .ref a_t_passers, .ref a_t_tried])), (a_t_minutes, .inl (cI, 60, .inl t_minutes_l34)), (a_t_passers, .inl (cI, 4001, .inl t_passers_l34)), (a_t_pens, .inl (cI, 60, .inl t_pens_l3)), (a_t_seconds, .inl (cI, 720, .inl t_seconds_l3)), (a_t_tried, .inr (2, [.ref a_t_tried_ticks])), (a_t_tried_ticks, .inl (cI, 6, .inl t_tried_ticks_l34)), (a_p1, .inr (4, [.ref a_p1_way, .ref a_p1_guns, .ref a_p1_runners])), (a_p1_guns, .inr (2, [.ref a_p1_guns_ticks])), (a_p1_guns_ticks, .inl (cI, 6, .inl p1_guns_ticks_l34)), (a_p1_runners, .inr (6, [.ref a_p1_runners_facts, .ref a_p1_runners_splits, .ref a_p1_runners_torn, .ref a_p1_runners_dropped, .ref a_p1_runners_waved, .ref a_p1_runners_struck, .ref a_p1_runners_strikingOrder, .int p1_runners_entered, .int p1_runners_strikings])), (a_p1_runners_facts, .inl (cI, 360, .inl p1_runners_facts)), (a_p1_way, .inr (9, [.ref a_p1_way_places, .ref a_p1_way_bearings, .ref a_p1_way_cuts, .ref a_p1_way_deaths, .int p1_way_mats])), (a_p1_way_bearings, .inl (cI, 12, .inl p1_way_bearings)), (a_p1_way_places, .inl (cI, 12, .inl p1_way_places))] H → va_D A [(a_t, .inr (1, [.ref a_t_seconds, .ref a_t_pens, .ref a_t_minutes, .ref a_t_passers, .ref a_t_tried])), (a_t_minutes, .inl (cI, 60, .inl t_minutes_l34)), (a_t_passers, .inl (cI, 4001, .inl t_passers_l34)), (a_t_pens, .inl (cI, 60, .inl t_pens_l3)), (a_t_seconds, .inl (cI, 720, .inl t_seconds_l3)), (a_t_tried, .inr (2, [.ref a_t_tried_ticks])), (a_t_tried_ticks, .inl (cI, 6, .inl t_tried_ticks_l34)), (a_p1, .inr (4, [.ref a_p1_way, .ref a_p1_guns, .ref a_p1_runners])), (a_p1_guns, .inr (2, [.ref a_p1_guns_ticks])), (a_p1_guns_ticks, .inl (cI, 6, .inl p1_guns_ticks_l34)), (a_p1_runners, .inr (6, [.ref a_p1_runners_facts, .ref a_p1_runners_splits, .ref a_p1_runners_torn, .ref a_p1_runners_dropped, .ref a_p1_runners_waved, .ref a_p1_runners_struck, .ref a_p1_runners_strikingOrder, .int p1_runners_entered, .int p1_runners_strikings])), (a_p1_runners_facts, .inl (cI, 360, .inl p1_runners_facts)), (a_p1_way, .inr (9, [.ref a_p1_way_places, .ref a_p1_way_bearings, .ref a_p1_way_cuts, .ref a_p1_way_deaths, .int p1_way_mats])), (a_p1_way_bearings, .inl (cI, 12, .inl p1_way_bearings)), (a_p1_way_places, .inl (cI, 12, .inl p1_way_places))] → va_S A s.heap H locs → lv_has ls 6 [(5, .int v5_34), (4, .int v4_34), (0, .ref a_t), (1, .ref a_p1), (2, .int x2), (3, .int x3)] → W p l e (headSpec wsX1_planFrom ({ frames := 4, cells := 0, slots := 0, locals := 95 } : Room)).room s m #[Value.ref a_t, Value.ref a_p1, Value.int x2, Value.int x3] below meth c H locs 0 0 (MQ below (zQi r0 D (zT cB cI cZ) [(a_t, .inr (1, [.ref a_t_seconds, .ref a_t_pens, .ref a_t_minutes, .ref a_t_passers, .ref a_t_tried])), (a_t_minutes, .inl (cI, 60, .inl t_minutes')), (a_t_passers, .inl (cI, 4001, .inl t_passers')), (a_t_pens, .inl (cI, 60, .inl t_pens')), (a_t_seconds, .inl (cI, 720, .inl t_seconds')), (a_t_tried, .inr (2, [.ref a_t_tried_ticks])), (a_t_tried_ticks, .inl (cI, 6, .inl t_tried_ticks')), (a_p1, .inr (4, [.ref a_p1_way, .ref a_p1_guns, .ref a_p1_runners])), (a_p1_guns, .inr (2, [.ref a_p1_guns_ticks])), (a_p1_guns_ticks, .inl (cI, 6, .inl p1_guns_ticks')), (a_p1_runners, .inr (6, [.ref a_p1_runners_facts, .ref a_p1_runners_splits, .ref a_p1_runners_torn, .ref a_p1_runners_dropped, .ref a_p1_runners_waved, .ref a_p1_runners_struck, .ref a_p1_runners_strikingOrder, .int p1_runners_entered, .int p1_runners_strikings])), (a_p1_runners_facts, .inl (cI, 360, .inl p1_runners_facts)), (a_p1_way, .inr (9, [.ref a_p1_way_places, .ref a_p1_way_bearings, .ref a_p1_way_cuts, .ref a_p1_way_deaths, .int p1_way_mats])), (a_p1_way_bearings, .inl (cI, 12, .inl p1_way_bearings)), (a_p1_way_places, .inl (cI, 12, .inl p1_way_places))] A) #[Value.ref a_t, Value.ref a_p1, Value.int x2, Value.int x3] s 0 0 A) (F0 m 34 ls []) := by
      intro n
      induction n with
      | zero => intro _ _ _ _ _ _ H locs ls h hP hD hS hl; cases h
      | succ n34 ih34 =>
        intro v4_34 v5_34 t_minutes_l34 t_passers_l34 t_tried_ticks_l34 p1_guns_ticks_l34 H locs ls h hP hD hS hl
        rw [fX1_planFrom_L34.eq_2] at h
        refine lv_iload hx hb dX1_planFrom_34 (lv_at hl 0 rfl) ?_
        refine lv_iload_n hx hb dX1_planFrom_36 rfl (lv_at hl 5 rfl) ?_
        refine lv_icmp_gt (tgt := 85) hx hb dX1_planFrom_37 (by decide) (fun c1 => ?_) (fun c1 => ?_)
        · have h := zz_t h c1
          exact X34_85 v4_34 v5_34 t_minutes_l34 t_passers_l34 t_tried_ticks_l34 p1_guns_ticks_l34 _ _ _ h (hP.sub [0, 1, 2, 3, 4, 5, 6, 7, 8, 9, 10, 11, 12, 13, 14] rfl) (hD.sub [0, 1, 2, 3, 4, 5, 6, 7, 8, 9, 10, 11, 12, 13, 14] rfl rfl) hS (lv_sub hl [0, 1, 2, 3, 4, 5] rfl)
        · have h := zz_f h c1
          refine lv_aload_n hx hb dX1_planFrom_40 rfl (lv_at hl 2 rfl) ?_
          refine va_get (D := D) (ci := 1) (C := RX1) (T := TX1) (N := 5) hx hb hts qX1_planFrom_X1 hown hK hP 0 rfl rfl 4 (by decide) (hts _ kX1_planFrom_0) (fun _ h9 => h9) rfl dX1_planFrom_41 ?_
          refine lv_iload_n hx hb dX1_planFrom_44 rfl (lv_at hl 4 rfl) ?_
          refine lv_iload hx hb dX1_planFrom_45 (lv_at hl 0 rfl) ?_
          obtain ⟨t_tried_ticks_r2, e3, h⟩ := zz_b h
          refine zVv (As := [.int x2, .int v5_34]) (rest := []) (C := RX2) (wr := [(a_t, .inr (1, [.ref a_t_seconds, .ref a_t_pens, .ref a_t_minutes, .ref a_t_passers, .ref a_t_tried])), (a_t_minutes, .inl (cI, 60, .inl t_minutes_l34)), (a_t_passers, .inl (cI, 4001, .inl t_passers_l34)), (a_t_pens, .inl (cI, 60, .inl t_pens_l3)), (a_t_seconds, .inl (cI, 720, .inl t_seconds_l3)), (a_p1, .inr (4, [.ref a_p1_way, .ref a_p1_guns, .ref a_p1_runners])), (a_p1_guns, .inr (2, [.ref a_p1_guns_ticks])), (a_p1_guns_ticks, .inl (cI, 6, .inl p1_guns_ticks_l34)), (a_p1_runners, .inr (6, [.ref a_p1_runners_facts, .ref a_p1_runners_splits, .ref a_p1_runners_torn, .ref a_p1_runners_dropped, .ref a_p1_runners_waved, .ref a_p1_runners_struck, .ref a_p1_runners_strikingOrder, .int p1_runners_entered, .int p1_runners_strikings])), (a_p1_runners_facts, .inl (cI, 360, .inl p1_runners_facts)), (a_p1_way, .inr (9, [.ref a_p1_way_places, .ref a_p1_way_bearings, .ref a_p1_way_cuts, .ref a_p1_way_deaths, .int p1_way_mats])), (a_p1_way_bearings, .inl (cI, 12, .inl p1_way_bearings)), (a_p1_way_places, .inl (cI, 12, .inl p1_way_places))]) [5, 6] [0, 1, 2, 3, 4, 7, 8, 9, 10, 11, 12, 13, 14] 0 ⟨hx, hb, hml, hown, hts⟩ (mX2_fireInSteps l D cB cI cZ a_t_tried a_t_tried_ticks t_tried_ticks_l34 H.size x2 v5_34 N t_tried_ticks_r2 e3) (cwV 2 hts gX1_planFrom_X2_fireInSteps rfl rfl rfl (by decide +kernel) ⟨Nat.le_of_ble_eq_true rfl, Nat.le_of_ble_eq_true rfl⟩) hK hN hZ hP hD hS hA rfl rfl rfl rfl rfl rfl rfl rfl hl.1 rfl (lv_room (Nat.le_of_ble_eq_true rfl)) dX1_planFrom_47 ⟨Nat.le_of_ble_eq_true rfl, Nat.le_of_ble_eq_true rfl⟩ (fun H locs hP hD hS => ?_)
          have hP : va_P D vwCl [(a_t, .inr (1, [.ref a_t_seconds, .ref a_t_pens, .ref a_t_minutes, .ref a_t_passers, .ref a_t_tried])), (a_t_minutes, .inl (cI, 60, .inl t_minutes_l34)), (a_t_passers, .inl (cI, 4001, .inl t_passers_l34)), (a_t_pens, .inl (cI, 60, .inl t_pens_l3)), (a_t_seconds, .inl (cI, 720, .inl t_seconds_l3)), (a_p1, .inr (4, [.ref a_p1_way, .ref a_p1_guns, .ref a_p1_runners])), (a_p1_guns, .inr (2, [.ref a_p1_guns_ticks])), (a_p1_guns_ticks, .inl (cI, 6, .inl p1_guns_ticks_l34)), (a_p1_runners, .inr (6, [.ref a_p1_runners_facts, .ref a_p1_runners_splits, .ref a_p1_runners_torn, .ref a_p1_runners_dropped, .ref a_p1_runners_waved, .ref a_p1_runners_struck, .ref a_p1_runners_strikingOrder, .int p1_runners_entered, .int p1_runners_strikings])), (a_p1_runners_facts, .inl (cI, 360, .inl p1_runners_facts)), (a_p1_way, .inr (9, [.ref a_p1_way_places, .ref a_p1_way_bearings, .ref a_p1_way_cuts, .ref a_p1_way_deaths, .int p1_way_mats])), (a_p1_way_bearings, .inl (cI, 12, .inl p1_way_bearings)), (a_p1_way_places, .inl (cI, 12, .inl p1_way_places)), (a_t_tried, .inr (2, [.ref a_t_tried_ticks])), (a_t_tried_ticks, .inl (cI, 6, .inl t_tried_ticks_r2))] H := hP
          have hD : va_D A [(a_t, .inr (1, [.ref a_t_seconds, .ref a_t_pens, .ref a_t_minutes, .ref a_t_passers, .ref a_t_tried])), (a_t_minutes, .inl (cI, 60, .inl t_minutes_l34)), (a_t_passers, .inl (cI, 4001, .inl t_passers_l34)), (a_t_pens, .inl (cI, 60, .inl t_pens_l3)), (a_t_seconds, .inl (cI, 720, .inl t_seconds_l3)), (a_p1, .inr (4, [.ref a_p1_way, .ref a_p1_guns, .ref a_p1_runners])), (a_p1_guns, .inr (2, [.ref a_p1_guns_ticks])), (a_p1_guns_ticks, .inl (cI, 6, .inl p1_guns_ticks_l34)), (a_p1_runners, .inr (6, [.ref a_p1_runners_facts, .ref a_p1_runners_splits, .ref a_p1_runners_torn, .ref a_p1_runners_dropped, .ref a_p1_runners_waved, .ref a_p1_runners_struck, .ref a_p1_runners_strikingOrder, .int p1_runners_entered, .int p1_runners_strikings])), (a_p1_runners_facts, .inl (cI, 360, .inl p1_runners_facts)), (a_p1_way, .inr (9, [.ref a_p1_way_places, .ref a_p1_way_bearings, .ref a_p1_way_cuts, .ref a_p1_way_deaths, .int p1_way_mats])), (a_p1_way_bearings, .inl (cI, 12, .inl p1_way_bearings)), (a_p1_way_places, .inl (cI, 12, .inl p1_way_places)), (a_t_tried, .inr (2, [.ref a_t_tried_ticks])), (a_t_tried_ticks, .inl (cI, 6, .inl t_tried_ticks_r2))] := hD
          refine lv_aload_n hx hb dX1_planFrom_50 rfl (lv_at hl 2 rfl) ?_
          refine lv_aload_n hx hb dX1_planFrom_51 rfl (lv_at hl 3 rfl) ?_
          refine lv_iload hx hb dX1_planFrom_52 (lv_at hl 1 rfl) ?_
          obtain ⟨⟨r4, t_minutes_r5, t_passers_r6⟩, e7, h⟩ := zz_b h
          dsimp only at h
          refine zVi (As := [.ref a_p1, .int v4_34]) (rest := []) (C := RX1) (wr := [(a_p1_guns, .inr (2, [.ref a_p1_guns_ticks])), (a_p1_guns_ticks, .inl (cI, 6, .inl p1_guns_ticks_l34)), (a_p1_runners_facts, .inl (cI, 360, .inl p1_runners_facts)), (a_p1_way_places, .inl (cI, 12, .inl p1_way_places))]) [0, 1, 2, 3, 4, 13, 14, 5, 8, 10, 11] [6, 7, 9, 12] 0 ⟨hx, hb, hml, hown, hts⟩ (mX1_someTightMat l D cB cI cZ a_t a_p1 a_t_seconds a_t_pens a_t_minutes a_t_passers a_t_tried a_t_tried_ticks a_p1_way a_p1_guns a_p1_runners a_p1_runners_facts a_p1_runners_splits a_p1_runners_torn a_p1_runners_dropped a_p1_runners_waved a_p1_runners_struck a_p1_runners_strikingOrder a_p1_way_places a_p1_way_bearings a_p1_way_cuts a_p1_way_deaths t_minutes_l34 t_passers_l34 t_pens_l3 t_seconds_l3 t_tried_ticks_r2 p1_runners_entered p1_runners_strikings p1_way_mats p1_way_bearings H.size v4_34 N r4 t_minutes_r5 t_passers_r6 e7) (cwV 2 hts gX1_planFrom_X1_someTightMat rfl rfl rfl (by decide +kernel) ⟨Nat.le_of_ble_eq_true rfl, Nat.le_of_ble_eq_true rfl⟩) hK hN hZ hP hD hS hA rfl rfl rfl rfl rfl rfl rfl rfl hl.1 rfl (lv_room (Nat.le_of_ble_eq_true rfl)) dX1_planFrom_54 ⟨Nat.le_of_ble_eq_true rfl, Nat.le_of_ble_eq_true rfl⟩ (fun H locs hP hD hS => ?_)
          have hP : va_P D vwCl [(a_p1_guns, .inr (2, [.ref a_p1_guns_ticks])), (a_p1_guns_ticks, .inl (cI, 6, .inl p1_guns_ticks_l34)), (a_p1_runners_facts, .inl (cI, 360, .inl p1_runners_facts)), (a_p1_way_places, .inl (cI, 12, .inl p1_way_places)), (a_t, .inr (1, [.ref a_t_seconds, .ref a_t_pens, .ref a_t_minutes, .ref a_t_passers, .ref a_t_tried])), (a_t_minutes, .inl (cI, 60, .inl t_minutes_r5)), (a_t_passers, .inl (cI, 4001, .inl t_passers_r6)), (a_t_pens, .inl (cI, 60, .inl t_pens_l3)), (a_t_seconds, .inl (cI, 720, .inl t_seconds_l3)), (a_t_tried, .inr (2, [.ref a_t_tried_ticks])), (a_t_tried_ticks, .inl (cI, 6, .inl t_tried_ticks_r2)), (a_p1, .inr (4, [.ref a_p1_way, .ref a_p1_guns, .ref a_p1_runners])), (a_p1_runners, .inr (6, [.ref a_p1_runners_facts, .ref a_p1_runners_splits, .ref a_p1_runners_torn, .ref a_p1_runners_dropped, .ref a_p1_runners_waved, .ref a_p1_runners_struck, .ref a_p1_runners_strikingOrder, .int p1_runners_entered, .int p1_runners_strikings])), (a_p1_way, .inr (9, [.ref a_p1_way_places, .ref a_p1_way_bearings, .ref a_p1_way_cuts, .ref a_p1_way_deaths, .int p1_way_mats])), (a_p1_way_bearings, .inl (cI, 12, .inl p1_way_bearings))] H := hP
          have hD : va_D A [(a_p1_guns, .inr (2, [.ref a_p1_guns_ticks])), (a_p1_guns_ticks, .inl (cI, 6, .inl p1_guns_ticks_l34)), (a_p1_runners_facts, .inl (cI, 360, .inl p1_runners_facts)), (a_p1_way_places, .inl (cI, 12, .inl p1_way_places)), (a_t, .inr (1, [.ref a_t_seconds, .ref a_t_pens, .ref a_t_minutes, .ref a_t_passers, .ref a_t_tried])), (a_t_minutes, .inl (cI, 60, .inl t_minutes_r5)), (a_t_passers, .inl (cI, 4001, .inl t_passers_r6)), (a_t_pens, .inl (cI, 60, .inl t_pens_l3)), (a_t_seconds, .inl (cI, 720, .inl t_seconds_l3)), (a_t_tried, .inr (2, [.ref a_t_tried_ticks])), (a_t_tried_ticks, .inl (cI, 6, .inl t_tried_ticks_r2)), (a_p1, .inr (4, [.ref a_p1_way, .ref a_p1_guns, .ref a_p1_runners])), (a_p1_runners, .inr (6, [.ref a_p1_runners_facts, .ref a_p1_runners_splits, .ref a_p1_runners_torn, .ref a_p1_runners_dropped, .ref a_p1_runners_waved, .ref a_p1_runners_struck, .ref a_p1_runners_strikingOrder, .int p1_runners_entered, .int p1_runners_strikings])), (a_p1_way, .inr (9, [.ref a_p1_way_places, .ref a_p1_way_bearings, .ref a_p1_way_cuts, .ref a_p1_way_deaths, .int p1_way_mats])), (a_p1_way_bearings, .inl (cI, 12, .inl p1_way_bearings))] := hD
          refine lv_istore (lv' := [(4, .int r4), (5, .int v5_34), (0, .ref a_t), (1, .ref a_p1), (2, .int x2), (3, .int x3)]) hx hb dX1_planFrom_57 hl (by decide) rfl (fun ls hl => ?_)
          refine lv_iload hx hb dX1_planFrom_59 (lv_at hl 0 rfl) ?_
          refine lv_iconst (v := (-1 : Int32)) hx hb dX1_planFrom_61 rfl ?_
          refine lv_icmp_ne (tgt := 79) hx hb dX1_planFrom_62 (by decide) (fun c8 => ?_) (fun c8 => ?_)
          · have h := zz_f h c8
            refine lv_iinc (v := (v5_34 + (nI 1))) (lv' := [(5, .int (v5_34 + (nI 1))), (4, .int r4), (0, .ref a_t), (1, .ref a_p1), (2, .int x2), (3, .int x3)]) hx hb dX1_planFrom_79 hl (k := 1) rfl rfl (by decide) rfl (fun ls hl => ?_)
            refine lv_goto (tgt := 34) hx hb dX1_planFrom_82 (by decide) ?_
            exact ih34 r4 (v5_34 + (nI 1)) t_minutes_r5 t_passers_r6 t_tried_ticks_r2 p1_guns_ticks_l34 _ _ _ h (hP.sub [4, 5, 6, 7, 8, 9, 10, 11, 0, 1, 12, 2, 13, 14, 3] rfl) (hD.sub [4, 5, 6, 7, 8, 9, 10, 11, 0, 1, 12, 2, 13, 14, 3] rfl rfl) hS (lv_sub hl [0, 1, 2, 3, 4, 5] rfl)
          · have h := zz_t h c8
            refine lv_aload_n hx hb dX1_planFrom_65 rfl (lv_at hl 3 rfl) ?_
            refine va_getN (host := "RunDesk") (D := D) (ci := 4) (C := RX4) (T := TX4) (N := 3) hx hb hts qX1_planFrom_X4 hown hK hP 11 rfl rfl 1 (by decide) (va_Nw.use rfl (hN _ (List.mem_of_getElem? (i := 4) rfl))) (fun _ h9 => h9) rfl dX1_planFrom_66 ?_
            refine lv_aload_n hx hb dX1_planFrom_69 rfl (lv_at hl 2 rfl) ?_
            refine va_get (D := D) (ci := 1) (C := RX1) (T := TX1) (N := 5) hx hb hts qX1_planFrom_X1 hown hK hP 4 rfl rfl 4 (by decide) (hts _ kX1_planFrom_0) (fun _ h9 => h9) rfl dX1_planFrom_70 ?_
            obtain ⟨p1_guns_ticks_r9, e10, h⟩ := zz_b h
            refine zVv (As := [.ref a_t_tried]) (rest := []) (C := RX2) (wr := [(a_p1_runners_facts, .inl (cI, 360, .inl p1_runners_facts)), (a_p1_way_places, .inl (cI, 12, .inl p1_way_places)), (a_t, .inr (1, [.ref a_t_seconds, .ref a_t_pens, .ref a_t_minutes, .ref a_t_passers, .ref a_t_tried])), (a_t_minutes, .inl (cI, 60, .inl t_minutes_r5)), (a_t_passers, .inl (cI, 4001, .inl t_passers_r6)), (a_t_pens, .inl (cI, 60, .inl t_pens_l3)), (a_t_seconds, .inl (cI, 720, .inl t_seconds_l3)), (a_p1, .inr (4, [.ref a_p1_way, .ref a_p1_guns, .ref a_p1_runners])), (a_p1_runners, .inr (6, [.ref a_p1_runners_facts, .ref a_p1_runners_splits, .ref a_p1_runners_torn, .ref a_p1_runners_dropped, .ref a_p1_runners_waved, .ref a_p1_runners_struck, .ref a_p1_runners_strikingOrder, .int p1_runners_entered, .int p1_runners_strikings])), (a_p1_way, .inr (9, [.ref a_p1_way_places, .ref a_p1_way_bearings, .ref a_p1_way_cuts, .ref a_p1_way_deaths, .int p1_way_mats])), (a_p1_way_bearings, .inl (cI, 12, .inl p1_way_bearings))]) [0, 1, 9, 10] [2, 3, 4, 5, 6, 7, 8, 11, 12, 13, 14] 0 ⟨hx, hb, hml, hown, hts⟩ (mX2_copyFrom l D cB cI cZ a_p1_guns a_t_tried a_p1_guns_ticks a_t_tried_ticks p1_guns_ticks_l34 t_tried_ticks_r2 H.size p1_guns_ticks_r9 e10) (cwV 1 hts gX1_planFrom_X2_copyFrom rfl rfl rfl (by decide +kernel) ⟨Nat.le_of_ble_eq_true rfl, Nat.le_of_ble_eq_true rfl⟩) hK hN hZ hP hD hS hA rfl rfl rfl rfl rfl rfl rfl rfl hl.1 rfl (lv_room (Nat.le_of_ble_eq_true rfl)) dX1_planFrom_73 ⟨Nat.le_of_ble_eq_true rfl, Nat.le_of_ble_eq_true rfl⟩ (fun H locs hP hD hS => ?_)
            have hP : va_P D vwCl [(a_p1_runners_facts, .inl (cI, 360, .inl p1_runners_facts)), (a_p1_way_places, .inl (cI, 12, .inl p1_way_places)), (a_t, .inr (1, [.ref a_t_seconds, .ref a_t_pens, .ref a_t_minutes, .ref a_t_passers, .ref a_t_tried])), (a_t_minutes, .inl (cI, 60, .inl t_minutes_r5)), (a_t_passers, .inl (cI, 4001, .inl t_passers_r6)), (a_t_pens, .inl (cI, 60, .inl t_pens_l3)), (a_t_seconds, .inl (cI, 720, .inl t_seconds_l3)), (a_p1, .inr (4, [.ref a_p1_way, .ref a_p1_guns, .ref a_p1_runners])), (a_p1_runners, .inr (6, [.ref a_p1_runners_facts, .ref a_p1_runners_splits, .ref a_p1_runners_torn, .ref a_p1_runners_dropped, .ref a_p1_runners_waved, .ref a_p1_runners_struck, .ref a_p1_runners_strikingOrder, .int p1_runners_entered, .int p1_runners_strikings])), (a_p1_way, .inr (9, [.ref a_p1_way_places, .ref a_p1_way_bearings, .ref a_p1_way_cuts, .ref a_p1_way_deaths, .int p1_way_mats])), (a_p1_way_bearings, .inl (cI, 12, .inl p1_way_bearings)), (a_p1_guns, .inr (2, [.ref a_p1_guns_ticks])), (a_p1_guns_ticks, .inl (cI, 6, .inl p1_guns_ticks_r9)), (a_t_tried, .inr (2, [.ref a_t_tried_ticks])), (a_t_tried_ticks, .inl (cI, 6, .inl t_tried_ticks_r2))] H := hP
            have hD : va_D A [(a_p1_runners_facts, .inl (cI, 360, .inl p1_runners_facts)), (a_p1_way_places, .inl (cI, 12, .inl p1_way_places)), (a_t, .inr (1, [.ref a_t_seconds, .ref a_t_pens, .ref a_t_minutes, .ref a_t_passers, .ref a_t_tried])), (a_t_minutes, .inl (cI, 60, .inl t_minutes_r5)), (a_t_passers, .inl (cI, 4001, .inl t_passers_r6)), (a_t_pens, .inl (cI, 60, .inl t_pens_l3)), (a_t_seconds, .inl (cI, 720, .inl t_seconds_l3)), (a_p1, .inr (4, [.ref a_p1_way, .ref a_p1_guns, .ref a_p1_runners])), (a_p1_runners, .inr (6, [.ref a_p1_runners_facts, .ref a_p1_runners_splits, .ref a_p1_runners_torn, .ref a_p1_runners_dropped, .ref a_p1_runners_waved, .ref a_p1_runners_struck, .ref a_p1_runners_strikingOrder, .int p1_runners_entered, .int p1_runners_strikings])), (a_p1_way, .inr (9, [.ref a_p1_way_places, .ref a_p1_way_bearings, .ref a_p1_way_cuts, .ref a_p1_way_deaths, .int p1_way_mats])), (a_p1_way_bearings, .inl (cI, 12, .inl p1_way_bearings)), (a_p1_guns, .inr (2, [.ref a_p1_guns_ticks])), (a_p1_guns_ticks, .inl (cI, 6, .inl p1_guns_ticks_r9)), (a_t_tried, .inr (2, [.ref a_t_tried_ticks])), (a_t_tried_ticks, .inl (cI, 6, .inl t_tried_ticks_r2))] := hD
            refine lv_iload hx hb dX1_planFrom_76 (lv_at hl 1 rfl) ?_
            obtain ⟨j0_, g_⟩ := Prod.mk.inj (Option.some.inj h)
            obtain ⟨j1_, g_⟩ := Prod.mk.inj g_
            obtain ⟨j2_, g_⟩ := Prod.mk.inj g_
            obtain ⟨j3_, g_⟩ := Prod.mk.inj g_
            obtain ⟨j4_, g_⟩ := Prod.mk.inj g_
            obtain ⟨j5_, g_⟩ := Prod.mk.inj g_
            have j6_ := g_
            subst j0_
            subst j1_
            subst j2_
            subst j3_
            subst j4_
            subst j5_
            subst j6_
            exact W.iret (v := v5_34) hx hb hr (fun t ht hW => ⟨⟨_, (), rfl, rfl, zPost.of hP hD hK ht hW [2, 3, 4, 5, 6, 13, 14, 7, 11, 12, 8, 0, 9, 10, 1] rfl rfl rfl⟩, hS.F ht⟩) hS.2.2 dX1_planFrom_78
    exact L34 N (nI 0) (nI 0) t_minutes t_passers t_tried_ticks p1_guns_ticks _ _ _ h hP hD hS hl
  have L3 : ∀ (n : Nat) (v4_3 : Int32) (t_pens_l3 : Nat → Int32) (t_seconds_l3 : Nat → Int32) (H : Heap) (locs : List Loc) (ls : Array Slot), fX1_planFrom_L3 N p1_runners_entered p1_runners_facts p1_way_mats p1_way_places (fun (v4_3 : Int32) (t_pens_l3 : Nat → Int32) (t_seconds_l3 : Nat → Int32) => fX1_planFrom_L34 N p1_runners_entered p1_way_mats p1_way_bearings x2 x3 t_pens_l3 t_seconds_l3 (fun (v4_34 : Int32) (v5_34 : Int32) (t_minutes_l34 : Nat → Int32) (t_passers_l34 : Nat → Int32) (t_tried_ticks_l34 : Nat → Int32) (p1_guns_ticks_l34 : Nat → Int32) => some ((-1 : Int32), t_minutes_l34, t_passers_l34, t_pens_l3, t_seconds_l3, t_tried_ticks_l34, p1_guns_ticks_l34)) N (nI 0) (nI 0) t_minutes t_passers t_tried_ticks p1_guns_ticks) n v4_3 t_pens_l3 t_seconds_l3 = some (r0, t_minutes', t_passers', t_pens', t_seconds', t_tried_ticks', p1_guns_ticks') → va_P D vwCl [(a_t, .inr (1, [.ref a_t_seconds, .ref a_t_pens, .ref a_t_minutes, .ref a_t_passers, .ref a_t_tried])), (a_t_minutes, .inl (cI, 60, .inl t_minutes)), (a_t_passers, .inl (cI, 4001, .inl t_passers)), (a_t_pens, .inl (cI, 60, .inl t_pens_l3)), (a_t_seconds, .inl (cI, 720, .inl t_seconds_l3)), (a_t_tried, .inr (2, [.ref a_t_tried_ticks])), (a_t_tried_ticks, .inl (cI, 6, .inl t_tried_ticks)), (a_p1, .inr (4, [.ref a_p1_way, .ref a_p1_guns, .ref a_p1_runners])), (a_p1_guns, .inr (2, [.ref a_p1_guns_ticks])), (a_p1_guns_ticks, .inl (cI, 6, .inl p1_guns_ticks)), (a_p1_runners, .inr (6, [.ref a_p1_runners_facts, .ref a_p1_runners_splits, .ref a_p1_runners_torn, .ref a_p1_runners_dropped, .ref a_p1_runners_waved, .ref a_p1_runners_struck, .ref a_p1_runners_strikingOrder, .int p1_runners_entered, .int p1_runners_strikings])), (a_p1_runners_facts, .inl (cI, 360, .inl p1_runners_facts)), (a_p1_way, .inr (9, [.ref a_p1_way_places, .ref a_p1_way_bearings, .ref a_p1_way_cuts, .ref a_p1_way_deaths, .int p1_way_mats])), (a_p1_way_bearings, .inl (cI, 12, .inl p1_way_bearings)), (a_p1_way_places, .inl (cI, 12, .inl p1_way_places))] H → va_D A [(a_t, .inr (1, [.ref a_t_seconds, .ref a_t_pens, .ref a_t_minutes, .ref a_t_passers, .ref a_t_tried])), (a_t_minutes, .inl (cI, 60, .inl t_minutes)), (a_t_passers, .inl (cI, 4001, .inl t_passers)), (a_t_pens, .inl (cI, 60, .inl t_pens_l3)), (a_t_seconds, .inl (cI, 720, .inl t_seconds_l3)), (a_t_tried, .inr (2, [.ref a_t_tried_ticks])), (a_t_tried_ticks, .inl (cI, 6, .inl t_tried_ticks)), (a_p1, .inr (4, [.ref a_p1_way, .ref a_p1_guns, .ref a_p1_runners])), (a_p1_guns, .inr (2, [.ref a_p1_guns_ticks])), (a_p1_guns_ticks, .inl (cI, 6, .inl p1_guns_ticks)), (a_p1_runners, .inr (6, [.ref a_p1_runners_facts, .ref a_p1_runners_splits, .ref a_p1_runners_torn, .ref a_p1_runners_dropped, .ref a_p1_runners_waved, .ref a_p1_runners_struck, .ref a_p1_runners_strikingOrder, .int p1_runners_entered, .int p1_runners_strikings])), (a_p1_runners_facts, .inl (cI, 360, .inl p1_runners_facts)), (a_p1_way, .inr (9, [.ref a_p1_way_places, .ref a_p1_way_bearings, .ref a_p1_way_cuts, .ref a_p1_way_deaths, .int p1_way_mats])), (a_p1_way_bearings, .inl (cI, 12, .inl p1_way_bearings)), (a_p1_way_places, .inl (cI, 12, .inl p1_way_places))] → va_S A s.heap H locs → lv_has ls 6 [(4, .int v4_3), (0, .ref a_t), (1, .ref a_p1), (2, .int x2), (3, .int x3)] → W p l e (headSpec wsX1_planFrom ({ frames := 4, cells := 0, slots := 0, locals := 95 } : Room)).room s m #[Value.ref a_t, Value.ref a_p1, Value.int x2, Value.int x3] below meth c H locs 0 0 (MQ below (zQi r0 D (zT cB cI cZ) [(a_t, .inr (1, [.ref a_t_seconds, .ref a_t_pens, .ref a_t_minutes, .ref a_t_passers, .ref a_t_tried])), (a_t_minutes, .inl (cI, 60, .inl t_minutes')), (a_t_passers, .inl (cI, 4001, .inl t_passers')), (a_t_pens, .inl (cI, 60, .inl t_pens')), (a_t_seconds, .inl (cI, 720, .inl t_seconds')), (a_t_tried, .inr (2, [.ref a_t_tried_ticks])), (a_t_tried_ticks, .inl (cI, 6, .inl t_tried_ticks')), (a_p1, .inr (4, [.ref a_p1_way, .ref a_p1_guns, .ref a_p1_runners])), (a_p1_guns, .inr (2, [.ref a_p1_guns_ticks])), (a_p1_guns_ticks, .inl (cI, 6, .inl p1_guns_ticks')), (a_p1_runners, .inr (6, [.ref a_p1_runners_facts, .ref a_p1_runners_splits, .ref a_p1_runners_torn, .ref a_p1_runners_dropped, .ref a_p1_runners_waved, .ref a_p1_runners_struck, .ref a_p1_runners_strikingOrder, .int p1_runners_entered, .int p1_runners_strikings])), (a_p1_runners_facts, .inl (cI, 360, .inl p1_runners_facts)), (a_p1_way, .inr (9, [.ref a_p1_way_places, .ref a_p1_way_bearings, .ref a_p1_way_cuts, .ref a_p1_way_deaths, .int p1_way_mats])), (a_p1_way_bearings, .inl (cI, 12, .inl p1_way_bearings)), (a_p1_way_places, .inl (cI, 12, .inl p1_way_places))] A) #[Value.ref a_t, Value.ref a_p1, Value.int x2, Value.int x3] s 0 0 A) (F0 m 3 ls []) := by
    intro n
    induction n with
    | zero => intro _ _ _ H locs ls h hP hD hS hl; cases h
    | succ n3 ih3 =>
      intro v4_3 t_pens_l3 t_seconds_l3 H locs ls h hP hD hS hl
      rw [fX1_planFrom_L3.eq_2] at h
      refine lv_iload hx hb dX1_planFrom_3 (lv_at hl 0 rfl) ?_
      refine lv_aload_n hx hb dX1_planFrom_5 rfl (lv_at hl 2 rfl) ?_
      refine va_getN (host := "RunDesk") (D := D) (ci := 4) (C := RX4) (T := TX4) (N := 3) hx hb hts qX1_planFrom_X4 hown hK hP 7 rfl rfl 0 (by decide) (va_Nw.use rfl (hN _ (List.mem_of_getElem? (i := 1) rfl))) (fun _ h9 => h9) rfl dX1_planFrom_6 ?_
      obtain ⟨r11, e12, h⟩ := zz_b h
      refine zVi (As := []) (rest := [.int v4_3]) (C := RX9) (wr := [(a_t, .inr (1, [.ref a_t_seconds, .ref a_t_pens, .ref a_t_minutes, .ref a_t_passers, .ref a_t_tried])), (a_t_minutes, .inl (cI, 60, .inl t_minutes)), (a_t_passers, .inl (cI, 4001, .inl t_passers)), (a_t_pens, .inl (cI, 60, .inl t_pens_l3)), (a_t_seconds, .inl (cI, 720, .inl t_seconds_l3)), (a_t_tried, .inr (2, [.ref a_t_tried_ticks])), (a_t_tried_ticks, .inl (cI, 6, .inl t_tried_ticks)), (a_p1, .inr (4, [.ref a_p1_way, .ref a_p1_guns, .ref a_p1_runners])), (a_p1_guns, .inr (2, [.ref a_p1_guns_ticks])), (a_p1_guns_ticks, .inl (cI, 6, .inl p1_guns_ticks)), (a_p1_runners, .inr (6, [.ref a_p1_runners_facts, .ref a_p1_runners_splits, .ref a_p1_runners_torn, .ref a_p1_runners_dropped, .ref a_p1_runners_waved, .ref a_p1_runners_struck, .ref a_p1_runners_strikingOrder, .int p1_runners_entered, .int p1_runners_strikings])), (a_p1_runners_facts, .inl (cI, 360, .inl p1_runners_facts)), (a_p1_way_bearings, .inl (cI, 12, .inl p1_way_bearings)), (a_p1_way_places, .inl (cI, 12, .inl p1_way_places))]) [12] [0, 1, 2, 3, 4, 5, 6, 7, 8, 9, 10, 11, 13, 14] 0 ⟨hx, hb, hml, hown, hts⟩ (mX9_size l D cB cI cZ a_p1_way a_p1_way_places a_p1_way_bearings a_p1_way_cuts a_p1_way_deaths p1_way_mats H.size r11 e12) (cwV 0 hts gX1_planFrom_X9_size rfl rfl rfl (by decide +kernel) ⟨Nat.le_of_ble_eq_true rfl, Nat.le_of_ble_eq_true rfl⟩) hK hN hZ hP hD hS hA rfl rfl rfl rfl rfl rfl rfl rfl hl.1 rfl (lv_room (Nat.le_of_ble_eq_true rfl)) dX1_planFrom_9 ⟨Nat.le_of_ble_eq_true rfl, Nat.le_of_ble_eq_true rfl⟩ (fun H locs hP hD hS => ?_)
      have hP : va_P D vwCl [(a_t, .inr (1, [.ref a_t_seconds, .ref a_t_pens, .ref a_t_minutes, .ref a_t_passers, .ref a_t_tried])), (a_t_minutes, .inl (cI, 60, .inl t_minutes)), (a_t_passers, .inl (cI, 4001, .inl t_passers)), (a_t_pens, .inl (cI, 60, .inl t_pens_l3)), (a_t_seconds, .inl (cI, 720, .inl t_seconds_l3)), (a_t_tried, .inr (2, [.ref a_t_tried_ticks])), (a_t_tried_ticks, .inl (cI, 6, .inl t_tried_ticks)), (a_p1, .inr (4, [.ref a_p1_way, .ref a_p1_guns, .ref a_p1_runners])), (a_p1_guns, .inr (2, [.ref a_p1_guns_ticks])), (a_p1_guns_ticks, .inl (cI, 6, .inl p1_guns_ticks)), (a_p1_runners, .inr (6, [.ref a_p1_runners_facts, .ref a_p1_runners_splits, .ref a_p1_runners_torn, .ref a_p1_runners_dropped, .ref a_p1_runners_waved, .ref a_p1_runners_struck, .ref a_p1_runners_strikingOrder, .int p1_runners_entered, .int p1_runners_strikings])), (a_p1_runners_facts, .inl (cI, 360, .inl p1_runners_facts)), (a_p1_way_bearings, .inl (cI, 12, .inl p1_way_bearings)), (a_p1_way_places, .inl (cI, 12, .inl p1_way_places)), (a_p1_way, .inr (9, [.ref a_p1_way_places, .ref a_p1_way_bearings, .ref a_p1_way_cuts, .ref a_p1_way_deaths, .int p1_way_mats]))] H := hP
      have hD : va_D A [(a_t, .inr (1, [.ref a_t_seconds, .ref a_t_pens, .ref a_t_minutes, .ref a_t_passers, .ref a_t_tried])), (a_t_minutes, .inl (cI, 60, .inl t_minutes)), (a_t_passers, .inl (cI, 4001, .inl t_passers)), (a_t_pens, .inl (cI, 60, .inl t_pens_l3)), (a_t_seconds, .inl (cI, 720, .inl t_seconds_l3)), (a_t_tried, .inr (2, [.ref a_t_tried_ticks])), (a_t_tried_ticks, .inl (cI, 6, .inl t_tried_ticks)), (a_p1, .inr (4, [.ref a_p1_way, .ref a_p1_guns, .ref a_p1_runners])), (a_p1_guns, .inr (2, [.ref a_p1_guns_ticks])), (a_p1_guns_ticks, .inl (cI, 6, .inl p1_guns_ticks)), (a_p1_runners, .inr (6, [.ref a_p1_runners_facts, .ref a_p1_runners_splits, .ref a_p1_runners_torn, .ref a_p1_runners_dropped, .ref a_p1_runners_waved, .ref a_p1_runners_struck, .ref a_p1_runners_strikingOrder, .int p1_runners_entered, .int p1_runners_strikings])), (a_p1_runners_facts, .inl (cI, 360, .inl p1_runners_facts)), (a_p1_way_bearings, .inl (cI, 12, .inl p1_way_bearings)), (a_p1_way_places, .inl (cI, 12, .inl p1_way_places)), (a_p1_way, .inr (9, [.ref a_p1_way_places, .ref a_p1_way_bearings, .ref a_p1_way_cuts, .ref a_p1_way_deaths, .int p1_way_mats]))] := hD
      refine lv_icmp_ge (tgt := 28) hx hb dX1_planFrom_12 (by decide) (fun c13 => ?_) (fun c13 => ?_)
      · have h := zz_t h c13
        exact X3_28 v4_3 t_pens_l3 t_seconds_l3 _ _ _ h (hP.sub [0, 1, 2, 3, 4, 5, 6, 7, 8, 9, 10, 11, 14, 12, 13] rfl) (hD.sub [0, 1, 2, 3, 4, 5, 6, 7, 8, 9, 10, 11, 14, 12, 13] rfl rfl) hS (lv_sub hl [0, 1, 2, 3, 4] rfl)
      · have h := zz_f h c13
        refine lv_aload_n hx hb dX1_planFrom_15 rfl (lv_at hl 1 rfl) ?_
        refine lv_aload_n hx hb dX1_planFrom_16 rfl (lv_at hl 2 rfl) ?_
        refine lv_iload hx hb dX1_planFrom_17 (lv_at hl 0 rfl) ?_
        obtain ⟨⟨t_pens_r14, t_seconds_r15⟩, e16, h⟩ := zz_b h
        dsimp only at h
        refine zVv (As := [.ref a_p1, .int v4_3]) (rest := []) (C := RX1) (wr := [(a_t_minutes, .inl (cI, 60, .inl t_minutes)), (a_t_passers, .inl (cI, 4001, .inl t_passers)), (a_t_tried, .inr (2, [.ref a_t_tried_ticks])), (a_t_tried_ticks, .inl (cI, 6, .inl t_tried_ticks)), (a_p1_guns, .inr (2, [.ref a_p1_guns_ticks])), (a_p1_guns_ticks, .inl (cI, 6, .inl p1_guns_ticks)), (a_p1_way_bearings, .inl (cI, 12, .inl p1_way_bearings))]) [0, 3, 4, 7, 10, 11, 14, 13] [1, 2, 5, 6, 8, 9, 12] 0 ⟨hx, hb, hml, hown, hts⟩ (mX1_prepare l D cB cI cZ a_t a_p1 a_t_seconds a_t_pens a_t_minutes a_t_passers a_t_tried a_p1_way a_p1_guns a_p1_runners a_p1_runners_facts a_p1_runners_splits a_p1_runners_torn a_p1_runners_dropped a_p1_runners_waved a_p1_runners_struck a_p1_runners_strikingOrder a_p1_way_places a_p1_way_bearings a_p1_way_cuts a_p1_way_deaths t_pens_l3 t_seconds_l3 p1_runners_entered p1_runners_strikings p1_runners_facts p1_way_mats p1_way_places H.size v4_3 N t_pens_r14 t_seconds_r15 e16) (cwV 2 hts gX1_planFrom_X1_prepare rfl rfl rfl (by decide +kernel) ⟨Nat.le_of_ble_eq_true rfl, Nat.le_of_ble_eq_true rfl⟩) hK hN hZ hP hD hS hA rfl rfl rfl rfl rfl rfl rfl rfl hl.1 rfl (lv_room (Nat.le_of_ble_eq_true rfl)) dX1_planFrom_19 ⟨Nat.le_of_ble_eq_true rfl, Nat.le_of_ble_eq_true rfl⟩ (fun H locs hP hD hS => ?_)
        have hP : va_P D vwCl [(a_t_minutes, .inl (cI, 60, .inl t_minutes)), (a_t_passers, .inl (cI, 4001, .inl t_passers)), (a_t_tried, .inr (2, [.ref a_t_tried_ticks])), (a_t_tried_ticks, .inl (cI, 6, .inl t_tried_ticks)), (a_p1_guns, .inr (2, [.ref a_p1_guns_ticks])), (a_p1_guns_ticks, .inl (cI, 6, .inl p1_guns_ticks)), (a_p1_way_bearings, .inl (cI, 12, .inl p1_way_bearings)), (a_t, .inr (1, [.ref a_t_seconds, .ref a_t_pens, .ref a_t_minutes, .ref a_t_passers, .ref a_t_tried])), (a_t_pens, .inl (cI, 60, .inl t_pens_r14)), (a_t_seconds, .inl (cI, 720, .inl t_seconds_r15)), (a_p1, .inr (4, [.ref a_p1_way, .ref a_p1_guns, .ref a_p1_runners])), (a_p1_runners, .inr (6, [.ref a_p1_runners_facts, .ref a_p1_runners_splits, .ref a_p1_runners_torn, .ref a_p1_runners_dropped, .ref a_p1_runners_waved, .ref a_p1_runners_struck, .ref a_p1_runners_strikingOrder, .int p1_runners_entered, .int p1_runners_strikings])), (a_p1_runners_facts, .inl (cI, 360, .inl p1_runners_facts)), (a_p1_way, .inr (9, [.ref a_p1_way_places, .ref a_p1_way_bearings, .ref a_p1_way_cuts, .ref a_p1_way_deaths, .int p1_way_mats])), (a_p1_way_places, .inl (cI, 12, .inl p1_way_places))] H := hP
        have hD : va_D A [(a_t_minutes, .inl (cI, 60, .inl t_minutes)), (a_t_passers, .inl (cI, 4001, .inl t_passers)), (a_t_tried, .inr (2, [.ref a_t_tried_ticks])), (a_t_tried_ticks, .inl (cI, 6, .inl t_tried_ticks)), (a_p1_guns, .inr (2, [.ref a_p1_guns_ticks])), (a_p1_guns_ticks, .inl (cI, 6, .inl p1_guns_ticks)), (a_p1_way_bearings, .inl (cI, 12, .inl p1_way_bearings)), (a_t, .inr (1, [.ref a_t_seconds, .ref a_t_pens, .ref a_t_minutes, .ref a_t_passers, .ref a_t_tried])), (a_t_pens, .inl (cI, 60, .inl t_pens_r14)), (a_t_seconds, .inl (cI, 720, .inl t_seconds_r15)), (a_p1, .inr (4, [.ref a_p1_way, .ref a_p1_guns, .ref a_p1_runners])), (a_p1_runners, .inr (6, [.ref a_p1_runners_facts, .ref a_p1_runners_splits, .ref a_p1_runners_torn, .ref a_p1_runners_dropped, .ref a_p1_runners_waved, .ref a_p1_runners_struck, .ref a_p1_runners_strikingOrder, .int p1_runners_entered, .int p1_runners_strikings])), (a_p1_runners_facts, .inl (cI, 360, .inl p1_runners_facts)), (a_p1_way, .inr (9, [.ref a_p1_way_places, .ref a_p1_way_bearings, .ref a_p1_way_cuts, .ref a_p1_way_deaths, .int p1_way_mats])), (a_p1_way_places, .inl (cI, 12, .inl p1_way_places))] := hD
        refine lv_iinc (v := (v4_3 + (nI 1))) (lv' := [(4, .int (v4_3 + (nI 1))), (0, .ref a_t), (1, .ref a_p1), (2, .int x2), (3, .int x3)]) hx hb dX1_planFrom_22 hl (k := 0) rfl rfl (by decide) rfl (fun ls hl => ?_)
        refine lv_goto (tgt := 3) hx hb dX1_planFrom_25 (by decide) ?_
        exact ih3 (v4_3 + (nI 1)) t_pens_r14 t_seconds_r15 _ _ _ h (hP.sub [7, 0, 1, 8, 9, 2, 3, 10, 4, 5, 11, 12, 13, 6, 14] rfl) (hD.sub [7, 0, 1, 8, 9, 2, 3, 10, 4, 5, 11, 12, 13, 6, 14] rfl rfl) hS (lv_sub hl [0, 1, 2, 3, 4] rfl)
  exact L3 N (nI 0) t_pens t_seconds _ _ _ h hP hD hS hl
/-! java/util/Arrays.fill -/
theorem dJ7_fill_53178_0 : decode cJ7_fill_53178 0 = .ok (.iconst 0, 1) := by decide +kernel
theorem dJ7_fill_53178_1 : decode cJ7_fill_53178 1 = .ok (.istore_n 2, 1) := by decide +kernel
theorem dJ7_fill_53178_2 : decode cJ7_fill_53178 2 = .ok (.aload_n 0, 1) := by decide +kernel
theorem dJ7_fill_53178_3 : decode cJ7_fill_53178 3 = .ok (.arraylength, 1) := by decide +kernel
theorem dJ7_fill_53178_4 : decode cJ7_fill_53178 4 = .ok (.istore_n 3, 1) := by decide +kernel
theorem dJ7_fill_53178_5 : decode cJ7_fill_53178 5 = .ok (.iload_n 2, 1) := by decide +kernel
theorem dJ7_fill_53178_6 : decode cJ7_fill_53178 6 = .ok (.iload_n 3, 1) := by decide +kernel
theorem dJ7_fill_53178_7 : decode cJ7_fill_53178 7 = .ok (.if_icmp .ge 13, 3) := by decide +kernel
theorem dJ7_fill_53178_10 : decode cJ7_fill_53178 10 = .ok (.aload_n 0, 1) := by decide +kernel
theorem dJ7_fill_53178_11 : decode cJ7_fill_53178 11 = .ok (.iload_n 2, 1) := by decide +kernel
theorem dJ7_fill_53178_12 : decode cJ7_fill_53178 12 = .ok (.iload_n 1, 1) := by decide +kernel
theorem dJ7_fill_53178_13 : decode cJ7_fill_53178 13 = .ok (.iastore, 1) := by decide +kernel
theorem dJ7_fill_53178_14 : decode cJ7_fill_53178 14 = .ok (.iinc 2 1, 3) := by decide +kernel
theorem dJ7_fill_53178_17 : decode cJ7_fill_53178 17 = .ok (.goto (-12), 3) := by decide +kernel
theorem dJ7_fill_53178_20 : decode cJ7_fill_53178 20 = .ok (.return_, 1) := by decide +kernel
set_option maxHeartbeats 4000000 in
set_option maxRecDepth 100000 in
theorem mJ7_fill_53178 (l : Launch) (D : va_G) (cB cI cZ : ClassId) (a_p1 : Nat) (p1 : Nat → Int32) (n_p1 : Nat) (sz : Nat) (x2 : Int32) (N : Nat) (p1' : Nat → Int32) (h : fJ7_fill_53178 n_p1 N p1 x2 = some (p1')) : Met l yJ7_fill_53178 wsJ7_fill_53178 ({ frames := 0, cells := 0, slots := 0, locals := 0 } : Room) (va_Pc [.ref a_p1, .int x2] (zPre D (zT cB cI cZ) [(a_p1, .inl (cI, n_p1, .inl p1))] sz)) (zQv D (zT cB cI cZ) [(a_p1, .inl (cI, n_p1, .inl p1'))] (va_A [(a_p1, .inl (cI, n_p1, .inl p1))] sz)) 0 0 (va_A [(a_p1, .inl (cI, n_p1, .inl p1))] sz) := by
  refine Met.ofW (cc := cJ7_fill_53178) (maxL := 4) (ret := none) (by decide) rfl ?_
  intro p e s m args below meth c s₁ B hml hv
  obtain ⟨rfl, hsz, hP, hK, hN, hZ, hD0⟩ := hv
  have hx := B.exec
  have hb := B.bytes
  have hr := B.returns
  have hts := atoms_spec (ws := wsJ7_fill_53178) B.pre
  have hown : s.vm.findClass RJ7 = some m.cls := findClass_of_methodNamed B.named
  have hlocks := B.notSynchronized
  subst hsz
  have hD := hD0.self (sz := s.heap.size)
  generalize hAe : va_A [(a_p1, .inl (cI, n_p1, .inl p1))] s.heap.size = A at hD hZ ⊢
  have hA : ∀ q : Nat, s.heap.size ≤ q → A q := fun q h => by rw [← hAe]; exact Or.inr h
  have hS : va_S A s.heap s.heap [] := va_S.rf
  have hl := lv_entry ([.ref a_p1, .int x2]) (n := 4) (Nat.le_of_ble_eq_true rfl)
  rw [lg_entry_eq]
  generalize (lg_sl ([.ref a_p1, .int x2]) ++ List.replicate (4 - (lg_sl ([.ref a_p1, .int x2])).length) Slot.unset).toArray = ls at hl ⊢
  have hl : lv_has ls 4 [(0, .ref a_p1), (1, .int x2)] := hl
  unfold fJ7_fill_53178 at h
  refine lv_iconst (v := (nI 0)) hx hb dJ7_fill_53178_0 rfl ?_
  refine lv_istore_n (lv' := [(2, .int (nI 0)), (0, .ref a_p1), (1, .int x2)]) hx hb dJ7_fill_53178_1 rfl hl (by decide) rfl (fun ls hl => ?_)
  refine lv_aload_n hx hb dJ7_fill_53178_2 rfl (lv_at hl 1 rfl) ?_
  refine va_alen (v := (nI n_p1)) hx hb hK hP 0 1 rfl rfl rfl dJ7_fill_53178_3 ?_
  refine lv_istore_n (lv' := [(3, .int (nI n_p1)), (2, .int (nI 0)), (0, .ref a_p1), (1, .int x2)]) hx hb dJ7_fill_53178_4 rfl hl (by decide) rfl (fun ls hl => ?_)
  have X5_20 : ∀ (v2_5 : Int32) (p1_l5 : Nat → Int32) (H : Heap) (locs : List Loc) (ls : Array Slot), some (p1_l5) = some (p1') → va_P D vwCl [(a_p1, .inl (cI, n_p1, .inl p1_l5))] H → va_D A [(a_p1, .inl (cI, n_p1, .inl p1_l5))] → va_S A s.heap H locs → lv_has ls 4 [(3, .int (nI n_p1)), (2, .int v2_5), (0, .ref a_p1), (1, .int x2)] → W p l e (headSpec wsJ7_fill_53178 ({ frames := 0, cells := 0, slots := 0, locals := 0 } : Room)).room s m #[Value.ref a_p1, Value.int x2] below meth c H locs 0 0 (MQ below (zQv D (zT cB cI cZ) [(a_p1, .inl (cI, n_p1, .inl p1'))] A) #[Value.ref a_p1, Value.int x2] s 0 0 A) (F0 m 20 ls []) := by
    intro v2_5 p1_l5 H locs ls h hP hD hS hl
    have j0_ := Option.some.inj h
    subst j0_
    exact W.vret hx hb hr (fun t ht hW => ⟨⟨(), rfl, trivial, zPost.of hP hD hK ht hW [0] rfl rfl rfl⟩, hS.F ht⟩) hS.2.2 dJ7_fill_53178_20
  have L5 : ∀ (n : Nat) (v2_5 : Int32) (p1_l5 : Nat → Int32) (H : Heap) (locs : List Loc) (ls : Array Slot), fJ7_fill_53178_L5 n_p1 x2 (fun (v2_5 : Int32) (p1_l5 : Nat → Int32) => some (p1_l5)) n v2_5 p1_l5 = some (p1') → va_P D vwCl [(a_p1, .inl (cI, n_p1, .inl p1_l5))] H → va_D A [(a_p1, .inl (cI, n_p1, .inl p1_l5))] → va_S A s.heap H locs → lv_has ls 4 [(3, .int (nI n_p1)), (2, .int v2_5), (0, .ref a_p1), (1, .int x2)] → W p l e (headSpec wsJ7_fill_53178 ({ frames := 0, cells := 0, slots := 0, locals := 0 } : Room)).room s m #[Value.ref a_p1, Value.int x2] below meth c H locs 0 0 (MQ below (zQv D (zT cB cI cZ) [(a_p1, .inl (cI, n_p1, .inl p1'))] A) #[Value.ref a_p1, Value.int x2] s 0 0 A) (F0 m 5 ls []) := by
    intro n
    induction n with
    | zero => intro _ _ H locs ls h hP hD hS hl; cases h
    | succ n5 ih5 =>
      intro v2_5 p1_l5 H locs ls h hP hD hS hl
      rw [fJ7_fill_53178_L5.eq_2] at h
      refine lv_iload_n hx hb dJ7_fill_53178_5 rfl (lv_at hl 1 rfl) ?_
      refine lv_iload_n hx hb dJ7_fill_53178_6 rfl (lv_at hl 0 rfl) ?_
      refine lv_icmp_ge (tgt := 20) hx hb dJ7_fill_53178_7 (by decide) (fun c1 => ?_) (fun c1 => ?_)
      · have h := zz_t h c1
        exact X5_20 v2_5 p1_l5 _ _ _ h (hP.sub [0] rfl) (hD.sub [0] rfl rfl) hS (lv_sub hl [0, 1, 2, 3] rfl)
      · have h := zz_f h c1
        refine lv_aload_n hx hb dJ7_fill_53178_10 rfl (lv_at hl 2 rfl) ?_
        refine lv_iload_n hx hb dJ7_fill_53178_11 rfl (lv_at hl 1 rfl) ?_
        refine lv_iload_n hx hb dJ7_fill_53178_12 rfl (lv_at hl 3 rfl) ?_
        obtain ⟨i2, h⟩ := zz_i h
        refine va_iast hx hb hK hP hD hS 0 1 rfl rfl i2 dJ7_fill_53178_13 (fun H locs hP hD hS => ?_)
        have hP : va_P D vwCl [(a_p1, .inl (cI, n_p1, .inl (upd p1_l5 (v2_5).toNatClampNeg x2)))] H := hP
        have hD : va_D A [(a_p1, .inl (cI, n_p1, .inl (upd p1_l5 (v2_5).toNatClampNeg x2)))] := hD
        refine lv_iinc (v := (v2_5 + (nI 1))) (lv' := [(2, .int (v2_5 + (nI 1))), (3, .int (nI n_p1)), (0, .ref a_p1), (1, .int x2)]) hx hb dJ7_fill_53178_14 hl (k := 1) rfl rfl (by decide) rfl (fun ls hl => ?_)
        refine lv_goto (tgt := 5) hx hb dJ7_fill_53178_17 (by decide) ?_
        exact ih5 (v2_5 + (nI 1)) (upd p1_l5 (v2_5).toNatClampNeg x2) _ _ _ h (hP.sub [0] rfl) (hD.sub [0] rfl rfl) hS (lv_sub hl [1, 0, 2, 3] rfl)
  exact L5 N (nI 0) p1 _ _ _ h hP hD hS hl
/-! RunDesk$Guns.clear -/
theorem dX2_clear_0 : decode cX2_clear 0 = .ok (.aload_n 0, 1) := by decide +kernel
theorem dX2_clear_1 : decode cX2_clear 1 = .ok (.getfield 9, 3) := by decide +kernel
theorem dX2_clear_4 : decode cX2_clear 4 = .ok (.iconst (-1), 1) := by decide +kernel
theorem dX2_clear_5 : decode cX2_clear 5 = .ok (.invokestatic 15, 3) := by decide +kernel
theorem dX2_clear_8 : decode cX2_clear 8 = .ok (.return_, 1) := by decide +kernel
set_option maxRecDepth 20000 in
theorem ggX2_clear_J7_fill_53178 : GoodIn wsX2_clear wsJ7_fill_53178 := goodIn_sub (List.forall_mem_cons.mpr ⟨List.mem_cons_of_mem _ (List.mem_append_left _ (List.mem_of_getElem? (i := 4) rfl)), (fun _ h => nomatch h)⟩) (by decide +kernel)
set_option maxRecDepth 20000 in
theorem gX2_clear_J7_fill_53178 : GoodIn wsX2_clear (va_wsS RX2 15 yJ7_fill_53178 wsJ7_fill_53178) := goodIn_app (goodIn_of _ (by decide +kernel)) ggX2_clear_J7_fill_53178
theorem kX2_clear_0 : (.fieldLink RX2 9 "RunDesk$Guns" "ticks" "[I" : Cond) ∈ wsX2_clear := List.mem_of_getElem? (i := 1) (by decide +kernel)
theorem qX2_clear_X2 : ∀ w ∈ wsX20, w ∈ wsX2_clear := fun _ h => List.mem_cons_of_mem _ (List.mem_append_right _ (h))
set_option maxHeartbeats 4000000 in
set_option maxRecDepth 100000 in
theorem mX2_clear (l : Launch) (D : va_G) (cB cI cZ : ClassId) (a_t : Nat) (a_t_ticks : Nat) (t_ticks : Nat → Int32) (sz : Nat) (N : Nat) (t_ticks' : Nat → Int32) (h : fX2_clear N t_ticks = some (t_ticks')) : Met l yX2_clear wsX2_clear ({ frames := 1, cells := 0, slots := 0, locals := 23 } : Room) (va_Pc [.ref a_t] (zPre D (zT cB cI cZ) [(a_t, .inr (2, [.ref a_t_ticks])), (a_t_ticks, .inl (cI, 6, .inl t_ticks))] sz)) (zQv D (zT cB cI cZ) [(a_t, .inr (2, [.ref a_t_ticks])), (a_t_ticks, .inl (cI, 6, .inl t_ticks'))] (va_A [(a_t, .inr (2, [.ref a_t_ticks])), (a_t_ticks, .inl (cI, 6, .inl t_ticks))] sz)) 0 0 (va_A [(a_t, .inr (2, [.ref a_t_ticks])), (a_t_ticks, .inl (cI, 6, .inl t_ticks))] sz) := by
  refine Met.ofW (cc := cX2_clear) (maxL := 1) (ret := none) (by decide) rfl ?_
  intro p e s m args below meth c s₁ B hml hv
  obtain ⟨rfl, hsz, hP, hK, hN, hZ, hD0⟩ := hv
  have hx := B.exec
  have hb := B.bytes
  have hr := B.returns
  have hts := atoms_spec (ws := wsX2_clear) B.pre
  have hown : s.vm.findClass RX2 = some m.cls := findClass_of_methodNamed B.named
  have hlocks := B.notSynchronized
  subst hsz
  have hD := hD0.self (sz := s.heap.size)
  generalize hAe : va_A [(a_t, .inr (2, [.ref a_t_ticks])), (a_t_ticks, .inl (cI, 6, .inl t_ticks))] s.heap.size = A at hD hZ ⊢
  have hA : ∀ q : Nat, s.heap.size ≤ q → A q := fun q h => by rw [← hAe]; exact Or.inr h
  have hS : va_S A s.heap s.heap [] := va_S.rf
  have hl := lv_entry ([.ref a_t]) (n := 1) (Nat.le_of_ble_eq_true rfl)
  rw [lg_entry_eq]
  generalize (lg_sl ([.ref a_t]) ++ List.replicate (1 - (lg_sl ([.ref a_t])).length) Slot.unset).toArray = ls at hl ⊢
  have hl : lv_has ls 1 [(0, .ref a_t)] := hl
  unfold fX2_clear at h
  refine lv_aload_n hx hb dX2_clear_0 rfl (lv_at hl 0 rfl) ?_
  refine va_get (D := D) (ci := 2) (C := RX2) (T := TX2) (N := 1) hx hb hts qX2_clear_X2 hown hK hP 0 rfl rfl 0 (by decide) (hts _ kX2_clear_0) (fun _ h9 => h9) rfl dX2_clear_1 ?_
  refine lv_iconst (v := (-1 : Int32)) hx hb dX2_clear_4 rfl ?_
  obtain ⟨t_ticks_r1, e2, h⟩ := zz_b h
  refine zSv (As := [.ref a_t_ticks, .int (-1 : Int32)]) (rest := []) (wr := [(a_t, .inr (2, [.ref a_t_ticks]))]) [1] [0] ⟨hx, hb, hml, hown, hts⟩ (mJ7_fill_53178 l D cB cI cZ a_t_ticks t_ticks 6 s.heap.size (-1 : Int32) N t_ticks_r1 e2) (va_cwS 2 hts gX2_clear_J7_fill_53178 rfl rfl rfl (by decide +kernel) ⟨Nat.le_of_ble_eq_true rfl, Nat.le_of_ble_eq_true rfl⟩) hK hN hZ hP hD hS hA rfl rfl rfl rfl rfl rfl hl.1 rfl (lv_room (Nat.le_of_ble_eq_true rfl)) dX2_clear_5 ⟨Nat.le_of_ble_eq_true rfl, Nat.le_of_ble_eq_true rfl⟩ (fun H locs hP hD hS => ?_)
  have hP : va_P D vwCl [(a_t, .inr (2, [.ref a_t_ticks])), (a_t_ticks, .inl (cI, 6, .inl t_ticks_r1))] H := hP
  have hD : va_D A [(a_t, .inr (2, [.ref a_t_ticks])), (a_t_ticks, .inl (cI, 6, .inl t_ticks_r1))] := hD
  have j0_ := Option.some.inj h
  subst j0_
  exact W.vret hx hb hr (fun t ht hW => ⟨⟨(), rfl, trivial, zPost.of hP hD hK ht hW [0, 1] rfl rfl rfl⟩, hS.F ht⟩) hS.2.2 dX2_clear_8
/-! RunDesk.within -/
theorem dX10_within_0 : decode cX10_within 0 = .ok (.iload_n 0, 1) := by decide +kernel
theorem dX10_within_1 : decode cX10_within 1 = .ok (.iload_n 1, 1) := by decide +kernel
theorem dX10_within_2 : decode cX10_within 2 = .ok (.if_icmp .lt 12, 3) := by decide +kernel
theorem dX10_within_5 : decode cX10_within 5 = .ok (.iload_n 0, 1) := by decide +kernel
theorem dX10_within_6 : decode cX10_within 6 = .ok (.iload_n 2, 1) := by decide +kernel
theorem dX10_within_7 : decode cX10_within 7 = .ok (.if_icmp .gt 7, 3) := by decide +kernel
theorem dX10_within_10 : decode cX10_within 10 = .ok (.iconst 1, 1) := by decide +kernel
theorem dX10_within_11 : decode cX10_within 11 = .ok (.goto 4, 3) := by decide +kernel
theorem dX10_within_14 : decode cX10_within 14 = .ok (.iconst 0, 1) := by decide +kernel
theorem dX10_within_15 : decode cX10_within 15 = .ok (.ireturn, 1) := by decide +kernel
set_option maxHeartbeats 4000000 in
set_option maxRecDepth 100000 in
theorem mX10_within (l : Launch) (D : va_G) (cB cI cZ : ClassId) (sz : Nat) (x1 : Int32) (x2 : Int32) (x3 : Int32) (b0 : Bool) (h : fX10_within x1 x2 x3 = some (b0)) : Met l yX10_within wsX10_within ({ frames := 0, cells := 0, slots := 0, locals := 0 } : Room) (va_Pc [.int x1, .int x2, .int x3] (zPre D (zT cB cI cZ) [] sz)) (zQi (zb b0) D (zT cB cI cZ) [] (va_A [] sz)) 0 0 (va_A [] sz) := by
  refine Met.ofW (cc := cX10_within) (maxL := 3) (ret := (some .boolean)) (by decide) rfl ?_
  intro p e s m args below meth c s₁ B hml hv
  obtain ⟨rfl, hsz, hP, hK, hN, hZ, hD0⟩ := hv
  have hx := B.exec
  have hb := B.bytes
  have hr := B.returns
  have hts := atoms_spec (ws := wsX10_within) B.pre
  have hown : s.vm.findClass RX10 = some m.cls := findClass_of_methodNamed B.named
  have hlocks := B.notSynchronized
  subst hsz
  have hD := hD0.self (sz := s.heap.size)
  generalize hAe : va_A [] s.heap.size = A at hD hZ ⊢
  have hA : ∀ q : Nat, s.heap.size ≤ q → A q := fun q h => by rw [← hAe]; exact Or.inr h
  have hS : va_S A s.heap s.heap [] := va_S.rf
  have hl := lv_entry ([.int x1, .int x2, .int x3]) (n := 3) (Nat.le_of_ble_eq_true rfl)
  rw [lg_entry_eq]
  generalize (lg_sl ([.int x1, .int x2, .int x3]) ++ List.replicate (3 - (lg_sl ([.int x1, .int x2, .int x3])).length) Slot.unset).toArray = ls at hl ⊢
  have hl : lv_has ls 3 [(0, .int x1), (1, .int x2), (2, .int x3)] := hl
  unfold fX10_within at h
  refine lv_iload_n hx hb dX10_within_0 rfl (lv_at hl 0 rfl) ?_
  refine lv_iload_n hx hb dX10_within_1 rfl (lv_at hl 1 rfl) ?_
  refine lv_icmp_lt (tgt := 14) hx hb dX10_within_2 (by decide) (fun c1 => ?_) (fun c1 => ?_)
  · have h := zz_t h c1
    refine lv_iconst (v := (nI 0)) hx hb dX10_within_14 rfl ?_
    have j0_ := Option.some.inj h
    subst j0_
    exact W.zret (v := (nI 0)) hx hb hr rfl (fun t ht hW => ⟨⟨_, (), rfl, rfl, zPost.of hP hD hK ht hW [] rfl rfl rfl⟩, hS.F ht⟩) hS.2.2 dX10_within_15
  · have h := zz_f h c1
    refine lv_iload_n hx hb dX10_within_5 rfl (lv_at hl 0 rfl) ?_
    refine lv_iload_n hx hb dX10_within_6 rfl (lv_at hl 2 rfl) ?_
    refine lv_icmp_gt (tgt := 14) hx hb dX10_within_7 (by decide) (fun c2 => ?_) (fun c2 => ?_)
    · have h := zz_t h c2
      refine lv_iconst (v := (nI 0)) hx hb dX10_within_14 rfl ?_
      have j0_ := Option.some.inj h
      subst j0_
      exact W.zret (v := (nI 0)) hx hb hr rfl (fun t ht hW => ⟨⟨_, (), rfl, rfl, zPost.of hP hD hK ht hW [] rfl rfl rfl⟩, hS.F ht⟩) hS.2.2 dX10_within_15
    · have h := zz_f h c2
      refine lv_iconst (v := (nI 1)) hx hb dX10_within_10 rfl ?_
      refine lv_goto (tgt := 15) hx hb dX10_within_11 (by decide) ?_
      have j0_ := Option.some.inj h
      subst j0_
      exact W.zret (v := (nI 1)) hx hb hr rfl (fun t ht hW => ⟨⟨_, (), rfl, rfl, zPost.of hP hD hK ht hW [] rfl rfl rfl⟩, hS.F ht⟩) hS.2.2 dX10_within_15
/-! RunDesk$Guns.fire -/
theorem dX2_fire_0 : decode cX2_fire 0 = .ok (.iload_n 1, 1) := by decide +kernel
theorem dX2_fire_1 : decode cX2_fire 1 = .ok (.iconst 0, 1) := by decide +kernel
theorem dX2_fire_2 : decode cX2_fire 2 = .ok (.iconst 5, 1) := by decide +kernel
theorem dX2_fire_3 : decode cX2_fire 3 = .ok (.invokestatic 21, 3) := by decide +kernel
theorem dX2_fire_6 : decode cX2_fire 6 = .ok (.ifCond .ne 5, 3) := by decide +kernel
theorem dX2_fire_9 : decode cX2_fire 9 = .ok (.iconst 0, 1) := by decide +kernel
theorem dX2_fire_10 : decode cX2_fire 10 = .ok (.ireturn, 1) := by decide +kernel
theorem dX2_fire_11 : decode cX2_fire 11 = .ok (.aload_n 0, 1) := by decide +kernel
theorem dX2_fire_12 : decode cX2_fire 12 = .ok (.getfield 9, 3) := by decide +kernel
theorem dX2_fire_15 : decode cX2_fire 15 = .ok (.iload_n 1, 1) := by decide +kernel
theorem dX2_fire_16 : decode cX2_fire 16 = .ok (.iload_n 2, 1) := by decide +kernel
theorem dX2_fire_17 : decode cX2_fire 17 = .ok (.iastore, 1) := by decide +kernel
theorem dX2_fire_18 : decode cX2_fire 18 = .ok (.iconst 1, 1) := by decide +kernel
theorem dX2_fire_19 : decode cX2_fire 19 = .ok (.ireturn, 1) := by decide +kernel
set_option maxRecDepth 20000 in
theorem ggX2_fire_X10_within : GoodIn wsX2_fire wsX10_within := goodIn_sub (List.forall_mem_cons.mpr ⟨List.mem_cons_of_mem _ (List.mem_append_left _ (List.mem_of_getElem? (i := 3) rfl)), (fun _ h => nomatch h)⟩) (by decide +kernel)
set_option maxRecDepth 20000 in
theorem gX2_fire_X10_within_n21 : GoodIn wsX2_fire (wsX10_within) := ggX2_fire_X10_within
theorem kX2_fire_0 : (.initialized RX10 : Cond) ∈ wsX2_fire := List.mem_of_getElem? (i := 3) (by decide +kernel)
theorem kX2_fire_1 : (.static yX10_within : Cond) ∈ wsX2_fire := List.mem_of_getElem? (i := 2) (by decide +kernel)
theorem kX2_fire_2 : (.fieldLink RX2 9 "RunDesk$Guns" "ticks" "[I" : Cond) ∈ wsX2_fire := List.mem_of_getElem? (i := 1) (by decide +kernel)
theorem qX2_fire_X2 : ∀ w ∈ wsX20, w ∈ wsX2_fire := fun _ h => List.mem_cons_of_mem _ (List.mem_append_right _ (h))
set_option maxHeartbeats 4000000 in
set_option maxRecDepth 100000 in
theorem mX2_fire (l : Launch) (D : va_G) (cB cI cZ : ClassId) (a_t : Nat) (a_t_ticks : Nat) (t_ticks : Nat → Int32) (sz : Nat) (x1 : Int32) (x2 : Int32) (b0 : Bool) (t_ticks' : Nat → Int32) (h : fX2_fire t_ticks x1 x2 = some (b0, t_ticks')) : Met l yX2_fire wsX2_fire ({ frames := 1, cells := 0, slots := 0, locals := 22 } : Room) (va_Pc [.ref a_t, .int x1, .int x2] (zPre D (zT cB cI cZ) [(a_t, .inr (2, [.ref a_t_ticks])), (a_t_ticks, .inl (cI, 6, .inl t_ticks))] sz)) (zQi (zb b0) D (zT cB cI cZ) [(a_t, .inr (2, [.ref a_t_ticks])), (a_t_ticks, .inl (cI, 6, .inl t_ticks'))] (va_A [(a_t, .inr (2, [.ref a_t_ticks])), (a_t_ticks, .inl (cI, 6, .inl t_ticks))] sz)) 0 0 (va_A [(a_t, .inr (2, [.ref a_t_ticks])), (a_t_ticks, .inl (cI, 6, .inl t_ticks))] sz) := by
  refine Met.ofW (cc := cX2_fire) (maxL := 3) (ret := (some .boolean)) (by decide) rfl ?_
  intro p e s m args below meth c s₁ B hml hv
  obtain ⟨rfl, hsz, hP, hK, hN, hZ, hD0⟩ := hv
  have hx := B.exec
  have hb := B.bytes
  have hr := B.returns
  have hts := atoms_spec (ws := wsX2_fire) B.pre
  have hown : s.vm.findClass RX2 = some m.cls := findClass_of_methodNamed B.named
  have hlocks := B.notSynchronized
  subst hsz
  have hD := hD0.self (sz := s.heap.size)
  generalize hAe : va_A [(a_t, .inr (2, [.ref a_t_ticks])), (a_t_ticks, .inl (cI, 6, .inl t_ticks))] s.heap.size = A at hD hZ ⊢
  have hA : ∀ q : Nat, s.heap.size ≤ q → A q := fun q h => by rw [← hAe]; exact Or.inr h
  have hS : va_S A s.heap s.heap [] := va_S.rf
  have hl := lv_entry ([.ref a_t, .int x1, .int x2]) (n := 3) (Nat.le_of_ble_eq_true rfl)
  rw [lg_entry_eq]
  generalize (lg_sl ([.ref a_t, .int x1, .int x2]) ++ List.replicate (3 - (lg_sl ([.ref a_t, .int x1, .int x2])).length) Slot.unset).toArray = ls at hl ⊢
  have hl : lv_has ls 3 [(0, .ref a_t), (1, .int x1), (2, .int x2)] := hl
  unfold fX2_fire at h
  refine lv_iload_n hx hb dX2_fire_0 rfl (lv_at hl 1 rfl) ?_
  refine lv_iconst (v := (nI 0)) hx hb dX2_fire_1 rfl ?_
  refine lv_iconst (v := (nI 5)) hx hb dX2_fire_2 rfl ?_
  obtain ⟨b1, e2, h⟩ := zz_b h
  refine zNi (As := [.int x1, .int (nI 0), .int (nI 5)]) (rest := []) (host := "RunDesk") (wr := [(a_t, .inr (2, [.ref a_t_ticks])), (a_t_ticks, .inl (cI, 6, .inl t_ticks))]) [] [0, 1] ⟨hx, hb, hml, hown, hts⟩ (mX10_within l D cB cI cZ s.heap.size x1 (nI 0) (nI 5) b1 e2) ⟨va_cnB 3 hts gX2_fire_X10_within_n21 rfl rfl rfl (hN _ (List.mem_of_getElem? (i := 23) rfl)) (hts _ kX2_fire_0) (by decide +kernel) ⟨Nat.le_of_ble_eq_true rfl, Nat.le_of_ble_eq_true rfl⟩, (hts _ kX2_fire_1), trivial⟩ hK hN hZ hP hD hS hA rfl rfl rfl rfl rfl rfl hl.1 rfl (lv_room (Nat.le_of_ble_eq_true rfl)) dX2_fire_3 ⟨Nat.le_of_ble_eq_true rfl, Nat.le_of_ble_eq_true rfl⟩ (fun H locs hP hD hS => ?_)
  have hP : va_P D vwCl [(a_t, .inr (2, [.ref a_t_ticks])), (a_t_ticks, .inl (cI, 6, .inl t_ticks))] H := hP
  have hD : va_D A [(a_t, .inr (2, [.ref a_t_ticks])), (a_t_ticks, .inl (cI, 6, .inl t_ticks))] := hD
  refine lv_if_ne (tgt := 11) hx hb dX2_fire_6 (by decide) (fun c3 => ?_) (fun c3 => ?_)
  · have h := zz_f h c3
    refine lv_aload_n hx hb dX2_fire_11 rfl (lv_at hl 0 rfl) ?_
    refine va_get (D := D) (ci := 2) (C := RX2) (T := TX2) (N := 1) hx hb hts qX2_fire_X2 hown hK hP 0 rfl rfl 0 (by decide) (hts _ kX2_fire_2) (fun _ h9 => h9) rfl dX2_fire_12 ?_
    refine lv_iload_n hx hb dX2_fire_15 rfl (lv_at hl 1 rfl) ?_
    refine lv_iload_n hx hb dX2_fire_16 rfl (lv_at hl 2 rfl) ?_
    obtain ⟨i4, h⟩ := zz_i h
    refine va_iast hx hb hK hP hD hS 1 1 rfl rfl i4 dX2_fire_17 (fun H locs hP hD hS => ?_)
    have hP : va_P D vwCl [(a_t, .inr (2, [.ref a_t_ticks])), (a_t_ticks, .inl (cI, 6, .inl (upd t_ticks (x1).toNatClampNeg x2)))] H := hP
    have hD : va_D A [(a_t, .inr (2, [.ref a_t_ticks])), (a_t_ticks, .inl (cI, 6, .inl (upd t_ticks (x1).toNatClampNeg x2)))] := hD
    refine lv_iconst (v := (nI 1)) hx hb dX2_fire_18 rfl ?_
    obtain ⟨j0_, g_⟩ := Prod.mk.inj (Option.some.inj h)
    have j1_ := g_
    subst j0_
    subst j1_
    exact W.zret (v := (nI 1)) hx hb hr rfl (fun t ht hW => ⟨⟨_, (), rfl, rfl, zPost.of hP hD hK ht hW [0, 1] rfl rfl rfl⟩, hS.F ht⟩) hS.2.2 dX2_fire_19
  · have h := zz_t h c3
    refine lv_iconst (v := (nI 0)) hx hb dX2_fire_9 rfl ?_
    obtain ⟨j0_, g_⟩ := Prod.mk.inj (Option.some.inj h)
    have j1_ := g_
    subst j0_
    subst j1_
    exact W.zret (v := (nI 0)) hx hb hr rfl (fun t ht hW => ⟨⟨_, (), rfl, rfl, zPost.of hP hD hK ht hW [0, 1] rfl rfl rfl⟩, hS.F ht⟩) hS.2.2 dX2_fire_10
/-! RunDesk$Text.size -/
theorem dX7_size_0 : decode cX7_size 0 = .ok (.aload_n 0, 1) := by decide +kernel
theorem dX7_size_1 : decode cX7_size 1 = .ok (.getfield 15, 3) := by decide +kernel
theorem dX7_size_4 : decode cX7_size 4 = .ok (.ireturn, 1) := by decide +kernel
theorem kX7_size_0 : (.fieldLink RX7 15 "RunDesk$Text" "length" "I" : Cond) ∈ wsX7_size := List.mem_of_getElem? (i := 1) (by decide +kernel)
theorem qX7_size_X7 : ∀ w ∈ wsX70, w ∈ wsX7_size := fun _ h => List.mem_cons_of_mem _ (List.mem_append_right _ (h))
set_option maxHeartbeats 4000000 in
set_option maxRecDepth 100000 in
theorem mX7_size (l : Launch) (D : va_G) (cB cI cZ : ClassId) (a_t : Nat) (a_t_bytes : Nat) (t_length : Int32) (sz : Nat) (r0 : Int32) (h : fX7_size t_length = some (r0)) : Met l yX7_size wsX7_size ({ frames := 0, cells := 0, slots := 0, locals := 0 } : Room) (va_Pc [.ref a_t] (zPre D (zT cB cI cZ) [(a_t, .inr (7, [.ref a_t_bytes, .int t_length]))] sz)) (zQi r0 D (zT cB cI cZ) [(a_t, .inr (7, [.ref a_t_bytes, .int t_length]))] (va_A [(a_t, .inr (7, [.ref a_t_bytes, .int t_length]))] sz)) 0 0 (va_A [(a_t, .inr (7, [.ref a_t_bytes, .int t_length]))] sz) := by
  refine Met.ofW (cc := cX7_size) (maxL := 1) (ret := (some .int)) (by decide) rfl ?_
  intro p e s m args below meth c s₁ B hml hv
  obtain ⟨rfl, hsz, hP, hK, hN, hZ, hD0⟩ := hv
  have hx := B.exec
  have hb := B.bytes
  have hr := B.returns
  have hts := atoms_spec (ws := wsX7_size) B.pre
  have hown : s.vm.findClass RX7 = some m.cls := findClass_of_methodNamed B.named
  have hlocks := B.notSynchronized
  subst hsz
  have hD := hD0.self (sz := s.heap.size)
  generalize hAe : va_A [(a_t, .inr (7, [.ref a_t_bytes, .int t_length]))] s.heap.size = A at hD hZ ⊢
  have hA : ∀ q : Nat, s.heap.size ≤ q → A q := fun q h => by rw [← hAe]; exact Or.inr h
  have hS : va_S A s.heap s.heap [] := va_S.rf
  have hl := lv_entry ([.ref a_t]) (n := 1) (Nat.le_of_ble_eq_true rfl)
  rw [lg_entry_eq]
  generalize (lg_sl ([.ref a_t]) ++ List.replicate (1 - (lg_sl ([.ref a_t])).length) Slot.unset).toArray = ls at hl ⊢
  have hl : lv_has ls 1 [(0, .ref a_t)] := hl
  unfold fX7_size at h
  refine lv_aload_n hx hb dX7_size_0 rfl (lv_at hl 0 rfl) ?_
  refine va_get (D := D) (ci := 7) (C := RX7) (T := TX7) (N := 2) hx hb hts qX7_size_X7 hown hK hP 0 rfl rfl 1 (by decide) (hts _ kX7_size_0) (fun _ h9 => h9) rfl dX7_size_1 ?_
  have j0_ := Option.some.inj h
  subst j0_
  exact W.iret (v := t_length) hx hb hr (fun t ht hW => ⟨⟨_, (), rfl, rfl, zPost.of hP hD hK ht hW [0] rfl rfl rfl⟩, hS.F ht⟩) hS.2.2 dX7_size_4
/-! RunDesk$Text.byteAt -/
theorem dX7_byteAt_0 : decode cX7_byteAt 0 = .ok (.iload_n 1, 1) := by decide +kernel
theorem dX7_byteAt_1 : decode cX7_byteAt 1 = .ok (.ifCond .lt 27, 3) := by decide +kernel
theorem dX7_byteAt_4 : decode cX7_byteAt 4 = .ok (.iload_n 1, 1) := by decide +kernel
theorem dX7_byteAt_5 : decode cX7_byteAt 5 = .ok (.aload_n 0, 1) := by decide +kernel
theorem dX7_byteAt_6 : decode cX7_byteAt 6 = .ok (.getfield 15, 3) := by decide +kernel
theorem dX7_byteAt_9 : decode cX7_byteAt 9 = .ok (.if_icmp .ge 19, 3) := by decide +kernel
theorem dX7_byteAt_12 : decode cX7_byteAt 12 = .ok (.iload_n 1, 1) := by decide +kernel
theorem dX7_byteAt_13 : decode cX7_byteAt 13 = .ok (.sipush 200, 3) := by decide +kernel
theorem dX7_byteAt_16 : decode cX7_byteAt 16 = .ok (.if_icmp .ge 12, 3) := by decide +kernel
theorem dX7_byteAt_19 : decode cX7_byteAt 19 = .ok (.aload_n 0, 1) := by decide +kernel
theorem dX7_byteAt_20 : decode cX7_byteAt 20 = .ok (.getfield 9, 3) := by decide +kernel
theorem dX7_byteAt_23 : decode cX7_byteAt 23 = .ok (.iload_n 1, 1) := by decide +kernel
theorem dX7_byteAt_24 : decode cX7_byteAt 24 = .ok (.iaload, 1) := by decide +kernel
theorem dX7_byteAt_25 : decode cX7_byteAt 25 = .ok (.goto 4, 3) := by decide +kernel
theorem dX7_byteAt_28 : decode cX7_byteAt 28 = .ok (.iconst (-1), 1) := by decide +kernel
theorem dX7_byteAt_29 : decode cX7_byteAt 29 = .ok (.ireturn, 1) := by decide +kernel
theorem kX7_byteAt_0 : (.fieldLink RX7 15 "RunDesk$Text" "length" "I" : Cond) ∈ wsX7_byteAt := List.mem_of_getElem? (i := 1) (by decide +kernel)
theorem qX7_byteAt_X7 : ∀ w ∈ wsX70, w ∈ wsX7_byteAt := fun _ h => List.mem_cons_of_mem _ (List.mem_append_right _ (h))
theorem kX7_byteAt_2 : (.fieldLink RX7 9 "RunDesk$Text" "bytes" "[I" : Cond) ∈ wsX7_byteAt := List.mem_of_getElem? (i := 2) (by decide +kernel)
set_option maxHeartbeats 4000000 in
set_option maxRecDepth 100000 in
theorem mX7_byteAt (l : Launch) (D : va_G) (cB cI cZ : ClassId) (a_t : Nat) (a_t_bytes : Nat) (t_length : Int32) (t_bytes : Nat → Int32) (sz : Nat) (x1 : Int32) (r0 : Int32) (h : fX7_byteAt t_length t_bytes x1 = some (r0)) : Met l yX7_byteAt wsX7_byteAt ({ frames := 0, cells := 0, slots := 0, locals := 0 } : Room) (va_Pc [.ref a_t, .int x1] (zPre D (zT cB cI cZ) [(a_t, .inr (7, [.ref a_t_bytes, .int t_length])), (a_t_bytes, .inl (cI, 200, .inl t_bytes))] sz)) (zQi r0 D (zT cB cI cZ) [(a_t, .inr (7, [.ref a_t_bytes, .int t_length])), (a_t_bytes, .inl (cI, 200, .inl t_bytes))] (va_A [(a_t, .inr (7, [.ref a_t_bytes, .int t_length])), (a_t_bytes, .inl (cI, 200, .inl t_bytes))] sz)) 0 0 (va_A [(a_t, .inr (7, [.ref a_t_bytes, .int t_length])), (a_t_bytes, .inl (cI, 200, .inl t_bytes))] sz) := by
  refine Met.ofW (cc := cX7_byteAt) (maxL := 2) (ret := (some .int)) (by decide) rfl ?_
  intro p e s m args below meth c s₁ B hml hv
  obtain ⟨rfl, hsz, hP, hK, hN, hZ, hD0⟩ := hv
  have hx := B.exec
  have hb := B.bytes
  have hr := B.returns
  have hts := atoms_spec (ws := wsX7_byteAt) B.pre
  have hown : s.vm.findClass RX7 = some m.cls := findClass_of_methodNamed B.named
  have hlocks := B.notSynchronized
  subst hsz
  have hD := hD0.self (sz := s.heap.size)
  generalize hAe : va_A [(a_t, .inr (7, [.ref a_t_bytes, .int t_length])), (a_t_bytes, .inl (cI, 200, .inl t_bytes))] s.heap.size = A at hD hZ ⊢
  have hA : ∀ q : Nat, s.heap.size ≤ q → A q := fun q h => by rw [← hAe]; exact Or.inr h
  have hS : va_S A s.heap s.heap [] := va_S.rf
  have hl := lv_entry ([.ref a_t, .int x1]) (n := 2) (Nat.le_of_ble_eq_true rfl)
  rw [lg_entry_eq]
  generalize (lg_sl ([.ref a_t, .int x1]) ++ List.replicate (2 - (lg_sl ([.ref a_t, .int x1])).length) Slot.unset).toArray = ls at hl ⊢
  have hl : lv_has ls 2 [(0, .ref a_t), (1, .int x1)] := hl
  unfold fX7_byteAt at h
  refine lv_iload_n hx hb dX7_byteAt_0 rfl (lv_at hl 1 rfl) ?_
  refine lv_if_lt (tgt := 28) hx hb dX7_byteAt_1 (by decide) (fun c1 => ?_) (fun c1 => ?_)
  · have h := zz_t h c1
    refine lv_iconst (v := (-1 : Int32)) hx hb dX7_byteAt_28 rfl ?_
    have j0_ := Option.some.inj h
    subst j0_
    exact W.iret (v := (-1 : Int32)) hx hb hr (fun t ht hW => ⟨⟨_, (), rfl, rfl, zPost.of hP hD hK ht hW [0, 1] rfl rfl rfl⟩, hS.F ht⟩) hS.2.2 dX7_byteAt_29
  · have h := zz_f h c1
    refine lv_iload_n hx hb dX7_byteAt_4 rfl (lv_at hl 1 rfl) ?_
    refine lv_aload_n hx hb dX7_byteAt_5 rfl (lv_at hl 0 rfl) ?_
    refine va_get (D := D) (ci := 7) (C := RX7) (T := TX7) (N := 2) hx hb hts qX7_byteAt_X7 hown hK hP 0 rfl rfl 1 (by decide) (hts _ kX7_byteAt_0) (fun _ h9 => h9) rfl dX7_byteAt_6 ?_
    refine lv_icmp_ge (tgt := 28) hx hb dX7_byteAt_9 (by decide) (fun c2 => ?_) (fun c2 => ?_)
    · have h := zz_t h c2
      refine lv_iconst (v := (-1 : Int32)) hx hb dX7_byteAt_28 rfl ?_
      have j0_ := Option.some.inj h
      subst j0_
      exact W.iret (v := (-1 : Int32)) hx hb hr (fun t ht hW => ⟨⟨_, (), rfl, rfl, zPost.of hP hD hK ht hW [0, 1] rfl rfl rfl⟩, hS.F ht⟩) hS.2.2 dX7_byteAt_29
    · have h := zz_f h c2
      refine lv_iload_n hx hb dX7_byteAt_12 rfl (lv_at hl 1 rfl) ?_
      refine lv_sipush (v := (nI 200)) hx hb dX7_byteAt_13 rfl ?_
      refine lv_icmp_ge (tgt := 28) hx hb dX7_byteAt_16 (by decide) (fun c3 => ?_) (fun c3 => ?_)
      · have h := zz_t h c3
        refine lv_iconst (v := (-1 : Int32)) hx hb dX7_byteAt_28 rfl ?_
        have j0_ := Option.some.inj h
        subst j0_
        exact W.iret (v := (-1 : Int32)) hx hb hr (fun t ht hW => ⟨⟨_, (), rfl, rfl, zPost.of hP hD hK ht hW [0, 1] rfl rfl rfl⟩, hS.F ht⟩) hS.2.2 dX7_byteAt_29
      · have h := zz_f h c3
        refine lv_aload_n hx hb dX7_byteAt_19 rfl (lv_at hl 0 rfl) ?_
        refine va_get (D := D) (ci := 7) (C := RX7) (T := TX7) (N := 2) hx hb hts qX7_byteAt_X7 hown hK hP 0 rfl rfl 0 (by decide) (hts _ kX7_byteAt_2) (fun _ h9 => h9) rfl dX7_byteAt_20 ?_
        refine lv_iload_n hx hb dX7_byteAt_23 rfl (lv_at hl 1 rfl) ?_
        obtain ⟨i4, h⟩ := zz_i h
        refine va_iald hx hb hK hP 1 1 rfl rfl i4 dX7_byteAt_24 ?_
        refine lv_goto (tgt := 29) hx hb dX7_byteAt_25 (by decide) ?_
        have j0_ := Option.some.inj h
        subst j0_
        exact W.iret (v := (t_bytes (x1).toNatClampNeg)) hx hb hr (fun t ht hW => ⟨⟨_, (), rfl, rfl, zPost.of hP hD hK ht hW [0, 1] rfl rfl rfl⟩, hS.F ht⟩) hS.2.2 dX7_byteAt_29
/-! RunDesk$Reading.endNumber -/
theorem dX5_endNumber_0 : decode cX5_endNumber 0 = .ok (.aload_n 0, 1) := by decide +kernel
theorem dX5_endNumber_1 : decode cX5_endNumber 1 = .ok (.getfield 25, 3) := by decide +kernel
theorem dX5_endNumber_4 : decode cX5_endNumber 4 = .ok (.iconst 3, 1) := by decide +kernel
theorem dX5_endNumber_5 : decode cX5_endNumber 5 = .ok (.if_icmp .ne 11, 3) := by decide +kernel
theorem dX5_endNumber_8 : decode cX5_endNumber 8 = .ok (.aload_n 0, 1) := by decide +kernel
theorem dX5_endNumber_9 : decode cX5_endNumber 9 = .ok (.iconst 4, 1) := by decide +kernel
theorem dX5_endNumber_10 : decode cX5_endNumber 10 = .ok (.putfield 25, 3) := by decide +kernel
theorem dX5_endNumber_13 : decode cX5_endNumber 13 = .ok (.goto 18, 3) := by decide +kernel
theorem dX5_endNumber_16 : decode cX5_endNumber 16 = .ok (.aload_n 0, 1) := by decide +kernel
theorem dX5_endNumber_17 : decode cX5_endNumber 17 = .ok (.getfield 25, 3) := by decide +kernel
theorem dX5_endNumber_20 : decode cX5_endNumber 20 = .ok (.bipush 8, 2) := by decide +kernel
theorem dX5_endNumber_22 : decode cX5_endNumber 22 = .ok (.if_icmp .ne 9, 3) := by decide +kernel
theorem dX5_endNumber_25 : decode cX5_endNumber 25 = .ok (.aload_n 0, 1) := by decide +kernel
theorem dX5_endNumber_26 : decode cX5_endNumber 26 = .ok (.bipush 9, 2) := by decide +kernel
theorem dX5_endNumber_28 : decode cX5_endNumber 28 = .ok (.putfield 25, 3) := by decide +kernel
theorem dX5_endNumber_31 : decode cX5_endNumber 31 = .ok (.return_, 1) := by decide +kernel
theorem kX5_endNumber_0 : (.fieldLink RX5 25 "RunDesk$Reading" "stage" "I" : Cond) ∈ wsX5_endNumber := List.mem_of_getElem? (i := 1) (by decide +kernel)
theorem qX5_endNumber_X5 : ∀ w ∈ wsX50, w ∈ wsX5_endNumber := fun _ h => List.mem_cons_of_mem _ (List.mem_append_right _ (h))
set_option maxHeartbeats 4000000 in
set_option maxRecDepth 100000 in
theorem mX5_endNumber (l : Launch) (D : va_G) (cB cI cZ : ClassId) (a_t : Nat) (a_t_parts : Nat) (a_t_signs : Nat) (a_t_numbers : Nat) (t_laid : Int32) (t_stage : Int32) (t_open : Int32) (t_digits : Int32) (t_order : Int32) (t_prizes : Int32) (sz : Nat) (t_stage' : Int32) (h : fX5_endNumber t_stage = some (t_stage')) : Met l yX5_endNumber wsX5_endNumber ({ frames := 0, cells := 0, slots := 0, locals := 0 } : Room) (va_Pc [.ref a_t] (zPre D (zT cB cI cZ) [(a_t, .inr (5, [.ref a_t_parts, .ref a_t_signs, .ref a_t_numbers, .int t_laid, .int t_stage, .int t_open, .int t_digits, .int t_order, .int t_prizes]))] sz)) (zQv D (zT cB cI cZ) [(a_t, .inr (5, [.ref a_t_parts, .ref a_t_signs, .ref a_t_numbers, .int t_laid, .int t_stage', .int t_open, .int t_digits, .int t_order, .int t_prizes]))] (va_A [(a_t, .inr (5, [.ref a_t_parts, .ref a_t_signs, .ref a_t_numbers, .int t_laid, .int t_stage, .int t_open, .int t_digits, .int t_order, .int t_prizes]))] sz)) 0 0 (va_A [(a_t, .inr (5, [.ref a_t_parts, .ref a_t_signs, .ref a_t_numbers, .int t_laid, .int t_stage, .int t_open, .int t_digits, .int t_order, .int t_prizes]))] sz) := by
  refine Met.ofW (cc := cX5_endNumber) (maxL := 1) (ret := none) (by decide) rfl ?_
  intro p e s m args below meth c s₁ B hml hv
  obtain ⟨rfl, hsz, hP, hK, hN, hZ, hD0⟩ := hv
  have hx := B.exec
  have hb := B.bytes
  have hr := B.returns
  have hts := atoms_spec (ws := wsX5_endNumber) B.pre
  have hown : s.vm.findClass RX5 = some m.cls := findClass_of_methodNamed B.named
  have hlocks := B.notSynchronized
  subst hsz
  have hD := hD0.self (sz := s.heap.size)
  generalize hAe : va_A [(a_t, .inr (5, [.ref a_t_parts, .ref a_t_signs, .ref a_t_numbers, .int t_laid, .int t_stage, .int t_open, .int t_digits, .int t_order, .int t_prizes]))] s.heap.size = A at hD hZ ⊢
  have hA : ∀ q : Nat, s.heap.size ≤ q → A q := fun q h => by rw [← hAe]; exact Or.inr h
  have hS : va_S A s.heap s.heap [] := va_S.rf
  have hl := lv_entry ([.ref a_t]) (n := 1) (Nat.le_of_ble_eq_true rfl)
  rw [lg_entry_eq]
  generalize (lg_sl ([.ref a_t]) ++ List.replicate (1 - (lg_sl ([.ref a_t])).length) Slot.unset).toArray = ls at hl ⊢
  have hl : lv_has ls 1 [(0, .ref a_t)] := hl
  unfold fX5_endNumber at h
  refine lv_aload_n hx hb dX5_endNumber_0 rfl (lv_at hl 0 rfl) ?_
  refine va_get (D := D) (ci := 5) (C := RX5) (T := TX5) (N := 9) hx hb hts qX5_endNumber_X5 hown hK hP 0 rfl rfl 4 (by decide) (hts _ kX5_endNumber_0) (fun _ h9 => h9) rfl dX5_endNumber_1 ?_
  refine lv_iconst (v := (nI 3)) hx hb dX5_endNumber_4 rfl ?_
  refine lv_icmp_ne (tgt := 16) hx hb dX5_endNumber_5 (by decide) (fun c1 => ?_) (fun c1 => ?_)
  · have h := zz_f h c1
    refine lv_aload_n hx hb dX5_endNumber_16 rfl (lv_at hl 0 rfl) ?_
    refine va_get (D := D) (ci := 5) (C := RX5) (T := TX5) (N := 9) hx hb hts qX5_endNumber_X5 hown hK hP 0 rfl rfl 4 (by decide) (hts _ kX5_endNumber_0) (fun _ h9 => h9) rfl dX5_endNumber_17 ?_
    refine lv_bipush (v := (nI 8)) hx hb dX5_endNumber_20 rfl ?_
    refine lv_icmp_ne (tgt := 31) hx hb dX5_endNumber_22 (by decide) (fun c2 => ?_) (fun c2 => ?_)
    · have h := zz_f h c2
      have j0_ := Option.some.inj h
      subst j0_
      exact W.vret hx hb hr (fun t ht hW => ⟨⟨(), rfl, trivial, zPost.of hP hD hK ht hW [0] rfl rfl rfl⟩, hS.F ht⟩) hS.2.2 dX5_endNumber_31
    · have h := zz_t h c2
      refine lv_aload_n hx hb dX5_endNumber_25 rfl (lv_at hl 0 rfl) ?_
      refine lv_bipush (v := (nI 9)) hx hb dX5_endNumber_26 rfl ?_
      refine va_put (D := D) (ci := 5) (ty := .int) (C := RX5) (T := TX5) (N := 9) hx hb hts qX5_endNumber_X5 tyX5 tyX5_ok nmX5 hown hK hP hD hS 0 rfl rfl 4 (by decide) (hts _ kX5_endNumber_0) (fun _ h9 => h9) rfl (by decide +kernel) rfl (by first | rfl | exact zz_fit) (Nat.le_of_ble_eq_true rfl) dX5_endNumber_28 (fun H locs hP hD hS => ?_)
      have hP : va_P D vwCl [(a_t, .inr (5, [.ref a_t_parts, .ref a_t_signs, .ref a_t_numbers, .int t_laid, .int (nI 9), .int t_open, .int t_digits, .int t_order, .int t_prizes]))] H := hP
      have hD : va_D A [(a_t, .inr (5, [.ref a_t_parts, .ref a_t_signs, .ref a_t_numbers, .int t_laid, .int (nI 9), .int t_open, .int t_digits, .int t_order, .int t_prizes]))] := hD
      have j0_ := Option.some.inj h
      subst j0_
      exact W.vret hx hb hr (fun t ht hW => ⟨⟨(), rfl, trivial, zPost.of hP hD hK ht hW [0] rfl rfl rfl⟩, hS.F ht⟩) hS.2.2 dX5_endNumber_31
  · have h := zz_t h c1
    refine lv_aload_n hx hb dX5_endNumber_8 rfl (lv_at hl 0 rfl) ?_
    refine lv_iconst (v := (nI 4)) hx hb dX5_endNumber_9 rfl ?_
    refine va_put (D := D) (ci := 5) (ty := .int) (C := RX5) (T := TX5) (N := 9) hx hb hts qX5_endNumber_X5 tyX5 tyX5_ok nmX5 hown hK hP hD hS 0 rfl rfl 4 (by decide) (hts _ kX5_endNumber_0) (fun _ h9 => h9) rfl (by decide +kernel) rfl (by first | rfl | exact zz_fit) (Nat.le_of_ble_eq_true rfl) dX5_endNumber_10 (fun H locs hP hD hS => ?_)
    have hP : va_P D vwCl [(a_t, .inr (5, [.ref a_t_parts, .ref a_t_signs, .ref a_t_numbers, .int t_laid, .int (nI 4), .int t_open, .int t_digits, .int t_order, .int t_prizes]))] H := hP
    have hD : va_D A [(a_t, .inr (5, [.ref a_t_parts, .ref a_t_signs, .ref a_t_numbers, .int t_laid, .int (nI 4), .int t_open, .int t_digits, .int t_order, .int t_prizes]))] := hD
    refine lv_goto (tgt := 31) hx hb dX5_endNumber_13 (by decide) ?_
    have j0_ := Option.some.inj h
    subst j0_
    exact W.vret hx hb hr (fun t ht hW => ⟨⟨(), rfl, trivial, zPost.of hP hD hK ht hW [0] rfl rfl rfl⟩, hS.F ht⟩) hS.2.2 dX5_endNumber_31
/-! RunDesk$Reading.lay -/
theorem dX5_lay_0 : decode cX5_lay 0 = .ok (.aload_n 0, 1) := by decide +kernel
theorem dX5_lay_1 : decode cX5_lay 1 = .ok (.getfield 21, 3) := by decide +kernel
theorem dX5_lay_4 : decode cX5_lay 4 = .ok (.iconst 0, 1) := by decide +kernel
theorem dX5_lay_5 : decode cX5_lay 5 = .ok (.sipush 199, 3) := by decide +kernel
theorem dX5_lay_8 : decode cX5_lay 8 = .ok (.invokestatic 85, 3) := by decide +kernel
theorem dX5_lay_11 : decode cX5_lay 11 = .ok (.ifCond .eq 43, 3) := by decide +kernel
theorem dX5_lay_14 : decode cX5_lay 14 = .ok (.aload_n 0, 1) := by decide +kernel
theorem dX5_lay_15 : decode cX5_lay 15 = .ok (.getfield 9, 3) := by decide +kernel
theorem dX5_lay_18 : decode cX5_lay 18 = .ok (.aload_n 0, 1) := by decide +kernel
theorem dX5_lay_19 : decode cX5_lay 19 = .ok (.getfield 21, 3) := by decide +kernel
theorem dX5_lay_22 : decode cX5_lay 22 = .ok (.iload_n 1, 1) := by decide +kernel
theorem dX5_lay_23 : decode cX5_lay 23 = .ok (.iastore, 1) := by decide +kernel
theorem dX5_lay_24 : decode cX5_lay 24 = .ok (.aload_n 0, 1) := by decide +kernel
theorem dX5_lay_25 : decode cX5_lay 25 = .ok (.getfield 15, 3) := by decide +kernel
theorem dX5_lay_28 : decode cX5_lay 28 = .ok (.aload_n 0, 1) := by decide +kernel
theorem dX5_lay_29 : decode cX5_lay 29 = .ok (.getfield 21, 3) := by decide +kernel
theorem dX5_lay_32 : decode cX5_lay 32 = .ok (.iconst (-1), 1) := by decide +kernel
theorem dX5_lay_33 : decode cX5_lay 33 = .ok (.iastore, 1) := by decide +kernel
theorem dX5_lay_34 : decode cX5_lay 34 = .ok (.aload_n 0, 1) := by decide +kernel
theorem dX5_lay_35 : decode cX5_lay 35 = .ok (.getfield 18, 3) := by decide +kernel
theorem dX5_lay_38 : decode cX5_lay 38 = .ok (.aload_n 0, 1) := by decide +kernel
theorem dX5_lay_39 : decode cX5_lay 39 = .ok (.getfield 21, 3) := by decide +kernel
theorem dX5_lay_42 : decode cX5_lay 42 = .ok (.iconst 0, 1) := by decide +kernel
theorem dX5_lay_43 : decode cX5_lay 43 = .ok (.iastore, 1) := by decide +kernel
theorem dX5_lay_44 : decode cX5_lay 44 = .ok (.aload_n 0, 1) := by decide +kernel
theorem dX5_lay_45 : decode cX5_lay 45 = .ok (.dup, 1) := by decide +kernel
theorem dX5_lay_46 : decode cX5_lay 46 = .ok (.getfield 21, 3) := by decide +kernel
theorem dX5_lay_49 : decode cX5_lay 49 = .ok (.iconst 1, 1) := by decide +kernel
theorem dX5_lay_50 : decode cX5_lay 50 = .ok (.iadd, 1) := by decide +kernel
theorem dX5_lay_51 : decode cX5_lay 51 = .ok (.putfield 21, 3) := by decide +kernel
theorem dX5_lay_54 : decode cX5_lay 54 = .ok (.return_, 1) := by decide +kernel
set_option maxRecDepth 20000 in
theorem ggX5_lay_X10_within : GoodIn wsX5_lay wsX10_within := goodIn_sub (List.forall_mem_cons.mpr ⟨List.mem_cons_of_mem _ (List.mem_append_left _ (List.mem_of_getElem? (i := 6) rfl)), (fun _ h => nomatch h)⟩) (by decide +kernel)
set_option maxRecDepth 20000 in
theorem gX5_lay_X10_within_n85 : GoodIn wsX5_lay (wsX10_within) := ggX5_lay_X10_within
theorem kX5_lay_0 : (.fieldLink RX5 21 "RunDesk$Reading" "laid" "I" : Cond) ∈ wsX5_lay := List.mem_of_getElem? (i := 1) (by decide +kernel)
theorem qX5_lay_X5 : ∀ w ∈ wsX50, w ∈ wsX5_lay := fun _ h => List.mem_cons_of_mem _ (List.mem_append_right _ (h))
theorem kX5_lay_2 : (.initialized RX10 : Cond) ∈ wsX5_lay := List.mem_of_getElem? (i := 6) (by decide +kernel)
theorem kX5_lay_3 : (.static yX10_within : Cond) ∈ wsX5_lay := List.mem_of_getElem? (i := 5) (by decide +kernel)
theorem kX5_lay_4 : (.fieldLink RX5 9 "RunDesk$Reading" "parts" "[I" : Cond) ∈ wsX5_lay := List.mem_of_getElem? (i := 2) (by decide +kernel)
theorem kX5_lay_5 : (.fieldLink RX5 15 "RunDesk$Reading" "signs" "[I" : Cond) ∈ wsX5_lay := List.mem_of_getElem? (i := 3) (by decide +kernel)
theorem kX5_lay_6 : (.fieldLink RX5 18 "RunDesk$Reading" "numbers" "[I" : Cond) ∈ wsX5_lay := List.mem_of_getElem? (i := 4) (by decide +kernel)
set_option maxHeartbeats 4000000 in
set_option maxRecDepth 100000 in
theorem mX5_lay (l : Launch) (D : va_G) (cB cI cZ : ClassId) (a_t : Nat) (a_t_parts : Nat) (a_t_signs : Nat) (a_t_numbers : Nat) (t_laid : Int32) (t_stage : Int32) (t_open : Int32) (t_digits : Int32) (t_order : Int32) (t_prizes : Int32) (t_numbers : Nat → Int32) (t_parts : Nat → Int32) (t_signs : Nat → Int32) (sz : Nat) (x1 : Int32) (t_laid' : Int32) (t_numbers' : Nat → Int32) (t_parts' : Nat → Int32) (t_signs' : Nat → Int32) (h : fX5_lay t_laid t_numbers t_parts t_signs x1 = some (t_laid', t_numbers', t_parts', t_signs')) : Met l yX5_lay wsX5_lay ({ frames := 1, cells := 0, slots := 0, locals := 22 } : Room) (va_Pc [.ref a_t, .int x1] (zPre D (zT cB cI cZ) [(a_t, .inr (5, [.ref a_t_parts, .ref a_t_signs, .ref a_t_numbers, .int t_laid, .int t_stage, .int t_open, .int t_digits, .int t_order, .int t_prizes])), (a_t_numbers, .inl (cI, 200, .inl t_numbers)), (a_t_parts, .inl (cI, 200, .inl t_parts)), (a_t_signs, .inl (cI, 200, .inl t_signs))] sz)) (zQv D (zT cB cI cZ) [(a_t, .inr (5, [.ref a_t_parts, .ref a_t_signs, .ref a_t_numbers, .int t_laid', .int t_stage, .int t_open, .int t_digits, .int t_order, .int t_prizes])), (a_t_numbers, .inl (cI, 200, .inl t_numbers')), (a_t_parts, .inl (cI, 200, .inl t_parts')), (a_t_signs, .inl (cI, 200, .inl t_signs'))] (va_A [(a_t, .inr (5, [.ref a_t_parts, .ref a_t_signs, .ref a_t_numbers, .int t_laid, .int t_stage, .int t_open, .int t_digits, .int t_order, .int t_prizes])), (a_t_numbers, .inl (cI, 200, .inl t_numbers)), (a_t_parts, .inl (cI, 200, .inl t_parts)), (a_t_signs, .inl (cI, 200, .inl t_signs))] sz)) 0 0 (va_A [(a_t, .inr (5, [.ref a_t_parts, .ref a_t_signs, .ref a_t_numbers, .int t_laid, .int t_stage, .int t_open, .int t_digits, .int t_order, .int t_prizes])), (a_t_numbers, .inl (cI, 200, .inl t_numbers)), (a_t_parts, .inl (cI, 200, .inl t_parts)), (a_t_signs, .inl (cI, 200, .inl t_signs))] sz) := by
  refine Met.ofW (cc := cX5_lay) (maxL := 2) (ret := none) (by decide) rfl ?_
  intro p e s m args below meth c s₁ B hml hv
  obtain ⟨rfl, hsz, hP, hK, hN, hZ, hD0⟩ := hv
  have hx := B.exec
  have hb := B.bytes
  have hr := B.returns
  have hts := atoms_spec (ws := wsX5_lay) B.pre
  have hown : s.vm.findClass RX5 = some m.cls := findClass_of_methodNamed B.named
  have hlocks := B.notSynchronized
  subst hsz
  have hD := hD0.self (sz := s.heap.size)
  generalize hAe : va_A [(a_t, .inr (5, [.ref a_t_parts, .ref a_t_signs, .ref a_t_numbers, .int t_laid, .int t_stage, .int t_open, .int t_digits, .int t_order, .int t_prizes])), (a_t_numbers, .inl (cI, 200, .inl t_numbers)), (a_t_parts, .inl (cI, 200, .inl t_parts)), (a_t_signs, .inl (cI, 200, .inl t_signs))] s.heap.size = A at hD hZ ⊢
  have hA : ∀ q : Nat, s.heap.size ≤ q → A q := fun q h => by rw [← hAe]; exact Or.inr h
  have hS : va_S A s.heap s.heap [] := va_S.rf
  have hl := lv_entry ([.ref a_t, .int x1]) (n := 2) (Nat.le_of_ble_eq_true rfl)
  rw [lg_entry_eq]
  generalize (lg_sl ([.ref a_t, .int x1]) ++ List.replicate (2 - (lg_sl ([.ref a_t, .int x1])).length) Slot.unset).toArray = ls at hl ⊢
  have hl : lv_has ls 2 [(0, .ref a_t), (1, .int x1)] := hl
  unfold fX5_lay at h
  refine lv_aload_n hx hb dX5_lay_0 rfl (lv_at hl 0 rfl) ?_
  refine va_get (D := D) (ci := 5) (C := RX5) (T := TX5) (N := 9) hx hb hts qX5_lay_X5 hown hK hP 0 rfl rfl 3 (by decide) (hts _ kX5_lay_0) (fun _ h9 => h9) rfl dX5_lay_1 ?_
  refine lv_iconst (v := (nI 0)) hx hb dX5_lay_4 rfl ?_
  refine lv_sipush (v := (nI 199)) hx hb dX5_lay_5 rfl ?_
  obtain ⟨b1, e2, h⟩ := zz_b h
  refine zNi (As := [.int t_laid, .int (nI 0), .int (nI 199)]) (rest := []) (host := "RunDesk") (wr := [(a_t, .inr (5, [.ref a_t_parts, .ref a_t_signs, .ref a_t_numbers, .int t_laid, .int t_stage, .int t_open, .int t_digits, .int t_order, .int t_prizes])), (a_t_numbers, .inl (cI, 200, .inl t_numbers)), (a_t_parts, .inl (cI, 200, .inl t_parts)), (a_t_signs, .inl (cI, 200, .inl t_signs))]) [] [0, 1, 2, 3] ⟨hx, hb, hml, hown, hts⟩ (mX10_within l D cB cI cZ s.heap.size t_laid (nI 0) (nI 199) b1 e2) ⟨va_cnB 3 hts gX5_lay_X10_within_n85 rfl rfl rfl (hN _ (List.mem_of_getElem? (i := 33) rfl)) (hts _ kX5_lay_2) (by decide +kernel) ⟨Nat.le_of_ble_eq_true rfl, Nat.le_of_ble_eq_true rfl⟩, (hts _ kX5_lay_3), trivial⟩ hK hN hZ hP hD hS hA rfl rfl rfl rfl rfl rfl hl.1 rfl (lv_room (Nat.le_of_ble_eq_true rfl)) dX5_lay_8 ⟨Nat.le_of_ble_eq_true rfl, Nat.le_of_ble_eq_true rfl⟩ (fun H locs hP hD hS => ?_)
  have hP : va_P D vwCl [(a_t, .inr (5, [.ref a_t_parts, .ref a_t_signs, .ref a_t_numbers, .int t_laid, .int t_stage, .int t_open, .int t_digits, .int t_order, .int t_prizes])), (a_t_numbers, .inl (cI, 200, .inl t_numbers)), (a_t_parts, .inl (cI, 200, .inl t_parts)), (a_t_signs, .inl (cI, 200, .inl t_signs))] H := hP
  have hD : va_D A [(a_t, .inr (5, [.ref a_t_parts, .ref a_t_signs, .ref a_t_numbers, .int t_laid, .int t_stage, .int t_open, .int t_digits, .int t_order, .int t_prizes])), (a_t_numbers, .inl (cI, 200, .inl t_numbers)), (a_t_parts, .inl (cI, 200, .inl t_parts)), (a_t_signs, .inl (cI, 200, .inl t_signs))] := hD
  refine lv_if_eq (tgt := 54) hx hb dX5_lay_11 (by decide) (fun c3 => ?_) (fun c3 => ?_)
  · have h := zz_t h c3
    obtain ⟨j0_, g_⟩ := Prod.mk.inj (Option.some.inj h)
    obtain ⟨j1_, g_⟩ := Prod.mk.inj g_
    obtain ⟨j2_, g_⟩ := Prod.mk.inj g_
    have j3_ := g_
    subst j0_
    subst j1_
    subst j2_
    subst j3_
    exact W.vret hx hb hr (fun t ht hW => ⟨⟨(), rfl, trivial, zPost.of hP hD hK ht hW [0, 1, 2, 3] rfl rfl rfl⟩, hS.F ht⟩) hS.2.2 dX5_lay_54
  · have h := zz_f h c3
    refine lv_aload_n hx hb dX5_lay_14 rfl (lv_at hl 0 rfl) ?_
    refine va_get (D := D) (ci := 5) (C := RX5) (T := TX5) (N := 9) hx hb hts qX5_lay_X5 hown hK hP 0 rfl rfl 0 (by decide) (hts _ kX5_lay_4) (fun _ h9 => h9) rfl dX5_lay_15 ?_
    refine lv_aload_n hx hb dX5_lay_18 rfl (lv_at hl 0 rfl) ?_
    refine va_get (D := D) (ci := 5) (C := RX5) (T := TX5) (N := 9) hx hb hts qX5_lay_X5 hown hK hP 0 rfl rfl 3 (by decide) (hts _ kX5_lay_0) (fun _ h9 => h9) rfl dX5_lay_19 ?_
    refine lv_iload_n hx hb dX5_lay_22 rfl (lv_at hl 1 rfl) ?_
    obtain ⟨i4, h⟩ := zz_i h
    refine va_iast hx hb hK hP hD hS 2 1 rfl rfl i4 dX5_lay_23 (fun H locs hP hD hS => ?_)
    have hP : va_P D vwCl [(a_t, .inr (5, [.ref a_t_parts, .ref a_t_signs, .ref a_t_numbers, .int t_laid, .int t_stage, .int t_open, .int t_digits, .int t_order, .int t_prizes])), (a_t_numbers, .inl (cI, 200, .inl t_numbers)), (a_t_parts, .inl (cI, 200, .inl (upd t_parts (t_laid).toNatClampNeg x1))), (a_t_signs, .inl (cI, 200, .inl t_signs))] H := hP
    have hD : va_D A [(a_t, .inr (5, [.ref a_t_parts, .ref a_t_signs, .ref a_t_numbers, .int t_laid, .int t_stage, .int t_open, .int t_digits, .int t_order, .int t_prizes])), (a_t_numbers, .inl (cI, 200, .inl t_numbers)), (a_t_parts, .inl (cI, 200, .inl (upd t_parts (t_laid).toNatClampNeg x1))), (a_t_signs, .inl (cI, 200, .inl t_signs))] := hD
    refine lv_aload_n hx hb dX5_lay_24 rfl (lv_at hl 0 rfl) ?_
    refine va_get (D := D) (ci := 5) (C := RX5) (T := TX5) (N := 9) hx hb hts qX5_lay_X5 hown hK hP 0 rfl rfl 1 (by decide) (hts _ kX5_lay_5) (fun _ h9 => h9) rfl dX5_lay_25 ?_
    refine lv_aload_n hx hb dX5_lay_28 rfl (lv_at hl 0 rfl) ?_
    refine va_get (D := D) (ci := 5) (C := RX5) (T := TX5) (N := 9) hx hb hts qX5_lay_X5 hown hK hP 0 rfl rfl 3 (by decide) (hts _ kX5_lay_0) (fun _ h9 => h9) rfl dX5_lay_29 ?_
    refine lv_iconst (v := (-1 : Int32)) hx hb dX5_lay_32 rfl ?_
    obtain ⟨i5, h⟩ := zz_i h
    refine va_iast hx hb hK hP hD hS 3 1 rfl rfl i5 dX5_lay_33 (fun H locs hP hD hS => ?_)
    have hP : va_P D vwCl [(a_t, .inr (5, [.ref a_t_parts, .ref a_t_signs, .ref a_t_numbers, .int t_laid, .int t_stage, .int t_open, .int t_digits, .int t_order, .int t_prizes])), (a_t_numbers, .inl (cI, 200, .inl t_numbers)), (a_t_parts, .inl (cI, 200, .inl (upd t_parts (t_laid).toNatClampNeg x1))), (a_t_signs, .inl (cI, 200, .inl (upd t_signs (t_laid).toNatClampNeg (-1 : Int32))))] H := hP
    have hD : va_D A [(a_t, .inr (5, [.ref a_t_parts, .ref a_t_signs, .ref a_t_numbers, .int t_laid, .int t_stage, .int t_open, .int t_digits, .int t_order, .int t_prizes])), (a_t_numbers, .inl (cI, 200, .inl t_numbers)), (a_t_parts, .inl (cI, 200, .inl (upd t_parts (t_laid).toNatClampNeg x1))), (a_t_signs, .inl (cI, 200, .inl (upd t_signs (t_laid).toNatClampNeg (-1 : Int32))))] := hD
    refine lv_aload_n hx hb dX5_lay_34 rfl (lv_at hl 0 rfl) ?_
    refine va_get (D := D) (ci := 5) (C := RX5) (T := TX5) (N := 9) hx hb hts qX5_lay_X5 hown hK hP 0 rfl rfl 2 (by decide) (hts _ kX5_lay_6) (fun _ h9 => h9) rfl dX5_lay_35 ?_
    refine lv_aload_n hx hb dX5_lay_38 rfl (lv_at hl 0 rfl) ?_
    refine va_get (D := D) (ci := 5) (C := RX5) (T := TX5) (N := 9) hx hb hts qX5_lay_X5 hown hK hP 0 rfl rfl 3 (by decide) (hts _ kX5_lay_0) (fun _ h9 => h9) rfl dX5_lay_39 ?_
    refine lv_iconst (v := (nI 0)) hx hb dX5_lay_42 rfl ?_
    obtain ⟨i6, h⟩ := zz_i h
    refine va_iast hx hb hK hP hD hS 1 1 rfl rfl i6 dX5_lay_43 (fun H locs hP hD hS => ?_)
    have hP : va_P D vwCl [(a_t, .inr (5, [.ref a_t_parts, .ref a_t_signs, .ref a_t_numbers, .int t_laid, .int t_stage, .int t_open, .int t_digits, .int t_order, .int t_prizes])), (a_t_numbers, .inl (cI, 200, .inl (upd t_numbers (t_laid).toNatClampNeg (nI 0)))), (a_t_parts, .inl (cI, 200, .inl (upd t_parts (t_laid).toNatClampNeg x1))), (a_t_signs, .inl (cI, 200, .inl (upd t_signs (t_laid).toNatClampNeg (-1 : Int32))))] H := hP
    have hD : va_D A [(a_t, .inr (5, [.ref a_t_parts, .ref a_t_signs, .ref a_t_numbers, .int t_laid, .int t_stage, .int t_open, .int t_digits, .int t_order, .int t_prizes])), (a_t_numbers, .inl (cI, 200, .inl (upd t_numbers (t_laid).toNatClampNeg (nI 0)))), (a_t_parts, .inl (cI, 200, .inl (upd t_parts (t_laid).toNatClampNeg x1))), (a_t_signs, .inl (cI, 200, .inl (upd t_signs (t_laid).toNatClampNeg (-1 : Int32))))] := hD
    refine lv_aload_n hx hb dX5_lay_44 rfl (lv_at hl 0 rfl) ?_
    refine lv_dup hx hb dX5_lay_45 rfl ?_
    refine va_get (D := D) (ci := 5) (C := RX5) (T := TX5) (N := 9) hx hb hts qX5_lay_X5 hown hK hP 0 rfl rfl 3 (by decide) (hts _ kX5_lay_0) (fun _ h9 => h9) rfl dX5_lay_46 ?_
    refine lv_iconst (v := (nI 1)) hx hb dX5_lay_49 rfl ?_
    refine lv_iadd hx hb dX5_lay_50 ?_
    refine va_put (D := D) (ci := 5) (ty := .int) (C := RX5) (T := TX5) (N := 9) hx hb hts qX5_lay_X5 tyX5 tyX5_ok nmX5 hown hK hP hD hS 0 rfl rfl 3 (by decide) (hts _ kX5_lay_0) (fun _ h9 => h9) rfl (by decide +kernel) rfl (by first | rfl | exact zz_fit) (Nat.le_of_ble_eq_true rfl) dX5_lay_51 (fun H locs hP hD hS => ?_)
    have hP : va_P D vwCl [(a_t, .inr (5, [.ref a_t_parts, .ref a_t_signs, .ref a_t_numbers, .int (t_laid + (nI 1)), .int t_stage, .int t_open, .int t_digits, .int t_order, .int t_prizes])), (a_t_numbers, .inl (cI, 200, .inl (upd t_numbers (t_laid).toNatClampNeg (nI 0)))), (a_t_parts, .inl (cI, 200, .inl (upd t_parts (t_laid).toNatClampNeg x1))), (a_t_signs, .inl (cI, 200, .inl (upd t_signs (t_laid).toNatClampNeg (-1 : Int32))))] H := hP
    have hD : va_D A [(a_t, .inr (5, [.ref a_t_parts, .ref a_t_signs, .ref a_t_numbers, .int (t_laid + (nI 1)), .int t_stage, .int t_open, .int t_digits, .int t_order, .int t_prizes])), (a_t_numbers, .inl (cI, 200, .inl (upd t_numbers (t_laid).toNatClampNeg (nI 0)))), (a_t_parts, .inl (cI, 200, .inl (upd t_parts (t_laid).toNatClampNeg x1))), (a_t_signs, .inl (cI, 200, .inl (upd t_signs (t_laid).toNatClampNeg (-1 : Int32))))] := hD
    obtain ⟨j0_, g_⟩ := Prod.mk.inj (Option.some.inj h)
    obtain ⟨j1_, g_⟩ := Prod.mk.inj g_
    obtain ⟨j2_, g_⟩ := Prod.mk.inj g_
    have j3_ := g_
    subst j0_
    subst j1_
    subst j2_
    subst j3_
    exact W.vret hx hb hr (fun t ht hW => ⟨⟨(), rfl, trivial, zPost.of hP hD hK ht hW [0, 1, 2, 3] rfl rfl rfl⟩, hS.F ht⟩) hS.2.2 dX5_lay_54
/-! RunDesk$Reading.factNamed -/
theorem dX5_factNamed_0 : decode cX5_factNamed 0 = .ok (.iload_n 0, 1) := by decide +kernel
theorem dX5_factNamed_1 : decode cX5_factNamed 1 = .ok (.tableswitch 85 107 121 #[83, 85, 85, 85, 85, 81, 85, 85, 75, 79, 85, 85, 85, 85, 77], 75) := by decide +kernel
theorem dX5_factNamed_76 : decode cX5_factNamed 76 = .ok (.iconst 3, 1) := by decide +kernel
theorem dX5_factNamed_77 : decode cX5_factNamed 77 = .ok (.ireturn, 1) := by decide +kernel
theorem dX5_factNamed_78 : decode cX5_factNamed 78 = .ok (.iconst 2, 1) := by decide +kernel
theorem dX5_factNamed_79 : decode cX5_factNamed 79 = .ok (.ireturn, 1) := by decide +kernel
theorem dX5_factNamed_80 : decode cX5_factNamed 80 = .ok (.iconst 4, 1) := by decide +kernel
theorem dX5_factNamed_81 : decode cX5_factNamed 81 = .ok (.ireturn, 1) := by decide +kernel
theorem dX5_factNamed_82 : decode cX5_factNamed 82 = .ok (.iconst 5, 1) := by decide +kernel
theorem dX5_factNamed_83 : decode cX5_factNamed 83 = .ok (.ireturn, 1) := by decide +kernel
theorem dX5_factNamed_84 : decode cX5_factNamed 84 = .ok (.iconst 0, 1) := by decide +kernel
theorem dX5_factNamed_85 : decode cX5_factNamed 85 = .ok (.ireturn, 1) := by decide +kernel
theorem dX5_factNamed_86 : decode cX5_factNamed 86 = .ok (.iconst (-1), 1) := by decide +kernel
theorem dX5_factNamed_87 : decode cX5_factNamed 87 = .ok (.ireturn, 1) := by decide +kernel
set_option maxHeartbeats 4000000 in
set_option maxRecDepth 100000 in
theorem mX5_factNamed (l : Launch) (D : va_G) (cB cI cZ : ClassId) (sz : Nat) (x1 : Int32) (r0 : Int32) (h : fX5_factNamed x1 = some (r0)) : Met l yX5_factNamed wsX5_factNamed ({ frames := 0, cells := 0, slots := 0, locals := 0 } : Room) (va_Pc [.int x1] (zPre D (zT cB cI cZ) [] sz)) (zQi r0 D (zT cB cI cZ) [] (va_A [] sz)) 0 0 (va_A [] sz) := by
  refine Met.ofW (cc := cX5_factNamed) (maxL := 1) (ret := (some .int)) (by decide) rfl ?_
  intro p e s m args below meth c s₁ B hml hv
  obtain ⟨rfl, hsz, hP, hK, hN, hZ, hD0⟩ := hv
  have hx := B.exec
  have hb := B.bytes
  have hr := B.returns
  have hts := atoms_spec (ws := wsX5_factNamed) B.pre
  have hown : s.vm.findClass RX5 = some m.cls := findClass_of_methodNamed B.named
  have hlocks := B.notSynchronized
  subst hsz
  have hD := hD0.self (sz := s.heap.size)
  generalize hAe : va_A [] s.heap.size = A at hD hZ ⊢
  have hA : ∀ q : Nat, s.heap.size ≤ q → A q := fun q h => by rw [← hAe]; exact Or.inr h
  have hS : va_S A s.heap s.heap [] := va_S.rf
  have hl := lv_entry ([.int x1]) (n := 1) (Nat.le_of_ble_eq_true rfl)
  rw [lg_entry_eq]
  generalize (lg_sl ([.int x1]) ++ List.replicate (1 - (lg_sl ([.int x1])).length) Slot.unset).toArray = ls at hl ⊢
  have hl : lv_has ls 1 [(0, .int x1)] := hl
  unfold fX5_factNamed at h
  refine lv_iload_n hx hb dX5_factNamed_0 rfl (lv_at hl 0 rfl) ?_
  by_cases c1 : x1 = (nI 107)
  · have h := zz_t h c1
    refine lv_tableIn (off := 83) (tgt := 84) hx hb dX5_factNamed_1 (by rw [c1]; decide) (by rw [c1]; decide) (by rw [c1]; rfl) (by decide) ?_
    refine lv_iconst (v := (nI 0)) hx hb dX5_factNamed_84 rfl ?_
    have j0_ := Option.some.inj h
    subst j0_
    exact W.iret (v := (nI 0)) hx hb hr (fun t ht hW => ⟨⟨_, (), rfl, rfl, zPost.of hP hD hK ht hW [] rfl rfl rfl⟩, hS.F ht⟩) hS.2.2 dX5_factNamed_85
  · have h := zz_f h c1
    by_cases c2 : x1 = (nI 112)
    · have h := zz_t h c2
      refine lv_tableIn (off := 81) (tgt := 82) hx hb dX5_factNamed_1 (by rw [c2]; decide) (by rw [c2]; decide) (by rw [c2]; rfl) (by decide) ?_
      refine lv_iconst (v := (nI 5)) hx hb dX5_factNamed_82 rfl ?_
      have j0_ := Option.some.inj h
      subst j0_
      exact W.iret (v := (nI 5)) hx hb hr (fun t ht hW => ⟨⟨_, (), rfl, rfl, zPost.of hP hD hK ht hW [] rfl rfl rfl⟩, hS.F ht⟩) hS.2.2 dX5_factNamed_83
    · have h := zz_f h c2
      by_cases c3 : x1 = (nI 115)
      · have h := zz_t h c3
        refine lv_tableIn (off := 75) (tgt := 76) hx hb dX5_factNamed_1 (by rw [c3]; decide) (by rw [c3]; decide) (by rw [c3]; rfl) (by decide) ?_
        refine lv_iconst (v := (nI 3)) hx hb dX5_factNamed_76 rfl ?_
        have j0_ := Option.some.inj h
        subst j0_
        exact W.iret (v := (nI 3)) hx hb hr (fun t ht hW => ⟨⟨_, (), rfl, rfl, zPost.of hP hD hK ht hW [] rfl rfl rfl⟩, hS.F ht⟩) hS.2.2 dX5_factNamed_77
      · have h := zz_f h c3
        by_cases c4 : x1 = (nI 116)
        · have h := zz_t h c4
          refine lv_tableIn (off := 79) (tgt := 80) hx hb dX5_factNamed_1 (by rw [c4]; decide) (by rw [c4]; decide) (by rw [c4]; rfl) (by decide) ?_
          refine lv_iconst (v := (nI 4)) hx hb dX5_factNamed_80 rfl ?_
          have j0_ := Option.some.inj h
          subst j0_
          exact W.iret (v := (nI 4)) hx hb hr (fun t ht hW => ⟨⟨_, (), rfl, rfl, zPost.of hP hD hK ht hW [] rfl rfl rfl⟩, hS.F ht⟩) hS.2.2 dX5_factNamed_81
        · have h := zz_f h c4
          by_cases c5 : x1 = (nI 121)
          · have h := zz_t h c5
            refine lv_tableIn (off := 77) (tgt := 78) hx hb dX5_factNamed_1 (by rw [c5]; decide) (by rw [c5]; decide) (by rw [c5]; rfl) (by decide) ?_
            refine lv_iconst (v := (nI 2)) hx hb dX5_factNamed_78 rfl ?_
            have j0_ := Option.some.inj h
            subst j0_
            exact W.iret (v := (nI 2)) hx hb hr (fun t ht hW => ⟨⟨_, (), rfl, rfl, zPost.of hP hD hK ht hW [] rfl rfl rfl⟩, hS.F ht⟩) hS.2.2 dX5_factNamed_79
          · have h := zz_f h c5
            refine zz_tab (tgt := 86) hx hb dX5_factNamed_1 (by have n0_ := lv_neT c1 (a := 107) rfl; have n1_ := lv_neT c2 (a := 112) rfl; have n2_ := lv_neT c3 (a := 115) rfl; have n3_ := lv_neT c4 (a := 116) rfl; have n4_ := lv_neT c5 (a := 121) rfl; rcases Classical.em (x1.toInt < (107 : Int) ∨ (121 : Int) < x1.toInt) with q_ | q_; exact Or.inl q_; refine Or.inr ⟨by omega, by omega, ?_⟩; have q9_ : (x1.toInt - (107 : Int)).toNat = 1 ∨ (x1.toInt - (107 : Int)).toNat = 2 ∨ (x1.toInt - (107 : Int)).toNat = 3 ∨ (x1.toInt - (107 : Int)).toNat = 4 ∨ (x1.toInt - (107 : Int)).toNat = 6 ∨ (x1.toInt - (107 : Int)).toNat = 7 ∨ (x1.toInt - (107 : Int)).toNat = 10 ∨ (x1.toInt - (107 : Int)).toNat = 11 ∨ (x1.toInt - (107 : Int)).toNat = 12 ∨ (x1.toInt - (107 : Int)).toNat = 13 := (by omega); rcases q9_ with q_ | q_ | q_ | q_ | q_ | q_ | q_ | q_ | q_ | q_ <;> first | (rw [q_]; done) | (rw [q_]; rfl)) (by decide) ?_
            refine lv_iconst (v := (-1 : Int32)) hx hb dX5_factNamed_86 rfl ?_
            have j0_ := Option.some.inj h
            subst j0_
            exact W.iret (v := (-1 : Int32)) hx hb hr (fun t ht hW => ⟨⟨_, (), rfl, rfl, zPost.of hP hD hK ht hW [] rfl rfl rfl⟩, hS.F ht⟩) hS.2.2 dX5_factNamed_87
/-! RunDesk$Reading.takeUnit -/
theorem dX5_takeUnit_0 : decode cX5_takeUnit 0 = .ok (.iload_n 1, 1) := by decide +kernel
theorem dX5_takeUnit_1 : decode cX5_takeUnit 1 = .ok (.bipush 40, 2) := by decide +kernel
theorem dX5_takeUnit_3 : decode cX5_takeUnit 3 = .ok (.if_icmp .ne 33, 3) := by decide +kernel
theorem dX5_takeUnit_6 : decode cX5_takeUnit 6 = .ok (.aload_n 0, 1) := by decide +kernel
theorem dX5_takeUnit_7 : decode cX5_takeUnit 7 = .ok (.dup, 1) := by decide +kernel
theorem dX5_takeUnit_8 : decode cX5_takeUnit 8 = .ok (.getfield 28, 3) := by decide +kernel
theorem dX5_takeUnit_11 : decode cX5_takeUnit 11 = .ok (.iconst 1, 1) := by decide +kernel
theorem dX5_takeUnit_12 : decode cX5_takeUnit 12 = .ok (.iadd, 1) := by decide +kernel
theorem dX5_takeUnit_13 : decode cX5_takeUnit 13 = .ok (.putfield 28, 3) := by decide +kernel
theorem dX5_takeUnit_16 : decode cX5_takeUnit 16 = .ok (.aload_n 0, 1) := by decide +kernel
theorem dX5_takeUnit_17 : decode cX5_takeUnit 17 = .ok (.iload_n 1, 1) := by decide +kernel
theorem dX5_takeUnit_18 : decode cX5_takeUnit 18 = .ok (.invokevirtual 78, 3) := by decide +kernel
theorem dX5_takeUnit_21 : decode cX5_takeUnit 21 = .ok (.aload_n 0, 1) := by decide +kernel
theorem dX5_takeUnit_22 : decode cX5_takeUnit 22 = .ok (.getfield 28, 3) := by decide +kernel
theorem dX5_takeUnit_25 : decode cX5_takeUnit 25 = .ok (.bipush 8, 2) := by decide +kernel
theorem dX5_takeUnit_27 : decode cX5_takeUnit 27 = .ok (.if_icmp .gt 7, 3) := by decide +kernel
theorem dX5_takeUnit_30 : decode cX5_takeUnit 30 = .ok (.iconst 1, 1) := by decide +kernel
theorem dX5_takeUnit_31 : decode cX5_takeUnit 31 = .ok (.goto 4, 3) := by decide +kernel
theorem dX5_takeUnit_34 : decode cX5_takeUnit 34 = .ok (.iconst 0, 1) := by decide +kernel
theorem dX5_takeUnit_35 : decode cX5_takeUnit 35 = .ok (.ireturn, 1) := by decide +kernel
theorem dX5_takeUnit_36 : decode cX5_takeUnit 36 = .ok (.aload_n 0, 1) := by decide +kernel
theorem dX5_takeUnit_37 : decode cX5_takeUnit 37 = .ok (.iconst 1, 1) := by decide +kernel
theorem dX5_takeUnit_38 : decode cX5_takeUnit 38 = .ok (.putfield 25, 3) := by decide +kernel
theorem dX5_takeUnit_41 : decode cX5_takeUnit 41 = .ok (.aload_n 0, 1) := by decide +kernel
theorem dX5_takeUnit_42 : decode cX5_takeUnit 42 = .ok (.iload_n 1, 1) := by decide +kernel
theorem dX5_takeUnit_43 : decode cX5_takeUnit 43 = .ok (.invokevirtual 78, 3) := by decide +kernel
theorem dX5_takeUnit_46 : decode cX5_takeUnit 46 = .ok (.iload_n 1, 1) := by decide +kernel
theorem dX5_takeUnit_47 : decode cX5_takeUnit 47 = .ok (.invokestatic 82, 3) := by decide +kernel
theorem dX5_takeUnit_50 : decode cX5_takeUnit 50 = .ok (.iconst (-1), 1) := by decide +kernel
theorem dX5_takeUnit_51 : decode cX5_takeUnit 51 = .ok (.if_icmp .eq 7, 3) := by decide +kernel
theorem dX5_takeUnit_54 : decode cX5_takeUnit 54 = .ok (.iconst 1, 1) := by decide +kernel
theorem dX5_takeUnit_55 : decode cX5_takeUnit 55 = .ok (.goto 4, 3) := by decide +kernel
theorem dX5_takeUnit_58 : decode cX5_takeUnit 58 = .ok (.iconst 0, 1) := by decide +kernel
theorem dX5_takeUnit_59 : decode cX5_takeUnit 59 = .ok (.ireturn, 1) := by decide +kernel
set_option maxRecDepth 20000 in
theorem ggX5_takeUnit_X5_lay : GoodIn wsX5_takeUnit wsX5_lay := goodIn_sub (List.forall_mem_cons.mpr ⟨List.mem_cons_of_mem _ (List.mem_append_left _ (List.mem_of_getElem? (i := 6) rfl)), (List.forall_mem_append.mpr ⟨(List.forall_mem_cons.mpr ⟨List.mem_cons_of_mem _ (List.mem_append_left _ (List.mem_of_getElem? (i := 7) rfl)), (List.forall_mem_cons.mpr ⟨List.mem_cons_of_mem _ (List.mem_append_left _ (List.mem_of_getElem? (i := 8) rfl)), (List.forall_mem_cons.mpr ⟨List.mem_cons_of_mem _ (List.mem_append_left _ (List.mem_of_getElem? (i := 9) rfl)), (List.forall_mem_cons.mpr ⟨List.mem_cons_of_mem _ (List.mem_append_left _ (List.mem_of_getElem? (i := 10) rfl)), (List.forall_mem_cons.mpr ⟨List.mem_cons_of_mem _ (List.mem_append_left _ (List.mem_of_getElem? (i := 11) rfl)), (List.forall_mem_cons.mpr ⟨List.mem_cons_of_mem _ (List.mem_append_left _ (List.mem_of_getElem? (i := 12) rfl)), (List.forall_mem_cons.mpr ⟨List.mem_cons_of_mem _ (List.mem_append_left _ (List.mem_of_getElem? (i := 13) rfl)), (fun _ h => nomatch h)⟩)⟩)⟩)⟩)⟩)⟩)⟩), (fun _ h => List.mem_cons_of_mem _ (List.mem_append_right _ (h)))⟩)⟩) (by decide +kernel)
set_option maxRecDepth 20000 in
theorem gX5_takeUnit_X5_lay : GoodIn wsX5_takeUnit (wsV RX5 78 RX5 yX5_lay wsX5_lay) := goodIn_app (goodIn_of _ (by decide +kernel)) ggX5_takeUnit_X5_lay
set_option maxRecDepth 20000 in
theorem ggX5_takeUnit_X5_factNamed : GoodIn wsX5_takeUnit wsX5_factNamed := goodIn_sub (List.forall_mem_cons.mpr ⟨List.mem_cons_of_mem _ (List.mem_append_left _ (List.mem_of_getElem? (i := 16) rfl)), (fun _ h => nomatch h)⟩) (by decide +kernel)
set_option maxRecDepth 20000 in
theorem gX5_takeUnit_X5_factNamed : GoodIn wsX5_takeUnit (va_wsS RX5 82 yX5_factNamed wsX5_factNamed) := goodIn_app (goodIn_of _ (by decide +kernel)) ggX5_takeUnit_X5_factNamed
theorem kX5_takeUnit_0 : (.fieldLink RX5 25 "RunDesk$Reading" "stage" "I" : Cond) ∈ wsX5_takeUnit := List.mem_of_getElem? (i := 2) (by decide +kernel)
theorem qX5_takeUnit_X5 : ∀ w ∈ wsX50, w ∈ wsX5_takeUnit := fun _ h => List.mem_cons_of_mem _ (List.mem_append_right _ (h))
theorem kX5_takeUnit_2 : (.fieldLink RX5 28 "RunDesk$Reading" "open" "I" : Cond) ∈ wsX5_takeUnit := List.mem_of_getElem? (i := 1) (by decide +kernel)
set_option maxHeartbeats 4000000 in
set_option maxRecDepth 100000 in
theorem mX5_takeUnit (l : Launch) (D : va_G) (cB cI cZ : ClassId) (a_t : Nat) (a_t_parts : Nat) (a_t_signs : Nat) (a_t_numbers : Nat) (t_laid : Int32) (t_stage : Int32) (t_open : Int32) (t_digits : Int32) (t_order : Int32) (t_prizes : Int32) (t_numbers : Nat → Int32) (t_parts : Nat → Int32) (t_signs : Nat → Int32) (sz : Nat) (x1 : Int32) (b0 : Bool) (t_laid' : Int32) (t_open' : Int32) (t_stage' : Int32) (t_numbers' : Nat → Int32) (t_parts' : Nat → Int32) (t_signs' : Nat → Int32) (h : fX5_takeUnit t_laid t_open t_stage t_numbers t_parts t_signs x1 = some (b0, t_laid', t_open', t_stage', t_numbers', t_parts', t_signs')) : Met l yX5_takeUnit wsX5_takeUnit ({ frames := 2, cells := 0, slots := 0, locals := 43 } : Room) (va_Pc [.ref a_t, .int x1] (zPre D (zT cB cI cZ) [(a_t, .inr (5, [.ref a_t_parts, .ref a_t_signs, .ref a_t_numbers, .int t_laid, .int t_stage, .int t_open, .int t_digits, .int t_order, .int t_prizes])), (a_t_numbers, .inl (cI, 200, .inl t_numbers)), (a_t_parts, .inl (cI, 200, .inl t_parts)), (a_t_signs, .inl (cI, 200, .inl t_signs))] sz)) (zQi (zb b0) D (zT cB cI cZ) [(a_t, .inr (5, [.ref a_t_parts, .ref a_t_signs, .ref a_t_numbers, .int t_laid', .int t_stage', .int t_open', .int t_digits, .int t_order, .int t_prizes])), (a_t_numbers, .inl (cI, 200, .inl t_numbers')), (a_t_parts, .inl (cI, 200, .inl t_parts')), (a_t_signs, .inl (cI, 200, .inl t_signs'))] (va_A [(a_t, .inr (5, [.ref a_t_parts, .ref a_t_signs, .ref a_t_numbers, .int t_laid, .int t_stage, .int t_open, .int t_digits, .int t_order, .int t_prizes])), (a_t_numbers, .inl (cI, 200, .inl t_numbers)), (a_t_parts, .inl (cI, 200, .inl t_parts)), (a_t_signs, .inl (cI, 200, .inl t_signs))] sz)) 0 0 (va_A [(a_t, .inr (5, [.ref a_t_parts, .ref a_t_signs, .ref a_t_numbers, .int t_laid, .int t_stage, .int t_open, .int t_digits, .int t_order, .int t_prizes])), (a_t_numbers, .inl (cI, 200, .inl t_numbers)), (a_t_parts, .inl (cI, 200, .inl t_parts)), (a_t_signs, .inl (cI, 200, .inl t_signs))] sz) := by
  refine Met.ofW (cc := cX5_takeUnit) (maxL := 2) (ret := (some .boolean)) (by decide) rfl ?_
  intro p e s m args below meth c s₁ B hml hv
  obtain ⟨rfl, hsz, hP, hK, hN, hZ, hD0⟩ := hv
  have hx := B.exec
  have hb := B.bytes
  have hr := B.returns
  have hts := atoms_spec (ws := wsX5_takeUnit) B.pre
  have hown : s.vm.findClass RX5 = some m.cls := findClass_of_methodNamed B.named
  have hlocks := B.notSynchronized
  subst hsz
  have hD := hD0.self (sz := s.heap.size)
  generalize hAe : va_A [(a_t, .inr (5, [.ref a_t_parts, .ref a_t_signs, .ref a_t_numbers, .int t_laid, .int t_stage, .int t_open, .int t_digits, .int t_order, .int t_prizes])), (a_t_numbers, .inl (cI, 200, .inl t_numbers)), (a_t_parts, .inl (cI, 200, .inl t_parts)), (a_t_signs, .inl (cI, 200, .inl t_signs))] s.heap.size = A at hD hZ ⊢
  have hA : ∀ q : Nat, s.heap.size ≤ q → A q := fun q h => by rw [← hAe]; exact Or.inr h
  have hS : va_S A s.heap s.heap [] := va_S.rf
  have hl := lv_entry ([.ref a_t, .int x1]) (n := 2) (Nat.le_of_ble_eq_true rfl)
  rw [lg_entry_eq]
  generalize (lg_sl ([.ref a_t, .int x1]) ++ List.replicate (2 - (lg_sl ([.ref a_t, .int x1])).length) Slot.unset).toArray = ls at hl ⊢
  have hl : lv_has ls 2 [(0, .ref a_t), (1, .int x1)] := hl
  unfold fX5_takeUnit at h
  refine lv_iload_n hx hb dX5_takeUnit_0 rfl (lv_at hl 1 rfl) ?_
  refine lv_bipush (v := (nI 40)) hx hb dX5_takeUnit_1 rfl ?_
  refine lv_icmp_ne (tgt := 36) hx hb dX5_takeUnit_3 (by decide) (fun c1 => ?_) (fun c1 => ?_)
  · have h := zz_f h c1
    refine lv_aload_n hx hb dX5_takeUnit_36 rfl (lv_at hl 0 rfl) ?_
    refine lv_iconst (v := (nI 1)) hx hb dX5_takeUnit_37 rfl ?_
    refine va_put (D := D) (ci := 5) (ty := .int) (C := RX5) (T := TX5) (N := 9) hx hb hts qX5_takeUnit_X5 tyX5 tyX5_ok nmX5 hown hK hP hD hS 0 rfl rfl 4 (by decide) (hts _ kX5_takeUnit_0) (fun _ h9 => h9) rfl (by decide +kernel) rfl (by first | rfl | exact zz_fit) (Nat.le_of_ble_eq_true rfl) dX5_takeUnit_38 (fun H locs hP hD hS => ?_)
    have hP : va_P D vwCl [(a_t, .inr (5, [.ref a_t_parts, .ref a_t_signs, .ref a_t_numbers, .int t_laid, .int (nI 1), .int t_open, .int t_digits, .int t_order, .int t_prizes])), (a_t_numbers, .inl (cI, 200, .inl t_numbers)), (a_t_parts, .inl (cI, 200, .inl t_parts)), (a_t_signs, .inl (cI, 200, .inl t_signs))] H := hP
    have hD : va_D A [(a_t, .inr (5, [.ref a_t_parts, .ref a_t_signs, .ref a_t_numbers, .int t_laid, .int (nI 1), .int t_open, .int t_digits, .int t_order, .int t_prizes])), (a_t_numbers, .inl (cI, 200, .inl t_numbers)), (a_t_parts, .inl (cI, 200, .inl t_parts)), (a_t_signs, .inl (cI, 200, .inl t_signs))] := hD
    refine lv_aload_n hx hb dX5_takeUnit_41 rfl (lv_at hl 0 rfl) ?_
    refine lv_iload_n hx hb dX5_takeUnit_42 rfl (lv_at hl 1 rfl) ?_
    obtain ⟨⟨t_laid_r2, t_numbers_r3, t_parts_r4, t_signs_r5⟩, e6, h⟩ := zz_b h
    dsimp only at h
    refine zVv (As := [.int x1]) (rest := []) (C := RX5) (wr := []) [0, 1, 2, 3] [] 0 ⟨hx, hb, hml, hown, hts⟩ (mX5_lay l D cB cI cZ a_t a_t_parts a_t_signs a_t_numbers t_laid (nI 1) t_open t_digits t_order t_prizes t_numbers t_parts t_signs H.size x1 t_laid_r2 t_numbers_r3 t_parts_r4 t_signs_r5 e6) (cwV 1 hts gX5_takeUnit_X5_lay rfl rfl rfl (by decide +kernel) ⟨Nat.le_of_ble_eq_true rfl, Nat.le_of_ble_eq_true rfl⟩) hK hN hZ hP hD hS hA rfl rfl rfl rfl rfl rfl rfl rfl hl.1 rfl (lv_room (Nat.le_of_ble_eq_true rfl)) dX5_takeUnit_43 ⟨Nat.le_of_ble_eq_true rfl, Nat.le_of_ble_eq_true rfl⟩ (fun H locs hP hD hS => ?_)
    have hP : va_P D vwCl [(a_t, .inr (5, [.ref a_t_parts, .ref a_t_signs, .ref a_t_numbers, .int t_laid_r2, .int (nI 1), .int t_open, .int t_digits, .int t_order, .int t_prizes])), (a_t_numbers, .inl (cI, 200, .inl t_numbers_r3)), (a_t_parts, .inl (cI, 200, .inl t_parts_r4)), (a_t_signs, .inl (cI, 200, .inl t_signs_r5))] H := hP
    have hD : va_D A [(a_t, .inr (5, [.ref a_t_parts, .ref a_t_signs, .ref a_t_numbers, .int t_laid_r2, .int (nI 1), .int t_open, .int t_digits, .int t_order, .int t_prizes])), (a_t_numbers, .inl (cI, 200, .inl t_numbers_r3)), (a_t_parts, .inl (cI, 200, .inl t_parts_r4)), (a_t_signs, .inl (cI, 200, .inl t_signs_r5))] := hD
    refine lv_iload_n hx hb dX5_takeUnit_46 rfl (lv_at hl 1 rfl) ?_
    obtain ⟨r7, e8, h⟩ := zz_b h
    refine zSi (As := [.int x1]) (rest := []) (wr := [(a_t, .inr (5, [.ref a_t_parts, .ref a_t_signs, .ref a_t_numbers, .int t_laid_r2, .int (nI 1), .int t_open, .int t_digits, .int t_order, .int t_prizes])), (a_t_numbers, .inl (cI, 200, .inl t_numbers_r3)), (a_t_parts, .inl (cI, 200, .inl t_parts_r4)), (a_t_signs, .inl (cI, 200, .inl t_signs_r5))]) [] [0, 1, 2, 3] ⟨hx, hb, hml, hown, hts⟩ (mX5_factNamed l D cB cI cZ H.size x1 r7 e8) (va_cwS 1 hts gX5_takeUnit_X5_factNamed rfl rfl rfl (by decide +kernel) ⟨Nat.le_of_ble_eq_true rfl, Nat.le_of_ble_eq_true rfl⟩) hK hN hZ hP hD hS hA rfl rfl rfl rfl rfl rfl hl.1 rfl (lv_room (Nat.le_of_ble_eq_true rfl)) dX5_takeUnit_47 ⟨Nat.le_of_ble_eq_true rfl, Nat.le_of_ble_eq_true rfl⟩ (fun H locs hP hD hS => ?_)
    have hP : va_P D vwCl [(a_t, .inr (5, [.ref a_t_parts, .ref a_t_signs, .ref a_t_numbers, .int t_laid_r2, .int (nI 1), .int t_open, .int t_digits, .int t_order, .int t_prizes])), (a_t_numbers, .inl (cI, 200, .inl t_numbers_r3)), (a_t_parts, .inl (cI, 200, .inl t_parts_r4)), (a_t_signs, .inl (cI, 200, .inl t_signs_r5))] H := hP
    have hD : va_D A [(a_t, .inr (5, [.ref a_t_parts, .ref a_t_signs, .ref a_t_numbers, .int t_laid_r2, .int (nI 1), .int t_open, .int t_digits, .int t_order, .int t_prizes])), (a_t_numbers, .inl (cI, 200, .inl t_numbers_r3)), (a_t_parts, .inl (cI, 200, .inl t_parts_r4)), (a_t_signs, .inl (cI, 200, .inl t_signs_r5))] := hD
    refine lv_iconst (v := (-1 : Int32)) hx hb dX5_takeUnit_50 rfl ?_
    refine lv_icmp_eq (tgt := 58) hx hb dX5_takeUnit_51 (by decide) (fun c9 => ?_) (fun c9 => ?_)
    · have h := zz_t h c9
      refine lv_iconst (v := (nI 0)) hx hb dX5_takeUnit_58 rfl ?_
      obtain ⟨j0_, g_⟩ := Prod.mk.inj (Option.some.inj h)
      obtain ⟨j1_, g_⟩ := Prod.mk.inj g_
      obtain ⟨j2_, g_⟩ := Prod.mk.inj g_
      obtain ⟨j3_, g_⟩ := Prod.mk.inj g_
      obtain ⟨j4_, g_⟩ := Prod.mk.inj g_
      obtain ⟨j5_, g_⟩ := Prod.mk.inj g_
      have j6_ := g_
      subst j0_
      subst j1_
      subst j2_
      subst j3_
      subst j4_
      subst j5_
      subst j6_
      exact W.zret (v := (nI 0)) hx hb hr rfl (fun t ht hW => ⟨⟨_, (), rfl, rfl, zPost.of hP hD hK ht hW [0, 1, 2, 3] rfl rfl rfl⟩, hS.F ht⟩) hS.2.2 dX5_takeUnit_59
    · have h := zz_f h c9
      refine lv_iconst (v := (nI 1)) hx hb dX5_takeUnit_54 rfl ?_
      refine lv_goto (tgt := 59) hx hb dX5_takeUnit_55 (by decide) ?_
      obtain ⟨j0_, g_⟩ := Prod.mk.inj (Option.some.inj h)
      obtain ⟨j1_, g_⟩ := Prod.mk.inj g_
      obtain ⟨j2_, g_⟩ := Prod.mk.inj g_
      obtain ⟨j3_, g_⟩ := Prod.mk.inj g_
      obtain ⟨j4_, g_⟩ := Prod.mk.inj g_
      obtain ⟨j5_, g_⟩ := Prod.mk.inj g_
      have j6_ := g_
      subst j0_
      subst j1_
      subst j2_
      subst j3_
      subst j4_
      subst j5_
      subst j6_
      exact W.zret (v := (nI 1)) hx hb hr rfl (fun t ht hW => ⟨⟨_, (), rfl, rfl, zPost.of hP hD hK ht hW [0, 1, 2, 3] rfl rfl rfl⟩, hS.F ht⟩) hS.2.2 dX5_takeUnit_59
  · have h := zz_t h c1
    refine lv_aload_n hx hb dX5_takeUnit_6 rfl (lv_at hl 0 rfl) ?_
    refine lv_dup hx hb dX5_takeUnit_7 rfl ?_
    refine va_get (D := D) (ci := 5) (C := RX5) (T := TX5) (N := 9) hx hb hts qX5_takeUnit_X5 hown hK hP 0 rfl rfl 5 (by decide) (hts _ kX5_takeUnit_2) (fun _ h9 => h9) rfl dX5_takeUnit_8 ?_
    refine lv_iconst (v := (nI 1)) hx hb dX5_takeUnit_11 rfl ?_
    refine lv_iadd hx hb dX5_takeUnit_12 ?_
    refine va_put (D := D) (ci := 5) (ty := .int) (C := RX5) (T := TX5) (N := 9) hx hb hts qX5_takeUnit_X5 tyX5 tyX5_ok nmX5 hown hK hP hD hS 0 rfl rfl 5 (by decide) (hts _ kX5_takeUnit_2) (fun _ h9 => h9) rfl (by decide +kernel) rfl (by first | rfl | exact zz_fit) (Nat.le_of_ble_eq_true rfl) dX5_takeUnit_13 (fun H locs hP hD hS => ?_)
    have hP : va_P D vwCl [(a_t, .inr (5, [.ref a_t_parts, .ref a_t_signs, .ref a_t_numbers, .int t_laid, .int t_stage, .int (t_open + (nI 1)), .int t_digits, .int t_order, .int t_prizes])), (a_t_numbers, .inl (cI, 200, .inl t_numbers)), (a_t_parts, .inl (cI, 200, .inl t_parts)), (a_t_signs, .inl (cI, 200, .inl t_signs))] H := hP
    have hD : va_D A [(a_t, .inr (5, [.ref a_t_parts, .ref a_t_signs, .ref a_t_numbers, .int t_laid, .int t_stage, .int (t_open + (nI 1)), .int t_digits, .int t_order, .int t_prizes])), (a_t_numbers, .inl (cI, 200, .inl t_numbers)), (a_t_parts, .inl (cI, 200, .inl t_parts)), (a_t_signs, .inl (cI, 200, .inl t_signs))] := hD
    refine lv_aload_n hx hb dX5_takeUnit_16 rfl (lv_at hl 0 rfl) ?_
    refine lv_iload_n hx hb dX5_takeUnit_17 rfl (lv_at hl 1 rfl) ?_
    obtain ⟨⟨t_laid_r10, t_numbers_r11, t_parts_r12, t_signs_r13⟩, e14, h⟩ := zz_b h
    dsimp only at h
    refine zVv (As := [.int x1]) (rest := []) (C := RX5) (wr := []) [0, 1, 2, 3] [] 0 ⟨hx, hb, hml, hown, hts⟩ (mX5_lay l D cB cI cZ a_t a_t_parts a_t_signs a_t_numbers t_laid t_stage (t_open + (nI 1)) t_digits t_order t_prizes t_numbers t_parts t_signs H.size x1 t_laid_r10 t_numbers_r11 t_parts_r12 t_signs_r13 e14) (cwV 1 hts gX5_takeUnit_X5_lay rfl rfl rfl (by decide +kernel) ⟨Nat.le_of_ble_eq_true rfl, Nat.le_of_ble_eq_true rfl⟩) hK hN hZ hP hD hS hA rfl rfl rfl rfl rfl rfl rfl rfl hl.1 rfl (lv_room (Nat.le_of_ble_eq_true rfl)) dX5_takeUnit_18 ⟨Nat.le_of_ble_eq_true rfl, Nat.le_of_ble_eq_true rfl⟩ (fun H locs hP hD hS => ?_)
    have hP : va_P D vwCl [(a_t, .inr (5, [.ref a_t_parts, .ref a_t_signs, .ref a_t_numbers, .int t_laid_r10, .int t_stage, .int (t_open + (nI 1)), .int t_digits, .int t_order, .int t_prizes])), (a_t_numbers, .inl (cI, 200, .inl t_numbers_r11)), (a_t_parts, .inl (cI, 200, .inl t_parts_r12)), (a_t_signs, .inl (cI, 200, .inl t_signs_r13))] H := hP
    have hD : va_D A [(a_t, .inr (5, [.ref a_t_parts, .ref a_t_signs, .ref a_t_numbers, .int t_laid_r10, .int t_stage, .int (t_open + (nI 1)), .int t_digits, .int t_order, .int t_prizes])), (a_t_numbers, .inl (cI, 200, .inl t_numbers_r11)), (a_t_parts, .inl (cI, 200, .inl t_parts_r12)), (a_t_signs, .inl (cI, 200, .inl t_signs_r13))] := hD
    refine lv_aload_n hx hb dX5_takeUnit_21 rfl (lv_at hl 0 rfl) ?_
    refine va_get (D := D) (ci := 5) (C := RX5) (T := TX5) (N := 9) hx hb hts qX5_takeUnit_X5 hown hK hP 0 rfl rfl 5 (by decide) (hts _ kX5_takeUnit_2) (fun _ h9 => h9) rfl dX5_takeUnit_22 ?_
    refine lv_bipush (v := (nI 8)) hx hb dX5_takeUnit_25 rfl ?_
    refine lv_icmp_gt (tgt := 34) hx hb dX5_takeUnit_27 (by decide) (fun c15 => ?_) (fun c15 => ?_)
    · have h := zz_t h c15
      refine lv_iconst (v := (nI 0)) hx hb dX5_takeUnit_34 rfl ?_
      obtain ⟨j0_, g_⟩ := Prod.mk.inj (Option.some.inj h)
      obtain ⟨j1_, g_⟩ := Prod.mk.inj g_
      obtain ⟨j2_, g_⟩ := Prod.mk.inj g_
      obtain ⟨j3_, g_⟩ := Prod.mk.inj g_
      obtain ⟨j4_, g_⟩ := Prod.mk.inj g_
      obtain ⟨j5_, g_⟩ := Prod.mk.inj g_
      have j6_ := g_
      subst j0_
      subst j1_
      subst j2_
      subst j3_
      subst j4_
      subst j5_
      subst j6_
      exact W.zret (v := (nI 0)) hx hb hr rfl (fun t ht hW => ⟨⟨_, (), rfl, rfl, zPost.of hP hD hK ht hW [0, 1, 2, 3] rfl rfl rfl⟩, hS.F ht⟩) hS.2.2 dX5_takeUnit_35
    · have h := zz_f h c15
      refine lv_iconst (v := (nI 1)) hx hb dX5_takeUnit_30 rfl ?_
      refine lv_goto (tgt := 35) hx hb dX5_takeUnit_31 (by decide) ?_
      obtain ⟨j0_, g_⟩ := Prod.mk.inj (Option.some.inj h)
      obtain ⟨j1_, g_⟩ := Prod.mk.inj g_
      obtain ⟨j2_, g_⟩ := Prod.mk.inj g_
      obtain ⟨j3_, g_⟩ := Prod.mk.inj g_
      obtain ⟨j4_, g_⟩ := Prod.mk.inj g_
      obtain ⟨j5_, g_⟩ := Prod.mk.inj g_
      have j6_ := g_
      subst j0_
      subst j1_
      subst j2_
      subst j3_
      subst j4_
      subst j5_
      subst j6_
      exact W.zret (v := (nI 1)) hx hb hr rfl (fun t ht hW => ⟨⟨_, (), rfl, rfl, zPost.of hP hD hK ht hW [0, 1, 2, 3] rfl rfl rfl⟩, hS.F ht⟩) hS.2.2 dX5_takeUnit_35
/-! RunDesk$Reading.takeSign -/
theorem dX5_takeSign_0 : decode cX5_takeSign 0 = .ok (.aload_n 0, 1) := by decide +kernel
theorem dX5_takeSign_1 : decode cX5_takeSign 1 = .ok (.iconst 2, 1) := by decide +kernel
theorem dX5_takeSign_2 : decode cX5_takeSign 2 = .ok (.putfield 25, 3) := by decide +kernel
theorem dX5_takeSign_5 : decode cX5_takeSign 5 = .ok (.aload_n 0, 1) := by decide +kernel
theorem dX5_takeSign_6 : decode cX5_takeSign 6 = .ok (.iconst 0, 1) := by decide +kernel
theorem dX5_takeSign_7 : decode cX5_takeSign 7 = .ok (.putfield 31, 3) := by decide +kernel
theorem dX5_takeSign_10 : decode cX5_takeSign 10 = .ok (.aload_n 0, 1) := by decide +kernel
theorem dX5_takeSign_11 : decode cX5_takeSign 11 = .ok (.getfield 21, 3) := by decide +kernel
theorem dX5_takeSign_14 : decode cX5_takeSign 14 = .ok (.iconst 1, 1) := by decide +kernel
theorem dX5_takeSign_15 : decode cX5_takeSign 15 = .ok (.sipush 200, 3) := by decide +kernel
theorem dX5_takeSign_18 : decode cX5_takeSign 18 = .ok (.invokestatic 85, 3) := by decide +kernel
theorem dX5_takeSign_21 : decode cX5_takeSign 21 = .ok (.ifCond .eq 15, 3) := by decide +kernel
theorem dX5_takeSign_24 : decode cX5_takeSign 24 = .ok (.aload_n 0, 1) := by decide +kernel
theorem dX5_takeSign_25 : decode cX5_takeSign 25 = .ok (.getfield 15, 3) := by decide +kernel
theorem dX5_takeSign_28 : decode cX5_takeSign 28 = .ok (.aload_n 0, 1) := by decide +kernel
theorem dX5_takeSign_29 : decode cX5_takeSign 29 = .ok (.getfield 21, 3) := by decide +kernel
theorem dX5_takeSign_32 : decode cX5_takeSign 32 = .ok (.iconst 1, 1) := by decide +kernel
theorem dX5_takeSign_33 : decode cX5_takeSign 33 = .ok (.isub, 1) := by decide +kernel
theorem dX5_takeSign_34 : decode cX5_takeSign 34 = .ok (.iload_n 1, 1) := by decide +kernel
theorem dX5_takeSign_35 : decode cX5_takeSign 35 = .ok (.iastore, 1) := by decide +kernel
theorem dX5_takeSign_36 : decode cX5_takeSign 36 = .ok (.iload_n 1, 1) := by decide +kernel
theorem dX5_takeSign_37 : decode cX5_takeSign 37 = .ok (.bipush 61, 2) := by decide +kernel
theorem dX5_takeSign_39 : decode cX5_takeSign 39 = .ok (.if_icmp .eq 15, 3) := by decide +kernel
theorem dX5_takeSign_42 : decode cX5_takeSign 42 = .ok (.iload_n 1, 1) := by decide +kernel
theorem dX5_takeSign_43 : decode cX5_takeSign 43 = .ok (.bipush 60, 2) := by decide +kernel
theorem dX5_takeSign_45 : decode cX5_takeSign 45 = .ok (.if_icmp .eq 9, 3) := by decide +kernel
theorem dX5_takeSign_48 : decode cX5_takeSign 48 = .ok (.iload_n 1, 1) := by decide +kernel
theorem dX5_takeSign_49 : decode cX5_takeSign 49 = .ok (.bipush 62, 2) := by decide +kernel
theorem dX5_takeSign_51 : decode cX5_takeSign 51 = .ok (.if_icmp .ne 7, 3) := by decide +kernel
theorem dX5_takeSign_54 : decode cX5_takeSign 54 = .ok (.iconst 1, 1) := by decide +kernel
theorem dX5_takeSign_55 : decode cX5_takeSign 55 = .ok (.goto 4, 3) := by decide +kernel
theorem dX5_takeSign_58 : decode cX5_takeSign 58 = .ok (.iconst 0, 1) := by decide +kernel
theorem dX5_takeSign_59 : decode cX5_takeSign 59 = .ok (.ireturn, 1) := by decide +kernel
set_option maxRecDepth 20000 in
theorem ggX5_takeSign_X10_within : GoodIn wsX5_takeSign wsX10_within := goodIn_sub (List.forall_mem_cons.mpr ⟨List.mem_cons_of_mem _ (List.mem_append_left _ (List.mem_of_getElem? (i := 6) rfl)), (fun _ h => nomatch h)⟩) (by decide +kernel)
set_option maxRecDepth 20000 in
theorem gX5_takeSign_X10_within_n85 : GoodIn wsX5_takeSign (wsX10_within) := ggX5_takeSign_X10_within
theorem kX5_takeSign_0 : (.fieldLink RX5 25 "RunDesk$Reading" "stage" "I" : Cond) ∈ wsX5_takeSign := List.mem_of_getElem? (i := 1) (by decide +kernel)
theorem qX5_takeSign_X5 : ∀ w ∈ wsX50, w ∈ wsX5_takeSign := fun _ h => List.mem_cons_of_mem _ (List.mem_append_right _ (h))
theorem kX5_takeSign_2 : (.fieldLink RX5 31 "RunDesk$Reading" "digits" "I" : Cond) ∈ wsX5_takeSign := List.mem_of_getElem? (i := 2) (by decide +kernel)
theorem kX5_takeSign_3 : (.fieldLink RX5 21 "RunDesk$Reading" "laid" "I" : Cond) ∈ wsX5_takeSign := List.mem_of_getElem? (i := 3) (by decide +kernel)
theorem kX5_takeSign_4 : (.initialized RX10 : Cond) ∈ wsX5_takeSign := List.mem_of_getElem? (i := 6) (by decide +kernel)
theorem kX5_takeSign_5 : (.static yX10_within : Cond) ∈ wsX5_takeSign := List.mem_of_getElem? (i := 5) (by decide +kernel)
theorem kX5_takeSign_6 : (.fieldLink RX5 15 "RunDesk$Reading" "signs" "[I" : Cond) ∈ wsX5_takeSign := List.mem_of_getElem? (i := 4) (by decide +kernel)
set_option maxHeartbeats 4000000 in
set_option maxRecDepth 100000 in
theorem mX5_takeSign (l : Launch) (D : va_G) (cB cI cZ : ClassId) (a_t : Nat) (a_t_parts : Nat) (a_t_signs : Nat) (a_t_numbers : Nat) (t_laid : Int32) (t_stage : Int32) (t_open : Int32) (t_digits : Int32) (t_order : Int32) (t_prizes : Int32) (t_signs : Nat → Int32) (sz : Nat) (x1 : Int32) (b0 : Bool) (t_digits' : Int32) (t_stage' : Int32) (t_signs' : Nat → Int32) (h : fX5_takeSign t_digits t_laid t_stage t_signs x1 = some (b0, t_digits', t_stage', t_signs')) : Met l yX5_takeSign wsX5_takeSign ({ frames := 1, cells := 0, slots := 0, locals := 22 } : Room) (va_Pc [.ref a_t, .int x1] (zPre D (zT cB cI cZ) [(a_t, .inr (5, [.ref a_t_parts, .ref a_t_signs, .ref a_t_numbers, .int t_laid, .int t_stage, .int t_open, .int t_digits, .int t_order, .int t_prizes])), (a_t_signs, .inl (cI, 200, .inl t_signs))] sz)) (zQi (zb b0) D (zT cB cI cZ) [(a_t, .inr (5, [.ref a_t_parts, .ref a_t_signs, .ref a_t_numbers, .int t_laid, .int t_stage', .int t_open, .int t_digits', .int t_order, .int t_prizes])), (a_t_signs, .inl (cI, 200, .inl t_signs'))] (va_A [(a_t, .inr (5, [.ref a_t_parts, .ref a_t_signs, .ref a_t_numbers, .int t_laid, .int t_stage, .int t_open, .int t_digits, .int t_order, .int t_prizes])), (a_t_signs, .inl (cI, 200, .inl t_signs))] sz)) 0 0 (va_A [(a_t, .inr (5, [.ref a_t_parts, .ref a_t_signs, .ref a_t_numbers, .int t_laid, .int t_stage, .int t_open, .int t_digits, .int t_order, .int t_prizes])), (a_t_signs, .inl (cI, 200, .inl t_signs))] sz) := by
  refine Met.ofW (cc := cX5_takeSign) (maxL := 2) (ret := (some .boolean)) (by decide) rfl ?_
  intro p e s m args below meth c s₁ B hml hv
  obtain ⟨rfl, hsz, hP, hK, hN, hZ, hD0⟩ := hv
  have hx := B.exec
  have hb := B.bytes
  have hr := B.returns
  have hts := atoms_spec (ws := wsX5_takeSign) B.pre
  have hown : s.vm.findClass RX5 = some m.cls := findClass_of_methodNamed B.named
  have hlocks := B.notSynchronized
  subst hsz
  have hD := hD0.self (sz := s.heap.size)
  generalize hAe : va_A [(a_t, .inr (5, [.ref a_t_parts, .ref a_t_signs, .ref a_t_numbers, .int t_laid, .int t_stage, .int t_open, .int t_digits, .int t_order, .int t_prizes])), (a_t_signs, .inl (cI, 200, .inl t_signs))] s.heap.size = A at hD hZ ⊢
  have hA : ∀ q : Nat, s.heap.size ≤ q → A q := fun q h => by rw [← hAe]; exact Or.inr h
  have hS : va_S A s.heap s.heap [] := va_S.rf
  have hl := lv_entry ([.ref a_t, .int x1]) (n := 2) (Nat.le_of_ble_eq_true rfl)
  rw [lg_entry_eq]
  generalize (lg_sl ([.ref a_t, .int x1]) ++ List.replicate (2 - (lg_sl ([.ref a_t, .int x1])).length) Slot.unset).toArray = ls at hl ⊢
  have hl : lv_has ls 2 [(0, .ref a_t), (1, .int x1)] := hl
  unfold fX5_takeSign at h
  refine lv_aload_n hx hb dX5_takeSign_0 rfl (lv_at hl 0 rfl) ?_
  refine lv_iconst (v := (nI 2)) hx hb dX5_takeSign_1 rfl ?_
  refine va_put (D := D) (ci := 5) (ty := .int) (C := RX5) (T := TX5) (N := 9) hx hb hts qX5_takeSign_X5 tyX5 tyX5_ok nmX5 hown hK hP hD hS 0 rfl rfl 4 (by decide) (hts _ kX5_takeSign_0) (fun _ h9 => h9) rfl (by decide +kernel) rfl (by first | rfl | exact zz_fit) (Nat.le_of_ble_eq_true rfl) dX5_takeSign_2 (fun H locs hP hD hS => ?_)
  have hP : va_P D vwCl [(a_t, .inr (5, [.ref a_t_parts, .ref a_t_signs, .ref a_t_numbers, .int t_laid, .int (nI 2), .int t_open, .int t_digits, .int t_order, .int t_prizes])), (a_t_signs, .inl (cI, 200, .inl t_signs))] H := hP
  have hD : va_D A [(a_t, .inr (5, [.ref a_t_parts, .ref a_t_signs, .ref a_t_numbers, .int t_laid, .int (nI 2), .int t_open, .int t_digits, .int t_order, .int t_prizes])), (a_t_signs, .inl (cI, 200, .inl t_signs))] := hD
  refine lv_aload_n hx hb dX5_takeSign_5 rfl (lv_at hl 0 rfl) ?_
  refine lv_iconst (v := (nI 0)) hx hb dX5_takeSign_6 rfl ?_
  refine va_put (D := D) (ci := 5) (ty := .int) (C := RX5) (T := TX5) (N := 9) hx hb hts qX5_takeSign_X5 tyX5 tyX5_ok nmX5 hown hK hP hD hS 0 rfl rfl 6 (by decide) (hts _ kX5_takeSign_2) (fun _ h9 => h9) rfl (by decide +kernel) rfl (by first | rfl | exact zz_fit) (Nat.le_of_ble_eq_true rfl) dX5_takeSign_7 (fun H locs hP hD hS => ?_)
  have hP : va_P D vwCl [(a_t, .inr (5, [.ref a_t_parts, .ref a_t_signs, .ref a_t_numbers, .int t_laid, .int (nI 2), .int t_open, .int (nI 0), .int t_order, .int t_prizes])), (a_t_signs, .inl (cI, 200, .inl t_signs))] H := hP
  have hD : va_D A [(a_t, .inr (5, [.ref a_t_parts, .ref a_t_signs, .ref a_t_numbers, .int t_laid, .int (nI 2), .int t_open, .int (nI 0), .int t_order, .int t_prizes])), (a_t_signs, .inl (cI, 200, .inl t_signs))] := hD
  refine lv_aload_n hx hb dX5_takeSign_10 rfl (lv_at hl 0 rfl) ?_
  refine va_get (D := D) (ci := 5) (C := RX5) (T := TX5) (N := 9) hx hb hts qX5_takeSign_X5 hown hK hP 0 rfl rfl 3 (by decide) (hts _ kX5_takeSign_3) (fun _ h9 => h9) rfl dX5_takeSign_11 ?_
  refine lv_iconst (v := (nI 1)) hx hb dX5_takeSign_14 rfl ?_
  refine lv_sipush (v := (nI 200)) hx hb dX5_takeSign_15 rfl ?_
  obtain ⟨b1, e2, h⟩ := zz_b h
  refine zNi (As := [.int t_laid, .int (nI 1), .int (nI 200)]) (rest := []) (host := "RunDesk") (wr := [(a_t, .inr (5, [.ref a_t_parts, .ref a_t_signs, .ref a_t_numbers, .int t_laid, .int (nI 2), .int t_open, .int (nI 0), .int t_order, .int t_prizes])), (a_t_signs, .inl (cI, 200, .inl t_signs))]) [] [0, 1] ⟨hx, hb, hml, hown, hts⟩ (mX10_within l D cB cI cZ H.size t_laid (nI 1) (nI 200) b1 e2) ⟨va_cnB 3 hts gX5_takeSign_X10_within_n85 rfl rfl rfl (hN _ (List.mem_of_getElem? (i := 33) rfl)) (hts _ kX5_takeSign_4) (by decide +kernel) ⟨Nat.le_of_ble_eq_true rfl, Nat.le_of_ble_eq_true rfl⟩, (hts _ kX5_takeSign_5), trivial⟩ hK hN hZ hP hD hS hA rfl rfl rfl rfl rfl rfl hl.1 rfl (lv_room (Nat.le_of_ble_eq_true rfl)) dX5_takeSign_18 ⟨Nat.le_of_ble_eq_true rfl, Nat.le_of_ble_eq_true rfl⟩ (fun H locs hP hD hS => ?_)
  have hP : va_P D vwCl [(a_t, .inr (5, [.ref a_t_parts, .ref a_t_signs, .ref a_t_numbers, .int t_laid, .int (nI 2), .int t_open, .int (nI 0), .int t_order, .int t_prizes])), (a_t_signs, .inl (cI, 200, .inl t_signs))] H := hP
  have hD : va_D A [(a_t, .inr (5, [.ref a_t_parts, .ref a_t_signs, .ref a_t_numbers, .int t_laid, .int (nI 2), .int t_open, .int (nI 0), .int t_order, .int t_prizes])), (a_t_signs, .inl (cI, 200, .inl t_signs))] := hD
  refine lv_if_eq (tgt := 36) hx hb dX5_takeSign_21 (by decide) (fun c3 => ?_) (fun c3 => ?_)
  · have h := zz_t h c3
    refine lv_iload_n hx hb dX5_takeSign_36 rfl (lv_at hl 1 rfl) ?_
    refine lv_bipush (v := (nI 61)) hx hb dX5_takeSign_37 rfl ?_
    refine lv_icmp_eq (tgt := 54) hx hb dX5_takeSign_39 (by decide) (fun c4 => ?_) (fun c4 => ?_)
    · have h := zz_t h c4
      refine lv_iconst (v := (nI 1)) hx hb dX5_takeSign_54 rfl ?_
      refine lv_goto (tgt := 59) hx hb dX5_takeSign_55 (by decide) ?_
      obtain ⟨j0_, g_⟩ := Prod.mk.inj (Option.some.inj h)
      obtain ⟨j1_, g_⟩ := Prod.mk.inj g_
      obtain ⟨j2_, g_⟩ := Prod.mk.inj g_
      have j3_ := g_
      subst j0_
      subst j1_
      subst j2_
      subst j3_
      exact W.zret (v := (nI 1)) hx hb hr rfl (fun t ht hW => ⟨⟨_, (), rfl, rfl, zPost.of hP hD hK ht hW [0, 1] rfl rfl rfl⟩, hS.F ht⟩) hS.2.2 dX5_takeSign_59
    · have h := zz_f h c4
      refine lv_iload_n hx hb dX5_takeSign_42 rfl (lv_at hl 1 rfl) ?_
      refine lv_bipush (v := (nI 60)) hx hb dX5_takeSign_43 rfl ?_
      refine lv_icmp_eq (tgt := 54) hx hb dX5_takeSign_45 (by decide) (fun c5 => ?_) (fun c5 => ?_)
      · have h := zz_t h c5
        refine lv_iconst (v := (nI 1)) hx hb dX5_takeSign_54 rfl ?_
        refine lv_goto (tgt := 59) hx hb dX5_takeSign_55 (by decide) ?_
        obtain ⟨j0_, g_⟩ := Prod.mk.inj (Option.some.inj h)
        obtain ⟨j1_, g_⟩ := Prod.mk.inj g_
        obtain ⟨j2_, g_⟩ := Prod.mk.inj g_
        have j3_ := g_
        subst j0_
        subst j1_
        subst j2_
        subst j3_
        exact W.zret (v := (nI 1)) hx hb hr rfl (fun t ht hW => ⟨⟨_, (), rfl, rfl, zPost.of hP hD hK ht hW [0, 1] rfl rfl rfl⟩, hS.F ht⟩) hS.2.2 dX5_takeSign_59
      · have h := zz_f h c5
        refine lv_iload_n hx hb dX5_takeSign_48 rfl (lv_at hl 1 rfl) ?_
        refine lv_bipush (v := (nI 62)) hx hb dX5_takeSign_49 rfl ?_
        refine lv_icmp_ne (tgt := 58) hx hb dX5_takeSign_51 (by decide) (fun c6 => ?_) (fun c6 => ?_)
        · have h := zz_f h c6
          refine lv_iconst (v := (nI 0)) hx hb dX5_takeSign_58 rfl ?_
          obtain ⟨j0_, g_⟩ := Prod.mk.inj (Option.some.inj h)
          obtain ⟨j1_, g_⟩ := Prod.mk.inj g_
          obtain ⟨j2_, g_⟩ := Prod.mk.inj g_
          have j3_ := g_
          subst j0_
          subst j1_
          subst j2_
          subst j3_
          exact W.zret (v := (nI 0)) hx hb hr rfl (fun t ht hW => ⟨⟨_, (), rfl, rfl, zPost.of hP hD hK ht hW [0, 1] rfl rfl rfl⟩, hS.F ht⟩) hS.2.2 dX5_takeSign_59
        · have h := zz_t h c6
          refine lv_iconst (v := (nI 1)) hx hb dX5_takeSign_54 rfl ?_
          refine lv_goto (tgt := 59) hx hb dX5_takeSign_55 (by decide) ?_
          obtain ⟨j0_, g_⟩ := Prod.mk.inj (Option.some.inj h)
          obtain ⟨j1_, g_⟩ := Prod.mk.inj g_
          obtain ⟨j2_, g_⟩ := Prod.mk.inj g_
          have j3_ := g_
          subst j0_
          subst j1_
          subst j2_
          subst j3_
          exact W.zret (v := (nI 1)) hx hb hr rfl (fun t ht hW => ⟨⟨_, (), rfl, rfl, zPost.of hP hD hK ht hW [0, 1] rfl rfl rfl⟩, hS.F ht⟩) hS.2.2 dX5_takeSign_59
  · have h := zz_f h c3
    refine lv_aload_n hx hb dX5_takeSign_24 rfl (lv_at hl 0 rfl) ?_
    refine va_get (D := D) (ci := 5) (C := RX5) (T := TX5) (N := 9) hx hb hts qX5_takeSign_X5 hown hK hP 0 rfl rfl 1 (by decide) (hts _ kX5_takeSign_6) (fun _ h9 => h9) rfl dX5_takeSign_25 ?_
    refine lv_aload_n hx hb dX5_takeSign_28 rfl (lv_at hl 0 rfl) ?_
    refine va_get (D := D) (ci := 5) (C := RX5) (T := TX5) (N := 9) hx hb hts qX5_takeSign_X5 hown hK hP 0 rfl rfl 3 (by decide) (hts _ kX5_takeSign_3) (fun _ h9 => h9) rfl dX5_takeSign_29 ?_
    refine lv_iconst (v := (nI 1)) hx hb dX5_takeSign_32 rfl ?_
    refine lv_isub hx hb dX5_takeSign_33 ?_
    refine lv_iload_n hx hb dX5_takeSign_34 rfl (lv_at hl 1 rfl) ?_
    obtain ⟨i7, h⟩ := zz_i h
    refine va_iast hx hb hK hP hD hS 1 1 rfl rfl i7 dX5_takeSign_35 (fun H locs hP hD hS => ?_)
    have hP : va_P D vwCl [(a_t, .inr (5, [.ref a_t_parts, .ref a_t_signs, .ref a_t_numbers, .int t_laid, .int (nI 2), .int t_open, .int (nI 0), .int t_order, .int t_prizes])), (a_t_signs, .inl (cI, 200, .inl (upd t_signs ((t_laid - (nI 1))).toNatClampNeg x1)))] H := hP
    have hD : va_D A [(a_t, .inr (5, [.ref a_t_parts, .ref a_t_signs, .ref a_t_numbers, .int t_laid, .int (nI 2), .int t_open, .int (nI 0), .int t_order, .int t_prizes])), (a_t_signs, .inl (cI, 200, .inl (upd t_signs ((t_laid - (nI 1))).toNatClampNeg x1)))] := hD
    refine lv_iload_n hx hb dX5_takeSign_36 rfl (lv_at hl 1 rfl) ?_
    refine lv_bipush (v := (nI 61)) hx hb dX5_takeSign_37 rfl ?_
    refine lv_icmp_eq (tgt := 54) hx hb dX5_takeSign_39 (by decide) (fun c8 => ?_) (fun c8 => ?_)
    · have h := zz_t h c8
      refine lv_iconst (v := (nI 1)) hx hb dX5_takeSign_54 rfl ?_
      refine lv_goto (tgt := 59) hx hb dX5_takeSign_55 (by decide) ?_
      obtain ⟨j0_, g_⟩ := Prod.mk.inj (Option.some.inj h)
      obtain ⟨j1_, g_⟩ := Prod.mk.inj g_
      obtain ⟨j2_, g_⟩ := Prod.mk.inj g_
      have j3_ := g_
      subst j0_
      subst j1_
      subst j2_
      subst j3_
      exact W.zret (v := (nI 1)) hx hb hr rfl (fun t ht hW => ⟨⟨_, (), rfl, rfl, zPost.of hP hD hK ht hW [0, 1] rfl rfl rfl⟩, hS.F ht⟩) hS.2.2 dX5_takeSign_59
    · have h := zz_f h c8
      refine lv_iload_n hx hb dX5_takeSign_42 rfl (lv_at hl 1 rfl) ?_
      refine lv_bipush (v := (nI 60)) hx hb dX5_takeSign_43 rfl ?_
      refine lv_icmp_eq (tgt := 54) hx hb dX5_takeSign_45 (by decide) (fun c9 => ?_) (fun c9 => ?_)
      · have h := zz_t h c9
        refine lv_iconst (v := (nI 1)) hx hb dX5_takeSign_54 rfl ?_
        refine lv_goto (tgt := 59) hx hb dX5_takeSign_55 (by decide) ?_
        obtain ⟨j0_, g_⟩ := Prod.mk.inj (Option.some.inj h)
        obtain ⟨j1_, g_⟩ := Prod.mk.inj g_
        obtain ⟨j2_, g_⟩ := Prod.mk.inj g_
        have j3_ := g_
        subst j0_
        subst j1_
        subst j2_
        subst j3_
        exact W.zret (v := (nI 1)) hx hb hr rfl (fun t ht hW => ⟨⟨_, (), rfl, rfl, zPost.of hP hD hK ht hW [0, 1] rfl rfl rfl⟩, hS.F ht⟩) hS.2.2 dX5_takeSign_59
      · have h := zz_f h c9
        refine lv_iload_n hx hb dX5_takeSign_48 rfl (lv_at hl 1 rfl) ?_
        refine lv_bipush (v := (nI 62)) hx hb dX5_takeSign_49 rfl ?_
        refine lv_icmp_ne (tgt := 58) hx hb dX5_takeSign_51 (by decide) (fun c10 => ?_) (fun c10 => ?_)
        · have h := zz_f h c10
          refine lv_iconst (v := (nI 0)) hx hb dX5_takeSign_58 rfl ?_
          obtain ⟨j0_, g_⟩ := Prod.mk.inj (Option.some.inj h)
          obtain ⟨j1_, g_⟩ := Prod.mk.inj g_
          obtain ⟨j2_, g_⟩ := Prod.mk.inj g_
          have j3_ := g_
          subst j0_
          subst j1_
          subst j2_
          subst j3_
          exact W.zret (v := (nI 0)) hx hb hr rfl (fun t ht hW => ⟨⟨_, (), rfl, rfl, zPost.of hP hD hK ht hW [0, 1] rfl rfl rfl⟩, hS.F ht⟩) hS.2.2 dX5_takeSign_59
        · have h := zz_t h c10
          refine lv_iconst (v := (nI 1)) hx hb dX5_takeSign_54 rfl ?_
          refine lv_goto (tgt := 59) hx hb dX5_takeSign_55 (by decide) ?_
          obtain ⟨j0_, g_⟩ := Prod.mk.inj (Option.some.inj h)
          obtain ⟨j1_, g_⟩ := Prod.mk.inj g_
          obtain ⟨j2_, g_⟩ := Prod.mk.inj g_
          have j3_ := g_
          subst j0_
          subst j1_
          subst j2_
          subst j3_
          exact W.zret (v := (nI 1)) hx hb hr rfl (fun t ht hW => ⟨⟨_, (), rfl, rfl, zPost.of hP hD hK ht hW [0, 1] rfl rfl rfl⟩, hS.F ht⟩) hS.2.2 dX5_takeSign_59
/-! RunDesk$Reading.isDigit -/
theorem dX5_isDigit_0 : decode cX5_isDigit 0 = .ok (.iload_n 0, 1) := by decide +kernel
theorem dX5_isDigit_1 : decode cX5_isDigit 1 = .ok (.bipush 48, 2) := by decide +kernel
theorem dX5_isDigit_3 : decode cX5_isDigit 3 = .ok (.bipush 57, 2) := by decide +kernel
theorem dX5_isDigit_5 : decode cX5_isDigit 5 = .ok (.invokestatic 85, 3) := by decide +kernel
theorem dX5_isDigit_8 : decode cX5_isDigit 8 = .ok (.ireturn, 1) := by decide +kernel
set_option maxRecDepth 20000 in
theorem ggX5_isDigit_X10_within : GoodIn wsX5_isDigit wsX10_within := goodIn_sub (List.forall_mem_cons.mpr ⟨List.mem_cons_of_mem _ (List.mem_of_getElem? (i := 2) rfl), (fun _ h => nomatch h)⟩) (by decide +kernel)
set_option maxRecDepth 20000 in
theorem gX5_isDigit_X10_within_n85 : GoodIn wsX5_isDigit (wsX10_within) := ggX5_isDigit_X10_within
theorem kX5_isDigit_0 : (.initialized RX10 : Cond) ∈ wsX5_isDigit := List.mem_of_getElem? (i := 2) (by decide +kernel)
theorem kX5_isDigit_1 : (.static yX10_within : Cond) ∈ wsX5_isDigit := List.mem_of_getElem? (i := 1) (by decide +kernel)
set_option maxHeartbeats 4000000 in
set_option maxRecDepth 100000 in
theorem mX5_isDigit (l : Launch) (D : va_G) (cB cI cZ : ClassId) (sz : Nat) (x1 : Int32) (b0 : Bool) (h : fX5_isDigit x1 = some (b0)) : Met l yX5_isDigit wsX5_isDigit ({ frames := 1, cells := 0, slots := 0, locals := 22 } : Room) (va_Pc [.int x1] (zPre D (zT cB cI cZ) [] sz)) (zQi (zb b0) D (zT cB cI cZ) [] (va_A [] sz)) 0 0 (va_A [] sz) := by
  refine Met.ofW (cc := cX5_isDigit) (maxL := 1) (ret := (some .boolean)) (by decide) rfl ?_
  intro p e s m args below meth c s₁ B hml hv
  obtain ⟨rfl, hsz, hP, hK, hN, hZ, hD0⟩ := hv
  have hx := B.exec
  have hb := B.bytes
  have hr := B.returns
  have hts := atoms_spec (ws := wsX5_isDigit) B.pre
  have hown : s.vm.findClass RX5 = some m.cls := findClass_of_methodNamed B.named
  have hlocks := B.notSynchronized
  subst hsz
  have hD := hD0.self (sz := s.heap.size)
  generalize hAe : va_A [] s.heap.size = A at hD hZ ⊢
  have hA : ∀ q : Nat, s.heap.size ≤ q → A q := fun q h => by rw [← hAe]; exact Or.inr h
  have hS : va_S A s.heap s.heap [] := va_S.rf
  have hl := lv_entry ([.int x1]) (n := 1) (Nat.le_of_ble_eq_true rfl)
  rw [lg_entry_eq]
  generalize (lg_sl ([.int x1]) ++ List.replicate (1 - (lg_sl ([.int x1])).length) Slot.unset).toArray = ls at hl ⊢
  have hl : lv_has ls 1 [(0, .int x1)] := hl
  unfold fX5_isDigit at h
  refine lv_iload_n hx hb dX5_isDigit_0 rfl (lv_at hl 0 rfl) ?_
  refine lv_bipush (v := (nI 48)) hx hb dX5_isDigit_1 rfl ?_
  refine lv_bipush (v := (nI 57)) hx hb dX5_isDigit_3 rfl ?_
  obtain ⟨b1, e2, h⟩ := zz_b h
  refine zNi (As := [.int x1, .int (nI 48), .int (nI 57)]) (rest := []) (host := "RunDesk") (wr := []) [] [] ⟨hx, hb, hml, hown, hts⟩ (mX10_within l D cB cI cZ s.heap.size x1 (nI 48) (nI 57) b1 e2) ⟨va_cnB 3 hts gX5_isDigit_X10_within_n85 rfl rfl rfl (hN _ (List.mem_of_getElem? (i := 33) rfl)) (hts _ kX5_isDigit_0) (by decide +kernel) ⟨Nat.le_of_ble_eq_true rfl, Nat.le_of_ble_eq_true rfl⟩, (hts _ kX5_isDigit_1), trivial⟩ hK hN hZ hP hD hS hA rfl rfl rfl rfl rfl rfl hl.1 rfl (lv_room (Nat.le_of_ble_eq_true rfl)) dX5_isDigit_5 ⟨Nat.le_of_ble_eq_true rfl, Nat.le_of_ble_eq_true rfl⟩ (fun H locs hP hD hS => ?_)
  have hP : va_P D vwCl [] H := hP
  have hD : va_D A [] := hD
  have j0_ := Option.some.inj h
  subst j0_
  exact W.zret (v := (zb b1)) hx hb hr zz_n (fun t ht hW => ⟨⟨_, (), rfl, rfl, zPost.of hP hD hK ht hW [] rfl rfl rfl⟩, hS.F ht⟩) hS.2.2 dX5_isDigit_8
