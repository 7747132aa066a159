/-! RunDesk$Race.hasCell -/
theorem dX4_hasCell_0 : decode cX4_hasCell 0 = .ok (.aload_n 0, 1) := by decide +kernel
theorem dX4_hasCell_1 : decode cX4_hasCell 1 = .ok (.getfield 28, 3) := by decide +kernel
theorem dX4_hasCell_4 : decode cX4_hasCell 4 = .ok (.iload_n 1, 1) := by decide +kernel
theorem dX4_hasCell_5 : decode cX4_hasCell 5 = .ok (.invokevirtual 51, 3) := by decide +kernel
theorem dX4_hasCell_8 : decode cX4_hasCell 8 = .ok (.ifCond .eq 18, 3) := by decide +kernel
theorem dX4_hasCell_11 : decode cX4_hasCell 11 = .ok (.aload_n 0, 1) := by decide +kernel
theorem dX4_hasCell_12 : decode cX4_hasCell 12 = .ok (.getfield 12, 3) := by decide +kernel
theorem dX4_hasCell_15 : decode cX4_hasCell 15 = .ok (.iload_n 2, 1) := by decide +kernel
theorem dX4_hasCell_16 : decode cX4_hasCell 16 = .ok (.invokevirtual 55, 3) := by decide +kernel
theorem dX4_hasCell_19 : decode cX4_hasCell 19 = .ok (.ifCond .eq 7, 3) := by decide +kernel
theorem dX4_hasCell_22 : decode cX4_hasCell 22 = .ok (.iconst 1, 1) := by decide +kernel
theorem dX4_hasCell_23 : decode cX4_hasCell 23 = .ok (.goto 4, 3) := by decide +kernel
theorem dX4_hasCell_26 : decode cX4_hasCell 26 = .ok (.iconst 0, 1) := by decide +kernel
theorem dX4_hasCell_27 : decode cX4_hasCell 27 = .ok (.ireturn, 1) := by decide +kernel
set_option maxRecDepth 20000 in
theorem ggX4_hasCell_X6_has : GoodIn wsX4_hasCell wsX6_has := goodIn_r _ [7, 8, 18, 19, 20, 21, 22, 23, 24, 25, 26] (by decide +kernel) (by decide +kernel)
set_option maxRecDepth 20000 in
theorem gX4_hasCell_X6_has : GoodIn wsX4_hasCell (wsV RX4 51 RX6 yX6_has wsX6_has) := goodIn_app (goodIn_of _ (by decide +kernel)) ggX4_hasCell_X6_has
set_option maxRecDepth 20000 in
theorem ggX4_hasCell_X9_has : GoodIn wsX4_hasCell wsX9_has := goodIn_r _ [13, 14, 27, 28, 29, 30, 31] (by decide +kernel) (by decide +kernel)
set_option maxRecDepth 20000 in
theorem gX4_hasCell_X9_has : GoodIn wsX4_hasCell (wsV RX4 55 RX9 yX9_has wsX9_has) := goodIn_app (goodIn_of _ (by decide +kernel)) ggX4_hasCell_X9_has
theorem kX4_hasCell_0 : (.fieldLink RX4 28 "RunDesk$Race" "runners" "LRunDesk$Runners;" : Cond) ∈ wsX4_hasCell := List.mem_of_getElem? (i := 1) (by decide +kernel)
theorem qX4_hasCell_X4 : ∀ w ∈ wsX40, w ∈ wsX4_hasCell := fun _ h => List.mem_cons_of_mem _ (List.mem_append_left _ (List.mem_append_left _ (List.mem_append_right _ (h))))
theorem kX4_hasCell_2 : (.fieldLink RX4 12 "RunDesk$Race" "way" "LRunDesk$Way;" : Cond) ∈ wsX4_hasCell := List.mem_of_getElem? (i := 2) (by decide +kernel)
set_option maxHeartbeats 4000000 in
set_option maxRecDepth 100000 in
theorem mX4_hasCell (l : Launch) (D : va_G) (cB cI cZ : ClassId) (a_t : Nat) (a_t_way : Nat) (a_t_guns : Nat) (a_t_runners : Nat) (a_t_runners_facts : Nat) (a_t_runners_splits : Nat) (a_t_runners_torn : Nat) (a_t_runners_dropped : Nat) (a_t_runners_waved : Nat) (a_t_runners_struck : Nat) (a_t_runners_strikingOrder : Nat) (a_t_way_places : Nat) (a_t_way_bearings : Nat) (a_t_way_cuts : Nat) (a_t_way_deaths : Nat) (t_runners_entered : Int32) (t_runners_strikings : Int32) (t_way_mats : Int32) (sz : Nat) (x1 : Int32) (x2 : Int32) (b0 : Bool) (h : fX4_hasCell t_runners_entered t_way_mats x1 x2 = some (b0)) : Met l yX4_hasCell wsX4_hasCell ({ frames := 1, cells := 0, slots := 0, locals := 21 } : Room) (va_Pc [.ref a_t, .int x1, .int x2] (zPre D (zT cB cI cZ) [(a_t, .inr (4, [.ref a_t_way, .ref a_t_guns, .ref a_t_runners])), (a_t_runners, .inr (6, [.ref a_t_runners_facts, .ref a_t_runners_splits, .ref a_t_runners_torn, .ref a_t_runners_dropped, .ref a_t_runners_waved, .ref a_t_runners_struck, .ref a_t_runners_strikingOrder, .int t_runners_entered, .int t_runners_strikings])), (a_t_way, .inr (9, [.ref a_t_way_places, .ref a_t_way_bearings, .ref a_t_way_cuts, .ref a_t_way_deaths, .int t_way_mats]))] sz)) (zQi (zb b0) D (zT cB cI cZ) [(a_t, .inr (4, [.ref a_t_way, .ref a_t_guns, .ref a_t_runners])), (a_t_runners, .inr (6, [.ref a_t_runners_facts, .ref a_t_runners_splits, .ref a_t_runners_torn, .ref a_t_runners_dropped, .ref a_t_runners_waved, .ref a_t_runners_struck, .ref a_t_runners_strikingOrder, .int t_runners_entered, .int t_runners_strikings])), (a_t_way, .inr (9, [.ref a_t_way_places, .ref a_t_way_bearings, .ref a_t_way_cuts, .ref a_t_way_deaths, .int t_way_mats]))] (va_A [(a_t, .inr (4, [.ref a_t_way, .ref a_t_guns, .ref a_t_runners])), (a_t_runners, .inr (6, [.ref a_t_runners_facts, .ref a_t_runners_splits, .ref a_t_runners_torn, .ref a_t_runners_dropped, .ref a_t_runners_waved, .ref a_t_runners_struck, .ref a_t_runners_strikingOrder, .int t_runners_entered, .int t_runners_strikings])), (a_t_way, .inr (9, [.ref a_t_way_places, .ref a_t_way_bearings, .ref a_t_way_cuts, .ref a_t_way_deaths, .int t_way_mats]))] sz)) 0 0 (va_A [(a_t, .inr (4, [.ref a_t_way, .ref a_t_guns, .ref a_t_runners])), (a_t_runners, .inr (6, [.ref a_t_runners_facts, .ref a_t_runners_splits, .ref a_t_runners_torn, .ref a_t_runners_dropped, .ref a_t_runners_waved, .ref a_t_runners_struck, .ref a_t_runners_strikingOrder, .int t_runners_entered, .int t_runners_strikings])), (a_t_way, .inr (9, [.ref a_t_way_places, .ref a_t_way_bearings, .ref a_t_way_cuts, .ref a_t_way_deaths, .int t_way_mats]))] sz) := by
  refine Met.ofW (cc := cX4_hasCell) (maxL := 3) (ret := (some .boolean)) (by decide) rfl ?_
  intro p e s m args below meth c s₁ B hml hv
  obtain ⟨rfl, hsz, hP, hK, hN, hZ, hD0⟩ := hv
  have hx := B.exec
  have hb := B.bytes
  have hr := B.returns
  have hts := atoms_spec (ws := wsX4_hasCell) B.pre
  have hown : s.vm.findClass RX4 = some m.cls := findClass_of_methodNamed B.named
  have hlocks := B.notSynchronized
  subst hsz
  have hD := hD0.self (sz := s.heap.size)
  generalize hAe : va_A [(a_t, .inr (4, [.ref a_t_way, .ref a_t_guns, .ref a_t_runners])), (a_t_runners, .inr (6, [.ref a_t_runners_facts, .ref a_t_runners_splits, .ref a_t_runners_torn, .ref a_t_runners_dropped, .ref a_t_runners_waved, .ref a_t_runners_struck, .ref a_t_runners_strikingOrder, .int t_runners_entered, .int t_runners_strikings])), (a_t_way, .inr (9, [.ref a_t_way_places, .ref a_t_way_bearings, .ref a_t_way_cuts, .ref a_t_way_deaths, .int t_way_mats]))] s.heap.size = A at hD hZ ⊢
  have hA : ∀ q : Nat, s.heap.size ≤ q → A q := fun q h => by rw [← hAe]; exact Or.inr h
  have hS : va_S A s.heap s.heap [] := va_S.rf
  have hl := lv_entry ([.ref a_t, .int x1, .int x2]) (n := 3) (Nat.le_of_ble_eq_true rfl)
  rw [lg_entry_eq]
  generalize (lg_sl ([.ref a_t, .int x1, .int x2]) ++ List.replicate (3 - (lg_sl ([.ref a_t, .int x1, .int x2])).length) Slot.unset).toArray = ls at hl ⊢
  have hl : lv_has ls 3 [(0, .ref a_t), (1, .int x1), (2, .int x2)] := hl
  unfold fX4_hasCell at h
  refine lv_aload_n hx hb dX4_hasCell_0 rfl (lv_at hl 0 rfl) ?_
  refine va_get (D := D) (ci := 4) (C := RX4) (T := TX4) (N := 3) hx hb hts qX4_hasCell_X4 hown hK hP 0 rfl rfl 2 (by decide) (hts _ kX4_hasCell_0) (fun _ h9 => h9) rfl dX4_hasCell_1 ?_
  refine lv_iload_n hx hb dX4_hasCell_4 rfl (lv_at hl 1 rfl) ?_
  obtain ⟨b1, e2, h⟩ := zz_b h
  refine zVi (As := [.int x1]) (rest := []) (C := RX6) (wr := [(a_t, .inr (4, [.ref a_t_way, .ref a_t_guns, .ref a_t_runners])), (a_t_way, .inr (9, [.ref a_t_way_places, .ref a_t_way_bearings, .ref a_t_way_cuts, .ref a_t_way_deaths, .int t_way_mats]))]) [1] [0, 2] 0 ⟨hx, hb, hml, hown, hts⟩ (mX6_has l D cB cI cZ a_t_runners a_t_runners_facts a_t_runners_splits a_t_runners_torn a_t_runners_dropped a_t_runners_waved a_t_runners_struck a_t_runners_strikingOrder t_runners_entered t_runners_strikings s.heap.size x1 b1 e2) (cwV 1 hts gX4_hasCell_X6_has rfl rfl rfl (by decide +kernel) ⟨Nat.le_of_ble_eq_true rfl, Nat.le_of_ble_eq_true rfl⟩) hK hN hZ hP hD hS hA rfl rfl rfl rfl rfl rfl rfl rfl hl.1 rfl (lv_room (Nat.le_of_ble_eq_true rfl)) dX4_hasCell_5 ⟨Nat.le_of_ble_eq_true rfl, Nat.le_of_ble_eq_true rfl⟩ (fun H locs hP hD hS => ?_)
  have hP : va_P D vwCl [(a_t, .inr (4, [.ref a_t_way, .ref a_t_guns, .ref a_t_runners])), (a_t_way, .inr (9, [.ref a_t_way_places, .ref a_t_way_bearings, .ref a_t_way_cuts, .ref a_t_way_deaths, .int t_way_mats])), (a_t_runners, .inr (6, [.ref a_t_runners_facts, .ref a_t_runners_splits, .ref a_t_runners_torn, .ref a_t_runners_dropped, .ref a_t_runners_waved, .ref a_t_runners_struck, .ref a_t_runners_strikingOrder, .int t_runners_entered, .int t_runners_strikings]))] H := hP
  have hD : va_D A [(a_t, .inr (4, [.ref a_t_way, .ref a_t_guns, .ref a_t_runners])), (a_t_way, .inr (9, [.ref a_t_way_places, .ref a_t_way_bearings, .ref a_t_way_cuts, .ref a_t_way_deaths, .int t_way_mats])), (a_t_runners, .inr (6, [.ref a_t_runners_facts, .ref a_t_runners_splits, .ref a_t_runners_torn, .ref a_t_runners_dropped, .ref a_t_runners_waved, .ref a_t_runners_struck, .ref a_t_runners_strikingOrder, .int t_runners_entered, .int t_runners_strikings]))] := hD
  refine lv_if_eq (tgt := 26) hx hb dX4_hasCell_8 (by decide) (fun c3 => ?_) (fun c3 => ?_)
  · have h := zz_t h c3
    refine lv_iconst (v := (nI 0)) hx hb dX4_hasCell_26 rfl ?_
    have j0_ := Option.some.inj h
    subst j0_
    exact W.zret (v := (nI 0)) hx hb hr rfl (fun t ht hW => ⟨⟨_, (), rfl, rfl, zPost.of hP hD hK ht hW [0, 2, 1] rfl rfl rfl⟩, hS.F ht⟩) hS.2.2 dX4_hasCell_27
  · have h := zz_f h c3
    refine lv_aload_n hx hb dX4_hasCell_11 rfl (lv_at hl 0 rfl) ?_
    refine va_get (D := D) (ci := 4) (C := RX4) (T := TX4) (N := 3) hx hb hts qX4_hasCell_X4 hown hK hP 0 rfl rfl 0 (by decide) (hts _ kX4_hasCell_2) (fun _ h9 => h9) rfl dX4_hasCell_12 ?_
    refine lv_iload_n hx hb dX4_hasCell_15 rfl (lv_at hl 2 rfl) ?_
    obtain ⟨b4, e5, h⟩ := zz_b h
    refine zVi (As := [.int x2]) (rest := []) (C := RX9) (wr := [(a_t, .inr (4, [.ref a_t_way, .ref a_t_guns, .ref a_t_runners])), (a_t_runners, .inr (6, [.ref a_t_runners_facts, .ref a_t_runners_splits, .ref a_t_runners_torn, .ref a_t_runners_dropped, .ref a_t_runners_waved, .ref a_t_runners_struck, .ref a_t_runners_strikingOrder, .int t_runners_entered, .int t_runners_strikings]))]) [1] [0, 2] 0 ⟨hx, hb, hml, hown, hts⟩ (mX9_has l D cB cI cZ a_t_way a_t_way_places a_t_way_bearings a_t_way_cuts a_t_way_deaths t_way_mats H.size x2 b4 e5) (cwV 1 hts gX4_hasCell_X9_has rfl rfl rfl (by decide +kernel) ⟨Nat.le_of_ble_eq_true rfl, Nat.le_of_ble_eq_true rfl⟩) hK hN hZ hP hD hS hA rfl rfl rfl rfl rfl rfl rfl rfl hl.1 rfl (lv_room (Nat.le_of_ble_eq_true rfl)) dX4_hasCell_16 ⟨Nat.le_of_ble_eq_true rfl, Nat.le_of_ble_eq_true rfl⟩ (fun H locs hP hD hS => ?_)
    have hP : va_P D vwCl [(a_t, .inr (4, [.ref a_t_way, .ref a_t_guns, .ref a_t_runners])), (a_t_runners, .inr (6, [.ref a_t_runners_facts, .ref a_t_runners_splits, .ref a_t_runners_torn, .ref a_t_runners_dropped, .ref a_t_runners_waved, .ref a_t_runners_struck, .ref a_t_runners_strikingOrder, .int t_runners_entered, .int t_runners_strikings])), (a_t_way, .inr (9, [.ref a_t_way_places, .ref a_t_way_bearings, .ref a_t_way_cuts, .ref a_t_way_deaths, .int t_way_mats]))] H := hP
    have hD : va_D A [(a_t, .inr (4, [.ref a_t_way, .ref a_t_guns, .ref a_t_runners])), (a_t_runners, .inr (6, [.ref a_t_runners_facts, .ref a_t_runners_splits, .ref a_t_runners_torn, .ref a_t_runners_dropped, .ref a_t_runners_waved, .ref a_t_runners_struck, .ref a_t_runners_strikingOrder, .int t_runners_entered, .int t_runners_strikings])), (a_t_way, .inr (9, [.ref a_t_way_places, .ref a_t_way_bearings, .ref a_t_way_cuts, .ref a_t_way_deaths, .int t_way_mats]))] := hD
    refine lv_if_eq (tgt := 26) hx hb dX4_hasCell_19 (by decide) (fun c6 => ?_) (fun c6 => ?_)
    · have h := zz_t h c6
      refine lv_iconst (v := (nI 0)) hx hb dX4_hasCell_26 rfl ?_
      have j0_ := Option.some.inj h
      subst j0_
      exact W.zret (v := (nI 0)) hx hb hr rfl (fun t ht hW => ⟨⟨_, (), rfl, rfl, zPost.of hP hD hK ht hW [0, 1, 2] rfl rfl rfl⟩, hS.F ht⟩) hS.2.2 dX4_hasCell_27
    · have h := zz_f h c6
      refine lv_iconst (v := (nI 1)) hx hb dX4_hasCell_22 rfl ?_
      refine lv_goto (tgt := 27) hx hb dX4_hasCell_23 (by decide) ?_
      have j0_ := Option.some.inj h
      subst j0_
      exact W.zret (v := (nI 1)) hx hb hr rfl (fun t ht hW => ⟨⟨_, (), rfl, rfl, zPost.of hP hD hK ht hW [0, 1, 2] rfl rfl rfl⟩, hS.F ht⟩) hS.2.2 dX4_hasCell_27
/-! RunDesk$Race.latestOf -/
theorem dX4_latestOf_0 : decode cX4_latestOf 0 = .ok (.aload_n 0, 1) := by decide +kernel
theorem dX4_latestOf_1 : decode cX4_latestOf 1 = .ok (.getfield 12, 3) := by decide +kernel
theorem dX4_latestOf_4 : decode cX4_latestOf 4 = .ok (.invokevirtual 94, 3) := by decide +kernel
theorem dX4_latestOf_7 : decode cX4_latestOf 7 = .ok (.iconst 1, 1) := by decide +kernel
theorem dX4_latestOf_8 : decode cX4_latestOf 8 = .ok (.isub, 1) := by decide +kernel
theorem dX4_latestOf_9 : decode cX4_latestOf 9 = .ok (.istore_n 2, 1) := by decide +kernel
theorem dX4_latestOf_10 : decode cX4_latestOf 10 = .ok (.iload_n 2, 1) := by decide +kernel
theorem dX4_latestOf_11 : decode cX4_latestOf 11 = .ok (.ifCond .le 24, 3) := by decide +kernel
theorem dX4_latestOf_14 : decode cX4_latestOf 14 = .ok (.aload_n 0, 1) := by decide +kernel
theorem dX4_latestOf_15 : decode cX4_latestOf 15 = .ok (.getfield 28, 3) := by decide +kernel
theorem dX4_latestOf_18 : decode cX4_latestOf 18 = .ok (.iload_n 1, 1) := by decide +kernel
theorem dX4_latestOf_19 : decode cX4_latestOf 19 = .ok (.iload_n 2, 1) := by decide +kernel
theorem dX4_latestOf_20 : decode cX4_latestOf 20 = .ok (.invokevirtual 91, 3) := by decide +kernel
theorem dX4_latestOf_23 : decode cX4_latestOf 23 = .ok (.iconst (-1), 1) := by decide +kernel
theorem dX4_latestOf_24 : decode cX4_latestOf 24 = .ok (.if_icmp .eq 5, 3) := by decide +kernel
theorem dX4_latestOf_27 : decode cX4_latestOf 27 = .ok (.iload_n 2, 1) := by decide +kernel
theorem dX4_latestOf_28 : decode cX4_latestOf 28 = .ok (.ireturn, 1) := by decide +kernel
theorem dX4_latestOf_29 : decode cX4_latestOf 29 = .ok (.iinc 2 (-1), 3) := by decide +kernel
theorem dX4_latestOf_32 : decode cX4_latestOf 32 = .ok (.goto (-22), 3) := by decide +kernel
theorem dX4_latestOf_35 : decode cX4_latestOf 35 = .ok (.aload_n 0, 1) := by decide +kernel
theorem dX4_latestOf_36 : decode cX4_latestOf 36 = .ok (.iload_n 1, 1) := by decide +kernel
theorem dX4_latestOf_37 : decode cX4_latestOf 37 = .ok (.invokevirtual 67, 3) := by decide +kernel
theorem dX4_latestOf_40 : decode cX4_latestOf 40 = .ok (.iconst (-1), 1) := by decide +kernel
theorem dX4_latestOf_41 : decode cX4_latestOf 41 = .ok (.if_icmp .eq 7, 3) := by decide +kernel
theorem dX4_latestOf_44 : decode cX4_latestOf 44 = .ok (.iconst 0, 1) := by decide +kernel
theorem dX4_latestOf_45 : decode cX4_latestOf 45 = .ok (.goto 4, 3) := by decide +kernel
theorem dX4_latestOf_48 : decode cX4_latestOf 48 = .ok (.iconst (-1), 1) := by decide +kernel
theorem dX4_latestOf_49 : decode cX4_latestOf 49 = .ok (.ireturn, 1) := by decide +kernel
set_option maxRecDepth 20000 in
theorem ggX4_latestOf_X9_size : GoodIn wsX4_latestOf wsX9_size := goodIn_r _ [7, 8, 44, 45, 46, 47, 48] (by decide +kernel) (by decide +kernel)
set_option maxRecDepth 20000 in
theorem gX4_latestOf_X9_size : GoodIn wsX4_latestOf (wsV RX4 94 RX9 yX9_size wsX9_size) := goodIn_app (goodIn_of _ (by decide +kernel)) ggX4_latestOf_X9_size
set_option maxRecDepth 20000 in
theorem ggX4_latestOf_X6_splitAt : GoodIn wsX4_latestOf wsX6_splitAt := goodIn_r _ [13, 14, 15, 16, 17, 12, 18, 19, 49, 50, 51, 52, 53, 54, 55, 56, 57] (by decide +kernel) (by decide +kernel)
set_option maxRecDepth 20000 in
theorem gX4_latestOf_X6_splitAt : GoodIn wsX4_latestOf (wsV RX4 91 RX6 yX6_splitAt wsX6_splitAt) := goodIn_app (goodIn_of _ (by decide +kernel)) ggX4_latestOf_X6_splitAt
set_option maxRecDepth 20000 in
theorem ggX4_latestOf_X4_startOf : GoodIn wsX4_latestOf wsX4_startOf := goodIn_r _ [24, 2, 9, 10, 11, 12, 13, 14, 15, 16, 17, 18, 19, 25, 26, 27, 23, 28, 29, 30, 31, 32, 33, 34, 35, 36, 37, 38, 39, 40, 41, 42, 43, 49, 50, 51, 52, 53, 54, 55, 56, 57, 58] (by decide +kernel) (by decide +kernel)
set_option maxRecDepth 20000 in
theorem gX4_latestOf_X4_startOf : GoodIn wsX4_latestOf (wsV RX4 67 RX4 yX4_startOf wsX4_startOf) := goodIn_app (goodIn_of _ (by decide +kernel)) ggX4_latestOf_X4_startOf
theorem kX4_latestOf_0 : (.fieldLink RX4 12 "RunDesk$Race" "way" "LRunDesk$Way;" : Cond) ∈ wsX4_latestOf := List.mem_of_getElem? (i := 1) (by decide +kernel)
theorem qX4_latestOf_X4 : ∀ w ∈ wsX40, w ∈ wsX4_latestOf := fun _ h => List.mem_cons_of_mem _ (List.mem_append_left _ (List.mem_append_left _ (List.mem_append_left _ (List.mem_append_right _ (h)))))
theorem kX4_latestOf_2 : (.fieldLink RX4 28 "RunDesk$Race" "runners" "LRunDesk$Runners;" : Cond) ∈ wsX4_latestOf := List.mem_of_getElem? (i := 2) (by decide +kernel)
set_option maxHeartbeats 4000000 in
set_option maxRecDepth 100000 in
theorem mX4_latestOf (l : Launch) (D : va_G) (cB cI cZ : ClassId) (a_t : Nat) (a_t_way : Nat) (a_t_guns : Nat) (a_t_runners : Nat) (a_t_guns_ticks : Nat) (a_t_runners_facts : Nat) (a_t_runners_splits : Nat) (a_t_runners_torn : Nat) (a_t_runners_dropped : Nat) (a_t_runners_waved : Nat) (a_t_runners_struck : Nat) (a_t_runners_strikingOrder : Nat) (a_t_way_places : Nat) (a_t_way_bearings : Nat) (a_t_way_cuts : Nat) (a_t_way_deaths : Nat) (t_guns_ticks : Nat → Int32) (t_runners_entered : Int32) (t_runners_strikings : Int32) (t_runners_facts : Nat → Int32) (t_runners_splits : Nat → Int32) (t_way_mats : Int32) (sz : Nat) (x1 : Int32) (N : Nat) (r0 : Int32) (h : fX4_latestOf N t_guns_ticks t_runners_entered t_runners_facts t_runners_splits t_way_mats x1 = some (r0)) : Met l yX4_latestOf wsX4_latestOf ({ frames := 3, cells := 0, slots := 0, locals := 65 } : Room) (va_Pc [.ref a_t, .int x1] (zPre D (zT cB cI cZ) [(a_t, .inr (4, [.ref a_t_way, .ref a_t_guns, .ref a_t_runners])), (a_t_guns, .inr (2, [.ref a_t_guns_ticks])), (a_t_guns_ticks, .inl (cI, 6, .inl t_guns_ticks)), (a_t_runners, .inr (6, [.ref a_t_runners_facts, .ref a_t_runners_splits, .ref a_t_runners_torn, .ref a_t_runners_dropped, .ref a_t_runners_waved, .ref a_t_runners_struck, .ref a_t_runners_strikingOrder, .int t_runners_entered, .int t_runners_strikings])), (a_t_runners_facts, .inl (cI, 360, .inl t_runners_facts)), (a_t_runners_splits, .inl (cI, 720, .inl t_runners_splits)), (a_t_way, .inr (9, [.ref a_t_way_places, .ref a_t_way_bearings, .ref a_t_way_cuts, .ref a_t_way_deaths, .int t_way_mats]))] sz)) (zQi r0 D (zT cB cI cZ) [(a_t, .inr (4, [.ref a_t_way, .ref a_t_guns, .ref a_t_runners])), (a_t_guns, .inr (2, [.ref a_t_guns_ticks])), (a_t_guns_ticks, .inl (cI, 6, .inl t_guns_ticks)), (a_t_runners, .inr (6, [.ref a_t_runners_facts, .ref a_t_runners_splits, .ref a_t_runners_torn, .ref a_t_runners_dropped, .ref a_t_runners_waved, .ref a_t_runners_struck, .ref a_t_runners_strikingOrder, .int t_runners_entered, .int t_runners_strikings])), (a_t_runners_facts, .inl (cI, 360, .inl t_runners_facts)), (a_t_runners_splits, .inl (cI, 720, .inl t_runners_splits)), (a_t_way, .inr (9, [.ref a_t_way_places, .ref a_t_way_bearings, .ref a_t_way_cuts, .ref a_t_way_deaths, .int t_way_mats]))] (va_A [(a_t, .inr (4, [.ref a_t_way, .ref a_t_guns, .ref a_t_runners])), (a_t_guns, .inr (2, [.ref a_t_guns_ticks])), (a_t_guns_ticks, .inl (cI, 6, .inl t_guns_ticks)), (a_t_runners, .inr (6, [.ref a_t_runners_facts, .ref a_t_runners_splits, .ref a_t_runners_torn, .ref a_t_runners_dropped, .ref a_t_runners_waved, .ref a_t_runners_struck, .ref a_t_runners_strikingOrder, .int t_runners_entered, .int t_runners_strikings])), (a_t_runners_facts, .inl (cI, 360, .inl t_runners_facts)), (a_t_runners_splits, .inl (cI, 720, .inl t_runners_splits)), (a_t_way, .inr (9, [.ref a_t_way_places, .ref a_t_way_bearings, .ref a_t_way_cuts, .ref a_t_way_deaths, .int t_way_mats]))] sz)) 0 0 (va_A [(a_t, .inr (4, [.ref a_t_way, .ref a_t_guns, .ref a_t_runners])), (a_t_guns, .inr (2, [.ref a_t_guns_ticks])), (a_t_guns_ticks, .inl (cI, 6, .inl t_guns_ticks)), (a_t_runners, .inr (6, [.ref a_t_runners_facts, .ref a_t_runners_splits, .ref a_t_runners_torn, .ref a_t_runners_dropped, .ref a_t_runners_waved, .ref a_t_runners_struck, .ref a_t_runners_strikingOrder, .int t_runners_entered, .int t_runners_strikings])), (a_t_runners_facts, .inl (cI, 360, .inl t_runners_facts)), (a_t_runners_splits, .inl (cI, 720, .inl t_runners_splits)), (a_t_way, .inr (9, [.ref a_t_way_places, .ref a_t_way_bearings, .ref a_t_way_cuts, .ref a_t_way_deaths, .int t_way_mats]))] sz) := by
  refine Met.ofW (cc := cX4_latestOf) (maxL := 3) (ret := (some .int)) (by decide) rfl ?_
  intro p e s m args below meth c s₁ B hml hv
  obtain ⟨rfl, hsz, hP, hK, hN, hZ, hD0⟩ := hv
  have hx := B.exec
  have hb := B.bytes
  have hr := B.returns
  have hts := atoms_spec (ws := wsX4_latestOf) B.pre
  have hown : s.vm.findClass RX4 = some m.cls := findClass_of_methodNamed B.named
  have hlocks := B.notSynchronized
  subst hsz
  have hD := hD0.self (sz := s.heap.size)
  generalize hAe : va_A [(a_t, .inr (4, [.ref a_t_way, .ref a_t_guns, .ref a_t_runners])), (a_t_guns, .inr (2, [.ref a_t_guns_ticks])), (a_t_guns_ticks, .inl (cI, 6, .inl t_guns_ticks)), (a_t_runners, .inr (6, [.ref a_t_runners_facts, .ref a_t_runners_splits, .ref a_t_runners_torn, .ref a_t_runners_dropped, .ref a_t_runners_waved, .ref a_t_runners_struck, .ref a_t_runners_strikingOrder, .int t_runners_entered, .int t_runners_strikings])), (a_t_runners_facts, .inl (cI, 360, .inl t_runners_facts)), (a_t_runners_splits, .inl (cI, 720, .inl t_runners_splits)), (a_t_way, .inr (9, [.ref a_t_way_places, .ref a_t_way_bearings, .ref a_t_way_cuts, .ref a_t_way_deaths, .int t_way_mats]))] s.heap.size = A at hD hZ ⊢
  have hA : ∀ q : Nat, s.heap.size ≤ q → A q := fun q h => by rw [← hAe]; exact Or.inr h
  have hS : va_S A s.heap s.heap [] := va_S.rf
  have hl := lv_entry ([.ref a_t, .int x1]) (n := 3) (Nat.le_of_ble_eq_true rfl)
  rw [lg_entry_eq]
  generalize (lg_sl ([.ref a_t, .int x1]) ++ List.replicate (3 - (lg_sl ([.ref a_t, .int x1])).length) Slot.unset).toArray = ls at hl ⊢
  have hl : lv_has ls 3 [(0, .ref a_t), (1, .int x1)] := hl
  unfold fX4_latestOf at h
  refine lv_aload_n hx hb dX4_latestOf_0 rfl (lv_at hl 0 rfl) ?_
  refine va_get (D := D) (ci := 4) (C := RX4) (T := TX4) (N := 3) hx hb hts qX4_latestOf_X4 hown hK hP 0 rfl rfl 0 (by decide) (hts _ kX4_latestOf_0) (fun _ h9 => h9) rfl dX4_latestOf_1 ?_
  obtain ⟨r1, e2, h⟩ := zz_b h
  refine zVi (As := []) (rest := []) (C := RX9) (wr := [(a_t, .inr (4, [.ref a_t_way, .ref a_t_guns, .ref a_t_runners])), (a_t_guns, .inr (2, [.ref a_t_guns_ticks])), (a_t_guns_ticks, .inl (cI, 6, .inl t_guns_ticks)), (a_t_runners, .inr (6, [.ref a_t_runners_facts, .ref a_t_runners_splits, .ref a_t_runners_torn, .ref a_t_runners_dropped, .ref a_t_runners_waved, .ref a_t_runners_struck, .ref a_t_runners_strikingOrder, .int t_runners_entered, .int t_runners_strikings])), (a_t_runners_facts, .inl (cI, 360, .inl t_runners_facts)), (a_t_runners_splits, .inl (cI, 720, .inl t_runners_splits))]) [6] [0, 1, 2, 3, 4, 5] 0 ⟨hx, hb, hml, hown, hts⟩ (mX9_size l D cB cI cZ a_t_way a_t_way_places a_t_way_bearings a_t_way_cuts a_t_way_deaths t_way_mats s.heap.size r1 e2) (cwV 0 hts gX4_latestOf_X9_size rfl rfl rfl (by decide +kernel) ⟨Nat.le_of_ble_eq_true rfl, Nat.le_of_ble_eq_true rfl⟩) hK hN hZ hP hD hS hA rfl rfl rfl rfl rfl rfl rfl rfl hl.1 rfl (lv_room (Nat.le_of_ble_eq_true rfl)) dX4_latestOf_4 ⟨Nat.le_of_ble_eq_true rfl, Nat.le_of_ble_eq_true rfl⟩ (fun H locs hP hD hS => ?_)
  have hP : va_P D vwCl [(a_t, .inr (4, [.ref a_t_way, .ref a_t_guns, .ref a_t_runners])), (a_t_guns, .inr (2, [.ref a_t_guns_ticks])), (a_t_guns_ticks, .inl (cI, 6, .inl t_guns_ticks)), (a_t_runners, .inr (6, [.ref a_t_runners_facts, .ref a_t_runners_splits, .ref a_t_runners_torn, .ref a_t_runners_dropped, .ref a_t_runners_waved, .ref a_t_runners_struck, .ref a_t_runners_strikingOrder, .int t_runners_entered, .int t_runners_strikings])), (a_t_runners_facts, .inl (cI, 360, .inl t_runners_facts)), (a_t_runners_splits, .inl (cI, 720, .inl t_runners_splits)), (a_t_way, .inr (9, [.ref a_t_way_places, .ref a_t_way_bearings, .ref a_t_way_cuts, .ref a_t_way_deaths, .int t_way_mats]))] H := hP
  have hD : va_D A [(a_t, .inr (4, [.ref a_t_way, .ref a_t_guns, .ref a_t_runners])), (a_t_guns, .inr (2, [.ref a_t_guns_ticks])), (a_t_guns_ticks, .inl (cI, 6, .inl t_guns_ticks)), (a_t_runners, .inr (6, [.ref a_t_runners_facts, .ref a_t_runners_splits, .ref a_t_runners_torn, .ref a_t_runners_dropped, .ref a_t_runners_waved, .ref a_t_runners_struck, .ref a_t_runners_strikingOrder, .int t_runners_entered, .int t_runners_strikings])), (a_t_runners_facts, .inl (cI, 360, .inl t_runners_facts)), (a_t_runners_splits, .inl (cI, 720, .inl t_runners_splits)), (a_t_way, .inr (9, [.ref a_t_way_places, .ref a_t_way_bearings, .ref a_t_way_cuts, .ref a_t_way_deaths, .int t_way_mats]))] := hD
  refine lv_iconst (v := (nI 1)) hx hb dX4_latestOf_7 rfl ?_
  refine lv_isub hx hb dX4_latestOf_8 ?_
  refine lv_istore_n (lv' := [(2, .int (r1 - (nI 1))), (0, .ref a_t), (1, .int x1)]) hx hb dX4_latestOf_9 rfl hl (by decide) rfl (fun ls hl => ?_)
  have X10_35 : ∀ (v2_10 : Int32) (H : Heap) (locs : List Loc) (ls : Array Slot), ((fX4_startOf t_guns_ticks t_runners_entered t_runners_facts t_runners_splits x1).bind (fun r3 => (if r3 = (-1 : Int32) then some ((-1 : Int32)) else some ((nI 0))))) = some (r0) → va_P D vwCl [(a_t, .inr (4, [.ref a_t_way, .ref a_t_guns, .ref a_t_runners])), (a_t_guns, .inr (2, [.ref a_t_guns_ticks])), (a_t_guns_ticks, .inl (cI, 6, .inl t_guns_ticks)), (a_t_runners, .inr (6, [.ref a_t_runners_facts, .ref a_t_runners_splits, .ref a_t_runners_torn, .ref a_t_runners_dropped, .ref a_t_runners_waved, .ref a_t_runners_struck, .ref a_t_runners_strikingOrder, .int t_runners_entered, .int t_runners_strikings])), (a_t_runners_facts, .inl (cI, 360, .inl t_runners_facts)), (a_t_runners_splits, .inl (cI, 720, .inl t_runners_splits)), (a_t_way, .inr (9, [.ref a_t_way_places, .ref a_t_way_bearings, .ref a_t_way_cuts, .ref a_t_way_deaths, .int t_way_mats]))] H → va_D A [(a_t, .inr (4, [.ref a_t_way, .ref a_t_guns, .ref a_t_runners])), (a_t_guns, .inr (2, [.ref a_t_guns_ticks])), (a_t_guns_ticks, .inl (cI, 6, .inl t_guns_ticks)), (a_t_runners, .inr (6, [.ref a_t_runners_facts, .ref a_t_runners_splits, .ref a_t_runners_torn, .ref a_t_runners_dropped, .ref a_t_runners_waved, .ref a_t_runners_struck, .ref a_t_runners_strikingOrder, .int t_runners_entered, .int t_runners_strikings])), (a_t_runners_facts, .inl (cI, 360, .inl t_runners_facts)), (a_t_runners_splits, .inl (cI, 720, .inl t_runners_splits)), (a_t_way, .inr (9, [.ref a_t_way_places, .ref a_t_way_bearings, .ref a_t_way_cuts, .ref a_t_way_deaths, .int t_way_mats]))] → va_S A s.heap H locs → lv_has ls 3 [(2, .int v2_10), (0, .ref a_t), (1, .int x1)] → W p l e (headSpec wsX4_latestOf ({ frames := 3, cells := 0, slots := 0, locals := 65 } : Room)).room s m #[Value.ref a_t, Value.int x1] below meth c H locs 0 0 (MQ below (zQi r0 D (zT cB cI cZ) [(a_t, .inr (4, [.ref a_t_way, .ref a_t_guns, .ref a_t_runners])), (a_t_guns, .inr (2, [.ref a_t_guns_ticks])), (a_t_guns_ticks, .inl (cI, 6, .inl t_guns_ticks)), (a_t_runners, .inr (6, [.ref a_t_runners_facts, .ref a_t_runners_splits, .ref a_t_runners_torn, .ref a_t_runners_dropped, .ref a_t_runners_waved, .ref a_t_runners_struck, .ref a_t_runners_strikingOrder, .int t_runners_entered, .int t_runners_strikings])), (a_t_runners_facts, .inl (cI, 360, .inl t_runners_facts)), (a_t_runners_splits, .inl (cI, 720, .inl t_runners_splits)), (a_t_way, .inr (9, [.ref a_t_way_places, .ref a_t_way_bearings, .ref a_t_way_cuts, .ref a_t_way_deaths, .int t_way_mats]))] A) #[Value.ref a_t, Value.int x1] s 0 0 A) (F0 m 35 ls []) := by
    intro v2_10 H locs ls h hP hD hS hl
    refine lv_aload_n hx hb dX4_latestOf_35 rfl (lv_at hl 1 rfl) ?_
    refine lv_iload_n hx hb dX4_latestOf_36 rfl (lv_at hl 2 rfl) ?_
    obtain ⟨r3, e4, h⟩ := zz_b h
    refine zVi (As := [.int x1]) (rest := []) (C := RX4) (wr := [(a_t_way, .inr (9, [.ref a_t_way_places, .ref a_t_way_bearings, .ref a_t_way_cuts, .ref a_t_way_deaths, .int t_way_mats]))]) [0, 1, 2, 3, 4, 5] [6] 0 ⟨hx, hb, hml, hown, hts⟩ (mX4_startOf l D cB cI cZ a_t a_t_way a_t_guns a_t_runners a_t_guns_ticks a_t_runners_facts a_t_runners_splits a_t_runners_torn a_t_runners_dropped a_t_runners_waved a_t_runners_struck a_t_runners_strikingOrder t_guns_ticks t_runners_entered t_runners_strikings t_runners_facts t_runners_splits H.size x1 r3 e4) (cwV 1 hts gX4_latestOf_X4_startOf rfl rfl rfl (by decide +kernel) ⟨Nat.le_of_ble_eq_true rfl, Nat.le_of_ble_eq_true rfl⟩) hK hN hZ hP hD hS hA rfl rfl rfl rfl rfl rfl rfl rfl hl.1 rfl (lv_room (Nat.le_of_ble_eq_true rfl)) dX4_latestOf_37 ⟨Nat.le_of_ble_eq_true rfl, Nat.le_of_ble_eq_true rfl⟩ (fun H locs hP hD hS => ?_)
    have hP : va_P D vwCl [(a_t_way, .inr (9, [.ref a_t_way_places, .ref a_t_way_bearings, .ref a_t_way_cuts, .ref a_t_way_deaths, .int t_way_mats])), (a_t, .inr (4, [.ref a_t_way, .ref a_t_guns, .ref a_t_runners])), (a_t_guns, .inr (2, [.ref a_t_guns_ticks])), (a_t_guns_ticks, .inl (cI, 6, .inl t_guns_ticks)), (a_t_runners, .inr (6, [.ref a_t_runners_facts, .ref a_t_runners_splits, .ref a_t_runners_torn, .ref a_t_runners_dropped, .ref a_t_runners_waved, .ref a_t_runners_struck, .ref a_t_runners_strikingOrder, .int t_runners_entered, .int t_runners_strikings])), (a_t_runners_facts, .inl (cI, 360, .inl t_runners_facts)), (a_t_runners_splits, .inl (cI, 720, .inl t_runners_splits))] H := hP
    have hD : va_D A [(a_t_way, .inr (9, [.ref a_t_way_places, .ref a_t_way_bearings, .ref a_t_way_cuts, .ref a_t_way_deaths, .int t_way_mats])), (a_t, .inr (4, [.ref a_t_way, .ref a_t_guns, .ref a_t_runners])), (a_t_guns, .inr (2, [.ref a_t_guns_ticks])), (a_t_guns_ticks, .inl (cI, 6, .inl t_guns_ticks)), (a_t_runners, .inr (6, [.ref a_t_runners_facts, .ref a_t_runners_splits, .ref a_t_runners_torn, .ref a_t_runners_dropped, .ref a_t_runners_waved, .ref a_t_runners_struck, .ref a_t_runners_strikingOrder, .int t_runners_entered, .int t_runners_strikings])), (a_t_runners_facts, .inl (cI, 360, .inl t_runners_facts)), (a_t_runners_splits, .inl (cI, 720, .inl t_runners_splits))] := hD
    refine lv_iconst (v := (-1 : Int32)) hx hb dX4_latestOf_40 rfl ?_
    refine lv_icmp_eq (tgt := 48) hx hb dX4_latestOf_41 (by decide) (fun c5 => ?_) (fun c5 => ?_)
    · have h := zz_t h c5
      refine lv_iconst (v := (-1 : Int32)) hx hb dX4_latestOf_48 rfl ?_
      have j0_ := Option.some.inj h
      subst j0_
      exact W.iret (v := (-1 : Int32)) hx hb hr (fun t ht hW => ⟨⟨_, (), rfl, rfl, zPost.of hP hD hK ht hW [1, 2, 3, 4, 5, 6, 0] rfl rfl rfl⟩, hS.F ht⟩) hS.2.2 dX4_latestOf_49
    · have h := zz_f h c5
      refine lv_iconst (v := (nI 0)) hx hb dX4_latestOf_44 rfl ?_
      refine lv_goto (tgt := 49) hx hb dX4_latestOf_45 (by decide) ?_
      have j0_ := Option.some.inj h
      subst j0_
      exact W.iret (v := (nI 0)) hx hb hr (fun t ht hW => ⟨⟨_, (), rfl, rfl, zPost.of hP hD hK ht hW [1, 2, 3, 4, 5, 6, 0] rfl rfl rfl⟩, hS.F ht⟩) hS.2.2 dX4_latestOf_49
  have L10 : ∀ (n : Nat) (v2_10 : Int32) (H : Heap) (locs : List Loc) (ls : Array Slot), fX4_latestOf_L10 t_runners_entered t_runners_splits x1 (fun (v2_10 : Int32) => ((fX4_startOf t_guns_ticks t_runners_entered t_runners_facts t_runners_splits x1).bind (fun r3 => (if r3 = (-1 : Int32) then some ((-1 : Int32)) else some ((nI 0)))))) n v2_10 = some (r0) → va_P D vwCl [(a_t, .inr (4, [.ref a_t_way, .ref a_t_guns, .ref a_t_runners])), (a_t_guns, .inr (2, [.ref a_t_guns_ticks])), (a_t_guns_ticks, .inl (cI, 6, .inl t_guns_ticks)), (a_t_runners, .inr (6, [.ref a_t_runners_facts, .ref a_t_runners_splits, .ref a_t_runners_torn, .ref a_t_runners_dropped, .ref a_t_runners_waved, .ref a_t_runners_struck, .ref a_t_runners_strikingOrder, .int t_runners_entered, .int t_runners_strikings])), (a_t_runners_facts, .inl (cI, 360, .inl t_runners_facts)), (a_t_runners_splits, .inl (cI, 720, .inl t_runners_splits)), (a_t_way, .inr (9, [.ref a_t_way_places, .ref a_t_way_bearings, .ref a_t_way_cuts, .ref a_t_way_deaths, .int t_way_mats]))] H → va_D A [(a_t, .inr (4, [.ref a_t_way, .ref a_t_guns, .ref a_t_runners])), (a_t_guns, .inr (2, [.ref a_t_guns_ticks])), (a_t_guns_ticks, .inl (cI, 6, .inl t_guns_ticks)), (a_t_runners, .inr (6, [.ref a_t_runners_facts, .ref a_t_runners_splits, .ref a_t_runners_torn, .ref a_t_runners_dropped, .ref a_t_runners_waved, .ref a_t_runners_struck, .ref a_t_runners_strikingOrder, .int t_runners_entered, .int t_runners_strikings])), (a_t_runners_facts, .inl (cI, 360, .inl t_runners_facts)), (a_t_runners_splits, .inl (cI, 720, .inl t_runners_splits)), (a_t_way, .inr (9, [.ref a_t_way_places, .ref a_t_way_bearings, .ref a_t_way_cuts, .ref a_t_way_deaths, .int t_way_mats]))] → va_S A s.heap H locs → lv_has ls 3 [(2, .int v2_10), (0, .ref a_t), (1, .int x1)] → W p l e (headSpec wsX4_latestOf ({ frames := 3, cells := 0, slots := 0, locals := 65 } : Room)).room s m #[Value.ref a_t, Value.int x1] below meth c H locs 0 0 (MQ below (zQi r0 D (zT cB cI cZ) [(a_t, .inr (4, [.ref a_t_way, .ref a_t_guns, .ref a_t_runners])), (a_t_guns, .inr (2, [.ref a_t_guns_ticks])), (a_t_guns_ticks, .inl (cI, 6, .inl t_guns_ticks)), (a_t_runners, .inr (6, [.ref a_t_runners_facts, .ref a_t_runners_splits, .ref a_t_runners_torn, .ref a_t_runners_dropped, .ref a_t_runners_waved, .ref a_t_runners_struck, .ref a_t_runners_strikingOrder, .int t_runners_entered, .int t_runners_strikings])), (a_t_runners_facts, .inl (cI, 360, .inl t_runners_facts)), (a_t_runners_splits, .inl (cI, 720, .inl t_runners_splits)), (a_t_way, .inr (9, [.ref a_t_way_places, .ref a_t_way_bearings, .ref a_t_way_cuts, .ref a_t_way_deaths, .int t_way_mats]))] A) #[Value.ref a_t, Value.int x1] s 0 0 A) (F0 m 10 ls []) := by
    intro n
    induction n with
    | zero => intro _ H locs ls h hP hD hS hl; cases h
    | succ n10 ih10 =>
      intro v2_10 H locs ls h hP hD hS hl
      rw [fX4_latestOf_L10.eq_2] at h
      refine lv_iload_n hx hb dX4_latestOf_10 rfl (lv_at hl 0 rfl) ?_
      refine lv_if_le (tgt := 35) hx hb dX4_latestOf_11 (by decide) (fun c6 => ?_) (fun c6 => ?_)
      · have h := zz_t h c6
        exact X10_35 v2_10 _ _ _ h (hP.sub [0, 1, 2, 3, 4, 5, 6] rfl) (hD.sub [0, 1, 2, 3, 4, 5, 6] rfl rfl) hS (lv_sub hl [0, 1, 2] rfl)
      · have h := zz_f h c6
        refine lv_aload_n hx hb dX4_latestOf_14 rfl (lv_at hl 1 rfl) ?_
        refine va_get (D := D) (ci := 4) (C := RX4) (T := TX4) (N := 3) hx hb hts qX4_latestOf_X4 hown hK hP 0 rfl rfl 2 (by decide) (hts _ kX4_latestOf_2) (fun _ h9 => h9) rfl dX4_latestOf_15 ?_
        refine lv_iload_n hx hb dX4_latestOf_18 rfl (lv_at hl 2 rfl) ?_
        refine lv_iload_n hx hb dX4_latestOf_19 rfl (lv_at hl 0 rfl) ?_
        obtain ⟨r7, e8, h⟩ := zz_b h
        refine zVi (As := [.int x1, .int v2_10]) (rest := []) (C := RX6) (wr := [(a_t, .inr (4, [.ref a_t_way, .ref a_t_guns, .ref a_t_runners])), (a_t_guns, .inr (2, [.ref a_t_guns_ticks])), (a_t_guns_ticks, .inl (cI, 6, .inl t_guns_ticks)), (a_t_runners_facts, .inl (cI, 360, .inl t_runners_facts)), (a_t_way, .inr (9, [.ref a_t_way_places, .ref a_t_way_bearings, .ref a_t_way_cuts, .ref a_t_way_deaths, .int t_way_mats]))]) [3, 5] [0, 1, 2, 4, 6] 0 ⟨hx, hb, hml, hown, hts⟩ (mX6_splitAt l D cB cI cZ a_t_runners a_t_runners_facts a_t_runners_splits a_t_runners_torn a_t_runners_dropped a_t_runners_waved a_t_runners_struck a_t_runners_strikingOrder t_runners_entered t_runners_strikings t_runners_splits H.size x1 v2_10 r7 e8) (cwV 2 hts gX4_latestOf_X6_splitAt rfl rfl rfl (by decide +kernel) ⟨Nat.le_of_ble_eq_true rfl, Nat.le_of_ble_eq_true rfl⟩) hK hN hZ hP hD hS hA rfl rfl rfl rfl rfl rfl rfl rfl hl.1 rfl (lv_room (Nat.le_of_ble_eq_true rfl)) dX4_latestOf_20 ⟨Nat.le_of_ble_eq_true rfl, Nat.le_of_ble_eq_true rfl⟩ (fun H locs hP hD hS => ?_)
        have hP : va_P D vwCl [(a_t, .inr (4, [.ref a_t_way, .ref a_t_guns, .ref a_t_runners])), (a_t_guns, .inr (2, [.ref a_t_guns_ticks])), (a_t_guns_ticks, .inl (cI, 6, .inl t_guns_ticks)), (a_t_runners_facts, .inl (cI, 360, .inl t_runners_facts)), (a_t_way, .inr (9, [.ref a_t_way_places, .ref a_t_way_bearings, .ref a_t_way_cuts, .ref a_t_way_deaths, .int t_way_mats])), (a_t_runners, .inr (6, [.ref a_t_runners_facts, .ref a_t_runners_splits, .ref a_t_runners_torn, .ref a_t_runners_dropped, .ref a_t_runners_waved, .ref a_t_runners_struck, .ref a_t_runners_strikingOrder, .int t_runners_entered, .int t_runners_strikings])), (a_t_runners_splits, .inl (cI, 720, .inl t_runners_splits))] H := hP
        have hD : va_D A [(a_t, .inr (4, [.ref a_t_way, .ref a_t_guns, .ref a_t_runners])), (a_t_guns, .inr (2, [.ref a_t_guns_ticks])), (a_t_guns_ticks, .inl (cI, 6, .inl t_guns_ticks)), (a_t_runners_facts, .inl (cI, 360, .inl t_runners_facts)), (a_t_way, .inr (9, [.ref a_t_way_places, .ref a_t_way_bearings, .ref a_t_way_cuts, .ref a_t_way_deaths, .int t_way_mats])), (a_t_runners, .inr (6, [.ref a_t_runners_facts, .ref a_t_runners_splits, .ref a_t_runners_torn, .ref a_t_runners_dropped, .ref a_t_runners_waved, .ref a_t_runners_struck, .ref a_t_runners_strikingOrder, .int t_runners_entered, .int t_runners_strikings])), (a_t_runners_splits, .inl (cI, 720, .inl t_runners_splits))] := hD
        refine lv_iconst (v := (-1 : Int32)) hx hb dX4_latestOf_23 rfl ?_
        refine lv_icmp_eq (tgt := 29) hx hb dX4_latestOf_24 (by decide) (fun c9 => ?_) (fun c9 => ?_)
        · have h := zz_t h c9
          refine lv_iinc (v := (v2_10 + (-1 : Int32))) (lv' := [(2, .int (v2_10 + (-1 : Int32))), (0, .ref a_t), (1, .int x1)]) hx hb dX4_latestOf_29 hl (k := 0) rfl rfl (by decide) rfl (fun ls hl => ?_)
          refine lv_goto (tgt := 10) hx hb dX4_latestOf_32 (by decide) ?_
          exact ih10 (v2_10 + (-1 : Int32)) _ _ _ h (hP.sub [0, 1, 2, 5, 3, 6, 4] rfl) (hD.sub [0, 1, 2, 5, 3, 6, 4] rfl rfl) hS (lv_sub hl [0, 1, 2] rfl)
        · have h := zz_f h c9
          refine lv_iload_n hx hb dX4_latestOf_27 rfl (lv_at hl 0 rfl) ?_
          have j0_ := Option.some.inj h
          subst j0_
          exact W.iret (v := v2_10) hx hb hr (fun t ht hW => ⟨⟨_, (), rfl, rfl, zPost.of hP hD hK ht hW [0, 1, 2, 5, 3, 6, 4] rfl rfl rfl⟩, hS.F ht⟩) hS.2.2 dX4_latestOf_28
  exact L10 N (r1 - (nI 1)) _ _ _ h hP hD hS hl
/-! RunDesk$Race.startIsGunsOf -/
theorem dX4_startIsGunsOf_0 : decode cX4_startIsGunsOf 0 = .ok (.aload_n 0, 1) := by decide +kernel
theorem dX4_startIsGunsOf_1 : decode cX4_startIsGunsOf 1 = .ok (.iload_n 1, 1) := by decide +kernel
theorem dX4_startIsGunsOf_2 : decode cX4_startIsGunsOf 2 = .ok (.invokevirtual 67, 3) := by decide +kernel
theorem dX4_startIsGunsOf_5 : decode cX4_startIsGunsOf 5 = .ok (.iconst (-1), 1) := by decide +kernel
theorem dX4_startIsGunsOf_6 : decode cX4_startIsGunsOf 6 = .ok (.if_icmp .ne 5, 3) := by decide +kernel
theorem dX4_startIsGunsOf_9 : decode cX4_startIsGunsOf 9 = .ok (.iconst (-1), 1) := by decide +kernel
theorem dX4_startIsGunsOf_10 : decode cX4_startIsGunsOf 10 = .ok (.ireturn, 1) := by decide +kernel
theorem dX4_startIsGunsOf_11 : decode cX4_startIsGunsOf 11 = .ok (.aload_n 0, 1) := by decide +kernel
theorem dX4_startIsGunsOf_12 : decode cX4_startIsGunsOf 12 = .ok (.getfield 28, 3) := by decide +kernel
theorem dX4_startIsGunsOf_15 : decode cX4_startIsGunsOf 15 = .ok (.iload_n 1, 1) := by decide +kernel
theorem dX4_startIsGunsOf_16 : decode cX4_startIsGunsOf 16 = .ok (.iconst 0, 1) := by decide +kernel
theorem dX4_startIsGunsOf_17 : decode cX4_startIsGunsOf 17 = .ok (.invokevirtual 91, 3) := by decide +kernel
theorem dX4_startIsGunsOf_20 : decode cX4_startIsGunsOf 20 = .ok (.iconst (-1), 1) := by decide +kernel
theorem dX4_startIsGunsOf_21 : decode cX4_startIsGunsOf 21 = .ok (.if_icmp .ne 7, 3) := by decide +kernel
theorem dX4_startIsGunsOf_24 : decode cX4_startIsGunsOf 24 = .ok (.iconst 1, 1) := by decide +kernel
theorem dX4_startIsGunsOf_25 : decode cX4_startIsGunsOf 25 = .ok (.goto 4, 3) := by decide +kernel
theorem dX4_startIsGunsOf_28 : decode cX4_startIsGunsOf 28 = .ok (.iconst 0, 1) := by decide +kernel
theorem dX4_startIsGunsOf_29 : decode cX4_startIsGunsOf 29 = .ok (.ireturn, 1) := by decide +kernel
set_option maxRecDepth 20000 in
theorem ggX4_startIsGunsOf_X4_startOf : GoodIn wsX4_startIsGunsOf wsX4_startOf := goodIn_r _ [6, 1, 7, 8, 9, 10, 11, 12, 13, 14, 15, 16, 17, 18, 19, 20, 5, 21, 22, 23, 24, 25, 26, 27, 28, 29, 30, 31, 32, 33, 34, 35, 36, 37, 38, 39, 40, 41, 42, 43, 44, 45, 46] (by decide +kernel) (by decide +kernel)
set_option maxRecDepth 20000 in
theorem gX4_startIsGunsOf_X4_startOf : GoodIn wsX4_startIsGunsOf (wsV RX4 67 RX4 yX4_startOf wsX4_startOf) := goodIn_app (goodIn_of _ (by decide +kernel)) ggX4_startIsGunsOf_X4_startOf
set_option maxRecDepth 20000 in
theorem ggX4_startIsGunsOf_X6_splitAt : GoodIn wsX4_startIsGunsOf wsX6_splitAt := goodIn_r _ [11, 12, 13, 14, 15, 10, 16, 17, 37, 38, 39, 40, 41, 42, 43, 44, 45] (by decide +kernel) (by decide +kernel)
set_option maxRecDepth 20000 in
theorem gX4_startIsGunsOf_X6_splitAt : GoodIn wsX4_startIsGunsOf (wsV RX4 91 RX6 yX6_splitAt wsX6_splitAt) := goodIn_app (goodIn_of _ (by decide +kernel)) ggX4_startIsGunsOf_X6_splitAt
theorem kX4_startIsGunsOf_0 : (.fieldLink RX4 28 "RunDesk$Race" "runners" "LRunDesk$Runners;" : Cond) ∈ wsX4_startIsGunsOf := List.mem_of_getElem? (i := 1) (by decide +kernel)
theorem qX4_startIsGunsOf_X4 : ∀ w ∈ wsX40, w ∈ wsX4_startIsGunsOf := fun _ h => List.mem_cons_of_mem _ (List.mem_append_left _ (List.mem_append_left _ (List.mem_append_right _ (h))))
set_option maxHeartbeats 4000000 in
set_option maxRecDepth 100000 in
theorem mX4_startIsGunsOf (l : Launch) (D : va_G) (cB cI cZ : ClassId) (a_t : Nat) (a_t_way : Nat) (a_t_guns : Nat) (a_t_runners : Nat) (a_t_guns_ticks : Nat) (a_t_runners_facts : Nat) (a_t_runners_splits : Nat) (a_t_runners_torn : Nat) (a_t_runners_dropped : Nat) (a_t_runners_waved : Nat) (a_t_runners_struck : Nat) (a_t_runners_strikingOrder : Nat) (t_guns_ticks : Nat → Int32) (t_runners_entered : Int32) (t_runners_strikings : Int32) (t_runners_facts : Nat → Int32) (t_runners_splits : Nat → Int32) (sz : Nat) (x1 : Int32) (r0 : Int32) (h : fX4_startIsGunsOf t_guns_ticks t_runners_entered t_runners_facts t_runners_splits x1 = some (r0)) : Met l yX4_startIsGunsOf wsX4_startIsGunsOf ({ frames := 3, cells := 0, slots := 0, locals := 65 } : Room) (va_Pc [.ref a_t, .int x1] (zPre D (zT cB cI cZ) [(a_t, .inr (4, [.ref a_t_way, .ref a_t_guns, .ref a_t_runners])), (a_t_guns, .inr (2, [.ref a_t_guns_ticks])), (a_t_guns_ticks, .inl (cI, 6, .inl t_guns_ticks)), (a_t_runners, .inr (6, [.ref a_t_runners_facts, .ref a_t_runners_splits, .ref a_t_runners_torn, .ref a_t_runners_dropped, .ref a_t_runners_waved, .ref a_t_runners_struck, .ref a_t_runners_strikingOrder, .int t_runners_entered, .int t_runners_strikings])), (a_t_runners_facts, .inl (cI, 360, .inl t_runners_facts)), (a_t_runners_splits, .inl (cI, 720, .inl t_runners_splits))] sz)) (zQi r0 D (zT cB cI cZ) [(a_t, .inr (4, [.ref a_t_way, .ref a_t_guns, .ref a_t_runners])), (a_t_guns, .inr (2, [.ref a_t_guns_ticks])), (a_t_guns_ticks, .inl (cI, 6, .inl t_guns_ticks)), (a_t_runners, .inr (6, [.ref a_t_runners_facts, .ref a_t_runners_splits, .ref a_t_runners_torn, .ref a_t_runners_dropped, .ref a_t_runners_waved, .ref a_t_runners_struck, .ref a_t_runners_strikingOrder, .int t_runners_entered, .int t_runners_strikings])), (a_t_runners_facts, .inl (cI, 360, .inl t_runners_facts)), (a_t_runners_splits, .inl (cI, 720, .inl t_runners_splits))] (va_A [(a_t, .inr (4, [.ref a_t_way, .ref a_t_guns, .ref a_t_runners])), (a_t_guns, .inr (2, [.ref a_t_guns_ticks])), (a_t_guns_ticks, .inl (cI, 6, .inl t_guns_ticks)), (a_t_runners, .inr (6, [.ref a_t_runners_facts, .ref a_t_runners_splits, .ref a_t_runners_torn, .ref a_t_runners_dropped, .ref a_t_runners_waved, .ref a_t_runners_struck, .ref a_t_runners_strikingOrder, .int t_runners_entered, .int t_runners_strikings])), (a_t_runners_facts, .inl (cI, 360, .inl t_runners_facts)), (a_t_runners_splits, .inl (cI, 720, .inl t_runners_splits))] sz)) 0 0 (va_A [(a_t, .inr (4, [.ref a_t_way, .ref a_t_guns, .ref a_t_runners])), (a_t_guns, .inr (2, [.ref a_t_guns_ticks])), (a_t_guns_ticks, .inl (cI, 6, .inl t_guns_ticks)), (a_t_runners, .inr (6, [.ref a_t_runners_facts, .ref a_t_runners_splits, .ref a_t_runners_torn, .ref a_t_runners_dropped, .ref a_t_runners_waved, .ref a_t_runners_struck, .ref a_t_runners_strikingOrder, .int t_runners_entered, .int t_runners_strikings])), (a_t_runners_facts, .inl (cI, 360, .inl t_runners_facts)), (a_t_runners_splits, .inl (cI, 720, .inl t_runners_splits))] sz) := by
  refine Met.ofW (cc := cX4_startIsGunsOf) (maxL := 2) (ret := (some .int)) (by decide) rfl ?_
  intro p e s m args below meth c s₁ B hml hv
  obtain ⟨rfl, hsz, hP, hK, hN, hZ, hD0⟩ := hv
  have hx := B.exec
  have hb := B.bytes
  have hr := B.returns
  have hts := atoms_spec (ws := wsX4_startIsGunsOf) B.pre
  have hown : s.vm.findClass RX4 = some m.cls := findClass_of_methodNamed B.named
  have hlocks := B.notSynchronized
  subst hsz
  have hD := hD0.self (sz := s.heap.size)
  generalize hAe : va_A [(a_t, .inr (4, [.ref a_t_way, .ref a_t_guns, .ref a_t_runners])), (a_t_guns, .inr (2, [.ref a_t_guns_ticks])), (a_t_guns_ticks, .inl (cI, 6, .inl t_guns_ticks)), (a_t_runners, .inr (6, [.ref a_t_runners_facts, .ref a_t_runners_splits, .ref a_t_runners_torn, .ref a_t_runners_dropped, .ref a_t_runners_waved, .ref a_t_runners_struck, .ref a_t_runners_strikingOrder, .int t_runners_entered, .int t_runners_strikings])), (a_t_runners_facts, .inl (cI, 360, .inl t_runners_facts)), (a_t_runners_splits, .inl (cI, 720, .inl t_runners_splits))] s.heap.size = A at hD hZ ⊢
  have hA : ∀ q : Nat, s.heap.size ≤ q → A q := fun q h => by rw [← hAe]; exact Or.inr h
  have hS : va_S A s.heap s.heap [] := va_S.rf
  have hl := lv_entry ([.ref a_t, .int x1]) (n := 2) (Nat.le_of_ble_eq_true rfl)
  rw [lg_entry_eq]
  generalize (lg_sl ([.ref a_t, .int x1]) ++ List.replicate (2 - (lg_sl ([.ref a_t, .int x1])).length) Slot.unset).toArray = ls at hl ⊢
  have hl : lv_has ls 2 [(0, .ref a_t), (1, .int x1)] := hl
  unfold fX4_startIsGunsOf at h
  refine lv_aload_n hx hb dX4_startIsGunsOf_0 rfl (lv_at hl 0 rfl) ?_
  refine lv_iload_n hx hb dX4_startIsGunsOf_1 rfl (lv_at hl 1 rfl) ?_
  obtain ⟨r1, e2, h⟩ := zz_b h
  refine zVi (As := [.int x1]) (rest := []) (C := RX4) (wr := []) [0, 1, 2, 3, 4, 5] [] 0 ⟨hx, hb, hml, hown, hts⟩ (mX4_startOf l D cB cI cZ a_t a_t_way a_t_guns a_t_runners a_t_guns_ticks a_t_runners_facts a_t_runners_splits a_t_runners_torn a_t_runners_dropped a_t_runners_waved a_t_runners_struck a_t_runners_strikingOrder t_guns_ticks t_runners_entered t_runners_strikings t_runners_facts t_runners_splits s.heap.size x1 r1 e2) (cwV 1 hts gX4_startIsGunsOf_X4_startOf rfl rfl rfl (by decide +kernel) ⟨Nat.le_of_ble_eq_true rfl, Nat.le_of_ble_eq_true rfl⟩) hK hN hZ hP hD hS hA rfl rfl rfl rfl rfl rfl rfl rfl hl.1 rfl (lv_room (Nat.le_of_ble_eq_true rfl)) dX4_startIsGunsOf_2 ⟨Nat.le_of_ble_eq_true rfl, Nat.le_of_ble_eq_true rfl⟩ (fun H locs hP hD hS => ?_)
  have hP : va_P D vwCl [(a_t, .inr (4, [.ref a_t_way, .ref a_t_guns, .ref a_t_runners])), (a_t_guns, .inr (2, [.ref a_t_guns_ticks])), (a_t_guns_ticks, .inl (cI, 6, .inl t_guns_ticks)), (a_t_runners, .inr (6, [.ref a_t_runners_facts, .ref a_t_runners_splits, .ref a_t_runners_torn, .ref a_t_runners_dropped, .ref a_t_runners_waved, .ref a_t_runners_struck, .ref a_t_runners_strikingOrder, .int t_runners_entered, .int t_runners_strikings])), (a_t_runners_facts, .inl (cI, 360, .inl t_runners_facts)), (a_t_runners_splits, .inl (cI, 720, .inl t_runners_splits))] H := hP
  have hD : va_D A [(a_t, .inr (4, [.ref a_t_way, .ref a_t_guns, .ref a_t_runners])), (a_t_guns, .inr (2, [.ref a_t_guns_ticks])), (a_t_guns_ticks, .inl (cI, 6, .inl t_guns_ticks)), (a_t_runners, .inr (6, [.ref a_t_runners_facts, .ref a_t_runners_splits, .ref a_t_runners_torn, .ref a_t_runners_dropped, .ref a_t_runners_waved, .ref a_t_runners_struck, .ref a_t_runners_strikingOrder, .int t_runners_entered, .int t_runners_strikings])), (a_t_runners_facts, .inl (cI, 360, .inl t_runners_facts)), (a_t_runners_splits, .inl (cI, 720, .inl t_runners_splits))] := hD
  refine lv_iconst (v := (-1 : Int32)) hx hb dX4_startIsGunsOf_5 rfl ?_
  refine lv_icmp_ne (tgt := 11) hx hb dX4_startIsGunsOf_6 (by decide) (fun c3 => ?_) (fun c3 => ?_)
  · have h := zz_f h c3
    refine lv_aload_n hx hb dX4_startIsGunsOf_11 rfl (lv_at hl 0 rfl) ?_
    refine va_get (D := D) (ci := 4) (C := RX4) (T := TX4) (N := 3) hx hb hts qX4_startIsGunsOf_X4 hown hK hP 0 rfl rfl 2 (by decide) (hts _ kX4_startIsGunsOf_0) (fun _ h9 => h9) rfl dX4_startIsGunsOf_12 ?_
    refine lv_iload_n hx hb dX4_startIsGunsOf_15 rfl (lv_at hl 1 rfl) ?_
    refine lv_iconst (v := (nI 0)) hx hb dX4_startIsGunsOf_16 rfl ?_
    obtain ⟨r4, e5, h⟩ := zz_b h
    refine zVi (As := [.int x1, .int (nI 0)]) (rest := []) (C := RX6) (wr := [(a_t, .inr (4, [.ref a_t_way, .ref a_t_guns, .ref a_t_runners])), (a_t_guns, .inr (2, [.ref a_t_guns_ticks])), (a_t_guns_ticks, .inl (cI, 6, .inl t_guns_ticks)), (a_t_runners_facts, .inl (cI, 360, .inl t_runners_facts))]) [3, 5] [0, 1, 2, 4] 0 ⟨hx, hb, hml, hown, hts⟩ (mX6_splitAt l D cB cI cZ a_t_runners a_t_runners_facts a_t_runners_splits a_t_runners_torn a_t_runners_dropped a_t_runners_waved a_t_runners_struck a_t_runners_strikingOrder t_runners_entered t_runners_strikings t_runners_splits H.size x1 (nI 0) r4 e5) (cwV 2 hts gX4_startIsGunsOf_X6_splitAt rfl rfl rfl (by decide +kernel) ⟨Nat.le_of_ble_eq_true rfl, Nat.le_of_ble_eq_true rfl⟩) hK hN hZ hP hD hS hA rfl rfl rfl rfl rfl rfl rfl rfl hl.1 rfl (lv_room (Nat.le_of_ble_eq_true rfl)) dX4_startIsGunsOf_17 ⟨Nat.le_of_ble_eq_true rfl, Nat.le_of_ble_eq_true rfl⟩ (fun H locs hP hD hS => ?_)
    have hP : va_P D vwCl [(a_t, .inr (4, [.ref a_t_way, .ref a_t_guns, .ref a_t_runners])), (a_t_guns, .inr (2, [.ref a_t_guns_ticks])), (a_t_guns_ticks, .inl (cI, 6, .inl t_guns_ticks)), (a_t_runners_facts, .inl (cI, 360, .inl t_runners_facts)), (a_t_runners, .inr (6, [.ref a_t_runners_facts, .ref a_t_runners_splits, .ref a_t_runners_torn, .ref a_t_runners_dropped, .ref a_t_runners_waved, .ref a_t_runners_struck, .ref a_t_runners_strikingOrder, .int t_runners_entered, .int t_runners_strikings])), (a_t_runners_splits, .inl (cI, 720, .inl t_runners_splits))] H := hP
    have hD : va_D A [(a_t, .inr (4, [.ref a_t_way, .ref a_t_guns, .ref a_t_runners])), (a_t_guns, .inr (2, [.ref a_t_guns_ticks])), (a_t_guns_ticks, .inl (cI, 6, .inl t_guns_ticks)), (a_t_runners_facts, .inl (cI, 360, .inl t_runners_facts)), (a_t_runners, .inr (6, [.ref a_t_runners_facts, .ref a_t_runners_splits, .ref a_t_runners_torn, .ref a_t_runners_dropped, .ref a_t_runners_waved, .ref a_t_runners_struck, .ref a_t_runners_strikingOrder, .int t_runners_entered, .int t_runners_strikings])), (a_t_runners_splits, .inl (cI, 720, .inl t_runners_splits))] := hD
    refine lv_iconst (v := (-1 : Int32)) hx hb dX4_startIsGunsOf_20 rfl ?_
    refine lv_icmp_ne (tgt := 28) hx hb dX4_startIsGunsOf_21 (by decide) (fun c6 => ?_) (fun c6 => ?_)
    · have h := zz_f h c6
      refine lv_iconst (v := (nI 0)) hx hb dX4_startIsGunsOf_28 rfl ?_
      have j0_ := Option.some.inj h
      subst j0_
      exact W.iret (v := (nI 0)) hx hb hr (fun t ht hW => ⟨⟨_, (), rfl, rfl, zPost.of hP hD hK ht hW [0, 1, 2, 4, 3, 5] rfl rfl rfl⟩, hS.F ht⟩) hS.2.2 dX4_startIsGunsOf_29
    · have h := zz_t h c6
      refine lv_iconst (v := (nI 1)) hx hb dX4_startIsGunsOf_24 rfl ?_
      refine lv_goto (tgt := 29) hx hb dX4_startIsGunsOf_25 (by decide) ?_
      have j0_ := Option.some.inj h
      subst j0_
      exact W.iret (v := (nI 1)) hx hb hr (fun t ht hW => ⟨⟨_, (), rfl, rfl, zPost.of hP hD hK ht hW [0, 1, 2, 4, 3, 5] rfl rfl rfl⟩, hS.F ht⟩) hS.2.2 dX4_startIsGunsOf_29
  · have h := zz_t h c3
    refine lv_iconst (v := (-1 : Int32)) hx hb dX4_startIsGunsOf_9 rfl ?_
    have j0_ := Option.some.inj h
    subst j0_
    exact W.iret (v := (-1 : Int32)) hx hb hr (fun t ht hW => ⟨⟨_, (), rfl, rfl, zPost.of hP hD hK ht hW [0, 1, 2, 3, 4, 5] rfl rfl rfl⟩, hS.F ht⟩) hS.2.2 dX4_startIsGunsOf_10
/-! RunDesk$Race.overPace -/
theorem dX4_overPace_0 : decode cX4_overPace 0 = .ok (.iload_n 2, 1) := by decide +kernel
theorem dX4_overPace_1 : decode cX4_overPace 1 = .ok (.iconst (-1), 1) := by decide +kernel
theorem dX4_overPace_2 : decode cX4_overPace 2 = .ok (.if_icmp .eq 16, 3) := by decide +kernel
theorem dX4_overPace_5 : decode cX4_overPace 5 = .ok (.aload_n 0, 1) := by decide +kernel
theorem dX4_overPace_6 : decode cX4_overPace 6 = .ok (.getfield 28, 3) := by decide +kernel
theorem dX4_overPace_9 : decode cX4_overPace 9 = .ok (.iload_n 1, 1) := by decide +kernel
theorem dX4_overPace_10 : decode cX4_overPace 10 = .ok (.iconst 0, 1) := by decide +kernel
theorem dX4_overPace_11 : decode cX4_overPace 11 = .ok (.invokevirtual 60, 3) := by decide +kernel
theorem dX4_overPace_14 : decode cX4_overPace 14 = .ok (.iconst 1, 1) := by decide +kernel
theorem dX4_overPace_15 : decode cX4_overPace 15 = .ok (.if_icmp .eq 5, 3) := by decide +kernel
theorem dX4_overPace_18 : decode cX4_overPace 18 = .ok (.iconst (-1), 1) := by decide +kernel
theorem dX4_overPace_19 : decode cX4_overPace 19 = .ok (.ireturn, 1) := by decide +kernel
theorem dX4_overPace_20 : decode cX4_overPace 20 = .ok (.iload_n 2, 1) := by decide +kernel
theorem dX4_overPace_21 : decode cX4_overPace 21 = .ok (.aload_n 0, 1) := by decide +kernel
theorem dX4_overPace_22 : decode cX4_overPace 22 = .ok (.getfield 12, 3) := by decide +kernel
theorem dX4_overPace_25 : decode cX4_overPace 25 = .ok (.aload_n 0, 1) := by decide +kernel
theorem dX4_overPace_26 : decode cX4_overPace 26 = .ok (.getfield 12, 3) := by decide +kernel
theorem dX4_overPace_29 : decode cX4_overPace 29 = .ok (.invokevirtual 107, 3) := by decide +kernel
theorem dX4_overPace_32 : decode cX4_overPace 32 = .ok (.invokevirtual 117, 3) := by decide +kernel
theorem dX4_overPace_35 : decode cX4_overPace 35 = .ok (.aload_n 0, 1) := by decide +kernel
theorem dX4_overPace_36 : decode cX4_overPace 36 = .ok (.getfield 28, 3) := by decide +kernel
theorem dX4_overPace_39 : decode cX4_overPace 39 = .ok (.iload_n 1, 1) := by decide +kernel
theorem dX4_overPace_40 : decode cX4_overPace 40 = .ok (.iconst 1, 1) := by decide +kernel
theorem dX4_overPace_41 : decode cX4_overPace 41 = .ok (.invokevirtual 60, 3) := by decide +kernel
theorem dX4_overPace_44 : decode cX4_overPace 44 = .ok (.invokestatic 120, 3) := by decide +kernel
theorem dX4_overPace_47 : decode cX4_overPace 47 = .ok (.isub, 1) := by decide +kernel
theorem dX4_overPace_48 : decode cX4_overPace 48 = .ok (.ireturn, 1) := by decide +kernel
set_option maxRecDepth 20000 in
theorem ggX4_overPace_X6_factOf : GoodIn wsX4_overPace wsX6_factOf := goodIn_r _ [7, 8, 9, 31, 32, 33, 34, 35, 36, 37, 38, 39] (by decide +kernel) (by decide +kernel)
set_option maxRecDepth 20000 in
theorem gX4_overPace_X6_factOf : GoodIn wsX4_overPace (wsV RX4 60 RX6 yX6_factOf wsX6_factOf) := goodIn_app (goodIn_of _ (by decide +kernel)) ggX4_overPace_X6_factOf
set_option maxRecDepth 20000 in
theorem ggX4_overPace_X9_lastMat : GoodIn wsX4_overPace wsX9_lastMat := goodIn_r _ [14, 15, 40, 41, 42, 43, 44] (by decide +kernel) (by decide +kernel)
set_option maxRecDepth 20000 in
theorem gX4_overPace_X9_lastMat : GoodIn wsX4_overPace (wsV RX4 107 RX9 yX9_lastMat wsX9_lastMat) := goodIn_app (goodIn_of _ (by decide +kernel)) ggX4_overPace_X9_lastMat
set_option maxRecDepth 20000 in
theorem ggX4_overPace_X9_placeAt : GoodIn wsX4_overPace wsX9_placeAt := goodIn_r _ [19, 20, 21, 22, 23, 13, 24, 15, 40, 41, 42, 43, 44] (by decide +kernel) (by decide +kernel)
set_option maxRecDepth 20000 in
theorem gX4_overPace_X9_placeAt : GoodIn wsX4_overPace (wsV RX4 117 RX9 yX9_placeAt wsX9_placeAt) := goodIn_app (goodIn_of _ (by decide +kernel)) ggX4_overPace_X9_placeAt
set_option maxRecDepth 20000 in
theorem ggX4_overPace_X10_secondsCut : GoodIn wsX4_overPace wsX10_secondsCut := goodIn_r _ [27] (by decide +kernel) (by decide +kernel)
set_option maxRecDepth 20000 in
theorem gX4_overPace_X10_secondsCut_n120 : GoodIn wsX4_overPace (wsX10_secondsCut) := ggX4_overPace_X10_secondsCut
theorem kX4_overPace_0 : (.fieldLink RX4 28 "RunDesk$Race" "runners" "LRunDesk$Runners;" : Cond) ∈ wsX4_overPace := List.mem_of_getElem? (i := 1) (by decide +kernel)
theorem qX4_overPace_X4 : ∀ w ∈ wsX40, w ∈ wsX4_overPace := fun _ h => List.mem_cons_of_mem _ (List.mem_append_left _ (List.mem_append_left _ (List.mem_append_right _ (h))))
theorem kX4_overPace_2 : (.fieldLink RX4 12 "RunDesk$Race" "way" "LRunDesk$Way;" : Cond) ∈ wsX4_overPace := List.mem_of_getElem? (i := 2) (by decide +kernel)
theorem kX4_overPace_3 : (.initialized RX10 : Cond) ∈ wsX4_overPace := List.mem_of_getElem? (i := 26) (by decide +kernel)
theorem kX4_overPace_4 : (.static yX10_secondsCut : Cond) ∈ wsX4_overPace := List.mem_of_getElem? (i := 25) (by decide +kernel)
set_option maxHeartbeats 4000000 in
set_option maxRecDepth 100000 in
theorem mX4_overPace (l : Launch) (D : va_G) (cB cI cZ : ClassId) (a_t : Nat) (a_t_way : Nat) (a_t_guns : Nat) (a_t_runners : Nat) (a_t_runners_facts : Nat) (a_t_runners_splits : Nat) (a_t_runners_torn : Nat) (a_t_runners_dropped : Nat) (a_t_runners_waved : Nat) (a_t_runners_struck : Nat) (a_t_runners_strikingOrder : Nat) (a_t_way_places : Nat) (a_t_way_bearings : Nat) (a_t_way_cuts : Nat) (a_t_way_deaths : Nat) (t_runners_entered : Int32) (t_runners_strikings : Int32) (t_runners_facts : Nat → Int32) (t_way_mats : Int32) (t_way_places : Nat → Int32) (sz : Nat) (x1 : Int32) (x2 : Int32) (r0 : Int32) (h : fX4_overPace t_runners_entered t_runners_facts t_way_mats t_way_places x1 x2 = some (r0)) : Met l yX4_overPace wsX4_overPace ({ frames := 2, cells := 0, slots := 0, locals := 42 } : Room) (va_Pc [.ref a_t, .int x1, .int x2] (zPre D (zT cB cI cZ) [(a_t, .inr (4, [.ref a_t_way, .ref a_t_guns, .ref a_t_runners])), (a_t_runners, .inr (6, [.ref a_t_runners_facts, .ref a_t_runners_splits, .ref a_t_runners_torn, .ref a_t_runners_dropped, .ref a_t_runners_waved, .ref a_t_runners_struck, .ref a_t_runners_strikingOrder, .int t_runners_entered, .int t_runners_strikings])), (a_t_runners_facts, .inl (cI, 360, .inl t_runners_facts)), (a_t_way, .inr (9, [.ref a_t_way_places, .ref a_t_way_bearings, .ref a_t_way_cuts, .ref a_t_way_deaths, .int t_way_mats])), (a_t_way_places, .inl (cI, 12, .inl t_way_places))] sz)) (zQi r0 D (zT cB cI cZ) [(a_t, .inr (4, [.ref a_t_way, .ref a_t_guns, .ref a_t_runners])), (a_t_runners, .inr (6, [.ref a_t_runners_facts, .ref a_t_runners_splits, .ref a_t_runners_torn, .ref a_t_runners_dropped, .ref a_t_runners_waved, .ref a_t_runners_struck, .ref a_t_runners_strikingOrder, .int t_runners_entered, .int t_runners_strikings])), (a_t_runners_facts, .inl (cI, 360, .inl t_runners_facts)), (a_t_way, .inr (9, [.ref a_t_way_places, .ref a_t_way_bearings, .ref a_t_way_cuts, .ref a_t_way_deaths, .int t_way_mats])), (a_t_way_places, .inl (cI, 12, .inl t_way_places))] (va_A [(a_t, .inr (4, [.ref a_t_way, .ref a_t_guns, .ref a_t_runners])), (a_t_runners, .inr (6, [.ref a_t_runners_facts, .ref a_t_runners_splits, .ref a_t_runners_torn, .ref a_t_runners_dropped, .ref a_t_runners_waved, .ref a_t_runners_struck, .ref a_t_runners_strikingOrder, .int t_runners_entered, .int t_runners_strikings])), (a_t_runners_facts, .inl (cI, 360, .inl t_runners_facts)), (a_t_way, .inr (9, [.ref a_t_way_places, .ref a_t_way_bearings, .ref a_t_way_cuts, .ref a_t_way_deaths, .int t_way_mats])), (a_t_way_places, .inl (cI, 12, .inl t_way_places))] sz)) 0 0 (va_A [(a_t, .inr (4, [.ref a_t_way, .ref a_t_guns, .ref a_t_runners])), (a_t_runners, .inr (6, [.ref a_t_runners_facts, .ref a_t_runners_splits, .ref a_t_runners_torn, .ref a_t_runners_dropped, .ref a_t_runners_waved, .ref a_t_runners_struck, .ref a_t_runners_strikingOrder, .int t_runners_entered, .int t_runners_strikings])), (a_t_runners_facts, .inl (cI, 360, .inl t_runners_facts)), (a_t_way, .inr (9, [.ref a_t_way_places, .ref a_t_way_bearings, .ref a_t_way_cuts, .ref a_t_way_deaths, .int t_way_mats])), (a_t_way_places, .inl (cI, 12, .inl t_way_places))] sz) := by
  refine Met.ofW (cc := cX4_overPace) (maxL := 3) (ret := (some .int)) (by decide) rfl ?_
  intro p e s m args below meth c s₁ B hml hv
  obtain ⟨rfl, hsz, hP, hK, hN, hZ, hD0⟩ := hv
  have hx := B.exec
  have hb := B.bytes
  have hr := B.returns
  have hts := atoms_spec (ws := wsX4_overPace) B.pre
  have hown : s.vm.findClass RX4 = some m.cls := findClass_of_methodNamed B.named
  have hlocks := B.notSynchronized
  subst hsz
  have hD := hD0.self (sz := s.heap.size)
  generalize hAe : va_A [(a_t, .inr (4, [.ref a_t_way, .ref a_t_guns, .ref a_t_runners])), (a_t_runners, .inr (6, [.ref a_t_runners_facts, .ref a_t_runners_splits, .ref a_t_runners_torn, .ref a_t_runners_dropped, .ref a_t_runners_waved, .ref a_t_runners_struck, .ref a_t_runners_strikingOrder, .int t_runners_entered, .int t_runners_strikings])), (a_t_runners_facts, .inl (cI, 360, .inl t_runners_facts)), (a_t_way, .inr (9, [.ref a_t_way_places, .ref a_t_way_bearings, .ref a_t_way_cuts, .ref a_t_way_deaths, .int t_way_mats])), (a_t_way_places, .inl (cI, 12, .inl t_way_places))] s.heap.size = A at hD hZ ⊢
  have hA : ∀ q : Nat, s.heap.size ≤ q → A q := fun q h => by rw [← hAe]; exact Or.inr h
  have hS : va_S A s.heap s.heap [] := va_S.rf
  have hl := lv_entry ([.ref a_t, .int x1, .int x2]) (n := 3) (Nat.le_of_ble_eq_true rfl)
  rw [lg_entry_eq]
  generalize (lg_sl ([.ref a_t, .int x1, .int x2]) ++ List.replicate (3 - (lg_sl ([.ref a_t, .int x1, .int x2])).length) Slot.unset).toArray = ls at hl ⊢
  have hl : lv_has ls 3 [(0, .ref a_t), (1, .int x1), (2, .int x2)] := hl
  unfold fX4_overPace at h
  refine lv_iload_n hx hb dX4_overPace_0 rfl (lv_at hl 2 rfl) ?_
  refine lv_iconst (v := (-1 : Int32)) hx hb dX4_overPace_1 rfl ?_
  refine lv_icmp_eq (tgt := 18) hx hb dX4_overPace_2 (by decide) (fun c1 => ?_) (fun c1 => ?_)
  · have h := zz_t h c1
    refine lv_iconst (v := (-1 : Int32)) hx hb dX4_overPace_18 rfl ?_
    have j0_ := Option.some.inj h
    subst j0_
    exact W.iret (v := (-1 : Int32)) hx hb hr (fun t ht hW => ⟨⟨_, (), rfl, rfl, zPost.of hP hD hK ht hW [0, 1, 2, 3, 4] rfl rfl rfl⟩, hS.F ht⟩) hS.2.2 dX4_overPace_19
  · have h := zz_f h c1
    refine lv_aload_n hx hb dX4_overPace_5 rfl (lv_at hl 0 rfl) ?_
    refine va_get (D := D) (ci := 4) (C := RX4) (T := TX4) (N := 3) hx hb hts qX4_overPace_X4 hown hK hP 0 rfl rfl 2 (by decide) (hts _ kX4_overPace_0) (fun _ h9 => h9) rfl dX4_overPace_6 ?_
    refine lv_iload_n hx hb dX4_overPace_9 rfl (lv_at hl 1 rfl) ?_
    refine lv_iconst (v := (nI 0)) hx hb dX4_overPace_10 rfl ?_
    obtain ⟨r2, e3, h⟩ := zz_b h
    refine zVi (As := [.int x1, .int (nI 0)]) (rest := []) (C := RX6) (wr := [(a_t, .inr (4, [.ref a_t_way, .ref a_t_guns, .ref a_t_runners])), (a_t_way, .inr (9, [.ref a_t_way_places, .ref a_t_way_bearings, .ref a_t_way_cuts, .ref a_t_way_deaths, .int t_way_mats])), (a_t_way_places, .inl (cI, 12, .inl t_way_places))]) [1, 2] [0, 3, 4] 0 ⟨hx, hb, hml, hown, hts⟩ (mX6_factOf l D cB cI cZ a_t_runners a_t_runners_facts a_t_runners_splits a_t_runners_torn a_t_runners_dropped a_t_runners_waved a_t_runners_struck a_t_runners_strikingOrder t_runners_entered t_runners_strikings t_runners_facts s.heap.size x1 (nI 0) r2 e3) (cwV 2 hts gX4_overPace_X6_factOf rfl rfl rfl (by decide +kernel) ⟨Nat.le_of_ble_eq_true rfl, Nat.le_of_ble_eq_true rfl⟩) hK hN hZ hP hD hS hA rfl rfl rfl rfl rfl rfl rfl rfl hl.1 rfl (lv_room (Nat.le_of_ble_eq_true rfl)) dX4_overPace_11 ⟨Nat.le_of_ble_eq_true rfl, Nat.le_of_ble_eq_true rfl⟩ (fun H locs hP hD hS => ?_)
    have hP : va_P D vwCl [(a_t, .inr (4, [.ref a_t_way, .ref a_t_guns, .ref a_t_runners])), (a_t_way, .inr (9, [.ref a_t_way_places, .ref a_t_way_bearings, .ref a_t_way_cuts, .ref a_t_way_deaths, .int t_way_mats])), (a_t_way_places, .inl (cI, 12, .inl t_way_places)), (a_t_runners, .inr (6, [.ref a_t_runners_facts, .ref a_t_runners_splits, .ref a_t_runners_torn, .ref a_t_runners_dropped, .ref a_t_runners_waved, .ref a_t_runners_struck, .ref a_t_runners_strikingOrder, .int t_runners_entered, .int t_runners_strikings])), (a_t_runners_facts, .inl (cI, 360, .inl t_runners_facts))] H := hP
    have hD : va_D A [(a_t, .inr (4, [.ref a_t_way, .ref a_t_guns, .ref a_t_runners])), (a_t_way, .inr (9, [.ref a_t_way_places, .ref a_t_way_bearings, .ref a_t_way_cuts, .ref a_t_way_deaths, .int t_way_mats])), (a_t_way_places, .inl (cI, 12, .inl t_way_places)), (a_t_runners, .inr (6, [.ref a_t_runners_facts, .ref a_t_runners_splits, .ref a_t_runners_torn, .ref a_t_runners_dropped, .ref a_t_runners_waved, .ref a_t_runners_struck, .ref a_t_runners_strikingOrder, .int t_runners_entered, .int t_runners_strikings])), (a_t_runners_facts, .inl (cI, 360, .inl t_runners_facts))] := hD
    refine lv_iconst (v := (nI 1)) hx hb dX4_overPace_14 rfl ?_
    refine lv_icmp_eq (tgt := 20) hx hb dX4_overPace_15 (by decide) (fun c4 => ?_) (fun c4 => ?_)
    · have h := zz_t h c4
      refine lv_iload_n hx hb dX4_overPace_20 rfl (lv_at hl 2 rfl) ?_
      refine lv_aload_n hx hb dX4_overPace_21 rfl (lv_at hl 0 rfl) ?_
      refine va_get (D := D) (ci := 4) (C := RX4) (T := TX4) (N := 3) hx hb hts qX4_overPace_X4 hown hK hP 0 rfl rfl 0 (by decide) (hts _ kX4_overPace_2) (fun _ h9 => h9) rfl dX4_overPace_22 ?_
      refine lv_aload_n hx hb dX4_overPace_25 rfl (lv_at hl 0 rfl) ?_
      refine va_get (D := D) (ci := 4) (C := RX4) (T := TX4) (N := 3) hx hb hts qX4_overPace_X4 hown hK hP 0 rfl rfl 0 (by decide) (hts _ kX4_overPace_2) (fun _ h9 => h9) rfl dX4_overPace_26 ?_
      obtain ⟨r5, e6, h⟩ := zz_b h
      refine zVi (As := []) (rest := [.ref a_t_way, .int x2]) (C := RX9) (wr := [(a_t, .inr (4, [.ref a_t_way, .ref a_t_guns, .ref a_t_runners])), (a_t_way_places, .inl (cI, 12, .inl t_way_places)), (a_t_runners, .inr (6, [.ref a_t_runners_facts, .ref a_t_runners_splits, .ref a_t_runners_torn, .ref a_t_runners_dropped, .ref a_t_runners_waved, .ref a_t_runners_struck, .ref a_t_runners_strikingOrder, .int t_runners_entered, .int t_runners_strikings])), (a_t_runners_facts, .inl (cI, 360, .inl t_runners_facts))]) [1] [0, 2, 3, 4] 0 ⟨hx, hb, hml, hown, hts⟩ (mX9_lastMat l D cB cI cZ a_t_way a_t_way_places a_t_way_bearings a_t_way_cuts a_t_way_deaths t_way_mats H.size r5 e6) (cwV 0 hts gX4_overPace_X9_lastMat rfl rfl rfl (by decide +kernel) ⟨Nat.le_of_ble_eq_true rfl, Nat.le_of_ble_eq_true rfl⟩) hK hN hZ hP hD hS hA rfl rfl rfl rfl rfl rfl rfl rfl hl.1 rfl (lv_room (Nat.le_of_ble_eq_true rfl)) dX4_overPace_29 ⟨Nat.le_of_ble_eq_true rfl, Nat.le_of_ble_eq_true rfl⟩ (fun H locs hP hD hS => ?_)
      have hP : va_P D vwCl [(a_t, .inr (4, [.ref a_t_way, .ref a_t_guns, .ref a_t_runners])), (a_t_way_places, .inl (cI, 12, .inl t_way_places)), (a_t_runners, .inr (6, [.ref a_t_runners_facts, .ref a_t_runners_splits, .ref a_t_runners_torn, .ref a_t_runners_dropped, .ref a_t_runners_waved, .ref a_t_runners_struck, .ref a_t_runners_strikingOrder, .int t_runners_entered, .int t_runners_strikings])), (a_t_runners_facts, .inl (cI, 360, .inl t_runners_facts)), (a_t_way, .inr (9, [.ref a_t_way_places, .ref a_t_way_bearings, .ref a_t_way_cuts, .ref a_t_way_deaths, .int t_way_mats]))] H := hP
      have hD : va_D A [(a_t, .inr (4, [.ref a_t_way, .ref a_t_guns, .ref a_t_runners])), (a_t_way_places, .inl (cI, 12, .inl t_way_places)), (a_t_runners, .inr (6, [.ref a_t_runners_facts, .ref a_t_runners_splits, .ref a_t_runners_torn, .ref a_t_runners_dropped, .ref a_t_runners_waved, .ref a_t_runners_struck, .ref a_t_runners_strikingOrder, .int t_runners_entered, .int t_runners_strikings])), (a_t_runners_facts, .inl (cI, 360, .inl t_runners_facts)), (a_t_way, .inr (9, [.ref a_t_way_places, .ref a_t_way_bearings, .ref a_t_way_cuts, .ref a_t_way_deaths, .int t_way_mats]))] := hD
      obtain ⟨r7, e8, h⟩ := zz_b h
      refine zVi (As := [.int r5]) (rest := [.int x2]) (C := RX9) (wr := [(a_t, .inr (4, [.ref a_t_way, .ref a_t_guns, .ref a_t_runners])), (a_t_runners, .inr (6, [.ref a_t_runners_facts, .ref a_t_runners_splits, .ref a_t_runners_torn, .ref a_t_runners_dropped, .ref a_t_runners_waved, .ref a_t_runners_struck, .ref a_t_runners_strikingOrder, .int t_runners_entered, .int t_runners_strikings])), (a_t_runners_facts, .inl (cI, 360, .inl t_runners_facts))]) [4, 1] [0, 2, 3] 0 ⟨hx, hb, hml, hown, hts⟩ (mX9_placeAt l D cB cI cZ a_t_way a_t_way_places a_t_way_bearings a_t_way_cuts a_t_way_deaths t_way_mats t_way_places H.size r5 r7 e8) (cwV 1 hts gX4_overPace_X9_placeAt rfl rfl rfl (by decide +kernel) ⟨Nat.le_of_ble_eq_true rfl, Nat.le_of_ble_eq_true rfl⟩) hK hN hZ hP hD hS hA rfl rfl rfl rfl rfl rfl rfl rfl hl.1 rfl (lv_room (Nat.le_of_ble_eq_true rfl)) dX4_overPace_32 ⟨Nat.le_of_ble_eq_true rfl, Nat.le_of_ble_eq_true rfl⟩ (fun H locs hP hD hS => ?_)
      have hP : va_P D vwCl [(a_t, .inr (4, [.ref a_t_way, .ref a_t_guns, .ref a_t_runners])), (a_t_runners, .inr (6, [.ref a_t_runners_facts, .ref a_t_runners_splits, .ref a_t_runners_torn, .ref a_t_runners_dropped, .ref a_t_runners_waved, .ref a_t_runners_struck, .ref a_t_runners_strikingOrder, .int t_runners_entered, .int t_runners_strikings])), (a_t_runners_facts, .inl (cI, 360, .inl t_runners_facts)), (a_t_way, .inr (9, [.ref a_t_way_places, .ref a_t_way_bearings, .ref a_t_way_cuts, .ref a_t_way_deaths, .int t_way_mats])), (a_t_way_places, .inl (cI, 12, .inl t_way_places))] H := hP
      have hD : va_D A [(a_t, .inr (4, [.ref a_t_way, .ref a_t_guns, .ref a_t_runners])), (a_t_runners, .inr (6, [.ref a_t_runners_facts, .ref a_t_runners_splits, .ref a_t_runners_torn, .ref a_t_runners_dropped, .ref a_t_runners_waved, .ref a_t_runners_struck, .ref a_t_runners_strikingOrder, .int t_runners_entered, .int t_runners_strikings])), (a_t_runners_facts, .inl (cI, 360, .inl t_runners_facts)), (a_t_way, .inr (9, [.ref a_t_way_places, .ref a_t_way_bearings, .ref a_t_way_cuts, .ref a_t_way_deaths, .int t_way_mats])), (a_t_way_places, .inl (cI, 12, .inl t_way_places))] := hD
      refine lv_aload_n hx hb dX4_overPace_35 rfl (lv_at hl 0 rfl) ?_
      refine va_get (D := D) (ci := 4) (C := RX4) (T := TX4) (N := 3) hx hb hts qX4_overPace_X4 hown hK hP 0 rfl rfl 2 (by decide) (hts _ kX4_overPace_0) (fun _ h9 => h9) rfl dX4_overPace_36 ?_
      refine lv_iload_n hx hb dX4_overPace_39 rfl (lv_at hl 1 rfl) ?_
      refine lv_iconst (v := (nI 1)) hx hb dX4_overPace_40 rfl ?_
      obtain ⟨r9, e10, h⟩ := zz_b h
      refine zVi (As := [.int x1, .int (nI 1)]) (rest := [.int r7, .int x2]) (C := RX6) (wr := [(a_t, .inr (4, [.ref a_t_way, .ref a_t_guns, .ref a_t_runners])), (a_t_way, .inr (9, [.ref a_t_way_places, .ref a_t_way_bearings, .ref a_t_way_cuts, .ref a_t_way_deaths, .int t_way_mats])), (a_t_way_places, .inl (cI, 12, .inl t_way_places))]) [1, 2] [0, 3, 4] 0 ⟨hx, hb, hml, hown, hts⟩ (mX6_factOf l D cB cI cZ a_t_runners a_t_runners_facts a_t_runners_splits a_t_runners_torn a_t_runners_dropped a_t_runners_waved a_t_runners_struck a_t_runners_strikingOrder t_runners_entered t_runners_strikings t_runners_facts H.size x1 (nI 1) r9 e10) (cwV 2 hts gX4_overPace_X6_factOf rfl rfl rfl (by decide +kernel) ⟨Nat.le_of_ble_eq_true rfl, Nat.le_of_ble_eq_true rfl⟩) hK hN hZ hP hD hS hA rfl rfl rfl rfl rfl rfl rfl rfl hl.1 rfl (lv_room (Nat.le_of_ble_eq_true rfl)) dX4_overPace_41 ⟨Nat.le_of_ble_eq_true rfl, Nat.le_of_ble_eq_true rfl⟩ (fun H locs hP hD hS => ?_)
      have hP : va_P D vwCl [(a_t, .inr (4, [.ref a_t_way, .ref a_t_guns, .ref a_t_runners])), (a_t_way, .inr (9, [.ref a_t_way_places, .ref a_t_way_bearings, .ref a_t_way_cuts, .ref a_t_way_deaths, .int t_way_mats])), (a_t_way_places, .inl (cI, 12, .inl t_way_places)), (a_t_runners, .inr (6, [.ref a_t_runners_facts, .ref a_t_runners_splits, .ref a_t_runners_torn, .ref a_t_runners_dropped, .ref a_t_runners_waved, .ref a_t_runners_struck, .ref a_t_runners_strikingOrder, .int t_runners_entered, .int t_runners_strikings])), (a_t_runners_facts, .inl (cI, 360, .inl t_runners_facts))] H := hP
      have hD : va_D A [(a_t, .inr (4, [.ref a_t_way, .ref a_t_guns, .ref a_t_runners])), (a_t_way, .inr (9, [.ref a_t_way_places, .ref a_t_way_bearings, .ref a_t_way_cuts, .ref a_t_way_deaths, .int t_way_mats])), (a_t_way_places, .inl (cI, 12, .inl t_way_places)), (a_t_runners, .inr (6, [.ref a_t_runners_facts, .ref a_t_runners_splits, .ref a_t_runners_torn, .ref a_t_runners_dropped, .ref a_t_runners_waved, .ref a_t_runners_struck, .ref a_t_runners_strikingOrder, .int t_runners_entered, .int t_runners_strikings])), (a_t_runners_facts, .inl (cI, 360, .inl t_runners_facts))] := hD
      obtain ⟨r11, e12, h⟩ := zz_b h
      refine zNi (As := [.int r7, .int r9]) (rest := [.int x2]) (host := "RunDesk") (wr := [(a_t, .inr (4, [.ref a_t_way, .ref a_t_guns, .ref a_t_runners])), (a_t_way, .inr (9, [.ref a_t_way_places, .ref a_t_way_bearings, .ref a_t_way_cuts, .ref a_t_way_deaths, .int t_way_mats])), (a_t_way_places, .inl (cI, 12, .inl t_way_places)), (a_t_runners, .inr (6, [.ref a_t_runners_facts, .ref a_t_runners_splits, .ref a_t_runners_torn, .ref a_t_runners_dropped, .ref a_t_runners_waved, .ref a_t_runners_struck, .ref a_t_runners_strikingOrder, .int t_runners_entered, .int t_runners_strikings])), (a_t_runners_facts, .inl (cI, 360, .inl t_runners_facts))]) [] [0, 1, 2, 3, 4] ⟨hx, hb, hml, hown, hts⟩ (mX10_secondsCut l D cB cI cZ H.size r7 r9 r11 e12) ⟨va_cnB 2 hts gX4_overPace_X10_secondsCut_n120 rfl rfl rfl (hN _ (List.mem_of_getElem? (i := 26) rfl)) (hts _ kX4_overPace_3) (by decide +kernel) ⟨Nat.le_of_ble_eq_true rfl, Nat.le_of_ble_eq_true rfl⟩, (hts _ kX4_overPace_4), trivial⟩ hK hN hZ hP hD hS hA rfl rfl rfl rfl rfl rfl hl.1 rfl (lv_room (Nat.le_of_ble_eq_true rfl)) dX4_overPace_44 ⟨Nat.le_of_ble_eq_true rfl, Nat.le_of_ble_eq_true rfl⟩ (fun H locs hP hD hS => ?_)
      have hP : va_P D vwCl [(a_t, .inr (4, [.ref a_t_way, .ref a_t_guns, .ref a_t_runners])), (a_t_way, .inr (9, [.ref a_t_way_places, .ref a_t_way_bearings, .ref a_t_way_cuts, .ref a_t_way_deaths, .int t_way_mats])), (a_t_way_places, .inl (cI, 12, .inl t_way_places)), (a_t_runners, .inr (6, [.ref a_t_runners_facts, .ref a_t_runners_splits, .ref a_t_runners_torn, .ref a_t_runners_dropped, .ref a_t_runners_waved, .ref a_t_runners_struck, .ref a_t_runners_strikingOrder, .int t_runners_entered, .int t_runners_strikings])), (a_t_runners_facts, .inl (cI, 360, .inl t_runners_facts))] H := hP
      have hD : va_D A [(a_t, .inr (4, [.ref a_t_way, .ref a_t_guns, .ref a_t_runners])), (a_t_way, .inr (9, [.ref a_t_way_places, .ref a_t_way_bearings, .ref a_t_way_cuts, .ref a_t_way_deaths, .int t_way_mats])), (a_t_way_places, .inl (cI, 12, .inl t_way_places)), (a_t_runners, .inr (6, [.ref a_t_runners_facts, .ref a_t_runners_splits, .ref a_t_runners_torn, .ref a_t_runners_dropped, .ref a_t_runners_waved, .ref a_t_runners_struck, .ref a_t_runners_strikingOrder, .int t_runners_entered, .int t_runners_strikings])), (a_t_runners_facts, .inl (cI, 360, .inl t_runners_facts))] := hD
      refine lv_isub hx hb dX4_overPace_47 ?_
      have j0_ := Option.some.inj h
      subst j0_
      exact W.iret (v := (x2 - r11)) hx hb hr (fun t ht hW => ⟨⟨_, (), rfl, rfl, zPost.of hP hD hK ht hW [0, 3, 4, 1, 2] rfl rfl rfl⟩, hS.F ht⟩) hS.2.2 dX4_overPace_48
    · have h := zz_f h c4
      refine lv_iconst (v := (-1 : Int32)) hx hb dX4_overPace_18 rfl ?_
      have j0_ := Option.some.inj h
      subst j0_
      exact W.iret (v := (-1 : Int32)) hx hb hr (fun t ht hW => ⟨⟨_, (), rfl, rfl, zPost.of hP hD hK ht hW [0, 3, 4, 1, 2] rfl rfl rfl⟩, hS.F ht⟩) hS.2.2 dX4_overPace_19
/-! RunDesk$Runners.tornFrom -/
theorem dX6_tornFrom_0 : decode cX6_tornFrom 0 = .ok (.aload_n 0, 1) := by decide +kernel
theorem dX6_tornFrom_1 : decode cX6_tornFrom 1 = .ok (.iload_n 1, 1) := by decide +kernel
theorem dX6_tornFrom_2 : decode cX6_tornFrom 2 = .ok (.invokevirtual 41, 3) := by decide +kernel
theorem dX6_tornFrom_5 : decode cX6_tornFrom 5 = .ok (.ifCond .eq 12, 3) := by decide +kernel
theorem dX6_tornFrom_8 : decode cX6_tornFrom 8 = .ok (.aload_n 0, 1) := by decide +kernel
theorem dX6_tornFrom_9 : decode cX6_tornFrom 9 = .ok (.getfield 18, 3) := by decide +kernel
theorem dX6_tornFrom_12 : decode cX6_tornFrom 12 = .ok (.iload_n 1, 1) := by decide +kernel
theorem dX6_tornFrom_13 : decode cX6_tornFrom 13 = .ok (.iaload, 1) := by decide +kernel
theorem dX6_tornFrom_14 : decode cX6_tornFrom 14 = .ok (.goto 4, 3) := by decide +kernel
theorem dX6_tornFrom_17 : decode cX6_tornFrom 17 = .ok (.iconst (-1), 1) := by decide +kernel
theorem dX6_tornFrom_18 : decode cX6_tornFrom 18 = .ok (.ireturn, 1) := by decide +kernel
set_option maxRecDepth 20000 in
theorem ggX6_tornFrom_X6_has : GoodIn wsX6_tornFrom wsX6_has := goodIn_r _ [6, 7, 8, 9, 10, 11, 12, 13, 14, 15, 16] (by decide +kernel) (by decide +kernel)
set_option maxRecDepth 20000 in
theorem gX6_tornFrom_X6_has : GoodIn wsX6_tornFrom (wsV RX6 41 RX6 yX6_has wsX6_has) := goodIn_app (goodIn_of _ (by decide +kernel)) ggX6_tornFrom_X6_has
theorem kX6_tornFrom_0 : (.fieldLink RX6 18 "RunDesk$Runners" "torn" "[I" : Cond) ∈ wsX6_tornFrom := List.mem_of_getElem? (i := 1) (by decide +kernel)
theorem qX6_tornFrom_X6 : ∀ w ∈ wsX60, w ∈ wsX6_tornFrom := fun _ h => List.mem_cons_of_mem _ (List.mem_append_right _ (h))
set_option maxHeartbeats 4000000 in
set_option maxRecDepth 100000 in
theorem mX6_tornFrom (l : Launch) (D : va_G) (cB cI cZ : ClassId) (a_t : Nat) (a_t_facts : Nat) (a_t_splits : Nat) (a_t_torn : Nat) (a_t_dropped : Nat) (a_t_waved : Nat) (a_t_struck : Nat) (a_t_strikingOrder : Nat) (t_entered : Int32) (t_strikings : Int32) (t_torn : Nat → Int32) (sz : Nat) (x1 : Int32) (r0 : Int32) (h : fX6_tornFrom t_entered t_torn x1 = some (r0)) : Met l yX6_tornFrom wsX6_tornFrom ({ frames := 1, cells := 0, slots := 0, locals := 21 } : Room) (va_Pc [.ref a_t, .int x1] (zPre D (zT cB cI cZ) [(a_t, .inr (6, [.ref a_t_facts, .ref a_t_splits, .ref a_t_torn, .ref a_t_dropped, .ref a_t_waved, .ref a_t_struck, .ref a_t_strikingOrder, .int t_entered, .int t_strikings])), (a_t_torn, .inl (cI, 60, .inl t_torn))] sz)) (zQi r0 D (zT cB cI cZ) [(a_t, .inr (6, [.ref a_t_facts, .ref a_t_splits, .ref a_t_torn, .ref a_t_dropped, .ref a_t_waved, .ref a_t_struck, .ref a_t_strikingOrder, .int t_entered, .int t_strikings])), (a_t_torn, .inl (cI, 60, .inl t_torn))] (va_A [(a_t, .inr (6, [.ref a_t_facts, .ref a_t_splits, .ref a_t_torn, .ref a_t_dropped, .ref a_t_waved, .ref a_t_struck, .ref a_t_strikingOrder, .int t_entered, .int t_strikings])), (a_t_torn, .inl (cI, 60, .inl t_torn))] sz)) 0 0 (va_A [(a_t, .inr (6, [.ref a_t_facts, .ref a_t_splits, .ref a_t_torn, .ref a_t_dropped, .ref a_t_waved, .ref a_t_struck, .ref a_t_strikingOrder, .int t_entered, .int t_strikings])), (a_t_torn, .inl (cI, 60, .inl t_torn))] sz) := by
  refine Met.ofW (cc := cX6_tornFrom) (maxL := 2) (ret := (some .int)) (by decide) rfl ?_
  intro p e s m args below meth c s₁ B hml hv
  obtain ⟨rfl, hsz, hP, hK, hN, hZ, hD0⟩ := hv
  have hx := B.exec
  have hb := B.bytes
  have hr := B.returns
  have hts := atoms_spec (ws := wsX6_tornFrom) B.pre
  have hown : s.vm.findClass RX6 = some m.cls := findClass_of_methodNamed B.named
  have hlocks := B.notSynchronized
  subst hsz
  have hD := hD0.self (sz := s.heap.size)
  generalize hAe : va_A [(a_t, .inr (6, [.ref a_t_facts, .ref a_t_splits, .ref a_t_torn, .ref a_t_dropped, .ref a_t_waved, .ref a_t_struck, .ref a_t_strikingOrder, .int t_entered, .int t_strikings])), (a_t_torn, .inl (cI, 60, .inl t_torn))] s.heap.size = A at hD hZ ⊢
  have hA : ∀ q : Nat, s.heap.size ≤ q → A q := fun q h => by rw [← hAe]; exact Or.inr h
  have hS : va_S A s.heap s.heap [] := va_S.rf
  have hl := lv_entry ([.ref a_t, .int x1]) (n := 2) (Nat.le_of_ble_eq_true rfl)
  rw [lg_entry_eq]
  generalize (lg_sl ([.ref a_t, .int x1]) ++ List.replicate (2 - (lg_sl ([.ref a_t, .int x1])).length) Slot.unset).toArray = ls at hl ⊢
  have hl : lv_has ls 2 [(0, .ref a_t), (1, .int x1)] := hl
  unfold fX6_tornFrom at h
  refine lv_aload_n hx hb dX6_tornFrom_0 rfl (lv_at hl 0 rfl) ?_
  refine lv_iload_n hx hb dX6_tornFrom_1 rfl (lv_at hl 1 rfl) ?_
  obtain ⟨b1, e2, h⟩ := zz_b h
  refine zVi (As := [.int x1]) (rest := []) (C := RX6) (wr := [(a_t_torn, .inl (cI, 60, .inl t_torn))]) [0] [1] 0 ⟨hx, hb, hml, hown, hts⟩ (mX6_has l D cB cI cZ a_t a_t_facts a_t_splits a_t_torn a_t_dropped a_t_waved a_t_struck a_t_strikingOrder t_entered t_strikings s.heap.size x1 b1 e2) (cwV 1 hts gX6_tornFrom_X6_has rfl rfl rfl (by decide +kernel) ⟨Nat.le_of_ble_eq_true rfl, Nat.le_of_ble_eq_true rfl⟩) hK hN hZ hP hD hS hA rfl rfl rfl rfl rfl rfl rfl rfl hl.1 rfl (lv_room (Nat.le_of_ble_eq_true rfl)) dX6_tornFrom_2 ⟨Nat.le_of_ble_eq_true rfl, Nat.le_of_ble_eq_true rfl⟩ (fun H locs hP hD hS => ?_)
  have hP : va_P D vwCl [(a_t_torn, .inl (cI, 60, .inl t_torn)), (a_t, .inr (6, [.ref a_t_facts, .ref a_t_splits, .ref a_t_torn, .ref a_t_dropped, .ref a_t_waved, .ref a_t_struck, .ref a_t_strikingOrder, .int t_entered, .int t_strikings]))] H := hP
  have hD : va_D A [(a_t_torn, .inl (cI, 60, .inl t_torn)), (a_t, .inr (6, [.ref a_t_facts, .ref a_t_splits, .ref a_t_torn, .ref a_t_dropped, .ref a_t_waved, .ref a_t_struck, .ref a_t_strikingOrder, .int t_entered, .int t_strikings]))] := hD
  refine lv_if_eq (tgt := 17) hx hb dX6_tornFrom_5 (by decide) (fun c3 => ?_) (fun c3 => ?_)
  · have h := zz_t h c3
    refine lv_iconst (v := (-1 : Int32)) hx hb dX6_tornFrom_17 rfl ?_
    have j0_ := Option.some.inj h
    subst j0_
    exact W.iret (v := (-1 : Int32)) hx hb hr (fun t ht hW => ⟨⟨_, (), rfl, rfl, zPost.of hP hD hK ht hW [1, 0] rfl rfl rfl⟩, hS.F ht⟩) hS.2.2 dX6_tornFrom_18
  · have h := zz_f h c3
    refine lv_aload_n hx hb dX6_tornFrom_8 rfl (lv_at hl 0 rfl) ?_
    refine va_get (D := D) (ci := 6) (C := RX6) (T := TX6) (N := 9) hx hb hts qX6_tornFrom_X6 hown hK hP 1 rfl rfl 2 (by decide) (hts _ kX6_tornFrom_0) (fun _ h9 => h9) rfl dX6_tornFrom_9 ?_
    refine lv_iload_n hx hb dX6_tornFrom_12 rfl (lv_at hl 1 rfl) ?_
    obtain ⟨i4, h⟩ := zz_i h
    refine va_iald hx hb hK hP 0 1 rfl rfl i4 dX6_tornFrom_13 ?_
    refine lv_goto (tgt := 18) hx hb dX6_tornFrom_14 (by decide) ?_
    have j0_ := Option.some.inj h
    subst j0_
    exact W.iret (v := (t_torn (x1).toNatClampNeg)) hx hb hr (fun t ht hW => ⟨⟨_, (), rfl, rfl, zPost.of hP hD hK ht hW [1, 0] rfl rfl rfl⟩, hS.F ht⟩) hS.2.2 dX6_tornFrom_18
/-! RunDesk$Race.tell -/
theorem dX4_tell_0 : decode cX4_tell 0 = .ok (.iload_n 2, 1) := by decide +kernel
theorem dX4_tell_1 : decode cX4_tell 1 = .ok (.iconst 0, 1) := by decide +kernel
theorem dX4_tell_2 : decode cX4_tell 2 = .ok (.iconst 5, 1) := by decide +kernel
theorem dX4_tell_3 : decode cX4_tell 3 = .ok (.invokestatic 56, 3) := by decide +kernel
theorem dX4_tell_6 : decode cX4_tell 6 = .ok (.ifCond .eq 13, 3) := by decide +kernel
theorem dX4_tell_9 : decode cX4_tell 9 = .ok (.aload_n 0, 1) := by decide +kernel
theorem dX4_tell_10 : decode cX4_tell 10 = .ok (.getfield 28, 3) := by decide +kernel
theorem dX4_tell_13 : decode cX4_tell 13 = .ok (.iload_n 1, 1) := by decide +kernel
theorem dX4_tell_14 : decode cX4_tell 14 = .ok (.iload_n 2, 1) := by decide +kernel
theorem dX4_tell_15 : decode cX4_tell 15 = .ok (.invokevirtual 60, 3) := by decide +kernel
theorem dX4_tell_18 : decode cX4_tell 18 = .ok (.ireturn, 1) := by decide +kernel
theorem dX4_tell_19 : decode cX4_tell 19 = .ok (.iload_n 2, 1) := by decide +kernel
theorem dX4_tell_20 : decode cX4_tell 20 = .ok (.tableswitch 134 6 13 #[48, 69, 75, 81, 92, 103, 109, 125], 48) := by decide +kernel
theorem dX4_tell_68 : decode cX4_tell 68 = .ok (.aload_n 0, 1) := by decide +kernel
theorem dX4_tell_69 : decode cX4_tell 69 = .ok (.getfield 28, 3) := by decide +kernel
theorem dX4_tell_72 : decode cX4_tell 72 = .ok (.iload_n 1, 1) := by decide +kernel
theorem dX4_tell_73 : decode cX4_tell 73 = .ok (.invokevirtual 51, 3) := by decide +kernel
theorem dX4_tell_76 : decode cX4_tell 76 = .ok (.ifCond .eq 11, 3) := by decide +kernel
theorem dX4_tell_79 : decode cX4_tell 79 = .ok (.aload_n 0, 1) := by decide +kernel
theorem dX4_tell_80 : decode cX4_tell 80 = .ok (.iload_n 1, 1) := by decide +kernel
theorem dX4_tell_81 : decode cX4_tell 81 = .ok (.invokevirtual 63, 3) := by decide +kernel
theorem dX4_tell_84 : decode cX4_tell 84 = .ok (.goto 4, 3) := by decide +kernel
theorem dX4_tell_87 : decode cX4_tell 87 = .ok (.iconst (-1), 1) := by decide +kernel
theorem dX4_tell_88 : decode cX4_tell 88 = .ok (.ireturn, 1) := by decide +kernel
theorem dX4_tell_89 : decode cX4_tell 89 = .ok (.aload_n 0, 1) := by decide +kernel
theorem dX4_tell_90 : decode cX4_tell 90 = .ok (.iload_n 1, 1) := by decide +kernel
theorem dX4_tell_91 : decode cX4_tell 91 = .ok (.invokevirtual 67, 3) := by decide +kernel
theorem dX4_tell_94 : decode cX4_tell 94 = .ok (.ireturn, 1) := by decide +kernel
theorem dX4_tell_95 : decode cX4_tell 95 = .ok (.aload_n 0, 1) := by decide +kernel
theorem dX4_tell_96 : decode cX4_tell 96 = .ok (.iload_n 1, 1) := by decide +kernel
theorem dX4_tell_97 : decode cX4_tell 97 = .ok (.invokevirtual 70, 3) := by decide +kernel
theorem dX4_tell_100 : decode cX4_tell 100 = .ok (.ireturn, 1) := by decide +kernel
theorem dX4_tell_101 : decode cX4_tell 101 = .ok (.aload_n 0, 1) := by decide +kernel
theorem dX4_tell_102 : decode cX4_tell 102 = .ok (.iload_n 1, 1) := by decide +kernel
theorem dX4_tell_103 : decode cX4_tell 103 = .ok (.aload_n 0, 1) := by decide +kernel
theorem dX4_tell_104 : decode cX4_tell 104 = .ok (.iload_n 1, 1) := by decide +kernel
theorem dX4_tell_105 : decode cX4_tell 105 = .ok (.invokevirtual 67, 3) := by decide +kernel
theorem dX4_tell_108 : decode cX4_tell 108 = .ok (.invokevirtual 73, 3) := by decide +kernel
theorem dX4_tell_111 : decode cX4_tell 111 = .ok (.ireturn, 1) := by decide +kernel
theorem dX4_tell_112 : decode cX4_tell 112 = .ok (.aload_n 0, 1) := by decide +kernel
theorem dX4_tell_113 : decode cX4_tell 113 = .ok (.iload_n 1, 1) := by decide +kernel
theorem dX4_tell_114 : decode cX4_tell 114 = .ok (.aload_n 0, 1) := by decide +kernel
theorem dX4_tell_115 : decode cX4_tell 115 = .ok (.iload_n 1, 1) := by decide +kernel
theorem dX4_tell_116 : decode cX4_tell 116 = .ok (.invokevirtual 76, 3) := by decide +kernel
theorem dX4_tell_119 : decode cX4_tell 119 = .ok (.invokevirtual 73, 3) := by decide +kernel
theorem dX4_tell_122 : decode cX4_tell 122 = .ok (.ireturn, 1) := by decide +kernel
theorem dX4_tell_123 : decode cX4_tell 123 = .ok (.aload_n 0, 1) := by decide +kernel
theorem dX4_tell_124 : decode cX4_tell 124 = .ok (.iload_n 1, 1) := by decide +kernel
theorem dX4_tell_125 : decode cX4_tell 125 = .ok (.invokevirtual 79, 3) := by decide +kernel
theorem dX4_tell_128 : decode cX4_tell 128 = .ok (.ireturn, 1) := by decide +kernel
theorem dX4_tell_129 : decode cX4_tell 129 = .ok (.aload_n 0, 1) := by decide +kernel
theorem dX4_tell_130 : decode cX4_tell 130 = .ok (.iload_n 1, 1) := by decide +kernel
theorem dX4_tell_131 : decode cX4_tell 131 = .ok (.aload_n 0, 1) := by decide +kernel
theorem dX4_tell_132 : decode cX4_tell 132 = .ok (.iload_n 1, 1) := by decide +kernel
theorem dX4_tell_133 : decode cX4_tell 133 = .ok (.aload_n 0, 1) := by decide +kernel
theorem dX4_tell_134 : decode cX4_tell 134 = .ok (.iload_n 1, 1) := by decide +kernel
theorem dX4_tell_135 : decode cX4_tell 135 = .ok (.invokevirtual 67, 3) := by decide +kernel
theorem dX4_tell_138 : decode cX4_tell 138 = .ok (.invokevirtual 73, 3) := by decide +kernel
theorem dX4_tell_141 : decode cX4_tell 141 = .ok (.invokevirtual 82, 3) := by decide +kernel
theorem dX4_tell_144 : decode cX4_tell 144 = .ok (.ireturn, 1) := by decide +kernel
theorem dX4_tell_145 : decode cX4_tell 145 = .ok (.aload_n 0, 1) := by decide +kernel
theorem dX4_tell_146 : decode cX4_tell 146 = .ok (.getfield 28, 3) := by decide +kernel
theorem dX4_tell_149 : decode cX4_tell 149 = .ok (.iload_n 1, 1) := by decide +kernel
theorem dX4_tell_150 : decode cX4_tell 150 = .ok (.invokevirtual 85, 3) := by decide +kernel
theorem dX4_tell_153 : decode cX4_tell 153 = .ok (.ireturn, 1) := by decide +kernel
theorem dX4_tell_154 : decode cX4_tell 154 = .ok (.iconst (-1), 1) := by decide +kernel
theorem dX4_tell_155 : decode cX4_tell 155 = .ok (.ireturn, 1) := by decide +kernel
set_option maxRecDepth 20000 in
theorem ggX4_tell_X10_within : GoodIn wsX4_tell wsX10_within := goodIn_r _ [4] (by decide +kernel) (by decide +kernel)
set_option maxRecDepth 20000 in
theorem gX4_tell_X10_within_n56 : GoodIn wsX4_tell (wsX10_within) := ggX4_tell_X10_within
set_option maxRecDepth 20000 in
theorem ggX4_tell_X6_factOf : GoodIn wsX4_tell wsX6_factOf := goodIn_r _ [9, 10, 11, 112, 113, 114, 115, 116, 117, 118, 119, 120] (by decide +kernel) (by decide +kernel)
set_option maxRecDepth 20000 in
theorem gX4_tell_X6_factOf : GoodIn wsX4_tell (wsV RX4 60 RX6 yX6_factOf wsX6_factOf) := goodIn_app (goodIn_of _ (by decide +kernel)) ggX4_tell_X6_factOf
set_option maxRecDepth 20000 in
theorem ggX4_tell_X6_has : GoodIn wsX4_tell wsX6_has := goodIn_r _ [15, 10, 112, 113, 114, 115, 116, 117, 118, 119, 120] (by decide +kernel) (by decide +kernel)
set_option maxRecDepth 20000 in
theorem gX4_tell_X6_has : GoodIn wsX4_tell (wsV RX4 51 RX6 yX6_has wsX6_has) := goodIn_app (goodIn_of _ (by decide +kernel)) ggX4_tell_X6_has
set_option maxRecDepth 20000 in
theorem ggX4_tell_X4_stateOf : GoodIn wsX4_tell wsX4_stateOf := goodIn_r _ [20, 1, 21, 22, 23, 24, 8, 25, 26, 27, 13, 14, 15, 10, 28, 29, 30, 31, 32, 33, 34, 35, 19, 36, 37, 38, 39, 40, 41, 42, 43, 44, 45, 46, 47, 48, 49, 50, 51, 52, 53, 54, 55, 56, 57, 58, 59, 60, 61, 62, 63, 64, 65, 66, 67, 68, 69, 70, 71, 72, 73, 74, 5, 6, 7, 9, 11, 75, 76, 77, 78, 79, 80, 109, 110, 111, 112, 113, 114, 115, 116, 117, 118, 119, 120, 121, 122, 123, 124, 125, 126] (by decide +kernel) (by decide +kernel)
set_option maxRecDepth 20000 in
theorem gX4_tell_X4_stateOf : GoodIn wsX4_tell (wsV RX4 63 RX4 yX4_stateOf wsX4_stateOf) := goodIn_app (goodIn_of _ (by decide +kernel)) ggX4_tell_X4_stateOf
set_option maxRecDepth 20000 in
theorem ggX4_tell_X4_startOf : GoodIn wsX4_tell wsX4_startOf := goodIn_r _ [69, 1, 57, 58, 59, 8, 60, 61, 27, 13, 14, 15, 10, 70, 71, 72, 19, 73, 74, 5, 6, 7, 9, 11, 75, 76, 77, 78, 79, 80, 109, 110, 111, 112, 113, 114, 115, 116, 117, 118, 119, 120, 126] (by decide +kernel) (by decide +kernel)
set_option maxRecDepth 20000 in
theorem gX4_tell_X4_startOf : GoodIn wsX4_tell (wsV RX4 67 RX4 yX4_startOf wsX4_startOf) := goodIn_app (goodIn_of _ (by decide +kernel)) ggX4_tell_X4_startOf
set_option maxRecDepth 20000 in
theorem ggX4_tell_X4_latestOf : GoodIn wsX4_tell wsX4_latestOf := goodIn_r _ [84, 21, 1, 42, 43, 44, 45, 46, 47, 57, 58, 59, 8, 60, 61, 27, 13, 14, 15, 10, 66, 67, 68, 19, 69, 70, 71, 72, 73, 74, 5, 6, 7, 9, 11, 75, 76, 77, 78, 79, 80, 109, 110, 111, 121, 122, 123, 124, 125, 112, 113, 114, 115, 116, 117, 118, 119, 120, 126] (by decide +kernel) (by decide +kernel)
set_option maxRecDepth 20000 in
theorem gX4_tell_X4_latestOf : GoodIn wsX4_tell (wsV RX4 70 RX4 yX4_latestOf wsX4_latestOf) := goodIn_app (goodIn_of _ (by decide +kernel)) ggX4_tell_X4_latestOf
set_option maxRecDepth 20000 in
theorem ggX4_tell_X4_timeSince : GoodIn wsX4_tell wsX4_timeSince := goodIn_r _ [88, 1, 21, 16, 17, 18, 19, 20, 22, 23, 24, 8, 25, 26, 27, 13, 14, 15, 10, 28, 29, 30, 31, 32, 33, 34, 35, 36, 37, 38, 39, 40, 41, 42, 43, 44, 45, 46, 47, 48, 49, 50, 51, 52, 53, 54, 55, 56, 57, 58, 59, 60, 61, 62, 63, 64, 65, 66, 67, 68, 69, 70, 71, 72, 73, 74, 5, 6, 7, 9, 11, 75, 76, 77, 78, 79, 80, 109, 110, 111, 112, 113, 114, 115, 116, 117, 118, 119, 120, 121, 122, 123, 124, 125, 126] (by decide +kernel) (by decide +kernel)
set_option maxRecDepth 20000 in
theorem gX4_tell_X4_timeSince : GoodIn wsX4_tell (wsV RX4 73 RX4 yX4_timeSince wsX4_timeSince) := goodIn_app (goodIn_of _ (by decide +kernel)) ggX4_tell_X4_timeSince
set_option maxRecDepth 20000 in
theorem ggX4_tell_X4_gunOf : GoodIn wsX4_tell wsX4_gunOf := goodIn_r _ [73, 74, 1, 5, 6, 7, 8, 9, 10, 11, 75, 76, 77, 78, 79, 80, 109, 110, 111, 112, 113, 114, 115, 116, 117, 118, 119, 120, 126] (by decide +kernel) (by decide +kernel)
set_option maxRecDepth 20000 in
theorem gX4_tell_X4_gunOf : GoodIn wsX4_tell (wsV RX4 76 RX4 yX4_gunOf wsX4_gunOf) := goodIn_app (goodIn_of _ (by decide +kernel)) ggX4_tell_X4_gunOf
set_option maxRecDepth 20000 in
theorem ggX4_tell_X4_startIsGunsOf : GoodIn wsX4_tell wsX4_startIsGunsOf := goodIn_r _ [92, 1, 66, 67, 68, 19, 69, 57, 58, 59, 8, 60, 61, 27, 13, 14, 15, 10, 70, 71, 72, 73, 74, 5, 6, 7, 9, 11, 75, 76, 77, 78, 79, 80, 109, 110, 111, 112, 113, 114, 115, 116, 117, 118, 119, 120, 126] (by decide +kernel) (by decide +kernel)
set_option maxRecDepth 20000 in
theorem gX4_tell_X4_startIsGunsOf : GoodIn wsX4_tell (wsV RX4 79 RX4 yX4_startIsGunsOf wsX4_startIsGunsOf) := goodIn_app (goodIn_of _ (by decide +kernel)) ggX4_tell_X4_startIsGunsOf
set_option maxRecDepth 20000 in
theorem ggX4_tell_X4_overPace : GoodIn wsX4_tell wsX4_overPace := goodIn_r _ [96, 1, 21, 5, 6, 7, 8, 9, 10, 11, 62, 63, 64, 45, 65, 47, 97, 98, 99, 100, 101, 53, 54, 55, 56, 102, 3, 103, 109, 110, 111, 112, 113, 114, 115, 116, 117, 118, 119, 120, 121, 122, 123, 124, 125] (by decide +kernel) (by decide +kernel)
set_option maxRecDepth 20000 in
theorem gX4_tell_X4_overPace : GoodIn wsX4_tell (wsV RX4 82 RX4 yX4_overPace wsX4_overPace) := goodIn_app (goodIn_of _ (by decide +kernel)) ggX4_tell_X4_overPace
set_option maxRecDepth 20000 in
theorem ggX4_tell_X6_tornFrom : GoodIn wsX4_tell wsX6_tornFrom := goodIn_r _ [107, 108, 27, 13, 14, 8, 15, 10, 112, 113, 114, 115, 116, 117, 118, 119, 120] (by decide +kernel) (by decide +kernel)
set_option maxRecDepth 20000 in
theorem gX4_tell_X6_tornFrom : GoodIn wsX4_tell (wsV RX4 85 RX6 yX6_tornFrom wsX6_tornFrom) := goodIn_app (goodIn_of _ (by decide +kernel)) ggX4_tell_X6_tornFrom
theorem kX4_tell_0 : (.initialized RX10 : Cond) ∈ wsX4_tell := List.mem_of_getElem? (i := 3) (by decide +kernel)
theorem kX4_tell_1 : (.static yX10_within : Cond) ∈ wsX4_tell := List.mem_of_getElem? (i := 2) (by decide +kernel)
theorem kX4_tell_2 : (.fieldLink RX4 28 "RunDesk$Race" "runners" "LRunDesk$Runners;" : Cond) ∈ wsX4_tell := List.mem_of_getElem? (i := 1) (by decide +kernel)
theorem qX4_tell_X4 : ∀ w ∈ wsX40, w ∈ wsX4_tell := fun _ h => List.mem_cons_of_mem _ (List.mem_append_left _ (List.mem_append_left _ (List.mem_append_left _ (List.mem_append_right _ (h)))))
set_option maxHeartbeats 4000000 in
set_option maxRecDepth 100000 in
theorem mX4_tell (l : Launch) (D : va_G) (cB cI cZ : ClassId) (a_t : Nat) (a_t_way : Nat) (a_t_guns : Nat) (a_t_runners : Nat) (a_t_guns_ticks : Nat) (a_t_runners_facts : Nat) (a_t_runners_splits : Nat) (a_t_runners_torn : Nat) (a_t_runners_dropped : Nat) (a_t_runners_waved : Nat) (a_t_runners_struck : Nat) (a_t_runners_strikingOrder : Nat) (a_t_way_places : Nat) (a_t_way_bearings : Nat) (a_t_way_cuts : Nat) (a_t_way_deaths : Nat) (t_guns_ticks : Nat → Int32) (t_runners_entered : Int32) (t_runners_strikings : Int32) (t_runners_dropped : Nat → Int32) (t_runners_facts : Nat → Int32) (t_runners_splits : Nat → Int32) (t_runners_struck : Nat → Int32) (t_runners_torn : Nat → Int32) (t_runners_waved : Nat → Int32) (t_way_mats : Int32) (t_way_cuts : Nat → Int32) (t_way_places : Nat → Int32) (sz : Nat) (x1 : Int32) (x2 : Int32) (N : Nat) (r0 : Int32) (h : fX4_tell N t_guns_ticks t_runners_entered t_runners_dropped t_runners_facts t_runners_splits t_runners_struck t_runners_torn t_runners_waved t_way_mats t_way_cuts t_way_places x1 x2 = some (r0)) : Met l yX4_tell wsX4_tell ({ frames := 5, cells := 0, slots := 0, locals := 110 } : Room) (va_Pc [.ref a_t, .int x1, .int x2] (zPre D (zT cB cI cZ) [(a_t, .inr (4, [.ref a_t_way, .ref a_t_guns, .ref a_t_runners])), (a_t_guns, .inr (2, [.ref a_t_guns_ticks])), (a_t_guns_ticks, .inl (cI, 6, .inl t_guns_ticks)), (a_t_runners, .inr (6, [.ref a_t_runners_facts, .ref a_t_runners_splits, .ref a_t_runners_torn, .ref a_t_runners_dropped, .ref a_t_runners_waved, .ref a_t_runners_struck, .ref a_t_runners_strikingOrder, .int t_runners_entered, .int t_runners_strikings])), (a_t_runners_dropped, .inl (cZ, 60, .inl t_runners_dropped)), (a_t_runners_facts, .inl (cI, 360, .inl t_runners_facts)), (a_t_runners_splits, .inl (cI, 720, .inl t_runners_splits)), (a_t_runners_struck, .inl (cZ, 60, .inl t_runners_struck)), (a_t_runners_torn, .inl (cI, 60, .inl t_runners_torn)), (a_t_runners_waved, .inl (cZ, 60, .inl t_runners_waved)), (a_t_way, .inr (9, [.ref a_t_way_places, .ref a_t_way_bearings, .ref a_t_way_cuts, .ref a_t_way_deaths, .int t_way_mats])), (a_t_way_cuts, .inl (cI, 12, .inl t_way_cuts)), (a_t_way_places, .inl (cI, 12, .inl t_way_places))] sz)) (zQi r0 D (zT cB cI cZ) [(a_t, .inr (4, [.ref a_t_way, .ref a_t_guns, .ref a_t_runners])), (a_t_guns, .inr (2, [.ref a_t_guns_ticks])), (a_t_guns_ticks, .inl (cI, 6, .inl t_guns_ticks)), (a_t_runners, .inr (6, [.ref a_t_runners_facts, .ref a_t_runners_splits, .ref a_t_runners_torn, .ref a_t_runners_dropped, .ref a_t_runners_waved, .ref a_t_runners_struck, .ref a_t_runners_strikingOrder, .int t_runners_entered, .int t_runners_strikings])), (a_t_runners_dropped, .inl (cZ, 60, .inl t_runners_dropped)), (a_t_runners_facts, .inl (cI, 360, .inl t_runners_facts)), (a_t_runners_splits, .inl (cI, 720, .inl t_runners_splits)), (a_t_runners_struck, .inl (cZ, 60, .inl t_runners_struck)), (a_t_runners_torn, .inl (cI, 60, .inl t_runners_torn)), (a_t_runners_waved, .inl (cZ, 60, .inl t_runners_waved)), (a_t_way, .inr (9, [.ref a_t_way_places, .ref a_t_way_bearings, .ref a_t_way_cuts, .ref a_t_way_deaths, .int t_way_mats])), (a_t_way_cuts, .inl (cI, 12, .inl t_way_cuts)), (a_t_way_places, .inl (cI, 12, .inl t_way_places))] (va_A [(a_t, .inr (4, [.ref a_t_way, .ref a_t_guns, .ref a_t_runners])), (a_t_guns, .inr (2, [.ref a_t_guns_ticks])), (a_t_guns_ticks, .inl (cI, 6, .inl t_guns_ticks)), (a_t_runners, .inr (6, [.ref a_t_runners_facts, .ref a_t_runners_splits, .ref a_t_runners_torn, .ref a_t_runners_dropped, .ref a_t_runners_waved, .ref a_t_runners_struck, .ref a_t_runners_strikingOrder, .int t_runners_entered, .int t_runners_strikings])), (a_t_runners_dropped, .inl (cZ, 60, .inl t_runners_dropped)), (a_t_runners_facts, .inl (cI, 360, .inl t_runners_facts)), (a_t_runners_splits, .inl (cI, 720, .inl t_runners_splits)), (a_t_runners_struck, .inl (cZ, 60, .inl t_runners_struck)), (a_t_runners_torn, .inl (cI, 60, .inl t_runners_torn)), (a_t_runners_waved, .inl (cZ, 60, .inl t_runners_waved)), (a_t_way, .inr (9, [.ref a_t_way_places, .ref a_t_way_bearings, .ref a_t_way_cuts, .ref a_t_way_deaths, .int t_way_mats])), (a_t_way_cuts, .inl (cI, 12, .inl t_way_cuts)), (a_t_way_places, .inl (cI, 12, .inl t_way_places))] sz)) 0 0 (va_A [(a_t, .inr (4, [.ref a_t_way, .ref a_t_guns, .ref a_t_runners])), (a_t_guns, .inr (2, [.ref a_t_guns_ticks])), (a_t_guns_ticks, .inl (cI, 6, .inl t_guns_ticks)), (a_t_runners, .inr (6, [.ref a_t_runners_facts, .ref a_t_runners_splits, .ref a_t_runners_torn, .ref a_t_runners_dropped, .ref a_t_runners_waved, .ref a_t_runners_struck, .ref a_t_runners_strikingOrder, .int t_runners_entered, .int t_runners_strikings])), (a_t_runners_dropped, .inl (cZ, 60, .inl t_runners_dropped)), (a_t_runners_facts, .inl (cI, 360, .inl t_runners_facts)), (a_t_runners_splits, .inl (cI, 720, .inl t_runners_splits)), (a_t_runners_struck, .inl (cZ, 60, .inl t_runners_struck)), (a_t_runners_torn, .inl (cI, 60, .inl t_runners_torn)), (a_t_runners_waved, .inl (cZ, 60, .inl t_runners_waved)), (a_t_way, .inr (9, [.ref a_t_way_places, .ref a_t_way_bearings, .ref a_t_way_cuts, .ref a_t_way_deaths, .int t_way_mats])), (a_t_way_cuts, .inl (cI, 12, .inl t_way_cuts)), (a_t_way_places, .inl (cI, 12, .inl t_way_places))] sz) := by
  refine Met.ofW (cc := cX4_tell) (maxL := 3) (ret := (some .int)) (by decide) rfl ?_
  intro p e s m args below meth c s₁ B hml hv
  obtain ⟨rfl, hsz, hP, hK, hN, hZ, hD0⟩ := hv
  have hx := B.exec
  have hb := B.bytes
  have hr := B.returns
  have hts := atoms_spec (ws := wsX4_tell) B.pre
  have hown : s.vm.findClass RX4 = some m.cls := findClass_of_methodNamed B.named
  have hlocks := B.notSynchronized
  subst hsz
  have hD := hD0.self (sz := s.heap.size)
  generalize hAe : va_A [(a_t, .inr (4, [.ref a_t_way, .ref a_t_guns, .ref a_t_runners])), (a_t_guns, .inr (2, [.ref a_t_guns_ticks])), (a_t_guns_ticks, .inl (cI, 6, .inl t_guns_ticks)), (a_t_runners, .inr (6, [.ref a_t_runners_facts, .ref a_t_runners_splits, .ref a_t_runners_torn, .ref a_t_runners_dropped, .ref a_t_runners_waved, .ref a_t_runners_struck, .ref a_t_runners_strikingOrder, .int t_runners_entered, .int t_runners_strikings])), (a_t_runners_dropped, .inl (cZ, 60, .inl t_runners_dropped)), (a_t_runners_facts, .inl (cI, 360, .inl t_runners_facts)), (a_t_runners_splits, .inl (cI, 720, .inl t_runners_splits)), (a_t_runners_struck, .inl (cZ, 60, .inl t_runners_struck)), (a_t_runners_torn, .inl (cI, 60, .inl t_runners_torn)), (a_t_runners_waved, .inl (cZ, 60, .inl t_runners_waved)), (a_t_way, .inr (9, [.ref a_t_way_places, .ref a_t_way_bearings, .ref a_t_way_cuts, .ref a_t_way_deaths, .int t_way_mats])), (a_t_way_cuts, .inl (cI, 12, .inl t_way_cuts)), (a_t_way_places, .inl (cI, 12, .inl t_way_places))] s.heap.size = A at hD hZ ⊢
  have hA : ∀ q : Nat, s.heap.size ≤ q → A q := fun q h => by rw [← hAe]; exact Or.inr h
  have hS : va_S A s.heap s.heap [] := va_S.rf
  have hl := lv_entry ([.ref a_t, .int x1, .int x2]) (n := 3) (Nat.le_of_ble_eq_true rfl)
  rw [lg_entry_eq]
  generalize (lg_sl ([.ref a_t, .int x1, .int x2]) ++ List.replicate (3 - (lg_sl ([.ref a_t, .int x1, .int x2])).length) Slot.unset).toArray = ls at hl ⊢
  have hl : lv_has ls 3 [(0, .ref a_t), (1, .int x1), (2, .int x2)] := hl
  unfold fX4_tell at h
  refine lv_iload_n hx hb dX4_tell_0 rfl (lv_at hl 2 rfl) ?_
  refine lv_iconst (v := (nI 0)) hx hb dX4_tell_1 rfl ?_
  refine lv_iconst (v := (nI 5)) hx hb dX4_tell_2 rfl ?_
  obtain ⟨b1, e2, h⟩ := zz_b h
  refine zNi (As := [.int x2, .int (nI 0), .int (nI 5)]) (rest := []) (host := "RunDesk") (wr := [(a_t, .inr (4, [.ref a_t_way, .ref a_t_guns, .ref a_t_runners])), (a_t_guns, .inr (2, [.ref a_t_guns_ticks])), (a_t_guns_ticks, .inl (cI, 6, .inl t_guns_ticks)), (a_t_runners, .inr (6, [.ref a_t_runners_facts, .ref a_t_runners_splits, .ref a_t_runners_torn, .ref a_t_runners_dropped, .ref a_t_runners_waved, .ref a_t_runners_struck, .ref a_t_runners_strikingOrder, .int t_runners_entered, .int t_runners_strikings])), (a_t_runners_dropped, .inl (cZ, 60, .inl t_runners_dropped)), (a_t_runners_facts, .inl (cI, 360, .inl t_runners_facts)), (a_t_runners_splits, .inl (cI, 720, .inl t_runners_splits)), (a_t_runners_struck, .inl (cZ, 60, .inl t_runners_struck)), (a_t_runners_torn, .inl (cI, 60, .inl t_runners_torn)), (a_t_runners_waved, .inl (cZ, 60, .inl t_runners_waved)), (a_t_way, .inr (9, [.ref a_t_way_places, .ref a_t_way_bearings, .ref a_t_way_cuts, .ref a_t_way_deaths, .int t_way_mats])), (a_t_way_cuts, .inl (cI, 12, .inl t_way_cuts)), (a_t_way_places, .inl (cI, 12, .inl t_way_places))]) [] [0, 1, 2, 3, 4, 5, 6, 7, 8, 9, 10, 11, 12] ⟨hx, hb, hml, hown, hts⟩ (mX10_within l D cB cI cZ s.heap.size x2 (nI 0) (nI 5) b1 e2) ⟨va_cnB 3 hts gX4_tell_X10_within_n56 rfl rfl rfl (hN _ (List.mem_of_getElem? (i := 25) rfl)) (hts _ kX4_tell_0) (by decide +kernel) ⟨Nat.le_of_ble_eq_true rfl, Nat.le_of_ble_eq_true rfl⟩, (hts _ kX4_tell_1), trivial⟩ hK hN hZ hP hD hS hA rfl rfl rfl rfl rfl rfl hl.1 rfl (lv_room (Nat.le_of_ble_eq_true rfl)) dX4_tell_3 ⟨Nat.le_of_ble_eq_true rfl, Nat.le_of_ble_eq_true rfl⟩ (fun H locs hP hD hS => ?_)
  have hP : va_P D vwCl [(a_t, .inr (4, [.ref a_t_way, .ref a_t_guns, .ref a_t_runners])), (a_t_guns, .inr (2, [.ref a_t_guns_ticks])), (a_t_guns_ticks, .inl (cI, 6, .inl t_guns_ticks)), (a_t_runners, .inr (6, [.ref a_t_runners_facts, .ref a_t_runners_splits, .ref a_t_runners_torn, .ref a_t_runners_dropped, .ref a_t_runners_waved, .ref a_t_runners_struck, .ref a_t_runners_strikingOrder, .int t_runners_entered, .int t_runners_strikings])), (a_t_runners_dropped, .inl (cZ, 60, .inl t_runners_dropped)), (a_t_runners_facts, .inl (cI, 360, .inl t_runners_facts)), (a_t_runners_splits, .inl (cI, 720, .inl t_runners_splits)), (a_t_runners_struck, .inl (cZ, 60, .inl t_runners_struck)), (a_t_runners_torn, .inl (cI, 60, .inl t_runners_torn)), (a_t_runners_waved, .inl (cZ, 60, .inl t_runners_waved)), (a_t_way, .inr (9, [.ref a_t_way_places, .ref a_t_way_bearings, .ref a_t_way_cuts, .ref a_t_way_deaths, .int t_way_mats])), (a_t_way_cuts, .inl (cI, 12, .inl t_way_cuts)), (a_t_way_places, .inl (cI, 12, .inl t_way_places))] H := hP
  have hD : va_D A [(a_t, .inr (4, [.ref a_t_way, .ref a_t_guns, .ref a_t_runners])), (a_t_guns, .inr (2, [.ref a_t_guns_ticks])), (a_t_guns_ticks, .inl (cI, 6, .inl t_guns_ticks)), (a_t_runners, .inr (6, [.ref a_t_runners_facts, .ref a_t_runners_splits, .ref a_t_runners_torn, .ref a_t_runners_dropped, .ref a_t_runners_waved, .ref a_t_runners_struck, .ref a_t_runners_strikingOrder, .int t_runners_entered, .int t_runners_strikings])), (a_t_runners_dropped, .inl (cZ, 60, .inl t_runners_dropped)), (a_t_runners_facts, .inl (cI, 360, .inl t_runners_facts)), (a_t_runners_splits, .inl (cI, 720, .inl t_runners_splits)), (a_t_runners_struck, .inl (cZ, 60, .inl t_runners_struck)), (a_t_runners_torn, .inl (cI, 60, .inl t_runners_torn)), (a_t_runners_waved, .inl (cZ, 60, .inl t_runners_waved)), (a_t_way, .inr (9, [.ref a_t_way_places, .ref a_t_way_bearings, .ref a_t_way_cuts, .ref a_t_way_deaths, .int t_way_mats])), (a_t_way_cuts, .inl (cI, 12, .inl t_way_cuts)), (a_t_way_places, .inl (cI, 12, .inl t_way_places))] := hD
  refine lv_if_eq (tgt := 19) hx hb dX4_tell_6 (by decide) (fun c3 => ?_) (fun c3 => ?_)
  · have h := zz_t h c3
    refine lv_iload_n hx hb dX4_tell_19 rfl (lv_at hl 2 rfl) ?_
    by_cases c4 : x2 = (nI 6)
    · have h := zz_t h c4
      refine lv_tableIn (off := 48) (tgt := 68) hx hb dX4_tell_20 (by rw [c4]; decide) (by rw [c4]; decide) (by rw [c4]; rfl) (by decide) ?_
      refine lv_aload_n hx hb dX4_tell_68 rfl (lv_at hl 0 rfl) ?_
      refine va_get (D := D) (ci := 4) (C := RX4) (T := TX4) (N := 3) hx hb hts qX4_tell_X4 hown hK hP 0 rfl rfl 2 (by decide) (hts _ kX4_tell_2) (fun _ h9 => h9) rfl dX4_tell_69 ?_
      refine lv_iload_n hx hb dX4_tell_72 rfl (lv_at hl 1 rfl) ?_
      obtain ⟨b5, e6, h⟩ := zz_b h
      refine zVi (As := [.int x1]) (rest := []) (C := RX6) (wr := [(a_t, .inr (4, [.ref a_t_way, .ref a_t_guns, .ref a_t_runners])), (a_t_guns, .inr (2, [.ref a_t_guns_ticks])), (a_t_guns_ticks, .inl (cI, 6, .inl t_guns_ticks)), (a_t_runners_dropped, .inl (cZ, 60, .inl t_runners_dropped)), (a_t_runners_facts, .inl (cI, 360, .inl t_runners_facts)), (a_t_runners_splits, .inl (cI, 720, .inl t_runners_splits)), (a_t_runners_struck, .inl (cZ, 60, .inl t_runners_struck)), (a_t_runners_torn, .inl (cI, 60, .inl t_runners_torn)), (a_t_runners_waved, .inl (cZ, 60, .inl t_runners_waved)), (a_t_way, .inr (9, [.ref a_t_way_places, .ref a_t_way_bearings, .ref a_t_way_cuts, .ref a_t_way_deaths, .int t_way_mats])), (a_t_way_cuts, .inl (cI, 12, .inl t_way_cuts)), (a_t_way_places, .inl (cI, 12, .inl t_way_places))]) [3] [0, 1, 2, 4, 5, 6, 7, 8, 9, 10, 11, 12] 0 ⟨hx, hb, hml, hown, hts⟩ (mX6_has l D cB cI cZ a_t_runners a_t_runners_facts a_t_runners_splits a_t_runners_torn a_t_runners_dropped a_t_runners_waved a_t_runners_struck a_t_runners_strikingOrder t_runners_entered t_runners_strikings H.size x1 b5 e6) (cwV 1 hts gX4_tell_X6_has rfl rfl rfl (by decide +kernel) ⟨Nat.le_of_ble_eq_true rfl, Nat.le_of_ble_eq_true rfl⟩) hK hN hZ hP hD hS hA rfl rfl rfl rfl rfl rfl rfl rfl hl.1 rfl (lv_room (Nat.le_of_ble_eq_true rfl)) dX4_tell_73 ⟨Nat.le_of_ble_eq_true rfl, Nat.le_of_ble_eq_true rfl⟩ (fun H locs hP hD hS => ?_)
      have hP : va_P D vwCl [(a_t, .inr (4, [.ref a_t_way, .ref a_t_guns, .ref a_t_runners])), (a_t_guns, .inr (2, [.ref a_t_guns_ticks])), (a_t_guns_ticks, .inl (cI, 6, .inl t_guns_ticks)), (a_t_runners_dropped, .inl (cZ, 60, .inl t_runners_dropped)), (a_t_runners_facts, .inl (cI, 360, .inl t_runners_facts)), (a_t_runners_splits, .inl (cI, 720, .inl t_runners_splits)), (a_t_runners_struck, .inl (cZ, 60, .inl t_runners_struck)), (a_t_runners_torn, .inl (cI, 60, .inl t_runners_torn)), (a_t_runners_waved, .inl (cZ, 60, .inl t_runners_waved)), (a_t_way, .inr (9, [.ref a_t_way_places, .ref a_t_way_bearings, .ref a_t_way_cuts, .ref a_t_way_deaths, .int t_way_mats])), (a_t_way_cuts, .inl (cI, 12, .inl t_way_cuts)), (a_t_way_places, .inl (cI, 12, .inl t_way_places)), (a_t_runners, .inr (6, [.ref a_t_runners_facts, .ref a_t_runners_splits, .ref a_t_runners_torn, .ref a_t_runners_dropped, .ref a_t_runners_waved, .ref a_t_runners_struck, .ref a_t_runners_strikingOrder, .int t_runners_entered, .int t_runners_strikings]))] H := hP
      have hD : va_D A [(a_t, .inr (4, [.ref a_t_way, .ref a_t_guns, .ref a_t_runners])), (a_t_guns, .inr (2, [.ref a_t_guns_ticks])), (a_t_guns_ticks, .inl (cI, 6, .inl t_guns_ticks)), (a_t_runners_dropped, .inl (cZ, 60, .inl t_runners_dropped)), (a_t_runners_facts, .inl (cI, 360, .inl t_runners_facts)), (a_t_runners_splits, .inl (cI, 720, .inl t_runners_splits)), (a_t_runners_struck, .inl (cZ, 60, .inl t_runners_struck)), (a_t_runners_torn, .inl (cI, 60, .inl t_runners_torn)), (a_t_runners_waved, .inl (cZ, 60, .inl t_runners_waved)), (a_t_way, .inr (9, [.ref a_t_way_places, .ref a_t_way_bearings, .ref a_t_way_cuts, .ref a_t_way_deaths, .int t_way_mats])), (a_t_way_cuts, .inl (cI, 12, .inl t_way_cuts)), (a_t_way_places, .inl (cI, 12, .inl t_way_places)), (a_t_runners, .inr (6, [.ref a_t_runners_facts, .ref a_t_runners_splits, .ref a_t_runners_torn, .ref a_t_runners_dropped, .ref a_t_runners_waved, .ref a_t_runners_struck, .ref a_t_runners_strikingOrder, .int t_runners_entered, .int t_runners_strikings]))] := hD
      refine lv_if_eq (tgt := 87) hx hb dX4_tell_76 (by decide) (fun c7 => ?_) (fun c7 => ?_)
      · have h := zz_t h c7
        refine lv_iconst (v := (-1 : Int32)) hx hb dX4_tell_87 rfl ?_
        have j0_ := Option.some.inj h
        subst j0_
        exact W.iret (v := (-1 : Int32)) hx hb hr (fun t ht hW => ⟨⟨_, (), rfl, rfl, zPost.of hP hD hK ht hW [0, 1, 2, 12, 3, 4, 5, 6, 7, 8, 9, 10, 11] rfl rfl rfl⟩, hS.F ht⟩) hS.2.2 dX4_tell_88
      · have h := zz_f h c7
        refine lv_aload_n hx hb dX4_tell_79 rfl (lv_at hl 0 rfl) ?_
        refine lv_iload_n hx hb dX4_tell_80 rfl (lv_at hl 1 rfl) ?_
        obtain ⟨r8, e9, h⟩ := zz_b h
        refine zVi (As := [.int x1]) (rest := []) (C := RX4) (wr := [(a_t_runners_torn, .inl (cI, 60, .inl t_runners_torn)), (a_t_way_places, .inl (cI, 12, .inl t_way_places))]) [0, 1, 2, 12, 3, 4, 5, 6, 8, 9, 10] [7, 11] 0 ⟨hx, hb, hml, hown, hts⟩ (mX4_stateOf l D cB cI cZ a_t a_t_way a_t_guns a_t_runners a_t_guns_ticks a_t_runners_facts a_t_runners_splits a_t_runners_torn a_t_runners_dropped a_t_runners_waved a_t_runners_struck a_t_runners_strikingOrder a_t_way_places a_t_way_bearings a_t_way_cuts a_t_way_deaths t_guns_ticks t_runners_entered t_runners_strikings t_runners_dropped t_runners_facts t_runners_splits t_runners_struck t_runners_waved t_way_mats t_way_cuts H.size x1 N r8 e9) (cwV 1 hts gX4_tell_X4_stateOf rfl rfl rfl (by decide +kernel) ⟨Nat.le_of_ble_eq_true rfl, Nat.le_of_ble_eq_true rfl⟩) hK hN hZ hP hD hS hA rfl rfl rfl rfl rfl rfl rfl rfl hl.1 rfl (lv_room (Nat.le_of_ble_eq_true rfl)) dX4_tell_81 ⟨Nat.le_of_ble_eq_true rfl, Nat.le_of_ble_eq_true rfl⟩ (fun H locs hP hD hS => ?_)
        have hP : va_P D vwCl [(a_t_runners_torn, .inl (cI, 60, .inl t_runners_torn)), (a_t_way_places, .inl (cI, 12, .inl t_way_places)), (a_t, .inr (4, [.ref a_t_way, .ref a_t_guns, .ref a_t_runners])), (a_t_guns, .inr (2, [.ref a_t_guns_ticks])), (a_t_guns_ticks, .inl (cI, 6, .inl t_guns_ticks)), (a_t_runners, .inr (6, [.ref a_t_runners_facts, .ref a_t_runners_splits, .ref a_t_runners_torn, .ref a_t_runners_dropped, .ref a_t_runners_waved, .ref a_t_runners_struck, .ref a_t_runners_strikingOrder, .int t_runners_entered, .int t_runners_strikings])), (a_t_runners_dropped, .inl (cZ, 60, .inl t_runners_dropped)), (a_t_runners_facts, .inl (cI, 360, .inl t_runners_facts)), (a_t_runners_splits, .inl (cI, 720, .inl t_runners_splits)), (a_t_runners_struck, .inl (cZ, 60, .inl t_runners_struck)), (a_t_runners_waved, .inl (cZ, 60, .inl t_runners_waved)), (a_t_way, .inr (9, [.ref a_t_way_places, .ref a_t_way_bearings, .ref a_t_way_cuts, .ref a_t_way_deaths, .int t_way_mats])), (a_t_way_cuts, .inl (cI, 12, .inl t_way_cuts))] H := hP
        have hD : va_D A [(a_t_runners_torn, .inl (cI, 60, .inl t_runners_torn)), (a_t_way_places, .inl (cI, 12, .inl t_way_places)), (a_t, .inr (4, [.ref a_t_way, .ref a_t_guns, .ref a_t_runners])), (a_t_guns, .inr (2, [.ref a_t_guns_ticks])), (a_t_guns_ticks, .inl (cI, 6, .inl t_guns_ticks)), (a_t_runners, .inr (6, [.ref a_t_runners_facts, .ref a_t_runners_splits, .ref a_t_runners_torn, .ref a_t_runners_dropped, .ref a_t_runners_waved, .ref a_t_runners_struck, .ref a_t_runners_strikingOrder, .int t_runners_entered, .int t_runners_strikings])), (a_t_runners_dropped, .inl (cZ, 60, .inl t_runners_dropped)), (a_t_runners_facts, .inl (cI, 360, .inl t_runners_facts)), (a_t_runners_splits, .inl (cI, 720, .inl t_runners_splits)), (a_t_runners_struck, .inl (cZ, 60, .inl t_runners_struck)), (a_t_runners_waved, .inl (cZ, 60, .inl t_runners_waved)), (a_t_way, .inr (9, [.ref a_t_way_places, .ref a_t_way_bearings, .ref a_t_way_cuts, .ref a_t_way_deaths, .int t_way_mats])), (a_t_way_cuts, .inl (cI, 12, .inl t_way_cuts))] := hD
        refine lv_goto (tgt := 88) hx hb dX4_tell_84 (by decide) ?_
        have j0_ := Option.some.inj h
        subst j0_
        exact W.iret (v := r8) hx hb hr (fun t ht hW => ⟨⟨_, (), rfl, rfl, zPost.of hP hD hK ht hW [2, 3, 4, 5, 6, 7, 8, 9, 0, 10, 11, 12, 1] rfl rfl rfl⟩, hS.F ht⟩) hS.2.2 dX4_tell_88
    · have h := zz_f h c4
      by_cases c10 : x2 = (nI 7)
      · have h := zz_t h c10
        refine lv_tableIn (off := 69) (tgt := 89) hx hb dX4_tell_20 (by rw [c10]; decide) (by rw [c10]; decide) (by rw [c10]; rfl) (by decide) ?_
        refine lv_aload_n hx hb dX4_tell_89 rfl (lv_at hl 0 rfl) ?_
        refine lv_iload_n hx hb dX4_tell_90 rfl (lv_at hl 1 rfl) ?_
        obtain ⟨r11, e12, h⟩ := zz_b h
        refine zVi (As := [.int x1]) (rest := []) (C := RX4) (wr := [(a_t_runners_dropped, .inl (cZ, 60, .inl t_runners_dropped)), (a_t_runners_struck, .inl (cZ, 60, .inl t_runners_struck)), (a_t_runners_torn, .inl (cI, 60, .inl t_runners_torn)), (a_t_runners_waved, .inl (cZ, 60, .inl t_runners_waved)), (a_t_way, .inr (9, [.ref a_t_way_places, .ref a_t_way_bearings, .ref a_t_way_cuts, .ref a_t_way_deaths, .int t_way_mats])), (a_t_way_cuts, .inl (cI, 12, .inl t_way_cuts)), (a_t_way_places, .inl (cI, 12, .inl t_way_places))]) [0, 1, 2, 3, 5, 6] [4, 7, 8, 9, 10, 11, 12] 0 ⟨hx, hb, hml, hown, hts⟩ (mX4_startOf l D cB cI cZ a_t a_t_way a_t_guns a_t_runners a_t_guns_ticks a_t_runners_facts a_t_runners_splits a_t_runners_torn a_t_runners_dropped a_t_runners_waved a_t_runners_struck a_t_runners_strikingOrder t_guns_ticks t_runners_entered t_runners_strikings t_runners_facts t_runners_splits H.size x1 r11 e12) (cwV 1 hts gX4_tell_X4_startOf rfl rfl rfl (by decide +kernel) ⟨Nat.le_of_ble_eq_true rfl, Nat.le_of_ble_eq_true rfl⟩) hK hN hZ hP hD hS hA rfl rfl rfl rfl rfl rfl rfl rfl hl.1 rfl (lv_room (Nat.le_of_ble_eq_true rfl)) dX4_tell_91 ⟨Nat.le_of_ble_eq_true rfl, Nat.le_of_ble_eq_true rfl⟩ (fun H locs hP hD hS => ?_)
        have hP : va_P D vwCl [(a_t_runners_dropped, .inl (cZ, 60, .inl t_runners_dropped)), (a_t_runners_struck, .inl (cZ, 60, .inl t_runners_struck)), (a_t_runners_torn, .inl (cI, 60, .inl t_runners_torn)), (a_t_runners_waved, .inl (cZ, 60, .inl t_runners_waved)), (a_t_way, .inr (9, [.ref a_t_way_places, .ref a_t_way_bearings, .ref a_t_way_cuts, .ref a_t_way_deaths, .int t_way_mats])), (a_t_way_cuts, .inl (cI, 12, .inl t_way_cuts)), (a_t_way_places, .inl (cI, 12, .inl t_way_places)), (a_t, .inr (4, [.ref a_t_way, .ref a_t_guns, .ref a_t_runners])), (a_t_guns, .inr (2, [.ref a_t_guns_ticks])), (a_t_guns_ticks, .inl (cI, 6, .inl t_guns_ticks)), (a_t_runners, .inr (6, [.ref a_t_runners_facts, .ref a_t_runners_splits, .ref a_t_runners_torn, .ref a_t_runners_dropped, .ref a_t_runners_waved, .ref a_t_runners_struck, .ref a_t_runners_strikingOrder, .int t_runners_entered, .int t_runners_strikings])), (a_t_runners_facts, .inl (cI, 360, .inl t_runners_facts)), (a_t_runners_splits, .inl (cI, 720, .inl t_runners_splits))] H := hP
        have hD : va_D A [(a_t_runners_dropped, .inl (cZ, 60, .inl t_runners_dropped)), (a_t_runners_struck, .inl (cZ, 60, .inl t_runners_struck)), (a_t_runners_torn, .inl (cI, 60, .inl t_runners_torn)), (a_t_runners_waved, .inl (cZ, 60, .inl t_runners_waved)), (a_t_way, .inr (9, [.ref a_t_way_places, .ref a_t_way_bearings, .ref a_t_way_cuts, .ref a_t_way_deaths, .int t_way_mats])), (a_t_way_cuts, .inl (cI, 12, .inl t_way_cuts)), (a_t_way_places, .inl (cI, 12, .inl t_way_places)), (a_t, .inr (4, [.ref a_t_way, .ref a_t_guns, .ref a_t_runners])), (a_t_guns, .inr (2, [.ref a_t_guns_ticks])), (a_t_guns_ticks, .inl (cI, 6, .inl t_guns_ticks)), (a_t_runners, .inr (6, [.ref a_t_runners_facts, .ref a_t_runners_splits, .ref a_t_runners_torn, .ref a_t_runners_dropped, .ref a_t_runners_waved, .ref a_t_runners_struck, .ref a_t_runners_strikingOrder, .int t_runners_entered, .int t_runners_strikings])), (a_t_runners_facts, .inl (cI, 360, .inl t_runners_facts)), (a_t_runners_splits, .inl (cI, 720, .inl t_runners_splits))] := hD
        have j0_ := Option.some.inj h
        subst j0_
        exact W.iret (v := r11) hx hb hr (fun t ht hW => ⟨⟨_, (), rfl, rfl, zPost.of hP hD hK ht hW [7, 8, 9, 10, 0, 11, 12, 1, 2, 3, 4, 5, 6] rfl rfl rfl⟩, hS.F ht⟩) hS.2.2 dX4_tell_94
      · have h := zz_f h c10
        by_cases c13 : x2 = (nI 8)
        · have h := zz_t h c13
          refine lv_tableIn (off := 75) (tgt := 95) hx hb dX4_tell_20 (by rw [c13]; decide) (by rw [c13]; decide) (by rw [c13]; rfl) (by decide) ?_
          refine lv_aload_n hx hb dX4_tell_95 rfl (lv_at hl 0 rfl) ?_
          refine lv_iload_n hx hb dX4_tell_96 rfl (lv_at hl 1 rfl) ?_
          obtain ⟨r14, e15, h⟩ := zz_b h
          refine zVi (As := [.int x1]) (rest := []) (C := RX4) (wr := [(a_t_runners_dropped, .inl (cZ, 60, .inl t_runners_dropped)), (a_t_runners_struck, .inl (cZ, 60, .inl t_runners_struck)), (a_t_runners_torn, .inl (cI, 60, .inl t_runners_torn)), (a_t_runners_waved, .inl (cZ, 60, .inl t_runners_waved)), (a_t_way_cuts, .inl (cI, 12, .inl t_way_cuts)), (a_t_way_places, .inl (cI, 12, .inl t_way_places))]) [0, 1, 2, 3, 5, 6, 10] [4, 7, 8, 9, 11, 12] 0 ⟨hx, hb, hml, hown, hts⟩ (mX4_latestOf l D cB cI cZ a_t a_t_way a_t_guns a_t_runners a_t_guns_ticks a_t_runners_facts a_t_runners_splits a_t_runners_torn a_t_runners_dropped a_t_runners_waved a_t_runners_struck a_t_runners_strikingOrder a_t_way_places a_t_way_bearings a_t_way_cuts a_t_way_deaths t_guns_ticks t_runners_entered t_runners_strikings t_runners_facts t_runners_splits t_way_mats H.size x1 N r14 e15) (cwV 1 hts gX4_tell_X4_latestOf rfl rfl rfl (by decide +kernel) ⟨Nat.le_of_ble_eq_true rfl, Nat.le_of_ble_eq_true rfl⟩) hK hN hZ hP hD hS hA rfl rfl rfl rfl rfl rfl rfl rfl hl.1 rfl (lv_room (Nat.le_of_ble_eq_true rfl)) dX4_tell_97 ⟨Nat.le_of_ble_eq_true rfl, Nat.le_of_ble_eq_true rfl⟩ (fun H locs hP hD hS => ?_)
          have hP : va_P D vwCl [(a_t_runners_dropped, .inl (cZ, 60, .inl t_runners_dropped)), (a_t_runners_struck, .inl (cZ, 60, .inl t_runners_struck)), (a_t_runners_torn, .inl (cI, 60, .inl t_runners_torn)), (a_t_runners_waved, .inl (cZ, 60, .inl t_runners_waved)), (a_t_way_cuts, .inl (cI, 12, .inl t_way_cuts)), (a_t_way_places, .inl (cI, 12, .inl t_way_places)), (a_t, .inr (4, [.ref a_t_way, .ref a_t_guns, .ref a_t_runners])), (a_t_guns, .inr (2, [.ref a_t_guns_ticks])), (a_t_guns_ticks, .inl (cI, 6, .inl t_guns_ticks)), (a_t_runners, .inr (6, [.ref a_t_runners_facts, .ref a_t_runners_splits, .ref a_t_runners_torn, .ref a_t_runners_dropped, .ref a_t_runners_waved, .ref a_t_runners_struck, .ref a_t_runners_strikingOrder, .int t_runners_entered, .int t_runners_strikings])), (a_t_runners_facts, .inl (cI, 360, .inl t_runners_facts)), (a_t_runners_splits, .inl (cI, 720, .inl t_runners_splits)), (a_t_way, .inr (9, [.ref a_t_way_places, .ref a_t_way_bearings, .ref a_t_way_cuts, .ref a_t_way_deaths, .int t_way_mats]))] H := hP
          have hD : va_D A [(a_t_runners_dropped, .inl (cZ, 60, .inl t_runners_dropped)), (a_t_runners_struck, .inl (cZ, 60, .inl t_runners_struck)), (a_t_runners_torn, .inl (cI, 60, .inl t_runners_torn)), (a_t_runners_waved, .inl (cZ, 60, .inl t_runners_waved)), (a_t_way_cuts, .inl (cI, 12, .inl t_way_cuts)), (a_t_way_places, .inl (cI, 12, .inl t_way_places)), (a_t, .inr (4, [.ref a_t_way, .ref a_t_guns, .ref a_t_runners])), (a_t_guns, .inr (2, [.ref a_t_guns_ticks])), (a_t_guns_ticks, .inl (cI, 6, .inl t_guns_ticks)), (a_t_runners, .inr (6, [.ref a_t_runners_facts, .ref a_t_runners_splits, .ref a_t_runners_torn, .ref a_t_runners_dropped, .ref a_t_runners_waved, .ref a_t_runners_struck, .ref a_t_runners_strikingOrder, .int t_runners_entered, .int t_runners_strikings])), (a_t_runners_facts, .inl (cI, 360, .inl t_runners_facts)), (a_t_runners_splits, .inl (cI, 720, .inl t_runners_splits)), (a_t_way, .inr (9, [.ref a_t_way_places, .ref a_t_way_bearings, .ref a_t_way_cuts, .ref a_t_way_deaths, .int t_way_mats]))] := hD
          have j0_ := Option.some.inj h
          subst j0_
          exact W.iret (v := r14) hx hb hr (fun t ht hW => ⟨⟨_, (), rfl, rfl, zPost.of hP hD hK ht hW [6, 7, 8, 9, 0, 10, 11, 1, 2, 3, 12, 4, 5] rfl rfl rfl⟩, hS.F ht⟩) hS.2.2 dX4_tell_100
        · have h := zz_f h c13
          by_cases c16 : x2 = (nI 9)
          · have h := zz_t h c16
            refine lv_tableIn (off := 81) (tgt := 101) hx hb dX4_tell_20 (by rw [c16]; decide) (by rw [c16]; decide) (by rw [c16]; rfl) (by decide) ?_
            refine lv_aload_n hx hb dX4_tell_101 rfl (lv_at hl 0 rfl) ?_
            refine lv_iload_n hx hb dX4_tell_102 rfl (lv_at hl 1 rfl) ?_
            refine lv_aload_n hx hb dX4_tell_103 rfl (lv_at hl 0 rfl) ?_
            refine lv_iload_n hx hb dX4_tell_104 rfl (lv_at hl 1 rfl) ?_
            obtain ⟨r17, e18, h⟩ := zz_b h
            refine zVi (As := [.int x1]) (rest := [.int x1, .ref a_t]) (C := RX4) (wr := [(a_t_runners_dropped, .inl (cZ, 60, .inl t_runners_dropped)), (a_t_runners_struck, .inl (cZ, 60, .inl t_runners_struck)), (a_t_runners_torn, .inl (cI, 60, .inl t_runners_torn)), (a_t_runners_waved, .inl (cZ, 60, .inl t_runners_waved)), (a_t_way, .inr (9, [.ref a_t_way_places, .ref a_t_way_bearings, .ref a_t_way_cuts, .ref a_t_way_deaths, .int t_way_mats])), (a_t_way_cuts, .inl (cI, 12, .inl t_way_cuts)), (a_t_way_places, .inl (cI, 12, .inl t_way_places))]) [0, 1, 2, 3, 5, 6] [4, 7, 8, 9, 10, 11, 12] 0 ⟨hx, hb, hml, hown, hts⟩ (mX4_startOf l D cB cI cZ a_t a_t_way a_t_guns a_t_runners a_t_guns_ticks a_t_runners_facts a_t_runners_splits a_t_runners_torn a_t_runners_dropped a_t_runners_waved a_t_runners_struck a_t_runners_strikingOrder t_guns_ticks t_runners_entered t_runners_strikings t_runners_facts t_runners_splits H.size x1 r17 e18) (cwV 1 hts gX4_tell_X4_startOf rfl rfl rfl (by decide +kernel) ⟨Nat.le_of_ble_eq_true rfl, Nat.le_of_ble_eq_true rfl⟩) hK hN hZ hP hD hS hA rfl rfl rfl rfl rfl rfl rfl rfl hl.1 rfl (lv_room (Nat.le_of_ble_eq_true rfl)) dX4_tell_105 ⟨Nat.le_of_ble_eq_true rfl, Nat.le_of_ble_eq_true rfl⟩ (fun H locs hP hD hS => ?_)
            have hP : va_P D vwCl [(a_t_runners_dropped, .inl (cZ, 60, .inl t_runners_dropped)), (a_t_runners_struck, .inl (cZ, 60, .inl t_runners_struck)), (a_t_runners_torn, .inl (cI, 60, .inl t_runners_torn)), (a_t_runners_waved, .inl (cZ, 60, .inl t_runners_waved)), (a_t_way, .inr (9, [.ref a_t_way_places, .ref a_t_way_bearings, .ref a_t_way_cuts, .ref a_t_way_deaths, .int t_way_mats])), (a_t_way_cuts, .inl (cI, 12, .inl t_way_cuts)), (a_t_way_places, .inl (cI, 12, .inl t_way_places)), (a_t, .inr (4, [.ref a_t_way, .ref a_t_guns, .ref a_t_runners])), (a_t_guns, .inr (2, [.ref a_t_guns_ticks])), (a_t_guns_ticks, .inl (cI, 6, .inl t_guns_ticks)), (a_t_runners, .inr (6, [.ref a_t_runners_facts, .ref a_t_runners_splits, .ref a_t_runners_torn, .ref a_t_runners_dropped, .ref a_t_runners_waved, .ref a_t_runners_struck, .ref a_t_runners_strikingOrder, .int t_runners_entered, .int t_runners_strikings])), (a_t_runners_facts, .inl (cI, 360, .inl t_runners_facts)), (a_t_runners_splits, .inl (cI, 720, .inl t_runners_splits))] H := hP
            have hD : va_D A [(a_t_runners_dropped, .inl (cZ, 60, .inl t_runners_dropped)), (a_t_runners_struck, .inl (cZ, 60, .inl t_runners_struck)), (a_t_runners_torn, .inl (cI, 60, .inl t_runners_torn)), (a_t_runners_waved, .inl (cZ, 60, .inl t_runners_waved)), (a_t_way, .inr (9, [.ref a_t_way_places, .ref a_t_way_bearings, .ref a_t_way_cuts, .ref a_t_way_deaths, .int t_way_mats])), (a_t_way_cuts, .inl (cI, 12, .inl t_way_cuts)), (a_t_way_places, .inl (cI, 12, .inl t_way_places)), (a_t, .inr (4, [.ref a_t_way, .ref a_t_guns, .ref a_t_runners])), (a_t_guns, .inr (2, [.ref a_t_guns_ticks])), (a_t_guns_ticks, .inl (cI, 6, .inl t_guns_ticks)), (a_t_runners, .inr (6, [.ref a_t_runners_facts, .ref a_t_runners_splits, .ref a_t_runners_torn, .ref a_t_runners_dropped, .ref a_t_runners_waved, .ref a_t_runners_struck, .ref a_t_runners_strikingOrder, .int t_runners_entered, .int t_runners_strikings])), (a_t_runners_facts, .inl (cI, 360, .inl t_runners_facts)), (a_t_runners_splits, .inl (cI, 720, .inl t_runners_splits))] := hD
            obtain ⟨r19, e20, h⟩ := zz_b h
            refine zVi (As := [.int x1, .int r17]) (rest := []) (C := RX4) (wr := [(a_t_runners_torn, .inl (cI, 60, .inl t_runners_torn)), (a_t_way_places, .inl (cI, 12, .inl t_way_places))]) [7, 8, 9, 10, 0, 11, 12, 1, 3, 4, 5] [2, 6] 0 ⟨hx, hb, hml, hown, hts⟩ (mX4_timeSince l D cB cI cZ a_t a_t_way a_t_guns a_t_runners a_t_guns_ticks a_t_runners_facts a_t_runners_splits a_t_runners_torn a_t_runners_dropped a_t_runners_waved a_t_runners_struck a_t_runners_strikingOrder a_t_way_places a_t_way_bearings a_t_way_cuts a_t_way_deaths t_guns_ticks t_runners_entered t_runners_strikings t_runners_dropped t_runners_facts t_runners_splits t_runners_struck t_runners_waved t_way_mats t_way_cuts H.size x1 r17 N r19 e20) (cwV 2 hts gX4_tell_X4_timeSince rfl rfl rfl (by decide +kernel) ⟨Nat.le_of_ble_eq_true rfl, Nat.le_of_ble_eq_true rfl⟩) hK hN hZ hP hD hS hA rfl rfl rfl rfl rfl rfl rfl rfl hl.1 rfl (lv_room (Nat.le_of_ble_eq_true rfl)) dX4_tell_108 ⟨Nat.le_of_ble_eq_true rfl, Nat.le_of_ble_eq_true rfl⟩ (fun H locs hP hD hS => ?_)
            have hP : va_P D vwCl [(a_t_runners_torn, .inl (cI, 60, .inl t_runners_torn)), (a_t_way_places, .inl (cI, 12, .inl t_way_places)), (a_t, .inr (4, [.ref a_t_way, .ref a_t_guns, .ref a_t_runners])), (a_t_guns, .inr (2, [.ref a_t_guns_ticks])), (a_t_guns_ticks, .inl (cI, 6, .inl t_guns_ticks)), (a_t_runners, .inr (6, [.ref a_t_runners_facts, .ref a_t_runners_splits, .ref a_t_runners_torn, .ref a_t_runners_dropped, .ref a_t_runners_waved, .ref a_t_runners_struck, .ref a_t_runners_strikingOrder, .int t_runners_entered, .int t_runners_strikings])), (a_t_runners_dropped, .inl (cZ, 60, .inl t_runners_dropped)), (a_t_runners_facts, .inl (cI, 360, .inl t_runners_facts)), (a_t_runners_splits, .inl (cI, 720, .inl t_runners_splits)), (a_t_runners_struck, .inl (cZ, 60, .inl t_runners_struck)), (a_t_runners_waved, .inl (cZ, 60, .inl t_runners_waved)), (a_t_way, .inr (9, [.ref a_t_way_places, .ref a_t_way_bearings, .ref a_t_way_cuts, .ref a_t_way_deaths, .int t_way_mats])), (a_t_way_cuts, .inl (cI, 12, .inl t_way_cuts))] H := hP
            have hD : va_D A [(a_t_runners_torn, .inl (cI, 60, .inl t_runners_torn)), (a_t_way_places, .inl (cI, 12, .inl t_way_places)), (a_t, .inr (4, [.ref a_t_way, .ref a_t_guns, .ref a_t_runners])), (a_t_guns, .inr (2, [.ref a_t_guns_ticks])), (a_t_guns_ticks, .inl (cI, 6, .inl t_guns_ticks)), (a_t_runners, .inr (6, [.ref a_t_runners_facts, .ref a_t_runners_splits, .ref a_t_runners_torn, .ref a_t_runners_dropped, .ref a_t_runners_waved, .ref a_t_runners_struck, .ref a_t_runners_strikingOrder, .int t_runners_entered, .int t_runners_strikings])), (a_t_runners_dropped, .inl (cZ, 60, .inl t_runners_dropped)), (a_t_runners_facts, .inl (cI, 360, .inl t_runners_facts)), (a_t_runners_splits, .inl (cI, 720, .inl t_runners_splits)), (a_t_runners_struck, .inl (cZ, 60, .inl t_runners_struck)), (a_t_runners_waved, .inl (cZ, 60, .inl t_runners_waved)), (a_t_way, .inr (9, [.ref a_t_way_places, .ref a_t_way_bearings, .ref a_t_way_cuts, .ref a_t_way_deaths, .int t_way_mats])), (a_t_way_cuts, .inl (cI, 12, .inl t_way_cuts))] := hD
            have j0_ := Option.some.inj h
            subst j0_
            exact W.iret (v := r19) hx hb hr (fun t ht hW => ⟨⟨_, (), rfl, rfl, zPost.of hP hD hK ht hW [2, 3, 4, 5, 6, 7, 8, 9, 0, 10, 11, 12, 1] rfl rfl rfl⟩, hS.F ht⟩) hS.2.2 dX4_tell_111
          · have h := zz_f h c16
            by_cases c21 : x2 = (nI 10)
            · have h := zz_t h c21
              refine lv_tableIn (off := 92) (tgt := 112) hx hb dX4_tell_20 (by rw [c21]; decide) (by rw [c21]; decide) (by rw [c21]; rfl) (by decide) ?_
              refine lv_aload_n hx hb dX4_tell_112 rfl (lv_at hl 0 rfl) ?_
              refine lv_iload_n hx hb dX4_tell_113 rfl (lv_at hl 1 rfl) ?_
              refine lv_aload_n hx hb dX4_tell_114 rfl (lv_at hl 0 rfl) ?_
              refine lv_iload_n hx hb dX4_tell_115 rfl (lv_at hl 1 rfl) ?_
              obtain ⟨r22, e23, h⟩ := zz_b h
              refine zVi (As := [.int x1]) (rest := [.int x1, .ref a_t]) (C := RX4) (wr := [(a_t_runners_dropped, .inl (cZ, 60, .inl t_runners_dropped)), (a_t_runners_splits, .inl (cI, 720, .inl t_runners_splits)), (a_t_runners_struck, .inl (cZ, 60, .inl t_runners_struck)), (a_t_runners_torn, .inl (cI, 60, .inl t_runners_torn)), (a_t_runners_waved, .inl (cZ, 60, .inl t_runners_waved)), (a_t_way, .inr (9, [.ref a_t_way_places, .ref a_t_way_bearings, .ref a_t_way_cuts, .ref a_t_way_deaths, .int t_way_mats])), (a_t_way_cuts, .inl (cI, 12, .inl t_way_cuts)), (a_t_way_places, .inl (cI, 12, .inl t_way_places))]) [0, 1, 2, 3, 5] [4, 6, 7, 8, 9, 10, 11, 12] 0 ⟨hx, hb, hml, hown, hts⟩ (mX4_gunOf l D cB cI cZ a_t a_t_way a_t_guns a_t_runners a_t_guns_ticks a_t_runners_facts a_t_runners_splits a_t_runners_torn a_t_runners_dropped a_t_runners_waved a_t_runners_struck a_t_runners_strikingOrder t_guns_ticks t_runners_entered t_runners_strikings t_runners_facts H.size x1 r22 e23) (cwV 1 hts gX4_tell_X4_gunOf rfl rfl rfl (by decide +kernel) ⟨Nat.le_of_ble_eq_true rfl, Nat.le_of_ble_eq_true rfl⟩) hK hN hZ hP hD hS hA rfl rfl rfl rfl rfl rfl rfl rfl hl.1 rfl (lv_room (Nat.le_of_ble_eq_true rfl)) dX4_tell_116 ⟨Nat.le_of_ble_eq_true rfl, Nat.le_of_ble_eq_true rfl⟩ (fun H locs hP hD hS => ?_)
              have hP : va_P D vwCl [(a_t_runners_dropped, .inl (cZ, 60, .inl t_runners_dropped)), (a_t_runners_splits, .inl (cI, 720, .inl t_runners_splits)), (a_t_runners_struck, .inl (cZ, 60, .inl t_runners_struck)), (a_t_runners_torn, .inl (cI, 60, .inl t_runners_torn)), (a_t_runners_waved, .inl (cZ, 60, .inl t_runners_waved)), (a_t_way, .inr (9, [.ref a_t_way_places, .ref a_t_way_bearings, .ref a_t_way_cuts, .ref a_t_way_deaths, .int t_way_mats])), (a_t_way_cuts, .inl (cI, 12, .inl t_way_cuts)), (a_t_way_places, .inl (cI, 12, .inl t_way_places)), (a_t, .inr (4, [.ref a_t_way, .ref a_t_guns, .ref a_t_runners])), (a_t_guns, .inr (2, [.ref a_t_guns_ticks])), (a_t_guns_ticks, .inl (cI, 6, .inl t_guns_ticks)), (a_t_runners, .inr (6, [.ref a_t_runners_facts, .ref a_t_runners_splits, .ref a_t_runners_torn, .ref a_t_runners_dropped, .ref a_t_runners_waved, .ref a_t_runners_struck, .ref a_t_runners_strikingOrder, .int t_runners_entered, .int t_runners_strikings])), (a_t_runners_facts, .inl (cI, 360, .inl t_runners_facts))] H := hP
              have hD : va_D A [(a_t_runners_dropped, .inl (cZ, 60, .inl t_runners_dropped)), (a_t_runners_splits, .inl (cI, 720, .inl t_runners_splits)), (a_t_runners_struck, .inl (cZ, 60, .inl t_runners_struck)), (a_t_runners_torn, .inl (cI, 60, .inl t_runners_torn)), (a_t_runners_waved, .inl (cZ, 60, .inl t_runners_waved)), (a_t_way, .inr (9, [.ref a_t_way_places, .ref a_t_way_bearings, .ref a_t_way_cuts, .ref a_t_way_deaths, .int t_way_mats])), (a_t_way_cuts, .inl (cI, 12, .inl t_way_cuts)), (a_t_way_places, .inl (cI, 12, .inl t_way_places)), (a_t, .inr (4, [.ref a_t_way, .ref a_t_guns, .ref a_t_runners])), (a_t_guns, .inr (2, [.ref a_t_guns_ticks])), (a_t_guns_ticks, .inl (cI, 6, .inl t_guns_ticks)), (a_t_runners, .inr (6, [.ref a_t_runners_facts, .ref a_t_runners_splits, .ref a_t_runners_torn, .ref a_t_runners_dropped, .ref a_t_runners_waved, .ref a_t_runners_struck, .ref a_t_runners_strikingOrder, .int t_runners_entered, .int t_runners_strikings])), (a_t_runners_facts, .inl (cI, 360, .inl t_runners_facts))] := hD
              obtain ⟨r24, e25, h⟩ := zz_b h
              refine zVi (As := [.int x1, .int r22]) (rest := []) (C := RX4) (wr := [(a_t_runners_torn, .inl (cI, 60, .inl t_runners_torn)), (a_t_way_places, .inl (cI, 12, .inl t_way_places))]) [8, 9, 10, 11, 0, 12, 1, 2, 4, 5, 6] [3, 7] 0 ⟨hx, hb, hml, hown, hts⟩ (mX4_timeSince l D cB cI cZ a_t a_t_way a_t_guns a_t_runners a_t_guns_ticks a_t_runners_facts a_t_runners_splits a_t_runners_torn a_t_runners_dropped a_t_runners_waved a_t_runners_struck a_t_runners_strikingOrder a_t_way_places a_t_way_bearings a_t_way_cuts a_t_way_deaths t_guns_ticks t_runners_entered t_runners_strikings t_runners_dropped t_runners_facts t_runners_splits t_runners_struck t_runners_waved t_way_mats t_way_cuts H.size x1 r22 N r24 e25) (cwV 2 hts gX4_tell_X4_timeSince rfl rfl rfl (by decide +kernel) ⟨Nat.le_of_ble_eq_true rfl, Nat.le_of_ble_eq_true rfl⟩) hK hN hZ hP hD hS hA rfl rfl rfl rfl rfl rfl rfl rfl hl.1 rfl (lv_room (Nat.le_of_ble_eq_true rfl)) dX4_tell_119 ⟨Nat.le_of_ble_eq_true rfl, Nat.le_of_ble_eq_true rfl⟩ (fun H locs hP hD hS => ?_)
              have hP : va_P D vwCl [(a_t_runners_torn, .inl (cI, 60, .inl t_runners_torn)), (a_t_way_places, .inl (cI, 12, .inl t_way_places)), (a_t, .inr (4, [.ref a_t_way, .ref a_t_guns, .ref a_t_runners])), (a_t_guns, .inr (2, [.ref a_t_guns_ticks])), (a_t_guns_ticks, .inl (cI, 6, .inl t_guns_ticks)), (a_t_runners, .inr (6, [.ref a_t_runners_facts, .ref a_t_runners_splits, .ref a_t_runners_torn, .ref a_t_runners_dropped, .ref a_t_runners_waved, .ref a_t_runners_struck, .ref a_t_runners_strikingOrder, .int t_runners_entered, .int t_runners_strikings])), (a_t_runners_dropped, .inl (cZ, 60, .inl t_runners_dropped)), (a_t_runners_facts, .inl (cI, 360, .inl t_runners_facts)), (a_t_runners_splits, .inl (cI, 720, .inl t_runners_splits)), (a_t_runners_struck, .inl (cZ, 60, .inl t_runners_struck)), (a_t_runners_waved, .inl (cZ, 60, .inl t_runners_waved)), (a_t_way, .inr (9, [.ref a_t_way_places, .ref a_t_way_bearings, .ref a_t_way_cuts, .ref a_t_way_deaths, .int t_way_mats])), (a_t_way_cuts, .inl (cI, 12, .inl t_way_cuts))] H := hP
              have hD : va_D A [(a_t_runners_torn, .inl (cI, 60, .inl t_runners_torn)), (a_t_way_places, .inl (cI, 12, .inl t_way_places)), (a_t, .inr (4, [.ref a_t_way, .ref a_t_guns, .ref a_t_runners])), (a_t_guns, .inr (2, [.ref a_t_guns_ticks])), (a_t_guns_ticks, .inl (cI, 6, .inl t_guns_ticks)), (a_t_runners, .inr (6, [.ref a_t_runners_facts, .ref a_t_runners_splits, .ref a_t_runners_torn, .ref a_t_runners_dropped, .ref a_t_runners_waved, .ref a_t_runners_struck, .ref a_t_runners_strikingOrder, .int t_runners_entered, .int t_runners_strikings])), (a_t_runners_dropped, .inl (cZ, 60, .inl t_runners_dropped)), (a_t_runners_facts, .inl (cI, 360, .inl t_runners_facts)), (a_t_runners_splits, .inl (cI, 720, .inl t_runners_splits)), (a_t_runners_struck, .inl (cZ, 60, .inl t_runners_struck)), (a_t_runners_waved, .inl (cZ, 60, .inl t_runners_waved)), (a_t_way, .inr (9, [.ref a_t_way_places, .ref a_t_way_bearings, .ref a_t_way_cuts, .ref a_t_way_deaths, .int t_way_mats])), (a_t_way_cuts, .inl (cI, 12, .inl t_way_cuts))] := hD
              have j0_ := Option.some.inj h
              subst j0_
              exact W.iret (v := r24) hx hb hr (fun t ht hW => ⟨⟨_, (), rfl, rfl, zPost.of hP hD hK ht hW [2, 3, 4, 5, 6, 7, 8, 9, 0, 10, 11, 12, 1] rfl rfl rfl⟩, hS.F ht⟩) hS.2.2 dX4_tell_122
            · have h := zz_f h c21
              by_cases c26 : x2 = (nI 11)
              · have h := zz_t h c26
                refine lv_tableIn (off := 103) (tgt := 123) hx hb dX4_tell_20 (by rw [c26]; decide) (by rw [c26]; decide) (by rw [c26]; rfl) (by decide) ?_
                refine lv_aload_n hx hb dX4_tell_123 rfl (lv_at hl 0 rfl) ?_
                refine lv_iload_n hx hb dX4_tell_124 rfl (lv_at hl 1 rfl) ?_
                obtain ⟨r27, e28, h⟩ := zz_b h
                refine zVi (As := [.int x1]) (rest := []) (C := RX4) (wr := [(a_t_runners_dropped, .inl (cZ, 60, .inl t_runners_dropped)), (a_t_runners_struck, .inl (cZ, 60, .inl t_runners_struck)), (a_t_runners_torn, .inl (cI, 60, .inl t_runners_torn)), (a_t_runners_waved, .inl (cZ, 60, .inl t_runners_waved)), (a_t_way, .inr (9, [.ref a_t_way_places, .ref a_t_way_bearings, .ref a_t_way_cuts, .ref a_t_way_deaths, .int t_way_mats])), (a_t_way_cuts, .inl (cI, 12, .inl t_way_cuts)), (a_t_way_places, .inl (cI, 12, .inl t_way_places))]) [0, 1, 2, 3, 5, 6] [4, 7, 8, 9, 10, 11, 12] 0 ⟨hx, hb, hml, hown, hts⟩ (mX4_startIsGunsOf l D cB cI cZ a_t a_t_way a_t_guns a_t_runners a_t_guns_ticks a_t_runners_facts a_t_runners_splits a_t_runners_torn a_t_runners_dropped a_t_runners_waved a_t_runners_struck a_t_runners_strikingOrder t_guns_ticks t_runners_entered t_runners_strikings t_runners_facts t_runners_splits H.size x1 r27 e28) (cwV 1 hts gX4_tell_X4_startIsGunsOf rfl rfl rfl (by decide +kernel) ⟨Nat.le_of_ble_eq_true rfl, Nat.le_of_ble_eq_true rfl⟩) hK hN hZ hP hD hS hA rfl rfl rfl rfl rfl rfl rfl rfl hl.1 rfl (lv_room (Nat.le_of_ble_eq_true rfl)) dX4_tell_125 ⟨Nat.le_of_ble_eq_true rfl, Nat.le_of_ble_eq_true rfl⟩ (fun H locs hP hD hS => ?_)
                have hP : va_P D vwCl [(a_t_runners_dropped, .inl (cZ, 60, .inl t_runners_dropped)), (a_t_runners_struck, .inl (cZ, 60, .inl t_runners_struck)), (a_t_runners_torn, .inl (cI, 60, .inl t_runners_torn)), (a_t_runners_waved, .inl (cZ, 60, .inl t_runners_waved)), (a_t_way, .inr (9, [.ref a_t_way_places, .ref a_t_way_bearings, .ref a_t_way_cuts, .ref a_t_way_deaths, .int t_way_mats])), (a_t_way_cuts, .inl (cI, 12, .inl t_way_cuts)), (a_t_way_places, .inl (cI, 12, .inl t_way_places)), (a_t, .inr (4, [.ref a_t_way, .ref a_t_guns, .ref a_t_runners])), (a_t_guns, .inr (2, [.ref a_t_guns_ticks])), (a_t_guns_ticks, .inl (cI, 6, .inl t_guns_ticks)), (a_t_runners, .inr (6, [.ref a_t_runners_facts, .ref a_t_runners_splits, .ref a_t_runners_torn, .ref a_t_runners_dropped, .ref a_t_runners_waved, .ref a_t_runners_struck, .ref a_t_runners_strikingOrder, .int t_runners_entered, .int t_runners_strikings])), (a_t_runners_facts, .inl (cI, 360, .inl t_runners_facts)), (a_t_runners_splits, .inl (cI, 720, .inl t_runners_splits))] H := hP
                have hD : va_D A [(a_t_runners_dropped, .inl (cZ, 60, .inl t_runners_dropped)), (a_t_runners_struck, .inl (cZ, 60, .inl t_runners_struck)), (a_t_runners_torn, .inl (cI, 60, .inl t_runners_torn)), (a_t_runners_waved, .inl (cZ, 60, .inl t_runners_waved)), (a_t_way, .inr (9, [.ref a_t_way_places, .ref a_t_way_bearings, .ref a_t_way_cuts, .ref a_t_way_deaths, .int t_way_mats])), (a_t_way_cuts, .inl (cI, 12, .inl t_way_cuts)), (a_t_way_places, .inl (cI, 12, .inl t_way_places)), (a_t, .inr (4, [.ref a_t_way, .ref a_t_guns, .ref a_t_runners])), (a_t_guns, .inr (2, [.ref a_t_guns_ticks])), (a_t_guns_ticks, .inl (cI, 6, .inl t_guns_ticks)), (a_t_runners, .inr (6, [.ref a_t_runners_facts, .ref a_t_runners_splits, .ref a_t_runners_torn, .ref a_t_runners_dropped, .ref a_t_runners_waved, .ref a_t_runners_struck, .ref a_t_runners_strikingOrder, .int t_runners_entered, .int t_runners_strikings])), (a_t_runners_facts, .inl (cI, 360, .inl t_runners_facts)), (a_t_runners_splits, .inl (cI, 720, .inl t_runners_splits))] := hD
                have j0_ := Option.some.inj h
                subst j0_
                exact W.iret (v := r27) hx hb hr (fun t ht hW => ⟨⟨_, (), rfl, rfl, zPost.of hP hD hK ht hW [7, 8, 9, 10, 0, 11, 12, 1, 2, 3, 4, 5, 6] rfl rfl rfl⟩, hS.F ht⟩) hS.2.2 dX4_tell_128
              · have h := zz_f h c26
                by_cases c29 : x2 = (nI 12)
                · have h := zz_t h c29
                  refine lv_tableIn (off := 109) (tgt := 129) hx hb dX4_tell_20 (by rw [c29]; decide) (by rw [c29]; decide) (by rw [c29]; rfl) (by decide) ?_
                  refine lv_aload_n hx hb dX4_tell_129 rfl (lv_at hl 0 rfl) ?_
                  refine lv_iload_n hx hb dX4_tell_130 rfl (lv_at hl 1 rfl) ?_
                  refine lv_aload_n hx hb dX4_tell_131 rfl (lv_at hl 0 rfl) ?_
                  refine lv_iload_n hx hb dX4_tell_132 rfl (lv_at hl 1 rfl) ?_
                  refine lv_aload_n hx hb dX4_tell_133 rfl (lv_at hl 0 rfl) ?_
                  refine lv_iload_n hx hb dX4_tell_134 rfl (lv_at hl 1 rfl) ?_
                  obtain ⟨r30, e31, h⟩ := zz_b h
                  refine zVi (As := [.int x1]) (rest := [.int x1, .ref a_t, .int x1, .ref a_t]) (C := RX4) (wr := [(a_t_runners_dropped, .inl (cZ, 60, .inl t_runners_dropped)), (a_t_runners_struck, .inl (cZ, 60, .inl t_runners_struck)), (a_t_runners_torn, .inl (cI, 60, .inl t_runners_torn)), (a_t_runners_waved, .inl (cZ, 60, .inl t_runners_waved)), (a_t_way, .inr (9, [.ref a_t_way_places, .ref a_t_way_bearings, .ref a_t_way_cuts, .ref a_t_way_deaths, .int t_way_mats])), (a_t_way_cuts, .inl (cI, 12, .inl t_way_cuts)), (a_t_way_places, .inl (cI, 12, .inl t_way_places))]) [0, 1, 2, 3, 5, 6] [4, 7, 8, 9, 10, 11, 12] 0 ⟨hx, hb, hml, hown, hts⟩ (mX4_startOf l D cB cI cZ a_t a_t_way a_t_guns a_t_runners a_t_guns_ticks a_t_runners_facts a_t_runners_splits a_t_runners_torn a_t_runners_dropped a_t_runners_waved a_t_runners_struck a_t_runners_strikingOrder t_guns_ticks t_runners_entered t_runners_strikings t_runners_facts t_runners_splits H.size x1 r30 e31) (cwV 1 hts gX4_tell_X4_startOf rfl rfl rfl (by decide +kernel) ⟨Nat.le_of_ble_eq_true rfl, Nat.le_of_ble_eq_true rfl⟩) hK hN hZ hP hD hS hA rfl rfl rfl rfl rfl rfl rfl rfl hl.1 rfl (lv_room (Nat.le_of_ble_eq_true rfl)) dX4_tell_135 ⟨Nat.le_of_ble_eq_true rfl, Nat.le_of_ble_eq_true rfl⟩ (fun H locs hP hD hS => ?_)
                  have hP : va_P D vwCl [(a_t_runners_dropped, .inl (cZ, 60, .inl t_runners_dropped)), (a_t_runners_struck, .inl (cZ, 60, .inl t_runners_struck)), (a_t_runners_torn, .inl (cI, 60, .inl t_runners_torn)), (a_t_runners_waved, .inl (cZ, 60, .inl t_runners_waved)), (a_t_way, .inr (9, [.ref a_t_way_places, .ref a_t_way_bearings, .ref a_t_way_cuts, .ref a_t_way_deaths, .int t_way_mats])), (a_t_way_cuts, .inl (cI, 12, .inl t_way_cuts)), (a_t_way_places, .inl (cI, 12, .inl t_way_places)), (a_t, .inr (4, [.ref a_t_way, .ref a_t_guns, .ref a_t_runners])), (a_t_guns, .inr (2, [.ref a_t_guns_ticks])), (a_t_guns_ticks, .inl (cI, 6, .inl t_guns_ticks)), (a_t_runners, .inr (6, [.ref a_t_runners_facts, .ref a_t_runners_splits, .ref a_t_runners_torn, .ref a_t_runners_dropped, .ref a_t_runners_waved, .ref a_t_runners_struck, .ref a_t_runners_strikingOrder, .int t_runners_entered, .int t_runners_strikings])), (a_t_runners_facts, .inl (cI, 360, .inl t_runners_facts)), (a_t_runners_splits, .inl (cI, 720, .inl t_runners_splits))] H := hP
                  have hD : va_D A [(a_t_runners_dropped, .inl (cZ, 60, .inl t_runners_dropped)), (a_t_runners_struck, .inl (cZ, 60, .inl t_runners_struck)), (a_t_runners_torn, .inl (cI, 60, .inl t_runners_torn)), (a_t_runners_waved, .inl (cZ, 60, .inl t_runners_waved)), (a_t_way, .inr (9, [.ref a_t_way_places, .ref a_t_way_bearings, .ref a_t_way_cuts, .ref a_t_way_deaths, .int t_way_mats])), (a_t_way_cuts, .inl (cI, 12, .inl t_way_cuts)), (a_t_way_places, .inl (cI, 12, .inl t_way_places)), (a_t, .inr (4, [.ref a_t_way, .ref a_t_guns, .ref a_t_runners])), (a_t_guns, .inr (2, [.ref a_t_guns_ticks])), (a_t_guns_ticks, .inl (cI, 6, .inl t_guns_ticks)), (a_t_runners, .inr (6, [.ref a_t_runners_facts, .ref a_t_runners_splits, .ref a_t_runners_torn, .ref a_t_runners_dropped, .ref a_t_runners_waved, .ref a_t_runners_struck, .ref a_t_runners_strikingOrder, .int t_runners_entered, .int t_runners_strikings])), (a_t_runners_facts, .inl (cI, 360, .inl t_runners_facts)), (a_t_runners_splits, .inl (cI, 720, .inl t_runners_splits))] := hD
                  obtain ⟨r32, e33, h⟩ := zz_b h
                  refine zVi (As := [.int x1, .int r30]) (rest := [.int x1, .ref a_t]) (C := RX4) (wr := [(a_t_runners_torn, .inl (cI, 60, .inl t_runners_torn)), (a_t_way_places, .inl (cI, 12, .inl t_way_places))]) [7, 8, 9, 10, 0, 11, 12, 1, 3, 4, 5] [2, 6] 0 ⟨hx, hb, hml, hown, hts⟩ (mX4_timeSince l D cB cI cZ a_t a_t_way a_t_guns a_t_runners a_t_guns_ticks a_t_runners_facts a_t_runners_splits a_t_runners_torn a_t_runners_dropped a_t_runners_waved a_t_runners_struck a_t_runners_strikingOrder a_t_way_places a_t_way_bearings a_t_way_cuts a_t_way_deaths t_guns_ticks t_runners_entered t_runners_strikings t_runners_dropped t_runners_facts t_runners_splits t_runners_struck t_runners_waved t_way_mats t_way_cuts H.size x1 r30 N r32 e33) (cwV 2 hts gX4_tell_X4_timeSince rfl rfl rfl (by decide +kernel) ⟨Nat.le_of_ble_eq_true rfl, Nat.le_of_ble_eq_true rfl⟩) hK hN hZ hP hD hS hA rfl rfl rfl rfl rfl rfl rfl rfl hl.1 rfl (lv_room (Nat.le_of_ble_eq_true rfl)) dX4_tell_138 ⟨Nat.le_of_ble_eq_true rfl, Nat.le_of_ble_eq_true rfl⟩ (fun H locs hP hD hS => ?_)
                  have hP : va_P D vwCl [(a_t_runners_torn, .inl (cI, 60, .inl t_runners_torn)), (a_t_way_places, .inl (cI, 12, .inl t_way_places)), (a_t, .inr (4, [.ref a_t_way, .ref a_t_guns, .ref a_t_runners])), (a_t_guns, .inr (2, [.ref a_t_guns_ticks])), (a_t_guns_ticks, .inl (cI, 6, .inl t_guns_ticks)), (a_t_runners, .inr (6, [.ref a_t_runners_facts, .ref a_t_runners_splits, .ref a_t_runners_torn, .ref a_t_runners_dropped, .ref a_t_runners_waved, .ref a_t_runners_struck, .ref a_t_runners_strikingOrder, .int t_runners_entered, .int t_runners_strikings])), (a_t_runners_dropped, .inl (cZ, 60, .inl t_runners_dropped)), (a_t_runners_facts, .inl (cI, 360, .inl t_runners_facts)), (a_t_runners_splits, .inl (cI, 720, .inl t_runners_splits)), (a_t_runners_struck, .inl (cZ, 60, .inl t_runners_struck)), (a_t_runners_waved, .inl (cZ, 60, .inl t_runners_waved)), (a_t_way, .inr (9, [.ref a_t_way_places, .ref a_t_way_bearings, .ref a_t_way_cuts, .ref a_t_way_deaths, .int t_way_mats])), (a_t_way_cuts, .inl (cI, 12, .inl t_way_cuts))] H := hP
                  have hD : va_D A [(a_t_runners_torn, .inl (cI, 60, .inl t_runners_torn)), (a_t_way_places, .inl (cI, 12, .inl t_way_places)), (a_t, .inr (4, [.ref a_t_way, .ref a_t_guns, .ref a_t_runners])), (a_t_guns, .inr (2, [.ref a_t_guns_ticks])), (a_t_guns_ticks, .inl (cI, 6, .inl t_guns_ticks)), (a_t_runners, .inr (6, [.ref a_t_runners_facts, .ref a_t_runners_splits, .ref a_t_runners_torn, .ref a_t_runners_dropped, .ref a_t_runners_waved, .ref a_t_runners_struck, .ref a_t_runners_strikingOrder, .int t_runners_entered, .int t_runners_strikings])), (a_t_runners_dropped, .inl (cZ, 60, .inl t_runners_dropped)), (a_t_runners_facts, .inl (cI, 360, .inl t_runners_facts)), (a_t_runners_splits, .inl (cI, 720, .inl t_runners_splits)), (a_t_runners_struck, .inl (cZ, 60, .inl t_runners_struck)), (a_t_runners_waved, .inl (cZ, 60, .inl t_runners_waved)), (a_t_way, .inr (9, [.ref a_t_way_places, .ref a_t_way_bearings, .ref a_t_way_cuts, .ref a_t_way_deaths, .int t_way_mats])), (a_t_way_cuts, .inl (cI, 12, .inl t_way_cuts))] := hD
                  obtain ⟨r34, e35, h⟩ := zz_b h
                  refine zVi (As := [.int x1, .int r32]) (rest := []) (C := RX4) (wr := [(a_t_runners_torn, .inl (cI, 60, .inl t_runners_torn)), (a_t_guns, .inr (2, [.ref a_t_guns_ticks])), (a_t_guns_ticks, .inl (cI, 6, .inl t_guns_ticks)), (a_t_runners_dropped, .inl (cZ, 60, .inl t_runners_dropped)), (a_t_runners_splits, .inl (cI, 720, .inl t_runners_splits)), (a_t_runners_struck, .inl (cZ, 60, .inl t_runners_struck)), (a_t_runners_waved, .inl (cZ, 60, .inl t_runners_waved)), (a_t_way_cuts, .inl (cI, 12, .inl t_way_cuts))]) [2, 5, 7, 11, 1] [0, 3, 4, 6, 8, 9, 10, 12] 0 ⟨hx, hb, hml, hown, hts⟩ (mX4_overPace l D cB cI cZ a_t a_t_way a_t_guns a_t_runners a_t_runners_facts a_t_runners_splits a_t_runners_torn a_t_runners_dropped a_t_runners_waved a_t_runners_struck a_t_runners_strikingOrder a_t_way_places a_t_way_bearings a_t_way_cuts a_t_way_deaths t_runners_entered t_runners_strikings t_runners_facts t_way_mats t_way_places H.size x1 r32 r34 e35) (cwV 2 hts gX4_tell_X4_overPace rfl rfl rfl (by decide +kernel) ⟨Nat.le_of_ble_eq_true rfl, Nat.le_of_ble_eq_true rfl⟩) hK hN hZ hP hD hS hA rfl rfl rfl rfl rfl rfl rfl rfl hl.1 rfl (lv_room (Nat.le_of_ble_eq_true rfl)) dX4_tell_141 ⟨Nat.le_of_ble_eq_true rfl, Nat.le_of_ble_eq_true rfl⟩ (fun H locs hP hD hS => ?_)
                  have hP : va_P D vwCl [(a_t_runners_torn, .inl (cI, 60, .inl t_runners_torn)), (a_t_guns, .inr (2, [.ref a_t_guns_ticks])), (a_t_guns_ticks, .inl (cI, 6, .inl t_guns_ticks)), (a_t_runners_dropped, .inl (cZ, 60, .inl t_runners_dropped)), (a_t_runners_splits, .inl (cI, 720, .inl t_runners_splits)), (a_t_runners_struck, .inl (cZ, 60, .inl t_runners_struck)), (a_t_runners_waved, .inl (cZ, 60, .inl t_runners_waved)), (a_t_way_cuts, .inl (cI, 12, .inl t_way_cuts)), (a_t, .inr (4, [.ref a_t_way, .ref a_t_guns, .ref a_t_runners])), (a_t_runners, .inr (6, [.ref a_t_runners_facts, .ref a_t_runners_splits, .ref a_t_runners_torn, .ref a_t_runners_dropped, .ref a_t_runners_waved, .ref a_t_runners_struck, .ref a_t_runners_strikingOrder, .int t_runners_entered, .int t_runners_strikings])), (a_t_runners_facts, .inl (cI, 360, .inl t_runners_facts)), (a_t_way, .inr (9, [.ref a_t_way_places, .ref a_t_way_bearings, .ref a_t_way_cuts, .ref a_t_way_deaths, .int t_way_mats])), (a_t_way_places, .inl (cI, 12, .inl t_way_places))] H := hP
                  have hD : va_D A [(a_t_runners_torn, .inl (cI, 60, .inl t_runners_torn)), (a_t_guns, .inr (2, [.ref a_t_guns_ticks])), (a_t_guns_ticks, .inl (cI, 6, .inl t_guns_ticks)), (a_t_runners_dropped, .inl (cZ, 60, .inl t_runners_dropped)), (a_t_runners_splits, .inl (cI, 720, .inl t_runners_splits)), (a_t_runners_struck, .inl (cZ, 60, .inl t_runners_struck)), (a_t_runners_waved, .inl (cZ, 60, .inl t_runners_waved)), (a_t_way_cuts, .inl (cI, 12, .inl t_way_cuts)), (a_t, .inr (4, [.ref a_t_way, .ref a_t_guns, .ref a_t_runners])), (a_t_runners, .inr (6, [.ref a_t_runners_facts, .ref a_t_runners_splits, .ref a_t_runners_torn, .ref a_t_runners_dropped, .ref a_t_runners_waved, .ref a_t_runners_struck, .ref a_t_runners_strikingOrder, .int t_runners_entered, .int t_runners_strikings])), (a_t_runners_facts, .inl (cI, 360, .inl t_runners_facts)), (a_t_way, .inr (9, [.ref a_t_way_places, .ref a_t_way_bearings, .ref a_t_way_cuts, .ref a_t_way_deaths, .int t_way_mats])), (a_t_way_places, .inl (cI, 12, .inl t_way_places))] := hD
                  have j0_ := Option.some.inj h
                  subst j0_
                  exact W.iret (v := r34) hx hb hr (fun t ht hW => ⟨⟨_, (), rfl, rfl, zPost.of hP hD hK ht hW [8, 1, 2, 9, 3, 10, 4, 5, 0, 6, 11, 7, 12] rfl rfl rfl⟩, hS.F ht⟩) hS.2.2 dX4_tell_144
                · have h := zz_f h c29
                  by_cases c36 : x2 = (nI 13)
                  · have h := zz_t h c36
                    refine lv_tableIn (off := 125) (tgt := 145) hx hb dX4_tell_20 (by rw [c36]; decide) (by rw [c36]; decide) (by rw [c36]; rfl) (by decide) ?_
                    refine lv_aload_n hx hb dX4_tell_145 rfl (lv_at hl 0 rfl) ?_
                    refine va_get (D := D) (ci := 4) (C := RX4) (T := TX4) (N := 3) hx hb hts qX4_tell_X4 hown hK hP 0 rfl rfl 2 (by decide) (hts _ kX4_tell_2) (fun _ h9 => h9) rfl dX4_tell_146 ?_
                    refine lv_iload_n hx hb dX4_tell_149 rfl (lv_at hl 1 rfl) ?_
                    obtain ⟨r37, e38, h⟩ := zz_b h
                    refine zVi (As := [.int x1]) (rest := []) (C := RX6) (wr := [(a_t, .inr (4, [.ref a_t_way, .ref a_t_guns, .ref a_t_runners])), (a_t_guns, .inr (2, [.ref a_t_guns_ticks])), (a_t_guns_ticks, .inl (cI, 6, .inl t_guns_ticks)), (a_t_runners_dropped, .inl (cZ, 60, .inl t_runners_dropped)), (a_t_runners_facts, .inl (cI, 360, .inl t_runners_facts)), (a_t_runners_splits, .inl (cI, 720, .inl t_runners_splits)), (a_t_runners_struck, .inl (cZ, 60, .inl t_runners_struck)), (a_t_runners_waved, .inl (cZ, 60, .inl t_runners_waved)), (a_t_way, .inr (9, [.ref a_t_way_places, .ref a_t_way_bearings, .ref a_t_way_cuts, .ref a_t_way_deaths, .int t_way_mats])), (a_t_way_cuts, .inl (cI, 12, .inl t_way_cuts)), (a_t_way_places, .inl (cI, 12, .inl t_way_places))]) [3, 8] [0, 1, 2, 4, 5, 6, 7, 9, 10, 11, 12] 0 ⟨hx, hb, hml, hown, hts⟩ (mX6_tornFrom l D cB cI cZ a_t_runners a_t_runners_facts a_t_runners_splits a_t_runners_torn a_t_runners_dropped a_t_runners_waved a_t_runners_struck a_t_runners_strikingOrder t_runners_entered t_runners_strikings t_runners_torn H.size x1 r37 e38) (cwV 1 hts gX4_tell_X6_tornFrom rfl rfl rfl (by decide +kernel) ⟨Nat.le_of_ble_eq_true rfl, Nat.le_of_ble_eq_true rfl⟩) hK hN hZ hP hD hS hA rfl rfl rfl rfl rfl rfl rfl rfl hl.1 rfl (lv_room (Nat.le_of_ble_eq_true rfl)) dX4_tell_150 ⟨Nat.le_of_ble_eq_true rfl, Nat.le_of_ble_eq_true rfl⟩ (fun H locs hP hD hS => ?_)
                    have hP : va_P D vwCl [(a_t, .inr (4, [.ref a_t_way, .ref a_t_guns, .ref a_t_runners])), (a_t_guns, .inr (2, [.ref a_t_guns_ticks])), (a_t_guns_ticks, .inl (cI, 6, .inl t_guns_ticks)), (a_t_runners_dropped, .inl (cZ, 60, .inl t_runners_dropped)), (a_t_runners_facts, .inl (cI, 360, .inl t_runners_facts)), (a_t_runners_splits, .inl (cI, 720, .inl t_runners_splits)), (a_t_runners_struck, .inl (cZ, 60, .inl t_runners_struck)), (a_t_runners_waved, .inl (cZ, 60, .inl t_runners_waved)), (a_t_way, .inr (9, [.ref a_t_way_places, .ref a_t_way_bearings, .ref a_t_way_cuts, .ref a_t_way_deaths, .int t_way_mats])), (a_t_way_cuts, .inl (cI, 12, .inl t_way_cuts)), (a_t_way_places, .inl (cI, 12, .inl t_way_places)), (a_t_runners, .inr (6, [.ref a_t_runners_facts, .ref a_t_runners_splits, .ref a_t_runners_torn, .ref a_t_runners_dropped, .ref a_t_runners_waved, .ref a_t_runners_struck, .ref a_t_runners_strikingOrder, .int t_runners_entered, .int t_runners_strikings])), (a_t_runners_torn, .inl (cI, 60, .inl t_runners_torn))] H := hP
                    have hD : va_D A [(a_t, .inr (4, [.ref a_t_way, .ref a_t_guns, .ref a_t_runners])), (a_t_guns, .inr (2, [.ref a_t_guns_ticks])), (a_t_guns_ticks, .inl (cI, 6, .inl t_guns_ticks)), (a_t_runners_dropped, .inl (cZ, 60, .inl t_runners_dropped)), (a_t_runners_facts, .inl (cI, 360, .inl t_runners_facts)), (a_t_runners_splits, .inl (cI, 720, .inl t_runners_splits)), (a_t_runners_struck, .inl (cZ, 60, .inl t_runners_struck)), (a_t_runners_waved, .inl (cZ, 60, .inl t_runners_waved)), (a_t_way, .inr (9, [.ref a_t_way_places, .ref a_t_way_bearings, .ref a_t_way_cuts, .ref a_t_way_deaths, .int t_way_mats])), (a_t_way_cuts, .inl (cI, 12, .inl t_way_cuts)), (a_t_way_places, .inl (cI, 12, .inl t_way_places)), (a_t_runners, .inr (6, [.ref a_t_runners_facts, .ref a_t_runners_splits, .ref a_t_runners_torn, .ref a_t_runners_dropped, .ref a_t_runners_waved, .ref a_t_runners_struck, .ref a_t_runners_strikingOrder, .int t_runners_entered, .int t_runners_strikings])), (a_t_runners_torn, .inl (cI, 60, .inl t_runners_torn))] := hD
                    have j0_ := Option.some.inj h
                    subst j0_
                    exact W.iret (v := r37) hx hb hr (fun t ht hW => ⟨⟨_, (), rfl, rfl, zPost.of hP hD hK ht hW [0, 1, 2, 11, 3, 4, 5, 6, 12, 7, 8, 9, 10] rfl rfl rfl⟩, hS.F ht⟩) hS.2.2 dX4_tell_153
                  · have h := zz_f h c36
                    refine lv_tableOut (tgt := 154) hx hb dX4_tell_20 (by have n0_ := lv_neT c4 (a := 6) rfl; have n1_ := lv_neT c10 (a := 7) rfl; have n2_ := lv_neT c13 (a := 8) rfl; have n3_ := lv_neT c16 (a := 9) rfl; have n4_ := lv_neT c21 (a := 10) rfl; have n5_ := lv_neT c26 (a := 11) rfl; have n6_ := lv_neT c29 (a := 12) rfl; have n7_ := lv_neT c36 (a := 13) rfl; omega) (by decide) ?_
                    refine lv_iconst (v := (-1 : Int32)) hx hb dX4_tell_154 rfl ?_
                    have j0_ := Option.some.inj h
                    subst j0_
                    exact W.iret (v := (-1 : Int32)) hx hb hr (fun t ht hW => ⟨⟨_, (), rfl, rfl, zPost.of hP hD hK ht hW [0, 1, 2, 3, 4, 5, 6, 7, 8, 9, 10, 11, 12] rfl rfl rfl⟩, hS.F ht⟩) hS.2.2 dX4_tell_155
  · have h := zz_f h c3
    refine lv_aload_n hx hb dX4_tell_9 rfl (lv_at hl 0 rfl) ?_
    refine va_get (D := D) (ci := 4) (C := RX4) (T := TX4) (N := 3) hx hb hts qX4_tell_X4 hown hK hP 0 rfl rfl 2 (by decide) (hts _ kX4_tell_2) (fun _ h9 => h9) rfl dX4_tell_10 ?_
    refine lv_iload_n hx hb dX4_tell_13 rfl (lv_at hl 1 rfl) ?_
    refine lv_iload_n hx hb dX4_tell_14 rfl (lv_at hl 2 rfl) ?_
    obtain ⟨r39, e40, h⟩ := zz_b h
    refine zVi (As := [.int x1, .int x2]) (rest := []) (C := RX6) (wr := [(a_t, .inr (4, [.ref a_t_way, .ref a_t_guns, .ref a_t_runners])), (a_t_guns, .inr (2, [.ref a_t_guns_ticks])), (a_t_guns_ticks, .inl (cI, 6, .inl t_guns_ticks)), (a_t_runners_dropped, .inl (cZ, 60, .inl t_runners_dropped)), (a_t_runners_splits, .inl (cI, 720, .inl t_runners_splits)), (a_t_runners_struck, .inl (cZ, 60, .inl t_runners_struck)), (a_t_runners_torn, .inl (cI, 60, .inl t_runners_torn)), (a_t_runners_waved, .inl (cZ, 60, .inl t_runners_waved)), (a_t_way, .inr (9, [.ref a_t_way_places, .ref a_t_way_bearings, .ref a_t_way_cuts, .ref a_t_way_deaths, .int t_way_mats])), (a_t_way_cuts, .inl (cI, 12, .inl t_way_cuts)), (a_t_way_places, .inl (cI, 12, .inl t_way_places))]) [3, 5] [0, 1, 2, 4, 6, 7, 8, 9, 10, 11, 12] 0 ⟨hx, hb, hml, hown, hts⟩ (mX6_factOf l D cB cI cZ a_t_runners a_t_runners_facts a_t_runners_splits a_t_runners_torn a_t_runners_dropped a_t_runners_waved a_t_runners_struck a_t_runners_strikingOrder t_runners_entered t_runners_strikings t_runners_facts H.size x1 x2 r39 e40) (cwV 2 hts gX4_tell_X6_factOf rfl rfl rfl (by decide +kernel) ⟨Nat.le_of_ble_eq_true rfl, Nat.le_of_ble_eq_true rfl⟩) hK hN hZ hP hD hS hA rfl rfl rfl rfl rfl rfl rfl rfl hl.1 rfl (lv_room (Nat.le_of_ble_eq_true rfl)) dX4_tell_15 ⟨Nat.le_of_ble_eq_true rfl, Nat.le_of_ble_eq_true rfl⟩ (fun H locs hP hD hS => ?_)
    have hP : va_P D vwCl [(a_t, .inr (4, [.ref a_t_way, .ref a_t_guns, .ref a_t_runners])), (a_t_guns, .inr (2, [.ref a_t_guns_ticks])), (a_t_guns_ticks, .inl (cI, 6, .inl t_guns_ticks)), (a_t_runners_dropped, .inl (cZ, 60, .inl t_runners_dropped)), (a_t_runners_splits, .inl (cI, 720, .inl t_runners_splits)), (a_t_runners_struck, .inl (cZ, 60, .inl t_runners_struck)), (a_t_runners_torn, .inl (cI, 60, .inl t_runners_torn)), (a_t_runners_waved, .inl (cZ, 60, .inl t_runners_waved)), (a_t_way, .inr (9, [.ref a_t_way_places, .ref a_t_way_bearings, .ref a_t_way_cuts, .ref a_t_way_deaths, .int t_way_mats])), (a_t_way_cuts, .inl (cI, 12, .inl t_way_cuts)), (a_t_way_places, .inl (cI, 12, .inl t_way_places)), (a_t_runners, .inr (6, [.ref a_t_runners_facts, .ref a_t_runners_splits, .ref a_t_runners_torn, .ref a_t_runners_dropped, .ref a_t_runners_waved, .ref a_t_runners_struck, .ref a_t_runners_strikingOrder, .int t_runners_entered, .int t_runners_strikings])), (a_t_runners_facts, .inl (cI, 360, .inl t_runners_facts))] H := hP
    have hD : va_D A [(a_t, .inr (4, [.ref a_t_way, .ref a_t_guns, .ref a_t_runners])), (a_t_guns, .inr (2, [.ref a_t_guns_ticks])), (a_t_guns_ticks, .inl (cI, 6, .inl t_guns_ticks)), (a_t_runners_dropped, .inl (cZ, 60, .inl t_runners_dropped)), (a_t_runners_splits, .inl (cI, 720, .inl t_runners_splits)), (a_t_runners_struck, .inl (cZ, 60, .inl t_runners_struck)), (a_t_runners_torn, .inl (cI, 60, .inl t_runners_torn)), (a_t_runners_waved, .inl (cZ, 60, .inl t_runners_waved)), (a_t_way, .inr (9, [.ref a_t_way_places, .ref a_t_way_bearings, .ref a_t_way_cuts, .ref a_t_way_deaths, .int t_way_mats])), (a_t_way_cuts, .inl (cI, 12, .inl t_way_cuts)), (a_t_way_places, .inl (cI, 12, .inl t_way_places)), (a_t_runners, .inr (6, [.ref a_t_runners_facts, .ref a_t_runners_splits, .ref a_t_runners_torn, .ref a_t_runners_dropped, .ref a_t_runners_waved, .ref a_t_runners_struck, .ref a_t_runners_strikingOrder, .int t_runners_entered, .int t_runners_strikings])), (a_t_runners_facts, .inl (cI, 360, .inl t_runners_facts))] := hD
    have j0_ := Option.some.inj h
    subst j0_
    exact W.iret (v := r39) hx hb hr (fun t ht hW => ⟨⟨_, (), rfl, rfl, zPost.of hP hD hK ht hW [0, 1, 2, 11, 3, 12, 4, 5, 6, 7, 8, 9, 10] rfl rfl rfl⟩, hS.F ht⟩) hS.2.2 dX4_tell_18
/-! RunDesk$Race.howManyAre -/
theorem dX4_howManyAre_0 : decode cX4_howManyAre 0 = .ok (.iconst 0, 1) := by decide +kernel
theorem dX4_howManyAre_1 : decode cX4_howManyAre 1 = .ok (.istore_n 2, 1) := by decide +kernel
theorem dX4_howManyAre_2 : decode cX4_howManyAre 2 = .ok (.iconst 0, 1) := by decide +kernel
theorem dX4_howManyAre_3 : decode cX4_howManyAre 3 = .ok (.istore_n 3, 1) := by decide +kernel
theorem dX4_howManyAre_4 : decode cX4_howManyAre 4 = .ok (.iload_n 3, 1) := by decide +kernel
theorem dX4_howManyAre_5 : decode cX4_howManyAre 5 = .ok (.aload_n 0, 1) := by decide +kernel
theorem dX4_howManyAre_6 : decode cX4_howManyAre 6 = .ok (.getfield 28, 3) := by decide +kernel
theorem dX4_howManyAre_9 : decode cX4_howManyAre 9 = .ok (.invokevirtual 116, 3) := by decide +kernel
theorem dX4_howManyAre_12 : decode cX4_howManyAre 12 = .ok (.if_icmp .ge 21, 3) := by decide +kernel
theorem dX4_howManyAre_15 : decode cX4_howManyAre 15 = .ok (.aload_n 0, 1) := by decide +kernel
theorem dX4_howManyAre_16 : decode cX4_howManyAre 16 = .ok (.iload_n 3, 1) := by decide +kernel
theorem dX4_howManyAre_17 : decode cX4_howManyAre 17 = .ok (.invokevirtual 63, 3) := by decide +kernel
theorem dX4_howManyAre_20 : decode cX4_howManyAre 20 = .ok (.iload_n 1, 1) := by decide +kernel
theorem dX4_howManyAre_21 : decode cX4_howManyAre 21 = .ok (.if_icmp .ne 6, 3) := by decide +kernel
theorem dX4_howManyAre_24 : decode cX4_howManyAre 24 = .ok (.iinc 2 1, 3) := by decide +kernel
theorem dX4_howManyAre_27 : decode cX4_howManyAre 27 = .ok (.iinc 3 1, 3) := by decide +kernel
theorem dX4_howManyAre_30 : decode cX4_howManyAre 30 = .ok (.goto (-26), 3) := by decide +kernel
theorem dX4_howManyAre_33 : decode cX4_howManyAre 33 = .ok (.iload_n 2, 1) := by decide +kernel
theorem dX4_howManyAre_34 : decode cX4_howManyAre 34 = .ok (.ireturn, 1) := by decide +kernel
set_option maxRecDepth 20000 in
theorem ggX4_howManyAre_X6_size : GoodIn wsX4_howManyAre wsX6_size := goodIn_r _ [6, 7, 84, 85, 86, 87, 88, 89, 90, 91, 92] (by decide +kernel) (by decide +kernel)
set_option maxRecDepth 20000 in
theorem gX4_howManyAre_X6_size : GoodIn wsX4_howManyAre (wsV RX4 116 RX6 yX6_size wsX6_size) := goodIn_app (goodIn_of _ (by decide +kernel)) ggX4_howManyAre_X6_size
set_option maxRecDepth 20000 in
theorem ggX4_howManyAre_X4_stateOf : GoodIn wsX4_howManyAre wsX4_stateOf := goodIn_r _ [12, 1, 13, 14, 15, 16, 5, 17, 18, 19, 20, 21, 22, 7, 23, 24, 25, 26, 27, 28, 29, 30, 11, 31, 32, 33, 34, 35, 36, 37, 38, 39, 40, 41, 42, 43, 44, 45, 46, 47, 48, 49, 50, 51, 52, 53, 54, 55, 56, 57, 58, 59, 60, 61, 62, 63, 64, 65, 66, 67, 68, 69, 70, 71, 72, 73, 74, 75, 76, 77, 78, 79, 80, 81, 82, 83, 84, 85, 86, 87, 88, 89, 90, 91, 92, 93, 94, 95, 96, 97, 98] (by decide +kernel) (by decide +kernel)
set_option maxRecDepth 20000 in
theorem gX4_howManyAre_X4_stateOf : GoodIn wsX4_howManyAre (wsV RX4 63 RX4 yX4_stateOf wsX4_stateOf) := goodIn_app (goodIn_of _ (by decide +kernel)) ggX4_howManyAre_X4_stateOf
theorem kX4_howManyAre_0 : (.fieldLink RX4 28 "RunDesk$Race" "runners" "LRunDesk$Runners;" : Cond) ∈ wsX4_howManyAre := List.mem_of_getElem? (i := 1) (by decide +kernel)
theorem qX4_howManyAre_X4 : ∀ w ∈ wsX40, w ∈ wsX4_howManyAre := fun _ h => List.mem_cons_of_mem _ (List.mem_append_left _ (List.mem_append_left _ (List.mem_append_left _ (List.mem_append_right _ (h)))))
set_option maxHeartbeats 4000000 in
set_option maxRecDepth 100000 in
theorem mX4_howManyAre (l : Launch) (D : va_G) (cB cI cZ : ClassId) (a_t : Nat) (a_t_way : Nat) (a_t_guns : Nat) (a_t_runners : Nat) (a_t_guns_ticks : Nat) (a_t_runners_facts : Nat) (a_t_runners_splits : Nat) (a_t_runners_torn : Nat) (a_t_runners_dropped : Nat) (a_t_runners_waved : Nat) (a_t_runners_struck : Nat) (a_t_runners_strikingOrder : Nat) (a_t_way_places : Nat) (a_t_way_bearings : Nat) (a_t_way_cuts : Nat) (a_t_way_deaths : Nat) (t_guns_ticks : Nat → Int32) (t_runners_entered : Int32) (t_runners_strikings : Int32) (t_runners_dropped : Nat → Int32) (t_runners_facts : Nat → Int32) (t_runners_splits : Nat → Int32) (t_runners_struck : Nat → Int32) (t_runners_waved : Nat → Int32) (t_way_mats : Int32) (t_way_cuts : Nat → Int32) (sz : Nat) (x1 : Int32) (N : Nat) (r0 : Int32) (h : fX4_howManyAre N t_guns_ticks t_runners_entered t_runners_dropped t_runners_facts t_runners_splits t_runners_struck t_runners_waved t_way_mats t_way_cuts x1 = some (r0)) : Met l yX4_howManyAre wsX4_howManyAre ({ frames := 4, cells := 0, slots := 0, locals := 87 } : Room) (va_Pc [.ref a_t, .int x1] (zPre D (zT cB cI cZ) [(a_t, .inr (4, [.ref a_t_way, .ref a_t_guns, .ref a_t_runners])), (a_t_guns, .inr (2, [.ref a_t_guns_ticks])), (a_t_guns_ticks, .inl (cI, 6, .inl t_guns_ticks)), (a_t_runners, .inr (6, [.ref a_t_runners_facts, .ref a_t_runners_splits, .ref a_t_runners_torn, .ref a_t_runners_dropped, .ref a_t_runners_waved, .ref a_t_runners_struck, .ref a_t_runners_strikingOrder, .int t_runners_entered, .int t_runners_strikings])), (a_t_runners_dropped, .inl (cZ, 60, .inl t_runners_dropped)), (a_t_runners_facts, .inl (cI, 360, .inl t_runners_facts)), (a_t_runners_splits, .inl (cI, 720, .inl t_runners_splits)), (a_t_runners_struck, .inl (cZ, 60, .inl t_runners_struck)), (a_t_runners_waved, .inl (cZ, 60, .inl t_runners_waved)), (a_t_way, .inr (9, [.ref a_t_way_places, .ref a_t_way_bearings, .ref a_t_way_cuts, .ref a_t_way_deaths, .int t_way_mats])), (a_t_way_cuts, .inl (cI, 12, .inl t_way_cuts))] sz)) (zQi r0 D (zT cB cI cZ) [(a_t, .inr (4, [.ref a_t_way, .ref a_t_guns, .ref a_t_runners])), (a_t_guns, .inr (2, [.ref a_t_guns_ticks])), (a_t_guns_ticks, .inl (cI, 6, .inl t_guns_ticks)), (a_t_runners, .inr (6, [.ref a_t_runners_facts, .ref a_t_runners_splits, .ref a_t_runners_torn, .ref a_t_runners_dropped, .ref a_t_runners_waved, .ref a_t_runners_struck, .ref a_t_runners_strikingOrder, .int t_runners_entered, .int t_runners_strikings])), (a_t_runners_dropped, .inl (cZ, 60, .inl t_runners_dropped)), (a_t_runners_facts, .inl (cI, 360, .inl t_runners_facts)), (a_t_runners_splits, .inl (cI, 720, .inl t_runners_splits)), (a_t_runners_struck, .inl (cZ, 60, .inl t_runners_struck)), (a_t_runners_waved, .inl (cZ, 60, .inl t_runners_waved)), (a_t_way, .inr (9, [.ref a_t_way_places, .ref a_t_way_bearings, .ref a_t_way_cuts, .ref a_t_way_deaths, .int t_way_mats])), (a_t_way_cuts, .inl (cI, 12, .inl t_way_cuts))] (va_A [(a_t, .inr (4, [.ref a_t_way, .ref a_t_guns, .ref a_t_runners])), (a_t_guns, .inr (2, [.ref a_t_guns_ticks])), (a_t_guns_ticks, .inl (cI, 6, .inl t_guns_ticks)), (a_t_runners, .inr (6, [.ref a_t_runners_facts, .ref a_t_runners_splits, .ref a_t_runners_torn, .ref a_t_runners_dropped, .ref a_t_runners_waved, .ref a_t_runners_struck, .ref a_t_runners_strikingOrder, .int t_runners_entered, .int t_runners_strikings])), (a_t_runners_dropped, .inl (cZ, 60, .inl t_runners_dropped)), (a_t_runners_facts, .inl (cI, 360, .inl t_runners_facts)), (a_t_runners_splits, .inl (cI, 720, .inl t_runners_splits)), (a_t_runners_struck, .inl (cZ, 60, .inl t_runners_struck)), (a_t_runners_waved, .inl (cZ, 60, .inl t_runners_waved)), (a_t_way, .inr (9, [.ref a_t_way_places, .ref a_t_way_bearings, .ref a_t_way_cuts, .ref a_t_way_deaths, .int t_way_mats])), (a_t_way_cuts, .inl (cI, 12, .inl t_way_cuts))] sz)) 0 0 (va_A [(a_t, .inr (4, [.ref a_t_way, .ref a_t_guns, .ref a_t_runners])), (a_t_guns, .inr (2, [.ref a_t_guns_ticks])), (a_t_guns_ticks, .inl (cI, 6, .inl t_guns_ticks)), (a_t_runners, .inr (6, [.ref a_t_runners_facts, .ref a_t_runners_splits, .ref a_t_runners_torn, .ref a_t_runners_dropped, .ref a_t_runners_waved, .ref a_t_runners_struck, .ref a_t_runners_strikingOrder, .int t_runners_entered, .int t_runners_strikings])), (a_t_runners_dropped, .inl (cZ, 60, .inl t_runners_dropped)), (a_t_runners_facts, .inl (cI, 360, .inl t_runners_facts)), (a_t_runners_splits, .inl (cI, 720, .inl t_runners_splits)), (a_t_runners_struck, .inl (cZ, 60, .inl t_runners_struck)), (a_t_runners_waved, .inl (cZ, 60, .inl t_runners_waved)), (a_t_way, .inr (9, [.ref a_t_way_places, .ref a_t_way_bearings, .ref a_t_way_cuts, .ref a_t_way_deaths, .int t_way_mats])), (a_t_way_cuts, .inl (cI, 12, .inl t_way_cuts))] sz) := by
  refine Met.ofW (cc := cX4_howManyAre) (maxL := 4) (ret := (some .int)) (by decide) rfl ?_
  intro p e s m args below meth c s₁ B hml hv
  obtain ⟨rfl, hsz, hP, hK, hN, hZ, hD0⟩ := hv
  have hx := B.exec
  have hb := B.bytes
  have hr := B.returns
  have hts := atoms_spec (ws := wsX4_howManyAre) B.pre
  have hown : s.vm.findClass RX4 = some m.cls := findClass_of_methodNamed B.named
  have hlocks := B.notSynchronized
  subst hsz
  have hD := hD0.self (sz := s.heap.size)
  generalize hAe : va_A [(a_t, .inr (4, [.ref a_t_way, .ref a_t_guns, .ref a_t_runners])), (a_t_guns, .inr (2, [.ref a_t_guns_ticks])), (a_t_guns_ticks, .inl (cI, 6, .inl t_guns_ticks)), (a_t_runners, .inr (6, [.ref a_t_runners_facts, .ref a_t_runners_splits, .ref a_t_runners_torn, .ref a_t_runners_dropped, .ref a_t_runners_waved, .ref a_t_runners_struck, .ref a_t_runners_strikingOrder, .int t_runners_entered, .int t_runners_strikings])), (a_t_runners_dropped, .inl (cZ, 60, .inl t_runners_dropped)), (a_t_runners_facts, .inl (cI, 360, .inl t_runners_facts)), (a_t_runners_splits, .inl (cI, 720, .inl t_runners_splits)), (a_t_runners_struck, .inl (cZ, 60, .inl t_runners_struck)), (a_t_runners_waved, .inl (cZ, 60, .inl t_runners_waved)), (a_t_way, .inr (9, [.ref a_t_way_places, .ref a_t_way_bearings, .ref a_t_way_cuts, .ref a_t_way_deaths, .int t_way_mats])), (a_t_way_cuts, .inl (cI, 12, .inl t_way_cuts))] s.heap.size = A at hD hZ ⊢
  have hA : ∀ q : Nat, s.heap.size ≤ q → A q := fun q h => by rw [← hAe]; exact Or.inr h
  have hS : va_S A s.heap s.heap [] := va_S.rf
  have hl := lv_entry ([.ref a_t, .int x1]) (n := 4) (Nat.le_of_ble_eq_true rfl)
  rw [lg_entry_eq]
  generalize (lg_sl ([.ref a_t, .int x1]) ++ List.replicate (4 - (lg_sl ([.ref a_t, .int x1])).length) Slot.unset).toArray = ls at hl ⊢
  have hl : lv_has ls 4 [(0, .ref a_t), (1, .int x1)] := hl
  unfold fX4_howManyAre at h
  refine lv_iconst (v := (nI 0)) hx hb dX4_howManyAre_0 rfl ?_
  refine lv_istore_n (lv' := [(2, .int (nI 0)), (0, .ref a_t), (1, .int x1)]) hx hb dX4_howManyAre_1 rfl hl (by decide) rfl (fun ls hl => ?_)
  refine lv_iconst (v := (nI 0)) hx hb dX4_howManyAre_2 rfl ?_
  refine lv_istore_n (lv' := [(3, .int (nI 0)), (2, .int (nI 0)), (0, .ref a_t), (1, .int x1)]) hx hb dX4_howManyAre_3 rfl hl (by decide) rfl (fun ls hl => ?_)
  have X4_33 : ∀ (v2_4 : Int32) (v3_4 : Int32) (H : Heap) (locs : List Loc) (ls : Array Slot), some (v2_4) = some (r0) → va_P D vwCl [(a_t, .inr (4, [.ref a_t_way, .ref a_t_guns, .ref a_t_runners])), (a_t_guns, .inr (2, [.ref a_t_guns_ticks])), (a_t_guns_ticks, .inl (cI, 6, .inl t_guns_ticks)), (a_t_runners, .inr (6, [.ref a_t_runners_facts, .ref a_t_runners_splits, .ref a_t_runners_torn, .ref a_t_runners_dropped, .ref a_t_runners_waved, .ref a_t_runners_struck, .ref a_t_runners_strikingOrder, .int t_runners_entered, .int t_runners_strikings])), (a_t_runners_dropped, .inl (cZ, 60, .inl t_runners_dropped)), (a_t_runners_facts, .inl (cI, 360, .inl t_runners_facts)), (a_t_runners_splits, .inl (cI, 720, .inl t_runners_splits)), (a_t_runners_struck, .inl (cZ, 60, .inl t_runners_struck)), (a_t_runners_waved, .inl (cZ, 60, .inl t_runners_waved)), (a_t_way, .inr (9, [.ref a_t_way_places, .ref a_t_way_bearings, .ref a_t_way_cuts, .ref a_t_way_deaths, .int t_way_mats])), (a_t_way_cuts, .inl (cI, 12, .inl t_way_cuts))] H → va_D A [(a_t, .inr (4, [.ref a_t_way, .ref a_t_guns, .ref a_t_runners])), (a_t_guns, .inr (2, [.ref a_t_guns_ticks])), (a_t_guns_ticks, .inl (cI, 6, .inl t_guns_ticks)), (a_t_runners, .inr (6, [.ref a_t_runners_facts, .ref a_t_runners_splits, .ref a_t_runners_torn, .ref a_t_runners_dropped, .ref a_t_runners_waved, .ref a_t_runners_struck, .ref a_t_runners_strikingOrder, .int t_runners_entered, .int t_runners_strikings])), (a_t_runners_dropped, .inl (cZ, 60, .inl t_runners_dropped)), (a_t_runners_facts, .inl (cI, 360, .inl t_runners_facts)), (a_t_runners_splits, .inl (cI, 720, .inl t_runners_splits)), (a_t_runners_struck, .inl (cZ, 60, .inl t_runners_struck)), (a_t_runners_waved, .inl (cZ, 60, .inl t_runners_waved)), (a_t_way, .inr (9, [.ref a_t_way_places, .ref a_t_way_bearings, .ref a_t_way_cuts, .ref a_t_way_deaths, .int t_way_mats])), (a_t_way_cuts, .inl (cI, 12, .inl t_way_cuts))] → va_S A s.heap H locs → lv_has ls 4 [(3, .int v3_4), (2, .int v2_4), (0, .ref a_t), (1, .int x1)] → W p l e (headSpec wsX4_howManyAre ({ frames := 4, cells := 0, slots := 0, locals := 87 } : Room)).room s m #[Value.ref a_t, Value.int x1] below meth c H locs 0 0 (MQ below (zQi r0 D (zT cB cI cZ) [(a_t, .inr (4, [.ref a_t_way, .ref a_t_guns, .ref a_t_runners])), (a_t_guns, .inr (2, [.ref a_t_guns_ticks])), (a_t_guns_ticks, .inl (cI, 6, .inl t_guns_ticks)), (a_t_runners, .inr (6, [.ref a_t_runners_facts, .ref a_t_runners_splits, .ref a_t_runners_torn, .ref a_t_runners_dropped, .ref a_t_runners_waved, .ref a_t_runners_struck, .ref a_t_runners_strikingOrder, .int t_runners_entered, .int t_runners_strikings])), (a_t_runners_dropped, .inl (cZ, 60, .inl t_runners_dropped)), (a_t_runners_facts, .inl (cI, 360, .inl t_runners_facts)), (a_t_runners_splits, .inl (cI, 720, .inl t_runners_splits)), (a_t_runners_struck, .inl (cZ, 60, .inl t_runners_struck)), (a_t_runners_waved, .inl (cZ, 60, .inl t_runners_waved)), (a_t_way, .inr (9, [.ref a_t_way_places, .ref a_t_way_bearings, .ref a_t_way_cuts, .ref a_t_way_deaths, .int t_way_mats])), (a_t_way_cuts, .inl (cI, 12, .inl t_way_cuts))] A) #[Value.ref a_t, Value.int x1] s 0 0 A) (F0 m 33 ls []) := by
    intro v2_4 v3_4 H locs ls h hP hD hS hl
    refine lv_iload_n hx hb dX4_howManyAre_33 rfl (lv_at hl 1 rfl) ?_
    have j0_ := Option.some.inj h
    subst j0_
    exact W.iret (v := v2_4) hx hb hr (fun t ht hW => ⟨⟨_, (), rfl, rfl, zPost.of hP hD hK ht hW [0, 1, 2, 3, 4, 5, 6, 7, 8, 9, 10] rfl rfl rfl⟩, hS.F ht⟩) hS.2.2 dX4_howManyAre_34
  have L4 : ∀ (n : Nat) (v2_4 : Int32) (v3_4 : Int32) (H : Heap) (locs : List Loc) (ls : Array Slot), fX4_howManyAre_L4 N t_guns_ticks t_runners_entered t_runners_dropped t_runners_facts t_runners_splits t_runners_struck t_runners_waved t_way_mats t_way_cuts x1 (fun (v2_4 : Int32) (v3_4 : Int32) => some (v2_4)) n v2_4 v3_4 = some (r0) → va_P D vwCl [(a_t, .inr (4, [.ref a_t_way, .ref a_t_guns, .ref a_t_runners])), (a_t_guns, .inr (2, [.ref a_t_guns_ticks])), (a_t_guns_ticks, .inl (cI, 6, .inl t_guns_ticks)), (a_t_runners, .inr (6, [.ref a_t_runners_facts, .ref a_t_runners_splits, .ref a_t_runners_torn, .ref a_t_runners_dropped, .ref a_t_runners_waved, .ref a_t_runners_struck, .ref a_t_runners_strikingOrder, .int t_runners_entered, .int t_runners_strikings])), (a_t_runners_dropped, .inl (cZ, 60, .inl t_runners_dropped)), (a_t_runners_facts, .inl (cI, 360, .inl t_runners_facts)), (a_t_runners_splits, .inl (cI, 720, .inl t_runners_splits)), (a_t_runners_struck, .inl (cZ, 60, .inl t_runners_struck)), (a_t_runners_waved, .inl (cZ, 60, .inl t_runners_waved)), (a_t_way, .inr (9, [.ref a_t_way_places, .ref a_t_way_bearings, .ref a_t_way_cuts, .ref a_t_way_deaths, .int t_way_mats])), (a_t_way_cuts, .inl (cI, 12, .inl t_way_cuts))] H → va_D A [(a_t, .inr (4, [.ref a_t_way, .ref a_t_guns, .ref a_t_runners])), (a_t_guns, .inr (2, [.ref a_t_guns_ticks])), (a_t_guns_ticks, .inl (cI, 6, .inl t_guns_ticks)), (a_t_runners, .inr (6, [.ref a_t_runners_facts, .ref a_t_runners_splits, .ref a_t_runners_torn, .ref a_t_runners_dropped, .ref a_t_runners_waved, .ref a_t_runners_struck, .ref a_t_runners_strikingOrder, .int t_runners_entered, .int t_runners_strikings])), (a_t_runners_dropped, .inl (cZ, 60, .inl t_runners_dropped)), (a_t_runners_facts, .inl (cI, 360, .inl t_runners_facts)), (a_t_runners_splits, .inl (cI, 720, .inl t_runners_splits)), (a_t_runners_struck, .inl (cZ, 60, .inl t_runners_struck)), (a_t_runners_waved, .inl (cZ, 60, .inl t_runners_waved)), (a_t_way, .inr (9, [.ref a_t_way_places, .ref a_t_way_bearings, .ref a_t_way_cuts, .ref a_t_way_deaths, .int t_way_mats])), (a_t_way_cuts, .inl (cI, 12, .inl t_way_cuts))] → va_S A s.heap H locs → lv_has ls 4 [(3, .int v3_4), (2, .int v2_4), (0, .ref a_t), (1, .int x1)] → W p l e (headSpec wsX4_howManyAre ({ frames := 4, cells := 0, slots := 0, locals := 87 } : Room)).room s m #[Value.ref a_t, Value.int x1] below meth c H locs 0 0 (MQ below (zQi r0 D (zT cB cI cZ) [(a_t, .inr (4, [.ref a_t_way, .ref a_t_guns, .ref a_t_runners])), (a_t_guns, .inr (2, [.ref a_t_guns_ticks])), (a_t_guns_ticks, .inl (cI, 6, .inl t_guns_ticks)), (a_t_runners, .inr (6, [.ref a_t_runners_facts, .ref a_t_runners_splits, .ref a_t_runners_torn, .ref a_t_runners_dropped, .ref a_t_runners_waved, .ref a_t_runners_struck, .ref a_t_runners_strikingOrder, .int t_runners_entered, .int t_runners_strikings])), (a_t_runners_dropped, .inl (cZ, 60, .inl t_runners_dropped)), (a_t_runners_facts, .inl (cI, 360, .inl t_runners_facts)), (a_t_runners_splits, .inl (cI, 720, .inl t_runners_splits)), (a_t_runners_struck, .inl (cZ, 60, .inl t_runners_struck)), (a_t_runners_waved, .inl (cZ, 60, .inl t_runners_waved)), (a_t_way, .inr (9, [.ref a_t_way_places, .ref a_t_way_bearings, .ref a_t_way_cuts, .ref a_t_way_deaths, .int t_way_mats])), (a_t_way_cuts, .inl (cI, 12, .inl t_way_cuts))] A) #[Value.ref a_t, Value.int x1] s 0 0 A) (F0 m 4 ls []) := by
    intro n
    induction n with
    | zero => intro _ _ H locs ls h hP hD hS hl; cases h
    | succ n4 ih4 =>
      intro v2_4 v3_4 H locs ls h hP hD hS hl
      rw [fX4_howManyAre_L4.eq_2] at h
      refine lv_iload_n hx hb dX4_howManyAre_4 rfl (lv_at hl 0 rfl) ?_
      refine lv_aload_n hx hb dX4_howManyAre_5 rfl (lv_at hl 2 rfl) ?_
      refine va_get (D := D) (ci := 4) (C := RX4) (T := TX4) (N := 3) hx hb hts qX4_howManyAre_X4 hown hK hP 0 rfl rfl 2 (by decide) (hts _ kX4_howManyAre_0) (fun _ h9 => h9) rfl dX4_howManyAre_6 ?_
      obtain ⟨r1, e2, h⟩ := zz_b h
      refine zVi (As := []) (rest := [.int v3_4]) (C := RX6) (wr := [(a_t, .inr (4, [.ref a_t_way, .ref a_t_guns, .ref a_t_runners])), (a_t_guns, .inr (2, [.ref a_t_guns_ticks])), (a_t_guns_ticks, .inl (cI, 6, .inl t_guns_ticks)), (a_t_runners_dropped, .inl (cZ, 60, .inl t_runners_dropped)), (a_t_runners_facts, .inl (cI, 360, .inl t_runners_facts)), (a_t_runners_splits, .inl (cI, 720, .inl t_runners_splits)), (a_t_runners_struck, .inl (cZ, 60, .inl t_runners_struck)), (a_t_runners_waved, .inl (cZ, 60, .inl t_runners_waved)), (a_t_way, .inr (9, [.ref a_t_way_places, .ref a_t_way_bearings, .ref a_t_way_cuts, .ref a_t_way_deaths, .int t_way_mats])), (a_t_way_cuts, .inl (cI, 12, .inl t_way_cuts))]) [3] [0, 1, 2, 4, 5, 6, 7, 8, 9, 10] 0 ⟨hx, hb, hml, hown, hts⟩ (mX6_size l D cB cI cZ a_t_runners a_t_runners_facts a_t_runners_splits a_t_runners_torn a_t_runners_dropped a_t_runners_waved a_t_runners_struck a_t_runners_strikingOrder t_runners_entered t_runners_strikings H.size r1 e2) (cwV 0 hts gX4_howManyAre_X6_size rfl rfl rfl (by decide +kernel) ⟨Nat.le_of_ble_eq_true rfl, Nat.le_of_ble_eq_true rfl⟩) hK hN hZ hP hD hS hA rfl rfl rfl rfl rfl rfl rfl rfl hl.1 rfl (lv_room (Nat.le_of_ble_eq_true rfl)) dX4_howManyAre_9 ⟨Nat.le_of_ble_eq_true rfl, Nat.le_of_ble_eq_true rfl⟩ (fun H locs hP hD hS => ?_)
      have hP : va_P D vwCl [(a_t, .inr (4, [.ref a_t_way, .ref a_t_guns, .ref a_t_runners])), (a_t_guns, .inr (2, [.ref a_t_guns_ticks])), (a_t_guns_ticks, .inl (cI, 6, .inl t_guns_ticks)), (a_t_runners_dropped, .inl (cZ, 60, .inl t_runners_dropped)), (a_t_runners_facts, .inl (cI, 360, .inl t_runners_facts)), (a_t_runners_splits, .inl (cI, 720, .inl t_runners_splits)), (a_t_runners_struck, .inl (cZ, 60, .inl t_runners_struck)), (a_t_runners_waved, .inl (cZ, 60, .inl t_runners_waved)), (a_t_way, .inr (9, [.ref a_t_way_places, .ref a_t_way_bearings, .ref a_t_way_cuts, .ref a_t_way_deaths, .int t_way_mats])), (a_t_way_cuts, .inl (cI, 12, .inl t_way_cuts)), (a_t_runners, .inr (6, [.ref a_t_runners_facts, .ref a_t_runners_splits, .ref a_t_runners_torn, .ref a_t_runners_dropped, .ref a_t_runners_waved, .ref a_t_runners_struck, .ref a_t_runners_strikingOrder, .int t_runners_entered, .int t_runners_strikings]))] H := hP
      have hD : va_D A [(a_t, .inr (4, [.ref a_t_way, .ref a_t_guns, .ref a_t_runners])), (a_t_guns, .inr (2, [.ref a_t_guns_ticks])), (a_t_guns_ticks, .inl (cI, 6, .inl t_guns_ticks)), (a_t_runners_dropped, .inl (cZ, 60, .inl t_runners_dropped)), (a_t_runners_facts, .inl (cI, 360, .inl t_runners_facts)), (a_t_runners_splits, .inl (cI, 720, .inl t_runners_splits)), (a_t_runners_struck, .inl (cZ, 60, .inl t_runners_struck)), (a_t_runners_waved, .inl (cZ, 60, .inl t_runners_waved)), (a_t_way, .inr (9, [.ref a_t_way_places, .ref a_t_way_bearings, .ref a_t_way_cuts, .ref a_t_way_deaths, .int t_way_mats])), (a_t_way_cuts, .inl (cI, 12, .inl t_way_cuts)), (a_t_runners, .inr (6, [.ref a_t_runners_facts, .ref a_t_runners_splits, .ref a_t_runners_torn, .ref a_t_runners_dropped, .ref a_t_runners_waved, .ref a_t_runners_struck, .ref a_t_runners_strikingOrder, .int t_runners_entered, .int t_runners_strikings]))] := hD
      refine lv_icmp_ge (tgt := 33) hx hb dX4_howManyAre_12 (by decide) (fun c3 => ?_) (fun c3 => ?_)
      · have h := zz_t h c3
        exact X4_33 v2_4 v3_4 _ _ _ h (hP.sub [0, 1, 2, 10, 3, 4, 5, 6, 7, 8, 9] rfl) (hD.sub [0, 1, 2, 10, 3, 4, 5, 6, 7, 8, 9] rfl rfl) hS (lv_sub hl [0, 1, 2, 3] rfl)
      · have h := zz_f h c3
        refine lv_aload_n hx hb dX4_howManyAre_15 rfl (lv_at hl 2 rfl) ?_
        refine lv_iload_n hx hb dX4_howManyAre_16 rfl (lv_at hl 0 rfl) ?_
        obtain ⟨r4, e5, h⟩ := zz_b h
        refine zVi (As := [.int v3_4]) (rest := []) (C := RX4) (wr := []) [0, 1, 2, 10, 3, 4, 5, 6, 7, 8, 9] [] 0 ⟨hx, hb, hml, hown, hts⟩ (mX4_stateOf l D cB cI cZ a_t a_t_way a_t_guns a_t_runners a_t_guns_ticks a_t_runners_facts a_t_runners_splits a_t_runners_torn a_t_runners_dropped a_t_runners_waved a_t_runners_struck a_t_runners_strikingOrder a_t_way_places a_t_way_bearings a_t_way_cuts a_t_way_deaths t_guns_ticks t_runners_entered t_runners_strikings t_runners_dropped t_runners_facts t_runners_splits t_runners_struck t_runners_waved t_way_mats t_way_cuts H.size v3_4 N r4 e5) (cwV 1 hts gX4_howManyAre_X4_stateOf rfl rfl rfl (by decide +kernel) ⟨Nat.le_of_ble_eq_true rfl, Nat.le_of_ble_eq_true rfl⟩) hK hN hZ hP hD hS hA rfl rfl rfl rfl rfl rfl rfl rfl hl.1 rfl (lv_room (Nat.le_of_ble_eq_true rfl)) dX4_howManyAre_17 ⟨Nat.le_of_ble_eq_true rfl, Nat.le_of_ble_eq_true rfl⟩ (fun H locs hP hD hS => ?_)
        have hP : va_P D vwCl [(a_t, .inr (4, [.ref a_t_way, .ref a_t_guns, .ref a_t_runners])), (a_t_guns, .inr (2, [.ref a_t_guns_ticks])), (a_t_guns_ticks, .inl (cI, 6, .inl t_guns_ticks)), (a_t_runners, .inr (6, [.ref a_t_runners_facts, .ref a_t_runners_splits, .ref a_t_runners_torn, .ref a_t_runners_dropped, .ref a_t_runners_waved, .ref a_t_runners_struck, .ref a_t_runners_strikingOrder, .int t_runners_entered, .int t_runners_strikings])), (a_t_runners_dropped, .inl (cZ, 60, .inl t_runners_dropped)), (a_t_runners_facts, .inl (cI, 360, .inl t_runners_facts)), (a_t_runners_splits, .inl (cI, 720, .inl t_runners_splits)), (a_t_runners_struck, .inl (cZ, 60, .inl t_runners_struck)), (a_t_runners_waved, .inl (cZ, 60, .inl t_runners_waved)), (a_t_way, .inr (9, [.ref a_t_way_places, .ref a_t_way_bearings, .ref a_t_way_cuts, .ref a_t_way_deaths, .int t_way_mats])), (a_t_way_cuts, .inl (cI, 12, .inl t_way_cuts))] H := hP
        have hD : va_D A [(a_t, .inr (4, [.ref a_t_way, .ref a_t_guns, .ref a_t_runners])), (a_t_guns, .inr (2, [.ref a_t_guns_ticks])), (a_t_guns_ticks, .inl (cI, 6, .inl t_guns_ticks)), (a_t_runners, .inr (6, [.ref a_t_runners_facts, .ref a_t_runners_splits, .ref a_t_runners_torn, .ref a_t_runners_dropped, .ref a_t_runners_waved, .ref a_t_runners_struck, .ref a_t_runners_strikingOrder, .int t_runners_entered, .int t_runners_strikings])), (a_t_runners_dropped, .inl (cZ, 60, .inl t_runners_dropped)), (a_t_runners_facts, .inl (cI, 360, .inl t_runners_facts)), (a_t_runners_splits, .inl (cI, 720, .inl t_runners_splits)), (a_t_runners_struck, .inl (cZ, 60, .inl t_runners_struck)), (a_t_runners_waved, .inl (cZ, 60, .inl t_runners_waved)), (a_t_way, .inr (9, [.ref a_t_way_places, .ref a_t_way_bearings, .ref a_t_way_cuts, .ref a_t_way_deaths, .int t_way_mats])), (a_t_way_cuts, .inl (cI, 12, .inl t_way_cuts))] := hD
        refine lv_iload_n hx hb dX4_howManyAre_20 rfl (lv_at hl 3 rfl) ?_
        refine lv_icmp_ne (tgt := 27) hx hb dX4_howManyAre_21 (by decide) (fun c6 => ?_) (fun c6 => ?_)
        · have h := zz_f h c6
          refine lv_iinc (v := (v3_4 + (nI 1))) (lv' := [(3, .int (v3_4 + (nI 1))), (2, .int v2_4), (0, .ref a_t), (1, .int x1)]) hx hb dX4_howManyAre_27 hl (k := 0) rfl rfl (by decide) rfl (fun ls hl => ?_)
          refine lv_goto (tgt := 4) hx hb dX4_howManyAre_30 (by decide) ?_
          exact ih4 v2_4 (v3_4 + (nI 1)) _ _ _ h (hP.sub [0, 1, 2, 3, 4, 5, 6, 7, 8, 9, 10] rfl) (hD.sub [0, 1, 2, 3, 4, 5, 6, 7, 8, 9, 10] rfl rfl) hS (lv_sub hl [0, 1, 2, 3] rfl)
        · have h := zz_t h c6
          refine lv_iinc (v := (v2_4 + (nI 1))) (lv' := [(2, .int (v2_4 + (nI 1))), (3, .int v3_4), (0, .ref a_t), (1, .int x1)]) hx hb dX4_howManyAre_24 hl (k := 1) rfl rfl (by decide) rfl (fun ls hl => ?_)
          refine lv_iinc (v := (v3_4 + (nI 1))) (lv' := [(3, .int (v3_4 + (nI 1))), (2, .int (v2_4 + (nI 1))), (0, .ref a_t), (1, .int x1)]) hx hb dX4_howManyAre_27 hl (k := 1) rfl rfl (by decide) rfl (fun ls hl => ?_)
          refine lv_goto (tgt := 4) hx hb dX4_howManyAre_30 (by decide) ?_
          exact ih4 (v2_4 + (nI 1)) (v3_4 + (nI 1)) _ _ _ h (hP.sub [0, 1, 2, 3, 4, 5, 6, 7, 8, 9, 10] rfl) (hD.sub [0, 1, 2, 3, 4, 5, 6, 7, 8, 9, 10] rfl rfl) hS (lv_sub hl [0, 1, 2, 3] rfl)
  exact L4 N (nI 0) (nI 0) _ _ _ h hP hD hS hl
/-! RunDesk$Race.howManySplits -/
theorem dX4_howManySplits_0 : decode cX4_howManySplits 0 = .ok (.iconst 0, 1) := by decide +kernel
theorem dX4_howManySplits_1 : decode cX4_howManySplits 1 = .ok (.istore_n 1, 1) := by decide +kernel
theorem dX4_howManySplits_2 : decode cX4_howManySplits 2 = .ok (.iconst 0, 1) := by decide +kernel
theorem dX4_howManySplits_3 : decode cX4_howManySplits 3 = .ok (.istore_n 2, 1) := by decide +kernel
theorem dX4_howManySplits_4 : decode cX4_howManySplits 4 = .ok (.iload_n 2, 1) := by decide +kernel
theorem dX4_howManySplits_5 : decode cX4_howManySplits 5 = .ok (.aload_n 0, 1) := by decide +kernel
theorem dX4_howManySplits_6 : decode cX4_howManySplits 6 = .ok (.getfield 28, 3) := by decide +kernel
theorem dX4_howManySplits_9 : decode cX4_howManySplits 9 = .ok (.invokevirtual 116, 3) := by decide +kernel
theorem dX4_howManySplits_12 : decode cX4_howManySplits 12 = .ok (.if_icmp .ge 44, 3) := by decide +kernel
theorem dX4_howManySplits_15 : decode cX4_howManySplits 15 = .ok (.iconst 0, 1) := by decide +kernel
theorem dX4_howManySplits_16 : decode cX4_howManySplits 16 = .ok (.istore_n 3, 1) := by decide +kernel
theorem dX4_howManySplits_17 : decode cX4_howManySplits 17 = .ok (.iload_n 3, 1) := by decide +kernel
theorem dX4_howManySplits_18 : decode cX4_howManySplits 18 = .ok (.aload_n 0, 1) := by decide +kernel
theorem dX4_howManySplits_19 : decode cX4_howManySplits 19 = .ok (.getfield 12, 3) := by decide +kernel
theorem dX4_howManySplits_22 : decode cX4_howManySplits 22 = .ok (.invokevirtual 94, 3) := by decide +kernel
theorem dX4_howManySplits_25 : decode cX4_howManySplits 25 = .ok (.if_icmp .ge 25, 3) := by decide +kernel
theorem dX4_howManySplits_28 : decode cX4_howManySplits 28 = .ok (.aload_n 0, 1) := by decide +kernel
theorem dX4_howManySplits_29 : decode cX4_howManySplits 29 = .ok (.getfield 28, 3) := by decide +kernel
theorem dX4_howManySplits_32 : decode cX4_howManySplits 32 = .ok (.iload_n 2, 1) := by decide +kernel
theorem dX4_howManySplits_33 : decode cX4_howManySplits 33 = .ok (.iload_n 3, 1) := by decide +kernel
theorem dX4_howManySplits_34 : decode cX4_howManySplits 34 = .ok (.invokevirtual 91, 3) := by decide +kernel
theorem dX4_howManySplits_37 : decode cX4_howManySplits 37 = .ok (.iconst (-1), 1) := by decide +kernel
theorem dX4_howManySplits_38 : decode cX4_howManySplits 38 = .ok (.if_icmp .eq 6, 3) := by decide +kernel
theorem dX4_howManySplits_41 : decode cX4_howManySplits 41 = .ok (.iinc 1 1, 3) := by decide +kernel
theorem dX4_howManySplits_44 : decode cX4_howManySplits 44 = .ok (.iinc 3 1, 3) := by decide +kernel
theorem dX4_howManySplits_47 : decode cX4_howManySplits 47 = .ok (.goto (-30), 3) := by decide +kernel
theorem dX4_howManySplits_50 : decode cX4_howManySplits 50 = .ok (.iinc 2 1, 3) := by decide +kernel
theorem dX4_howManySplits_53 : decode cX4_howManySplits 53 = .ok (.goto (-49), 3) := by decide +kernel
theorem dX4_howManySplits_56 : decode cX4_howManySplits 56 = .ok (.iload_n 1, 1) := by decide +kernel
theorem dX4_howManySplits_57 : decode cX4_howManySplits 57 = .ok (.ireturn, 1) := by decide +kernel
set_option maxRecDepth 20000 in
theorem ggX4_howManySplits_X6_size : GoodIn wsX4_howManySplits wsX6_size := goodIn_r _ [7, 8, 27, 28, 29, 30, 31, 32, 33, 34, 35] (by decide +kernel) (by decide +kernel)
set_option maxRecDepth 20000 in
theorem gX4_howManySplits_X6_size : GoodIn wsX4_howManySplits (wsV RX4 116 RX6 yX6_size wsX6_size) := goodIn_app (goodIn_of _ (by decide +kernel)) ggX4_howManySplits_X6_size
set_option maxRecDepth 20000 in
theorem ggX4_howManySplits_X9_size : GoodIn wsX4_howManySplits wsX9_size := goodIn_r _ [13, 14, 36, 37, 38, 39, 40] (by decide +kernel) (by decide +kernel)
set_option maxRecDepth 20000 in
theorem gX4_howManySplits_X9_size : GoodIn wsX4_howManySplits (wsV RX4 94 RX9 yX9_size wsX9_size) := goodIn_app (goodIn_of _ (by decide +kernel)) ggX4_howManySplits_X9_size
set_option maxRecDepth 20000 in
theorem ggX4_howManySplits_X6_splitAt : GoodIn wsX4_howManySplits wsX6_splitAt := goodIn_r _ [18, 19, 20, 21, 22, 6, 23, 8, 27, 28, 29, 30, 31, 32, 33, 34, 35] (by decide +kernel) (by decide +kernel)
set_option maxRecDepth 20000 in
theorem gX4_howManySplits_X6_splitAt : GoodIn wsX4_howManySplits (wsV RX4 91 RX6 yX6_splitAt wsX6_splitAt) := goodIn_app (goodIn_of _ (by decide +kernel)) ggX4_howManySplits_X6_splitAt
theorem kX4_howManySplits_0 : (.fieldLink RX4 28 "RunDesk$Race" "runners" "LRunDesk$Runners;" : Cond) ∈ wsX4_howManySplits := List.mem_of_getElem? (i := 1) (by decide +kernel)
theorem qX4_howManySplits_X4 : ∀ w ∈ wsX40, w ∈ wsX4_howManySplits := fun _ h => List.mem_cons_of_mem _ (List.mem_append_left _ (List.mem_append_left _ (List.mem_append_right _ (h))))
theorem kX4_howManySplits_2 : (.fieldLink RX4 12 "RunDesk$Race" "way" "LRunDesk$Way;" : Cond) ∈ wsX4_howManySplits := List.mem_of_getElem? (i := 2) (by decide +kernel)
set_option maxHeartbeats 4000000 in
set_option maxRecDepth 100000 in
theorem mX4_howManySplits (l : Launch) (D : va_G) (cB cI cZ : ClassId) (a_t : Nat) (a_t_way : Nat) (a_t_guns : Nat) (a_t_runners : Nat) (a_t_runners_facts : Nat) (a_t_runners_splits : Nat) (a_t_runners_torn : Nat) (a_t_runners_dropped : Nat) (a_t_runners_waved : Nat) (a_t_runners_struck : Nat) (a_t_runners_strikingOrder : Nat) (a_t_way_places : Nat) (a_t_way_bearings : Nat) (a_t_way_cuts : Nat) (a_t_way_deaths : Nat) (t_runners_entered : Int32) (t_runners_strikings : Int32) (t_runners_splits : Nat → Int32) (t_way_mats : Int32) (sz : Nat) (N : Nat) (r0 : Int32) (h : fX4_howManySplits N t_runners_entered t_runners_splits t_way_mats = some (r0)) : Met l yX4_howManySplits wsX4_howManySplits ({ frames := 2, cells := 0, slots := 0, locals := 43 } : Room) (va_Pc [.ref a_t] (zPre D (zT cB cI cZ) [(a_t, .inr (4, [.ref a_t_way, .ref a_t_guns, .ref a_t_runners])), (a_t_runners, .inr (6, [.ref a_t_runners_facts, .ref a_t_runners_splits, .ref a_t_runners_torn, .ref a_t_runners_dropped, .ref a_t_runners_waved, .ref a_t_runners_struck, .ref a_t_runners_strikingOrder, .int t_runners_entered, .int t_runners_strikings])), (a_t_runners_splits, .inl (cI, 720, .inl t_runners_splits)), (a_t_way, .inr (9, [.ref a_t_way_places, .ref a_t_way_bearings, .ref a_t_way_cuts, .ref a_t_way_deaths, .int t_way_mats]))] sz)) (zQi r0 D (zT cB cI cZ) [(a_t, .inr (4, [.ref a_t_way, .ref a_t_guns, .ref a_t_runners])), (a_t_runners, .inr (6, [.ref a_t_runners_facts, .ref a_t_runners_splits, .ref a_t_runners_torn, .ref a_t_runners_dropped, .ref a_t_runners_waved, .ref a_t_runners_struck, .ref a_t_runners_strikingOrder, .int t_runners_entered, .int t_runners_strikings])), (a_t_runners_splits, .inl (cI, 720, .inl t_runners_splits)), (a_t_way, .inr (9, [.ref a_t_way_places, .ref a_t_way_bearings, .ref a_t_way_cuts, .ref a_t_way_deaths, .int t_way_mats]))] (va_A [(a_t, .inr (4, [.ref a_t_way, .ref a_t_guns, .ref a_t_runners])), (a_t_runners, .inr (6, [.ref a_t_runners_facts, .ref a_t_runners_splits, .ref a_t_runners_torn, .ref a_t_runners_dropped, .ref a_t_runners_waved, .ref a_t_runners_struck, .ref a_t_runners_strikingOrder, .int t_runners_entered, .int t_runners_strikings])), (a_t_runners_splits, .inl (cI, 720, .inl t_runners_splits)), (a_t_way, .inr (9, [.ref a_t_way_places, .ref a_t_way_bearings, .ref a_t_way_cuts, .ref a_t_way_deaths, .int t_way_mats]))] sz)) 0 0 (va_A [(a_t, .inr (4, [.ref a_t_way, .ref a_t_guns, .ref a_t_runners])), (a_t_runners, .inr (6, [.ref a_t_runners_facts, .ref a_t_runners_splits, .ref a_t_runners_torn, .ref a_t_runners_dropped, .ref a_t_runners_waved, .ref a_t_runners_struck, .ref a_t_runners_strikingOrder, .int t_runners_entered, .int t_runners_strikings])), (a_t_runners_splits, .inl (cI, 720, .inl t_runners_splits)), (a_t_way, .inr (9, [.ref a_t_way_places, .ref a_t_way_bearings, .ref a_t_way_cuts, .ref a_t_way_deaths, .int t_way_mats]))] sz) := by
  refine Met.ofW (cc := cX4_howManySplits) (maxL := 4) (ret := (some .int)) (by decide) rfl ?_
  intro p e s m args below meth c s₁ B hml hv
  obtain ⟨rfl, hsz, hP, hK, hN, hZ, hD0⟩ := hv
  have hx := B.exec
  have hb := B.bytes
  have hr := B.returns
  have hts := atoms_spec (ws := wsX4_howManySplits) B.pre
  have hown : s.vm.findClass RX4 = some m.cls := findClass_of_methodNamed B.named
  have hlocks := B.notSynchronized
  subst hsz
  have hD := hD0.self (sz := s.heap.size)
  generalize hAe : va_A [(a_t, .inr (4, [.ref a_t_way, .ref a_t_guns, .ref a_t_runners])), (a_t_runners, .inr (6, [.ref a_t_runners_facts, .ref a_t_runners_splits, .ref a_t_runners_torn, .ref a_t_runners_dropped, .ref a_t_runners_waved, .ref a_t_runners_struck, .ref a_t_runners_strikingOrder, .int t_runners_entered, .int t_runners_strikings])), (a_t_runners_splits, .inl (cI, 720, .inl t_runners_splits)), (a_t_way, .inr (9, [.ref a_t_way_places, .ref a_t_way_bearings, .ref a_t_way_cuts, .ref a_t_way_deaths, .int t_way_mats]))] s.heap.size = A at hD hZ ⊢
  have hA : ∀ q : Nat, s.heap.size ≤ q → A q := fun q h => by rw [← hAe]; exact Or.inr h
  have hS : va_S A s.heap s.heap [] := va_S.rf
  have hl := lv_entry ([.ref a_t]) (n := 4) (Nat.le_of_ble_eq_true rfl)
  rw [lg_entry_eq]
  generalize (lg_sl ([.ref a_t]) ++ List.replicate (4 - (lg_sl ([.ref a_t])).length) Slot.unset).toArray = ls at hl ⊢
  have hl : lv_has ls 4 [(0, .ref a_t)] := hl
  unfold fX4_howManySplits at h
  refine lv_iconst (v := (nI 0)) hx hb dX4_howManySplits_0 rfl ?_
  refine lv_istore_n (lv' := [(1, .int (nI 0)), (0, .ref a_t)]) hx hb dX4_howManySplits_1 rfl hl (by decide) rfl (fun ls hl => ?_)
  refine lv_iconst (v := (nI 0)) hx hb dX4_howManySplits_2 rfl ?_
  refine lv_istore_n (lv' := [(2, .int (nI 0)), (1, .int (nI 0)), (0, .ref a_t)]) hx hb dX4_howManySplits_3 rfl hl (by decide) rfl (fun ls hl => ?_)
  have X4_56 : ∀ (v1_4 : Int32) (v2_4 : Int32) (H : Heap) (locs : List Loc) (ls : Array Slot), some (v1_4) = some (r0) → va_P D vwCl [(a_t, .inr (4, [.ref a_t_way, .ref a_t_guns, .ref a_t_runners])), (a_t_runners, .inr (6, [.ref a_t_runners_facts, .ref a_t_runners_splits, .ref a_t_runners_torn, .ref a_t_runners_dropped, .ref a_t_runners_waved, .ref a_t_runners_struck, .ref a_t_runners_strikingOrder, .int t_runners_entered, .int t_runners_strikings])), (a_t_runners_splits, .inl (cI, 720, .inl t_runners_splits)), (a_t_way, .inr (9, [.ref a_t_way_places, .ref a_t_way_bearings, .ref a_t_way_cuts, .ref a_t_way_deaths, .int t_way_mats]))] H → va_D A [(a_t, .inr (4, [.ref a_t_way, .ref a_t_guns, .ref a_t_runners])), (a_t_runners, .inr (6, [.ref a_t_runners_facts, .ref a_t_runners_splits, .ref a_t_runners_torn, .ref a_t_runners_dropped, .ref a_t_runners_waved, .ref a_t_runners_struck, .ref a_t_runners_strikingOrder, .int t_runners_entered, .int t_runners_strikings])), (a_t_runners_splits, .inl (cI, 720, .inl t_runners_splits)), (a_t_way, .inr (9, [.ref a_t_way_places, .ref a_t_way_bearings, .ref a_t_way_cuts, .ref a_t_way_deaths, .int t_way_mats]))] → va_S A s.heap H locs → lv_has ls 4 [(2, .int v2_4), (1, .int v1_4), (0, .ref a_t)] → W p l e (headSpec wsX4_howManySplits ({ frames := 2, cells := 0, slots := 0, locals := 43 } : Room)).room s m #[Value.ref a_t] below meth c H locs 0 0 (MQ below (zQi r0 D (zT cB cI cZ) [(a_t, .inr (4, [.ref a_t_way, .ref a_t_guns, .ref a_t_runners])), (a_t_runners, .inr (6, [.ref a_t_runners_facts, .ref a_t_runners_splits, .ref a_t_runners_torn, .ref a_t_runners_dropped, .ref a_t_runners_waved, .ref a_t_runners_struck, .ref a_t_runners_strikingOrder, .int t_runners_entered, .int t_runners_strikings])), (a_t_runners_splits, .inl (cI, 720, .inl t_runners_splits)), (a_t_way, .inr (9, [.ref a_t_way_places, .ref a_t_way_bearings, .ref a_t_way_cuts, .ref a_t_way_deaths, .int t_way_mats]))] A) #[Value.ref a_t] s 0 0 A) (F0 m 56 ls []) := by
    intro v1_4 v2_4 H locs ls h hP hD hS hl
    refine lv_iload_n hx hb dX4_howManySplits_56 rfl (lv_at hl 1 rfl) ?_
    have j0_ := Option.some.inj h
    subst j0_
    exact W.iret (v := v1_4) hx hb hr (fun t ht hW => ⟨⟨_, (), rfl, rfl, zPost.of hP hD hK ht hW [0, 1, 2, 3] rfl rfl rfl⟩, hS.F ht⟩) hS.2.2 dX4_howManySplits_57
  have L4 : ∀ (n : Nat) (v1_4 : Int32) (v2_4 : Int32) (H : Heap) (locs : List Loc) (ls : Array Slot), fX4_howManySplits_L4 N t_runners_entered t_runners_splits t_way_mats (fun (v1_4 : Int32) (v2_4 : Int32) => some (v1_4)) n v1_4 v2_4 = some (r0) → va_P D vwCl [(a_t, .inr (4, [.ref a_t_way, .ref a_t_guns, .ref a_t_runners])), (a_t_runners, .inr (6, [.ref a_t_runners_facts, .ref a_t_runners_splits, .ref a_t_runners_torn, .ref a_t_runners_dropped, .ref a_t_runners_waved, .ref a_t_runners_struck, .ref a_t_runners_strikingOrder, .int t_runners_entered, .int t_runners_strikings])), (a_t_runners_splits, .inl (cI, 720, .inl t_runners_splits)), (a_t_way, .inr (9, [.ref a_t_way_places, .ref a_t_way_bearings, .ref a_t_way_cuts, .ref a_t_way_deaths, .int t_way_mats]))] H → va_D A [(a_t, .inr (4, [.ref a_t_way, .ref a_t_guns, .ref a_t_runners])), (a_t_runners, .inr (6, [.ref a_t_runners_facts, .ref a_t_runners_splits, .ref a_t_runners_torn, .ref a_t_runners_dropped, .ref a_t_runners_waved, .ref a_t_runners_struck, .ref a_t_runners_strikingOrder, .int t_runners_entered, .int t_runners_strikings])), (a_t_runners_splits, .inl (cI, 720, .inl t_runners_splits)), (a_t_way, .inr (9, [.ref a_t_way_places, .ref a_t_way_bearings, .ref a_t_way_cuts, .ref a_t_way_deaths, .int t_way_mats]))] → va_S A s.heap H locs → lv_has ls 4 [(2, .int v2_4), (1, .int v1_4), (0, .ref a_t)] → W p l e (headSpec wsX4_howManySplits ({ frames := 2, cells := 0, slots := 0, locals := 43 } : Room)).room s m #[Value.ref a_t] below meth c H locs 0 0 (MQ below (zQi r0 D (zT cB cI cZ) [(a_t, .inr (4, [.ref a_t_way, .ref a_t_guns, .ref a_t_runners])), (a_t_runners, .inr (6, [.ref a_t_runners_facts, .ref a_t_runners_splits, .ref a_t_runners_torn, .ref a_t_runners_dropped, .ref a_t_runners_waved, .ref a_t_runners_struck, .ref a_t_runners_strikingOrder, .int t_runners_entered, .int t_runners_strikings])), (a_t_runners_splits, .inl (cI, 720, .inl t_runners_splits)), (a_t_way, .inr (9, [.ref a_t_way_places, .ref a_t_way_bearings, .ref a_t_way_cuts, .ref a_t_way_deaths, .int t_way_mats]))] A) #[Value.ref a_t] s 0 0 A) (F0 m 4 ls []) := by
    intro n
    induction n with
    | zero => intro _ _ H locs ls h hP hD hS hl; cases h
    | succ n4 ih4 =>
      intro v1_4 v2_4 H locs ls h hP hD hS hl
      rw [fX4_howManySplits_L4.eq_2] at h
      refine lv_iload_n hx hb dX4_howManySplits_4 rfl (lv_at hl 0 rfl) ?_
      refine lv_aload_n hx hb dX4_howManySplits_5 rfl (lv_at hl 2 rfl) ?_
      refine va_get (D := D) (ci := 4) (C := RX4) (T := TX4) (N := 3) hx hb hts qX4_howManySplits_X4 hown hK hP 0 rfl rfl 2 (by decide) (hts _ kX4_howManySplits_0) (fun _ h9 => h9) rfl dX4_howManySplits_6 ?_
      obtain ⟨r1, e2, h⟩ := zz_b h
      refine zVi (As := []) (rest := [.int v2_4]) (C := RX6) (wr := [(a_t, .inr (4, [.ref a_t_way, .ref a_t_guns, .ref a_t_runners])), (a_t_runners_splits, .inl (cI, 720, .inl t_runners_splits)), (a_t_way, .inr (9, [.ref a_t_way_places, .ref a_t_way_bearings, .ref a_t_way_cuts, .ref a_t_way_deaths, .int t_way_mats]))]) [1] [0, 2, 3] 0 ⟨hx, hb, hml, hown, hts⟩ (mX6_size l D cB cI cZ a_t_runners a_t_runners_facts a_t_runners_splits a_t_runners_torn a_t_runners_dropped a_t_runners_waved a_t_runners_struck a_t_runners_strikingOrder t_runners_entered t_runners_strikings H.size r1 e2) (cwV 0 hts gX4_howManySplits_X6_size rfl rfl rfl (by decide +kernel) ⟨Nat.le_of_ble_eq_true rfl, Nat.le_of_ble_eq_true rfl⟩) hK hN hZ hP hD hS hA rfl rfl rfl rfl rfl rfl rfl rfl hl.1 rfl (lv_room (Nat.le_of_ble_eq_true rfl)) dX4_howManySplits_9 ⟨Nat.le_of_ble_eq_true rfl, Nat.le_of_ble_eq_true rfl⟩ (fun H locs hP hD hS => ?_)
      have hP : va_P D vwCl [(a_t, .inr (4, [.ref a_t_way, .ref a_t_guns, .ref a_t_runners])), (a_t_runners_splits, .inl (cI, 720, .inl t_runners_splits)), (a_t_way, .inr (9, [.ref a_t_way_places, .ref a_t_way_bearings, .ref a_t_way_cuts, .ref a_t_way_deaths, .int t_way_mats])), (a_t_runners, .inr (6, [.ref a_t_runners_facts, .ref a_t_runners_splits, .ref a_t_runners_torn, .ref a_t_runners_dropped, .ref a_t_runners_waved, .ref a_t_runners_struck, .ref a_t_runners_strikingOrder, .int t_runners_entered, .int t_runners_strikings]))] H := hP
      have hD : va_D A [(a_t, .inr (4, [.ref a_t_way, .ref a_t_guns, .ref a_t_runners])), (a_t_runners_splits, .inl (cI, 720, .inl t_runners_splits)), (a_t_way, .inr (9, [.ref a_t_way_places, .ref a_t_way_bearings, .ref a_t_way_cuts, .ref a_t_way_deaths, .int t_way_mats])), (a_t_runners, .inr (6, [.ref a_t_runners_facts, .ref a_t_runners_splits, .ref a_t_runners_torn, .ref a_t_runners_dropped, .ref a_t_runners_waved, .ref a_t_runners_struck, .ref a_t_runners_strikingOrder, .int t_runners_entered, .int t_runners_strikings]))] := hD
      refine lv_icmp_ge (tgt := 56) hx hb dX4_howManySplits_12 (by decide) (fun c3 => ?_) (fun c3 => ?_)
      · have h := zz_t h c3
        exact X4_56 v1_4 v2_4 _ _ _ h (hP.sub [0, 3, 1, 2] rfl) (hD.sub [0, 3, 1, 2] rfl rfl) hS (lv_sub hl [0, 1, 2] rfl)
      · have h := zz_f h c3
        refine lv_iconst (v := (nI 0)) hx hb dX4_howManySplits_15 rfl ?_
        refine lv_istore_n (lv' := [(3, .int (nI 0)), (2, .int v2_4), (1, .int v1_4), (0, .ref a_t)]) hx hb dX4_howManySplits_16 rfl hl (by decide) rfl (fun ls hl => ?_)
        have X17_50 : ∀ (v1_17 : Int32) (v3_17 : Int32) (H : Heap) (locs : List Loc) (ls : Array Slot), (fX4_howManySplits_L4 N t_runners_entered t_runners_splits t_way_mats (fun (v1_4 : Int32) (v2_4 : Int32) => some (v1_4)) n4 v1_17 (v2_4 + (nI 1))) = some (r0) → va_P D vwCl [(a_t, .inr (4, [.ref a_t_way, .ref a_t_guns, .ref a_t_runners])), (a_t_runners_splits, .inl (cI, 720, .inl t_runners_splits)), (a_t_way, .inr (9, [.ref a_t_way_places, .ref a_t_way_bearings, .ref a_t_way_cuts, .ref a_t_way_deaths, .int t_way_mats])), (a_t_runners, .inr (6, [.ref a_t_runners_facts, .ref a_t_runners_splits, .ref a_t_runners_torn, .ref a_t_runners_dropped, .ref a_t_runners_waved, .ref a_t_runners_struck, .ref a_t_runners_strikingOrder, .int t_runners_entered, .int t_runners_strikings]))] H → va_D A [(a_t, .inr (4, [.ref a_t_way, .ref a_t_guns, .ref a_t_runners])), (a_t_runners_splits, .inl (cI, 720, .inl t_runners_splits)), (a_t_way, .inr (9, [.ref a_t_way_places, .ref a_t_way_bearings, .ref a_t_way_cuts, .ref a_t_way_deaths, .int t_way_mats])), (a_t_runners, .inr (6, [.ref a_t_runners_facts, .ref a_t_runners_splits, .ref a_t_runners_torn, .ref a_t_runners_dropped, .ref a_t_runners_waved, .ref a_t_runners_struck, .ref a_t_runners_strikingOrder, .int t_runners_entered, .int t_runners_strikings]))] → va_S A s.heap H locs → lv_has ls 4 [(3, .int v3_17), (2, .int v2_4), (1, .int v1_17), (0, .ref a_t)] → W p l e (headSpec wsX4_howManySplits ({ frames := 2, cells := 0, slots := 0, locals := 43 } : Room)).room s m #[Value.ref a_t] below meth c H locs 0 0 (MQ below (zQi r0 D (zT cB cI cZ) [(a_t, .inr (4, [.ref a_t_way, .ref a_t_guns, .ref a_t_runners])), (a_t_runners, .inr (6, [.ref a_t_runners_facts, .ref a_t_runners_splits, .ref a_t_runners_torn, .ref a_t_runners_dropped, .ref a_t_runners_waved, .ref a_t_runners_struck, .ref a_t_runners_strikingOrder, .int t_runners_entered, .int t_runners_strikings])), (a_t_runners_splits, .inl (cI, 720, .inl t_runners_splits)), (a_t_way, .inr (9, [.ref a_t_way_places, .ref a_t_way_bearings, .ref a_t_way_cuts, .ref a_t_way_deaths, .int t_way_mats]))] A) #[Value.ref a_t] s 0 0 A) (F0 m 50 ls []) := by
          intro v1_17 v3_17 H locs ls h hP hD hS hl
          refine lv_iinc (v := (v2_4 + (nI 1))) (lv' := [(2, .int (v2_4 + (nI 1))), (3, .int v3_17), (1, .int v1_17), (0, .ref a_t)]) hx hb dX4_howManySplits_50 hl (k := 1) rfl rfl (by decide) rfl (fun ls hl => ?_)
          refine lv_goto (tgt := 4) hx hb dX4_howManySplits_53 (by decide) ?_
          exact ih4 v1_17 (v2_4 + (nI 1)) _ _ _ h (hP.sub [0, 3, 1, 2] rfl) (hD.sub [0, 3, 1, 2] rfl rfl) hS (lv_sub hl [0, 2, 3] rfl)
        have L17 : ∀ (n : Nat) (v1_17 : Int32) (v3_17 : Int32) (H : Heap) (locs : List Loc) (ls : Array Slot), fX4_howManySplits_L17 t_runners_entered t_runners_splits t_way_mats v2_4 (fun (v1_17 : Int32) (v3_17 : Int32) => (fX4_howManySplits_L4 N t_runners_entered t_runners_splits t_way_mats (fun (v1_4 : Int32) (v2_4 : Int32) => some (v1_4)) n4 v1_17 (v2_4 + (nI 1)))) n v1_17 v3_17 = some (r0) → va_P D vwCl [(a_t, .inr (4, [.ref a_t_way, .ref a_t_guns, .ref a_t_runners])), (a_t_runners_splits, .inl (cI, 720, .inl t_runners_splits)), (a_t_way, .inr (9, [.ref a_t_way_places, .ref a_t_way_bearings, .ref a_t_way_cuts, .ref a_t_way_deaths, .int t_way_mats])), (a_t_runners, .inr (6, [.ref a_t_runners_facts, .ref a_t_runners_splits, .ref a_t_runners_torn, .ref a_t_runners_dropped, .ref a_t_runners_waved, .ref a_t_runners_struck, .ref a_t_runners_strikingOrder, .int t_runners_entered, .int t_runners_strikings]))] H → va_D A [(a_t, .inr (4, [.ref a_t_way, .ref a_t_guns, .ref a_t_runners])), (a_t_runners_splits, .inl (cI, 720, .inl t_runners_splits)), (a_t_way, .inr (9, [.ref a_t_way_places, .ref a_t_way_bearings, .ref a_t_way_cuts, .ref a_t_way_deaths, .int t_way_mats])), (a_t_runners, .inr (6, [.ref a_t_runners_facts, .ref a_t_runners_splits, .ref a_t_runners_torn, .ref a_t_runners_dropped, .ref a_t_runners_waved, .ref a_t_runners_struck, .ref a_t_runners_strikingOrder, .int t_runners_entered, .int t_runners_strikings]))] → va_S A s.heap H locs → lv_has ls 4 [(3, .int v3_17), (2, .int v2_4), (1, .int v1_17), (0, .ref a_t)] → W p l e (headSpec wsX4_howManySplits ({ frames := 2, cells := 0, slots := 0, locals := 43 } : Room)).room s m #[Value.ref a_t] below meth c H locs 0 0 (MQ below (zQi r0 D (zT cB cI cZ) [(a_t, .inr (4, [.ref a_t_way, .ref a_t_guns, .ref a_t_runners])), (a_t_runners, .inr (6, [.ref a_t_runners_facts, .ref a_t_runners_splits, .ref a_t_runners_torn, .ref a_t_runners_dropped, .ref a_t_runners_waved, .ref a_t_runners_struck, .ref a_t_runners_strikingOrder, .int t_runners_entered, .int t_runners_strikings])), (a_t_runners_splits, .inl (cI, 720, .inl t_runners_splits)), (a_t_way, .inr (9, [.ref a_t_way_places, .ref a_t_way_bearings, .ref a_t_way_cuts, .ref a_t_way_deaths, .int t_way_mats]))] A) #[Value.ref a_t] s 0 0 A) (F0 m 17 ls []) := by
          intro n
          induction n with
          | zero => intro _ _ H locs ls h hP hD hS hl; cases h
          | succ n17 ih17 =>
            intro v1_17 v3_17 H locs ls h hP hD hS hl
            rw [fX4_howManySplits_L17.eq_2] at h
            refine lv_iload_n hx hb dX4_howManySplits_17 rfl (lv_at hl 0 rfl) ?_
            refine lv_aload_n hx hb dX4_howManySplits_18 rfl (lv_at hl 3 rfl) ?_
            refine va_get (D := D) (ci := 4) (C := RX4) (T := TX4) (N := 3) hx hb hts qX4_howManySplits_X4 hown hK hP 0 rfl rfl 0 (by decide) (hts _ kX4_howManySplits_2) (fun _ h9 => h9) rfl dX4_howManySplits_19 ?_
            obtain ⟨r4, e5, h⟩ := zz_b h
            refine zVi (As := []) (rest := [.int v3_17]) (C := RX9) (wr := [(a_t, .inr (4, [.ref a_t_way, .ref a_t_guns, .ref a_t_runners])), (a_t_runners_splits, .inl (cI, 720, .inl t_runners_splits)), (a_t_runners, .inr (6, [.ref a_t_runners_facts, .ref a_t_runners_splits, .ref a_t_runners_torn, .ref a_t_runners_dropped, .ref a_t_runners_waved, .ref a_t_runners_struck, .ref a_t_runners_strikingOrder, .int t_runners_entered, .int t_runners_strikings]))]) [2] [0, 1, 3] 0 ⟨hx, hb, hml, hown, hts⟩ (mX9_size l D cB cI cZ a_t_way a_t_way_places a_t_way_bearings a_t_way_cuts a_t_way_deaths t_way_mats H.size r4 e5) (cwV 0 hts gX4_howManySplits_X9_size rfl rfl rfl (by decide +kernel) ⟨Nat.le_of_ble_eq_true rfl, Nat.le_of_ble_eq_true rfl⟩) hK hN hZ hP hD hS hA rfl rfl rfl rfl rfl rfl rfl rfl hl.1 rfl (lv_room (Nat.le_of_ble_eq_true rfl)) dX4_howManySplits_22 ⟨Nat.le_of_ble_eq_true rfl, Nat.le_of_ble_eq_true rfl⟩ (fun H locs hP hD hS => ?_)
            have hP : va_P D vwCl [(a_t, .inr (4, [.ref a_t_way, .ref a_t_guns, .ref a_t_runners])), (a_t_runners_splits, .inl (cI, 720, .inl t_runners_splits)), (a_t_runners, .inr (6, [.ref a_t_runners_facts, .ref a_t_runners_splits, .ref a_t_runners_torn, .ref a_t_runners_dropped, .ref a_t_runners_waved, .ref a_t_runners_struck, .ref a_t_runners_strikingOrder, .int t_runners_entered, .int t_runners_strikings])), (a_t_way, .inr (9, [.ref a_t_way_places, .ref a_t_way_bearings, .ref a_t_way_cuts, .ref a_t_way_deaths, .int t_way_mats]))] H := hP
            have hD : va_D A [(a_t, .inr (4, [.ref a_t_way, .ref a_t_guns, .ref a_t_runners])), (a_t_runners_splits, .inl (cI, 720, .inl t_runners_splits)), (a_t_runners, .inr (6, [.ref a_t_runners_facts, .ref a_t_runners_splits, .ref a_t_runners_torn, .ref a_t_runners_dropped, .ref a_t_runners_waved, .ref a_t_runners_struck, .ref a_t_runners_strikingOrder, .int t_runners_entered, .int t_runners_strikings])), (a_t_way, .inr (9, [.ref a_t_way_places, .ref a_t_way_bearings, .ref a_t_way_cuts, .ref a_t_way_deaths, .int t_way_mats]))] := hD
            refine lv_icmp_ge (tgt := 50) hx hb dX4_howManySplits_25 (by decide) (fun c6 => ?_) (fun c6 => ?_)
            · have h := zz_t h c6
              exact X17_50 v1_17 v3_17 _ _ _ h (hP.sub [0, 1, 3, 2] rfl) (hD.sub [0, 1, 3, 2] rfl rfl) hS (lv_sub hl [0, 1, 2, 3] rfl)
            · have h := zz_f h c6
              refine lv_aload_n hx hb dX4_howManySplits_28 rfl (lv_at hl 3 rfl) ?_
              refine va_get (D := D) (ci := 4) (C := RX4) (T := TX4) (N := 3) hx hb hts qX4_howManySplits_X4 hown hK hP 0 rfl rfl 2 (by decide) (hts _ kX4_howManySplits_0) (fun _ h9 => h9) rfl dX4_howManySplits_29 ?_
              refine lv_iload_n hx hb dX4_howManySplits_32 rfl (lv_at hl 1 rfl) ?_
              refine lv_iload_n hx hb dX4_howManySplits_33 rfl (lv_at hl 0 rfl) ?_
              obtain ⟨r7, e8, h⟩ := zz_b h
              refine zVi (As := [.int v2_4, .int v3_17]) (rest := []) (C := RX6) (wr := [(a_t, .inr (4, [.ref a_t_way, .ref a_t_guns, .ref a_t_runners])), (a_t_way, .inr (9, [.ref a_t_way_places, .ref a_t_way_bearings, .ref a_t_way_cuts, .ref a_t_way_deaths, .int t_way_mats]))]) [2, 1] [0, 3] 0 ⟨hx, hb, hml, hown, hts⟩ (mX6_splitAt l D cB cI cZ a_t_runners a_t_runners_facts a_t_runners_splits a_t_runners_torn a_t_runners_dropped a_t_runners_waved a_t_runners_struck a_t_runners_strikingOrder t_runners_entered t_runners_strikings t_runners_splits H.size v2_4 v3_17 r7 e8) (cwV 2 hts gX4_howManySplits_X6_splitAt rfl rfl rfl (by decide +kernel) ⟨Nat.le_of_ble_eq_true rfl, Nat.le_of_ble_eq_true rfl⟩) hK hN hZ hP hD hS hA rfl rfl rfl rfl rfl rfl rfl rfl hl.1 rfl (lv_room (Nat.le_of_ble_eq_true rfl)) dX4_howManySplits_34 ⟨Nat.le_of_ble_eq_true rfl, Nat.le_of_ble_eq_true rfl⟩ (fun H locs hP hD hS => ?_)
              have hP : va_P D vwCl [(a_t, .inr (4, [.ref a_t_way, .ref a_t_guns, .ref a_t_runners])), (a_t_way, .inr (9, [.ref a_t_way_places, .ref a_t_way_bearings, .ref a_t_way_cuts, .ref a_t_way_deaths, .int t_way_mats])), (a_t_runners, .inr (6, [.ref a_t_runners_facts, .ref a_t_runners_splits, .ref a_t_runners_torn, .ref a_t_runners_dropped, .ref a_t_runners_waved, .ref a_t_runners_struck, .ref a_t_runners_strikingOrder, .int t_runners_entered, .int t_runners_strikings])), (a_t_runners_splits, .inl (cI, 720, .inl t_runners_splits))] H := hP
              have hD : va_D A [(a_t, .inr (4, [.ref a_t_way, .ref a_t_guns, .ref a_t_runners])), (a_t_way, .inr (9, [.ref a_t_way_places, .ref a_t_way_bearings, .ref a_t_way_cuts, .ref a_t_way_deaths, .int t_way_mats])), (a_t_runners, .inr (6, [.ref a_t_runners_facts, .ref a_t_runners_splits, .ref a_t_runners_torn, .ref a_t_runners_dropped, .ref a_t_runners_waved, .ref a_t_runners_struck, .ref a_t_runners_strikingOrder, .int t_runners_entered, .int t_runners_strikings])), (a_t_runners_splits, .inl (cI, 720, .inl t_runners_splits))] := hD
              refine lv_iconst (v := (-1 : Int32)) hx hb dX4_howManySplits_37 rfl ?_
              refine lv_icmp_eq (tgt := 44) hx hb dX4_howManySplits_38 (by decide) (fun c9 => ?_) (fun c9 => ?_)
              · have h := zz_t h c9
                refine lv_iinc (v := (v3_17 + (nI 1))) (lv' := [(3, .int (v3_17 + (nI 1))), (2, .int v2_4), (1, .int v1_17), (0, .ref a_t)]) hx hb dX4_howManySplits_44 hl (k := 0) rfl rfl (by decide) rfl (fun ls hl => ?_)
                refine lv_goto (tgt := 17) hx hb dX4_howManySplits_47 (by decide) ?_
                exact ih17 v1_17 (v3_17 + (nI 1)) _ _ _ h (hP.sub [0, 3, 1, 2] rfl) (hD.sub [0, 3, 1, 2] rfl rfl) hS (lv_sub hl [0, 1, 2, 3] rfl)
              · have h := zz_f h c9
                refine lv_iinc (v := (v1_17 + (nI 1))) (lv' := [(1, .int (v1_17 + (nI 1))), (3, .int v3_17), (2, .int v2_4), (0, .ref a_t)]) hx hb dX4_howManySplits_41 hl (k := 2) rfl rfl (by decide) rfl (fun ls hl => ?_)
                refine lv_iinc (v := (v3_17 + (nI 1))) (lv' := [(3, .int (v3_17 + (nI 1))), (1, .int (v1_17 + (nI 1))), (2, .int v2_4), (0, .ref a_t)]) hx hb dX4_howManySplits_44 hl (k := 1) rfl rfl (by decide) rfl (fun ls hl => ?_)
                refine lv_goto (tgt := 17) hx hb dX4_howManySplits_47 (by decide) ?_
                exact ih17 (v1_17 + (nI 1)) (v3_17 + (nI 1)) _ _ _ h (hP.sub [0, 3, 1, 2] rfl) (hD.sub [0, 3, 1, 2] rfl rfl) hS (lv_sub hl [0, 2, 1, 3] rfl)
        exact L17 N v1_4 (nI 0) _ _ _ h hP hD hS hl
  exact L4 N (nI 0) (nI 0) _ _ _ h hP hD hS hl
/-! RunDesk$Runners.enter -/
theorem dX6_enter_0 : decode cX6_enter 0 = .ok (.aload_n 0, 1) := by decide +kernel
theorem dX6_enter_1 : decode cX6_enter 1 = .ok (.getfield 34, 3) := by decide +kernel
theorem dX6_enter_4 : decode cX6_enter 4 = .ok (.ifCond .lt 12, 3) := by decide +kernel
theorem dX6_enter_7 : decode cX6_enter 7 = .ok (.aload_n 0, 1) := by decide +kernel
theorem dX6_enter_8 : decode cX6_enter 8 = .ok (.getfield 34, 3) := by decide +kernel
theorem dX6_enter_11 : decode cX6_enter 11 = .ok (.bipush 60, 2) := by decide +kernel
theorem dX6_enter_13 : decode cX6_enter 13 = .ok (.if_icmp .lt 5, 3) := by decide +kernel
theorem dX6_enter_16 : decode cX6_enter 16 = .ok (.iconst (-1), 1) := by decide +kernel
theorem dX6_enter_17 : decode cX6_enter 17 = .ok (.ireturn, 1) := by decide +kernel
theorem dX6_enter_18 : decode cX6_enter 18 = .ok (.aload_n 0, 1) := by decide +kernel
theorem dX6_enter_19 : decode cX6_enter 19 = .ok (.getfield 34, 3) := by decide +kernel
theorem dX6_enter_22 : decode cX6_enter 22 = .ok (.istore 7, 2) := by decide +kernel
theorem dX6_enter_24 : decode cX6_enter 24 = .ok (.aload_n 0, 1) := by decide +kernel
theorem dX6_enter_25 : decode cX6_enter 25 = .ok (.dup, 1) := by decide +kernel
theorem dX6_enter_26 : decode cX6_enter 26 = .ok (.getfield 34, 3) := by decide +kernel
theorem dX6_enter_29 : decode cX6_enter 29 = .ok (.iconst 1, 1) := by decide +kernel
theorem dX6_enter_30 : decode cX6_enter 30 = .ok (.iadd, 1) := by decide +kernel
theorem dX6_enter_31 : decode cX6_enter 31 = .ok (.putfield 34, 3) := by decide +kernel
theorem dX6_enter_34 : decode cX6_enter 34 = .ok (.aload_n 0, 1) := by decide +kernel
theorem dX6_enter_35 : decode cX6_enter 35 = .ok (.getfield 9, 3) := by decide +kernel
theorem dX6_enter_38 : decode cX6_enter 38 = .ok (.iload 7, 2) := by decide +kernel
theorem dX6_enter_40 : decode cX6_enter 40 = .ok (.bipush 6, 2) := by decide +kernel
theorem dX6_enter_42 : decode cX6_enter 42 = .ok (.imul, 1) := by decide +kernel
theorem dX6_enter_43 : decode cX6_enter 43 = .ok (.iconst 0, 1) := by decide +kernel
theorem dX6_enter_44 : decode cX6_enter 44 = .ok (.iadd, 1) := by decide +kernel
theorem dX6_enter_45 : decode cX6_enter 45 = .ok (.iload_n 1, 1) := by decide +kernel
theorem dX6_enter_46 : decode cX6_enter 46 = .ok (.iastore, 1) := by decide +kernel
theorem dX6_enter_47 : decode cX6_enter 47 = .ok (.aload_n 0, 1) := by decide +kernel
theorem dX6_enter_48 : decode cX6_enter 48 = .ok (.getfield 9, 3) := by decide +kernel
theorem dX6_enter_51 : decode cX6_enter 51 = .ok (.iload 7, 2) := by decide +kernel
theorem dX6_enter_53 : decode cX6_enter 53 = .ok (.bipush 6, 2) := by decide +kernel
theorem dX6_enter_55 : decode cX6_enter 55 = .ok (.imul, 1) := by decide +kernel
theorem dX6_enter_56 : decode cX6_enter 56 = .ok (.iconst 1, 1) := by decide +kernel
theorem dX6_enter_57 : decode cX6_enter 57 = .ok (.iadd, 1) := by decide +kernel
theorem dX6_enter_58 : decode cX6_enter 58 = .ok (.iload_n 2, 1) := by decide +kernel
theorem dX6_enter_59 : decode cX6_enter 59 = .ok (.iastore, 1) := by decide +kernel
theorem dX6_enter_60 : decode cX6_enter 60 = .ok (.aload_n 0, 1) := by decide +kernel
theorem dX6_enter_61 : decode cX6_enter 61 = .ok (.getfield 9, 3) := by decide +kernel
theorem dX6_enter_64 : decode cX6_enter 64 = .ok (.iload 7, 2) := by decide +kernel
theorem dX6_enter_66 : decode cX6_enter 66 = .ok (.bipush 6, 2) := by decide +kernel
theorem dX6_enter_68 : decode cX6_enter 68 = .ok (.imul, 1) := by decide +kernel
theorem dX6_enter_69 : decode cX6_enter 69 = .ok (.iconst 2, 1) := by decide +kernel
theorem dX6_enter_70 : decode cX6_enter 70 = .ok (.iadd, 1) := by decide +kernel
theorem dX6_enter_71 : decode cX6_enter 71 = .ok (.iload_n 3, 1) := by decide +kernel
theorem dX6_enter_72 : decode cX6_enter 72 = .ok (.iastore, 1) := by decide +kernel
theorem dX6_enter_73 : decode cX6_enter 73 = .ok (.aload_n 0, 1) := by decide +kernel
theorem dX6_enter_74 : decode cX6_enter 74 = .ok (.getfield 9, 3) := by decide +kernel
theorem dX6_enter_77 : decode cX6_enter 77 = .ok (.iload 7, 2) := by decide +kernel
theorem dX6_enter_79 : decode cX6_enter 79 = .ok (.bipush 6, 2) := by decide +kernel
theorem dX6_enter_81 : decode cX6_enter 81 = .ok (.imul, 1) := by decide +kernel
theorem dX6_enter_82 : decode cX6_enter 82 = .ok (.iconst 3, 1) := by decide +kernel
theorem dX6_enter_83 : decode cX6_enter 83 = .ok (.iadd, 1) := by decide +kernel
theorem dX6_enter_84 : decode cX6_enter 84 = .ok (.iload 4, 2) := by decide +kernel
theorem dX6_enter_86 : decode cX6_enter 86 = .ok (.iastore, 1) := by decide +kernel
theorem dX6_enter_87 : decode cX6_enter 87 = .ok (.aload_n 0, 1) := by decide +kernel
theorem dX6_enter_88 : decode cX6_enter 88 = .ok (.getfield 9, 3) := by decide +kernel
theorem dX6_enter_91 : decode cX6_enter 91 = .ok (.iload 7, 2) := by decide +kernel
theorem dX6_enter_93 : decode cX6_enter 93 = .ok (.bipush 6, 2) := by decide +kernel
theorem dX6_enter_95 : decode cX6_enter 95 = .ok (.imul, 1) := by decide +kernel
theorem dX6_enter_96 : decode cX6_enter 96 = .ok (.iconst 4, 1) := by decide +kernel
theorem dX6_enter_97 : decode cX6_enter 97 = .ok (.iadd, 1) := by decide +kernel
theorem dX6_enter_98 : decode cX6_enter 98 = .ok (.iload 5, 2) := by decide +kernel
theorem dX6_enter_100 : decode cX6_enter 100 = .ok (.iastore, 1) := by decide +kernel
theorem dX6_enter_101 : decode cX6_enter 101 = .ok (.aload_n 0, 1) := by decide +kernel
theorem dX6_enter_102 : decode cX6_enter 102 = .ok (.getfield 9, 3) := by decide +kernel
theorem dX6_enter_105 : decode cX6_enter 105 = .ok (.iload 7, 2) := by decide +kernel
theorem dX6_enter_107 : decode cX6_enter 107 = .ok (.bipush 6, 2) := by decide +kernel
theorem dX6_enter_109 : decode cX6_enter 109 = .ok (.imul, 1) := by decide +kernel
theorem dX6_enter_110 : decode cX6_enter 110 = .ok (.iconst 5, 1) := by decide +kernel
theorem dX6_enter_111 : decode cX6_enter 111 = .ok (.iadd, 1) := by decide +kernel
theorem dX6_enter_112 : decode cX6_enter 112 = .ok (.iload 6, 2) := by decide +kernel
theorem dX6_enter_114 : decode cX6_enter 114 = .ok (.iastore, 1) := by decide +kernel
theorem dX6_enter_115 : decode cX6_enter 115 = .ok (.iconst 0, 1) := by decide +kernel
theorem dX6_enter_116 : decode cX6_enter 116 = .ok (.istore 8, 2) := by decide +kernel
theorem dX6_enter_118 : decode cX6_enter 118 = .ok (.iload 8, 2) := by decide +kernel
theorem dX6_enter_120 : decode cX6_enter 120 = .ok (.bipush 12, 2) := by decide +kernel
theorem dX6_enter_122 : decode cX6_enter 122 = .ok (.if_icmp .ge 23, 3) := by decide +kernel
theorem dX6_enter_125 : decode cX6_enter 125 = .ok (.aload_n 0, 1) := by decide +kernel
theorem dX6_enter_126 : decode cX6_enter 126 = .ok (.getfield 15, 3) := by decide +kernel
theorem dX6_enter_129 : decode cX6_enter 129 = .ok (.iload 7, 2) := by decide +kernel
theorem dX6_enter_131 : decode cX6_enter 131 = .ok (.bipush 12, 2) := by decide +kernel
theorem dX6_enter_133 : decode cX6_enter 133 = .ok (.imul, 1) := by decide +kernel
theorem dX6_enter_134 : decode cX6_enter 134 = .ok (.iload 8, 2) := by decide +kernel
theorem dX6_enter_136 : decode cX6_enter 136 = .ok (.iadd, 1) := by decide +kernel
theorem dX6_enter_137 : decode cX6_enter 137 = .ok (.iconst (-1), 1) := by decide +kernel
theorem dX6_enter_138 : decode cX6_enter 138 = .ok (.iastore, 1) := by decide +kernel
theorem dX6_enter_139 : decode cX6_enter 139 = .ok (.iinc 8 1, 3) := by decide +kernel
theorem dX6_enter_142 : decode cX6_enter 142 = .ok (.goto (-24), 3) := by decide +kernel
theorem dX6_enter_145 : decode cX6_enter 145 = .ok (.aload_n 0, 1) := by decide +kernel
theorem dX6_enter_146 : decode cX6_enter 146 = .ok (.getfield 18, 3) := by decide +kernel
theorem dX6_enter_149 : decode cX6_enter 149 = .ok (.iload 7, 2) := by decide +kernel
theorem dX6_enter_151 : decode cX6_enter 151 = .ok (.iconst (-1), 1) := by decide +kernel
theorem dX6_enter_152 : decode cX6_enter 152 = .ok (.iastore, 1) := by decide +kernel
theorem dX6_enter_153 : decode cX6_enter 153 = .ok (.aload_n 0, 1) := by decide +kernel
theorem dX6_enter_154 : decode cX6_enter 154 = .ok (.getfield 21, 3) := by decide +kernel
theorem dX6_enter_157 : decode cX6_enter 157 = .ok (.iload 7, 2) := by decide +kernel
theorem dX6_enter_159 : decode cX6_enter 159 = .ok (.iconst 0, 1) := by decide +kernel
theorem dX6_enter_160 : decode cX6_enter 160 = .ok (.bastore, 1) := by decide +kernel
theorem dX6_enter_161 : decode cX6_enter 161 = .ok (.aload_n 0, 1) := by decide +kernel
theorem dX6_enter_162 : decode cX6_enter 162 = .ok (.getfield 25, 3) := by decide +kernel
theorem dX6_enter_165 : decode cX6_enter 165 = .ok (.iload 7, 2) := by decide +kernel
theorem dX6_enter_167 : decode cX6_enter 167 = .ok (.iconst 0, 1) := by decide +kernel
theorem dX6_enter_168 : decode cX6_enter 168 = .ok (.bastore, 1) := by decide +kernel
theorem dX6_enter_169 : decode cX6_enter 169 = .ok (.aload_n 0, 1) := by decide +kernel
theorem dX6_enter_170 : decode cX6_enter 170 = .ok (.getfield 28, 3) := by decide +kernel
theorem dX6_enter_173 : decode cX6_enter 173 = .ok (.iload 7, 2) := by decide +kernel
theorem dX6_enter_175 : decode cX6_enter 175 = .ok (.iconst 0, 1) := by decide +kernel
theorem dX6_enter_176 : decode cX6_enter 176 = .ok (.bastore, 1) := by decide +kernel
theorem dX6_enter_177 : decode cX6_enter 177 = .ok (.iload 7, 2) := by decide +kernel
theorem dX6_enter_179 : decode cX6_enter 179 = .ok (.ireturn, 1) := by decide +kernel
theorem kX6_enter_0 : (.fieldLink RX6 34 "RunDesk$Runners" "entered" "I" : Cond) ∈ wsX6_enter := List.mem_of_getElem? (i := 1) (by decide +kernel)
theorem qX6_enter_X6 : ∀ w ∈ wsX60, w ∈ wsX6_enter := fun _ h => List.mem_cons_of_mem _ (List.mem_append_right _ (h))
theorem kX6_enter_2 : (.fieldLink RX6 9 "RunDesk$Runners" "facts" "[I" : Cond) ∈ wsX6_enter := List.mem_of_getElem? (i := 2) (by decide +kernel)
theorem kX6_enter_3 : (.fieldLink RX6 18 "RunDesk$Runners" "torn" "[I" : Cond) ∈ wsX6_enter := List.mem_of_getElem? (i := 4) (by decide +kernel)
theorem kX6_enter_4 : (.fieldLink RX6 21 "RunDesk$Runners" "dropped" "[Z" : Cond) ∈ wsX6_enter := List.mem_of_getElem? (i := 5) (by decide +kernel)
theorem kX6_enter_5 : (.fieldLink RX6 25 "RunDesk$Runners" "waved" "[Z" : Cond) ∈ wsX6_enter := List.mem_of_getElem? (i := 6) (by decide +kernel)
theorem kX6_enter_6 : (.fieldLink RX6 28 "RunDesk$Runners" "struck" "[Z" : Cond) ∈ wsX6_enter := List.mem_of_getElem? (i := 7) (by decide +kernel)
theorem kX6_enter_7 : (.fieldLink RX6 15 "RunDesk$Runners" "splits" "[I" : Cond) ∈ wsX6_enter := List.mem_of_getElem? (i := 3) (by decide +kernel)
set_option maxHeartbeats 4000000 in
set_option maxRecDepth 100000 in
theorem mX6_enter (l : Launch) (D : va_G) (cB cI cZ : ClassId) (a_t : Nat) (a_t_facts : Nat) (a_t_splits : Nat) (a_t_torn : Nat) (a_t_dropped : Nat) (a_t_waved : Nat) (a_t_struck : Nat) (a_t_strikingOrder : Nat) (t_entered : Int32) (t_strikings : Int32) (t_dropped : Nat → Int32) (t_facts : Nat → Int32) (t_splits : Nat → Int32) (t_struck : Nat → Int32) (t_torn : Nat → Int32) (t_waved : Nat → Int32) (sz : Nat) (x1 : Int32) (x2 : Int32) (x3 : Int32) (x4 : Int32) (x5 : Int32) (x6 : Int32) (N : Nat) (r0 : Int32) (t_entered' : Int32) (t_dropped' : Nat → Int32) (t_facts' : Nat → Int32) (t_splits' : Nat → Int32) (t_struck' : Nat → Int32) (t_torn' : Nat → Int32) (t_waved' : Nat → Int32) (h : fX6_enter N t_entered t_dropped t_facts t_splits t_struck t_torn t_waved x1 x2 x3 x4 x5 x6 = some (r0, t_entered', t_dropped', t_facts', t_splits', t_struck', t_torn', t_waved')) : Met l yX6_enter wsX6_enter ({ frames := 0, cells := 0, slots := 0, locals := 0 } : Room) (va_Pc [.ref a_t, .int x1, .int x2, .int x3, .int x4, .int x5, .int x6] (zPre D (zT cB cI cZ) [(a_t, .inr (6, [.ref a_t_facts, .ref a_t_splits, .ref a_t_torn, .ref a_t_dropped, .ref a_t_waved, .ref a_t_struck, .ref a_t_strikingOrder, .int t_entered, .int t_strikings])), (a_t_dropped, .inl (cZ, 60, .inl t_dropped)), (a_t_facts, .inl (cI, 360, .inl t_facts)), (a_t_splits, .inl (cI, 720, .inl t_splits)), (a_t_struck, .inl (cZ, 60, .inl t_struck)), (a_t_torn, .inl (cI, 60, .inl t_torn)), (a_t_waved, .inl (cZ, 60, .inl t_waved))] sz)) (zQi r0 D (zT cB cI cZ) [(a_t, .inr (6, [.ref a_t_facts, .ref a_t_splits, .ref a_t_torn, .ref a_t_dropped, .ref a_t_waved, .ref a_t_struck, .ref a_t_strikingOrder, .int t_entered', .int t_strikings])), (a_t_dropped, .inl (cZ, 60, .inl t_dropped')), (a_t_facts, .inl (cI, 360, .inl t_facts')), (a_t_splits, .inl (cI, 720, .inl t_splits')), (a_t_struck, .inl (cZ, 60, .inl t_struck')), (a_t_torn, .inl (cI, 60, .inl t_torn')), (a_t_waved, .inl (cZ, 60, .inl t_waved'))] (va_A [(a_t, .inr (6, [.ref a_t_facts, .ref a_t_splits, .ref a_t_torn, .ref a_t_dropped, .ref a_t_waved, .ref a_t_struck, .ref a_t_strikingOrder, .int t_entered, .int t_strikings])), (a_t_dropped, .inl (cZ, 60, .inl t_dropped)), (a_t_facts, .inl (cI, 360, .inl t_facts)), (a_t_splits, .inl (cI, 720, .inl t_splits)), (a_t_struck, .inl (cZ, 60, .inl t_struck)), (a_t_torn, .inl (cI, 60, .inl t_torn)), (a_t_waved, .inl (cZ, 60, .inl t_waved))] sz)) 0 0 (va_A [(a_t, .inr (6, [.ref a_t_facts, .ref a_t_splits, .ref a_t_torn, .ref a_t_dropped, .ref a_t_waved, .ref a_t_struck, .ref a_t_strikingOrder, .int t_entered, .int t_strikings])), (a_t_dropped, .inl (cZ, 60, .inl t_dropped)), (a_t_facts, .inl (cI, 360, .inl t_facts)), (a_t_splits, .inl (cI, 720, .inl t_splits)), (a_t_struck, .inl (cZ, 60, .inl t_struck)), (a_t_torn, .inl (cI, 60, .inl t_torn)), (a_t_waved, .inl (cZ, 60, .inl t_waved))] sz) := by
  refine Met.ofW (cc := cX6_enter) (maxL := 9) (ret := (some .int)) (by decide) rfl ?_
  intro p e s m args below meth c s₁ B hml hv
  obtain ⟨rfl, hsz, hP, hK, hN, hZ, hD0⟩ := hv
  have hx := B.exec
  have hb := B.bytes
  have hr := B.returns
  have hts := atoms_spec (ws := wsX6_enter) B.pre
  have hown : s.vm.findClass RX6 = some m.cls := findClass_of_methodNamed B.named
  have hlocks := B.notSynchronized
  subst hsz
  have hD := hD0.self (sz := s.heap.size)
  generalize hAe : va_A [(a_t, .inr (6, [.ref a_t_facts, .ref a_t_splits, .ref a_t_torn, .ref a_t_dropped, .ref a_t_waved, .ref a_t_struck, .ref a_t_strikingOrder, .int t_entered, .int t_strikings])), (a_t_dropped, .inl (cZ, 60, .inl t_dropped)), (a_t_facts, .inl (cI, 360, .inl t_facts)), (a_t_splits, .inl (cI, 720, .inl t_splits)), (a_t_struck, .inl (cZ, 60, .inl t_struck)), (a_t_torn, .inl (cI, 60, .inl t_torn)), (a_t_waved, .inl (cZ, 60, .inl t_waved))] s.heap.size = A at hD hZ ⊢
  have hA : ∀ q : Nat, s.heap.size ≤ q → A q := fun q h => by rw [← hAe]; exact Or.inr h
  have hS : va_S A s.heap s.heap [] := va_S.rf
  have hl := lv_entry ([.ref a_t, .int x1, .int x2, .int x3, .int x4, .int x5, .int x6]) (n := 9) (Nat.le_of_ble_eq_true rfl)
  rw [lg_entry_eq]
  generalize (lg_sl ([.ref a_t, .int x1, .int x2, .int x3, .int x4, .int x5, .int x6]) ++ List.replicate (9 - (lg_sl ([.ref a_t, .int x1, .int x2, .int x3, .int x4, .int x5, .int x6])).length) Slot.unset).toArray = ls at hl ⊢
  have hl : lv_has ls 9 [(0, .ref a_t), (1, .int x1), (2, .int x2), (3, .int x3), (4, .int x4), (5, .int x5), (6, .int x6)] := hl
  unfold fX6_enter at h
  refine lv_aload_n hx hb dX6_enter_0 rfl (lv_at hl 0 rfl) ?_
  refine va_get (D := D) (ci := 6) (C := RX6) (T := TX6) (N := 9) hx hb hts qX6_enter_X6 hown hK hP 0 rfl rfl 7 (by decide) (hts _ kX6_enter_0) (fun _ h9 => h9) rfl dX6_enter_1 ?_
  refine lv_if_lt (tgt := 16) hx hb dX6_enter_4 (by decide) (fun c1 => ?_) (fun c1 => ?_)
  · have h := zz_t h c1
    refine lv_iconst (v := (-1 : Int32)) hx hb dX6_enter_16 rfl ?_
    obtain ⟨j0_, g_⟩ := Prod.mk.inj (Option.some.inj h)
    obtain ⟨j1_, g_⟩ := Prod.mk.inj g_
    obtain ⟨j2_, g_⟩ := Prod.mk.inj g_
    obtain ⟨j3_, g_⟩ := Prod.mk.inj g_
    obtain ⟨j4_, g_⟩ := Prod.mk.inj g_
    obtain ⟨j5_, g_⟩ := Prod.mk.inj g_
    obtain ⟨j6_, g_⟩ := Prod.mk.inj g_
    have j7_ := g_
    subst j0_
    subst j1_
    subst j2_
    subst j3_
    subst j4_
    subst j5_
    subst j6_
    subst j7_
    exact W.iret (v := (-1 : Int32)) hx hb hr (fun t ht hW => ⟨⟨_, (), rfl, rfl, zPost.of hP hD hK ht hW [0, 1, 2, 3, 4, 5, 6] rfl rfl rfl⟩, hS.F ht⟩) hS.2.2 dX6_enter_17
  · have h := zz_f h c1
    refine lv_aload_n hx hb dX6_enter_7 rfl (lv_at hl 0 rfl) ?_
    refine va_get (D := D) (ci := 6) (C := RX6) (T := TX6) (N := 9) hx hb hts qX6_enter_X6 hown hK hP 0 rfl rfl 7 (by decide) (hts _ kX6_enter_0) (fun _ h9 => h9) rfl dX6_enter_8 ?_
    refine lv_bipush (v := (nI 60)) hx hb dX6_enter_11 rfl ?_
    refine lv_icmp_lt (tgt := 18) hx hb dX6_enter_13 (by decide) (fun c2 => ?_) (fun c2 => ?_)
    · have h := zz_t h c2
      refine lv_aload_n hx hb dX6_enter_18 rfl (lv_at hl 0 rfl) ?_
      refine va_get (D := D) (ci := 6) (C := RX6) (T := TX6) (N := 9) hx hb hts qX6_enter_X6 hown hK hP 0 rfl rfl 7 (by decide) (hts _ kX6_enter_0) (fun _ h9 => h9) rfl dX6_enter_19 ?_
      refine lv_istore (lv' := [(7, .int t_entered), (0, .ref a_t), (1, .int x1), (2, .int x2), (3, .int x3), (4, .int x4), (5, .int x5), (6, .int x6)]) hx hb dX6_enter_22 hl (by decide) rfl (fun ls hl => ?_)
      refine lv_aload_n hx hb dX6_enter_24 rfl (lv_at hl 1 rfl) ?_
      refine lv_dup hx hb dX6_enter_25 rfl ?_
      refine va_get (D := D) (ci := 6) (C := RX6) (T := TX6) (N := 9) hx hb hts qX6_enter_X6 hown hK hP 0 rfl rfl 7 (by decide) (hts _ kX6_enter_0) (fun _ h9 => h9) rfl dX6_enter_26 ?_
      refine lv_iconst (v := (nI 1)) hx hb dX6_enter_29 rfl ?_
      refine lv_iadd hx hb dX6_enter_30 ?_
      refine va_put (D := D) (ci := 6) (ty := .int) (C := RX6) (T := TX6) (N := 9) hx hb hts qX6_enter_X6 tyX6 tyX6_ok nmX6 hown hK hP hD hS 0 rfl rfl 7 (by decide) (hts _ kX6_enter_0) (fun _ h9 => h9) rfl (by decide +kernel) rfl (by first | rfl | exact zz_fit) (Nat.le_of_ble_eq_true rfl) dX6_enter_31 (fun H locs hP hD hS => ?_)
      have hP : va_P D vwCl [(a_t, .inr (6, [.ref a_t_facts, .ref a_t_splits, .ref a_t_torn, .ref a_t_dropped, .ref a_t_waved, .ref a_t_struck, .ref a_t_strikingOrder, .int (t_entered + (nI 1)), .int t_strikings])), (a_t_dropped, .inl (cZ, 60, .inl t_dropped)), (a_t_facts, .inl (cI, 360, .inl t_facts)), (a_t_splits, .inl (cI, 720, .inl t_splits)), (a_t_struck, .inl (cZ, 60, .inl t_struck)), (a_t_torn, .inl (cI, 60, .inl t_torn)), (a_t_waved, .inl (cZ, 60, .inl t_waved))] H := hP
      have hD : va_D A [(a_t, .inr (6, [.ref a_t_facts, .ref a_t_splits, .ref a_t_torn, .ref a_t_dropped, .ref a_t_waved, .ref a_t_struck, .ref a_t_strikingOrder, .int (t_entered + (nI 1)), .int t_strikings])), (a_t_dropped, .inl (cZ, 60, .inl t_dropped)), (a_t_facts, .inl (cI, 360, .inl t_facts)), (a_t_splits, .inl (cI, 720, .inl t_splits)), (a_t_struck, .inl (cZ, 60, .inl t_struck)), (a_t_torn, .inl (cI, 60, .inl t_torn)), (a_t_waved, .inl (cZ, 60, .inl t_waved))] := hD
      refine lv_aload_n hx hb dX6_enter_34 rfl (lv_at hl 1 rfl) ?_
      refine va_get (D := D) (ci := 6) (C := RX6) (T := TX6) (N := 9) hx hb hts qX6_enter_X6 hown hK hP 0 rfl rfl 0 (by decide) (hts _ kX6_enter_2) (fun _ h9 => h9) rfl dX6_enter_35 ?_
      refine lv_iload hx hb dX6_enter_38 (lv_at hl 0 rfl) ?_
      refine lv_bipush (v := (nI 6)) hx hb dX6_enter_40 rfl ?_
      refine lv_imul hx hb dX6_enter_42 ?_
      refine lv_iconst (v := (nI 0)) hx hb dX6_enter_43 rfl ?_
      refine lv_iadd hx hb dX6_enter_44 ?_
      refine lv_iload_n hx hb dX6_enter_45 rfl (lv_at hl 2 rfl) ?_
      obtain ⟨i3, h⟩ := zz_i h
      refine va_iast hx hb hK hP hD hS 2 1 rfl rfl i3 dX6_enter_46 (fun H locs hP hD hS => ?_)
      have hP : va_P D vwCl [(a_t, .inr (6, [.ref a_t_facts, .ref a_t_splits, .ref a_t_torn, .ref a_t_dropped, .ref a_t_waved, .ref a_t_struck, .ref a_t_strikingOrder, .int (t_entered + (nI 1)), .int t_strikings])), (a_t_dropped, .inl (cZ, 60, .inl t_dropped)), (a_t_facts, .inl (cI, 360, .inl (upd t_facts (((t_entered * (nI 6)) + (nI 0))).toNatClampNeg x1))), (a_t_splits, .inl (cI, 720, .inl t_splits)), (a_t_struck, .inl (cZ, 60, .inl t_struck)), (a_t_torn, .inl (cI, 60, .inl t_torn)), (a_t_waved, .inl (cZ, 60, .inl t_waved))] H := hP
      have hD : va_D A [(a_t, .inr (6, [.ref a_t_facts, .ref a_t_splits, .ref a_t_torn, .ref a_t_dropped, .ref a_t_waved, .ref a_t_struck, .ref a_t_strikingOrder, .int (t_entered + (nI 1)), .int t_strikings])), (a_t_dropped, .inl (cZ, 60, .inl t_dropped)), (a_t_facts, .inl (cI, 360, .inl (upd t_facts (((t_entered * (nI 6)) + (nI 0))).toNatClampNeg x1))), (a_t_splits, .inl (cI, 720, .inl t_splits)), (a_t_struck, .inl (cZ, 60, .inl t_struck)), (a_t_torn, .inl (cI, 60, .inl t_torn)), (a_t_waved, .inl (cZ, 60, .inl t_waved))] := hD
      refine lv_aload_n hx hb dX6_enter_47 rfl (lv_at hl 1 rfl) ?_
      refine va_get (D := D) (ci := 6) (C := RX6) (T := TX6) (N := 9) hx hb hts qX6_enter_X6 hown hK hP 0 rfl rfl 0 (by decide) (hts _ kX6_enter_2) (fun _ h9 => h9) rfl dX6_enter_48 ?_
      refine lv_iload hx hb dX6_enter_51 (lv_at hl 0 rfl) ?_
      refine lv_bipush (v := (nI 6)) hx hb dX6_enter_53 rfl ?_
      refine lv_imul hx hb dX6_enter_55 ?_
      refine lv_iconst (v := (nI 1)) hx hb dX6_enter_56 rfl ?_
      refine lv_iadd hx hb dX6_enter_57 ?_
      refine lv_iload_n hx hb dX6_enter_58 rfl (lv_at hl 3 rfl) ?_
      obtain ⟨i4, h⟩ := zz_i h
      refine va_iast hx hb hK hP hD hS 2 1 rfl rfl i4 dX6_enter_59 (fun H locs hP hD hS => ?_)
      have hP : va_P D vwCl [(a_t, .inr (6, [.ref a_t_facts, .ref a_t_splits, .ref a_t_torn, .ref a_t_dropped, .ref a_t_waved, .ref a_t_struck, .ref a_t_strikingOrder, .int (t_entered + (nI 1)), .int t_strikings])), (a_t_dropped, .inl (cZ, 60, .inl t_dropped)), (a_t_facts, .inl (cI, 360, .inl (upd (upd t_facts (((t_entered * (nI 6)) + (nI 0))).toNatClampNeg x1) (((t_entered * (nI 6)) + (nI 1))).toNatClampNeg x2))), (a_t_splits, .inl (cI, 720, .inl t_splits)), (a_t_struck, .inl (cZ, 60, .inl t_struck)), (a_t_torn, .inl (cI, 60, .inl t_torn)), (a_t_waved, .inl (cZ, 60, .inl t_waved))] H := hP
      have hD : va_D A [(a_t, .inr (6, [.ref a_t_facts, .ref a_t_splits, .ref a_t_torn, .ref a_t_dropped, .ref a_t_waved, .ref a_t_struck, .ref a_t_strikingOrder, .int (t_entered + (nI 1)), .int t_strikings])), (a_t_dropped, .inl (cZ, 60, .inl t_dropped)), (a_t_facts, .inl (cI, 360, .inl (upd (upd t_facts (((t_entered * (nI 6)) + (nI 0))).toNatClampNeg x1) (((t_entered * (nI 6)) + (nI 1))).toNatClampNeg x2))), (a_t_splits, .inl (cI, 720, .inl t_splits)), (a_t_struck, .inl (cZ, 60, .inl t_struck)), (a_t_torn, .inl (cI, 60, .inl t_torn)), (a_t_waved, .inl (cZ, 60, .inl t_waved))] := hD
      refine lv_aload_n hx hb dX6_enter_60 rfl (lv_at hl 1 rfl) ?_
      refine va_get (D := D) (ci := 6) (C := RX6) (T := TX6) (N := 9) hx hb hts qX6_enter_X6 hown hK hP 0 rfl rfl 0 (by decide) (hts _ kX6_enter_2) (fun _ h9 => h9) rfl dX6_enter_61 ?_
      refine lv_iload hx hb dX6_enter_64 (lv_at hl 0 rfl) ?_
      refine lv_bipush (v := (nI 6)) hx hb dX6_enter_66 rfl ?_
      refine lv_imul hx hb dX6_enter_68 ?_
      refine lv_iconst (v := (nI 2)) hx hb dX6_enter_69 rfl ?_
      refine lv_iadd hx hb dX6_enter_70 ?_
      refine lv_iload_n hx hb dX6_enter_71 rfl (lv_at hl 4 rfl) ?_
      obtain ⟨i5, h⟩ := zz_i h
      refine va_iast hx hb hK hP hD hS 2 1 rfl rfl i5 dX6_enter_72 (fun H locs hP hD hS => ?_)
      have hP : va_P D vwCl [(a_t, .inr (6, [.ref a_t_facts, .ref a_t_splits, .ref a_t_torn, .ref a_t_dropped, .ref a_t_waved, .ref a_t_struck, .ref a_t_strikingOrder, .int (t_entered + (nI 1)), .int t_strikings])), (a_t_dropped, .inl (cZ, 60, .inl t_dropped)), (a_t_facts, .inl (cI, 360, .inl (upd (upd (upd t_facts (((t_entered * (nI 6)) + (nI 0))).toNatClampNeg x1) (((t_entered * (nI 6)) + (nI 1))).toNatClampNeg x2) (((t_entered * (nI 6)) + (nI 2))).toNatClampNeg x3))), (a_t_splits, .inl (cI, 720, .inl t_splits)), (a_t_struck, .inl (cZ, 60, .inl t_struck)), (a_t_torn, .inl (cI, 60, .inl t_torn)), (a_t_waved, .inl (cZ, 60, .inl t_waved))] H := hP
      have hD : va_D A [(a_t, .inr (6, [.ref a_t_facts, .ref a_t_splits, .ref a_t_torn, .ref a_t_dropped, .ref a_t_waved, .ref a_t_struck, .ref a_t_strikingOrder, .int (t_entered + (nI 1)), .int t_strikings])), (a_t_dropped, .inl (cZ, 60, .inl t_dropped)), (a_t_facts, .inl (cI, 360, .inl (upd (upd (upd t_facts (((t_entered * (nI 6)) + (nI 0))).toNatClampNeg x1) (((t_entered * (nI 6)) + (nI 1))).toNatClampNeg x2) (((t_entered * (nI 6)) + (nI 2))).toNatClampNeg x3))), (a_t_splits, .inl (cI, 720, .inl t_splits)), (a_t_struck, .inl (cZ, 60, .inl t_struck)), (a_t_torn, .inl (cI, 60, .inl t_torn)), (a_t_waved, .inl (cZ, 60, .inl t_waved))] := hD
      refine lv_aload_n hx hb dX6_enter_73 rfl (lv_at hl 1 rfl) ?_
      refine va_get (D := D) (ci := 6) (C := RX6) (T := TX6) (N := 9) hx hb hts qX6_enter_X6 hown hK hP 0 rfl rfl 0 (by decide) (hts _ kX6_enter_2) (fun _ h9 => h9) rfl dX6_enter_74 ?_
      refine lv_iload hx hb dX6_enter_77 (lv_at hl 0 rfl) ?_
      refine lv_bipush (v := (nI 6)) hx hb dX6_enter_79 rfl ?_
      refine lv_imul hx hb dX6_enter_81 ?_
      refine lv_iconst (v := (nI 3)) hx hb dX6_enter_82 rfl ?_
      refine lv_iadd hx hb dX6_enter_83 ?_
      refine lv_iload hx hb dX6_enter_84 (lv_at hl 5 rfl) ?_
      obtain ⟨i6, h⟩ := zz_i h
      refine va_iast hx hb hK hP hD hS 2 1 rfl rfl i6 dX6_enter_86 (fun H locs hP hD hS => ?_)
      have hP : va_P D vwCl [(a_t, .inr (6, [.ref a_t_facts, .ref a_t_splits, .ref a_t_torn, .ref a_t_dropped, .ref a_t_waved, .ref a_t_struck, .ref a_t_strikingOrder, .int (t_entered + (nI 1)), .int t_strikings])), (a_t_dropped, .inl (cZ, 60, .inl t_dropped)), (a_t_facts, .inl (cI, 360, .inl (upd (upd (upd (upd t_facts (((t_entered * (nI 6)) + (nI 0))).toNatClampNeg x1) (((t_entered * (nI 6)) + (nI 1))).toNatClampNeg x2) (((t_entered * (nI 6)) + (nI 2))).toNatClampNeg x3) (((t_entered * (nI 6)) + (nI 3))).toNatClampNeg x4))), (a_t_splits, .inl (cI, 720, .inl t_splits)), (a_t_struck, .inl (cZ, 60, .inl t_struck)), (a_t_torn, .inl (cI, 60, .inl t_torn)), (a_t_waved, .inl (cZ, 60, .inl t_waved))] H := hP
      have hD : va_D A [(a_t, .inr (6, [.ref a_t_facts, .ref a_t_splits, .ref a_t_torn, .ref a_t_dropped, .ref a_t_waved, .ref a_t_struck, .ref a_t_strikingOrder, .int (t_entered + (nI 1)), .int t_strikings])), (a_t_dropped, .inl (cZ, 60, .inl t_dropped)), (a_t_facts, .inl (cI, 360, .inl (upd (upd (upd (upd t_facts (((t_entered * (nI 6)) + (nI 0))).toNatClampNeg x1) (((t_entered * (nI 6)) + (nI 1))).toNatClampNeg x2) (((t_entered * (nI 6)) + (nI 2))).toNatClampNeg x3) (((t_entered * (nI 6)) + (nI 3))).toNatClampNeg x4))), (a_t_splits, .inl (cI, 720, .inl t_splits)), (a_t_struck, .inl (cZ, 60, .inl t_struck)), (a_t_torn, .inl (cI, 60, .inl t_torn)), (a_t_waved, .inl (cZ, 60, .inl t_waved))] := hD
      refine lv_aload_n hx hb dX6_enter_87 rfl (lv_at hl 1 rfl) ?_
      refine va_get (D := D) (ci := 6) (C := RX6) (T := TX6) (N := 9) hx hb hts qX6_enter_X6 hown hK hP 0 rfl rfl 0 (by decide) (hts _ kX6_enter_2) (fun _ h9 => h9) rfl dX6_enter_88 ?_
      refine lv_iload hx hb dX6_enter_91 (lv_at hl 0 rfl) ?_
      refine lv_bipush (v := (nI 6)) hx hb dX6_enter_93 rfl ?_
      refine lv_imul hx hb dX6_enter_95 ?_
      refine lv_iconst (v := (nI 4)) hx hb dX6_enter_96 rfl ?_
      refine lv_iadd hx hb dX6_enter_97 ?_
      refine lv_iload hx hb dX6_enter_98 (lv_at hl 6 rfl) ?_
      obtain ⟨i7, h⟩ := zz_i h
      refine va_iast hx hb hK hP hD hS 2 1 rfl rfl i7 dX6_enter_100 (fun H locs hP hD hS => ?_)
      have hP : va_P D vwCl [(a_t, .inr (6, [.ref a_t_facts, .ref a_t_splits, .ref a_t_torn, .ref a_t_dropped, .ref a_t_waved, .ref a_t_struck, .ref a_t_strikingOrder, .int (t_entered + (nI 1)), .int t_strikings])), (a_t_dropped, .inl (cZ, 60, .inl t_dropped)), (a_t_facts, .inl (cI, 360, .inl (upd (upd (upd (upd (upd t_facts (((t_entered * (nI 6)) + (nI 0))).toNatClampNeg x1) (((t_entered * (nI 6)) + (nI 1))).toNatClampNeg x2) (((t_entered * (nI 6)) + (nI 2))).toNatClampNeg x3) (((t_entered * (nI 6)) + (nI 3))).toNatClampNeg x4) (((t_entered * (nI 6)) + (nI 4))).toNatClampNeg x5))), (a_t_splits, .inl (cI, 720, .inl t_splits)), (a_t_struck, .inl (cZ, 60, .inl t_struck)), (a_t_torn, .inl (cI, 60, .inl t_torn)), (a_t_waved, .inl (cZ, 60, .inl t_waved))] H := hP
      have hD : va_D A [(a_t, .inr (6, [.ref a_t_facts, .ref a_t_splits, .ref a_t_torn, .ref a_t_dropped, .ref a_t_waved, .ref a_t_struck, .ref a_t_strikingOrder, .int (t_entered + (nI 1)), .int t_strikings])), (a_t_dropped, .inl (cZ, 60, .inl t_dropped)), (a_t_facts, .inl (cI, 360, .inl (upd (upd (upd (upd (upd t_facts (((t_entered * (nI 6)) + (nI 0))).toNatClampNeg x1) (((t_entered * (nI 6)) + (nI 1))).toNatClampNeg x2) (((t_entered * (nI 6)) + (nI 2))).toNatClampNeg x3) (((t_entered * (nI 6)) + (nI 3))).toNatClampNeg x4) (((t_entered * (nI 6)) + (nI 4))).toNatClampNeg x5))), (a_t_splits, .inl (cI, 720, .inl t_splits)), (a_t_struck, .inl (cZ, 60, .inl t_struck)), (a_t_torn, .inl (cI, 60, .inl t_torn)), (a_t_waved, .inl (cZ, 60, .inl t_waved))] := hD
      refine lv_aload_n hx hb dX6_enter_101 rfl (lv_at hl 1 rfl) ?_
      refine va_get (D := D) (ci := 6) (C := RX6) (T := TX6) (N := 9) hx hb hts qX6_enter_X6 hown hK hP 0 rfl rfl 0 (by decide) (hts _ kX6_enter_2) (fun _ h9 => h9) rfl dX6_enter_102 ?_
      refine lv_iload hx hb dX6_enter_105 (lv_at hl 0 rfl) ?_
      refine lv_bipush (v := (nI 6)) hx hb dX6_enter_107 rfl ?_
      refine lv_imul hx hb dX6_enter_109 ?_
      refine lv_iconst (v := (nI 5)) hx hb dX6_enter_110 rfl ?_
      refine lv_iadd hx hb dX6_enter_111 ?_
      refine lv_iload hx hb dX6_enter_112 (lv_at hl 7 rfl) ?_
      obtain ⟨i8, h⟩ := zz_i h
      refine va_iast hx hb hK hP hD hS 2 1 rfl rfl i8 dX6_enter_114 (fun H locs hP hD hS => ?_)
      have hP : va_P D vwCl [(a_t, .inr (6, [.ref a_t_facts, .ref a_t_splits, .ref a_t_torn, .ref a_t_dropped, .ref a_t_waved, .ref a_t_struck, .ref a_t_strikingOrder, .int (t_entered + (nI 1)), .int t_strikings])), (a_t_dropped, .inl (cZ, 60, .inl t_dropped)), (a_t_facts, .inl (cI, 360, .inl (upd (upd (upd (upd (upd (upd t_facts (((t_entered * (nI 6)) + (nI 0))).toNatClampNeg x1) (((t_entered * (nI 6)) + (nI 1))).toNatClampNeg x2) (((t_entered * (nI 6)) + (nI 2))).toNatClampNeg x3) (((t_entered * (nI 6)) + (nI 3))).toNatClampNeg x4) (((t_entered * (nI 6)) + (nI 4))).toNatClampNeg x5) (((t_entered * (nI 6)) + (nI 5))).toNatClampNeg x6))), (a_t_splits, .inl (cI, 720, .inl t_splits)), (a_t_struck, .inl (cZ, 60, .inl t_struck)), (a_t_torn, .inl (cI, 60, .inl t_torn)), (a_t_waved, .inl (cZ, 60, .inl t_waved))] H := hP
      have hD : va_D A [(a_t, .inr (6, [.ref a_t_facts, .ref a_t_splits, .ref a_t_torn, .ref a_t_dropped, .ref a_t_waved, .ref a_t_struck, .ref a_t_strikingOrder, .int (t_entered + (nI 1)), .int t_strikings])), (a_t_dropped, .inl (cZ, 60, .inl t_dropped)), (a_t_facts, .inl (cI, 360, .inl (upd (upd (upd (upd (upd (upd t_facts (((t_entered * (nI 6)) + (nI 0))).toNatClampNeg x1) (((t_entered * (nI 6)) + (nI 1))).toNatClampNeg x2) (((t_entered * (nI 6)) + (nI 2))).toNatClampNeg x3) (((t_entered * (nI 6)) + (nI 3))).toNatClampNeg x4) (((t_entered * (nI 6)) + (nI 4))).toNatClampNeg x5) (((t_entered * (nI 6)) + (nI 5))).toNatClampNeg x6))), (a_t_splits, .inl (cI, 720, .inl t_splits)), (a_t_struck, .inl (cZ, 60, .inl t_struck)), (a_t_torn, .inl (cI, 60, .inl t_torn)), (a_t_waved, .inl (cZ, 60, .inl t_waved))] := hD
      refine lv_iconst (v := (nI 0)) hx hb dX6_enter_115 rfl ?_
      refine lv_istore (lv' := [(8, .int (nI 0)), (7, .int t_entered), (0, .ref a_t), (1, .int x1), (2, .int x2), (3, .int x3), (4, .int x4), (5, .int x5), (6, .int x6)]) hx hb dX6_enter_116 hl (by decide) rfl (fun ls hl => ?_)
      have X118_145 : ∀ (v8_118 : Int32) (t_splits_l118 : Nat → Int32) (H : Heap) (locs : List Loc) (ls : Array Slot), (if zin t_entered 60 then (if zin t_entered 60 then (if zin t_entered 60 then (if zin t_entered 60 then some (t_entered, (t_entered + (nI 1)), (upd t_dropped (t_entered).toNatClampNeg (vp_nar .boolean (nI 0))), (upd (upd (upd (upd (upd (upd t_facts (((t_entered * (nI 6)) + (nI 0))).toNatClampNeg x1) (((t_entered * (nI 6)) + (nI 1))).toNatClampNeg x2) (((t_entered * (nI 6)) + (nI 2))).toNatClampNeg x3) (((t_entered * (nI 6)) + (nI 3))).toNatClampNeg x4) (((t_entered * (nI 6)) + (nI 4))).toNatClampNeg x5) (((t_entered * (nI 6)) + (nI 5))).toNatClampNeg x6), t_splits_l118, (upd t_struck (t_entered).toNatClampNeg (vp_nar .boolean (nI 0))), (upd t_torn (t_entered).toNatClampNeg (-1 : Int32)), (upd t_waved (t_entered).toNatClampNeg (vp_nar .boolean (nI 0)))) else none) else none) else none) else none) = some (r0, t_entered', t_dropped', t_facts', t_splits', t_struck', t_torn', t_waved') → va_P D vwCl [(a_t, .inr (6, [.ref a_t_facts, .ref a_t_splits, .ref a_t_torn, .ref a_t_dropped, .ref a_t_waved, .ref a_t_struck, .ref a_t_strikingOrder, .int (t_entered + (nI 1)), .int t_strikings])), (a_t_dropped, .inl (cZ, 60, .inl t_dropped)), (a_t_facts, .inl (cI, 360, .inl (upd (upd (upd (upd (upd (upd t_facts (((t_entered * (nI 6)) + (nI 0))).toNatClampNeg x1) (((t_entered * (nI 6)) + (nI 1))).toNatClampNeg x2) (((t_entered * (nI 6)) + (nI 2))).toNatClampNeg x3) (((t_entered * (nI 6)) + (nI 3))).toNatClampNeg x4) (((t_entered * (nI 6)) + (nI 4))).toNatClampNeg x5) (((t_entered * (nI 6)) + (nI 5))).toNatClampNeg x6))), (a_t_splits, .inl (cI, 720, .inl t_splits_l118)), (a_t_struck, .inl (cZ, 60, .inl t_struck)), (a_t_torn, .inl (cI, 60, .inl t_torn)), (a_t_waved, .inl (cZ, 60, .inl t_waved))] H → va_D A [(a_t, .inr (6, [.ref a_t_facts, .ref a_t_splits, .ref a_t_torn, .ref a_t_dropped, .ref a_t_waved, .ref a_t_struck, .ref a_t_strikingOrder, .int (t_entered + (nI 1)), .int t_strikings])), (a_t_dropped, .inl (cZ, 60, .inl t_dropped)), (a_t_facts, .inl (cI, 360, .inl (upd (upd (upd (upd (upd (upd t_facts (((t_entered * (nI 6)) + (nI 0))).toNatClampNeg x1) (((t_entered * (nI 6)) + (nI 1))).toNatClampNeg x2) (((t_entered * (nI 6)) + (nI 2))).toNatClampNeg x3) (((t_entered * (nI 6)) + (nI 3))).toNatClampNeg x4) (((t_entered * (nI 6)) + (nI 4))).toNatClampNeg x5) (((t_entered * (nI 6)) + (nI 5))).toNatClampNeg x6))), (a_t_splits, .inl (cI, 720, .inl t_splits_l118)), (a_t_struck, .inl (cZ, 60, .inl t_struck)), (a_t_torn, .inl (cI, 60, .inl t_torn)), (a_t_waved, .inl (cZ, 60, .inl t_waved))] → va_S A s.heap H locs → lv_has ls 9 [(8, .int v8_118), (7, .int t_entered), (0, .ref a_t), (1, .int x1), (2, .int x2), (3, .int x3), (4, .int x4), (5, .int x5), (6, .int x6)] → W p l e (headSpec wsX6_enter ({ frames := 0, cells := 0, slots := 0, locals := 0 } : Room)).room s m #[Value.ref a_t, Value.int x1, Value.int x2, Value.int x3, Value.int x4, Value.int x5, Value.int x6] below meth c H locs 0 0 (MQ below (zQi r0 D (zT cB cI cZ) [(a_t, .inr (6, [.ref a_t_facts, .ref a_t_splits, .ref a_t_torn, .ref a_t_dropped, .ref a_t_waved, .ref a_t_struck, .ref a_t_strikingOrder, .int t_entered', .int t_strikings])), (a_t_dropped, .inl (cZ, 60, .inl t_dropped')), (a_t_facts, .inl (cI, 360, .inl t_facts')), (a_t_splits, .inl (cI, 720, .inl t_splits')), (a_t_struck, .inl (cZ, 60, .inl t_struck')), (a_t_torn, .inl (cI, 60, .inl t_torn')), (a_t_waved, .inl (cZ, 60, .inl t_waved'))] A) #[Value.ref a_t, Value.int x1, Value.int x2, Value.int x3, Value.int x4, Value.int x5, Value.int x6] s 0 0 A) (F0 m 145 ls []) := by
        intro v8_118 t_splits_l118 H locs ls h hP hD hS hl
        refine lv_aload_n hx hb dX6_enter_145 rfl (lv_at hl 2 rfl) ?_
        refine va_get (D := D) (ci := 6) (C := RX6) (T := TX6) (N := 9) hx hb hts qX6_enter_X6 hown hK hP 0 rfl rfl 2 (by decide) (hts _ kX6_enter_3) (fun _ h9 => h9) rfl dX6_enter_146 ?_
        refine lv_iload hx hb dX6_enter_149 (lv_at hl 1 rfl) ?_
        refine lv_iconst (v := (-1 : Int32)) hx hb dX6_enter_151 rfl ?_
        obtain ⟨i9, h⟩ := zz_i h
        refine va_iast hx hb hK hP hD hS 5 1 rfl rfl i9 dX6_enter_152 (fun H locs hP hD hS => ?_)
        have hP : va_P D vwCl [(a_t, .inr (6, [.ref a_t_facts, .ref a_t_splits, .ref a_t_torn, .ref a_t_dropped, .ref a_t_waved, .ref a_t_struck, .ref a_t_strikingOrder, .int (t_entered + (nI 1)), .int t_strikings])), (a_t_dropped, .inl (cZ, 60, .inl t_dropped)), (a_t_facts, .inl (cI, 360, .inl (upd (upd (upd (upd (upd (upd t_facts (((t_entered * (nI 6)) + (nI 0))).toNatClampNeg x1) (((t_entered * (nI 6)) + (nI 1))).toNatClampNeg x2) (((t_entered * (nI 6)) + (nI 2))).toNatClampNeg x3) (((t_entered * (nI 6)) + (nI 3))).toNatClampNeg x4) (((t_entered * (nI 6)) + (nI 4))).toNatClampNeg x5) (((t_entered * (nI 6)) + (nI 5))).toNatClampNeg x6))), (a_t_splits, .inl (cI, 720, .inl t_splits_l118)), (a_t_struck, .inl (cZ, 60, .inl t_struck)), (a_t_torn, .inl (cI, 60, .inl (upd t_torn (t_entered).toNatClampNeg (-1 : Int32)))), (a_t_waved, .inl (cZ, 60, .inl t_waved))] H := hP
        have hD : va_D A [(a_t, .inr (6, [.ref a_t_facts, .ref a_t_splits, .ref a_t_torn, .ref a_t_dropped, .ref a_t_waved, .ref a_t_struck, .ref a_t_strikingOrder, .int (t_entered + (nI 1)), .int t_strikings])), (a_t_dropped, .inl (cZ, 60, .inl t_dropped)), (a_t_facts, .inl (cI, 360, .inl (upd (upd (upd (upd (upd (upd t_facts (((t_entered * (nI 6)) + (nI 0))).toNatClampNeg x1) (((t_entered * (nI 6)) + (nI 1))).toNatClampNeg x2) (((t_entered * (nI 6)) + (nI 2))).toNatClampNeg x3) (((t_entered * (nI 6)) + (nI 3))).toNatClampNeg x4) (((t_entered * (nI 6)) + (nI 4))).toNatClampNeg x5) (((t_entered * (nI 6)) + (nI 5))).toNatClampNeg x6))), (a_t_splits, .inl (cI, 720, .inl t_splits_l118)), (a_t_struck, .inl (cZ, 60, .inl t_struck)), (a_t_torn, .inl (cI, 60, .inl (upd t_torn (t_entered).toNatClampNeg (-1 : Int32)))), (a_t_waved, .inl (cZ, 60, .inl t_waved))] := hD
        refine lv_aload_n hx hb dX6_enter_153 rfl (lv_at hl 2 rfl) ?_
        refine va_get (D := D) (ci := 6) (C := RX6) (T := TX6) (N := 9) hx hb hts qX6_enter_X6 hown hK hP 0 rfl rfl 3 (by decide) (hts _ kX6_enter_4) (fun _ h9 => h9) rfl dX6_enter_154 ?_
        refine lv_iload hx hb dX6_enter_157 (lv_at hl 1 rfl) ?_
        refine lv_iconst (v := (nI 0)) hx hb dX6_enter_159 rfl ?_
        obtain ⟨i10, h⟩ := zz_i h
        refine va_zast hx hb hK hP hD hS 1 2 rfl rfl i10 dX6_enter_160 (fun H locs hP hD hS => ?_)
        have hP : va_P D vwCl [(a_t, .inr (6, [.ref a_t_facts, .ref a_t_splits, .ref a_t_torn, .ref a_t_dropped, .ref a_t_waved, .ref a_t_struck, .ref a_t_strikingOrder, .int (t_entered + (nI 1)), .int t_strikings])), (a_t_dropped, .inl (cZ, 60, .inl (upd t_dropped (t_entered).toNatClampNeg (vp_nar .boolean (nI 0))))), (a_t_facts, .inl (cI, 360, .inl (upd (upd (upd (upd (upd (upd t_facts (((t_entered * (nI 6)) + (nI 0))).toNatClampNeg x1) (((t_entered * (nI 6)) + (nI 1))).toNatClampNeg x2) (((t_entered * (nI 6)) + (nI 2))).toNatClampNeg x3) (((t_entered * (nI 6)) + (nI 3))).toNatClampNeg x4) (((t_entered * (nI 6)) + (nI 4))).toNatClampNeg x5) (((t_entered * (nI 6)) + (nI 5))).toNatClampNeg x6))), (a_t_splits, .inl (cI, 720, .inl t_splits_l118)), (a_t_struck, .inl (cZ, 60, .inl t_struck)), (a_t_torn, .inl (cI, 60, .inl (upd t_torn (t_entered).toNatClampNeg (-1 : Int32)))), (a_t_waved, .inl (cZ, 60, .inl t_waved))] H := hP
        have hD : va_D A [(a_t, .inr (6, [.ref a_t_facts, .ref a_t_splits, .ref a_t_torn, .ref a_t_dropped, .ref a_t_waved, .ref a_t_struck, .ref a_t_strikingOrder, .int (t_entered + (nI 1)), .int t_strikings])), (a_t_dropped, .inl (cZ, 60, .inl (upd t_dropped (t_entered).toNatClampNeg (vp_nar .boolean (nI 0))))), (a_t_facts, .inl (cI, 360, .inl (upd (upd (upd (upd (upd (upd t_facts (((t_entered * (nI 6)) + (nI 0))).toNatClampNeg x1) (((t_entered * (nI 6)) + (nI 1))).toNatClampNeg x2) (((t_entered * (nI 6)) + (nI 2))).toNatClampNeg x3) (((t_entered * (nI 6)) + (nI 3))).toNatClampNeg x4) (((t_entered * (nI 6)) + (nI 4))).toNatClampNeg x5) (((t_entered * (nI 6)) + (nI 5))).toNatClampNeg x6))), (a_t_splits, .inl (cI, 720, .inl t_splits_l118)), (a_t_struck, .inl (cZ, 60, .inl t_struck)), (a_t_torn, .inl (cI, 60, .inl (upd t_torn (t_entered).toNatClampNeg (-1 : Int32)))), (a_t_waved, .inl (cZ, 60, .inl t_waved))] := hD
        refine lv_aload_n hx hb dX6_enter_161 rfl (lv_at hl 2 rfl) ?_
        refine va_get (D := D) (ci := 6) (C := RX6) (T := TX6) (N := 9) hx hb hts qX6_enter_X6 hown hK hP 0 rfl rfl 4 (by decide) (hts _ kX6_enter_5) (fun _ h9 => h9) rfl dX6_enter_162 ?_
        refine lv_iload hx hb dX6_enter_165 (lv_at hl 1 rfl) ?_
        refine lv_iconst (v := (nI 0)) hx hb dX6_enter_167 rfl ?_
        obtain ⟨i11, h⟩ := zz_i h
        refine va_zast hx hb hK hP hD hS 6 2 rfl rfl i11 dX6_enter_168 (fun H locs hP hD hS => ?_)
        have hP : va_P D vwCl [(a_t, .inr (6, [.ref a_t_facts, .ref a_t_splits, .ref a_t_torn, .ref a_t_dropped, .ref a_t_waved, .ref a_t_struck, .ref a_t_strikingOrder, .int (t_entered + (nI 1)), .int t_strikings])), (a_t_dropped, .inl (cZ, 60, .inl (upd t_dropped (t_entered).toNatClampNeg (vp_nar .boolean (nI 0))))), (a_t_facts, .inl (cI, 360, .inl (upd (upd (upd (upd (upd (upd t_facts (((t_entered * (nI 6)) + (nI 0))).toNatClampNeg x1) (((t_entered * (nI 6)) + (nI 1))).toNatClampNeg x2) (((t_entered * (nI 6)) + (nI 2))).toNatClampNeg x3) (((t_entered * (nI 6)) + (nI 3))).toNatClampNeg x4) (((t_entered * (nI 6)) + (nI 4))).toNatClampNeg x5) (((t_entered * (nI 6)) + (nI 5))).toNatClampNeg x6))), (a_t_splits, .inl (cI, 720, .inl t_splits_l118)), (a_t_struck, .inl (cZ, 60, .inl t_struck)), (a_t_torn, .inl (cI, 60, .inl (upd t_torn (t_entered).toNatClampNeg (-1 : Int32)))), (a_t_waved, .inl (cZ, 60, .inl (upd t_waved (t_entered).toNatClampNeg (vp_nar .boolean (nI 0)))))] H := hP
        have hD : va_D A [(a_t, .inr (6, [.ref a_t_facts, .ref a_t_splits, .ref a_t_torn, .ref a_t_dropped, .ref a_t_waved, .ref a_t_struck, .ref a_t_strikingOrder, .int (t_entered + (nI 1)), .int t_strikings])), (a_t_dropped, .inl (cZ, 60, .inl (upd t_dropped (t_entered).toNatClampNeg (vp_nar .boolean (nI 0))))), (a_t_facts, .inl (cI, 360, .inl (upd (upd (upd (upd (upd (upd t_facts (((t_entered * (nI 6)) + (nI 0))).toNatClampNeg x1) (((t_entered * (nI 6)) + (nI 1))).toNatClampNeg x2) (((t_entered * (nI 6)) + (nI 2))).toNatClampNeg x3) (((t_entered * (nI 6)) + (nI 3))).toNatClampNeg x4) (((t_entered * (nI 6)) + (nI 4))).toNatClampNeg x5) (((t_entered * (nI 6)) + (nI 5))).toNatClampNeg x6))), (a_t_splits, .inl (cI, 720, .inl t_splits_l118)), (a_t_struck, .inl (cZ, 60, .inl t_struck)), (a_t_torn, .inl (cI, 60, .inl (upd t_torn (t_entered).toNatClampNeg (-1 : Int32)))), (a_t_waved, .inl (cZ, 60, .inl (upd t_waved (t_entered).toNatClampNeg (vp_nar .boolean (nI 0)))))] := hD
        refine lv_aload_n hx hb dX6_enter_169 rfl (lv_at hl 2 rfl) ?_
        refine va_get (D := D) (ci := 6) (C := RX6) (T := TX6) (N := 9) hx hb hts qX6_enter_X6 hown hK hP 0 rfl rfl 5 (by decide) (hts _ kX6_enter_6) (fun _ h9 => h9) rfl dX6_enter_170 ?_
        refine lv_iload hx hb dX6_enter_173 (lv_at hl 1 rfl) ?_
        refine lv_iconst (v := (nI 0)) hx hb dX6_enter_175 rfl ?_
        obtain ⟨i12, h⟩ := zz_i h
        refine va_zast hx hb hK hP hD hS 4 2 rfl rfl i12 dX6_enter_176 (fun H locs hP hD hS => ?_)
        have hP : va_P D vwCl [(a_t, .inr (6, [.ref a_t_facts, .ref a_t_splits, .ref a_t_torn, .ref a_t_dropped, .ref a_t_waved, .ref a_t_struck, .ref a_t_strikingOrder, .int (t_entered + (nI 1)), .int t_strikings])), (a_t_dropped, .inl (cZ, 60, .inl (upd t_dropped (t_entered).toNatClampNeg (vp_nar .boolean (nI 0))))), (a_t_facts, .inl (cI, 360, .inl (upd (upd (upd (upd (upd (upd t_facts (((t_entered * (nI 6)) + (nI 0))).toNatClampNeg x1) (((t_entered * (nI 6)) + (nI 1))).toNatClampNeg x2) (((t_entered * (nI 6)) + (nI 2))).toNatClampNeg x3) (((t_entered * (nI 6)) + (nI 3))).toNatClampNeg x4) (((t_entered * (nI 6)) + (nI 4))).toNatClampNeg x5) (((t_entered * (nI 6)) + (nI 5))).toNatClampNeg x6))), (a_t_splits, .inl (cI, 720, .inl t_splits_l118)), (a_t_struck, .inl (cZ, 60, .inl (upd t_struck (t_entered).toNatClampNeg (vp_nar .boolean (nI 0))))), (a_t_torn, .inl (cI, 60, .inl (upd t_torn (t_entered).toNatClampNeg (-1 : Int32)))), (a_t_waved, .inl (cZ, 60, .inl (upd t_waved (t_entered).toNatClampNeg (vp_nar .boolean (nI 0)))))] H := hP
        have hD : va_D A [(a_t, .inr (6, [.ref a_t_facts, .ref a_t_splits, .ref a_t_torn, .ref a_t_dropped, .ref a_t_waved, .ref a_t_struck, .ref a_t_strikingOrder, .int (t_entered + (nI 1)), .int t_strikings])), (a_t_dropped, .inl (cZ, 60, .inl (upd t_dropped (t_entered).toNatClampNeg (vp_nar .boolean (nI 0))))), (a_t_facts, .inl (cI, 360, .inl (upd (upd (upd (upd (upd (upd t_facts (((t_entered * (nI 6)) + (nI 0))).toNatClampNeg x1) (((t_entered * (nI 6)) + (nI 1))).toNatClampNeg x2) (((t_entered * (nI 6)) + (nI 2))).toNatClampNeg x3) (((t_entered * (nI 6)) + (nI 3))).toNatClampNeg x4) (((t_entered * (nI 6)) + (nI 4))).toNatClampNeg x5) (((t_entered * (nI 6)) + (nI 5))).toNatClampNeg x6))), (a_t_splits, .inl (cI, 720, .inl t_splits_l118)), (a_t_struck, .inl (cZ, 60, .inl (upd t_struck (t_entered).toNatClampNeg (vp_nar .boolean (nI 0))))), (a_t_torn, .inl (cI, 60, .inl (upd t_torn (t_entered).toNatClampNeg (-1 : Int32)))), (a_t_waved, .inl (cZ, 60, .inl (upd t_waved (t_entered).toNatClampNeg (vp_nar .boolean (nI 0)))))] := hD
        refine lv_iload hx hb dX6_enter_177 (lv_at hl 1 rfl) ?_
        obtain ⟨j0_, g_⟩ := Prod.mk.inj (Option.some.inj h)
        obtain ⟨j1_, g_⟩ := Prod.mk.inj g_
        obtain ⟨j2_, g_⟩ := Prod.mk.inj g_
        obtain ⟨j3_, g_⟩ := Prod.mk.inj g_
        obtain ⟨j4_, g_⟩ := Prod.mk.inj g_
        obtain ⟨j5_, g_⟩ := Prod.mk.inj g_
        obtain ⟨j6_, g_⟩ := Prod.mk.inj g_
        have j7_ := g_
        subst j0_
        subst j1_
        subst j2_
        subst j3_
        subst j4_
        subst j5_
        subst j6_
        subst j7_
        exact W.iret (v := t_entered) hx hb hr (fun t ht hW => ⟨⟨_, (), rfl, rfl, zPost.of hP hD hK ht hW [0, 1, 2, 3, 4, 5, 6] rfl rfl rfl⟩, hS.F ht⟩) hS.2.2 dX6_enter_179
      have L118 : ∀ (n : Nat) (v8_118 : Int32) (t_splits_l118 : Nat → Int32) (H : Heap) (locs : List Loc) (ls : Array Slot), fX6_enter_L118 t_entered (fun (v8_118 : Int32) (t_splits_l118 : Nat → Int32) => (if zin t_entered 60 then (if zin t_entered 60 then (if zin t_entered 60 then (if zin t_entered 60 then some (t_entered, (t_entered + (nI 1)), (upd t_dropped (t_entered).toNatClampNeg (vp_nar .boolean (nI 0))), (upd (upd (upd (upd (upd (upd t_facts (((t_entered * (nI 6)) + (nI 0))).toNatClampNeg x1) (((t_entered * (nI 6)) + (nI 1))).toNatClampNeg x2) (((t_entered * (nI 6)) + (nI 2))).toNatClampNeg x3) (((t_entered * (nI 6)) + (nI 3))).toNatClampNeg x4) (((t_entered * (nI 6)) + (nI 4))).toNatClampNeg x5) (((t_entered * (nI 6)) + (nI 5))).toNatClampNeg x6), t_splits_l118, (upd t_struck (t_entered).toNatClampNeg (vp_nar .boolean (nI 0))), (upd t_torn (t_entered).toNatClampNeg (-1 : Int32)), (upd t_waved (t_entered).toNatClampNeg (vp_nar .boolean (nI 0)))) else none) else none) else none) else none)) n v8_118 t_splits_l118 = some (r0, t_entered', t_dropped', t_facts', t_splits', t_struck', t_torn', t_waved') → va_P D vwCl [(a_t, .inr (6, [.ref a_t_facts, .ref a_t_splits, .ref a_t_torn, .ref a_t_dropped, .ref a_t_waved, .ref a_t_struck, .ref a_t_strikingOrder, .int (t_entered + (nI 1)), .int t_strikings])), (a_t_dropped, .inl (cZ, 60, .inl t_dropped)), (a_t_facts, .inl (cI, 360, .inl (upd (upd (upd (upd (upd (upd t_facts (((t_entered * (nI 6)) + (nI 0))).toNatClampNeg x1) (((t_entered * (nI 6)) + (nI 1))).toNatClampNeg x2) (((t_entered * (nI 6)) + (nI 2))).toNatClampNeg x3) (((t_entered * (nI 6)) + (nI 3))).toNatClampNeg x4) (((t_entered * (nI 6)) + (nI 4))).toNatClampNeg x5) (((t_entered * (nI 6)) + (nI 5))).toNatClampNeg x6))), (a_t_splits, .inl (cI, 720, .inl t_splits_l118)), (a_t_struck, .inl (cZ, 60, .inl t_struck)), (a_t_torn, .inl (cI, 60, .inl t_torn)), (a_t_waved, .inl (cZ, 60, .inl t_waved))] H → va_D A [(a_t, .inr (6, [.ref a_t_facts, .ref a_t_splits, .ref a_t_torn, .ref a_t_dropped, .ref a_t_waved, .ref a_t_struck, .ref a_t_strikingOrder, .int (t_entered + (nI 1)), .int t_strikings])), (a_t_dropped, .inl (cZ, 60, .inl t_dropped)), (a_t_facts, .inl (cI, 360, .inl (upd (upd (upd (upd (upd (upd t_facts (((t_entered * (nI 6)) + (nI 0))).toNatClampNeg x1) (((t_entered * (nI 6)) + (nI 1))).toNatClampNeg x2) (((t_entered * (nI 6)) + (nI 2))).toNatClampNeg x3) (((t_entered * (nI 6)) + (nI 3))).toNatClampNeg x4) (((t_entered * (nI 6)) + (nI 4))).toNatClampNeg x5) (((t_entered * (nI 6)) + (nI 5))).toNatClampNeg x6))), (a_t_splits, .inl (cI, 720, .inl t_splits_l118)), (a_t_struck, .inl (cZ, 60, .inl t_struck)), (a_t_torn, .inl (cI, 60, .inl t_torn)), (a_t_waved, .inl (cZ, 60, .inl t_waved))] → va_S A s.heap H locs → lv_has ls 9 [(8, .int v8_118), (7, .int t_entered), (0, .ref a_t), (1, .int x1), (2, .int x2), (3, .int x3), (4, .int x4), (5, .int x5), (6, .int x6)] → W p l e (headSpec wsX6_enter ({ frames := 0, cells := 0, slots := 0, locals := 0 } : Room)).room s m #[Value.ref a_t, Value.int x1, Value.int x2, Value.int x3, Value.int x4, Value.int x5, Value.int x6] below meth c H locs 0 0 (MQ below (zQi r0 D (zT cB cI cZ) [(a_t, .inr (6, [.ref a_t_facts, .ref a_t_splits, .ref a_t_torn, .ref a_t_dropped, .ref a_t_waved, .ref a_t_struck, .ref a_t_strikingOrder, .int t_entered', .int t_strikings])), (a_t_dropped, .inl (cZ, 60, .inl t_dropped')), (a_t_facts, .inl (cI, 360, .inl t_facts')), (a_t_splits, .inl (cI, 720, .inl t_splits')), (a_t_struck, .inl (cZ, 60, .inl t_struck')), (a_t_torn, .inl (cI, 60, .inl t_torn')), (a_t_waved, .inl (cZ, 60, .inl t_waved'))] A) #[Value.ref a_t, Value.int x1, Value.int x2, Value.int x3, Value.int x4, Value.int x5, Value.int x6] s 0 0 A) (F0 m 118 ls []) := by
        intro n
        induction n with
        | zero => intro _ _ H locs ls h hP hD hS hl; cases h
        | succ n118 ih118 =>
          intro v8_118 t_splits_l118 H locs ls h hP hD hS hl
          rw [fX6_enter_L118.eq_2] at h
          refine lv_iload hx hb dX6_enter_118 (lv_at hl 0 rfl) ?_
          refine lv_bipush (v := (nI 12)) hx hb dX6_enter_120 rfl ?_
          refine lv_icmp_ge (tgt := 145) hx hb dX6_enter_122 (by decide) (fun c13 => ?_) (fun c13 => ?_)
          · have h := zz_t h c13
            exact X118_145 v8_118 t_splits_l118 _ _ _ h (hP.sub [0, 1, 2, 3, 4, 5, 6] rfl) (hD.sub [0, 1, 2, 3, 4, 5, 6] rfl rfl) hS (lv_sub hl [0, 1, 2, 3, 4, 5, 6, 7, 8] rfl)
          · have h := zz_f h c13
            refine lv_aload_n hx hb dX6_enter_125 rfl (lv_at hl 2 rfl) ?_
            refine va_get (D := D) (ci := 6) (C := RX6) (T := TX6) (N := 9) hx hb hts qX6_enter_X6 hown hK hP 0 rfl rfl 1 (by decide) (hts _ kX6_enter_7) (fun _ h9 => h9) rfl dX6_enter_126 ?_
            refine lv_iload hx hb dX6_enter_129 (lv_at hl 1 rfl) ?_
            refine lv_bipush (v := (nI 12)) hx hb dX6_enter_131 rfl ?_
            refine lv_imul hx hb dX6_enter_133 ?_
            refine lv_iload hx hb dX6_enter_134 (lv_at hl 0 rfl) ?_
            refine lv_iadd hx hb dX6_enter_136 ?_
            refine lv_iconst (v := (-1 : Int32)) hx hb dX6_enter_137 rfl ?_
            obtain ⟨i14, h⟩ := zz_i h
            refine va_iast hx hb hK hP hD hS 3 1 rfl rfl i14 dX6_enter_138 (fun H locs hP hD hS => ?_)
            have hP : va_P D vwCl [(a_t, .inr (6, [.ref a_t_facts, .ref a_t_splits, .ref a_t_torn, .ref a_t_dropped, .ref a_t_waved, .ref a_t_struck, .ref a_t_strikingOrder, .int (t_entered + (nI 1)), .int t_strikings])), (a_t_dropped, .inl (cZ, 60, .inl t_dropped)), (a_t_facts, .inl (cI, 360, .inl (upd (upd (upd (upd (upd (upd t_facts (((t_entered * (nI 6)) + (nI 0))).toNatClampNeg x1) (((t_entered * (nI 6)) + (nI 1))).toNatClampNeg x2) (((t_entered * (nI 6)) + (nI 2))).toNatClampNeg x3) (((t_entered * (nI 6)) + (nI 3))).toNatClampNeg x4) (((t_entered * (nI 6)) + (nI 4))).toNatClampNeg x5) (((t_entered * (nI 6)) + (nI 5))).toNatClampNeg x6))), (a_t_splits, .inl (cI, 720, .inl (upd t_splits_l118 (((t_entered * (nI 12)) + v8_118)).toNatClampNeg (-1 : Int32)))), (a_t_struck, .inl (cZ, 60, .inl t_struck)), (a_t_torn, .inl (cI, 60, .inl t_torn)), (a_t_waved, .inl (cZ, 60, .inl t_waved))] H := hP
            have hD : va_D A [(a_t, .inr (6, [.ref a_t_facts, .ref a_t_splits, .ref a_t_torn, .ref a_t_dropped, .ref a_t_waved, .ref a_t_struck, .ref a_t_strikingOrder, .int (t_entered + (nI 1)), .int t_strikings])), (a_t_dropped, .inl (cZ, 60, .inl t_dropped)), (a_t_facts, .inl (cI, 360, .inl (upd (upd (upd (upd (upd (upd t_facts (((t_entered * (nI 6)) + (nI 0))).toNatClampNeg x1) (((t_entered * (nI 6)) + (nI 1))).toNatClampNeg x2) (((t_entered * (nI 6)) + (nI 2))).toNatClampNeg x3) (((t_entered * (nI 6)) + (nI 3))).toNatClampNeg x4) (((t_entered * (nI 6)) + (nI 4))).toNatClampNeg x5) (((t_entered * (nI 6)) + (nI 5))).toNatClampNeg x6))), (a_t_splits, .inl (cI, 720, .inl (upd t_splits_l118 (((t_entered * (nI 12)) + v8_118)).toNatClampNeg (-1 : Int32)))), (a_t_struck, .inl (cZ, 60, .inl t_struck)), (a_t_torn, .inl (cI, 60, .inl t_torn)), (a_t_waved, .inl (cZ, 60, .inl t_waved))] := hD
            refine lv_iinc (v := (v8_118 + (nI 1))) (lv' := [(8, .int (v8_118 + (nI 1))), (7, .int t_entered), (0, .ref a_t), (1, .int x1), (2, .int x2), (3, .int x3), (4, .int x4), (5, .int x5), (6, .int x6)]) hx hb dX6_enter_139 hl (k := 0) rfl rfl (by decide) rfl (fun ls hl => ?_)
            refine lv_goto (tgt := 118) hx hb dX6_enter_142 (by decide) ?_
            exact ih118 (v8_118 + (nI 1)) (upd t_splits_l118 (((t_entered * (nI 12)) + v8_118)).toNatClampNeg (-1 : Int32)) _ _ _ h (hP.sub [0, 1, 2, 3, 4, 5, 6] rfl) (hD.sub [0, 1, 2, 3, 4, 5, 6] rfl rfl) hS (lv_sub hl [0, 1, 2, 3, 4, 5, 6, 7, 8] rfl)
      exact L118 N (nI 0) t_splits _ _ _ h hP hD hS hl
    · have h := zz_f h c2
      refine lv_iconst (v := (-1 : Int32)) hx hb dX6_enter_16 rfl ?_
      obtain ⟨j0_, g_⟩ := Prod.mk.inj (Option.some.inj h)
      obtain ⟨j1_, g_⟩ := Prod.mk.inj g_
      obtain ⟨j2_, g_⟩ := Prod.mk.inj g_
      obtain ⟨j3_, g_⟩ := Prod.mk.inj g_
      obtain ⟨j4_, g_⟩ := Prod.mk.inj g_
      obtain ⟨j5_, g_⟩ := Prod.mk.inj g_
      obtain ⟨j6_, g_⟩ := Prod.mk.inj g_
      have j7_ := g_
      subst j0_
      subst j1_
      subst j2_
      subst j3_
      subst j4_
      subst j5_
      subst j6_
      subst j7_
      exact W.iret (v := (-1 : Int32)) hx hb hr (fun t ht hW => ⟨⟨_, (), rfl, rfl, zPost.of hP hD hK ht hW [0, 1, 2, 3, 4, 5, 6] rfl rfl rfl⟩, hS.F ht⟩) hS.2.2 dX6_enter_17
/-! RunDesk$Runners.enterSplit -/
theorem dX6_enterSplit_0 : decode cX6_enterSplit 0 = .ok (.aload_n 0, 1) := by decide +kernel
theorem dX6_enterSplit_1 : decode cX6_enterSplit 1 = .ok (.iload_n 1, 1) := by decide +kernel
theorem dX6_enterSplit_2 : decode cX6_enterSplit 2 = .ok (.invokevirtual 41, 3) := by decide +kernel
theorem dX6_enterSplit_5 : decode cX6_enterSplit 5 = .ok (.ifCond .eq 13, 3) := by decide +kernel
theorem dX6_enterSplit_8 : decode cX6_enterSplit 8 = .ok (.iload_n 2, 1) := by decide +kernel
theorem dX6_enterSplit_9 : decode cX6_enterSplit 9 = .ok (.ifCond .lt 9, 3) := by decide +kernel
theorem dX6_enterSplit_12 : decode cX6_enterSplit 12 = .ok (.iload_n 2, 1) := by decide +kernel
theorem dX6_enterSplit_13 : decode cX6_enterSplit 13 = .ok (.bipush 12, 2) := by decide +kernel
theorem dX6_enterSplit_15 : decode cX6_enterSplit 15 = .ok (.if_icmp .lt 5, 3) := by decide +kernel
theorem dX6_enterSplit_18 : decode cX6_enterSplit 18 = .ok (.iconst 0, 1) := by decide +kernel
theorem dX6_enterSplit_19 : decode cX6_enterSplit 19 = .ok (.ireturn, 1) := by decide +kernel
theorem dX6_enterSplit_20 : decode cX6_enterSplit 20 = .ok (.aload_n 0, 1) := by decide +kernel
theorem dX6_enterSplit_21 : decode cX6_enterSplit 21 = .ok (.getfield 15, 3) := by decide +kernel
theorem dX6_enterSplit_24 : decode cX6_enterSplit 24 = .ok (.iload_n 1, 1) := by decide +kernel
theorem dX6_enterSplit_25 : decode cX6_enterSplit 25 = .ok (.bipush 12, 2) := by decide +kernel
theorem dX6_enterSplit_27 : decode cX6_enterSplit 27 = .ok (.imul, 1) := by decide +kernel
theorem dX6_enterSplit_28 : decode cX6_enterSplit 28 = .ok (.iload_n 2, 1) := by decide +kernel
theorem dX6_enterSplit_29 : decode cX6_enterSplit 29 = .ok (.iadd, 1) := by decide +kernel
theorem dX6_enterSplit_30 : decode cX6_enterSplit 30 = .ok (.iaload, 1) := by decide +kernel
theorem dX6_enterSplit_31 : decode cX6_enterSplit 31 = .ok (.istore 4, 2) := by decide +kernel
theorem dX6_enterSplit_33 : decode cX6_enterSplit 33 = .ok (.iload 4, 2) := by decide +kernel
theorem dX6_enterSplit_35 : decode cX6_enterSplit 35 = .ok (.iconst (-1), 1) := by decide +kernel
theorem dX6_enterSplit_36 : decode cX6_enterSplit 36 = .ok (.if_icmp .eq 11, 3) := by decide +kernel
theorem dX6_enterSplit_39 : decode cX6_enterSplit 39 = .ok (.iload 4, 2) := by decide +kernel
theorem dX6_enterSplit_41 : decode cX6_enterSplit 41 = .ok (.iload_n 3, 1) := by decide +kernel
theorem dX6_enterSplit_42 : decode cX6_enterSplit 42 = .ok (.if_icmp .gt 5, 3) := by decide +kernel
theorem dX6_enterSplit_45 : decode cX6_enterSplit 45 = .ok (.iconst 0, 1) := by decide +kernel
theorem dX6_enterSplit_46 : decode cX6_enterSplit 46 = .ok (.ireturn, 1) := by decide +kernel
theorem dX6_enterSplit_47 : decode cX6_enterSplit 47 = .ok (.aload_n 0, 1) := by decide +kernel
theorem dX6_enterSplit_48 : decode cX6_enterSplit 48 = .ok (.getfield 15, 3) := by decide +kernel
theorem dX6_enterSplit_51 : decode cX6_enterSplit 51 = .ok (.iload_n 1, 1) := by decide +kernel
theorem dX6_enterSplit_52 : decode cX6_enterSplit 52 = .ok (.bipush 12, 2) := by decide +kernel
theorem dX6_enterSplit_54 : decode cX6_enterSplit 54 = .ok (.imul, 1) := by decide +kernel
theorem dX6_enterSplit_55 : decode cX6_enterSplit 55 = .ok (.iload_n 2, 1) := by decide +kernel
theorem dX6_enterSplit_56 : decode cX6_enterSplit 56 = .ok (.iadd, 1) := by decide +kernel
theorem dX6_enterSplit_57 : decode cX6_enterSplit 57 = .ok (.iload_n 3, 1) := by decide +kernel
theorem dX6_enterSplit_58 : decode cX6_enterSplit 58 = .ok (.iastore, 1) := by decide +kernel
theorem dX6_enterSplit_59 : decode cX6_enterSplit 59 = .ok (.iconst 1, 1) := by decide +kernel
theorem dX6_enterSplit_60 : decode cX6_enterSplit 60 = .ok (.ireturn, 1) := by decide +kernel
set_option maxRecDepth 20000 in
theorem ggX6_enterSplit_X6_has : GoodIn wsX6_enterSplit wsX6_has := goodIn_r _ [6, 7, 8, 9, 10, 11, 12, 13, 14, 15, 16] (by decide +kernel) (by decide +kernel)
set_option maxRecDepth 20000 in
theorem gX6_enterSplit_X6_has : GoodIn wsX6_enterSplit (wsV RX6 41 RX6 yX6_has wsX6_has) := goodIn_app (goodIn_of _ (by decide +kernel)) ggX6_enterSplit_X6_has
theorem kX6_enterSplit_0 : (.fieldLink RX6 15 "RunDesk$Runners" "splits" "[I" : Cond) ∈ wsX6_enterSplit := List.mem_of_getElem? (i := 1) (by decide +kernel)
theorem qX6_enterSplit_X6 : ∀ w ∈ wsX60, w ∈ wsX6_enterSplit := fun _ h => List.mem_cons_of_mem _ (List.mem_append_right _ (h))
set_option maxHeartbeats 4000000 in
set_option maxRecDepth 100000 in
theorem mX6_enterSplit (l : Launch) (D : va_G) (cB cI cZ : ClassId) (a_t : Nat) (a_t_facts : Nat) (a_t_splits : Nat) (a_t_torn : Nat) (a_t_dropped : Nat) (a_t_waved : Nat) (a_t_struck : Nat) (a_t_strikingOrder : Nat) (t_entered : Int32) (t_strikings : Int32) (t_splits : Nat → Int32) (sz : Nat) (x1 : Int32) (x2 : Int32) (x3 : Int32) (b0 : Bool) (t_splits' : Nat → Int32) (h : fX6_enterSplit t_entered t_splits x1 x2 x3 = some (b0, t_splits')) : Met l yX6_enterSplit wsX6_enterSplit ({ frames := 1, cells := 0, slots := 0, locals := 21 } : Room) (va_Pc [.ref a_t, .int x1, .int x2, .int x3] (zPre D (zT cB cI cZ) [(a_t, .inr (6, [.ref a_t_facts, .ref a_t_splits, .ref a_t_torn, .ref a_t_dropped, .ref a_t_waved, .ref a_t_struck, .ref a_t_strikingOrder, .int t_entered, .int t_strikings])), (a_t_splits, .inl (cI, 720, .inl t_splits))] sz)) (zQi (zb b0) D (zT cB cI cZ) [(a_t, .inr (6, [.ref a_t_facts, .ref a_t_splits, .ref a_t_torn, .ref a_t_dropped, .ref a_t_waved, .ref a_t_struck, .ref a_t_strikingOrder, .int t_entered, .int t_strikings])), (a_t_splits, .inl (cI, 720, .inl t_splits'))] (va_A [(a_t, .inr (6, [.ref a_t_facts, .ref a_t_splits, .ref a_t_torn, .ref a_t_dropped, .ref a_t_waved, .ref a_t_struck, .ref a_t_strikingOrder, .int t_entered, .int t_strikings])), (a_t_splits, .inl (cI, 720, .inl t_splits))] sz)) 0 0 (va_A [(a_t, .inr (6, [.ref a_t_facts, .ref a_t_splits, .ref a_t_torn, .ref a_t_dropped, .ref a_t_waved, .ref a_t_struck, .ref a_t_strikingOrder, .int t_entered, .int t_strikings])), (a_t_splits, .inl (cI, 720, .inl t_splits))] sz) := by
  refine Met.ofW (cc := cX6_enterSplit) (maxL := 5) (ret := (some .boolean)) (by decide) rfl ?_
  intro p e s m args below meth c s₁ B hml hv
  obtain ⟨rfl, hsz, hP, hK, hN, hZ, hD0⟩ := hv
  have hx := B.exec
  have hb := B.bytes
  have hr := B.returns
  have hts := atoms_spec (ws := wsX6_enterSplit) B.pre
  have hown : s.vm.findClass RX6 = some m.cls := findClass_of_methodNamed B.named
  have hlocks := B.notSynchronized
  subst hsz
  have hD := hD0.self (sz := s.heap.size)
  generalize hAe : va_A [(a_t, .inr (6, [.ref a_t_facts, .ref a_t_splits, .ref a_t_torn, .ref a_t_dropped, .ref a_t_waved, .ref a_t_struck, .ref a_t_strikingOrder, .int t_entered, .int t_strikings])), (a_t_splits, .inl (cI, 720, .inl t_splits))] s.heap.size = A at hD hZ ⊢
  have hA : ∀ q : Nat, s.heap.size ≤ q → A q := fun q h => by rw [← hAe]; exact Or.inr h
  have hS : va_S A s.heap s.heap [] := va_S.rf
  have hl := lv_entry ([.ref a_t, .int x1, .int x2, .int x3]) (n := 5) (Nat.le_of_ble_eq_true rfl)
  rw [lg_entry_eq]
  generalize (lg_sl ([.ref a_t, .int x1, .int x2, .int x3]) ++ List.replicate (5 - (lg_sl ([.ref a_t, .int x1, .int x2, .int x3])).length) Slot.unset).toArray = ls at hl ⊢
  have hl : lv_has ls 5 [(0, .ref a_t), (1, .int x1), (2, .int x2), (3, .int x3)] := hl
  unfold fX6_enterSplit at h
  refine lv_aload_n hx hb dX6_enterSplit_0 rfl (lv_at hl 0 rfl) ?_
  refine lv_iload_n hx hb dX6_enterSplit_1 rfl (lv_at hl 1 rfl) ?_
  obtain ⟨b1, e2, h⟩ := zz_b h
  refine zVi (As := [.int x1]) (rest := []) (C := RX6) (wr := [(a_t_splits, .inl (cI, 720, .inl t_splits))]) [0] [1] 0 ⟨hx, hb, hml, hown, hts⟩ (mX6_has l D cB cI cZ a_t a_t_facts a_t_splits a_t_torn a_t_dropped a_t_waved a_t_struck a_t_strikingOrder t_entered t_strikings s.heap.size x1 b1 e2) (cwV 1 hts gX6_enterSplit_X6_has rfl rfl rfl (by decide +kernel) ⟨Nat.le_of_ble_eq_true rfl, Nat.le_of_ble_eq_true rfl⟩) hK hN hZ hP hD hS hA rfl rfl rfl rfl rfl rfl rfl rfl hl.1 rfl (lv_room (Nat.le_of_ble_eq_true rfl)) dX6_enterSplit_2 ⟨Nat.le_of_ble_eq_true rfl, Nat.le_of_ble_eq_true rfl⟩ (fun H locs hP hD hS => ?_)
  have hP : va_P D vwCl [(a_t_splits, .inl (cI, 720, .inl t_splits)), (a_t, .inr (6, [.ref a_t_facts, .ref a_t_splits, .ref a_t_torn, .ref a_t_dropped, .ref a_t_waved, .ref a_t_struck, .ref a_t_strikingOrder, .int t_entered, .int t_strikings]))] H := hP
  have hD : va_D A [(a_t_splits, .inl (cI, 720, .inl t_splits)), (a_t, .inr (6, [.ref a_t_facts, .ref a_t_splits, .ref a_t_torn, .ref a_t_dropped, .ref a_t_waved, .ref a_t_struck, .ref a_t_strikingOrder, .int t_entered, .int t_strikings]))] := hD
  refine lv_if_eq (tgt := 18) hx hb dX6_enterSplit_5 (by decide) (fun c3 => ?_) (fun c3 => ?_)
  · have h := zz_t h c3
    refine lv_iconst (v := (nI 0)) hx hb dX6_enterSplit_18 rfl ?_
    obtain ⟨j0_, g_⟩ := Prod.mk.inj (Option.some.inj h)
    have j1_ := g_
    subst j0_
    subst j1_
    exact W.zret (v := (nI 0)) hx hb hr rfl (fun t ht hW => ⟨⟨_, (), rfl, rfl, zPost.of hP hD hK ht hW [1, 0] rfl rfl rfl⟩, hS.F ht⟩) hS.2.2 dX6_enterSplit_19
  · have h := zz_f h c3
    refine lv_iload_n hx hb dX6_enterSplit_8 rfl (lv_at hl 2 rfl) ?_
    refine lv_if_lt (tgt := 18) hx hb dX6_enterSplit_9 (by decide) (fun c4 => ?_) (fun c4 => ?_)
    · have h := zz_t h c4
      refine lv_iconst (v := (nI 0)) hx hb dX6_enterSplit_18 rfl ?_
      obtain ⟨j0_, g_⟩ := Prod.mk.inj (Option.some.inj h)
      have j1_ := g_
      subst j0_
      subst j1_
      exact W.zret (v := (nI 0)) hx hb hr rfl (fun t ht hW => ⟨⟨_, (), rfl, rfl, zPost.of hP hD hK ht hW [1, 0] rfl rfl rfl⟩, hS.F ht⟩) hS.2.2 dX6_enterSplit_19
    · have h := zz_f h c4
      refine lv_iload_n hx hb dX6_enterSplit_12 rfl (lv_at hl 2 rfl) ?_
      refine lv_bipush (v := (nI 12)) hx hb dX6_enterSplit_13 rfl ?_
      refine lv_icmp_lt (tgt := 20) hx hb dX6_enterSplit_15 (by decide) (fun c5 => ?_) (fun c5 => ?_)
      · have h := zz_t h c5
        refine lv_aload_n hx hb dX6_enterSplit_20 rfl (lv_at hl 0 rfl) ?_
        refine va_get (D := D) (ci := 6) (C := RX6) (T := TX6) (N := 9) hx hb hts qX6_enterSplit_X6 hown hK hP 1 rfl rfl 1 (by decide) (hts _ kX6_enterSplit_0) (fun _ h9 => h9) rfl dX6_enterSplit_21 ?_
        refine lv_iload_n hx hb dX6_enterSplit_24 rfl (lv_at hl 1 rfl) ?_
        refine lv_bipush (v := (nI 12)) hx hb dX6_enterSplit_25 rfl ?_
        refine lv_imul hx hb dX6_enterSplit_27 ?_
        refine lv_iload_n hx hb dX6_enterSplit_28 rfl (lv_at hl 2 rfl) ?_
        refine lv_iadd hx hb dX6_enterSplit_29 ?_
        obtain ⟨i6, h⟩ := zz_i h
        refine va_iald hx hb hK hP 0 1 rfl rfl i6 dX6_enterSplit_30 ?_
        refine lv_istore (lv' := [(4, .int (t_splits (((x1 * (nI 12)) + x2)).toNatClampNeg)), (0, .ref a_t), (1, .int x1), (2, .int x2), (3, .int x3)]) hx hb dX6_enterSplit_31 hl (by decide) rfl (fun ls hl => ?_)
        refine lv_iload hx hb dX6_enterSplit_33 (lv_at hl 0 rfl) ?_
        refine lv_iconst (v := (-1 : Int32)) hx hb dX6_enterSplit_35 rfl ?_
        refine lv_icmp_eq (tgt := 47) hx hb dX6_enterSplit_36 (by decide) (fun c7 => ?_) (fun c7 => ?_)
        · have h := zz_t h c7
          refine lv_aload_n hx hb dX6_enterSplit_47 rfl (lv_at hl 1 rfl) ?_
          refine va_get (D := D) (ci := 6) (C := RX6) (T := TX6) (N := 9) hx hb hts qX6_enterSplit_X6 hown hK hP 1 rfl rfl 1 (by decide) (hts _ kX6_enterSplit_0) (fun _ h9 => h9) rfl dX6_enterSplit_48 ?_
          refine lv_iload_n hx hb dX6_enterSplit_51 rfl (lv_at hl 2 rfl) ?_
          refine lv_bipush (v := (nI 12)) hx hb dX6_enterSplit_52 rfl ?_
          refine lv_imul hx hb dX6_enterSplit_54 ?_
          refine lv_iload_n hx hb dX6_enterSplit_55 rfl (lv_at hl 3 rfl) ?_
          refine lv_iadd hx hb dX6_enterSplit_56 ?_
          refine lv_iload_n hx hb dX6_enterSplit_57 rfl (lv_at hl 4 rfl) ?_
          obtain ⟨i8, h⟩ := zz_i h
          refine va_iast hx hb hK hP hD hS 0 1 rfl rfl i8 dX6_enterSplit_58 (fun H locs hP hD hS => ?_)
          have hP : va_P D vwCl [(a_t_splits, .inl (cI, 720, .inl (upd t_splits (((x1 * (nI 12)) + x2)).toNatClampNeg x3))), (a_t, .inr (6, [.ref a_t_facts, .ref a_t_splits, .ref a_t_torn, .ref a_t_dropped, .ref a_t_waved, .ref a_t_struck, .ref a_t_strikingOrder, .int t_entered, .int t_strikings]))] H := hP
          have hD : va_D A [(a_t_splits, .inl (cI, 720, .inl (upd t_splits (((x1 * (nI 12)) + x2)).toNatClampNeg x3))), (a_t, .inr (6, [.ref a_t_facts, .ref a_t_splits, .ref a_t_torn, .ref a_t_dropped, .ref a_t_waved, .ref a_t_struck, .ref a_t_strikingOrder, .int t_entered, .int t_strikings]))] := hD
          refine lv_iconst (v := (nI 1)) hx hb dX6_enterSplit_59 rfl ?_
          obtain ⟨j0_, g_⟩ := Prod.mk.inj (Option.some.inj h)
          have j1_ := g_
          subst j0_
          subst j1_
          exact W.zret (v := (nI 1)) hx hb hr rfl (fun t ht hW => ⟨⟨_, (), rfl, rfl, zPost.of hP hD hK ht hW [1, 0] rfl rfl rfl⟩, hS.F ht⟩) hS.2.2 dX6_enterSplit_60
        · have h := zz_f h c7
          refine lv_iload hx hb dX6_enterSplit_39 (lv_at hl 0 rfl) ?_
          refine lv_iload_n hx hb dX6_enterSplit_41 rfl (lv_at hl 4 rfl) ?_
          refine lv_icmp_gt (tgt := 47) hx hb dX6_enterSplit_42 (by decide) (fun c9 => ?_) (fun c9 => ?_)
          · have h := zz_t h c9
            refine lv_aload_n hx hb dX6_enterSplit_47 rfl (lv_at hl 1 rfl) ?_
            refine va_get (D := D) (ci := 6) (C := RX6) (T := TX6) (N := 9) hx hb hts qX6_enterSplit_X6 hown hK hP 1 rfl rfl 1 (by decide) (hts _ kX6_enterSplit_0) (fun _ h9 => h9) rfl dX6_enterSplit_48 ?_
            refine lv_iload_n hx hb dX6_enterSplit_51 rfl (lv_at hl 2 rfl) ?_
            refine lv_bipush (v := (nI 12)) hx hb dX6_enterSplit_52 rfl ?_
            refine lv_imul hx hb dX6_enterSplit_54 ?_
            refine lv_iload_n hx hb dX6_enterSplit_55 rfl (lv_at hl 3 rfl) ?_
            refine lv_iadd hx hb dX6_enterSplit_56 ?_
            refine lv_iload_n hx hb dX6_enterSplit_57 rfl (lv_at hl 4 rfl) ?_
            obtain ⟨i10, h⟩ := zz_i h
            refine va_iast hx hb hK hP hD hS 0 1 rfl rfl i10 dX6_enterSplit_58 (fun H locs hP hD hS => ?_)
            have hP : va_P D vwCl [(a_t_splits, .inl (cI, 720, .inl (upd t_splits (((x1 * (nI 12)) + x2)).toNatClampNeg x3))), (a_t, .inr (6, [.ref a_t_facts, .ref a_t_splits, .ref a_t_torn, .ref a_t_dropped, .ref a_t_waved, .ref a_t_struck, .ref a_t_strikingOrder, .int t_entered, .int t_strikings]))] H := hP
            have hD : va_D A [(a_t_splits, .inl (cI, 720, .inl (upd t_splits (((x1 * (nI 12)) + x2)).toNatClampNeg x3))), (a_t, .inr (6, [.ref a_t_facts, .ref a_t_splits, .ref a_t_torn, .ref a_t_dropped, .ref a_t_waved, .ref a_t_struck, .ref a_t_strikingOrder, .int t_entered, .int t_strikings]))] := hD
            refine lv_iconst (v := (nI 1)) hx hb dX6_enterSplit_59 rfl ?_
            obtain ⟨j0_, g_⟩ := Prod.mk.inj (Option.some.inj h)
            have j1_ := g_
            subst j0_
            subst j1_
            exact W.zret (v := (nI 1)) hx hb hr rfl (fun t ht hW => ⟨⟨_, (), rfl, rfl, zPost.of hP hD hK ht hW [1, 0] rfl rfl rfl⟩, hS.F ht⟩) hS.2.2 dX6_enterSplit_60
          · have h := zz_f h c9
            refine lv_iconst (v := (nI 0)) hx hb dX6_enterSplit_45 rfl ?_
            obtain ⟨j0_, g_⟩ := Prod.mk.inj (Option.some.inj h)
            have j1_ := g_
            subst j0_
            subst j1_
            exact W.zret (v := (nI 0)) hx hb hr rfl (fun t ht hW => ⟨⟨_, (), rfl, rfl, zPost.of hP hD hK ht hW [1, 0] rfl rfl rfl⟩, hS.F ht⟩) hS.2.2 dX6_enterSplit_46
      · have h := zz_f h c5
        refine lv_iconst (v := (nI 0)) hx hb dX6_enterSplit_18 rfl ?_
        obtain ⟨j0_, g_⟩ := Prod.mk.inj (Option.some.inj h)
        have j1_ := g_
        subst j0_
        subst j1_
        exact W.zret (v := (nI 0)) hx hb hr rfl (fun t ht hW => ⟨⟨_, (), rfl, rfl, zPost.of hP hD hK ht hW [1, 0] rfl rfl rfl⟩, hS.F ht⟩) hS.2.2 dX6_enterSplit_19
/-! RunDesk$Runners.isTorn -/
theorem dX6_isTorn_0 : decode cX6_isTorn 0 = .ok (.aload_n 0, 1) := by decide +kernel
theorem dX6_isTorn_1 : decode cX6_isTorn 1 = .ok (.iload_n 1, 1) := by decide +kernel
theorem dX6_isTorn_2 : decode cX6_isTorn 2 = .ok (.invokevirtual 45, 3) := by decide +kernel
theorem dX6_isTorn_5 : decode cX6_isTorn 5 = .ok (.istore_n 3, 1) := by decide +kernel
theorem dX6_isTorn_6 : decode cX6_isTorn 6 = .ok (.iload_n 3, 1) := by decide +kernel
theorem dX6_isTorn_7 : decode cX6_isTorn 7 = .ok (.iconst (-1), 1) := by decide +kernel
theorem dX6_isTorn_8 : decode cX6_isTorn 8 = .ok (.if_icmp .eq 12, 3) := by decide +kernel
theorem dX6_isTorn_11 : decode cX6_isTorn 11 = .ok (.iload_n 2, 1) := by decide +kernel
theorem dX6_isTorn_12 : decode cX6_isTorn 12 = .ok (.iload_n 3, 1) := by decide +kernel
theorem dX6_isTorn_13 : decode cX6_isTorn 13 = .ok (.if_icmp .lt 7, 3) := by decide +kernel
theorem dX6_isTorn_16 : decode cX6_isTorn 16 = .ok (.iconst 1, 1) := by decide +kernel
theorem dX6_isTorn_17 : decode cX6_isTorn 17 = .ok (.goto 4, 3) := by decide +kernel
theorem dX6_isTorn_20 : decode cX6_isTorn 20 = .ok (.iconst 0, 1) := by decide +kernel
theorem dX6_isTorn_21 : decode cX6_isTorn 21 = .ok (.ireturn, 1) := by decide +kernel
set_option maxRecDepth 20000 in
theorem ggX6_isTorn_X6_tornFrom : GoodIn wsX6_isTorn wsX6_tornFrom := goodIn_r _ [5, 6, 7, 8, 9, 4, 10, 11, 12, 13, 14, 15, 16, 17, 18, 19, 20] (by decide +kernel) (by decide +kernel)
set_option maxRecDepth 20000 in
theorem gX6_isTorn_X6_tornFrom : GoodIn wsX6_isTorn (wsV RX6 45 RX6 yX6_tornFrom wsX6_tornFrom) := goodIn_app (goodIn_of _ (by decide +kernel)) ggX6_isTorn_X6_tornFrom
set_option maxHeartbeats 4000000 in
set_option maxRecDepth 100000 in
theorem mX6_isTorn (l : Launch) (D : va_G) (cB cI cZ : ClassId) (a_t : Nat) (a_t_facts : Nat) (a_t_splits : Nat) (a_t_torn : Nat) (a_t_dropped : Nat) (a_t_waved : Nat) (a_t_struck : Nat) (a_t_strikingOrder : Nat) (t_entered : Int32) (t_strikings : Int32) (t_torn : Nat → Int32) (sz : Nat) (x1 : Int32) (x2 : Int32) (b0 : Bool) (h : fX6_isTorn t_entered t_torn x1 x2 = some (b0)) : Met l yX6_isTorn wsX6_isTorn ({ frames := 2, cells := 0, slots := 0, locals := 42 } : Room) (va_Pc [.ref a_t, .int x1, .int x2] (zPre D (zT cB cI cZ) [(a_t, .inr (6, [.ref a_t_facts, .ref a_t_splits, .ref a_t_torn, .ref a_t_dropped, .ref a_t_waved, .ref a_t_struck, .ref a_t_strikingOrder, .int t_entered, .int t_strikings])), (a_t_torn, .inl (cI, 60, .inl t_torn))] sz)) (zQi (zb b0) D (zT cB cI cZ) [(a_t, .inr (6, [.ref a_t_facts, .ref a_t_splits, .ref a_t_torn, .ref a_t_dropped, .ref a_t_waved, .ref a_t_struck, .ref a_t_strikingOrder, .int t_entered, .int t_strikings])), (a_t_torn, .inl (cI, 60, .inl t_torn))] (va_A [(a_t, .inr (6, [.ref a_t_facts, .ref a_t_splits, .ref a_t_torn, .ref a_t_dropped, .ref a_t_waved, .ref a_t_struck, .ref a_t_strikingOrder, .int t_entered, .int t_strikings])), (a_t_torn, .inl (cI, 60, .inl t_torn))] sz)) 0 0 (va_A [(a_t, .inr (6, [.ref a_t_facts, .ref a_t_splits, .ref a_t_torn, .ref a_t_dropped, .ref a_t_waved, .ref a_t_struck, .ref a_t_strikingOrder, .int t_entered, .int t_strikings])), (a_t_torn, .inl (cI, 60, .inl t_torn))] sz) := by
  refine Met.ofW (cc := cX6_isTorn) (maxL := 4) (ret := (some .boolean)) (by decide) rfl ?_
  intro p e s m args below meth c s₁ B hml hv
  obtain ⟨rfl, hsz, hP, hK, hN, hZ, hD0⟩ := hv
  have hx := B.exec
  have hb := B.bytes
  have hr := B.returns
  have hts := atoms_spec (ws := wsX6_isTorn) B.pre
  have hown : s.vm.findClass RX6 = some m.cls := findClass_of_methodNamed B.named
  have hlocks := B.notSynchronized
  subst hsz
  have hD := hD0.self (sz := s.heap.size)
  generalize hAe : va_A [(a_t, .inr (6, [.ref a_t_facts, .ref a_t_splits, .ref a_t_torn, .ref a_t_dropped, .ref a_t_waved, .ref a_t_struck, .ref a_t_strikingOrder, .int t_entered, .int t_strikings])), (a_t_torn, .inl (cI, 60, .inl t_torn))] s.heap.size = A at hD hZ ⊢
  have hA : ∀ q : Nat, s.heap.size ≤ q → A q := fun q h => by rw [← hAe]; exact Or.inr h
  have hS : va_S A s.heap s.heap [] := va_S.rf
  have hl := lv_entry ([.ref a_t, .int x1, .int x2]) (n := 4) (Nat.le_of_ble_eq_true rfl)
  rw [lg_entry_eq]
  generalize (lg_sl ([.ref a_t, .int x1, .int x2]) ++ List.replicate (4 - (lg_sl ([.ref a_t, .int x1, .int x2])).length) Slot.unset).toArray = ls at hl ⊢
  have hl : lv_has ls 4 [(0, .ref a_t), (1, .int x1), (2, .int x2)] := hl
  unfold fX6_isTorn at h
  refine lv_aload_n hx hb dX6_isTorn_0 rfl (lv_at hl 0 rfl) ?_
  refine lv_iload_n hx hb dX6_isTorn_1 rfl (lv_at hl 1 rfl) ?_
  obtain ⟨r1, e2, h⟩ := zz_b h
  refine zVi (As := [.int x1]) (rest := []) (C := RX6) (wr := []) [0, 1] [] 0 ⟨hx, hb, hml, hown, hts⟩ (mX6_tornFrom l D cB cI cZ a_t a_t_facts a_t_splits a_t_torn a_t_dropped a_t_waved a_t_struck a_t_strikingOrder t_entered t_strikings t_torn s.heap.size x1 r1 e2) (cwV 1 hts gX6_isTorn_X6_tornFrom rfl rfl rfl (by decide +kernel) ⟨Nat.le_of_ble_eq_true rfl, Nat.le_of_ble_eq_true rfl⟩) hK hN hZ hP hD hS hA rfl rfl rfl rfl rfl rfl rfl rfl hl.1 rfl (lv_room (Nat.le_of_ble_eq_true rfl)) dX6_isTorn_2 ⟨Nat.le_of_ble_eq_true rfl, Nat.le_of_ble_eq_true rfl⟩ (fun H locs hP hD hS => ?_)
  have hP : va_P D vwCl [(a_t, .inr (6, [.ref a_t_facts, .ref a_t_splits, .ref a_t_torn, .ref a_t_dropped, .ref a_t_waved, .ref a_t_struck, .ref a_t_strikingOrder, .int t_entered, .int t_strikings])), (a_t_torn, .inl (cI, 60, .inl t_torn))] H := hP
  have hD : va_D A [(a_t, .inr (6, [.ref a_t_facts, .ref a_t_splits, .ref a_t_torn, .ref a_t_dropped, .ref a_t_waved, .ref a_t_struck, .ref a_t_strikingOrder, .int t_entered, .int t_strikings])), (a_t_torn, .inl (cI, 60, .inl t_torn))] := hD
  refine lv_istore_n (lv' := [(3, .int r1), (0, .ref a_t), (1, .int x1), (2, .int x2)]) hx hb dX6_isTorn_5 rfl hl (by decide) rfl (fun ls hl => ?_)
  refine lv_iload_n hx hb dX6_isTorn_6 rfl (lv_at hl 0 rfl) ?_
  refine lv_iconst (v := (-1 : Int32)) hx hb dX6_isTorn_7 rfl ?_
  refine lv_icmp_eq (tgt := 20) hx hb dX6_isTorn_8 (by decide) (fun c3 => ?_) (fun c3 => ?_)
  · have h := zz_t h c3
    refine lv_iconst (v := (nI 0)) hx hb dX6_isTorn_20 rfl ?_
    have j0_ := Option.some.inj h
    subst j0_
    exact W.zret (v := (nI 0)) hx hb hr rfl (fun t ht hW => ⟨⟨_, (), rfl, rfl, zPost.of hP hD hK ht hW [0, 1] rfl rfl rfl⟩, hS.F ht⟩) hS.2.2 dX6_isTorn_21
  · have h := zz_f h c3
    refine lv_iload_n hx hb dX6_isTorn_11 rfl (lv_at hl 3 rfl) ?_
    refine lv_iload_n hx hb dX6_isTorn_12 rfl (lv_at hl 0 rfl) ?_
    refine lv_icmp_lt (tgt := 20) hx hb dX6_isTorn_13 (by decide) (fun c4 => ?_) (fun c4 => ?_)
    · have h := zz_t h c4
      refine lv_iconst (v := (nI 0)) hx hb dX6_isTorn_20 rfl ?_
      have j0_ := Option.some.inj h
      subst j0_
      exact W.zret (v := (nI 0)) hx hb hr rfl (fun t ht hW => ⟨⟨_, (), rfl, rfl, zPost.of hP hD hK ht hW [0, 1] rfl rfl rfl⟩, hS.F ht⟩) hS.2.2 dX6_isTorn_21
    · have h := zz_f h c4
      refine lv_iconst (v := (nI 1)) hx hb dX6_isTorn_16 rfl ?_
      refine lv_goto (tgt := 21) hx hb dX6_isTorn_17 (by decide) ?_
      have j0_ := Option.some.inj h
      subst j0_
      exact W.zret (v := (nI 1)) hx hb hr rfl (fun t ht hW => ⟨⟨_, (), rfl, rfl, zPost.of hP hD hK ht hW [0, 1] rfl rfl rfl⟩, hS.F ht⟩) hS.2.2 dX6_isTorn_21
/-! RunDesk$Runners.tearFrom -/
theorem dX6_tearFrom_0 : decode cX6_tearFrom 0 = .ok (.aload_n 0, 1) := by decide +kernel
theorem dX6_tearFrom_1 : decode cX6_tearFrom 1 = .ok (.iload_n 1, 1) := by decide +kernel
theorem dX6_tearFrom_2 : decode cX6_tearFrom 2 = .ok (.invokevirtual 41, 3) := by decide +kernel
theorem dX6_tearFrom_5 : decode cX6_tearFrom 5 = .ok (.ifCond .eq 13, 3) := by decide +kernel
theorem dX6_tearFrom_8 : decode cX6_tearFrom 8 = .ok (.iload_n 2, 1) := by decide +kernel
theorem dX6_tearFrom_9 : decode cX6_tearFrom 9 = .ok (.iconst 0, 1) := by decide +kernel
theorem dX6_tearFrom_10 : decode cX6_tearFrom 10 = .ok (.bipush 11, 2) := by decide +kernel
theorem dX6_tearFrom_12 : decode cX6_tearFrom 12 = .ok (.invokestatic 49, 3) := by decide +kernel
theorem dX6_tearFrom_15 : decode cX6_tearFrom 15 = .ok (.ifCond .ne 5, 3) := by decide +kernel
theorem dX6_tearFrom_18 : decode cX6_tearFrom 18 = .ok (.iconst 0, 1) := by decide +kernel
theorem dX6_tearFrom_19 : decode cX6_tearFrom 19 = .ok (.ireturn, 1) := by decide +kernel
theorem dX6_tearFrom_20 : decode cX6_tearFrom 20 = .ok (.aload_n 0, 1) := by decide +kernel
theorem dX6_tearFrom_21 : decode cX6_tearFrom 21 = .ok (.iload_n 1, 1) := by decide +kernel
theorem dX6_tearFrom_22 : decode cX6_tearFrom 22 = .ok (.iload_n 2, 1) := by decide +kernel
theorem dX6_tearFrom_23 : decode cX6_tearFrom 23 = .ok (.invokevirtual 53, 3) := by decide +kernel
theorem dX6_tearFrom_26 : decode cX6_tearFrom 26 = .ok (.ifCond .ne 10, 3) := by decide +kernel
theorem dX6_tearFrom_29 : decode cX6_tearFrom 29 = .ok (.aload_n 0, 1) := by decide +kernel
theorem dX6_tearFrom_30 : decode cX6_tearFrom 30 = .ok (.getfield 18, 3) := by decide +kernel
theorem dX6_tearFrom_33 : decode cX6_tearFrom 33 = .ok (.iload_n 1, 1) := by decide +kernel
theorem dX6_tearFrom_34 : decode cX6_tearFrom 34 = .ok (.iload_n 2, 1) := by decide +kernel
theorem dX6_tearFrom_35 : decode cX6_tearFrom 35 = .ok (.iastore, 1) := by decide +kernel
theorem dX6_tearFrom_36 : decode cX6_tearFrom 36 = .ok (.iload_n 2, 1) := by decide +kernel
theorem dX6_tearFrom_37 : decode cX6_tearFrom 37 = .ok (.istore_n 3, 1) := by decide +kernel
theorem dX6_tearFrom_38 : decode cX6_tearFrom 38 = .ok (.iload_n 3, 1) := by decide +kernel
theorem dX6_tearFrom_39 : decode cX6_tearFrom 39 = .ok (.bipush 12, 2) := by decide +kernel
theorem dX6_tearFrom_41 : decode cX6_tearFrom 41 = .ok (.if_icmp .ge 21, 3) := by decide +kernel
theorem dX6_tearFrom_44 : decode cX6_tearFrom 44 = .ok (.aload_n 0, 1) := by decide +kernel
theorem dX6_tearFrom_45 : decode cX6_tearFrom 45 = .ok (.getfield 15, 3) := by decide +kernel
theorem dX6_tearFrom_48 : decode cX6_tearFrom 48 = .ok (.iload_n 1, 1) := by decide +kernel
theorem dX6_tearFrom_49 : decode cX6_tearFrom 49 = .ok (.bipush 12, 2) := by decide +kernel
theorem dX6_tearFrom_51 : decode cX6_tearFrom 51 = .ok (.imul, 1) := by decide +kernel
theorem dX6_tearFrom_52 : decode cX6_tearFrom 52 = .ok (.iload_n 3, 1) := by decide +kernel
theorem dX6_tearFrom_53 : decode cX6_tearFrom 53 = .ok (.iadd, 1) := by decide +kernel
theorem dX6_tearFrom_54 : decode cX6_tearFrom 54 = .ok (.iconst (-1), 1) := by decide +kernel
theorem dX6_tearFrom_55 : decode cX6_tearFrom 55 = .ok (.iastore, 1) := by decide +kernel
theorem dX6_tearFrom_56 : decode cX6_tearFrom 56 = .ok (.iinc 3 1, 3) := by decide +kernel
theorem dX6_tearFrom_59 : decode cX6_tearFrom 59 = .ok (.goto (-21), 3) := by decide +kernel
theorem dX6_tearFrom_62 : decode cX6_tearFrom 62 = .ok (.iconst 1, 1) := by decide +kernel
theorem dX6_tearFrom_63 : decode cX6_tearFrom 63 = .ok (.ireturn, 1) := by decide +kernel
set_option maxRecDepth 20000 in
theorem ggX6_tearFrom_X6_has : GoodIn wsX6_tearFrom wsX6_has := goodIn_r _ [7, 8, 20, 21, 22, 23, 24, 25, 26, 27, 28] (by decide +kernel) (by decide +kernel)
set_option maxRecDepth 20000 in
theorem gX6_tearFrom_X6_has : GoodIn wsX6_tearFrom (wsV RX6 41 RX6 yX6_has wsX6_has) := goodIn_app (goodIn_of _ (by decide +kernel)) ggX6_tearFrom_X6_has
set_option maxRecDepth 20000 in
theorem ggX6_tearFrom_X10_within : GoodIn wsX6_tearFrom wsX10_within := goodIn_r _ [11] (by decide +kernel) (by decide +kernel)
set_option maxRecDepth 20000 in
theorem gX6_tearFrom_X10_within_n49 : GoodIn wsX6_tearFrom (wsX10_within) := ggX6_tearFrom_X10_within
set_option maxRecDepth 20000 in
theorem ggX6_tearFrom_X6_isTorn : GoodIn wsX6_tearFrom wsX6_isTorn := goodIn_r _ [15, 16, 17, 18, 6, 19, 1, 3, 4, 5, 7, 8, 20, 21, 22, 23, 24, 25, 26, 27, 28] (by decide +kernel) (by decide +kernel)
set_option maxRecDepth 20000 in
theorem gX6_tearFrom_X6_isTorn : GoodIn wsX6_tearFrom (wsV RX6 53 RX6 yX6_isTorn wsX6_isTorn) := goodIn_app (goodIn_of _ (by decide +kernel)) ggX6_tearFrom_X6_isTorn
theorem kX6_tearFrom_0 : (.initialized RX10 : Cond) ∈ wsX6_tearFrom := List.mem_of_getElem? (i := 10) (by decide +kernel)
theorem kX6_tearFrom_1 : (.static yX10_within : Cond) ∈ wsX6_tearFrom := List.mem_of_getElem? (i := 9) (by decide +kernel)
theorem kX6_tearFrom_2 : (.fieldLink RX6 18 "RunDesk$Runners" "torn" "[I" : Cond) ∈ wsX6_tearFrom := List.mem_of_getElem? (i := 1) (by decide +kernel)
theorem qX6_tearFrom_X6 : ∀ w ∈ wsX60, w ∈ wsX6_tearFrom := fun _ h => List.mem_cons_of_mem _ (List.mem_append_right _ (h))
theorem kX6_tearFrom_4 : (.fieldLink RX6 15 "RunDesk$Runners" "splits" "[I" : Cond) ∈ wsX6_tearFrom := List.mem_of_getElem? (i := 2) (by decide +kernel)
set_option maxHeartbeats 4000000 in
set_option maxRecDepth 100000 in
theorem mX6_tearFrom (l : Launch) (D : va_G) (cB cI cZ : ClassId) (a_t : Nat) (a_t_facts : Nat) (a_t_splits : Nat) (a_t_torn : Nat) (a_t_dropped : Nat) (a_t_waved : Nat) (a_t_struck : Nat) (a_t_strikingOrder : Nat) (t_entered : Int32) (t_strikings : Int32) (t_splits : Nat → Int32) (t_torn : Nat → Int32) (sz : Nat) (x1 : Int32) (x2 : Int32) (N : Nat) (b0 : Bool) (t_splits' : Nat → Int32) (t_torn' : Nat → Int32) (h : fX6_tearFrom N t_entered t_splits t_torn x1 x2 = some (b0, t_splits', t_torn')) : Met l yX6_tearFrom wsX6_tearFrom ({ frames := 3, cells := 0, slots := 0, locals := 65 } : Room) (va_Pc [.ref a_t, .int x1, .int x2] (zPre D (zT cB cI cZ) [(a_t, .inr (6, [.ref a_t_facts, .ref a_t_splits, .ref a_t_torn, .ref a_t_dropped, .ref a_t_waved, .ref a_t_struck, .ref a_t_strikingOrder, .int t_entered, .int t_strikings])), (a_t_splits, .inl (cI, 720, .inl t_splits)), (a_t_torn, .inl (cI, 60, .inl t_torn))] sz)) (zQi (zb b0) D (zT cB cI cZ) [(a_t, .inr (6, [.ref a_t_facts, .ref a_t_splits, .ref a_t_torn, .ref a_t_dropped, .ref a_t_waved, .ref a_t_struck, .ref a_t_strikingOrder, .int t_entered, .int t_strikings])), (a_t_splits, .inl (cI, 720, .inl t_splits')), (a_t_torn, .inl (cI, 60, .inl t_torn'))] (va_A [(a_t, .inr (6, [.ref a_t_facts, .ref a_t_splits, .ref a_t_torn, .ref a_t_dropped, .ref a_t_waved, .ref a_t_struck, .ref a_t_strikingOrder, .int t_entered, .int t_strikings])), (a_t_splits, .inl (cI, 720, .inl t_splits)), (a_t_torn, .inl (cI, 60, .inl t_torn))] sz)) 0 0 (va_A [(a_t, .inr (6, [.ref a_t_facts, .ref a_t_splits, .ref a_t_torn, .ref a_t_dropped, .ref a_t_waved, .ref a_t_struck, .ref a_t_strikingOrder, .int t_entered, .int t_strikings])), (a_t_splits, .inl (cI, 720, .inl t_splits)), (a_t_torn, .inl (cI, 60, .inl t_torn))] sz) := by
  refine Met.ofW (cc := cX6_tearFrom) (maxL := 4) (ret := (some .boolean)) (by decide) rfl ?_
  intro p e s m args below meth c s₁ B hml hv
  obtain ⟨rfl, hsz, hP, hK, hN, hZ, hD0⟩ := hv
  have hx := B.exec
  have hb := B.bytes
  have hr := B.returns
  have hts := atoms_spec (ws := wsX6_tearFrom) B.pre
  have hown : s.vm.findClass RX6 = some m.cls := findClass_of_methodNamed B.named
  have hlocks := B.notSynchronized
  subst hsz
  have hD := hD0.self (sz := s.heap.size)
  generalize hAe : va_A [(a_t, .inr (6, [.ref a_t_facts, .ref a_t_splits, .ref a_t_torn, .ref a_t_dropped, .ref a_t_waved, .ref a_t_struck, .ref a_t_strikingOrder, .int t_entered, .int t_strikings])), (a_t_splits, .inl (cI, 720, .inl t_splits)), (a_t_torn, .inl (cI, 60, .inl t_torn))] s.heap.size = A at hD hZ ⊢
  have hA : ∀ q : Nat, s.heap.size ≤ q → A q := fun q h => by rw [← hAe]; exact Or.inr h
  have hS : va_S A s.heap s.heap [] := va_S.rf
  have hl := lv_entry ([.ref a_t, .int x1, .int x2]) (n := 4) (Nat.le_of_ble_eq_true rfl)
  rw [lg_entry_eq]
  generalize (lg_sl ([.ref a_t, .int x1, .int x2]) ++ List.replicate (4 - (lg_sl ([.ref a_t, .int x1, .int x2])).length) Slot.unset).toArray = ls at hl ⊢
  have hl : lv_has ls 4 [(0, .ref a_t), (1, .int x1), (2, .int x2)] := hl
  unfold fX6_tearFrom at h
  refine lv_aload_n hx hb dX6_tearFrom_0 rfl (lv_at hl 0 rfl) ?_
  refine lv_iload_n hx hb dX6_tearFrom_1 rfl (lv_at hl 1 rfl) ?_
  obtain ⟨b1, e2, h⟩ := zz_b h
  refine zVi (As := [.int x1]) (rest := []) (C := RX6) (wr := [(a_t_splits, .inl (cI, 720, .inl t_splits)), (a_t_torn, .inl (cI, 60, .inl t_torn))]) [0] [1, 2] 0 ⟨hx, hb, hml, hown, hts⟩ (mX6_has l D cB cI cZ a_t a_t_facts a_t_splits a_t_torn a_t_dropped a_t_waved a_t_struck a_t_strikingOrder t_entered t_strikings s.heap.size x1 b1 e2) (cwV 1 hts gX6_tearFrom_X6_has rfl rfl rfl (by decide +kernel) ⟨Nat.le_of_ble_eq_true rfl, Nat.le_of_ble_eq_true rfl⟩) hK hN hZ hP hD hS hA rfl rfl rfl rfl rfl rfl rfl rfl hl.1 rfl (lv_room (Nat.le_of_ble_eq_true rfl)) dX6_tearFrom_2 ⟨Nat.le_of_ble_eq_true rfl, Nat.le_of_ble_eq_true rfl⟩ (fun H locs hP hD hS => ?_)
  have hP : va_P D vwCl [(a_t_splits, .inl (cI, 720, .inl t_splits)), (a_t_torn, .inl (cI, 60, .inl t_torn)), (a_t, .inr (6, [.ref a_t_facts, .ref a_t_splits, .ref a_t_torn, .ref a_t_dropped, .ref a_t_waved, .ref a_t_struck, .ref a_t_strikingOrder, .int t_entered, .int t_strikings]))] H := hP
  have hD : va_D A [(a_t_splits, .inl (cI, 720, .inl t_splits)), (a_t_torn, .inl (cI, 60, .inl t_torn)), (a_t, .inr (6, [.ref a_t_facts, .ref a_t_splits, .ref a_t_torn, .ref a_t_dropped, .ref a_t_waved, .ref a_t_struck, .ref a_t_strikingOrder, .int t_entered, .int t_strikings]))] := hD
  refine lv_if_eq (tgt := 18) hx hb dX6_tearFrom_5 (by decide) (fun c3 => ?_) (fun c3 => ?_)
  · have h := zz_t h c3
    refine lv_iconst (v := (nI 0)) hx hb dX6_tearFrom_18 rfl ?_
    obtain ⟨j0_, g_⟩ := Prod.mk.inj (Option.some.inj h)
    obtain ⟨j1_, g_⟩ := Prod.mk.inj g_
    have j2_ := g_
    subst j0_
    subst j1_
    subst j2_
    exact W.zret (v := (nI 0)) hx hb hr rfl (fun t ht hW => ⟨⟨_, (), rfl, rfl, zPost.of hP hD hK ht hW [2, 0, 1] rfl rfl rfl⟩, hS.F ht⟩) hS.2.2 dX6_tearFrom_19
  · have h := zz_f h c3
    refine lv_iload_n hx hb dX6_tearFrom_8 rfl (lv_at hl 2 rfl) ?_
    refine lv_iconst (v := (nI 0)) hx hb dX6_tearFrom_9 rfl ?_
    refine lv_bipush (v := (nI 11)) hx hb dX6_tearFrom_10 rfl ?_
    obtain ⟨b4, e5, h⟩ := zz_b h
    refine zNi (As := [.int x2, .int (nI 0), .int (nI 11)]) (rest := []) (host := "RunDesk") (wr := [(a_t_splits, .inl (cI, 720, .inl t_splits)), (a_t_torn, .inl (cI, 60, .inl t_torn)), (a_t, .inr (6, [.ref a_t_facts, .ref a_t_splits, .ref a_t_torn, .ref a_t_dropped, .ref a_t_waved, .ref a_t_struck, .ref a_t_strikingOrder, .int t_entered, .int t_strikings]))]) [] [0, 1, 2] ⟨hx, hb, hml, hown, hts⟩ (mX10_within l D cB cI cZ H.size x2 (nI 0) (nI 11) b4 e5) ⟨va_cnB 3 hts gX6_tearFrom_X10_within_n49 rfl rfl rfl (hN _ (List.mem_of_getElem? (i := 24) rfl)) (hts _ kX6_tearFrom_0) (by decide +kernel) ⟨Nat.le_of_ble_eq_true rfl, Nat.le_of_ble_eq_true rfl⟩, (hts _ kX6_tearFrom_1), trivial⟩ hK hN hZ hP hD hS hA rfl rfl rfl rfl rfl rfl hl.1 rfl (lv_room (Nat.le_of_ble_eq_true rfl)) dX6_tearFrom_12 ⟨Nat.le_of_ble_eq_true rfl, Nat.le_of_ble_eq_true rfl⟩ (fun H locs hP hD hS => ?_)
    have hP : va_P D vwCl [(a_t_splits, .inl (cI, 720, .inl t_splits)), (a_t_torn, .inl (cI, 60, .inl t_torn)), (a_t, .inr (6, [.ref a_t_facts, .ref a_t_splits, .ref a_t_torn, .ref a_t_dropped, .ref a_t_waved, .ref a_t_struck, .ref a_t_strikingOrder, .int t_entered, .int t_strikings]))] H := hP
    have hD : va_D A [(a_t_splits, .inl (cI, 720, .inl t_splits)), (a_t_torn, .inl (cI, 60, .inl t_torn)), (a_t, .inr (6, [.ref a_t_facts, .ref a_t_splits, .ref a_t_torn, .ref a_t_dropped, .ref a_t_waved, .ref a_t_struck, .ref a_t_strikingOrder, .int t_entered, .int t_strikings]))] := hD
    refine lv_if_ne (tgt := 20) hx hb dX6_tearFrom_15 (by decide) (fun c6 => ?_) (fun c6 => ?_)
    · have h := zz_f h c6
      refine lv_aload_n hx hb dX6_tearFrom_20 rfl (lv_at hl 0 rfl) ?_
      refine lv_iload_n hx hb dX6_tearFrom_21 rfl (lv_at hl 1 rfl) ?_
      refine lv_iload_n hx hb dX6_tearFrom_22 rfl (lv_at hl 2 rfl) ?_
      obtain ⟨b7, e8, h⟩ := zz_b h
      refine zVi (As := [.int x1, .int x2]) (rest := []) (C := RX6) (wr := [(a_t_splits, .inl (cI, 720, .inl t_splits))]) [2, 1] [0] 0 ⟨hx, hb, hml, hown, hts⟩ (mX6_isTorn l D cB cI cZ a_t a_t_facts a_t_splits a_t_torn a_t_dropped a_t_waved a_t_struck a_t_strikingOrder t_entered t_strikings t_torn H.size x1 x2 b7 e8) (cwV 2 hts gX6_tearFrom_X6_isTorn rfl rfl rfl (by decide +kernel) ⟨Nat.le_of_ble_eq_true rfl, Nat.le_of_ble_eq_true rfl⟩) hK hN hZ hP hD hS hA rfl rfl rfl rfl rfl rfl rfl rfl hl.1 rfl (lv_room (Nat.le_of_ble_eq_true rfl)) dX6_tearFrom_23 ⟨Nat.le_of_ble_eq_true rfl, Nat.le_of_ble_eq_true rfl⟩ (fun H locs hP hD hS => ?_)
      have hP : va_P D vwCl [(a_t_splits, .inl (cI, 720, .inl t_splits)), (a_t, .inr (6, [.ref a_t_facts, .ref a_t_splits, .ref a_t_torn, .ref a_t_dropped, .ref a_t_waved, .ref a_t_struck, .ref a_t_strikingOrder, .int t_entered, .int t_strikings])), (a_t_torn, .inl (cI, 60, .inl t_torn))] H := hP
      have hD : va_D A [(a_t_splits, .inl (cI, 720, .inl t_splits)), (a_t, .inr (6, [.ref a_t_facts, .ref a_t_splits, .ref a_t_torn, .ref a_t_dropped, .ref a_t_waved, .ref a_t_struck, .ref a_t_strikingOrder, .int t_entered, .int t_strikings])), (a_t_torn, .inl (cI, 60, .inl t_torn))] := hD
      have J36 : ∀ (t_torn_j36 : Nat → Int32) (H : Heap) (locs : List Loc) (ls : Array Slot), fX6_tearFrom_J36 N t_splits x1 x2 t_torn_j36 = some (b0, t_splits', t_torn') → va_P D vwCl [(a_t_splits, .inl (cI, 720, .inl t_splits)), (a_t, .inr (6, [.ref a_t_facts, .ref a_t_splits, .ref a_t_torn, .ref a_t_dropped, .ref a_t_waved, .ref a_t_struck, .ref a_t_strikingOrder, .int t_entered, .int t_strikings])), (a_t_torn, .inl (cI, 60, .inl t_torn_j36))] H → va_D A [(a_t_splits, .inl (cI, 720, .inl t_splits)), (a_t, .inr (6, [.ref a_t_facts, .ref a_t_splits, .ref a_t_torn, .ref a_t_dropped, .ref a_t_waved, .ref a_t_struck, .ref a_t_strikingOrder, .int t_entered, .int t_strikings])), (a_t_torn, .inl (cI, 60, .inl t_torn_j36))] → va_S A s.heap H locs → lv_has ls 4 [(0, .ref a_t), (1, .int x1), (2, .int x2)] → W p l e (headSpec wsX6_tearFrom ({ frames := 3, cells := 0, slots := 0, locals := 65 } : Room)).room s m #[Value.ref a_t, Value.int x1, Value.int x2] below meth c H locs 0 0 (MQ below (zQi (zb b0) D (zT cB cI cZ) [(a_t, .inr (6, [.ref a_t_facts, .ref a_t_splits, .ref a_t_torn, .ref a_t_dropped, .ref a_t_waved, .ref a_t_struck, .ref a_t_strikingOrder, .int t_entered, .int t_strikings])), (a_t_splits, .inl (cI, 720, .inl t_splits')), (a_t_torn, .inl (cI, 60, .inl t_torn'))] A) #[Value.ref a_t, Value.int x1, Value.int x2] s 0 0 A) (F0 m 36 ls []) := by
        intro t_torn_j36 H locs ls h hP hD hS hl
        unfold fX6_tearFrom_J36 at h
        refine lv_iload_n hx hb dX6_tearFrom_36 rfl (lv_at hl 2 rfl) ?_
        refine lv_istore_n (lv' := [(3, .int x2), (0, .ref a_t), (1, .int x1), (2, .int x2)]) hx hb dX6_tearFrom_37 rfl hl (by decide) rfl (fun ls hl => ?_)
        have X38_62 : ∀ (v3_38 : Int32) (t_splits_l38 : Nat → Int32) (H : Heap) (locs : List Loc) (ls : Array Slot), some (true, t_splits_l38, t_torn_j36) = some (b0, t_splits', t_torn') → va_P D vwCl [(a_t_splits, .inl (cI, 720, .inl t_splits_l38)), (a_t, .inr (6, [.ref a_t_facts, .ref a_t_splits, .ref a_t_torn, .ref a_t_dropped, .ref a_t_waved, .ref a_t_struck, .ref a_t_strikingOrder, .int t_entered, .int t_strikings])), (a_t_torn, .inl (cI, 60, .inl t_torn_j36))] H → va_D A [(a_t_splits, .inl (cI, 720, .inl t_splits_l38)), (a_t, .inr (6, [.ref a_t_facts, .ref a_t_splits, .ref a_t_torn, .ref a_t_dropped, .ref a_t_waved, .ref a_t_struck, .ref a_t_strikingOrder, .int t_entered, .int t_strikings])), (a_t_torn, .inl (cI, 60, .inl t_torn_j36))] → va_S A s.heap H locs → lv_has ls 4 [(3, .int v3_38), (0, .ref a_t), (1, .int x1), (2, .int x2)] → W p l e (headSpec wsX6_tearFrom ({ frames := 3, cells := 0, slots := 0, locals := 65 } : Room)).room s m #[Value.ref a_t, Value.int x1, Value.int x2] below meth c H locs 0 0 (MQ below (zQi (zb b0) D (zT cB cI cZ) [(a_t, .inr (6, [.ref a_t_facts, .ref a_t_splits, .ref a_t_torn, .ref a_t_dropped, .ref a_t_waved, .ref a_t_struck, .ref a_t_strikingOrder, .int t_entered, .int t_strikings])), (a_t_splits, .inl (cI, 720, .inl t_splits')), (a_t_torn, .inl (cI, 60, .inl t_torn'))] A) #[Value.ref a_t, Value.int x1, Value.int x2] s 0 0 A) (F0 m 62 ls []) := by
          intro v3_38 t_splits_l38 H locs ls h hP hD hS hl
          refine lv_iconst (v := (nI 1)) hx hb dX6_tearFrom_62 rfl ?_
          obtain ⟨j0_, g_⟩ := Prod.mk.inj (Option.some.inj h)
          obtain ⟨j1_, g_⟩ := Prod.mk.inj g_
          have j2_ := g_
          subst j0_
          subst j1_
          subst j2_
          exact W.zret (v := (nI 1)) hx hb hr rfl (fun t ht hW => ⟨⟨_, (), rfl, rfl, zPost.of hP hD hK ht hW [1, 0, 2] rfl rfl rfl⟩, hS.F ht⟩) hS.2.2 dX6_tearFrom_63
        have L38 : ∀ (n : Nat) (v3_38 : Int32) (t_splits_l38 : Nat → Int32) (H : Heap) (locs : List Loc) (ls : Array Slot), fX6_tearFrom_L38 x1 (fun (v3_38 : Int32) (t_splits_l38 : Nat → Int32) => some (true, t_splits_l38, t_torn_j36)) n v3_38 t_splits_l38 = some (b0, t_splits', t_torn') → va_P D vwCl [(a_t_splits, .inl (cI, 720, .inl t_splits_l38)), (a_t, .inr (6, [.ref a_t_facts, .ref a_t_splits, .ref a_t_torn, .ref a_t_dropped, .ref a_t_waved, .ref a_t_struck, .ref a_t_strikingOrder, .int t_entered, .int t_strikings])), (a_t_torn, .inl (cI, 60, .inl t_torn_j36))] H → va_D A [(a_t_splits, .inl (cI, 720, .inl t_splits_l38)), (a_t, .inr (6, [.ref a_t_facts, .ref a_t_splits, .ref a_t_torn, .ref a_t_dropped, .ref a_t_waved, .ref a_t_struck, .ref a_t_strikingOrder, .int t_entered, .int t_strikings])), (a_t_torn, .inl (cI, 60, .inl t_torn_j36))] → va_S A s.heap H locs → lv_has ls 4 [(3, .int v3_38), (0, .ref a_t), (1, .int x1), (2, .int x2)] → W p l e (headSpec wsX6_tearFrom ({ frames := 3, cells := 0, slots := 0, locals := 65 } : Room)).room s m #[Value.ref a_t, Value.int x1, Value.int x2] below meth c H locs 0 0 (MQ below (zQi (zb b0) D (zT cB cI cZ) [(a_t, .inr (6, [.ref a_t_facts, .ref a_t_splits, .ref a_t_torn, .ref a_t_dropped, .ref a_t_waved, .ref a_t_struck, .ref a_t_strikingOrder, .int t_entered, .int t_strikings])), (a_t_splits, .inl (cI, 720, .inl t_splits')), (a_t_torn, .inl (cI, 60, .inl t_torn'))] A) #[Value.ref a_t, Value.int x1, Value.int x2] s 0 0 A) (F0 m 38 ls []) := by
          intro n
          induction n with
          | zero => intro _ _ H locs ls h hP hD hS hl; cases h
          | succ n38 ih38 =>
            intro v3_38 t_splits_l38 H locs ls h hP hD hS hl
            rw [fX6_tearFrom_L38.eq_2] at h
            refine lv_iload_n hx hb dX6_tearFrom_38 rfl (lv_at hl 0 rfl) ?_
            refine lv_bipush (v := (nI 12)) hx hb dX6_tearFrom_39 rfl ?_
            refine lv_icmp_ge (tgt := 62) hx hb dX6_tearFrom_41 (by decide) (fun c9 => ?_) (fun c9 => ?_)
            · have h := zz_t h c9
              exact X38_62 v3_38 t_splits_l38 _ _ _ h (hP.sub [0, 1, 2] rfl) (hD.sub [0, 1, 2] rfl rfl) hS (lv_sub hl [0, 1, 2, 3] rfl)
            · have h := zz_f h c9
              refine lv_aload_n hx hb dX6_tearFrom_44 rfl (lv_at hl 1 rfl) ?_
              refine va_get (D := D) (ci := 6) (C := RX6) (T := TX6) (N := 9) hx hb hts qX6_tearFrom_X6 hown hK hP 1 rfl rfl 1 (by decide) (hts _ kX6_tearFrom_4) (fun _ h9 => h9) rfl dX6_tearFrom_45 ?_
              refine lv_iload_n hx hb dX6_tearFrom_48 rfl (lv_at hl 2 rfl) ?_
              refine lv_bipush (v := (nI 12)) hx hb dX6_tearFrom_49 rfl ?_
              refine lv_imul hx hb dX6_tearFrom_51 ?_
              refine lv_iload_n hx hb dX6_tearFrom_52 rfl (lv_at hl 0 rfl) ?_
              refine lv_iadd hx hb dX6_tearFrom_53 ?_
              refine lv_iconst (v := (-1 : Int32)) hx hb dX6_tearFrom_54 rfl ?_
              obtain ⟨i10, h⟩ := zz_i h
              refine va_iast hx hb hK hP hD hS 0 1 rfl rfl i10 dX6_tearFrom_55 (fun H locs hP hD hS => ?_)
              have hP : va_P D vwCl [(a_t_splits, .inl (cI, 720, .inl (upd t_splits_l38 (((x1 * (nI 12)) + v3_38)).toNatClampNeg (-1 : Int32)))), (a_t, .inr (6, [.ref a_t_facts, .ref a_t_splits, .ref a_t_torn, .ref a_t_dropped, .ref a_t_waved, .ref a_t_struck, .ref a_t_strikingOrder, .int t_entered, .int t_strikings])), (a_t_torn, .inl (cI, 60, .inl t_torn_j36))] H := hP
              have hD : va_D A [(a_t_splits, .inl (cI, 720, .inl (upd t_splits_l38 (((x1 * (nI 12)) + v3_38)).toNatClampNeg (-1 : Int32)))), (a_t, .inr (6, [.ref a_t_facts, .ref a_t_splits, .ref a_t_torn, .ref a_t_dropped, .ref a_t_waved, .ref a_t_struck, .ref a_t_strikingOrder, .int t_entered, .int t_strikings])), (a_t_torn, .inl (cI, 60, .inl t_torn_j36))] := hD
              refine lv_iinc (v := (v3_38 + (nI 1))) (lv' := [(3, .int (v3_38 + (nI 1))), (0, .ref a_t), (1, .int x1), (2, .int x2)]) hx hb dX6_tearFrom_56 hl (k := 0) rfl rfl (by decide) rfl (fun ls hl => ?_)
              refine lv_goto (tgt := 38) hx hb dX6_tearFrom_59 (by decide) ?_
              exact ih38 (v3_38 + (nI 1)) (upd t_splits_l38 (((x1 * (nI 12)) + v3_38)).toNatClampNeg (-1 : Int32)) _ _ _ h (hP.sub [0, 1, 2] rfl) (hD.sub [0, 1, 2] rfl rfl) hS (lv_sub hl [0, 1, 2, 3] rfl)
        exact L38 N x2 t_splits _ _ _ h hP hD hS hl
      refine lv_if_ne (tgt := 36) hx hb dX6_tearFrom_26 (by decide) (fun c11 => ?_) (fun c11 => ?_)
      · have h := zz_f h c11
        exact J36 t_torn _ _ _ h (hP.sub [0, 1, 2] rfl) (hD.sub [0, 1, 2] rfl rfl) hS (lv_sub hl [0, 1, 2] rfl)
      · have h := zz_t h c11
        refine lv_aload_n hx hb dX6_tearFrom_29 rfl (lv_at hl 0 rfl) ?_
        refine va_get (D := D) (ci := 6) (C := RX6) (T := TX6) (N := 9) hx hb hts qX6_tearFrom_X6 hown hK hP 1 rfl rfl 2 (by decide) (hts _ kX6_tearFrom_2) (fun _ h9 => h9) rfl dX6_tearFrom_30 ?_
        refine lv_iload_n hx hb dX6_tearFrom_33 rfl (lv_at hl 1 rfl) ?_
        refine lv_iload_n hx hb dX6_tearFrom_34 rfl (lv_at hl 2 rfl) ?_
        obtain ⟨i12, h⟩ := zz_i h
        refine va_iast hx hb hK hP hD hS 2 1 rfl rfl i12 dX6_tearFrom_35 (fun H locs hP hD hS => ?_)
        have hP : va_P D vwCl [(a_t_splits, .inl (cI, 720, .inl t_splits)), (a_t, .inr (6, [.ref a_t_facts, .ref a_t_splits, .ref a_t_torn, .ref a_t_dropped, .ref a_t_waved, .ref a_t_struck, .ref a_t_strikingOrder, .int t_entered, .int t_strikings])), (a_t_torn, .inl (cI, 60, .inl (upd t_torn (x1).toNatClampNeg x2)))] H := hP
        have hD : va_D A [(a_t_splits, .inl (cI, 720, .inl t_splits)), (a_t, .inr (6, [.ref a_t_facts, .ref a_t_splits, .ref a_t_torn, .ref a_t_dropped, .ref a_t_waved, .ref a_t_struck, .ref a_t_strikingOrder, .int t_entered, .int t_strikings])), (a_t_torn, .inl (cI, 60, .inl (upd t_torn (x1).toNatClampNeg x2)))] := hD
        exact J36 (upd t_torn (x1).toNatClampNeg x2) _ _ _ h (hP.sub [0, 1, 2] rfl) (hD.sub [0, 1, 2] rfl rfl) hS (lv_sub hl [0, 1, 2] rfl)
    · have h := zz_t h c6
      refine lv_iconst (v := (nI 0)) hx hb dX6_tearFrom_18 rfl ?_
      obtain ⟨j0_, g_⟩ := Prod.mk.inj (Option.some.inj h)
      obtain ⟨j1_, g_⟩ := Prod.mk.inj g_
      have j2_ := g_
      subst j0_
      subst j1_
      subst j2_
      exact W.zret (v := (nI 0)) hx hb hr rfl (fun t ht hW => ⟨⟨_, (), rfl, rfl, zPost.of hP hD hK ht hW [2, 0, 1] rfl rfl rfl⟩, hS.F ht⟩) hS.2.2 dX6_tearFrom_19
/-! RunDesk$Runners.setDropped -/
theorem dX6_setDropped_0 : decode cX6_setDropped 0 = .ok (.aload_n 0, 1) := by decide +kernel
theorem dX6_setDropped_1 : decode cX6_setDropped 1 = .ok (.iload_n 1, 1) := by decide +kernel
theorem dX6_setDropped_2 : decode cX6_setDropped 2 = .ok (.invokevirtual 41, 3) := by decide +kernel
theorem dX6_setDropped_5 : decode cX6_setDropped 5 = .ok (.ifCond .ne 5, 3) := by decide +kernel
theorem dX6_setDropped_8 : decode cX6_setDropped 8 = .ok (.iconst 0, 1) := by decide +kernel
theorem dX6_setDropped_9 : decode cX6_setDropped 9 = .ok (.ireturn, 1) := by decide +kernel
theorem dX6_setDropped_10 : decode cX6_setDropped 10 = .ok (.aload_n 0, 1) := by decide +kernel
theorem dX6_setDropped_11 : decode cX6_setDropped 11 = .ok (.getfield 21, 3) := by decide +kernel
theorem dX6_setDropped_14 : decode cX6_setDropped 14 = .ok (.iload_n 1, 1) := by decide +kernel
theorem dX6_setDropped_15 : decode cX6_setDropped 15 = .ok (.iload_n 2, 1) := by decide +kernel
theorem dX6_setDropped_16 : decode cX6_setDropped 16 = .ok (.bastore, 1) := by decide +kernel
theorem dX6_setDropped_17 : decode cX6_setDropped 17 = .ok (.iconst 1, 1) := by decide +kernel
theorem dX6_setDropped_18 : decode cX6_setDropped 18 = .ok (.ireturn, 1) := by decide +kernel
set_option maxRecDepth 20000 in
theorem ggX6_setDropped_X6_has : GoodIn wsX6_setDropped wsX6_has := goodIn_r _ [6, 7, 8, 9, 10, 11, 12, 13, 14, 15, 16] (by decide +kernel) (by decide +kernel)
set_option maxRecDepth 20000 in
theorem gX6_setDropped_X6_has : GoodIn wsX6_setDropped (wsV RX6 41 RX6 yX6_has wsX6_has) := goodIn_app (goodIn_of _ (by decide +kernel)) ggX6_setDropped_X6_has
theorem kX6_setDropped_0 : (.fieldLink RX6 21 "RunDesk$Runners" "dropped" "[Z" : Cond) ∈ wsX6_setDropped := List.mem_of_getElem? (i := 1) (by decide +kernel)
theorem qX6_setDropped_X6 : ∀ w ∈ wsX60, w ∈ wsX6_setDropped := fun _ h => List.mem_cons_of_mem _ (List.mem_append_right _ (h))
set_option maxHeartbeats 4000000 in
set_option maxRecDepth 100000 in
theorem mX6_setDropped (l : Launch) (D : va_G) (cB cI cZ : ClassId) (a_t : Nat) (a_t_facts : Nat) (a_t_splits : Nat) (a_t_torn : Nat) (a_t_dropped : Nat) (a_t_waved : Nat) (a_t_struck : Nat) (a_t_strikingOrder : Nat) (t_entered : Int32) (t_strikings : Int32) (t_dropped : Nat → Int32) (sz : Nat) (x1 : Int32) (x2 : Int32) (b0 : Bool) (t_dropped' : Nat → Int32) (h : fX6_setDropped t_entered t_dropped x1 x2 = some (b0, t_dropped')) : Met l yX6_setDropped wsX6_setDropped ({ frames := 1, cells := 0, slots := 0, locals := 21 } : Room) (va_Pc [.ref a_t, .int x1, .int x2] (zPre D (zT cB cI cZ) [(a_t, .inr (6, [.ref a_t_facts, .ref a_t_splits, .ref a_t_torn, .ref a_t_dropped, .ref a_t_waved, .ref a_t_struck, .ref a_t_strikingOrder, .int t_entered, .int t_strikings])), (a_t_dropped, .inl (cZ, 60, .inl t_dropped))] sz)) (zQi (zb b0) D (zT cB cI cZ) [(a_t, .inr (6, [.ref a_t_facts, .ref a_t_splits, .ref a_t_torn, .ref a_t_dropped, .ref a_t_waved, .ref a_t_struck, .ref a_t_strikingOrder, .int t_entered, .int t_strikings])), (a_t_dropped, .inl (cZ, 60, .inl t_dropped'))] (va_A [(a_t, .inr (6, [.ref a_t_facts, .ref a_t_splits, .ref a_t_torn, .ref a_t_dropped, .ref a_t_waved, .ref a_t_struck, .ref a_t_strikingOrder, .int t_entered, .int t_strikings])), (a_t_dropped, .inl (cZ, 60, .inl t_dropped))] sz)) 0 0 (va_A [(a_t, .inr (6, [.ref a_t_facts, .ref a_t_splits, .ref a_t_torn, .ref a_t_dropped, .ref a_t_waved, .ref a_t_struck, .ref a_t_strikingOrder, .int t_entered, .int t_strikings])), (a_t_dropped, .inl (cZ, 60, .inl t_dropped))] sz) := by
  refine Met.ofW (cc := cX6_setDropped) (maxL := 3) (ret := (some .boolean)) (by decide) rfl ?_
  intro p e s m args below meth c s₁ B hml hv
  obtain ⟨rfl, hsz, hP, hK, hN, hZ, hD0⟩ := hv
  have hx := B.exec
  have hb := B.bytes
  have hr := B.returns
  have hts := atoms_spec (ws := wsX6_setDropped) B.pre
  have hown : s.vm.findClass RX6 = some m.cls := findClass_of_methodNamed B.named
  have hlocks := B.notSynchronized
  subst hsz
  have hD := hD0.self (sz := s.heap.size)
  generalize hAe : va_A [(a_t, .inr (6, [.ref a_t_facts, .ref a_t_splits, .ref a_t_torn, .ref a_t_dropped, .ref a_t_waved, .ref a_t_struck, .ref a_t_strikingOrder, .int t_entered, .int t_strikings])), (a_t_dropped, .inl (cZ, 60, .inl t_dropped))] s.heap.size = A at hD hZ ⊢
  have hA : ∀ q : Nat, s.heap.size ≤ q → A q := fun q h => by rw [← hAe]; exact Or.inr h
  have hS : va_S A s.heap s.heap [] := va_S.rf
  have hl := lv_entry ([.ref a_t, .int x1, .int x2]) (n := 3) (Nat.le_of_ble_eq_true rfl)
  rw [lg_entry_eq]
  generalize (lg_sl ([.ref a_t, .int x1, .int x2]) ++ List.replicate (3 - (lg_sl ([.ref a_t, .int x1, .int x2])).length) Slot.unset).toArray = ls at hl ⊢
  have hl : lv_has ls 3 [(0, .ref a_t), (1, .int x1), (2, .int x2)] := hl
  unfold fX6_setDropped at h
  refine lv_aload_n hx hb dX6_setDropped_0 rfl (lv_at hl 0 rfl) ?_
  refine lv_iload_n hx hb dX6_setDropped_1 rfl (lv_at hl 1 rfl) ?_
  obtain ⟨b1, e2, h⟩ := zz_b h
  refine zVi (As := [.int x1]) (rest := []) (C := RX6) (wr := [(a_t_dropped, .inl (cZ, 60, .inl t_dropped))]) [0] [1] 0 ⟨hx, hb, hml, hown, hts⟩ (mX6_has l D cB cI cZ a_t a_t_facts a_t_splits a_t_torn a_t_dropped a_t_waved a_t_struck a_t_strikingOrder t_entered t_strikings s.heap.size x1 b1 e2) (cwV 1 hts gX6_setDropped_X6_has rfl rfl rfl (by decide +kernel) ⟨Nat.le_of_ble_eq_true rfl, Nat.le_of_ble_eq_true rfl⟩) hK hN hZ hP hD hS hA rfl rfl rfl rfl rfl rfl rfl rfl hl.1 rfl (lv_room (Nat.le_of_ble_eq_true rfl)) dX6_setDropped_2 ⟨Nat.le_of_ble_eq_true rfl, Nat.le_of_ble_eq_true rfl⟩ (fun H locs hP hD hS => ?_)
  have hP : va_P D vwCl [(a_t_dropped, .inl (cZ, 60, .inl t_dropped)), (a_t, .inr (6, [.ref a_t_facts, .ref a_t_splits, .ref a_t_torn, .ref a_t_dropped, .ref a_t_waved, .ref a_t_struck, .ref a_t_strikingOrder, .int t_entered, .int t_strikings]))] H := hP
  have hD : va_D A [(a_t_dropped, .inl (cZ, 60, .inl t_dropped)), (a_t, .inr (6, [.ref a_t_facts, .ref a_t_splits, .ref a_t_torn, .ref a_t_dropped, .ref a_t_waved, .ref a_t_struck, .ref a_t_strikingOrder, .int t_entered, .int t_strikings]))] := hD
  refine lv_if_ne (tgt := 10) hx hb dX6_setDropped_5 (by decide) (fun c3 => ?_) (fun c3 => ?_)
  · have h := zz_f h c3
    refine lv_aload_n hx hb dX6_setDropped_10 rfl (lv_at hl 0 rfl) ?_
    refine va_get (D := D) (ci := 6) (C := RX6) (T := TX6) (N := 9) hx hb hts qX6_setDropped_X6 hown hK hP 1 rfl rfl 3 (by decide) (hts _ kX6_setDropped_0) (fun _ h9 => h9) rfl dX6_setDropped_11 ?_
    refine lv_iload_n hx hb dX6_setDropped_14 rfl (lv_at hl 1 rfl) ?_
    refine lv_iload_n hx hb dX6_setDropped_15 rfl (lv_at hl 2 rfl) ?_
    obtain ⟨i4, h⟩ := zz_i h
    refine va_zast hx hb hK hP hD hS 0 2 rfl rfl i4 dX6_setDropped_16 (fun H locs hP hD hS => ?_)
    have hP : va_P D vwCl [(a_t_dropped, .inl (cZ, 60, .inl (upd t_dropped (x1).toNatClampNeg (vp_nar .boolean x2)))), (a_t, .inr (6, [.ref a_t_facts, .ref a_t_splits, .ref a_t_torn, .ref a_t_dropped, .ref a_t_waved, .ref a_t_struck, .ref a_t_strikingOrder, .int t_entered, .int t_strikings]))] H := hP
    have hD : va_D A [(a_t_dropped, .inl (cZ, 60, .inl (upd t_dropped (x1).toNatClampNeg (vp_nar .boolean x2)))), (a_t, .inr (6, [.ref a_t_facts, .ref a_t_splits, .ref a_t_torn, .ref a_t_dropped, .ref a_t_waved, .ref a_t_struck, .ref a_t_strikingOrder, .int t_entered, .int t_strikings]))] := hD
    refine lv_iconst (v := (nI 1)) hx hb dX6_setDropped_17 rfl ?_
    obtain ⟨j0_, g_⟩ := Prod.mk.inj (Option.some.inj h)
    have j1_ := g_
    subst j0_
    subst j1_
    exact W.zret (v := (nI 1)) hx hb hr rfl (fun t ht hW => ⟨⟨_, (), rfl, rfl, zPost.of hP hD hK ht hW [1, 0] rfl rfl rfl⟩, hS.F ht⟩) hS.2.2 dX6_setDropped_18
  · have h := zz_t h c3
    refine lv_iconst (v := (nI 0)) hx hb dX6_setDropped_8 rfl ?_
    obtain ⟨j0_, g_⟩ := Prod.mk.inj (Option.some.inj h)
    have j1_ := g_
    subst j0_
    subst j1_
    exact W.zret (v := (nI 0)) hx hb hr rfl (fun t ht hW => ⟨⟨_, (), rfl, rfl, zPost.of hP hD hK ht hW [1, 0] rfl rfl rfl⟩, hS.F ht⟩) hS.2.2 dX6_setDropped_9
/-! RunDesk$Runners.setWaved -/
theorem dX6_setWaved_0 : decode cX6_setWaved 0 = .ok (.aload_n 0, 1) := by decide +kernel
theorem dX6_setWaved_1 : decode cX6_setWaved 1 = .ok (.iload_n 1, 1) := by decide +kernel
theorem dX6_setWaved_2 : decode cX6_setWaved 2 = .ok (.invokevirtual 41, 3) := by decide +kernel
theorem dX6_setWaved_5 : decode cX6_setWaved 5 = .ok (.ifCond .ne 5, 3) := by decide +kernel
theorem dX6_setWaved_8 : decode cX6_setWaved 8 = .ok (.iconst 0, 1) := by decide +kernel
theorem dX6_setWaved_9 : decode cX6_setWaved 9 = .ok (.ireturn, 1) := by decide +kernel
theorem dX6_setWaved_10 : decode cX6_setWaved 10 = .ok (.aload_n 0, 1) := by decide +kernel
theorem dX6_setWaved_11 : decode cX6_setWaved 11 = .ok (.getfield 25, 3) := by decide +kernel
theorem dX6_setWaved_14 : decode cX6_setWaved 14 = .ok (.iload_n 1, 1) := by decide +kernel
theorem dX6_setWaved_15 : decode cX6_setWaved 15 = .ok (.iload_n 2, 1) := by decide +kernel
theorem dX6_setWaved_16 : decode cX6_setWaved 16 = .ok (.bastore, 1) := by decide +kernel
theorem dX6_setWaved_17 : decode cX6_setWaved 17 = .ok (.iconst 1, 1) := by decide +kernel
theorem dX6_setWaved_18 : decode cX6_setWaved 18 = .ok (.ireturn, 1) := by decide +kernel
set_option maxRecDepth 20000 in
theorem ggX6_setWaved_X6_has : GoodIn wsX6_setWaved wsX6_has := goodIn_r _ [6, 7, 8, 9, 10, 11, 12, 13, 14, 15, 16] (by decide +kernel) (by decide +kernel)
set_option maxRecDepth 20000 in
theorem gX6_setWaved_X6_has : GoodIn wsX6_setWaved (wsV RX6 41 RX6 yX6_has wsX6_has) := goodIn_app (goodIn_of _ (by decide +kernel)) ggX6_setWaved_X6_has
theorem kX6_setWaved_0 : (.fieldLink RX6 25 "RunDesk$Runners" "waved" "[Z" : Cond) ∈ wsX6_setWaved := List.mem_of_getElem? (i := 1) (by decide +kernel)
theorem qX6_setWaved_X6 : ∀ w ∈ wsX60, w ∈ wsX6_setWaved := fun _ h => List.mem_cons_of_mem _ (List.mem_append_right _ (h))
set_option maxHeartbeats 4000000 in
set_option maxRecDepth 100000 in
theorem mX6_setWaved (l : Launch) (D : va_G) (cB cI cZ : ClassId) (a_t : Nat) (a_t_facts : Nat) (a_t_splits : Nat) (a_t_torn : Nat) (a_t_dropped : Nat) (a_t_waved : Nat) (a_t_struck : Nat) (a_t_strikingOrder : Nat) (t_entered : Int32) (t_strikings : Int32) (t_waved : Nat → Int32) (sz : Nat) (x1 : Int32) (x2 : Int32) (b0 : Bool) (t_waved' : Nat → Int32) (h : fX6_setWaved t_entered t_waved x1 x2 = some (b0, t_waved')) : Met l yX6_setWaved wsX6_setWaved ({ frames := 1, cells := 0, slots := 0, locals := 21 } : Room) (va_Pc [.ref a_t, .int x1, .int x2] (zPre D (zT cB cI cZ) [(a_t, .inr (6, [.ref a_t_facts, .ref a_t_splits, .ref a_t_torn, .ref a_t_dropped, .ref a_t_waved, .ref a_t_struck, .ref a_t_strikingOrder, .int t_entered, .int t_strikings])), (a_t_waved, .inl (cZ, 60, .inl t_waved))] sz)) (zQi (zb b0) D (zT cB cI cZ) [(a_t, .inr (6, [.ref a_t_facts, .ref a_t_splits, .ref a_t_torn, .ref a_t_dropped, .ref a_t_waved, .ref a_t_struck, .ref a_t_strikingOrder, .int t_entered, .int t_strikings])), (a_t_waved, .inl (cZ, 60, .inl t_waved'))] (va_A [(a_t, .inr (6, [.ref a_t_facts, .ref a_t_splits, .ref a_t_torn, .ref a_t_dropped, .ref a_t_waved, .ref a_t_struck, .ref a_t_strikingOrder, .int t_entered, .int t_strikings])), (a_t_waved, .inl (cZ, 60, .inl t_waved))] sz)) 0 0 (va_A [(a_t, .inr (6, [.ref a_t_facts, .ref a_t_splits, .ref a_t_torn, .ref a_t_dropped, .ref a_t_waved, .ref a_t_struck, .ref a_t_strikingOrder, .int t_entered, .int t_strikings])), (a_t_waved, .inl (cZ, 60, .inl t_waved))] sz) := by
  refine Met.ofW (cc := cX6_setWaved) (maxL := 3) (ret := (some .boolean)) (by decide) rfl ?_
  intro p e s m args below meth c s₁ B hml hv
  obtain ⟨rfl, hsz, hP, hK, hN, hZ, hD0⟩ := hv
  have hx := B.exec
  have hb := B.bytes
  have hr := B.returns
  have hts := atoms_spec (ws := wsX6_setWaved) B.pre
  have hown : s.vm.findClass RX6 = some m.cls := findClass_of_methodNamed B.named
  have hlocks := B.notSynchronized
  subst hsz
  have hD := hD0.self (sz := s.heap.size)
  generalize hAe : va_A [(a_t, .inr (6, [.ref a_t_facts, .ref a_t_splits, .ref a_t_torn, .ref a_t_dropped, .ref a_t_waved, .ref a_t_struck, .ref a_t_strikingOrder, .int t_entered, .int t_strikings])), (a_t_waved, .inl (cZ, 60, .inl t_waved))] s.heap.size = A at hD hZ ⊢
  have hA : ∀ q : Nat, s.heap.size ≤ q → A q := fun q h => by rw [← hAe]; exact Or.inr h
  have hS : va_S A s.heap s.heap [] := va_S.rf
  have hl := lv_entry ([.ref a_t, .int x1, .int x2]) (n := 3) (Nat.le_of_ble_eq_true rfl)
  rw [lg_entry_eq]
  generalize (lg_sl ([.ref a_t, .int x1, .int x2]) ++ List.replicate (3 - (lg_sl ([.ref a_t, .int x1, .int x2])).length) Slot.unset).toArray = ls at hl ⊢
  have hl : lv_has ls 3 [(0, .ref a_t), (1, .int x1), (2, .int x2)] := hl
  unfold fX6_setWaved at h
  refine lv_aload_n hx hb dX6_setWaved_0 rfl (lv_at hl 0 rfl) ?_
  refine lv_iload_n hx hb dX6_setWaved_1 rfl (lv_at hl 1 rfl) ?_
  obtain ⟨b1, e2, h⟩ := zz_b h
  refine zVi (As := [.int x1]) (rest := []) (C := RX6) (wr := [(a_t_waved, .inl (cZ, 60, .inl t_waved))]) [0] [1] 0 ⟨hx, hb, hml, hown, hts⟩ (mX6_has l D cB cI cZ a_t a_t_facts a_t_splits a_t_torn a_t_dropped a_t_waved a_t_struck a_t_strikingOrder t_entered t_strikings s.heap.size x1 b1 e2) (cwV 1 hts gX6_setWaved_X6_has rfl rfl rfl (by decide +kernel) ⟨Nat.le_of_ble_eq_true rfl, Nat.le_of_ble_eq_true rfl⟩) hK hN hZ hP hD hS hA rfl rfl rfl rfl rfl rfl rfl rfl hl.1 rfl (lv_room (Nat.le_of_ble_eq_true rfl)) dX6_setWaved_2 ⟨Nat.le_of_ble_eq_true rfl, Nat.le_of_ble_eq_true rfl⟩ (fun H locs hP hD hS => ?_)
  have hP : va_P D vwCl [(a_t_waved, .inl (cZ, 60, .inl t_waved)), (a_t, .inr (6, [.ref a_t_facts, .ref a_t_splits, .ref a_t_torn, .ref a_t_dropped, .ref a_t_waved, .ref a_t_struck, .ref a_t_strikingOrder, .int t_entered, .int t_strikings]))] H := hP
  have hD : va_D A [(a_t_waved, .inl (cZ, 60, .inl t_waved)), (a_t, .inr (6, [.ref a_t_facts, .ref a_t_splits, .ref a_t_torn, .ref a_t_dropped, .ref a_t_waved, .ref a_t_struck, .ref a_t_strikingOrder, .int t_entered, .int t_strikings]))] := hD
  refine lv_if_ne (tgt := 10) hx hb dX6_setWaved_5 (by decide) (fun c3 => ?_) (fun c3 => ?_)
  · have h := zz_f h c3
    refine lv_aload_n hx hb dX6_setWaved_10 rfl (lv_at hl 0 rfl) ?_
    refine va_get (D := D) (ci := 6) (C := RX6) (T := TX6) (N := 9) hx hb hts qX6_setWaved_X6 hown hK hP 1 rfl rfl 4 (by decide) (hts _ kX6_setWaved_0) (fun _ h9 => h9) rfl dX6_setWaved_11 ?_
    refine lv_iload_n hx hb dX6_setWaved_14 rfl (lv_at hl 1 rfl) ?_
    refine lv_iload_n hx hb dX6_setWaved_15 rfl (lv_at hl 2 rfl) ?_
    obtain ⟨i4, h⟩ := zz_i h
    refine va_zast hx hb hK hP hD hS 0 2 rfl rfl i4 dX6_setWaved_16 (fun H locs hP hD hS => ?_)
    have hP : va_P D vwCl [(a_t_waved, .inl (cZ, 60, .inl (upd t_waved (x1).toNatClampNeg (vp_nar .boolean x2)))), (a_t, .inr (6, [.ref a_t_facts, .ref a_t_splits, .ref a_t_torn, .ref a_t_dropped, .ref a_t_waved, .ref a_t_struck, .ref a_t_strikingOrder, .int t_entered, .int t_strikings]))] H := hP
    have hD : va_D A [(a_t_waved, .inl (cZ, 60, .inl (upd t_waved (x1).toNatClampNeg (vp_nar .boolean x2)))), (a_t, .inr (6, [.ref a_t_facts, .ref a_t_splits, .ref a_t_torn, .ref a_t_dropped, .ref a_t_waved, .ref a_t_struck, .ref a_t_strikingOrder, .int t_entered, .int t_strikings]))] := hD
    refine lv_iconst (v := (nI 1)) hx hb dX6_setWaved_17 rfl ?_
    obtain ⟨j0_, g_⟩ := Prod.mk.inj (Option.some.inj h)
    have j1_ := g_
    subst j0_
    subst j1_
    exact W.zret (v := (nI 1)) hx hb hr rfl (fun t ht hW => ⟨⟨_, (), rfl, rfl, zPost.of hP hD hK ht hW [1, 0] rfl rfl rfl⟩, hS.F ht⟩) hS.2.2 dX6_setWaved_18
  · have h := zz_t h c3
    refine lv_iconst (v := (nI 0)) hx hb dX6_setWaved_8 rfl ?_
    obtain ⟨j0_, g_⟩ := Prod.mk.inj (Option.some.inj h)
    have j1_ := g_
    subst j0_
    subst j1_
    exact W.zret (v := (nI 0)) hx hb hr rfl (fun t ht hW => ⟨⟨_, (), rfl, rfl, zPost.of hP hD hK ht hW [1, 0] rfl rfl rfl⟩, hS.F ht⟩) hS.2.2 dX6_setWaved_9
/-! RunDesk$Runners.strikeOff -/
theorem dX6_strikeOff_0 : decode cX6_strikeOff 0 = .ok (.aload_n 0, 1) := by decide +kernel
theorem dX6_strikeOff_1 : decode cX6_strikeOff 1 = .ok (.iload_n 1, 1) := by decide +kernel
theorem dX6_strikeOff_2 : decode cX6_strikeOff 2 = .ok (.invokevirtual 41, 3) := by decide +kernel
theorem dX6_strikeOff_5 : decode cX6_strikeOff 5 = .ok (.ifCond .eq 25, 3) := by decide +kernel
theorem dX6_strikeOff_8 : decode cX6_strikeOff 8 = .ok (.aload_n 0, 1) := by decide +kernel
theorem dX6_strikeOff_9 : decode cX6_strikeOff 9 = .ok (.getfield 28, 3) := by decide +kernel
theorem dX6_strikeOff_12 : decode cX6_strikeOff 12 = .ok (.iload_n 1, 1) := by decide +kernel
theorem dX6_strikeOff_13 : decode cX6_strikeOff 13 = .ok (.baload, 1) := by decide +kernel
theorem dX6_strikeOff_14 : decode cX6_strikeOff 14 = .ok (.ifCond .ne 16, 3) := by decide +kernel
theorem dX6_strikeOff_17 : decode cX6_strikeOff 17 = .ok (.aload_n 0, 1) := by decide +kernel
theorem dX6_strikeOff_18 : decode cX6_strikeOff 18 = .ok (.getfield 38, 3) := by decide +kernel
theorem dX6_strikeOff_21 : decode cX6_strikeOff 21 = .ok (.iconst 0, 1) := by decide +kernel
theorem dX6_strikeOff_22 : decode cX6_strikeOff 22 = .ok (.bipush 59, 2) := by decide +kernel
theorem dX6_strikeOff_24 : decode cX6_strikeOff 24 = .ok (.invokestatic 49, 3) := by decide +kernel
theorem dX6_strikeOff_27 : decode cX6_strikeOff 27 = .ok (.ifCond .ne 5, 3) := by decide +kernel
theorem dX6_strikeOff_30 : decode cX6_strikeOff 30 = .ok (.iconst 0, 1) := by decide +kernel
theorem dX6_strikeOff_31 : decode cX6_strikeOff 31 = .ok (.ireturn, 1) := by decide +kernel
theorem dX6_strikeOff_32 : decode cX6_strikeOff 32 = .ok (.aload_n 0, 1) := by decide +kernel
theorem dX6_strikeOff_33 : decode cX6_strikeOff 33 = .ok (.getfield 28, 3) := by decide +kernel
theorem dX6_strikeOff_36 : decode cX6_strikeOff 36 = .ok (.iload_n 1, 1) := by decide +kernel
theorem dX6_strikeOff_37 : decode cX6_strikeOff 37 = .ok (.iconst 1, 1) := by decide +kernel
theorem dX6_strikeOff_38 : decode cX6_strikeOff 38 = .ok (.bastore, 1) := by decide +kernel
theorem dX6_strikeOff_39 : decode cX6_strikeOff 39 = .ok (.aload_n 0, 1) := by decide +kernel
theorem dX6_strikeOff_40 : decode cX6_strikeOff 40 = .ok (.getfield 31, 3) := by decide +kernel
theorem dX6_strikeOff_43 : decode cX6_strikeOff 43 = .ok (.aload_n 0, 1) := by decide +kernel
theorem dX6_strikeOff_44 : decode cX6_strikeOff 44 = .ok (.getfield 38, 3) := by decide +kernel
theorem dX6_strikeOff_47 : decode cX6_strikeOff 47 = .ok (.iload_n 1, 1) := by decide +kernel
theorem dX6_strikeOff_48 : decode cX6_strikeOff 48 = .ok (.iastore, 1) := by decide +kernel
theorem dX6_strikeOff_49 : decode cX6_strikeOff 49 = .ok (.aload_n 0, 1) := by decide +kernel
theorem dX6_strikeOff_50 : decode cX6_strikeOff 50 = .ok (.dup, 1) := by decide +kernel
theorem dX6_strikeOff_51 : decode cX6_strikeOff 51 = .ok (.getfield 38, 3) := by decide +kernel
theorem dX6_strikeOff_54 : decode cX6_strikeOff 54 = .ok (.iconst 1, 1) := by decide +kernel
theorem dX6_strikeOff_55 : decode cX6_strikeOff 55 = .ok (.iadd, 1) := by decide +kernel
theorem dX6_strikeOff_56 : decode cX6_strikeOff 56 = .ok (.putfield 38, 3) := by decide +kernel
theorem dX6_strikeOff_59 : decode cX6_strikeOff 59 = .ok (.iconst 1, 1) := by decide +kernel
theorem dX6_strikeOff_60 : decode cX6_strikeOff 60 = .ok (.ireturn, 1) := by decide +kernel
set_option maxRecDepth 20000 in
theorem ggX6_strikeOff_X6_has : GoodIn wsX6_strikeOff wsX6_has := goodIn_r _ [8, 9, 13, 14, 15, 16, 17, 18, 19, 20, 21] (by decide +kernel) (by decide +kernel)
set_option maxRecDepth 20000 in
theorem gX6_strikeOff_X6_has : GoodIn wsX6_strikeOff (wsV RX6 41 RX6 yX6_has wsX6_has) := goodIn_app (goodIn_of _ (by decide +kernel)) ggX6_strikeOff_X6_has
set_option maxRecDepth 20000 in
theorem ggX6_strikeOff_X10_within : GoodIn wsX6_strikeOff wsX10_within := goodIn_r _ [12] (by decide +kernel) (by decide +kernel)
set_option maxRecDepth 20000 in
theorem gX6_strikeOff_X10_within_n49 : GoodIn wsX6_strikeOff (wsX10_within) := ggX6_strikeOff_X10_within
theorem kX6_strikeOff_0 : (.fieldLink RX6 28 "RunDesk$Runners" "struck" "[Z" : Cond) ∈ wsX6_strikeOff := List.mem_of_getElem? (i := 1) (by decide +kernel)
theorem qX6_strikeOff_X6 : ∀ w ∈ wsX60, w ∈ wsX6_strikeOff := fun _ h => List.mem_cons_of_mem _ (List.mem_append_right _ (h))
theorem kX6_strikeOff_2 : (.fieldLink RX6 38 "RunDesk$Runners" "strikings" "I" : Cond) ∈ wsX6_strikeOff := List.mem_of_getElem? (i := 2) (by decide +kernel)
theorem kX6_strikeOff_3 : (.initialized RX10 : Cond) ∈ wsX6_strikeOff := List.mem_of_getElem? (i := 11) (by decide +kernel)
theorem kX6_strikeOff_4 : (.static yX10_within : Cond) ∈ wsX6_strikeOff := List.mem_of_getElem? (i := 10) (by decide +kernel)
theorem kX6_strikeOff_5 : (.fieldLink RX6 31 "RunDesk$Runners" "strikingOrder" "[I" : Cond) ∈ wsX6_strikeOff := List.mem_of_getElem? (i := 3) (by decide +kernel)
set_option maxHeartbeats 4000000 in
set_option maxRecDepth 100000 in
theorem mX6_strikeOff (l : Launch) (D : va_G) (cB cI cZ : ClassId) (a_t : Nat) (a_t_facts : Nat) (a_t_splits : Nat) (a_t_torn : Nat) (a_t_dropped : Nat) (a_t_waved : Nat) (a_t_struck : Nat) (a_t_strikingOrder : Nat) (t_entered : Int32) (t_strikings : Int32) (t_strikingOrder : Nat → Int32) (t_struck : Nat → Int32) (sz : Nat) (x1 : Int32) (b0 : Bool) (t_strikings' : Int32) (t_strikingOrder' : Nat → Int32) (t_struck' : Nat → Int32) (h : fX6_strikeOff t_entered t_strikings t_strikingOrder t_struck x1 = some (b0, t_strikings', t_strikingOrder', t_struck')) : Met l yX6_strikeOff wsX6_strikeOff ({ frames := 1, cells := 0, slots := 0, locals := 22 } : Room) (va_Pc [.ref a_t, .int x1] (zPre D (zT cB cI cZ) [(a_t, .inr (6, [.ref a_t_facts, .ref a_t_splits, .ref a_t_torn, .ref a_t_dropped, .ref a_t_waved, .ref a_t_struck, .ref a_t_strikingOrder, .int t_entered, .int t_strikings])), (a_t_strikingOrder, .inl (cI, 60, .inl t_strikingOrder)), (a_t_struck, .inl (cZ, 60, .inl t_struck))] sz)) (zQi (zb b0) D (zT cB cI cZ) [(a_t, .inr (6, [.ref a_t_facts, .ref a_t_splits, .ref a_t_torn, .ref a_t_dropped, .ref a_t_waved, .ref a_t_struck, .ref a_t_strikingOrder, .int t_entered, .int t_strikings'])), (a_t_strikingOrder, .inl (cI, 60, .inl t_strikingOrder')), (a_t_struck, .inl (cZ, 60, .inl t_struck'))] (va_A [(a_t, .inr (6, [.ref a_t_facts, .ref a_t_splits, .ref a_t_torn, .ref a_t_dropped, .ref a_t_waved, .ref a_t_struck, .ref a_t_strikingOrder, .int t_entered, .int t_strikings])), (a_t_strikingOrder, .inl (cI, 60, .inl t_strikingOrder)), (a_t_struck, .inl (cZ, 60, .inl t_struck))] sz)) 0 0 (va_A [(a_t, .inr (6, [.ref a_t_facts, .ref a_t_splits, .ref a_t_torn, .ref a_t_dropped, .ref a_t_waved, .ref a_t_struck, .ref a_t_strikingOrder, .int t_entered, .int t_strikings])), (a_t_strikingOrder, .inl (cI, 60, .inl t_strikingOrder)), (a_t_struck, .inl (cZ, 60, .inl t_struck))] sz) := by
  refine Met.ofW (cc := cX6_strikeOff) (maxL := 2) (ret := (some .boolean)) (by decide) rfl ?_
  intro p e s m args below meth c s₁ B hml hv
  obtain ⟨rfl, hsz, hP, hK, hN, hZ, hD0⟩ := hv
  have hx := B.exec
  have hb := B.bytes
  have hr := B.returns
  have hts := atoms_spec (ws := wsX6_strikeOff) B.pre
  have hown : s.vm.findClass RX6 = some m.cls := findClass_of_methodNamed B.named
  have hlocks := B.notSynchronized
  subst hsz
  have hD := hD0.self (sz := s.heap.size)
  generalize hAe : va_A [(a_t, .inr (6, [.ref a_t_facts, .ref a_t_splits, .ref a_t_torn, .ref a_t_dropped, .ref a_t_waved, .ref a_t_struck, .ref a_t_strikingOrder, .int t_entered, .int t_strikings])), (a_t_strikingOrder, .inl (cI, 60, .inl t_strikingOrder)), (a_t_struck, .inl (cZ, 60, .inl t_struck))] s.heap.size = A at hD hZ ⊢
  have hA : ∀ q : Nat, s.heap.size ≤ q → A q := fun q h => by rw [← hAe]; exact Or.inr h
  have hS : va_S A s.heap s.heap [] := va_S.rf
  have hl := lv_entry ([.ref a_t, .int x1]) (n := 2) (Nat.le_of_ble_eq_true rfl)
  rw [lg_entry_eq]
  generalize (lg_sl ([.ref a_t, .int x1]) ++ List.replicate (2 - (lg_sl ([.ref a_t, .int x1])).length) Slot.unset).toArray = ls at hl ⊢
  have hl : lv_has ls 2 [(0, .ref a_t), (1, .int x1)] := hl
  unfold fX6_strikeOff at h
  refine lv_aload_n hx hb dX6_strikeOff_0 rfl (lv_at hl 0 rfl) ?_
  refine lv_iload_n hx hb dX6_strikeOff_1 rfl (lv_at hl 1 rfl) ?_
  obtain ⟨b1, e2, h⟩ := zz_b h
  refine zVi (As := [.int x1]) (rest := []) (C := RX6) (wr := [(a_t_strikingOrder, .inl (cI, 60, .inl t_strikingOrder)), (a_t_struck, .inl (cZ, 60, .inl t_struck))]) [0] [1, 2] 0 ⟨hx, hb, hml, hown, hts⟩ (mX6_has l D cB cI cZ a_t a_t_facts a_t_splits a_t_torn a_t_dropped a_t_waved a_t_struck a_t_strikingOrder t_entered t_strikings s.heap.size x1 b1 e2) (cwV 1 hts gX6_strikeOff_X6_has rfl rfl rfl (by decide +kernel) ⟨Nat.le_of_ble_eq_true rfl, Nat.le_of_ble_eq_true rfl⟩) hK hN hZ hP hD hS hA rfl rfl rfl rfl rfl rfl rfl rfl hl.1 rfl (lv_room (Nat.le_of_ble_eq_true rfl)) dX6_strikeOff_2 ⟨Nat.le_of_ble_eq_true rfl, Nat.le_of_ble_eq_true rfl⟩ (fun H locs hP hD hS => ?_)
  have hP : va_P D vwCl [(a_t_strikingOrder, .inl (cI, 60, .inl t_strikingOrder)), (a_t_struck, .inl (cZ, 60, .inl t_struck)), (a_t, .inr (6, [.ref a_t_facts, .ref a_t_splits, .ref a_t_torn, .ref a_t_dropped, .ref a_t_waved, .ref a_t_struck, .ref a_t_strikingOrder, .int t_entered, .int t_strikings]))] H := hP
  have hD : va_D A [(a_t_strikingOrder, .inl (cI, 60, .inl t_strikingOrder)), (a_t_struck, .inl (cZ, 60, .inl t_struck)), (a_t, .inr (6, [.ref a_t_facts, .ref a_t_splits, .ref a_t_torn, .ref a_t_dropped, .ref a_t_waved, .ref a_t_struck, .ref a_t_strikingOrder, .int t_entered, .int t_strikings]))] := hD
  refine lv_if_eq (tgt := 30) hx hb dX6_strikeOff_5 (by decide) (fun c3 => ?_) (fun c3 => ?_)
  · have h := zz_t h c3
    refine lv_iconst (v := (nI 0)) hx hb dX6_strikeOff_30 rfl ?_
    obtain ⟨j0_, g_⟩ := Prod.mk.inj (Option.some.inj h)
    obtain ⟨j1_, g_⟩ := Prod.mk.inj g_
    obtain ⟨j2_, g_⟩ := Prod.mk.inj g_
    have j3_ := g_
    subst j0_
    subst j1_
    subst j2_
    subst j3_
    exact W.zret (v := (nI 0)) hx hb hr rfl (fun t ht hW => ⟨⟨_, (), rfl, rfl, zPost.of hP hD hK ht hW [2, 0, 1] rfl rfl rfl⟩, hS.F ht⟩) hS.2.2 dX6_strikeOff_31
  · have h := zz_f h c3
    refine lv_aload_n hx hb dX6_strikeOff_8 rfl (lv_at hl 0 rfl) ?_
    refine va_get (D := D) (ci := 6) (C := RX6) (T := TX6) (N := 9) hx hb hts qX6_strikeOff_X6 hown hK hP 2 rfl rfl 5 (by decide) (hts _ kX6_strikeOff_0) (fun _ h9 => h9) rfl dX6_strikeOff_9 ?_
    refine lv_iload_n hx hb dX6_strikeOff_12 rfl (lv_at hl 1 rfl) ?_
    obtain ⟨i4, h⟩ := zz_i h
    refine va_zald hx hb hK hP 1 2 rfl rfl i4 dX6_strikeOff_13 ?_
    refine lv_if_ne (tgt := 30) hx hb dX6_strikeOff_14 (by decide) (fun c5 => ?_) (fun c5 => ?_)
    · have h := zz_f h c5
      refine lv_iconst (v := (nI 0)) hx hb dX6_strikeOff_30 rfl ?_
      obtain ⟨j0_, g_⟩ := Prod.mk.inj (Option.some.inj h)
      obtain ⟨j1_, g_⟩ := Prod.mk.inj g_
      obtain ⟨j2_, g_⟩ := Prod.mk.inj g_
      have j3_ := g_
      subst j0_
      subst j1_
      subst j2_
      subst j3_
      exact W.zret (v := (nI 0)) hx hb hr rfl (fun t ht hW => ⟨⟨_, (), rfl, rfl, zPost.of hP hD hK ht hW [2, 0, 1] rfl rfl rfl⟩, hS.F ht⟩) hS.2.2 dX6_strikeOff_31
    · have h := zz_t h c5
      refine lv_aload_n hx hb dX6_strikeOff_17 rfl (lv_at hl 0 rfl) ?_
      refine va_get (D := D) (ci := 6) (C := RX6) (T := TX6) (N := 9) hx hb hts qX6_strikeOff_X6 hown hK hP 2 rfl rfl 8 (by decide) (hts _ kX6_strikeOff_2) (fun _ h9 => h9) rfl dX6_strikeOff_18 ?_
      refine lv_iconst (v := (nI 0)) hx hb dX6_strikeOff_21 rfl ?_
      refine lv_bipush (v := (nI 59)) hx hb dX6_strikeOff_22 rfl ?_
      obtain ⟨b6, e7, h⟩ := zz_b h
      refine zNi (As := [.int t_strikings, .int (nI 0), .int (nI 59)]) (rest := []) (host := "RunDesk") (wr := [(a_t_strikingOrder, .inl (cI, 60, .inl t_strikingOrder)), (a_t_struck, .inl (cZ, 60, .inl t_struck)), (a_t, .inr (6, [.ref a_t_facts, .ref a_t_splits, .ref a_t_torn, .ref a_t_dropped, .ref a_t_waved, .ref a_t_struck, .ref a_t_strikingOrder, .int t_entered, .int t_strikings]))]) [] [0, 1, 2] ⟨hx, hb, hml, hown, hts⟩ (mX10_within l D cB cI cZ H.size t_strikings (nI 0) (nI 59) b6 e7) ⟨va_cnB 3 hts gX6_strikeOff_X10_within_n49 rfl rfl rfl (hN _ (List.mem_of_getElem? (i := 24) rfl)) (hts _ kX6_strikeOff_3) (by decide +kernel) ⟨Nat.le_of_ble_eq_true rfl, Nat.le_of_ble_eq_true rfl⟩, (hts _ kX6_strikeOff_4), trivial⟩ hK hN hZ hP hD hS hA rfl rfl rfl rfl rfl rfl hl.1 rfl (lv_room (Nat.le_of_ble_eq_true rfl)) dX6_strikeOff_24 ⟨Nat.le_of_ble_eq_true rfl, Nat.le_of_ble_eq_true rfl⟩ (fun H locs hP hD hS => ?_)
      have hP : va_P D vwCl [(a_t_strikingOrder, .inl (cI, 60, .inl t_strikingOrder)), (a_t_struck, .inl (cZ, 60, .inl t_struck)), (a_t, .inr (6, [.ref a_t_facts, .ref a_t_splits, .ref a_t_torn, .ref a_t_dropped, .ref a_t_waved, .ref a_t_struck, .ref a_t_strikingOrder, .int t_entered, .int t_strikings]))] H := hP
      have hD : va_D A [(a_t_strikingOrder, .inl (cI, 60, .inl t_strikingOrder)), (a_t_struck, .inl (cZ, 60, .inl t_struck)), (a_t, .inr (6, [.ref a_t_facts, .ref a_t_splits, .ref a_t_torn, .ref a_t_dropped, .ref a_t_waved, .ref a_t_struck, .ref a_t_strikingOrder, .int t_entered, .int t_strikings]))] := hD
      refine lv_if_ne (tgt := 32) hx hb dX6_strikeOff_27 (by decide) (fun c8 => ?_) (fun c8 => ?_)
      · have h := zz_f h c8
        refine lv_aload_n hx hb dX6_strikeOff_32 rfl (lv_at hl 0 rfl) ?_
        refine va_get (D := D) (ci := 6) (C := RX6) (T := TX6) (N := 9) hx hb hts qX6_strikeOff_X6 hown hK hP 2 rfl rfl 5 (by decide) (hts _ kX6_strikeOff_0) (fun _ h9 => h9) rfl dX6_strikeOff_33 ?_
        refine lv_iload_n hx hb dX6_strikeOff_36 rfl (lv_at hl 1 rfl) ?_
        refine lv_iconst (v := (nI 1)) hx hb dX6_strikeOff_37 rfl ?_
        obtain ⟨i9, h⟩ := zz_i h
        refine va_zast hx hb hK hP hD hS 1 2 rfl rfl i9 dX6_strikeOff_38 (fun H locs hP hD hS => ?_)
        have hP : va_P D vwCl [(a_t_strikingOrder, .inl (cI, 60, .inl t_strikingOrder)), (a_t_struck, .inl (cZ, 60, .inl (upd t_struck (x1).toNatClampNeg (vp_nar .boolean (nI 1))))), (a_t, .inr (6, [.ref a_t_facts, .ref a_t_splits, .ref a_t_torn, .ref a_t_dropped, .ref a_t_waved, .ref a_t_struck, .ref a_t_strikingOrder, .int t_entered, .int t_strikings]))] H := hP
        have hD : va_D A [(a_t_strikingOrder, .inl (cI, 60, .inl t_strikingOrder)), (a_t_struck, .inl (cZ, 60, .inl (upd t_struck (x1).toNatClampNeg (vp_nar .boolean (nI 1))))), (a_t, .inr (6, [.ref a_t_facts, .ref a_t_splits, .ref a_t_torn, .ref a_t_dropped, .ref a_t_waved, .ref a_t_struck, .ref a_t_strikingOrder, .int t_entered, .int t_strikings]))] := hD
        refine lv_aload_n hx hb dX6_strikeOff_39 rfl (lv_at hl 0 rfl) ?_
        refine va_get (D := D) (ci := 6) (C := RX6) (T := TX6) (N := 9) hx hb hts qX6_strikeOff_X6 hown hK hP 2 rfl rfl 6 (by decide) (hts _ kX6_strikeOff_5) (fun _ h9 => h9) rfl dX6_strikeOff_40 ?_
        refine lv_aload_n hx hb dX6_strikeOff_43 rfl (lv_at hl 0 rfl) ?_
        refine va_get (D := D) (ci := 6) (C := RX6) (T := TX6) (N := 9) hx hb hts qX6_strikeOff_X6 hown hK hP 2 rfl rfl 8 (by decide) (hts _ kX6_strikeOff_2) (fun _ h9 => h9) rfl dX6_strikeOff_44 ?_
        refine lv_iload_n hx hb dX6_strikeOff_47 rfl (lv_at hl 1 rfl) ?_
        obtain ⟨i10, h⟩ := zz_i h
        refine va_iast hx hb hK hP hD hS 0 1 rfl rfl i10 dX6_strikeOff_48 (fun H locs hP hD hS => ?_)
        have hP : va_P D vwCl [(a_t_strikingOrder, .inl (cI, 60, .inl (upd t_strikingOrder (t_strikings).toNatClampNeg x1))), (a_t_struck, .inl (cZ, 60, .inl (upd t_struck (x1).toNatClampNeg (vp_nar .boolean (nI 1))))), (a_t, .inr (6, [.ref a_t_facts, .ref a_t_splits, .ref a_t_torn, .ref a_t_dropped, .ref a_t_waved, .ref a_t_struck, .ref a_t_strikingOrder, .int t_entered, .int t_strikings]))] H := hP
        have hD : va_D A [(a_t_strikingOrder, .inl (cI, 60, .inl (upd t_strikingOrder (t_strikings).toNatClampNeg x1))), (a_t_struck, .inl (cZ, 60, .inl (upd t_struck (x1).toNatClampNeg (vp_nar .boolean (nI 1))))), (a_t, .inr (6, [.ref a_t_facts, .ref a_t_splits, .ref a_t_torn, .ref a_t_dropped, .ref a_t_waved, .ref a_t_struck, .ref a_t_strikingOrder, .int t_entered, .int t_strikings]))] := hD
        refine lv_aload_n hx hb dX6_strikeOff_49 rfl (lv_at hl 0 rfl) ?_
        refine lv_dup hx hb dX6_strikeOff_50 rfl ?_
        refine va_get (D := D) (ci := 6) (C := RX6) (T := TX6) (N := 9) hx hb hts qX6_strikeOff_X6 hown hK hP 2 rfl rfl 8 (by decide) (hts _ kX6_strikeOff_2) (fun _ h9 => h9) rfl dX6_strikeOff_51 ?_
        refine lv_iconst (v := (nI 1)) hx hb dX6_strikeOff_54 rfl ?_
        refine lv_iadd hx hb dX6_strikeOff_55 ?_
        refine va_put (D := D) (ci := 6) (ty := .int) (C := RX6) (T := TX6) (N := 9) hx hb hts qX6_strikeOff_X6 tyX6 tyX6_ok nmX6 hown hK hP hD hS 2 rfl rfl 8 (by decide) (hts _ kX6_strikeOff_2) (fun _ h9 => h9) rfl (by decide +kernel) rfl (by first | rfl | exact zz_fit) (Nat.le_of_ble_eq_true rfl) dX6_strikeOff_56 (fun H locs hP hD hS => ?_)
        have hP : va_P D vwCl [(a_t_strikingOrder, .inl (cI, 60, .inl (upd t_strikingOrder (t_strikings).toNatClampNeg x1))), (a_t_struck, .inl (cZ, 60, .inl (upd t_struck (x1).toNatClampNeg (vp_nar .boolean (nI 1))))), (a_t, .inr (6, [.ref a_t_facts, .ref a_t_splits, .ref a_t_torn, .ref a_t_dropped, .ref a_t_waved, .ref a_t_struck, .ref a_t_strikingOrder, .int t_entered, .int (t_strikings + (nI 1))]))] H := hP
        have hD : va_D A [(a_t_strikingOrder, .inl (cI, 60, .inl (upd t_strikingOrder (t_strikings).toNatClampNeg x1))), (a_t_struck, .inl (cZ, 60, .inl (upd t_struck (x1).toNatClampNeg (vp_nar .boolean (nI 1))))), (a_t, .inr (6, [.ref a_t_facts, .ref a_t_splits, .ref a_t_torn, .ref a_t_dropped, .ref a_t_waved, .ref a_t_struck, .ref a_t_strikingOrder, .int t_entered, .int (t_strikings + (nI 1))]))] := hD
        refine lv_iconst (v := (nI 1)) hx hb dX6_strikeOff_59 rfl ?_
        obtain ⟨j0_, g_⟩ := Prod.mk.inj (Option.some.inj h)
        obtain ⟨j1_, g_⟩ := Prod.mk.inj g_
        obtain ⟨j2_, g_⟩ := Prod.mk.inj g_
        have j3_ := g_
        subst j0_
        subst j1_
        subst j2_
        subst j3_
        exact W.zret (v := (nI 1)) hx hb hr rfl (fun t ht hW => ⟨⟨_, (), rfl, rfl, zPost.of hP hD hK ht hW [2, 0, 1] rfl rfl rfl⟩, hS.F ht⟩) hS.2.2 dX6_strikeOff_60
      · have h := zz_t h c8
        refine lv_iconst (v := (nI 0)) hx hb dX6_strikeOff_30 rfl ?_
        obtain ⟨j0_, g_⟩ := Prod.mk.inj (Option.some.inj h)
        obtain ⟨j1_, g_⟩ := Prod.mk.inj g_
        obtain ⟨j2_, g_⟩ := Prod.mk.inj g_
        have j3_ := g_
        subst j0_
        subst j1_
        subst j2_
        subst j3_
        exact W.zret (v := (nI 0)) hx hb hr rfl (fun t ht hW => ⟨⟨_, (), rfl, rfl, zPost.of hP hD hK ht hW [2, 0, 1] rfl rfl rfl⟩, hS.F ht⟩) hS.2.2 dX6_strikeOff_31
/-! RunDesk$Runners.takeStrikingBack -/
theorem dX6_takeStrikingBack_0 : decode cX6_takeStrikingBack 0 = .ok (.aload_n 0, 1) := by decide +kernel
theorem dX6_takeStrikingBack_1 : decode cX6_takeStrikingBack 1 = .ok (.getfield 38, 3) := by decide +kernel
theorem dX6_takeStrikingBack_4 : decode cX6_takeStrikingBack 4 = .ok (.iconst 1, 1) := by decide +kernel
theorem dX6_takeStrikingBack_5 : decode cX6_takeStrikingBack 5 = .ok (.bipush 60, 2) := by decide +kernel
theorem dX6_takeStrikingBack_7 : decode cX6_takeStrikingBack 7 = .ok (.invokestatic 49, 3) := by decide +kernel
theorem dX6_takeStrikingBack_10 : decode cX6_takeStrikingBack 10 = .ok (.ifCond .ne 5, 3) := by decide +kernel
theorem dX6_takeStrikingBack_13 : decode cX6_takeStrikingBack 13 = .ok (.iconst (-1), 1) := by decide +kernel
theorem dX6_takeStrikingBack_14 : decode cX6_takeStrikingBack 14 = .ok (.ireturn, 1) := by decide +kernel
theorem dX6_takeStrikingBack_15 : decode cX6_takeStrikingBack 15 = .ok (.aload_n 0, 1) := by decide +kernel
theorem dX6_takeStrikingBack_16 : decode cX6_takeStrikingBack 16 = .ok (.getfield 31, 3) := by decide +kernel
theorem dX6_takeStrikingBack_19 : decode cX6_takeStrikingBack 19 = .ok (.aload_n 0, 1) := by decide +kernel
theorem dX6_takeStrikingBack_20 : decode cX6_takeStrikingBack 20 = .ok (.getfield 38, 3) := by decide +kernel
theorem dX6_takeStrikingBack_23 : decode cX6_takeStrikingBack 23 = .ok (.iconst 1, 1) := by decide +kernel
theorem dX6_takeStrikingBack_24 : decode cX6_takeStrikingBack 24 = .ok (.isub, 1) := by decide +kernel
theorem dX6_takeStrikingBack_25 : decode cX6_takeStrikingBack 25 = .ok (.iaload, 1) := by decide +kernel
theorem dX6_takeStrikingBack_26 : decode cX6_takeStrikingBack 26 = .ok (.istore_n 1, 1) := by decide +kernel
theorem dX6_takeStrikingBack_27 : decode cX6_takeStrikingBack 27 = .ok (.aload_n 0, 1) := by decide +kernel
theorem dX6_takeStrikingBack_28 : decode cX6_takeStrikingBack 28 = .ok (.iload_n 1, 1) := by decide +kernel
theorem dX6_takeStrikingBack_29 : decode cX6_takeStrikingBack 29 = .ok (.invokevirtual 41, 3) := by decide +kernel
theorem dX6_takeStrikingBack_32 : decode cX6_takeStrikingBack 32 = .ok (.ifCond .ne 5, 3) := by decide +kernel
theorem dX6_takeStrikingBack_35 : decode cX6_takeStrikingBack 35 = .ok (.iconst (-1), 1) := by decide +kernel
theorem dX6_takeStrikingBack_36 : decode cX6_takeStrikingBack 36 = .ok (.ireturn, 1) := by decide +kernel
theorem dX6_takeStrikingBack_37 : decode cX6_takeStrikingBack 37 = .ok (.aload_n 0, 1) := by decide +kernel
theorem dX6_takeStrikingBack_38 : decode cX6_takeStrikingBack 38 = .ok (.dup, 1) := by decide +kernel
theorem dX6_takeStrikingBack_39 : decode cX6_takeStrikingBack 39 = .ok (.getfield 38, 3) := by decide +kernel
theorem dX6_takeStrikingBack_42 : decode cX6_takeStrikingBack 42 = .ok (.iconst 1, 1) := by decide +kernel
theorem dX6_takeStrikingBack_43 : decode cX6_takeStrikingBack 43 = .ok (.isub, 1) := by decide +kernel
theorem dX6_takeStrikingBack_44 : decode cX6_takeStrikingBack 44 = .ok (.putfield 38, 3) := by decide +kernel
theorem dX6_takeStrikingBack_47 : decode cX6_takeStrikingBack 47 = .ok (.aload_n 0, 1) := by decide +kernel
theorem dX6_takeStrikingBack_48 : decode cX6_takeStrikingBack 48 = .ok (.getfield 28, 3) := by decide +kernel
theorem dX6_takeStrikingBack_51 : decode cX6_takeStrikingBack 51 = .ok (.iload_n 1, 1) := by decide +kernel
theorem dX6_takeStrikingBack_52 : decode cX6_takeStrikingBack 52 = .ok (.iconst 0, 1) := by decide +kernel
theorem dX6_takeStrikingBack_53 : decode cX6_takeStrikingBack 53 = .ok (.bastore, 1) := by decide +kernel
theorem dX6_takeStrikingBack_54 : decode cX6_takeStrikingBack 54 = .ok (.iload_n 1, 1) := by decide +kernel
theorem dX6_takeStrikingBack_55 : decode cX6_takeStrikingBack 55 = .ok (.ireturn, 1) := by decide +kernel
set_option maxRecDepth 20000 in
theorem ggX6_takeStrikingBack_X10_within : GoodIn wsX6_takeStrikingBack wsX10_within := goodIn_r _ [6] (by decide +kernel) (by decide +kernel)
set_option maxRecDepth 20000 in
theorem gX6_takeStrikingBack_X10_within_n49 : GoodIn wsX6_takeStrikingBack (wsX10_within) := ggX6_takeStrikingBack_X10_within
set_option maxRecDepth 20000 in
theorem ggX6_takeStrikingBack_X6_has : GoodIn wsX6_takeStrikingBack wsX6_has := goodIn_r _ [11, 12, 13, 14, 15, 16, 17, 18, 19, 20, 21] (by decide +kernel) (by decide +kernel)
set_option maxRecDepth 20000 in
theorem gX6_takeStrikingBack_X6_has : GoodIn wsX6_takeStrikingBack (wsV RX6 41 RX6 yX6_has wsX6_has) := goodIn_app (goodIn_of _ (by decide +kernel)) ggX6_takeStrikingBack_X6_has
theorem kX6_takeStrikingBack_0 : (.fieldLink RX6 38 "RunDesk$Runners" "strikings" "I" : Cond) ∈ wsX6_takeStrikingBack := List.mem_of_getElem? (i := 1) (by decide +kernel)
theorem qX6_takeStrikingBack_X6 : ∀ w ∈ wsX60, w ∈ wsX6_takeStrikingBack := fun _ h => List.mem_cons_of_mem _ (List.mem_append_right _ (h))
theorem kX6_takeStrikingBack_2 : (.initialized RX10 : Cond) ∈ wsX6_takeStrikingBack := List.mem_of_getElem? (i := 5) (by decide +kernel)
theorem kX6_takeStrikingBack_3 : (.static yX10_within : Cond) ∈ wsX6_takeStrikingBack := List.mem_of_getElem? (i := 4) (by decide +kernel)
theorem kX6_takeStrikingBack_4 : (.fieldLink RX6 31 "RunDesk$Runners" "strikingOrder" "[I" : Cond) ∈ wsX6_takeStrikingBack := List.mem_of_getElem? (i := 2) (by decide +kernel)
theorem kX6_takeStrikingBack_5 : (.fieldLink RX6 28 "RunDesk$Runners" "struck" "[Z" : Cond) ∈ wsX6_takeStrikingBack := List.mem_of_getElem? (i := 3) (by decide +kernel)
set_option maxHeartbeats 4000000 in
set_option maxRecDepth 100000 in
theorem mX6_takeStrikingBack (l : Launch) (D : va_G) (cB cI cZ : ClassId) (a_t : Nat) (a_t_facts : Nat) (a_t_splits : Nat) (a_t_torn : Nat) (a_t_dropped : Nat) (a_t_waved : Nat) (a_t_struck : Nat) (a_t_strikingOrder : Nat) (t_entered : Int32) (t_strikings : Int32) (t_strikingOrder : Nat → Int32) (t_struck : Nat → Int32) (sz : Nat) (r0 : Int32) (t_strikings' : Int32) (t_struck' : Nat → Int32) (h : fX6_takeStrikingBack t_entered t_strikings t_strikingOrder t_struck = some (r0, t_strikings', t_struck')) : Met l yX6_takeStrikingBack wsX6_takeStrikingBack ({ frames := 1, cells := 0, slots := 0, locals := 22 } : Room) (va_Pc [.ref a_t] (zPre D (zT cB cI cZ) [(a_t, .inr (6, [.ref a_t_facts, .ref a_t_splits, .ref a_t_torn, .ref a_t_dropped, .ref a_t_waved, .ref a_t_struck, .ref a_t_strikingOrder, .int t_entered, .int t_strikings])), (a_t_strikingOrder, .inl (cI, 60, .inl t_strikingOrder)), (a_t_struck, .inl (cZ, 60, .inl t_struck))] sz)) (zQi r0 D (zT cB cI cZ) [(a_t, .inr (6, [.ref a_t_facts, .ref a_t_splits, .ref a_t_torn, .ref a_t_dropped, .ref a_t_waved, .ref a_t_struck, .ref a_t_strikingOrder, .int t_entered, .int t_strikings'])), (a_t_strikingOrder, .inl (cI, 60, .inl t_strikingOrder)), (a_t_struck, .inl (cZ, 60, .inl t_struck'))] (va_A [(a_t, .inr (6, [.ref a_t_facts, .ref a_t_splits, .ref a_t_torn, .ref a_t_dropped, .ref a_t_waved, .ref a_t_struck, .ref a_t_strikingOrder, .int t_entered, .int t_strikings])), (a_t_strikingOrder, .inl (cI, 60, .inl t_strikingOrder)), (a_t_struck, .inl (cZ, 60, .inl t_struck))] sz)) 0 0 (va_A [(a_t, .inr (6, [.ref a_t_facts, .ref a_t_splits, .ref a_t_torn, .ref a_t_dropped, .ref a_t_waved, .ref a_t_struck, .ref a_t_strikingOrder, .int t_entered, .int t_strikings])), (a_t_strikingOrder, .inl (cI, 60, .inl t_strikingOrder)), (a_t_struck, .inl (cZ, 60, .inl t_struck))] sz) := by
  refine Met.ofW (cc := cX6_takeStrikingBack) (maxL := 2) (ret := (some .int)) (by decide) rfl ?_
  intro p e s m args below meth c s₁ B hml hv
  obtain ⟨rfl, hsz, hP, hK, hN, hZ, hD0⟩ := hv
  have hx := B.exec
  have hb := B.bytes
  have hr := B.returns
  have hts := atoms_spec (ws := wsX6_takeStrikingBack) B.pre
  have hown : s.vm.findClass RX6 = some m.cls := findClass_of_methodNamed B.named
  have hlocks := B.notSynchronized
  subst hsz
  have hD := hD0.self (sz := s.heap.size)
  generalize hAe : va_A [(a_t, .inr (6, [.ref a_t_facts, .ref a_t_splits, .ref a_t_torn, .ref a_t_dropped, .ref a_t_waved, .ref a_t_struck, .ref a_t_strikingOrder, .int t_entered, .int t_strikings])), (a_t_strikingOrder, .inl (cI, 60, .inl t_strikingOrder)), (a_t_struck, .inl (cZ, 60, .inl t_struck))] s.heap.size = A at hD hZ ⊢
  have hA : ∀ q : Nat, s.heap.size ≤ q → A q := fun q h => by rw [← hAe]; exact Or.inr h
  have hS : va_S A s.heap s.heap [] := va_S.rf
  have hl := lv_entry ([.ref a_t]) (n := 2) (Nat.le_of_ble_eq_true rfl)
  rw [lg_entry_eq]
  generalize (lg_sl ([.ref a_t]) ++ List.replicate (2 - (lg_sl ([.ref a_t])).length) Slot.unset).toArray = ls at hl ⊢
  have hl : lv_has ls 2 [(0, .ref a_t)] := hl
  unfold fX6_takeStrikingBack at h
  refine lv_aload_n hx hb dX6_takeStrikingBack_0 rfl (lv_at hl 0 rfl) ?_
  refine va_get (D := D) (ci := 6) (C := RX6) (T := TX6) (N := 9) hx hb hts qX6_takeStrikingBack_X6 hown hK hP 0 rfl rfl 8 (by decide) (hts _ kX6_takeStrikingBack_0) (fun _ h9 => h9) rfl dX6_takeStrikingBack_1 ?_
  refine lv_iconst (v := (nI 1)) hx hb dX6_takeStrikingBack_4 rfl ?_
  refine lv_bipush (v := (nI 60)) hx hb dX6_takeStrikingBack_5 rfl ?_
  obtain ⟨b1, e2, h⟩ := zz_b h
  refine zNi (As := [.int t_strikings, .int (nI 1), .int (nI 60)]) (rest := []) (host := "RunDesk") (wr := [(a_t, .inr (6, [.ref a_t_facts, .ref a_t_splits, .ref a_t_torn, .ref a_t_dropped, .ref a_t_waved, .ref a_t_struck, .ref a_t_strikingOrder, .int t_entered, .int t_strikings])), (a_t_strikingOrder, .inl (cI, 60, .inl t_strikingOrder)), (a_t_struck, .inl (cZ, 60, .inl t_struck))]) [] [0, 1, 2] ⟨hx, hb, hml, hown, hts⟩ (mX10_within l D cB cI cZ s.heap.size t_strikings (nI 1) (nI 60) b1 e2) ⟨va_cnB 3 hts gX6_takeStrikingBack_X10_within_n49 rfl rfl rfl (hN _ (List.mem_of_getElem? (i := 24) rfl)) (hts _ kX6_takeStrikingBack_2) (by decide +kernel) ⟨Nat.le_of_ble_eq_true rfl, Nat.le_of_ble_eq_true rfl⟩, (hts _ kX6_takeStrikingBack_3), trivial⟩ hK hN hZ hP hD hS hA rfl rfl rfl rfl rfl rfl hl.1 rfl (lv_room (Nat.le_of_ble_eq_true rfl)) dX6_takeStrikingBack_7 ⟨Nat.le_of_ble_eq_true rfl, Nat.le_of_ble_eq_true rfl⟩ (fun H locs hP hD hS => ?_)
  have hP : va_P D vwCl [(a_t, .inr (6, [.ref a_t_facts, .ref a_t_splits, .ref a_t_torn, .ref a_t_dropped, .ref a_t_waved, .ref a_t_struck, .ref a_t_strikingOrder, .int t_entered, .int t_strikings])), (a_t_strikingOrder, .inl (cI, 60, .inl t_strikingOrder)), (a_t_struck, .inl (cZ, 60, .inl t_struck))] H := hP
  have hD : va_D A [(a_t, .inr (6, [.ref a_t_facts, .ref a_t_splits, .ref a_t_torn, .ref a_t_dropped, .ref a_t_waved, .ref a_t_struck, .ref a_t_strikingOrder, .int t_entered, .int t_strikings])), (a_t_strikingOrder, .inl (cI, 60, .inl t_strikingOrder)), (a_t_struck, .inl (cZ, 60, .inl t_struck))] := hD
  refine lv_if_ne (tgt := 15) hx hb dX6_takeStrikingBack_10 (by decide) (fun c3 => ?_) (fun c3 => ?_)
  · have h := zz_f h c3
    refine lv_aload_n hx hb dX6_takeStrikingBack_15 rfl (lv_at hl 0 rfl) ?_
    refine va_get (D := D) (ci := 6) (C := RX6) (T := TX6) (N := 9) hx hb hts qX6_takeStrikingBack_X6 hown hK hP 0 rfl rfl 6 (by decide) (hts _ kX6_takeStrikingBack_4) (fun _ h9 => h9) rfl dX6_takeStrikingBack_16 ?_
    refine lv_aload_n hx hb dX6_takeStrikingBack_19 rfl (lv_at hl 0 rfl) ?_
    refine va_get (D := D) (ci := 6) (C := RX6) (T := TX6) (N := 9) hx hb hts qX6_takeStrikingBack_X6 hown hK hP 0 rfl rfl 8 (by decide) (hts _ kX6_takeStrikingBack_0) (fun _ h9 => h9) rfl dX6_takeStrikingBack_20 ?_
    refine lv_iconst (v := (nI 1)) hx hb dX6_takeStrikingBack_23 rfl ?_
    refine lv_isub hx hb dX6_takeStrikingBack_24 ?_
    obtain ⟨i4, h⟩ := zz_i h
    refine va_iald hx hb hK hP 1 1 rfl rfl i4 dX6_takeStrikingBack_25 ?_
    refine lv_istore_n (lv' := [(1, .int (t_strikingOrder ((t_strikings - (nI 1))).toNatClampNeg)), (0, .ref a_t)]) hx hb dX6_takeStrikingBack_26 rfl hl (by decide) rfl (fun ls hl => ?_)
    refine lv_aload_n hx hb dX6_takeStrikingBack_27 rfl (lv_at hl 1 rfl) ?_
    refine lv_iload_n hx hb dX6_takeStrikingBack_28 rfl (lv_at hl 0 rfl) ?_
    obtain ⟨b5, e6, h⟩ := zz_b h
    refine zVi (As := [.int (t_strikingOrder ((t_strikings - (nI 1))).toNatClampNeg)]) (rest := []) (C := RX6) (wr := [(a_t_strikingOrder, .inl (cI, 60, .inl t_strikingOrder)), (a_t_struck, .inl (cZ, 60, .inl t_struck))]) [0] [1, 2] 0 ⟨hx, hb, hml, hown, hts⟩ (mX6_has l D cB cI cZ a_t a_t_facts a_t_splits a_t_torn a_t_dropped a_t_waved a_t_struck a_t_strikingOrder t_entered t_strikings H.size (t_strikingOrder ((t_strikings - (nI 1))).toNatClampNeg) b5 e6) (cwV 1 hts gX6_takeStrikingBack_X6_has rfl rfl rfl (by decide +kernel) ⟨Nat.le_of_ble_eq_true rfl, Nat.le_of_ble_eq_true rfl⟩) hK hN hZ hP hD hS hA rfl rfl rfl rfl rfl rfl rfl rfl hl.1 rfl (lv_room (Nat.le_of_ble_eq_true rfl)) dX6_takeStrikingBack_29 ⟨Nat.le_of_ble_eq_true rfl, Nat.le_of_ble_eq_true rfl⟩ (fun H locs hP hD hS => ?_)
    have hP : va_P D vwCl [(a_t_strikingOrder, .inl (cI, 60, .inl t_strikingOrder)), (a_t_struck, .inl (cZ, 60, .inl t_struck)), (a_t, .inr (6, [.ref a_t_facts, .ref a_t_splits, .ref a_t_torn, .ref a_t_dropped, .ref a_t_waved, .ref a_t_struck, .ref a_t_strikingOrder, .int t_entered, .int t_strikings]))] H := hP
    have hD : va_D A [(a_t_strikingOrder, .inl (cI, 60, .inl t_strikingOrder)), (a_t_struck, .inl (cZ, 60, .inl t_struck)), (a_t, .inr (6, [.ref a_t_facts, .ref a_t_splits, .ref a_t_torn, .ref a_t_dropped, .ref a_t_waved, .ref a_t_struck, .ref a_t_strikingOrder, .int t_entered, .int t_strikings]))] := hD
    refine lv_if_ne (tgt := 37) hx hb dX6_takeStrikingBack_32 (by decide) (fun c7 => ?_) (fun c7 => ?_)
    · have h := zz_f h c7
      refine lv_aload_n hx hb dX6_takeStrikingBack_37 rfl (lv_at hl 1 rfl) ?_
      refine lv_dup hx hb dX6_takeStrikingBack_38 rfl ?_
      refine va_get (D := D) (ci := 6) (C := RX6) (T := TX6) (N := 9) hx hb hts qX6_takeStrikingBack_X6 hown hK hP 2 rfl rfl 8 (by decide) (hts _ kX6_takeStrikingBack_0) (fun _ h9 => h9) rfl dX6_takeStrikingBack_39 ?_
      refine lv_iconst (v := (nI 1)) hx hb dX6_takeStrikingBack_42 rfl ?_
      refine lv_isub hx hb dX6_takeStrikingBack_43 ?_
      refine va_put (D := D) (ci := 6) (ty := .int) (C := RX6) (T := TX6) (N := 9) hx hb hts qX6_takeStrikingBack_X6 tyX6 tyX6_ok nmX6 hown hK hP hD hS 2 rfl rfl 8 (by decide) (hts _ kX6_takeStrikingBack_0) (fun _ h9 => h9) rfl (by decide +kernel) rfl (by first | rfl | exact zz_fit) (Nat.le_of_ble_eq_true rfl) dX6_takeStrikingBack_44 (fun H locs hP hD hS => ?_)
      have hP : va_P D vwCl [(a_t_strikingOrder, .inl (cI, 60, .inl t_strikingOrder)), (a_t_struck, .inl (cZ, 60, .inl t_struck)), (a_t, .inr (6, [.ref a_t_facts, .ref a_t_splits, .ref a_t_torn, .ref a_t_dropped, .ref a_t_waved, .ref a_t_struck, .ref a_t_strikingOrder, .int t_entered, .int (t_strikings - (nI 1))]))] H := hP
      have hD : va_D A [(a_t_strikingOrder, .inl (cI, 60, .inl t_strikingOrder)), (a_t_struck, .inl (cZ, 60, .inl t_struck)), (a_t, .inr (6, [.ref a_t_facts, .ref a_t_splits, .ref a_t_torn, .ref a_t_dropped, .ref a_t_waved, .ref a_t_struck, .ref a_t_strikingOrder, .int t_entered, .int (t_strikings - (nI 1))]))] := hD
      refine lv_aload_n hx hb dX6_takeStrikingBack_47 rfl (lv_at hl 1 rfl) ?_
      refine va_get (D := D) (ci := 6) (C := RX6) (T := TX6) (N := 9) hx hb hts qX6_takeStrikingBack_X6 hown hK hP 2 rfl rfl 5 (by decide) (hts _ kX6_takeStrikingBack_5) (fun _ h9 => h9) rfl dX6_takeStrikingBack_48 ?_
      refine lv_iload_n hx hb dX6_takeStrikingBack_51 rfl (lv_at hl 0 rfl) ?_
      refine lv_iconst (v := (nI 0)) hx hb dX6_takeStrikingBack_52 rfl ?_
      obtain ⟨i8, h⟩ := zz_i h
      refine va_zast hx hb hK hP hD hS 1 2 rfl rfl i8 dX6_takeStrikingBack_53 (fun H locs hP hD hS => ?_)
      have hP : va_P D vwCl [(a_t_strikingOrder, .inl (cI, 60, .inl t_strikingOrder)), (a_t_struck, .inl (cZ, 60, .inl (upd t_struck ((t_strikingOrder ((t_strikings - (nI 1))).toNatClampNeg)).toNatClampNeg (vp_nar .boolean (nI 0))))), (a_t, .inr (6, [.ref a_t_facts, .ref a_t_splits, .ref a_t_torn, .ref a_t_dropped, .ref a_t_waved, .ref a_t_struck, .ref a_t_strikingOrder, .int t_entered, .int (t_strikings - (nI 1))]))] H := hP
      have hD : va_D A [(a_t_strikingOrder, .inl (cI, 60, .inl t_strikingOrder)), (a_t_struck, .inl (cZ, 60, .inl (upd t_struck ((t_strikingOrder ((t_strikings - (nI 1))).toNatClampNeg)).toNatClampNeg (vp_nar .boolean (nI 0))))), (a_t, .inr (6, [.ref a_t_facts, .ref a_t_splits, .ref a_t_torn, .ref a_t_dropped, .ref a_t_waved, .ref a_t_struck, .ref a_t_strikingOrder, .int t_entered, .int (t_strikings - (nI 1))]))] := hD
      refine lv_iload_n hx hb dX6_takeStrikingBack_54 rfl (lv_at hl 0 rfl) ?_
      obtain ⟨j0_, g_⟩ := Prod.mk.inj (Option.some.inj h)
      obtain ⟨j1_, g_⟩ := Prod.mk.inj g_
      have j2_ := g_
      subst j0_
      subst j1_
      subst j2_
      exact W.iret (v := (t_strikingOrder ((t_strikings - (nI 1))).toNatClampNeg)) hx hb hr (fun t ht hW => ⟨⟨_, (), rfl, rfl, zPost.of hP hD hK ht hW [2, 0, 1] rfl rfl rfl⟩, hS.F ht⟩) hS.2.2 dX6_takeStrikingBack_55
    · have h := zz_t h c7
      refine lv_iconst (v := (-1 : Int32)) hx hb dX6_takeStrikingBack_35 rfl ?_
      obtain ⟨j0_, g_⟩ := Prod.mk.inj (Option.some.inj h)
      obtain ⟨j1_, g_⟩ := Prod.mk.inj g_
      have j2_ := g_
      subst j0_
      subst j1_
      subst j2_
      exact W.iret (v := (-1 : Int32)) hx hb hr (fun t ht hW => ⟨⟨_, (), rfl, rfl, zPost.of hP hD hK ht hW [2, 0, 1] rfl rfl rfl⟩, hS.F ht⟩) hS.2.2 dX6_takeStrikingBack_36
  · have h := zz_t h c3
    refine lv_iconst (v := (-1 : Int32)) hx hb dX6_takeStrikingBack_13 rfl ?_
    obtain ⟨j0_, g_⟩ := Prod.mk.inj (Option.some.inj h)
    obtain ⟨j1_, g_⟩ := Prod.mk.inj g_
    have j2_ := g_
    subst j0_
    subst j1_
    subst j2_
    exact W.iret (v := (-1 : Int32)) hx hb hr (fun t ht hW => ⟨⟨_, (), rfl, rfl, zPost.of hP hD hK ht hW [0, 1, 2] rfl rfl rfl⟩, hS.F ht⟩) hS.2.2 dX6_takeStrikingBack_14
/-! RunDesk$Runners.strikings -/
theorem dX6_strikings_0 : decode cX6_strikings 0 = .ok (.aload_n 0, 1) := by decide +kernel
theorem dX6_strikings_1 : decode cX6_strikings 1 = .ok (.getfield 38, 3) := by decide +kernel
theorem dX6_strikings_4 : decode cX6_strikings 4 = .ok (.ireturn, 1) := by decide +kernel
theorem kX6_strikings_0 : (.fieldLink RX6 38 "RunDesk$Runners" "strikings" "I" : Cond) ∈ wsX6_strikings := List.mem_of_getElem? (i := 1) (by decide +kernel)
theorem qX6_strikings_X6 : ∀ w ∈ wsX60, w ∈ wsX6_strikings := fun _ h => List.mem_cons_of_mem _ (List.mem_append_right _ (h))
set_option maxHeartbeats 4000000 in
set_option maxRecDepth 100000 in
theorem mX6_strikings (l : Launch) (D : va_G) (cB cI cZ : ClassId) (a_t : Nat) (a_t_facts : Nat) (a_t_splits : Nat) (a_t_torn : Nat) (a_t_dropped : Nat) (a_t_waved : Nat) (a_t_struck : Nat) (a_t_strikingOrder : Nat) (t_entered : Int32) (t_strikings : Int32) (sz : Nat) (r0 : Int32) (h : fX6_strikings t_strikings = some (r0)) : Met l yX6_strikings wsX6_strikings ({ frames := 0, cells := 0, slots := 0, locals := 0 } : Room) (va_Pc [.ref a_t] (zPre D (zT cB cI cZ) [(a_t, .inr (6, [.ref a_t_facts, .ref a_t_splits, .ref a_t_torn, .ref a_t_dropped, .ref a_t_waved, .ref a_t_struck, .ref a_t_strikingOrder, .int t_entered, .int t_strikings]))] sz)) (zQi r0 D (zT cB cI cZ) [(a_t, .inr (6, [.ref a_t_facts, .ref a_t_splits, .ref a_t_torn, .ref a_t_dropped, .ref a_t_waved, .ref a_t_struck, .ref a_t_strikingOrder, .int t_entered, .int t_strikings]))] (va_A [(a_t, .inr (6, [.ref a_t_facts, .ref a_t_splits, .ref a_t_torn, .ref a_t_dropped, .ref a_t_waved, .ref a_t_struck, .ref a_t_strikingOrder, .int t_entered, .int t_strikings]))] sz)) 0 0 (va_A [(a_t, .inr (6, [.ref a_t_facts, .ref a_t_splits, .ref a_t_torn, .ref a_t_dropped, .ref a_t_waved, .ref a_t_struck, .ref a_t_strikingOrder, .int t_entered, .int t_strikings]))] sz) := by
  refine Met.ofW (cc := cX6_strikings) (maxL := 1) (ret := (some .int)) (by decide) rfl ?_
  intro p e s m args below meth c s₁ B hml hv
  obtain ⟨rfl, hsz, hP, hK, hN, hZ, hD0⟩ := hv
  have hx := B.exec
  have hb := B.bytes
  have hr := B.returns
  have hts := atoms_spec (ws := wsX6_strikings) B.pre
  have hown : s.vm.findClass RX6 = some m.cls := findClass_of_methodNamed B.named
  have hlocks := B.notSynchronized
  subst hsz
  have hD := hD0.self (sz := s.heap.size)
  generalize hAe : va_A [(a_t, .inr (6, [.ref a_t_facts, .ref a_t_splits, .ref a_t_torn, .ref a_t_dropped, .ref a_t_waved, .ref a_t_struck, .ref a_t_strikingOrder, .int t_entered, .int t_strikings]))] s.heap.size = A at hD hZ ⊢
  have hA : ∀ q : Nat, s.heap.size ≤ q → A q := fun q h => by rw [← hAe]; exact Or.inr h
  have hS : va_S A s.heap s.heap [] := va_S.rf
  have hl := lv_entry ([.ref a_t]) (n := 1) (Nat.le_of_ble_eq_true rfl)
  rw [lg_entry_eq]
  generalize (lg_sl ([.ref a_t]) ++ List.replicate (1 - (lg_sl ([.ref a_t])).length) Slot.unset).toArray = ls at hl ⊢
  have hl : lv_has ls 1 [(0, .ref a_t)] := hl
  unfold fX6_strikings at h
  refine lv_aload_n hx hb dX6_strikings_0 rfl (lv_at hl 0 rfl) ?_
  refine va_get (D := D) (ci := 6) (C := RX6) (T := TX6) (N := 9) hx hb hts qX6_strikings_X6 hown hK hP 0 rfl rfl 8 (by decide) (hts _ kX6_strikings_0) (fun _ h9 => h9) rfl dX6_strikings_1 ?_
  have j0_ := Option.some.inj h
  subst j0_
  exact W.iret (v := t_strikings) hx hb hr (fun t ht hW => ⟨⟨_, (), rfl, rfl, zPost.of hP hD hK ht hW [0] rfl rfl rfl⟩, hS.F ht⟩) hS.2.2 dX6_strikings_4
/-! RunDesk$Text.howManyStand -/
theorem dX7_howManyStand_0 : decode cX7_howManyStand 0 = .ok (.iconst 0, 1) := by decide +kernel
theorem dX7_howManyStand_1 : decode cX7_howManyStand 1 = .ok (.istore_n 1, 1) := by decide +kernel
theorem dX7_howManyStand_2 : decode cX7_howManyStand 2 = .ok (.bipush 24, 2) := by decide +kernel
theorem dX7_howManyStand_4 : decode cX7_howManyStand 4 = .ok (.istore_n 2, 1) := by decide +kernel
theorem dX7_howManyStand_5 : decode cX7_howManyStand 5 = .ok (.iload_n 2, 1) := by decide +kernel
theorem dX7_howManyStand_6 : decode cX7_howManyStand 6 = .ok (.ifCond .lt 22, 3) := by decide +kernel
theorem dX7_howManyStand_9 : decode cX7_howManyStand 9 = .ok (.iload_n 0, 1) := by decide +kernel
theorem dX7_howManyStand_10 : decode cX7_howManyStand 10 = .ok (.iload_n 2, 1) := by decide +kernel
theorem dX7_howManyStand_11 : decode cX7_howManyStand 11 = .ok (.iushr, 1) := by decide +kernel
theorem dX7_howManyStand_12 : decode cX7_howManyStand 12 = .ok (.sipush 255, 3) := by decide +kernel
theorem dX7_howManyStand_15 : decode cX7_howManyStand 15 = .ok (.iand, 1) := by decide +kernel
theorem dX7_howManyStand_16 : decode cX7_howManyStand 16 = .ok (.ifCond .eq 6, 3) := by decide +kernel
theorem dX7_howManyStand_19 : decode cX7_howManyStand 19 = .ok (.iinc 1 1, 3) := by decide +kernel
theorem dX7_howManyStand_22 : decode cX7_howManyStand 22 = .ok (.iinc 2 (-8), 3) := by decide +kernel
theorem dX7_howManyStand_25 : decode cX7_howManyStand 25 = .ok (.goto (-20), 3) := by decide +kernel
theorem dX7_howManyStand_28 : decode cX7_howManyStand 28 = .ok (.iload_n 1, 1) := by decide +kernel
theorem dX7_howManyStand_29 : decode cX7_howManyStand 29 = .ok (.ireturn, 1) := by decide +kernel
set_option maxHeartbeats 4000000 in
set_option maxRecDepth 100000 in
theorem mX7_howManyStand (l : Launch) (D : va_G) (cB cI cZ : ClassId) (sz : Nat) (x1 : Int32) (N : Nat) (r0 : Int32) (h : fX7_howManyStand N x1 = some (r0)) : Met l yX7_howManyStand wsX7_howManyStand ({ frames := 0, cells := 0, slots := 0, locals := 0 } : Room) (va_Pc [.int x1] (zPre D (zT cB cI cZ) [] sz)) (zQi r0 D (zT cB cI cZ) [] (va_A [] sz)) 0 0 (va_A [] sz) := by
  refine Met.ofW (cc := cX7_howManyStand) (maxL := 3) (ret := (some .int)) (by decide) rfl ?_
  intro p e s m args below meth c s₁ B hml hv
  obtain ⟨rfl, hsz, hP, hK, hN, hZ, hD0⟩ := hv
  have hx := B.exec
  have hb := B.bytes
  have hr := B.returns
  have hts := atoms_spec (ws := wsX7_howManyStand) B.pre
  have hown : s.vm.findClass RX7 = some m.cls := findClass_of_methodNamed B.named
  have hlocks := B.notSynchronized
  subst hsz
  have hD := hD0.self (sz := s.heap.size)
  generalize hAe : va_A [] s.heap.size = A at hD hZ ⊢
  have hA : ∀ q : Nat, s.heap.size ≤ q → A q := fun q h => by rw [← hAe]; exact Or.inr h
  have hS : va_S A s.heap s.heap [] := va_S.rf
  have hl := lv_entry ([.int x1]) (n := 3) (Nat.le_of_ble_eq_true rfl)
  rw [lg_entry_eq]
  generalize (lg_sl ([.int x1]) ++ List.replicate (3 - (lg_sl ([.int x1])).length) Slot.unset).toArray = ls at hl ⊢
  have hl : lv_has ls 3 [(0, .int x1)] := hl
  unfold fX7_howManyStand at h
  refine lv_iconst (v := (nI 0)) hx hb dX7_howManyStand_0 rfl ?_
  refine lv_istore_n (lv' := [(1, .int (nI 0)), (0, .int x1)]) hx hb dX7_howManyStand_1 rfl hl (by decide) rfl (fun ls hl => ?_)
  refine lv_bipush (v := (nI 24)) hx hb dX7_howManyStand_2 rfl ?_
  refine lv_istore_n (lv' := [(2, .int (nI 24)), (1, .int (nI 0)), (0, .int x1)]) hx hb dX7_howManyStand_4 rfl hl (by decide) rfl (fun ls hl => ?_)
  have X5_28 : ∀ (v1_5 : Int32) (v2_5 : Int32) (H : Heap) (locs : List Loc) (ls : Array Slot), some (v1_5) = some (r0) → va_P D vwCl [] H → va_D A [] → va_S A s.heap H locs → lv_has ls 3 [(2, .int v2_5), (1, .int v1_5), (0, .int x1)] → W p l e (headSpec wsX7_howManyStand ({ frames := 0, cells := 0, slots := 0, locals := 0 } : Room)).room s m #[Value.int x1] below meth c H locs 0 0 (MQ below (zQi r0 D (zT cB cI cZ) [] A) #[Value.int x1] s 0 0 A) (F0 m 28 ls []) := by
    intro v1_5 v2_5 H locs ls h hP hD hS hl
    refine lv_iload_n hx hb dX7_howManyStand_28 rfl (lv_at hl 1 rfl) ?_
    have j0_ := Option.some.inj h
    subst j0_
    exact W.iret (v := v1_5) hx hb hr (fun t ht hW => ⟨⟨_, (), rfl, rfl, zPost.of hP hD hK ht hW [] rfl rfl rfl⟩, hS.F ht⟩) hS.2.2 dX7_howManyStand_29
  have L5 : ∀ (n : Nat) (v1_5 : Int32) (v2_5 : Int32) (H : Heap) (locs : List Loc) (ls : Array Slot), fX7_howManyStand_L5 x1 (fun (v1_5 : Int32) (v2_5 : Int32) => some (v1_5)) n v1_5 v2_5 = some (r0) → va_P D vwCl [] H → va_D A [] → va_S A s.heap H locs → lv_has ls 3 [(2, .int v2_5), (1, .int v1_5), (0, .int x1)] → W p l e (headSpec wsX7_howManyStand ({ frames := 0, cells := 0, slots := 0, locals := 0 } : Room)).room s m #[Value.int x1] below meth c H locs 0 0 (MQ below (zQi r0 D (zT cB cI cZ) [] A) #[Value.int x1] s 0 0 A) (F0 m 5 ls []) := by
    intro n
    induction n with
    | zero => intro _ _ H locs ls h hP hD hS hl; cases h
    | succ n5 ih5 =>
      intro v1_5 v2_5 H locs ls h hP hD hS hl
      rw [fX7_howManyStand_L5.eq_2] at h
      refine lv_iload_n hx hb dX7_howManyStand_5 rfl (lv_at hl 0 rfl) ?_
      refine lv_if_lt (tgt := 28) hx hb dX7_howManyStand_6 (by decide) (fun c1 => ?_) (fun c1 => ?_)
      · have h := zz_t h c1
        exact X5_28 v1_5 v2_5 _ _ _ h (hP.sub [] rfl) (hD.sub [] rfl rfl) hS (lv_sub hl [0, 1, 2] rfl)
      · have h := zz_f h c1
        refine lv_iload_n hx hb dX7_howManyStand_9 rfl (lv_at hl 2 rfl) ?_
        refine lv_iload_n hx hb dX7_howManyStand_10 rfl (lv_at hl 0 rfl) ?_
        refine lv_iushr hx hb dX7_howManyStand_11 rfl ?_
        refine lv_sipush (v := (nI 255)) hx hb dX7_howManyStand_12 rfl ?_
        refine lv_iand hx hb dX7_howManyStand_15 ?_
        refine lv_if_eq (tgt := 22) hx hb dX7_howManyStand_16 (by decide) (fun c2 => ?_) (fun c2 => ?_)
        · have h := zz_t h c2
          refine lv_iinc (v := (v2_5 + (-8 : Int32))) (lv' := [(2, .int (v2_5 + (-8 : Int32))), (1, .int v1_5), (0, .int x1)]) hx hb dX7_howManyStand_22 hl (k := 0) rfl rfl (by decide) rfl (fun ls hl => ?_)
          refine lv_goto (tgt := 5) hx hb dX7_howManyStand_25 (by decide) ?_
          exact ih5 v1_5 (v2_5 + (-8 : Int32)) _ _ _ h (hP.sub [] rfl) (hD.sub [] rfl rfl) hS (lv_sub hl [0, 1, 2] rfl)
        · have h := zz_f h c2
          refine lv_iinc (v := (v1_5 + (nI 1))) (lv' := [(1, .int (v1_5 + (nI 1))), (2, .int v2_5), (0, .int x1)]) hx hb dX7_howManyStand_19 hl (k := 1) rfl rfl (by decide) rfl (fun ls hl => ?_)
          refine lv_iinc (v := (v2_5 + (-8 : Int32))) (lv' := [(2, .int (v2_5 + (-8 : Int32))), (1, .int (v1_5 + (nI 1))), (0, .int x1)]) hx hb dX7_howManyStand_22 hl (k := 1) rfl rfl (by decide) rfl (fun ls hl => ?_)
          refine lv_goto (tgt := 5) hx hb dX7_howManyStand_25 (by decide) ?_
          exact ih5 (v1_5 + (nI 1)) (v2_5 + (-8 : Int32)) _ _ _ h (hP.sub [] rfl) (hD.sub [] rfl rfl) hS (lv_sub hl [0, 1, 2] rfl)
  exact L5 N (nI 0) (nI 24) _ _ _ h hP hD hS hl
/-! RunDesk$Text.append -/
theorem dX7_append_0 : decode cX7_append 0 = .ok (.aload_n 0, 1) := by decide +kernel
theorem dX7_append_1 : decode cX7_append 1 = .ok (.getfield 15, 3) := by decide +kernel
theorem dX7_append_4 : decode cX7_append 4 = .ok (.iload_n 1, 1) := by decide +kernel
theorem dX7_append_5 : decode cX7_append 5 = .ok (.invokestatic 19, 3) := by decide +kernel
theorem dX7_append_8 : decode cX7_append 8 = .ok (.iadd, 1) := by decide +kernel
theorem dX7_append_9 : decode cX7_append 9 = .ok (.sipush 200, 3) := by decide +kernel
theorem dX7_append_12 : decode cX7_append 12 = .ok (.if_icmp .le 5, 3) := by decide +kernel
theorem dX7_append_15 : decode cX7_append 15 = .ok (.iconst (-1), 1) := by decide +kernel
theorem dX7_append_16 : decode cX7_append 16 = .ok (.ireturn, 1) := by decide +kernel
theorem dX7_append_17 : decode cX7_append 17 = .ok (.bipush 24, 2) := by decide +kernel
theorem dX7_append_19 : decode cX7_append 19 = .ok (.istore_n 2, 1) := by decide +kernel
theorem dX7_append_20 : decode cX7_append 20 = .ok (.iload_n 2, 1) := by decide +kernel
theorem dX7_append_21 : decode cX7_append 21 = .ok (.ifCond .lt 58, 3) := by decide +kernel
theorem dX7_append_24 : decode cX7_append 24 = .ok (.iload_n 1, 1) := by decide +kernel
theorem dX7_append_25 : decode cX7_append 25 = .ok (.iload_n 2, 1) := by decide +kernel
theorem dX7_append_26 : decode cX7_append 26 = .ok (.iushr, 1) := by decide +kernel
theorem dX7_append_27 : decode cX7_append 27 = .ok (.sipush 255, 3) := by decide +kernel
theorem dX7_append_30 : decode cX7_append 30 = .ok (.iand, 1) := by decide +kernel
theorem dX7_append_31 : decode cX7_append 31 = .ok (.istore_n 3, 1) := by decide +kernel
theorem dX7_append_32 : decode cX7_append 32 = .ok (.iload_n 3, 1) := by decide +kernel
theorem dX7_append_33 : decode cX7_append 33 = .ok (.ifCond .eq 40, 3) := by decide +kernel
theorem dX7_append_36 : decode cX7_append 36 = .ok (.aload_n 0, 1) := by decide +kernel
theorem dX7_append_37 : decode cX7_append 37 = .ok (.getfield 15, 3) := by decide +kernel
theorem dX7_append_40 : decode cX7_append 40 = .ok (.ifCond .lt 33, 3) := by decide +kernel
theorem dX7_append_43 : decode cX7_append 43 = .ok (.aload_n 0, 1) := by decide +kernel
theorem dX7_append_44 : decode cX7_append 44 = .ok (.getfield 15, 3) := by decide +kernel
theorem dX7_append_47 : decode cX7_append 47 = .ok (.sipush 200, 3) := by decide +kernel
theorem dX7_append_50 : decode cX7_append 50 = .ok (.if_icmp .ge 23, 3) := by decide +kernel
theorem dX7_append_53 : decode cX7_append 53 = .ok (.aload_n 0, 1) := by decide +kernel
theorem dX7_append_54 : decode cX7_append 54 = .ok (.getfield 9, 3) := by decide +kernel
theorem dX7_append_57 : decode cX7_append 57 = .ok (.aload_n 0, 1) := by decide +kernel
theorem dX7_append_58 : decode cX7_append 58 = .ok (.getfield 15, 3) := by decide +kernel
theorem dX7_append_61 : decode cX7_append 61 = .ok (.iload_n 3, 1) := by decide +kernel
theorem dX7_append_62 : decode cX7_append 62 = .ok (.iastore, 1) := by decide +kernel
theorem dX7_append_63 : decode cX7_append 63 = .ok (.aload_n 0, 1) := by decide +kernel
theorem dX7_append_64 : decode cX7_append 64 = .ok (.dup, 1) := by decide +kernel
theorem dX7_append_65 : decode cX7_append 65 = .ok (.getfield 15, 3) := by decide +kernel
theorem dX7_append_68 : decode cX7_append 68 = .ok (.iconst 1, 1) := by decide +kernel
theorem dX7_append_69 : decode cX7_append 69 = .ok (.iadd, 1) := by decide +kernel
theorem dX7_append_70 : decode cX7_append 70 = .ok (.putfield 15, 3) := by decide +kernel
theorem dX7_append_73 : decode cX7_append 73 = .ok (.iinc 2 (-8), 3) := by decide +kernel
theorem dX7_append_76 : decode cX7_append 76 = .ok (.goto (-56), 3) := by decide +kernel
theorem dX7_append_79 : decode cX7_append 79 = .ok (.aload_n 0, 1) := by decide +kernel
theorem dX7_append_80 : decode cX7_append 80 = .ok (.getfield 15, 3) := by decide +kernel
theorem dX7_append_83 : decode cX7_append 83 = .ok (.ireturn, 1) := by decide +kernel
set_option maxRecDepth 20000 in
theorem ggX7_append_X7_howManyStand : GoodIn wsX7_append wsX7_howManyStand := goodIn_r _ [6] (by decide +kernel) (by decide +kernel)
set_option maxRecDepth 20000 in
theorem gX7_append_X7_howManyStand : GoodIn wsX7_append (va_wsS RX7 19 yX7_howManyStand wsX7_howManyStand) := goodIn_app (goodIn_of _ (by decide +kernel)) ggX7_append_X7_howManyStand
theorem kX7_append_0 : (.fieldLink RX7 15 "RunDesk$Text" "length" "I" : Cond) ∈ wsX7_append := List.mem_of_getElem? (i := 1) (by decide +kernel)
theorem qX7_append_X7 : ∀ w ∈ wsX70, w ∈ wsX7_append := fun _ h => List.mem_cons_of_mem _ (List.mem_append_right _ (h))
theorem kX7_append_2 : (.fieldLink RX7 9 "RunDesk$Text" "bytes" "[I" : Cond) ∈ wsX7_append := List.mem_of_getElem? (i := 2) (by decide +kernel)
set_option maxHeartbeats 4000000 in
set_option maxRecDepth 100000 in
theorem mX7_append (l : Launch) (D : va_G) (cB cI cZ : ClassId) (a_t : Nat) (a_t_bytes : Nat) (t_length : Int32) (t_bytes : Nat → Int32) (sz : Nat) (x1 : Int32) (N : Nat) (r0 : Int32) (t_length' : Int32) (t_bytes' : Nat → Int32) (h : fX7_append N t_length t_bytes x1 = some (r0, t_length', t_bytes')) : Met l yX7_append wsX7_append ({ frames := 1, cells := 0, slots := 0, locals := 22 } : Room) (va_Pc [.ref a_t, .int x1] (zPre D (zT cB cI cZ) [(a_t, .inr (7, [.ref a_t_bytes, .int t_length])), (a_t_bytes, .inl (cI, 200, .inl t_bytes))] sz)) (zQi r0 D (zT cB cI cZ) [(a_t, .inr (7, [.ref a_t_bytes, .int t_length'])), (a_t_bytes, .inl (cI, 200, .inl t_bytes'))] (va_A [(a_t, .inr (7, [.ref a_t_bytes, .int t_length])), (a_t_bytes, .inl (cI, 200, .inl t_bytes))] sz)) 0 0 (va_A [(a_t, .inr (7, [.ref a_t_bytes, .int t_length])), (a_t_bytes, .inl (cI, 200, .inl t_bytes))] sz) := by
  refine Met.ofW (cc := cX7_append) (maxL := 4) (ret := (some .int)) (by decide) rfl ?_
  intro p e s m args below meth c s₁ B hml hv
  obtain ⟨rfl, hsz, hP, hK, hN, hZ, hD0⟩ := hv
  have hx := B.exec
  have hb := B.bytes
  have hr := B.returns
  have hts := atoms_spec (ws := wsX7_append) B.pre
  have hown : s.vm.findClass RX7 = some m.cls := findClass_of_methodNamed B.named
  have hlocks := B.notSynchronized
  subst hsz
  have hD := hD0.self (sz := s.heap.size)
  generalize hAe : va_A [(a_t, .inr (7, [.ref a_t_bytes, .int t_length])), (a_t_bytes, .inl (cI, 200, .inl t_bytes))] s.heap.size = A at hD hZ ⊢
  have hA : ∀ q : Nat, s.heap.size ≤ q → A q := fun q h => by rw [← hAe]; exact Or.inr h
  have hS : va_S A s.heap s.heap [] := va_S.rf
  have hl := lv_entry ([.ref a_t, .int x1]) (n := 4) (Nat.le_of_ble_eq_true rfl)
  rw [lg_entry_eq]
  generalize (lg_sl ([.ref a_t, .int x1]) ++ List.replicate (4 - (lg_sl ([.ref a_t, .int x1])).length) Slot.unset).toArray = ls at hl ⊢
  have hl : lv_has ls 4 [(0, .ref a_t), (1, .int x1)] := hl
  unfold fX7_append at h
  refine lv_aload_n hx hb dX7_append_0 rfl (lv_at hl 0 rfl) ?_
  refine va_get (D := D) (ci := 7) (C := RX7) (T := TX7) (N := 2) hx hb hts qX7_append_X7 hown hK hP 0 rfl rfl 1 (by decide) (hts _ kX7_append_0) (fun _ h9 => h9) rfl dX7_append_1 ?_
  refine lv_iload_n hx hb dX7_append_4 rfl (lv_at hl 1 rfl) ?_
  obtain ⟨r1, e2, h⟩ := zz_b h
  refine zSi (As := [.int x1]) (rest := [.int t_length]) (wr := [(a_t, .inr (7, [.ref a_t_bytes, .int t_length])), (a_t_bytes, .inl (cI, 200, .inl t_bytes))]) [] [0, 1] ⟨hx, hb, hml, hown, hts⟩ (mX7_howManyStand l D cB cI cZ s.heap.size x1 N r1 e2) (va_cwS 1 hts gX7_append_X7_howManyStand rfl rfl rfl (by decide +kernel) ⟨Nat.le_of_ble_eq_true rfl, Nat.le_of_ble_eq_true rfl⟩) hK hN hZ hP hD hS hA rfl rfl rfl rfl rfl rfl hl.1 rfl (lv_room (Nat.le_of_ble_eq_true rfl)) dX7_append_5 ⟨Nat.le_of_ble_eq_true rfl, Nat.le_of_ble_eq_true rfl⟩ (fun H locs hP hD hS => ?_)
  have hP : va_P D vwCl [(a_t, .inr (7, [.ref a_t_bytes, .int t_length])), (a_t_bytes, .inl (cI, 200, .inl t_bytes))] H := hP
  have hD : va_D A [(a_t, .inr (7, [.ref a_t_bytes, .int t_length])), (a_t_bytes, .inl (cI, 200, .inl t_bytes))] := hD
  refine lv_iadd hx hb dX7_append_8 ?_
  refine lv_sipush (v := (nI 200)) hx hb dX7_append_9 rfl ?_
  refine lv_icmp_le (tgt := 17) hx hb dX7_append_12 (by decide) (fun c3 => ?_) (fun c3 => ?_)
  · have h := zz_t h c3
    refine lv_bipush (v := (nI 24)) hx hb dX7_append_17 rfl ?_
    refine lv_istore_n (lv' := [(2, .int (nI 24)), (0, .ref a_t), (1, .int x1)]) hx hb dX7_append_19 rfl hl (by decide) rfl (fun ls hl => ?_)
    have X20_79 : ∀ (v2_20 : Int32) (t_length_l20 : Int32) (t_bytes_l20 : Nat → Int32) (H : Heap) (locs : List Loc) (ls : Array Slot), some (t_length_l20, t_length_l20, t_bytes_l20) = some (r0, t_length', t_bytes') → va_P D vwCl [(a_t, .inr (7, [.ref a_t_bytes, .int t_length_l20])), (a_t_bytes, .inl (cI, 200, .inl t_bytes_l20))] H → va_D A [(a_t, .inr (7, [.ref a_t_bytes, .int t_length_l20])), (a_t_bytes, .inl (cI, 200, .inl t_bytes_l20))] → va_S A s.heap H locs → lv_has ls 4 [(2, .int v2_20), (0, .ref a_t), (1, .int x1)] → W p l e (headSpec wsX7_append ({ frames := 1, cells := 0, slots := 0, locals := 22 } : Room)).room s m #[Value.ref a_t, Value.int x1] below meth c H locs 0 0 (MQ below (zQi r0 D (zT cB cI cZ) [(a_t, .inr (7, [.ref a_t_bytes, .int t_length'])), (a_t_bytes, .inl (cI, 200, .inl t_bytes'))] A) #[Value.ref a_t, Value.int x1] s 0 0 A) (F0 m 79 ls []) := by
      intro v2_20 t_length_l20 t_bytes_l20 H locs ls h hP hD hS hl
      refine lv_aload_n hx hb dX7_append_79 rfl (lv_at hl 1 rfl) ?_
      refine va_get (D := D) (ci := 7) (C := RX7) (T := TX7) (N := 2) hx hb hts qX7_append_X7 hown hK hP 0 rfl rfl 1 (by decide) (hts _ kX7_append_0) (fun _ h9 => h9) rfl dX7_append_80 ?_
      obtain ⟨j0_, g_⟩ := Prod.mk.inj (Option.some.inj h)
      obtain ⟨j1_, g_⟩ := Prod.mk.inj g_
      have j2_ := g_
      subst j0_
      subst j1_
      subst j2_
      exact W.iret (v := t_length_l20) hx hb hr (fun t ht hW => ⟨⟨_, (), rfl, rfl, zPost.of hP hD hK ht hW [0, 1] rfl rfl rfl⟩, hS.F ht⟩) hS.2.2 dX7_append_83
    have L20 : ∀ (n : Nat) (v2_20 : Int32) (t_length_l20 : Int32) (t_bytes_l20 : Nat → Int32) (H : Heap) (locs : List Loc) (ls : Array Slot), fX7_append_L20 x1 (fun (v2_20 : Int32) (t_length_l20 : Int32) (t_bytes_l20 : Nat → Int32) => some (t_length_l20, t_length_l20, t_bytes_l20)) n v2_20 t_length_l20 t_bytes_l20 = some (r0, t_length', t_bytes') → va_P D vwCl [(a_t, .inr (7, [.ref a_t_bytes, .int t_length_l20])), (a_t_bytes, .inl (cI, 200, .inl t_bytes_l20))] H → va_D A [(a_t, .inr (7, [.ref a_t_bytes, .int t_length_l20])), (a_t_bytes, .inl (cI, 200, .inl t_bytes_l20))] → va_S A s.heap H locs → lv_has ls 4 [(2, .int v2_20), (0, .ref a_t), (1, .int x1)] → W p l e (headSpec wsX7_append ({ frames := 1, cells := 0, slots := 0, locals := 22 } : Room)).room s m #[Value.ref a_t, Value.int x1] below meth c H locs 0 0 (MQ below (zQi r0 D (zT cB cI cZ) [(a_t, .inr (7, [.ref a_t_bytes, .int t_length'])), (a_t_bytes, .inl (cI, 200, .inl t_bytes'))] A) #[Value.ref a_t, Value.int x1] s 0 0 A) (F0 m 20 ls []) := by
      intro n
      induction n with
      | zero => intro _ _ _ H locs ls h hP hD hS hl; cases h
      | succ n20 ih20 =>
        intro v2_20 t_length_l20 t_bytes_l20 H locs ls h hP hD hS hl
        rw [fX7_append_L20.eq_2] at h
        refine lv_iload_n hx hb dX7_append_20 rfl (lv_at hl 0 rfl) ?_
        refine lv_if_lt (tgt := 79) hx hb dX7_append_21 (by decide) (fun c4 => ?_) (fun c4 => ?_)
        · have h := zz_t h c4
          exact X20_79 v2_20 t_length_l20 t_bytes_l20 _ _ _ h (hP.sub [0, 1] rfl) (hD.sub [0, 1] rfl rfl) hS (lv_sub hl [0, 1, 2] rfl)
        · have h := zz_f h c4
          refine lv_iload_n hx hb dX7_append_24 rfl (lv_at hl 2 rfl) ?_
          refine lv_iload_n hx hb dX7_append_25 rfl (lv_at hl 0 rfl) ?_
          refine lv_iushr hx hb dX7_append_26 rfl ?_
          refine lv_sipush (v := (nI 255)) hx hb dX7_append_27 rfl ?_
          refine lv_iand hx hb dX7_append_30 ?_
          refine lv_istore_n (lv' := [(3, .int (((x1).toUInt32 >>> ((v2_20).toUInt32 &&& Int32.toUInt32 31)).toInt32 &&& (nI 255))), (2, .int v2_20), (0, .ref a_t), (1, .int x1)]) hx hb dX7_append_31 rfl hl (by decide) rfl (fun ls hl => ?_)
          refine lv_iload_n hx hb dX7_append_32 rfl (lv_at hl 0 rfl) ?_
          refine lv_if_eq (tgt := 73) hx hb dX7_append_33 (by decide) (fun c5 => ?_) (fun c5 => ?_)
          · have h := zz_t h c5
            refine lv_iinc (v := (v2_20 + (-8 : Int32))) (lv' := [(2, .int (v2_20 + (-8 : Int32))), (3, .int (((x1).toUInt32 >>> ((v2_20).toUInt32 &&& Int32.toUInt32 31)).toInt32 &&& (nI 255))), (0, .ref a_t), (1, .int x1)]) hx hb dX7_append_73 hl (k := 1) rfl rfl (by decide) rfl (fun ls hl => ?_)
            refine lv_goto (tgt := 20) hx hb dX7_append_76 (by decide) ?_
            exact ih20 (v2_20 + (-8 : Int32)) t_length_l20 t_bytes_l20 _ _ _ h (hP.sub [0, 1] rfl) (hD.sub [0, 1] rfl rfl) hS (lv_sub hl [0, 2, 3] rfl)
          · have h := zz_f h c5
            refine lv_aload_n hx hb dX7_append_36 rfl (lv_at hl 2 rfl) ?_
            refine va_get (D := D) (ci := 7) (C := RX7) (T := TX7) (N := 2) hx hb hts qX7_append_X7 hown hK hP 0 rfl rfl 1 (by decide) (hts _ kX7_append_0) (fun _ h9 => h9) rfl dX7_append_37 ?_
            refine lv_if_lt (tgt := 73) hx hb dX7_append_40 (by decide) (fun c6 => ?_) (fun c6 => ?_)
            · have h := zz_t h c6
              refine lv_iinc (v := (v2_20 + (-8 : Int32))) (lv' := [(2, .int (v2_20 + (-8 : Int32))), (3, .int (((x1).toUInt32 >>> ((v2_20).toUInt32 &&& Int32.toUInt32 31)).toInt32 &&& (nI 255))), (0, .ref a_t), (1, .int x1)]) hx hb dX7_append_73 hl (k := 1) rfl rfl (by decide) rfl (fun ls hl => ?_)
              refine lv_goto (tgt := 20) hx hb dX7_append_76 (by decide) ?_
              exact ih20 (v2_20 + (-8 : Int32)) t_length_l20 t_bytes_l20 _ _ _ h (hP.sub [0, 1] rfl) (hD.sub [0, 1] rfl rfl) hS (lv_sub hl [0, 2, 3] rfl)
            · have h := zz_f h c6
              refine lv_aload_n hx hb dX7_append_43 rfl (lv_at hl 2 rfl) ?_
              refine va_get (D := D) (ci := 7) (C := RX7) (T := TX7) (N := 2) hx hb hts qX7_append_X7 hown hK hP 0 rfl rfl 1 (by decide) (hts _ kX7_append_0) (fun _ h9 => h9) rfl dX7_append_44 ?_
              refine lv_sipush (v := (nI 200)) hx hb dX7_append_47 rfl ?_
              refine lv_icmp_ge (tgt := 73) hx hb dX7_append_50 (by decide) (fun c7 => ?_) (fun c7 => ?_)
              · have h := zz_t h c7
                refine lv_iinc (v := (v2_20 + (-8 : Int32))) (lv' := [(2, .int (v2_20 + (-8 : Int32))), (3, .int (((x1).toUInt32 >>> ((v2_20).toUInt32 &&& Int32.toUInt32 31)).toInt32 &&& (nI 255))), (0, .ref a_t), (1, .int x1)]) hx hb dX7_append_73 hl (k := 1) rfl rfl (by decide) rfl (fun ls hl => ?_)
                refine lv_goto (tgt := 20) hx hb dX7_append_76 (by decide) ?_
                exact ih20 (v2_20 + (-8 : Int32)) t_length_l20 t_bytes_l20 _ _ _ h (hP.sub [0, 1] rfl) (hD.sub [0, 1] rfl rfl) hS (lv_sub hl [0, 2, 3] rfl)
              · have h := zz_f h c7
                refine lv_aload_n hx hb dX7_append_53 rfl (lv_at hl 2 rfl) ?_
                refine va_get (D := D) (ci := 7) (C := RX7) (T := TX7) (N := 2) hx hb hts qX7_append_X7 hown hK hP 0 rfl rfl 0 (by decide) (hts _ kX7_append_2) (fun _ h9 => h9) rfl dX7_append_54 ?_
                refine lv_aload_n hx hb dX7_append_57 rfl (lv_at hl 2 rfl) ?_
                refine va_get (D := D) (ci := 7) (C := RX7) (T := TX7) (N := 2) hx hb hts qX7_append_X7 hown hK hP 0 rfl rfl 1 (by decide) (hts _ kX7_append_0) (fun _ h9 => h9) rfl dX7_append_58 ?_
                refine lv_iload_n hx hb dX7_append_61 rfl (lv_at hl 0 rfl) ?_
                obtain ⟨i8, h⟩ := zz_i h
                refine va_iast hx hb hK hP hD hS 1 1 rfl rfl i8 dX7_append_62 (fun H locs hP hD hS => ?_)
                have hP : va_P D vwCl [(a_t, .inr (7, [.ref a_t_bytes, .int t_length_l20])), (a_t_bytes, .inl (cI, 200, .inl (upd t_bytes_l20 (t_length_l20).toNatClampNeg (((x1).toUInt32 >>> ((v2_20).toUInt32 &&& Int32.toUInt32 31)).toInt32 &&& (nI 255)))))] H := hP
                have hD : va_D A [(a_t, .inr (7, [.ref a_t_bytes, .int t_length_l20])), (a_t_bytes, .inl (cI, 200, .inl (upd t_bytes_l20 (t_length_l20).toNatClampNeg (((x1).toUInt32 >>> ((v2_20).toUInt32 &&& Int32.toUInt32 31)).toInt32 &&& (nI 255)))))] := hD
                refine lv_aload_n hx hb dX7_append_63 rfl (lv_at hl 2 rfl) ?_
                refine lv_dup hx hb dX7_append_64 rfl ?_
                refine va_get (D := D) (ci := 7) (C := RX7) (T := TX7) (N := 2) hx hb hts qX7_append_X7 hown hK hP 0 rfl rfl 1 (by decide) (hts _ kX7_append_0) (fun _ h9 => h9) rfl dX7_append_65 ?_
                refine lv_iconst (v := (nI 1)) hx hb dX7_append_68 rfl ?_
                refine lv_iadd hx hb dX7_append_69 ?_
                refine va_put (D := D) (ci := 7) (ty := .int) (C := RX7) (T := TX7) (N := 2) hx hb hts qX7_append_X7 tyX7 tyX7_ok nmX7 hown hK hP hD hS 0 rfl rfl 1 (by decide) (hts _ kX7_append_0) (fun _ h9 => h9) rfl (by decide +kernel) rfl (by first | rfl | exact zz_fit) (Nat.le_of_ble_eq_true rfl) dX7_append_70 (fun H locs hP hD hS => ?_)
                have hP : va_P D vwCl [(a_t, .inr (7, [.ref a_t_bytes, .int (t_length_l20 + (nI 1))])), (a_t_bytes, .inl (cI, 200, .inl (upd t_bytes_l20 (t_length_l20).toNatClampNeg (((x1).toUInt32 >>> ((v2_20).toUInt32 &&& Int32.toUInt32 31)).toInt32 &&& (nI 255)))))] H := hP
                have hD : va_D A [(a_t, .inr (7, [.ref a_t_bytes, .int (t_length_l20 + (nI 1))])), (a_t_bytes, .inl (cI, 200, .inl (upd t_bytes_l20 (t_length_l20).toNatClampNeg (((x1).toUInt32 >>> ((v2_20).toUInt32 &&& Int32.toUInt32 31)).toInt32 &&& (nI 255)))))] := hD
                refine lv_iinc (v := (v2_20 + (-8 : Int32))) (lv' := [(2, .int (v2_20 + (-8 : Int32))), (3, .int (((x1).toUInt32 >>> ((v2_20).toUInt32 &&& Int32.toUInt32 31)).toInt32 &&& (nI 255))), (0, .ref a_t), (1, .int x1)]) hx hb dX7_append_73 hl (k := 1) rfl rfl (by decide) rfl (fun ls hl => ?_)
                refine lv_goto (tgt := 20) hx hb dX7_append_76 (by decide) ?_
                exact ih20 (v2_20 + (-8 : Int32)) (t_length_l20 + (nI 1)) (upd t_bytes_l20 (t_length_l20).toNatClampNeg (((x1).toUInt32 >>> ((v2_20).toUInt32 &&& Int32.toUInt32 31)).toInt32 &&& (nI 255))) _ _ _ h (hP.sub [0, 1] rfl) (hD.sub [0, 1] rfl rfl) hS (lv_sub hl [0, 2, 3] rfl)
    exact L20 N (nI 24) t_length t_bytes _ _ _ h hP hD hS hl
  · have h := zz_f h c3
    refine lv_iconst (v := (-1 : Int32)) hx hb dX7_append_15 rfl ?_
    obtain ⟨j0_, g_⟩ := Prod.mk.inj (Option.some.inj h)
    obtain ⟨j1_, g_⟩ := Prod.mk.inj g_
    have j2_ := g_
    subst j0_
    subst j1_
    subst j2_
    exact W.iret (v := (-1 : Int32)) hx hb hr (fun t ht hW => ⟨⟨_, (), rfl, rfl, zPost.of hP hD hK ht hW [0, 1] rfl rfl rfl⟩, hS.F ht⟩) hS.2.2 dX7_append_16
