/-! RunDesk$Text.shorten -/
theorem dX7_shorten_0 : decode cX7_shorten 0 = .ok (.iload_n 1, 1) := by decide +kernel
theorem dX7_shorten_1 : decode cX7_shorten 1 = .ok (.iconst 0, 1) := by decide +kernel
theorem dX7_shorten_2 : decode cX7_shorten 2 = .ok (.aload_n 0, 1) := by decide +kernel
theorem dX7_shorten_3 : decode cX7_shorten 3 = .ok (.getfield 15, 3) := by decide +kernel
theorem dX7_shorten_6 : decode cX7_shorten 6 = .ok (.invokestatic 23, 3) := by decide +kernel
theorem dX7_shorten_9 : decode cX7_shorten 9 = .ok (.ifCond .ne 5, 3) := by decide +kernel
theorem dX7_shorten_12 : decode cX7_shorten 12 = .ok (.iconst 0, 1) := by decide +kernel
theorem dX7_shorten_13 : decode cX7_shorten 13 = .ok (.ireturn, 1) := by decide +kernel
theorem dX7_shorten_14 : decode cX7_shorten 14 = .ok (.aload_n 0, 1) := by decide +kernel
theorem dX7_shorten_15 : decode cX7_shorten 15 = .ok (.iload_n 1, 1) := by decide +kernel
theorem dX7_shorten_16 : decode cX7_shorten 16 = .ok (.putfield 15, 3) := by decide +kernel
theorem dX7_shorten_19 : decode cX7_shorten 19 = .ok (.iconst 1, 1) := by decide +kernel
theorem dX7_shorten_20 : decode cX7_shorten 20 = .ok (.ireturn, 1) := by decide +kernel
set_option maxRecDepth 20000 in
theorem ggX7_shorten_X10_within : GoodIn wsX7_shorten wsX10_within := goodIn_r _ [4] (by decide +kernel) (by decide +kernel)
set_option maxRecDepth 20000 in
theorem gX7_shorten_X10_within_n23 : GoodIn wsX7_shorten (wsX10_within) := ggX7_shorten_X10_within
theorem kX7_shorten_0 : (.fieldLink RX7 15 "RunDesk$Text" "length" "I" : Cond) ∈ wsX7_shorten := List.mem_of_getElem? (i := 1) (by decide +kernel)
theorem qX7_shorten_X7 : ∀ w ∈ wsX70, w ∈ wsX7_shorten := fun _ h => List.mem_cons_of_mem _ (List.mem_append_right _ (h))
theorem kX7_shorten_2 : (.initialized RX10 : Cond) ∈ wsX7_shorten := List.mem_of_getElem? (i := 3) (by decide +kernel)
theorem kX7_shorten_3 : (.static yX10_within : Cond) ∈ wsX7_shorten := List.mem_of_getElem? (i := 2) (by decide +kernel)
set_option maxHeartbeats 4000000 in
set_option maxRecDepth 100000 in
theorem mX7_shorten (l : Launch) (D : va_G) (cB cI cZ : ClassId) (a_t : Nat) (a_t_bytes : Nat) (t_length : Int32) (sz : Nat) (x1 : Int32) (b0 : Bool) (t_length' : Int32) (h : fX7_shorten t_length x1 = some (b0, t_length')) : Met l yX7_shorten wsX7_shorten ({ frames := 1, cells := 0, slots := 0, locals := 22 } : Room) (va_Pc [.ref a_t, .int x1] (zPre D (zT cB cI cZ) [(a_t, .inr (7, [.ref a_t_bytes, .int t_length]))] sz)) (zQi (zb b0) D (zT cB cI cZ) [(a_t, .inr (7, [.ref a_t_bytes, .int t_length']))] (va_A [(a_t, .inr (7, [.ref a_t_bytes, .int t_length]))] sz)) 0 0 (va_A [(a_t, .inr (7, [.ref a_t_bytes, .int t_length]))] sz) := by
  refine Met.ofW (cc := cX7_shorten) (maxL := 2) (ret := (some .boolean)) (by decide) rfl ?_
  intro p e s m args below meth c s₁ B hml hv
  obtain ⟨rfl, hsz, hP, hK, hN, hZ, hD0⟩ := hv
  have hx := B.exec
  have hb := B.bytes
  have hr := B.returns
  have hts := atoms_spec (ws := wsX7_shorten) B.pre
  have hown : s.vm.findClass RX7 = some m.cls := findClass_of_methodNamed B.named
  have hlocks := B.notSynchronized
  subst hsz
  have hD := hD0.self (sz := s.heap.size)
  generalize hAe : va_A [(a_t, .inr (7, [.ref a_t_bytes, .int t_length]))] s.heap.size = A at hD hZ ⊢
  have hA : ∀ q : Nat, s.heap.size ≤ q → A q := fun q h => by rw [← hAe]; exact Or.inr h
  have hS : va_S A s.heap s.heap [] := va_S.rf
  have hl := lv_entry ([.ref a_t, .int x1]) (n := 2) (Nat.le_of_ble_eq_true rfl)
  rw [lg_entry_eq]
  generalize (lg_sl ([.ref a_t, .int x1]) ++ List.replicate (2 - (lg_sl ([.ref a_t, .int x1])).length) Slot.unset).toArray = ls at hl ⊢
  have hl : lv_has ls 2 [(0, .ref a_t), (1, .int x1)] := hl
  unfold fX7_shorten at h
  refine lv_iload_n hx hb dX7_shorten_0 rfl (lv_at hl 1 rfl) ?_
  refine lv_iconst (v := (nI 0)) hx hb dX7_shorten_1 rfl ?_
  refine lv_aload_n hx hb dX7_shorten_2 rfl (lv_at hl 0 rfl) ?_
  refine va_get (D := D) (ci := 7) (C := RX7) (T := TX7) (N := 2) hx hb hts qX7_shorten_X7 hown hK hP 0 rfl rfl 1 (by decide) (hts _ kX7_shorten_0) (fun _ h9 => h9) rfl dX7_shorten_3 ?_
  obtain ⟨b1, e2, h⟩ := zz_b h
  refine zNi (As := [.int x1, .int (nI 0), .int t_length]) (rest := []) (host := "RunDesk") (wr := [(a_t, .inr (7, [.ref a_t_bytes, .int t_length]))]) [] [0] ⟨hx, hb, hml, hown, hts⟩ (mX10_within l D cB cI cZ s.heap.size x1 (nI 0) t_length b1 e2) ⟨va_cnB 3 hts gX7_shorten_X10_within_n23 rfl rfl rfl (hN _ (List.mem_of_getElem? (i := 32) rfl)) (hts _ kX7_shorten_2) (by decide +kernel) ⟨Nat.le_of_ble_eq_true rfl, Nat.le_of_ble_eq_true rfl⟩, (hts _ kX7_shorten_3), trivial⟩ hK hN hZ hP hD hS hA rfl rfl rfl rfl rfl rfl hl.1 rfl (lv_room (Nat.le_of_ble_eq_true rfl)) dX7_shorten_6 ⟨Nat.le_of_ble_eq_true rfl, Nat.le_of_ble_eq_true rfl⟩ (fun H locs hP hD hS => ?_)
  have hP : va_P D vwCl [(a_t, .inr (7, [.ref a_t_bytes, .int t_length]))] H := hP
  have hD : va_D A [(a_t, .inr (7, [.ref a_t_bytes, .int t_length]))] := hD
  refine lv_if_ne (tgt := 14) hx hb dX7_shorten_9 (by decide) (fun c3 => ?_) (fun c3 => ?_)
  · have h := zz_f h c3
    refine lv_aload_n hx hb dX7_shorten_14 rfl (lv_at hl 0 rfl) ?_
    refine lv_iload_n hx hb dX7_shorten_15 rfl (lv_at hl 1 rfl) ?_
    refine va_put (D := D) (ci := 7) (ty := .int) (C := RX7) (T := TX7) (N := 2) hx hb hts qX7_shorten_X7 tyX7 tyX7_ok nmX7 hown hK hP hD hS 0 rfl rfl 1 (by decide) (hts _ kX7_shorten_0) (fun _ h9 => h9) rfl (by decide +kernel) rfl (by first | rfl | exact zz_fit) (Nat.le_of_ble_eq_true rfl) dX7_shorten_16 (fun H locs hP hD hS => ?_)
    have hP : va_P D vwCl [(a_t, .inr (7, [.ref a_t_bytes, .int x1]))] H := hP
    have hD : va_D A [(a_t, .inr (7, [.ref a_t_bytes, .int x1]))] := hD
    refine lv_iconst (v := (nI 1)) hx hb dX7_shorten_19 rfl ?_
    obtain ⟨j0_, g_⟩ := Prod.mk.inj (Option.some.inj h)
    have j1_ := g_
    subst j0_
    subst j1_
    exact W.zret (v := (nI 1)) hx hb hr rfl (fun t ht hW => ⟨⟨_, (), rfl, rfl, zPost.of hP hD hK ht hW [0] rfl rfl rfl⟩, hS.F ht⟩) hS.2.2 dX7_shorten_20
  · have h := zz_t h c3
    refine lv_iconst (v := (nI 0)) hx hb dX7_shorten_12 rfl ?_
    obtain ⟨j0_, g_⟩ := Prod.mk.inj (Option.some.inj h)
    have j1_ := g_
    subst j0_
    subst j1_
    exact W.zret (v := (nI 0)) hx hb hr rfl (fun t ht hW => ⟨⟨_, (), rfl, rfl, zPost.of hP hD hK ht hW [0] rfl rfl rfl⟩, hS.F ht⟩) hS.2.2 dX7_shorten_13
/-! RunDesk$Way.farthest -/
theorem dX9_farthest_0 : decode cX9_farthest 0 = .ok (.aload_n 0, 1) := by decide +kernel
theorem dX9_farthest_1 : decode cX9_farthest 1 = .ok (.aload_n 0, 1) := by decide +kernel
theorem dX9_farthest_2 : decode cX9_farthest 2 = .ok (.getfield 25, 3) := by decide +kernel
theorem dX9_farthest_5 : decode cX9_farthest 5 = .ok (.iconst 1, 1) := by decide +kernel
theorem dX9_farthest_6 : decode cX9_farthest 6 = .ok (.isub, 1) := by decide +kernel
theorem dX9_farthest_7 : decode cX9_farthest 7 = .ok (.invokevirtual 29, 3) := by decide +kernel
theorem dX9_farthest_10 : decode cX9_farthest 10 = .ok (.ireturn, 1) := by decide +kernel
set_option maxRecDepth 20000 in
theorem ggX9_farthest_X9_placeAt : GoodIn wsX9_farthest wsX9_placeAt := goodIn_r _ [6, 7, 8, 9, 10, 5, 11, 1, 12, 13, 14, 15, 16] (by decide +kernel) (by decide +kernel)
set_option maxRecDepth 20000 in
theorem gX9_farthest_X9_placeAt : GoodIn wsX9_farthest (wsV RX9 29 RX9 yX9_placeAt wsX9_placeAt) := goodIn_app (goodIn_of _ (by decide +kernel)) ggX9_farthest_X9_placeAt
theorem kX9_farthest_0 : (.fieldLink RX9 25 "RunDesk$Way" "mats" "I" : Cond) ∈ wsX9_farthest := List.mem_of_getElem? (i := 1) (by decide +kernel)
theorem qX9_farthest_X9 : ∀ w ∈ wsX90, w ∈ wsX9_farthest := fun _ h => List.mem_cons_of_mem _ (List.mem_append_right _ (h))
set_option maxHeartbeats 4000000 in
set_option maxRecDepth 100000 in
theorem mX9_farthest (l : Launch) (D : va_G) (cB cI cZ : ClassId) (a_t : Nat) (a_t_places : Nat) (a_t_bearings : Nat) (a_t_cuts : Nat) (a_t_deaths : Nat) (t_mats : Int32) (t_places : Nat → Int32) (sz : Nat) (r0 : Int32) (h : fX9_farthest t_mats t_places = some (r0)) : Met l yX9_farthest wsX9_farthest ({ frames := 2, cells := 0, slots := 0, locals := 42 } : Room) (va_Pc [.ref a_t] (zPre D (zT cB cI cZ) [(a_t, .inr (9, [.ref a_t_places, .ref a_t_bearings, .ref a_t_cuts, .ref a_t_deaths, .int t_mats])), (a_t_places, .inl (cI, 12, .inl t_places))] sz)) (zQi r0 D (zT cB cI cZ) [(a_t, .inr (9, [.ref a_t_places, .ref a_t_bearings, .ref a_t_cuts, .ref a_t_deaths, .int t_mats])), (a_t_places, .inl (cI, 12, .inl t_places))] (va_A [(a_t, .inr (9, [.ref a_t_places, .ref a_t_bearings, .ref a_t_cuts, .ref a_t_deaths, .int t_mats])), (a_t_places, .inl (cI, 12, .inl t_places))] sz)) 0 0 (va_A [(a_t, .inr (9, [.ref a_t_places, .ref a_t_bearings, .ref a_t_cuts, .ref a_t_deaths, .int t_mats])), (a_t_places, .inl (cI, 12, .inl t_places))] sz) := by
  refine Met.ofW (cc := cX9_farthest) (maxL := 1) (ret := (some .int)) (by decide) rfl ?_
  intro p e s m args below meth c s₁ B hml hv
  obtain ⟨rfl, hsz, hP, hK, hN, hZ, hD0⟩ := hv
  have hx := B.exec
  have hb := B.bytes
  have hr := B.returns
  have hts := atoms_spec (ws := wsX9_farthest) B.pre
  have hown : s.vm.findClass RX9 = some m.cls := findClass_of_methodNamed B.named
  have hlocks := B.notSynchronized
  subst hsz
  have hD := hD0.self (sz := s.heap.size)
  generalize hAe : va_A [(a_t, .inr (9, [.ref a_t_places, .ref a_t_bearings, .ref a_t_cuts, .ref a_t_deaths, .int t_mats])), (a_t_places, .inl (cI, 12, .inl t_places))] s.heap.size = A at hD hZ ⊢
  have hA : ∀ q : Nat, s.heap.size ≤ q → A q := fun q h => by rw [← hAe]; exact Or.inr h
  have hS : va_S A s.heap s.heap [] := va_S.rf
  have hl := lv_entry ([.ref a_t]) (n := 1) (Nat.le_of_ble_eq_true rfl)
  rw [lg_entry_eq]
  generalize (lg_sl ([.ref a_t]) ++ List.replicate (1 - (lg_sl ([.ref a_t])).length) Slot.unset).toArray = ls at hl ⊢
  have hl : lv_has ls 1 [(0, .ref a_t)] := hl
  unfold fX9_farthest at h
  refine lv_aload_n hx hb dX9_farthest_0 rfl (lv_at hl 0 rfl) ?_
  refine lv_aload_n hx hb dX9_farthest_1 rfl (lv_at hl 0 rfl) ?_
  refine va_get (D := D) (ci := 9) (C := RX9) (T := TX9) (N := 5) hx hb hts qX9_farthest_X9 hown hK hP 0 rfl rfl 4 (by decide) (hts _ kX9_farthest_0) (fun _ h9 => h9) rfl dX9_farthest_2 ?_
  refine lv_iconst (v := (nI 1)) hx hb dX9_farthest_5 rfl ?_
  refine lv_isub hx hb dX9_farthest_6 ?_
  obtain ⟨r1, e2, h⟩ := zz_b h
  refine zVi (As := [.int (t_mats - (nI 1))]) (rest := []) (C := RX9) (wr := []) [0, 1] [] 0 ⟨hx, hb, hml, hown, hts⟩ (mX9_placeAt l D cB cI cZ a_t a_t_places a_t_bearings a_t_cuts a_t_deaths t_mats t_places s.heap.size (t_mats - (nI 1)) r1 e2) (cwV 1 hts gX9_farthest_X9_placeAt rfl rfl rfl (by decide +kernel) ⟨Nat.le_of_ble_eq_true rfl, Nat.le_of_ble_eq_true rfl⟩) hK hN hZ hP hD hS hA rfl rfl rfl rfl rfl rfl rfl rfl hl.1 rfl (lv_room (Nat.le_of_ble_eq_true rfl)) dX9_farthest_7 ⟨Nat.le_of_ble_eq_true rfl, Nat.le_of_ble_eq_true rfl⟩ (fun H locs hP hD hS => ?_)
  have hP : va_P D vwCl [(a_t, .inr (9, [.ref a_t_places, .ref a_t_bearings, .ref a_t_cuts, .ref a_t_deaths, .int t_mats])), (a_t_places, .inl (cI, 12, .inl t_places))] H := hP
  have hD : va_D A [(a_t, .inr (9, [.ref a_t_places, .ref a_t_bearings, .ref a_t_cuts, .ref a_t_deaths, .int t_mats])), (a_t_places, .inl (cI, 12, .inl t_places))] := hD
  have j0_ := Option.some.inj h
  subst j0_
  exact W.iret (v := r1) hx hb hr (fun t ht hW => ⟨⟨_, (), rfl, rfl, zPost.of hP hD hK ht hW [0, 1] rfl rfl rfl⟩, hS.F ht⟩) hS.2.2 dX9_farthest_10
/-! RunDesk$Way.setCut -/
theorem dX9_setCut_0 : decode cX9_setCut 0 = .ok (.aload_n 0, 1) := by decide +kernel
theorem dX9_setCut_1 : decode cX9_setCut 1 = .ok (.iload_n 1, 1) := by decide +kernel
theorem dX9_setCut_2 : decode cX9_setCut 2 = .ok (.invokevirtual 33, 3) := by decide +kernel
theorem dX9_setCut_5 : decode cX9_setCut 5 = .ok (.ifCond .ne 5, 3) := by decide +kernel
theorem dX9_setCut_8 : decode cX9_setCut 8 = .ok (.iconst 0, 1) := by decide +kernel
theorem dX9_setCut_9 : decode cX9_setCut 9 = .ok (.ireturn, 1) := by decide +kernel
theorem dX9_setCut_10 : decode cX9_setCut 10 = .ok (.aload_n 0, 1) := by decide +kernel
theorem dX9_setCut_11 : decode cX9_setCut 11 = .ok (.getfield 18, 3) := by decide +kernel
theorem dX9_setCut_14 : decode cX9_setCut 14 = .ok (.iload_n 1, 1) := by decide +kernel
theorem dX9_setCut_15 : decode cX9_setCut 15 = .ok (.iload_n 2, 1) := by decide +kernel
theorem dX9_setCut_16 : decode cX9_setCut 16 = .ok (.iastore, 1) := by decide +kernel
theorem dX9_setCut_17 : decode cX9_setCut 17 = .ok (.iconst 1, 1) := by decide +kernel
theorem dX9_setCut_18 : decode cX9_setCut 18 = .ok (.ireturn, 1) := by decide +kernel
set_option maxRecDepth 20000 in
theorem ggX9_setCut_X9_has : GoodIn wsX9_setCut wsX9_has := goodIn_r _ [6, 7, 8, 9, 10, 11, 12] (by decide +kernel) (by decide +kernel)
set_option maxRecDepth 20000 in
theorem gX9_setCut_X9_has : GoodIn wsX9_setCut (wsV RX9 33 RX9 yX9_has wsX9_has) := goodIn_app (goodIn_of _ (by decide +kernel)) ggX9_setCut_X9_has
theorem kX9_setCut_0 : (.fieldLink RX9 18 "RunDesk$Way" "cuts" "[I" : Cond) ∈ wsX9_setCut := List.mem_of_getElem? (i := 1) (by decide +kernel)
theorem qX9_setCut_X9 : ∀ w ∈ wsX90, w ∈ wsX9_setCut := fun _ h => List.mem_cons_of_mem _ (List.mem_append_right _ (h))
set_option maxHeartbeats 4000000 in
set_option maxRecDepth 100000 in
theorem mX9_setCut (l : Launch) (D : va_G) (cB cI cZ : ClassId) (a_t : Nat) (a_t_places : Nat) (a_t_bearings : Nat) (a_t_cuts : Nat) (a_t_deaths : Nat) (t_mats : Int32) (t_cuts : Nat → Int32) (sz : Nat) (x1 : Int32) (x2 : Int32) (b0 : Bool) (t_cuts' : Nat → Int32) (h : fX9_setCut t_mats t_cuts x1 x2 = some (b0, t_cuts')) : Met l yX9_setCut wsX9_setCut ({ frames := 1, cells := 0, slots := 0, locals := 21 } : Room) (va_Pc [.ref a_t, .int x1, .int x2] (zPre D (zT cB cI cZ) [(a_t, .inr (9, [.ref a_t_places, .ref a_t_bearings, .ref a_t_cuts, .ref a_t_deaths, .int t_mats])), (a_t_cuts, .inl (cI, 12, .inl t_cuts))] sz)) (zQi (zb b0) D (zT cB cI cZ) [(a_t, .inr (9, [.ref a_t_places, .ref a_t_bearings, .ref a_t_cuts, .ref a_t_deaths, .int t_mats])), (a_t_cuts, .inl (cI, 12, .inl t_cuts'))] (va_A [(a_t, .inr (9, [.ref a_t_places, .ref a_t_bearings, .ref a_t_cuts, .ref a_t_deaths, .int t_mats])), (a_t_cuts, .inl (cI, 12, .inl t_cuts))] sz)) 0 0 (va_A [(a_t, .inr (9, [.ref a_t_places, .ref a_t_bearings, .ref a_t_cuts, .ref a_t_deaths, .int t_mats])), (a_t_cuts, .inl (cI, 12, .inl t_cuts))] sz) := by
  refine Met.ofW (cc := cX9_setCut) (maxL := 3) (ret := (some .boolean)) (by decide) rfl ?_
  intro p e s m args below meth c s₁ B hml hv
  obtain ⟨rfl, hsz, hP, hK, hN, hZ, hD0⟩ := hv
  have hx := B.exec
  have hb := B.bytes
  have hr := B.returns
  have hts := atoms_spec (ws := wsX9_setCut) B.pre
  have hown : s.vm.findClass RX9 = some m.cls := findClass_of_methodNamed B.named
  have hlocks := B.notSynchronized
  subst hsz
  have hD := hD0.self (sz := s.heap.size)
  generalize hAe : va_A [(a_t, .inr (9, [.ref a_t_places, .ref a_t_bearings, .ref a_t_cuts, .ref a_t_deaths, .int t_mats])), (a_t_cuts, .inl (cI, 12, .inl t_cuts))] s.heap.size = A at hD hZ ⊢
  have hA : ∀ q : Nat, s.heap.size ≤ q → A q := fun q h => by rw [← hAe]; exact Or.inr h
  have hS : va_S A s.heap s.heap [] := va_S.rf
  have hl := lv_entry ([.ref a_t, .int x1, .int x2]) (n := 3) (Nat.le_of_ble_eq_true rfl)
  rw [lg_entry_eq]
  generalize (lg_sl ([.ref a_t, .int x1, .int x2]) ++ List.replicate (3 - (lg_sl ([.ref a_t, .int x1, .int x2])).length) Slot.unset).toArray = ls at hl ⊢
  have hl : lv_has ls 3 [(0, .ref a_t), (1, .int x1), (2, .int x2)] := hl
  unfold fX9_setCut at h
  refine lv_aload_n hx hb dX9_setCut_0 rfl (lv_at hl 0 rfl) ?_
  refine lv_iload_n hx hb dX9_setCut_1 rfl (lv_at hl 1 rfl) ?_
  obtain ⟨b1, e2, h⟩ := zz_b h
  refine zVi (As := [.int x1]) (rest := []) (C := RX9) (wr := [(a_t_cuts, .inl (cI, 12, .inl t_cuts))]) [0] [1] 0 ⟨hx, hb, hml, hown, hts⟩ (mX9_has l D cB cI cZ a_t a_t_places a_t_bearings a_t_cuts a_t_deaths t_mats s.heap.size x1 b1 e2) (cwV 1 hts gX9_setCut_X9_has rfl rfl rfl (by decide +kernel) ⟨Nat.le_of_ble_eq_true rfl, Nat.le_of_ble_eq_true rfl⟩) hK hN hZ hP hD hS hA rfl rfl rfl rfl rfl rfl rfl rfl hl.1 rfl (lv_room (Nat.le_of_ble_eq_true rfl)) dX9_setCut_2 ⟨Nat.le_of_ble_eq_true rfl, Nat.le_of_ble_eq_true rfl⟩ (fun H locs hP hD hS => ?_)
  have hP : va_P D vwCl [(a_t_cuts, .inl (cI, 12, .inl t_cuts)), (a_t, .inr (9, [.ref a_t_places, .ref a_t_bearings, .ref a_t_cuts, .ref a_t_deaths, .int t_mats]))] H := hP
  have hD : va_D A [(a_t_cuts, .inl (cI, 12, .inl t_cuts)), (a_t, .inr (9, [.ref a_t_places, .ref a_t_bearings, .ref a_t_cuts, .ref a_t_deaths, .int t_mats]))] := hD
  refine lv_if_ne (tgt := 10) hx hb dX9_setCut_5 (by decide) (fun c3 => ?_) (fun c3 => ?_)
  · have h := zz_f h c3
    refine lv_aload_n hx hb dX9_setCut_10 rfl (lv_at hl 0 rfl) ?_
    refine va_get (D := D) (ci := 9) (C := RX9) (T := TX9) (N := 5) hx hb hts qX9_setCut_X9 hown hK hP 1 rfl rfl 2 (by decide) (hts _ kX9_setCut_0) (fun _ h9 => h9) rfl dX9_setCut_11 ?_
    refine lv_iload_n hx hb dX9_setCut_14 rfl (lv_at hl 1 rfl) ?_
    refine lv_iload_n hx hb dX9_setCut_15 rfl (lv_at hl 2 rfl) ?_
    obtain ⟨i4, h⟩ := zz_i h
    refine va_iast hx hb hK hP hD hS 0 1 rfl rfl i4 dX9_setCut_16 (fun H locs hP hD hS => ?_)
    have hP : va_P D vwCl [(a_t_cuts, .inl (cI, 12, .inl (upd t_cuts (x1).toNatClampNeg x2))), (a_t, .inr (9, [.ref a_t_places, .ref a_t_bearings, .ref a_t_cuts, .ref a_t_deaths, .int t_mats]))] H := hP
    have hD : va_D A [(a_t_cuts, .inl (cI, 12, .inl (upd t_cuts (x1).toNatClampNeg x2))), (a_t, .inr (9, [.ref a_t_places, .ref a_t_bearings, .ref a_t_cuts, .ref a_t_deaths, .int t_mats]))] := hD
    refine lv_iconst (v := (nI 1)) hx hb dX9_setCut_17 rfl ?_
    obtain ⟨j0_, g_⟩ := Prod.mk.inj (Option.some.inj h)
    have j1_ := g_
    subst j0_
    subst j1_
    exact W.zret (v := (nI 1)) hx hb hr rfl (fun t ht hW => ⟨⟨_, (), rfl, rfl, zPost.of hP hD hK ht hW [1, 0] rfl rfl rfl⟩, hS.F ht⟩) hS.2.2 dX9_setCut_18
  · have h := zz_t h c3
    refine lv_iconst (v := (nI 0)) hx hb dX9_setCut_8 rfl ?_
    obtain ⟨j0_, g_⟩ := Prod.mk.inj (Option.some.inj h)
    have j1_ := g_
    subst j0_
    subst j1_
    exact W.zret (v := (nI 0)) hx hb hr rfl (fun t ht hW => ⟨⟨_, (), rfl, rfl, zPost.of hP hD hK ht hW [1, 0] rfl rfl rfl⟩, hS.F ht⟩) hS.2.2 dX9_setCut_9
/-! RunDesk$Way.isDead -/
theorem dX9_isDead_0 : decode cX9_isDead 0 = .ok (.aload_n 0, 1) := by decide +kernel
theorem dX9_isDead_1 : decode cX9_isDead 1 = .ok (.iload_n 1, 1) := by decide +kernel
theorem dX9_isDead_2 : decode cX9_isDead 2 = .ok (.invokevirtual 33, 3) := by decide +kernel
theorem dX9_isDead_5 : decode cX9_isDead 5 = .ok (.ifCond .eq 16, 3) := by decide +kernel
theorem dX9_isDead_8 : decode cX9_isDead 8 = .ok (.aload_n 0, 1) := by decide +kernel
theorem dX9_isDead_9 : decode cX9_isDead 9 = .ok (.getfield 21, 3) := by decide +kernel
theorem dX9_isDead_12 : decode cX9_isDead 12 = .ok (.iload_n 1, 1) := by decide +kernel
theorem dX9_isDead_13 : decode cX9_isDead 13 = .ok (.baload, 1) := by decide +kernel
theorem dX9_isDead_14 : decode cX9_isDead 14 = .ok (.ifCond .eq 7, 3) := by decide +kernel
theorem dX9_isDead_17 : decode cX9_isDead 17 = .ok (.iconst 1, 1) := by decide +kernel
theorem dX9_isDead_18 : decode cX9_isDead 18 = .ok (.goto 4, 3) := by decide +kernel
theorem dX9_isDead_21 : decode cX9_isDead 21 = .ok (.iconst 0, 1) := by decide +kernel
theorem dX9_isDead_22 : decode cX9_isDead 22 = .ok (.ireturn, 1) := by decide +kernel
set_option maxRecDepth 20000 in
theorem ggX9_isDead_X9_has : GoodIn wsX9_isDead wsX9_has := goodIn_r _ [6, 7, 8, 9, 10, 11, 12] (by decide +kernel) (by decide +kernel)
set_option maxRecDepth 20000 in
theorem gX9_isDead_X9_has : GoodIn wsX9_isDead (wsV RX9 33 RX9 yX9_has wsX9_has) := goodIn_app (goodIn_of _ (by decide +kernel)) ggX9_isDead_X9_has
theorem kX9_isDead_0 : (.fieldLink RX9 21 "RunDesk$Way" "deaths" "[Z" : Cond) ∈ wsX9_isDead := List.mem_of_getElem? (i := 1) (by decide +kernel)
theorem qX9_isDead_X9 : ∀ w ∈ wsX90, w ∈ wsX9_isDead := fun _ h => List.mem_cons_of_mem _ (List.mem_append_right _ (h))
set_option maxHeartbeats 4000000 in
set_option maxRecDepth 100000 in
theorem mX9_isDead (l : Launch) (D : va_G) (cB cI cZ : ClassId) (a_t : Nat) (a_t_places : Nat) (a_t_bearings : Nat) (a_t_cuts : Nat) (a_t_deaths : Nat) (t_mats : Int32) (t_deaths : Nat → Int32) (sz : Nat) (x1 : Int32) (b0 : Bool) (h : fX9_isDead t_mats t_deaths x1 = some (b0)) : Met l yX9_isDead wsX9_isDead ({ frames := 1, cells := 0, slots := 0, locals := 21 } : Room) (va_Pc [.ref a_t, .int x1] (zPre D (zT cB cI cZ) [(a_t, .inr (9, [.ref a_t_places, .ref a_t_bearings, .ref a_t_cuts, .ref a_t_deaths, .int t_mats])), (a_t_deaths, .inl (cZ, 12, .inl t_deaths))] sz)) (zQi (zb b0) D (zT cB cI cZ) [(a_t, .inr (9, [.ref a_t_places, .ref a_t_bearings, .ref a_t_cuts, .ref a_t_deaths, .int t_mats])), (a_t_deaths, .inl (cZ, 12, .inl t_deaths))] (va_A [(a_t, .inr (9, [.ref a_t_places, .ref a_t_bearings, .ref a_t_cuts, .ref a_t_deaths, .int t_mats])), (a_t_deaths, .inl (cZ, 12, .inl t_deaths))] sz)) 0 0 (va_A [(a_t, .inr (9, [.ref a_t_places, .ref a_t_bearings, .ref a_t_cuts, .ref a_t_deaths, .int t_mats])), (a_t_deaths, .inl (cZ, 12, .inl t_deaths))] sz) := by
  refine Met.ofW (cc := cX9_isDead) (maxL := 2) (ret := (some .boolean)) (by decide) rfl ?_
  intro p e s m args below meth c s₁ B hml hv
  obtain ⟨rfl, hsz, hP, hK, hN, hZ, hD0⟩ := hv
  have hx := B.exec
  have hb := B.bytes
  have hr := B.returns
  have hts := atoms_spec (ws := wsX9_isDead) B.pre
  have hown : s.vm.findClass RX9 = some m.cls := findClass_of_methodNamed B.named
  have hlocks := B.notSynchronized
  subst hsz
  have hD := hD0.self (sz := s.heap.size)
  generalize hAe : va_A [(a_t, .inr (9, [.ref a_t_places, .ref a_t_bearings, .ref a_t_cuts, .ref a_t_deaths, .int t_mats])), (a_t_deaths, .inl (cZ, 12, .inl t_deaths))] s.heap.size = A at hD hZ ⊢
  have hA : ∀ q : Nat, s.heap.size ≤ q → A q := fun q h => by rw [← hAe]; exact Or.inr h
  have hS : va_S A s.heap s.heap [] := va_S.rf
  have hl := lv_entry ([.ref a_t, .int x1]) (n := 2) (Nat.le_of_ble_eq_true rfl)
  rw [lg_entry_eq]
  generalize (lg_sl ([.ref a_t, .int x1]) ++ List.replicate (2 - (lg_sl ([.ref a_t, .int x1])).length) Slot.unset).toArray = ls at hl ⊢
  have hl : lv_has ls 2 [(0, .ref a_t), (1, .int x1)] := hl
  unfold fX9_isDead at h
  refine lv_aload_n hx hb dX9_isDead_0 rfl (lv_at hl 0 rfl) ?_
  refine lv_iload_n hx hb dX9_isDead_1 rfl (lv_at hl 1 rfl) ?_
  obtain ⟨b1, e2, h⟩ := zz_b h
  refine zVi (As := [.int x1]) (rest := []) (C := RX9) (wr := [(a_t_deaths, .inl (cZ, 12, .inl t_deaths))]) [0] [1] 0 ⟨hx, hb, hml, hown, hts⟩ (mX9_has l D cB cI cZ a_t a_t_places a_t_bearings a_t_cuts a_t_deaths t_mats s.heap.size x1 b1 e2) (cwV 1 hts gX9_isDead_X9_has rfl rfl rfl (by decide +kernel) ⟨Nat.le_of_ble_eq_true rfl, Nat.le_of_ble_eq_true rfl⟩) hK hN hZ hP hD hS hA rfl rfl rfl rfl rfl rfl rfl rfl hl.1 rfl (lv_room (Nat.le_of_ble_eq_true rfl)) dX9_isDead_2 ⟨Nat.le_of_ble_eq_true rfl, Nat.le_of_ble_eq_true rfl⟩ (fun H locs hP hD hS => ?_)
  have hP : va_P D vwCl [(a_t_deaths, .inl (cZ, 12, .inl t_deaths)), (a_t, .inr (9, [.ref a_t_places, .ref a_t_bearings, .ref a_t_cuts, .ref a_t_deaths, .int t_mats]))] H := hP
  have hD : va_D A [(a_t_deaths, .inl (cZ, 12, .inl t_deaths)), (a_t, .inr (9, [.ref a_t_places, .ref a_t_bearings, .ref a_t_cuts, .ref a_t_deaths, .int t_mats]))] := hD
  refine lv_if_eq (tgt := 21) hx hb dX9_isDead_5 (by decide) (fun c3 => ?_) (fun c3 => ?_)
  · have h := zz_t h c3
    refine lv_iconst (v := (nI 0)) hx hb dX9_isDead_21 rfl ?_
    have j0_ := Option.some.inj h
    subst j0_
    exact W.zret (v := (nI 0)) hx hb hr rfl (fun t ht hW => ⟨⟨_, (), rfl, rfl, zPost.of hP hD hK ht hW [1, 0] rfl rfl rfl⟩, hS.F ht⟩) hS.2.2 dX9_isDead_22
  · have h := zz_f h c3
    refine lv_aload_n hx hb dX9_isDead_8 rfl (lv_at hl 0 rfl) ?_
    refine va_get (D := D) (ci := 9) (C := RX9) (T := TX9) (N := 5) hx hb hts qX9_isDead_X9 hown hK hP 1 rfl rfl 3 (by decide) (hts _ kX9_isDead_0) (fun _ h9 => h9) rfl dX9_isDead_9 ?_
    refine lv_iload_n hx hb dX9_isDead_12 rfl (lv_at hl 1 rfl) ?_
    obtain ⟨i4, h⟩ := zz_i h
    refine va_zald hx hb hK hP 0 2 rfl rfl i4 dX9_isDead_13 ?_
    refine lv_if_eq (tgt := 21) hx hb dX9_isDead_14 (by decide) (fun c5 => ?_) (fun c5 => ?_)
    · have h := zz_t h c5
      refine lv_iconst (v := (nI 0)) hx hb dX9_isDead_21 rfl ?_
      have j0_ := Option.some.inj h
      subst j0_
      exact W.zret (v := (nI 0)) hx hb hr rfl (fun t ht hW => ⟨⟨_, (), rfl, rfl, zPost.of hP hD hK ht hW [1, 0] rfl rfl rfl⟩, hS.F ht⟩) hS.2.2 dX9_isDead_22
    · have h := zz_f h c5
      refine lv_iconst (v := (nI 1)) hx hb dX9_isDead_17 rfl ?_
      refine lv_goto (tgt := 22) hx hb dX9_isDead_18 (by decide) ?_
      have j0_ := Option.some.inj h
      subst j0_
      exact W.zret (v := (nI 1)) hx hb hr rfl (fun t ht hW => ⟨⟨_, (), rfl, rfl, zPost.of hP hD hK ht hW [1, 0] rfl rfl rfl⟩, hS.F ht⟩) hS.2.2 dX9_isDead_22
/-! RunDesk$Way.setDead -/
theorem dX9_setDead_0 : decode cX9_setDead 0 = .ok (.aload_n 0, 1) := by decide +kernel
theorem dX9_setDead_1 : decode cX9_setDead 1 = .ok (.iload_n 1, 1) := by decide +kernel
theorem dX9_setDead_2 : decode cX9_setDead 2 = .ok (.invokevirtual 33, 3) := by decide +kernel
theorem dX9_setDead_5 : decode cX9_setDead 5 = .ok (.ifCond .ne 5, 3) := by decide +kernel
theorem dX9_setDead_8 : decode cX9_setDead 8 = .ok (.iconst 0, 1) := by decide +kernel
theorem dX9_setDead_9 : decode cX9_setDead 9 = .ok (.ireturn, 1) := by decide +kernel
theorem dX9_setDead_10 : decode cX9_setDead 10 = .ok (.aload_n 0, 1) := by decide +kernel
theorem dX9_setDead_11 : decode cX9_setDead 11 = .ok (.getfield 21, 3) := by decide +kernel
theorem dX9_setDead_14 : decode cX9_setDead 14 = .ok (.iload_n 1, 1) := by decide +kernel
theorem dX9_setDead_15 : decode cX9_setDead 15 = .ok (.iload_n 2, 1) := by decide +kernel
theorem dX9_setDead_16 : decode cX9_setDead 16 = .ok (.bastore, 1) := by decide +kernel
theorem dX9_setDead_17 : decode cX9_setDead 17 = .ok (.iconst 1, 1) := by decide +kernel
theorem dX9_setDead_18 : decode cX9_setDead 18 = .ok (.ireturn, 1) := by decide +kernel
set_option maxRecDepth 20000 in
theorem ggX9_setDead_X9_has : GoodIn wsX9_setDead wsX9_has := goodIn_r _ [6, 7, 8, 9, 10, 11, 12] (by decide +kernel) (by decide +kernel)
set_option maxRecDepth 20000 in
theorem gX9_setDead_X9_has : GoodIn wsX9_setDead (wsV RX9 33 RX9 yX9_has wsX9_has) := goodIn_app (goodIn_of _ (by decide +kernel)) ggX9_setDead_X9_has
theorem kX9_setDead_0 : (.fieldLink RX9 21 "RunDesk$Way" "deaths" "[Z" : Cond) ∈ wsX9_setDead := List.mem_of_getElem? (i := 1) (by decide +kernel)
theorem qX9_setDead_X9 : ∀ w ∈ wsX90, w ∈ wsX9_setDead := fun _ h => List.mem_cons_of_mem _ (List.mem_append_right _ (h))
set_option maxHeartbeats 4000000 in
set_option maxRecDepth 100000 in
theorem mX9_setDead (l : Launch) (D : va_G) (cB cI cZ : ClassId) (a_t : Nat) (a_t_places : Nat) (a_t_bearings : Nat) (a_t_cuts : Nat) (a_t_deaths : Nat) (t_mats : Int32) (t_deaths : Nat → Int32) (sz : Nat) (x1 : Int32) (x2 : Int32) (b0 : Bool) (t_deaths' : Nat → Int32) (h : fX9_setDead t_mats t_deaths x1 x2 = some (b0, t_deaths')) : Met l yX9_setDead wsX9_setDead ({ frames := 1, cells := 0, slots := 0, locals := 21 } : Room) (va_Pc [.ref a_t, .int x1, .int x2] (zPre D (zT cB cI cZ) [(a_t, .inr (9, [.ref a_t_places, .ref a_t_bearings, .ref a_t_cuts, .ref a_t_deaths, .int t_mats])), (a_t_deaths, .inl (cZ, 12, .inl t_deaths))] sz)) (zQi (zb b0) D (zT cB cI cZ) [(a_t, .inr (9, [.ref a_t_places, .ref a_t_bearings, .ref a_t_cuts, .ref a_t_deaths, .int t_mats])), (a_t_deaths, .inl (cZ, 12, .inl t_deaths'))] (va_A [(a_t, .inr (9, [.ref a_t_places, .ref a_t_bearings, .ref a_t_cuts, .ref a_t_deaths, .int t_mats])), (a_t_deaths, .inl (cZ, 12, .inl t_deaths))] sz)) 0 0 (va_A [(a_t, .inr (9, [.ref a_t_places, .ref a_t_bearings, .ref a_t_cuts, .ref a_t_deaths, .int t_mats])), (a_t_deaths, .inl (cZ, 12, .inl t_deaths))] sz) := by
  refine Met.ofW (cc := cX9_setDead) (maxL := 3) (ret := (some .boolean)) (by decide) rfl ?_
  intro p e s m args below meth c s₁ B hml hv
  obtain ⟨rfl, hsz, hP, hK, hN, hZ, hD0⟩ := hv
  have hx := B.exec
  have hb := B.bytes
  have hr := B.returns
  have hts := atoms_spec (ws := wsX9_setDead) B.pre
  have hown : s.vm.findClass RX9 = some m.cls := findClass_of_methodNamed B.named
  have hlocks := B.notSynchronized
  subst hsz
  have hD := hD0.self (sz := s.heap.size)
  generalize hAe : va_A [(a_t, .inr (9, [.ref a_t_places, .ref a_t_bearings, .ref a_t_cuts, .ref a_t_deaths, .int t_mats])), (a_t_deaths, .inl (cZ, 12, .inl t_deaths))] s.heap.size = A at hD hZ ⊢
  have hA : ∀ q : Nat, s.heap.size ≤ q → A q := fun q h => by rw [← hAe]; exact Or.inr h
  have hS : va_S A s.heap s.heap [] := va_S.rf
  have hl := lv_entry ([.ref a_t, .int x1, .int x2]) (n := 3) (Nat.le_of_ble_eq_true rfl)
  rw [lg_entry_eq]
  generalize (lg_sl ([.ref a_t, .int x1, .int x2]) ++ List.replicate (3 - (lg_sl ([.ref a_t, .int x1, .int x2])).length) Slot.unset).toArray = ls at hl ⊢
  have hl : lv_has ls 3 [(0, .ref a_t), (1, .int x1), (2, .int x2)] := hl
  unfold fX9_setDead at h
  refine lv_aload_n hx hb dX9_setDead_0 rfl (lv_at hl 0 rfl) ?_
  refine lv_iload_n hx hb dX9_setDead_1 rfl (lv_at hl 1 rfl) ?_
  obtain ⟨b1, e2, h⟩ := zz_b h
  refine zVi (As := [.int x1]) (rest := []) (C := RX9) (wr := [(a_t_deaths, .inl (cZ, 12, .inl t_deaths))]) [0] [1] 0 ⟨hx, hb, hml, hown, hts⟩ (mX9_has l D cB cI cZ a_t a_t_places a_t_bearings a_t_cuts a_t_deaths t_mats s.heap.size x1 b1 e2) (cwV 1 hts gX9_setDead_X9_has rfl rfl rfl (by decide +kernel) ⟨Nat.le_of_ble_eq_true rfl, Nat.le_of_ble_eq_true rfl⟩) hK hN hZ hP hD hS hA rfl rfl rfl rfl rfl rfl rfl rfl hl.1 rfl (lv_room (Nat.le_of_ble_eq_true rfl)) dX9_setDead_2 ⟨Nat.le_of_ble_eq_true rfl, Nat.le_of_ble_eq_true rfl⟩ (fun H locs hP hD hS => ?_)
  have hP : va_P D vwCl [(a_t_deaths, .inl (cZ, 12, .inl t_deaths)), (a_t, .inr (9, [.ref a_t_places, .ref a_t_bearings, .ref a_t_cuts, .ref a_t_deaths, .int t_mats]))] H := hP
  have hD : va_D A [(a_t_deaths, .inl (cZ, 12, .inl t_deaths)), (a_t, .inr (9, [.ref a_t_places, .ref a_t_bearings, .ref a_t_cuts, .ref a_t_deaths, .int t_mats]))] := hD
  refine lv_if_ne (tgt := 10) hx hb dX9_setDead_5 (by decide) (fun c3 => ?_) (fun c3 => ?_)
  · have h := zz_f h c3
    refine lv_aload_n hx hb dX9_setDead_10 rfl (lv_at hl 0 rfl) ?_
    refine va_get (D := D) (ci := 9) (C := RX9) (T := TX9) (N := 5) hx hb hts qX9_setDead_X9 hown hK hP 1 rfl rfl 3 (by decide) (hts _ kX9_setDead_0) (fun _ h9 => h9) rfl dX9_setDead_11 ?_
    refine lv_iload_n hx hb dX9_setDead_14 rfl (lv_at hl 1 rfl) ?_
    refine lv_iload_n hx hb dX9_setDead_15 rfl (lv_at hl 2 rfl) ?_
    obtain ⟨i4, h⟩ := zz_i h
    refine va_zast hx hb hK hP hD hS 0 2 rfl rfl i4 dX9_setDead_16 (fun H locs hP hD hS => ?_)
    have hP : va_P D vwCl [(a_t_deaths, .inl (cZ, 12, .inl (upd t_deaths (x1).toNatClampNeg (vp_nar .boolean x2)))), (a_t, .inr (9, [.ref a_t_places, .ref a_t_bearings, .ref a_t_cuts, .ref a_t_deaths, .int t_mats]))] H := hP
    have hD : va_D A [(a_t_deaths, .inl (cZ, 12, .inl (upd t_deaths (x1).toNatClampNeg (vp_nar .boolean x2)))), (a_t, .inr (9, [.ref a_t_places, .ref a_t_bearings, .ref a_t_cuts, .ref a_t_deaths, .int t_mats]))] := hD
    refine lv_iconst (v := (nI 1)) hx hb dX9_setDead_17 rfl ?_
    obtain ⟨j0_, g_⟩ := Prod.mk.inj (Option.some.inj h)
    have j1_ := g_
    subst j0_
    subst j1_
    exact W.zret (v := (nI 1)) hx hb hr rfl (fun t ht hW => ⟨⟨_, (), rfl, rfl, zPost.of hP hD hK ht hW [1, 0] rfl rfl rfl⟩, hS.F ht⟩) hS.2.2 dX9_setDead_18
  · have h := zz_t h c3
    refine lv_iconst (v := (nI 0)) hx hb dX9_setDead_8 rfl ?_
    obtain ⟨j0_, g_⟩ := Prod.mk.inj (Option.some.inj h)
    have j1_ := g_
    subst j0_
    subst j1_
    exact W.zret (v := (nI 0)) hx hb hr rfl (fun t ht hW => ⟨⟨_, (), rfl, rfl, zPost.of hP hD hK ht hW [1, 0] rfl rfl rfl⟩, hS.F ht⟩) hS.2.2 dX9_setDead_9
/-! RunDesk.way -/
theorem dX10_way_0 : decode cX10_way 0 = .ok (.iload_n 1, 1) := by decide +kernel
theorem dX10_way_1 : decode cX10_way 1 = .ok (.iconst 1, 1) := by decide +kernel
theorem dX10_way_2 : decode cX10_way 2 = .ok (.sipush 1000, 3) := by decide +kernel
theorem dX10_way_5 : decode cX10_way 5 = .ok (.invokestatic 68, 3) := by decide +kernel
theorem dX10_way_8 : decode cX10_way 8 = .ok (.ifCond .ne 5, 3) := by decide +kernel
theorem dX10_way_11 : decode cX10_way 11 = .ok (.iconst 0, 1) := by decide +kernel
theorem dX10_way_12 : decode cX10_way 12 = .ok (.ireturn, 1) := by decide +kernel
theorem dX10_way_13 : decode cX10_way 13 = .ok (.aload_n 0, 1) := by decide +kernel
theorem dX10_way_14 : decode cX10_way 14 = .ok (.getfield 10, 3) := by decide +kernel
theorem dX10_way_17 : decode cX10_way 17 = .ok (.iload_n 1, 1) := by decide +kernel
theorem dX10_way_18 : decode cX10_way 18 = .ok (.invokevirtual 54, 3) := by decide +kernel
theorem dX10_way_21 : decode cX10_way 21 = .ok (.iconst 1, 1) := by decide +kernel
theorem dX10_way_22 : decode cX10_way 22 = .ok (.ireturn, 1) := by decide +kernel
set_option maxRecDepth 20000 in
theorem ggX10_way_X10_within : GoodIn wsX10_way wsX10_within := goodIn_r _ [5] (by decide +kernel) (by decide +kernel)
set_option maxRecDepth 20000 in
theorem gX10_way_X10_within : GoodIn wsX10_way (va_wsS RX10 68 yX10_within wsX10_within) := goodIn_app (goodIn_of _ (by decide +kernel)) ggX10_way_X10_within
set_option maxRecDepth 20000 in
theorem ggX10_way_X4_begin : GoodIn wsX10_way wsX4_begin := goodIn_r _ [10, 11, 12, 13, 14, 15, 16, 17, 18, 19, 20, 21, 22, 23, 24, 25, 26, 27, 28, 29, 30, 31, 32, 33, 34, 35, 36, 37, 38, 39, 40, 41, 42, 43, 44, 53, 54, 55, 56, 57, 58, 59, 60, 61, 62, 63, 64, 65, 66, 67, 68, 69, 70] (by decide +kernel) (by decide +kernel)
set_option maxRecDepth 20000 in
theorem gX10_way_X4_begin : GoodIn wsX10_way (wsV RX10 54 RX4 yX4_begin wsX4_begin) := goodIn_app (goodIn_of _ (by decide +kernel)) ggX10_way_X4_begin
theorem kX10_way_0 : (.fieldLink RX10 10 "RunDesk" "race" "LRunDesk$Race;" : Cond) ∈ wsX10_way := List.mem_of_getElem? (i := 1) (by decide +kernel)
theorem qX10_way_X10 : ∀ w ∈ wsX100, w ∈ wsX10_way := fun _ h => List.mem_cons_of_mem _ (List.mem_append_left _ (List.mem_append_left _ (List.mem_append_left _ (List.mem_append_left _ (List.mem_append_right _ (h))))))
set_option maxHeartbeats 4000000 in
set_option maxRecDepth 100000 in
theorem mX10_way (l : Launch) (D : va_G) (cB cI cZ : ClassId) (a_t : Nat) (a_t_race : Nat) (a_t_kept : Nat) (a_t_trail : Nat) (a_t_doubts : Nat) (a_t_foretelling : Nat) (a_t_text : Nat) (a_t_listing : Nat) (a_t_race_way : Nat) (a_t_race_guns : Nat) (a_t_race_runners : Nat) (a_t_race_guns_ticks : Nat) (a_t_race_runners_facts : Nat) (a_t_race_runners_splits : Nat) (a_t_race_runners_torn : Nat) (a_t_race_runners_dropped : Nat) (a_t_race_runners_waved : Nat) (a_t_race_runners_struck : Nat) (a_t_race_runners_strikingOrder : Nat) (a_t_race_way_places : Nat) (a_t_race_way_bearings : Nat) (a_t_race_way_cuts : Nat) (a_t_race_way_deaths : Nat) (t_isKept : Int32) (t_race_guns_ticks : Nat → Int32) (t_race_runners_entered : Int32) (t_race_runners_strikings : Int32) (t_race_way_mats : Int32) (t_race_way_bearings : Nat → Int32) (t_race_way_cuts : Nat → Int32) (t_race_way_deaths : Nat → Int32) (t_race_way_places : Nat → Int32) (sz : Nat) (x1 : Int32) (N : Nat) (b0 : Bool) (t_race_guns_ticks' : Nat → Int32) (t_race_runners_entered' : Int32) (t_race_runners_strikings' : Int32) (t_race_way_mats' : Int32) (t_race_way_bearings' : Nat → Int32) (t_race_way_cuts' : Nat → Int32) (t_race_way_deaths' : Nat → Int32) (t_race_way_places' : Nat → Int32) (h : fX10_way N t_race_guns_ticks t_race_runners_entered t_race_runners_strikings t_race_way_mats t_race_way_bearings t_race_way_cuts t_race_way_deaths t_race_way_places x1 = some (b0, t_race_guns_ticks', t_race_runners_entered', t_race_runners_strikings', t_race_way_mats', t_race_way_bearings', t_race_way_cuts', t_race_way_deaths', t_race_way_places')) : Met l yX10_way wsX10_way ({ frames := 3, cells := 0, slots := 0, locals := 64 } : Room) (va_Pc [.ref a_t, .int x1] (zPre D (zT cB cI cZ) [(a_t, .inr (10, [.ref a_t_race, .ref a_t_kept, .ref a_t_trail, .ref a_t_doubts, .ref a_t_foretelling, .ref a_t_text, .ref a_t_listing, .int t_isKept])), (a_t_race, .inr (4, [.ref a_t_race_way, .ref a_t_race_guns, .ref a_t_race_runners])), (a_t_race_guns, .inr (2, [.ref a_t_race_guns_ticks])), (a_t_race_guns_ticks, .inl (cI, 6, .inl t_race_guns_ticks)), (a_t_race_runners, .inr (6, [.ref a_t_race_runners_facts, .ref a_t_race_runners_splits, .ref a_t_race_runners_torn, .ref a_t_race_runners_dropped, .ref a_t_race_runners_waved, .ref a_t_race_runners_struck, .ref a_t_race_runners_strikingOrder, .int t_race_runners_entered, .int t_race_runners_strikings])), (a_t_race_way, .inr (9, [.ref a_t_race_way_places, .ref a_t_race_way_bearings, .ref a_t_race_way_cuts, .ref a_t_race_way_deaths, .int t_race_way_mats])), (a_t_race_way_bearings, .inl (cI, 12, .inl t_race_way_bearings)), (a_t_race_way_cuts, .inl (cI, 12, .inl t_race_way_cuts)), (a_t_race_way_deaths, .inl (cZ, 12, .inl t_race_way_deaths)), (a_t_race_way_places, .inl (cI, 12, .inl t_race_way_places))] sz)) (zQi (zb b0) D (zT cB cI cZ) [(a_t, .inr (10, [.ref a_t_race, .ref a_t_kept, .ref a_t_trail, .ref a_t_doubts, .ref a_t_foretelling, .ref a_t_text, .ref a_t_listing, .int t_isKept])), (a_t_race, .inr (4, [.ref a_t_race_way, .ref a_t_race_guns, .ref a_t_race_runners])), (a_t_race_guns, .inr (2, [.ref a_t_race_guns_ticks])), (a_t_race_guns_ticks, .inl (cI, 6, .inl t_race_guns_ticks')), (a_t_race_runners, .inr (6, [.ref a_t_race_runners_facts, .ref a_t_race_runners_splits, .ref a_t_race_runners_torn, .ref a_t_race_runners_dropped, .ref a_t_race_runners_waved, .ref a_t_race_runners_struck, .ref a_t_race_runners_strikingOrder, .int t_race_runners_entered', .int t_race_runners_strikings'])), (a_t_race_way, .inr (9, [.ref a_t_race_way_places, .ref a_t_race_way_bearings, .ref a_t_race_way_cuts, .ref a_t_race_way_deaths, .int t_race_way_mats'])), (a_t_race_way_bearings, .inl (cI, 12, .inl t_race_way_bearings')), (a_t_race_way_cuts, .inl (cI, 12, .inl t_race_way_cuts')), (a_t_race_way_deaths, .inl (cZ, 12, .inl t_race_way_deaths')), (a_t_race_way_places, .inl (cI, 12, .inl t_race_way_places'))] (va_A [(a_t, .inr (10, [.ref a_t_race, .ref a_t_kept, .ref a_t_trail, .ref a_t_doubts, .ref a_t_foretelling, .ref a_t_text, .ref a_t_listing, .int t_isKept])), (a_t_race, .inr (4, [.ref a_t_race_way, .ref a_t_race_guns, .ref a_t_race_runners])), (a_t_race_guns, .inr (2, [.ref a_t_race_guns_ticks])), (a_t_race_guns_ticks, .inl (cI, 6, .inl t_race_guns_ticks)), (a_t_race_runners, .inr (6, [.ref a_t_race_runners_facts, .ref a_t_race_runners_splits, .ref a_t_race_runners_torn, .ref a_t_race_runners_dropped, .ref a_t_race_runners_waved, .ref a_t_race_runners_struck, .ref a_t_race_runners_strikingOrder, .int t_race_runners_entered, .int t_race_runners_strikings])), (a_t_race_way, .inr (9, [.ref a_t_race_way_places, .ref a_t_race_way_bearings, .ref a_t_race_way_cuts, .ref a_t_race_way_deaths, .int t_race_way_mats])), (a_t_race_way_bearings, .inl (cI, 12, .inl t_race_way_bearings)), (a_t_race_way_cuts, .inl (cI, 12, .inl t_race_way_cuts)), (a_t_race_way_deaths, .inl (cZ, 12, .inl t_race_way_deaths)), (a_t_race_way_places, .inl (cI, 12, .inl t_race_way_places))] sz)) 0 0 (va_A [(a_t, .inr (10, [.ref a_t_race, .ref a_t_kept, .ref a_t_trail, .ref a_t_doubts, .ref a_t_foretelling, .ref a_t_text, .ref a_t_listing, .int t_isKept])), (a_t_race, .inr (4, [.ref a_t_race_way, .ref a_t_race_guns, .ref a_t_race_runners])), (a_t_race_guns, .inr (2, [.ref a_t_race_guns_ticks])), (a_t_race_guns_ticks, .inl (cI, 6, .inl t_race_guns_ticks)), (a_t_race_runners, .inr (6, [.ref a_t_race_runners_facts, .ref a_t_race_runners_splits, .ref a_t_race_runners_torn, .ref a_t_race_runners_dropped, .ref a_t_race_runners_waved, .ref a_t_race_runners_struck, .ref a_t_race_runners_strikingOrder, .int t_race_runners_entered, .int t_race_runners_strikings])), (a_t_race_way, .inr (9, [.ref a_t_race_way_places, .ref a_t_race_way_bearings, .ref a_t_race_way_cuts, .ref a_t_race_way_deaths, .int t_race_way_mats])), (a_t_race_way_bearings, .inl (cI, 12, .inl t_race_way_bearings)), (a_t_race_way_cuts, .inl (cI, 12, .inl t_race_way_cuts)), (a_t_race_way_deaths, .inl (cZ, 12, .inl t_race_way_deaths)), (a_t_race_way_places, .inl (cI, 12, .inl t_race_way_places))] sz) := by
  refine Met.ofW (cc := cX10_way) (maxL := 2) (ret := (some .boolean)) (by decide) rfl ?_
  intro p e s m args below meth c s₁ B hml hv
  obtain ⟨rfl, hsz, hP, hK, hN, hZ, hD0⟩ := hv
  have hx := B.exec
  have hb := B.bytes
  have hr := B.returns
  have hts := atoms_spec (ws := wsX10_way) B.pre
  have hown : s.vm.findClass RX10 = some m.cls := findClass_of_methodNamed B.named
  have hlocks := B.notSynchronized
  subst hsz
  have hD := hD0.self (sz := s.heap.size)
  generalize hAe : va_A [(a_t, .inr (10, [.ref a_t_race, .ref a_t_kept, .ref a_t_trail, .ref a_t_doubts, .ref a_t_foretelling, .ref a_t_text, .ref a_t_listing, .int t_isKept])), (a_t_race, .inr (4, [.ref a_t_race_way, .ref a_t_race_guns, .ref a_t_race_runners])), (a_t_race_guns, .inr (2, [.ref a_t_race_guns_ticks])), (a_t_race_guns_ticks, .inl (cI, 6, .inl t_race_guns_ticks)), (a_t_race_runners, .inr (6, [.ref a_t_race_runners_facts, .ref a_t_race_runners_splits, .ref a_t_race_runners_torn, .ref a_t_race_runners_dropped, .ref a_t_race_runners_waved, .ref a_t_race_runners_struck, .ref a_t_race_runners_strikingOrder, .int t_race_runners_entered, .int t_race_runners_strikings])), (a_t_race_way, .inr (9, [.ref a_t_race_way_places, .ref a_t_race_way_bearings, .ref a_t_race_way_cuts, .ref a_t_race_way_deaths, .int t_race_way_mats])), (a_t_race_way_bearings, .inl (cI, 12, .inl t_race_way_bearings)), (a_t_race_way_cuts, .inl (cI, 12, .inl t_race_way_cuts)), (a_t_race_way_deaths, .inl (cZ, 12, .inl t_race_way_deaths)), (a_t_race_way_places, .inl (cI, 12, .inl t_race_way_places))] s.heap.size = A at hD hZ ⊢
  have hA : ∀ q : Nat, s.heap.size ≤ q → A q := fun q h => by rw [← hAe]; exact Or.inr h
  have hS : va_S A s.heap s.heap [] := va_S.rf
  have hl := lv_entry ([.ref a_t, .int x1]) (n := 2) (Nat.le_of_ble_eq_true rfl)
  rw [lg_entry_eq]
  generalize (lg_sl ([.ref a_t, .int x1]) ++ List.replicate (2 - (lg_sl ([.ref a_t, .int x1])).length) Slot.unset).toArray = ls at hl ⊢
  have hl : lv_has ls 2 [(0, .ref a_t), (1, .int x1)] := hl
  unfold fX10_way at h
  refine lv_iload_n hx hb dX10_way_0 rfl (lv_at hl 1 rfl) ?_
  refine lv_iconst (v := (nI 1)) hx hb dX10_way_1 rfl ?_
  refine lv_sipush (v := (nI 1000)) hx hb dX10_way_2 rfl ?_
  obtain ⟨b1, e2, h⟩ := zz_b h
  refine zSi (As := [.int x1, .int (nI 1), .int (nI 1000)]) (rest := []) (wr := [(a_t, .inr (10, [.ref a_t_race, .ref a_t_kept, .ref a_t_trail, .ref a_t_doubts, .ref a_t_foretelling, .ref a_t_text, .ref a_t_listing, .int t_isKept])), (a_t_race, .inr (4, [.ref a_t_race_way, .ref a_t_race_guns, .ref a_t_race_runners])), (a_t_race_guns, .inr (2, [.ref a_t_race_guns_ticks])), (a_t_race_guns_ticks, .inl (cI, 6, .inl t_race_guns_ticks)), (a_t_race_runners, .inr (6, [.ref a_t_race_runners_facts, .ref a_t_race_runners_splits, .ref a_t_race_runners_torn, .ref a_t_race_runners_dropped, .ref a_t_race_runners_waved, .ref a_t_race_runners_struck, .ref a_t_race_runners_strikingOrder, .int t_race_runners_entered, .int t_race_runners_strikings])), (a_t_race_way, .inr (9, [.ref a_t_race_way_places, .ref a_t_race_way_bearings, .ref a_t_race_way_cuts, .ref a_t_race_way_deaths, .int t_race_way_mats])), (a_t_race_way_bearings, .inl (cI, 12, .inl t_race_way_bearings)), (a_t_race_way_cuts, .inl (cI, 12, .inl t_race_way_cuts)), (a_t_race_way_deaths, .inl (cZ, 12, .inl t_race_way_deaths)), (a_t_race_way_places, .inl (cI, 12, .inl t_race_way_places))]) [] [0, 1, 2, 3, 4, 5, 6, 7, 8, 9] ⟨hx, hb, hml, hown, hts⟩ (mX10_within l D cB cI cZ s.heap.size x1 (nI 1) (nI 1000) b1 e2) (va_cwS 3 hts gX10_way_X10_within rfl rfl rfl (by decide +kernel) ⟨Nat.le_of_ble_eq_true rfl, Nat.le_of_ble_eq_true rfl⟩) hK hN hZ hP hD hS hA rfl rfl rfl rfl rfl rfl hl.1 rfl (lv_room (Nat.le_of_ble_eq_true rfl)) dX10_way_5 ⟨Nat.le_of_ble_eq_true rfl, Nat.le_of_ble_eq_true rfl⟩ (fun H locs hP hD hS => ?_)
  have hP : va_P D vwCl [(a_t, .inr (10, [.ref a_t_race, .ref a_t_kept, .ref a_t_trail, .ref a_t_doubts, .ref a_t_foretelling, .ref a_t_text, .ref a_t_listing, .int t_isKept])), (a_t_race, .inr (4, [.ref a_t_race_way, .ref a_t_race_guns, .ref a_t_race_runners])), (a_t_race_guns, .inr (2, [.ref a_t_race_guns_ticks])), (a_t_race_guns_ticks, .inl (cI, 6, .inl t_race_guns_ticks)), (a_t_race_runners, .inr (6, [.ref a_t_race_runners_facts, .ref a_t_race_runners_splits, .ref a_t_race_runners_torn, .ref a_t_race_runners_dropped, .ref a_t_race_runners_waved, .ref a_t_race_runners_struck, .ref a_t_race_runners_strikingOrder, .int t_race_runners_entered, .int t_race_runners_strikings])), (a_t_race_way, .inr (9, [.ref a_t_race_way_places, .ref a_t_race_way_bearings, .ref a_t_race_way_cuts, .ref a_t_race_way_deaths, .int t_race_way_mats])), (a_t_race_way_bearings, .inl (cI, 12, .inl t_race_way_bearings)), (a_t_race_way_cuts, .inl (cI, 12, .inl t_race_way_cuts)), (a_t_race_way_deaths, .inl (cZ, 12, .inl t_race_way_deaths)), (a_t_race_way_places, .inl (cI, 12, .inl t_race_way_places))] H := hP
  have hD : va_D A [(a_t, .inr (10, [.ref a_t_race, .ref a_t_kept, .ref a_t_trail, .ref a_t_doubts, .ref a_t_foretelling, .ref a_t_text, .ref a_t_listing, .int t_isKept])), (a_t_race, .inr (4, [.ref a_t_race_way, .ref a_t_race_guns, .ref a_t_race_runners])), (a_t_race_guns, .inr (2, [.ref a_t_race_guns_ticks])), (a_t_race_guns_ticks, .inl (cI, 6, .inl t_race_guns_ticks)), (a_t_race_runners, .inr (6, [.ref a_t_race_runners_facts, .ref a_t_race_runners_splits, .ref a_t_race_runners_torn, .ref a_t_race_runners_dropped, .ref a_t_race_runners_waved, .ref a_t_race_runners_struck, .ref a_t_race_runners_strikingOrder, .int t_race_runners_entered, .int t_race_runners_strikings])), (a_t_race_way, .inr (9, [.ref a_t_race_way_places, .ref a_t_race_way_bearings, .ref a_t_race_way_cuts, .ref a_t_race_way_deaths, .int t_race_way_mats])), (a_t_race_way_bearings, .inl (cI, 12, .inl t_race_way_bearings)), (a_t_race_way_cuts, .inl (cI, 12, .inl t_race_way_cuts)), (a_t_race_way_deaths, .inl (cZ, 12, .inl t_race_way_deaths)), (a_t_race_way_places, .inl (cI, 12, .inl t_race_way_places))] := hD
  refine lv_if_ne (tgt := 13) hx hb dX10_way_8 (by decide) (fun c3 => ?_) (fun c3 => ?_)
  · have h := zz_f h c3
    refine lv_aload_n hx hb dX10_way_13 rfl (lv_at hl 0 rfl) ?_
    refine va_get (D := D) (ci := 10) (C := RX10) (T := TX10) (N := 8) hx hb hts qX10_way_X10 hown hK hP 0 rfl rfl 0 (by decide) (hts _ kX10_way_0) (fun _ h9 => h9) rfl dX10_way_14 ?_
    refine lv_iload_n hx hb dX10_way_17 rfl (lv_at hl 1 rfl) ?_
    obtain ⟨⟨t_race_guns_ticks_r4, t_race_runners_entered_r5, t_race_runners_strikings_r6, t_race_way_mats_r7, t_race_way_bearings_r8, t_race_way_cuts_r9, t_race_way_deaths_r10, t_race_way_places_r11⟩, e12, h⟩ := zz_b h
    dsimp only at h
    refine zVv (As := [.int x1]) (rest := []) (C := RX4) (wr := [(a_t, .inr (10, [.ref a_t_race, .ref a_t_kept, .ref a_t_trail, .ref a_t_doubts, .ref a_t_foretelling, .ref a_t_text, .ref a_t_listing, .int t_isKept]))]) [1, 2, 3, 4, 5, 6, 7, 8, 9] [0] 0 ⟨hx, hb, hml, hown, hts⟩ (mX4_begin l D cB cI cZ a_t_race a_t_race_way a_t_race_guns a_t_race_runners a_t_race_guns_ticks a_t_race_runners_facts a_t_race_runners_splits a_t_race_runners_torn a_t_race_runners_dropped a_t_race_runners_waved a_t_race_runners_struck a_t_race_runners_strikingOrder a_t_race_way_places a_t_race_way_bearings a_t_race_way_cuts a_t_race_way_deaths t_race_guns_ticks t_race_runners_entered t_race_runners_strikings t_race_way_mats t_race_way_bearings t_race_way_cuts t_race_way_deaths t_race_way_places H.size x1 N t_race_guns_ticks_r4 t_race_runners_entered_r5 t_race_runners_strikings_r6 t_race_way_mats_r7 t_race_way_bearings_r8 t_race_way_cuts_r9 t_race_way_deaths_r10 t_race_way_places_r11 e12) (cwV 1 hts gX10_way_X4_begin rfl rfl rfl (by decide +kernel) ⟨Nat.le_of_ble_eq_true rfl, Nat.le_of_ble_eq_true rfl⟩) hK hN hZ hP hD hS hA rfl rfl rfl rfl rfl rfl rfl rfl hl.1 rfl (lv_room (Nat.le_of_ble_eq_true rfl)) dX10_way_18 ⟨Nat.le_of_ble_eq_true rfl, Nat.le_of_ble_eq_true rfl⟩ (fun H locs hP hD hS => ?_)
    have hP : va_P D vwCl [(a_t, .inr (10, [.ref a_t_race, .ref a_t_kept, .ref a_t_trail, .ref a_t_doubts, .ref a_t_foretelling, .ref a_t_text, .ref a_t_listing, .int t_isKept])), (a_t_race, .inr (4, [.ref a_t_race_way, .ref a_t_race_guns, .ref a_t_race_runners])), (a_t_race_guns, .inr (2, [.ref a_t_race_guns_ticks])), (a_t_race_guns_ticks, .inl (cI, 6, .inl t_race_guns_ticks_r4)), (a_t_race_runners, .inr (6, [.ref a_t_race_runners_facts, .ref a_t_race_runners_splits, .ref a_t_race_runners_torn, .ref a_t_race_runners_dropped, .ref a_t_race_runners_waved, .ref a_t_race_runners_struck, .ref a_t_race_runners_strikingOrder, .int t_race_runners_entered_r5, .int t_race_runners_strikings_r6])), (a_t_race_way, .inr (9, [.ref a_t_race_way_places, .ref a_t_race_way_bearings, .ref a_t_race_way_cuts, .ref a_t_race_way_deaths, .int t_race_way_mats_r7])), (a_t_race_way_bearings, .inl (cI, 12, .inl t_race_way_bearings_r8)), (a_t_race_way_cuts, .inl (cI, 12, .inl t_race_way_cuts_r9)), (a_t_race_way_deaths, .inl (cZ, 12, .inl t_race_way_deaths_r10)), (a_t_race_way_places, .inl (cI, 12, .inl t_race_way_places_r11))] H := hP
    have hD : va_D A [(a_t, .inr (10, [.ref a_t_race, .ref a_t_kept, .ref a_t_trail, .ref a_t_doubts, .ref a_t_foretelling, .ref a_t_text, .ref a_t_listing, .int t_isKept])), (a_t_race, .inr (4, [.ref a_t_race_way, .ref a_t_race_guns, .ref a_t_race_runners])), (a_t_race_guns, .inr (2, [.ref a_t_race_guns_ticks])), (a_t_race_guns_ticks, .inl (cI, 6, .inl t_race_guns_ticks_r4)), (a_t_race_runners, .inr (6, [.ref a_t_race_runners_facts, .ref a_t_race_runners_splits, .ref a_t_race_runners_torn, .ref a_t_race_runners_dropped, .ref a_t_race_runners_waved, .ref a_t_race_runners_struck, .ref a_t_race_runners_strikingOrder, .int t_race_runners_entered_r5, .int t_race_runners_strikings_r6])), (a_t_race_way, .inr (9, [.ref a_t_race_way_places, .ref a_t_race_way_bearings, .ref a_t_race_way_cuts, .ref a_t_race_way_deaths, .int t_race_way_mats_r7])), (a_t_race_way_bearings, .inl (cI, 12, .inl t_race_way_bearings_r8)), (a_t_race_way_cuts, .inl (cI, 12, .inl t_race_way_cuts_r9)), (a_t_race_way_deaths, .inl (cZ, 12, .inl t_race_way_deaths_r10)), (a_t_race_way_places, .inl (cI, 12, .inl t_race_way_places_r11))] := hD
    refine lv_iconst (v := (nI 1)) hx hb dX10_way_21 rfl ?_
    obtain ⟨j0_, g_⟩ := Prod.mk.inj (Option.some.inj h)
    obtain ⟨j1_, g_⟩ := Prod.mk.inj g_
    obtain ⟨j2_, g_⟩ := Prod.mk.inj g_
    obtain ⟨j3_, g_⟩ := Prod.mk.inj g_
    obtain ⟨j4_, g_⟩ := Prod.mk.inj g_
    obtain ⟨j5_, g_⟩ := Prod.mk.inj g_
    obtain ⟨j6_, g_⟩ := Prod.mk.inj g_
    obtain ⟨j7_, g_⟩ := Prod.mk.inj g_
    have j8_ := g_
    subst j0_
    subst j1_
    subst j2_
    subst j3_
    subst j4_
    subst j5_
    subst j6_
    subst j7_
    subst j8_
    exact W.zret (v := (nI 1)) hx hb hr rfl (fun t ht hW => ⟨⟨_, (), rfl, rfl, zPost.of hP hD hK ht hW [0, 1, 2, 3, 4, 5, 6, 7, 8, 9] rfl rfl rfl⟩, hS.F ht⟩) hS.2.2 dX10_way_22
  · have h := zz_t h c3
    refine lv_iconst (v := (nI 0)) hx hb dX10_way_11 rfl ?_
    obtain ⟨j0_, g_⟩ := Prod.mk.inj (Option.some.inj h)
    obtain ⟨j1_, g_⟩ := Prod.mk.inj g_
    obtain ⟨j2_, g_⟩ := Prod.mk.inj g_
    obtain ⟨j3_, g_⟩ := Prod.mk.inj g_
    obtain ⟨j4_, g_⟩ := Prod.mk.inj g_
    obtain ⟨j5_, g_⟩ := Prod.mk.inj g_
    obtain ⟨j6_, g_⟩ := Prod.mk.inj g_
    obtain ⟨j7_, g_⟩ := Prod.mk.inj g_
    have j8_ := g_
    subst j0_
    subst j1_
    subst j2_
    subst j3_
    subst j4_
    subst j5_
    subst j6_
    subst j7_
    subst j8_
    exact W.zret (v := (nI 0)) hx hb hr rfl (fun t ht hW => ⟨⟨_, (), rfl, rfl, zPost.of hP hD hK ht hW [0, 1, 2, 3, 4, 5, 6, 7, 8, 9] rfl rfl rfl⟩, hS.F ht⟩) hS.2.2 dX10_way_12
/-! RunDesk.mat -/
theorem dX10_mat_0 : decode cX10_mat 0 = .ok (.iload_n 2, 1) := by decide +kernel
theorem dX10_mat_1 : decode cX10_mat 1 = .ok (.iconst 1, 1) := by decide +kernel
theorem dX10_mat_2 : decode cX10_mat 2 = .ok (.sipush 1000, 3) := by decide +kernel
theorem dX10_mat_5 : decode cX10_mat 5 = .ok (.invokestatic 68, 3) := by decide +kernel
theorem dX10_mat_8 : decode cX10_mat 8 = .ok (.ifCond .eq 24, 3) := by decide +kernel
theorem dX10_mat_11 : decode cX10_mat 11 = .ok (.iload_n 1, 1) := by decide +kernel
theorem dX10_mat_12 : decode cX10_mat 12 = .ok (.aload_n 0, 1) := by decide +kernel
theorem dX10_mat_13 : decode cX10_mat 13 = .ok (.getfield 10, 3) := by decide +kernel
theorem dX10_mat_16 : decode cX10_mat 16 = .ok (.getfield 58, 3) := by decide +kernel
theorem dX10_mat_19 : decode cX10_mat 19 = .ok (.invokevirtual 72, 3) := by decide +kernel
theorem dX10_mat_22 : decode cX10_mat 22 = .ok (.iconst 1, 1) := by decide +kernel
theorem dX10_mat_23 : decode cX10_mat 23 = .ok (.iadd, 1) := by decide +kernel
theorem dX10_mat_24 : decode cX10_mat 24 = .ok (.ldc 76, 2) := by decide +kernel
theorem dX10_mat_26 : decode cX10_mat 26 = .ok (.invokestatic 68, 3) := by decide +kernel
theorem dX10_mat_29 : decode cX10_mat 29 = .ok (.ifCond .ne 5, 3) := by decide +kernel
theorem dX10_mat_32 : decode cX10_mat 32 = .ok (.iconst (-1), 1) := by decide +kernel
theorem dX10_mat_33 : decode cX10_mat 33 = .ok (.ireturn, 1) := by decide +kernel
theorem dX10_mat_34 : decode cX10_mat 34 = .ok (.aload_n 0, 1) := by decide +kernel
theorem dX10_mat_35 : decode cX10_mat 35 = .ok (.getfield 10, 3) := by decide +kernel
theorem dX10_mat_38 : decode cX10_mat 38 = .ok (.getfield 58, 3) := by decide +kernel
theorem dX10_mat_41 : decode cX10_mat 41 = .ok (.iload_n 1, 1) := by decide +kernel
theorem dX10_mat_42 : decode cX10_mat 42 = .ok (.iload_n 2, 1) := by decide +kernel
theorem dX10_mat_43 : decode cX10_mat 43 = .ok (.invokevirtual 62, 3) := by decide +kernel
theorem dX10_mat_46 : decode cX10_mat 46 = .ok (.ireturn, 1) := by decide +kernel
set_option maxRecDepth 20000 in
theorem ggX10_mat_X10_within : GoodIn wsX10_mat wsX10_within := goodIn_r _ [6] (by decide +kernel) (by decide +kernel)
set_option maxRecDepth 20000 in
theorem gX10_mat_X10_within : GoodIn wsX10_mat (va_wsS RX10 68 yX10_within wsX10_within) := goodIn_app (goodIn_of _ (by decide +kernel)) ggX10_mat_X10_within
set_option maxRecDepth 20000 in
theorem ggX10_mat_X9_farthest : GoodIn wsX10_mat wsX9_farthest := goodIn_r _ [11, 12, 13, 14, 15, 10, 16, 17, 18, 19, 20, 21, 40, 41, 42, 43, 44] (by decide +kernel) (by decide +kernel)
set_option maxRecDepth 20000 in
theorem gX10_mat_X9_farthest : GoodIn wsX10_mat (wsV RX10 72 RX9 yX9_farthest wsX9_farthest) := goodIn_app (goodIn_of _ (by decide +kernel)) ggX10_mat_X9_farthest
set_option maxRecDepth 20000 in
theorem ggX10_mat_X9_append : GoodIn wsX10_mat wsX9_append := goodIn_r _ [25, 12, 17, 26, 27, 28, 40, 41, 42, 43, 44] (by decide +kernel) (by decide +kernel)
set_option maxRecDepth 20000 in
theorem gX10_mat_X9_append : GoodIn wsX10_mat (wsV RX10 62 RX9 yX9_append wsX9_append) := goodIn_app (goodIn_of _ (by decide +kernel)) ggX10_mat_X9_append
theorem kX10_mat_0 : (.fieldLink RX10 10 "RunDesk" "race" "LRunDesk$Race;" : Cond) ∈ wsX10_mat := List.mem_of_getElem? (i := 1) (by decide +kernel)
theorem qX10_mat_X10 : ∀ w ∈ wsX100, w ∈ wsX10_mat := fun _ h => List.mem_cons_of_mem _ (List.mem_append_left _ (List.mem_append_left _ (List.mem_append_right _ (h))))
theorem qX10_mat_X4 : ∀ w ∈ wsX40, w ∈ wsX10_mat := fun _ h => List.mem_cons_of_mem _ (List.mem_append_left _ (List.mem_append_right _ (h)))
theorem kX10_mat_3 : (.constant RX10 76 (100000) : Cond) ∈ wsX10_mat := List.mem_of_getElem? (i := 2) (by decide +kernel)
set_option maxHeartbeats 4000000 in
set_option maxRecDepth 100000 in
theorem mX10_mat (l : Launch) (D : va_G) (cB cI cZ : ClassId) (a_t : Nat) (a_t_race : Nat) (a_t_kept : Nat) (a_t_trail : Nat) (a_t_doubts : Nat) (a_t_foretelling : Nat) (a_t_text : Nat) (a_t_listing : Nat) (a_t_race_way : Nat) (a_t_race_guns : Nat) (a_t_race_runners : Nat) (a_t_race_way_places : Nat) (a_t_race_way_bearings : Nat) (a_t_race_way_cuts : Nat) (a_t_race_way_deaths : Nat) (t_isKept : Int32) (t_race_way_mats : Int32) (t_race_way_bearings : Nat → Int32) (t_race_way_cuts : Nat → Int32) (t_race_way_deaths : Nat → Int32) (t_race_way_places : Nat → Int32) (sz : Nat) (x1 : Int32) (x2 : Int32) (r0 : Int32) (t_race_way_mats' : Int32) (t_race_way_bearings' : Nat → Int32) (t_race_way_cuts' : Nat → Int32) (t_race_way_deaths' : Nat → Int32) (t_race_way_places' : Nat → Int32) (h : fX10_mat t_race_way_mats t_race_way_bearings t_race_way_cuts t_race_way_deaths t_race_way_places x1 x2 = some (r0, t_race_way_mats', t_race_way_bearings', t_race_way_cuts', t_race_way_deaths', t_race_way_places')) : Met l yX10_mat wsX10_mat ({ frames := 3, cells := 0, slots := 0, locals := 62 } : Room) (va_Pc [.ref a_t, .int x1, .int x2] (zPre D (zT cB cI cZ) [(a_t, .inr (10, [.ref a_t_race, .ref a_t_kept, .ref a_t_trail, .ref a_t_doubts, .ref a_t_foretelling, .ref a_t_text, .ref a_t_listing, .int t_isKept])), (a_t_race, .inr (4, [.ref a_t_race_way, .ref a_t_race_guns, .ref a_t_race_runners])), (a_t_race_way, .inr (9, [.ref a_t_race_way_places, .ref a_t_race_way_bearings, .ref a_t_race_way_cuts, .ref a_t_race_way_deaths, .int t_race_way_mats])), (a_t_race_way_bearings, .inl (cI, 12, .inl t_race_way_bearings)), (a_t_race_way_cuts, .inl (cI, 12, .inl t_race_way_cuts)), (a_t_race_way_deaths, .inl (cZ, 12, .inl t_race_way_deaths)), (a_t_race_way_places, .inl (cI, 12, .inl t_race_way_places))] sz)) (zQi r0 D (zT cB cI cZ) [(a_t, .inr (10, [.ref a_t_race, .ref a_t_kept, .ref a_t_trail, .ref a_t_doubts, .ref a_t_foretelling, .ref a_t_text, .ref a_t_listing, .int t_isKept])), (a_t_race, .inr (4, [.ref a_t_race_way, .ref a_t_race_guns, .ref a_t_race_runners])), (a_t_race_way, .inr (9, [.ref a_t_race_way_places, .ref a_t_race_way_bearings, .ref a_t_race_way_cuts, .ref a_t_race_way_deaths, .int t_race_way_mats'])), (a_t_race_way_bearings, .inl (cI, 12, .inl t_race_way_bearings')), (a_t_race_way_cuts, .inl (cI, 12, .inl t_race_way_cuts')), (a_t_race_way_deaths, .inl (cZ, 12, .inl t_race_way_deaths')), (a_t_race_way_places, .inl (cI, 12, .inl t_race_way_places'))] (va_A [(a_t, .inr (10, [.ref a_t_race, .ref a_t_kept, .ref a_t_trail, .ref a_t_doubts, .ref a_t_foretelling, .ref a_t_text, .ref a_t_listing, .int t_isKept])), (a_t_race, .inr (4, [.ref a_t_race_way, .ref a_t_race_guns, .ref a_t_race_runners])), (a_t_race_way, .inr (9, [.ref a_t_race_way_places, .ref a_t_race_way_bearings, .ref a_t_race_way_cuts, .ref a_t_race_way_deaths, .int t_race_way_mats])), (a_t_race_way_bearings, .inl (cI, 12, .inl t_race_way_bearings)), (a_t_race_way_cuts, .inl (cI, 12, .inl t_race_way_cuts)), (a_t_race_way_deaths, .inl (cZ, 12, .inl t_race_way_deaths)), (a_t_race_way_places, .inl (cI, 12, .inl t_race_way_places))] sz)) 0 0 (va_A [(a_t, .inr (10, [.ref a_t_race, .ref a_t_kept, .ref a_t_trail, .ref a_t_doubts, .ref a_t_foretelling, .ref a_t_text, .ref a_t_listing, .int t_isKept])), (a_t_race, .inr (4, [.ref a_t_race_way, .ref a_t_race_guns, .ref a_t_race_runners])), (a_t_race_way, .inr (9, [.ref a_t_race_way_places, .ref a_t_race_way_bearings, .ref a_t_race_way_cuts, .ref a_t_race_way_deaths, .int t_race_way_mats])), (a_t_race_way_bearings, .inl (cI, 12, .inl t_race_way_bearings)), (a_t_race_way_cuts, .inl (cI, 12, .inl t_race_way_cuts)), (a_t_race_way_deaths, .inl (cZ, 12, .inl t_race_way_deaths)), (a_t_race_way_places, .inl (cI, 12, .inl t_race_way_places))] sz) := by
  refine Met.ofW (cc := cX10_mat) (maxL := 3) (ret := (some .int)) (by decide) rfl ?_
  intro p e s m args below meth c s₁ B hml hv
  obtain ⟨rfl, hsz, hP, hK, hN, hZ, hD0⟩ := hv
  have hx := B.exec
  have hb := B.bytes
  have hr := B.returns
  have hts := atoms_spec (ws := wsX10_mat) B.pre
  have hown : s.vm.findClass RX10 = some m.cls := findClass_of_methodNamed B.named
  have hlocks := B.notSynchronized
  subst hsz
  have hD := hD0.self (sz := s.heap.size)
  generalize hAe : va_A [(a_t, .inr (10, [.ref a_t_race, .ref a_t_kept, .ref a_t_trail, .ref a_t_doubts, .ref a_t_foretelling, .ref a_t_text, .ref a_t_listing, .int t_isKept])), (a_t_race, .inr (4, [.ref a_t_race_way, .ref a_t_race_guns, .ref a_t_race_runners])), (a_t_race_way, .inr (9, [.ref a_t_race_way_places, .ref a_t_race_way_bearings, .ref a_t_race_way_cuts, .ref a_t_race_way_deaths, .int t_race_way_mats])), (a_t_race_way_bearings, .inl (cI, 12, .inl t_race_way_bearings)), (a_t_race_way_cuts, .inl (cI, 12, .inl t_race_way_cuts)), (a_t_race_way_deaths, .inl (cZ, 12, .inl t_race_way_deaths)), (a_t_race_way_places, .inl (cI, 12, .inl t_race_way_places))] s.heap.size = A at hD hZ ⊢
  have hA : ∀ q : Nat, s.heap.size ≤ q → A q := fun q h => by rw [← hAe]; exact Or.inr h
  have hS : va_S A s.heap s.heap [] := va_S.rf
  have hl := lv_entry ([.ref a_t, .int x1, .int x2]) (n := 3) (Nat.le_of_ble_eq_true rfl)
  rw [lg_entry_eq]
  generalize (lg_sl ([.ref a_t, .int x1, .int x2]) ++ List.replicate (3 - (lg_sl ([.ref a_t, .int x1, .int x2])).length) Slot.unset).toArray = ls at hl ⊢
  have hl : lv_has ls 3 [(0, .ref a_t), (1, .int x1), (2, .int x2)] := hl
  unfold fX10_mat at h
  refine lv_iload_n hx hb dX10_mat_0 rfl (lv_at hl 2 rfl) ?_
  refine lv_iconst (v := (nI 1)) hx hb dX10_mat_1 rfl ?_
  refine lv_sipush (v := (nI 1000)) hx hb dX10_mat_2 rfl ?_
  obtain ⟨b1, e2, h⟩ := zz_b h
  refine zSi (As := [.int x2, .int (nI 1), .int (nI 1000)]) (rest := []) (wr := [(a_t, .inr (10, [.ref a_t_race, .ref a_t_kept, .ref a_t_trail, .ref a_t_doubts, .ref a_t_foretelling, .ref a_t_text, .ref a_t_listing, .int t_isKept])), (a_t_race, .inr (4, [.ref a_t_race_way, .ref a_t_race_guns, .ref a_t_race_runners])), (a_t_race_way, .inr (9, [.ref a_t_race_way_places, .ref a_t_race_way_bearings, .ref a_t_race_way_cuts, .ref a_t_race_way_deaths, .int t_race_way_mats])), (a_t_race_way_bearings, .inl (cI, 12, .inl t_race_way_bearings)), (a_t_race_way_cuts, .inl (cI, 12, .inl t_race_way_cuts)), (a_t_race_way_deaths, .inl (cZ, 12, .inl t_race_way_deaths)), (a_t_race_way_places, .inl (cI, 12, .inl t_race_way_places))]) [] [0, 1, 2, 3, 4, 5, 6] ⟨hx, hb, hml, hown, hts⟩ (mX10_within l D cB cI cZ s.heap.size x2 (nI 1) (nI 1000) b1 e2) (va_cwS 3 hts gX10_mat_X10_within rfl rfl rfl (by decide +kernel) ⟨Nat.le_of_ble_eq_true rfl, Nat.le_of_ble_eq_true rfl⟩) hK hN hZ hP hD hS hA rfl rfl rfl rfl rfl rfl hl.1 rfl (lv_room (Nat.le_of_ble_eq_true rfl)) dX10_mat_5 ⟨Nat.le_of_ble_eq_true rfl, Nat.le_of_ble_eq_true rfl⟩ (fun H locs hP hD hS => ?_)
  have hP : va_P D vwCl [(a_t, .inr (10, [.ref a_t_race, .ref a_t_kept, .ref a_t_trail, .ref a_t_doubts, .ref a_t_foretelling, .ref a_t_text, .ref a_t_listing, .int t_isKept])), (a_t_race, .inr (4, [.ref a_t_race_way, .ref a_t_race_guns, .ref a_t_race_runners])), (a_t_race_way, .inr (9, [.ref a_t_race_way_places, .ref a_t_race_way_bearings, .ref a_t_race_way_cuts, .ref a_t_race_way_deaths, .int t_race_way_mats])), (a_t_race_way_bearings, .inl (cI, 12, .inl t_race_way_bearings)), (a_t_race_way_cuts, .inl (cI, 12, .inl t_race_way_cuts)), (a_t_race_way_deaths, .inl (cZ, 12, .inl t_race_way_deaths)), (a_t_race_way_places, .inl (cI, 12, .inl t_race_way_places))] H := hP
  have hD : va_D A [(a_t, .inr (10, [.ref a_t_race, .ref a_t_kept, .ref a_t_trail, .ref a_t_doubts, .ref a_t_foretelling, .ref a_t_text, .ref a_t_listing, .int t_isKept])), (a_t_race, .inr (4, [.ref a_t_race_way, .ref a_t_race_guns, .ref a_t_race_runners])), (a_t_race_way, .inr (9, [.ref a_t_race_way_places, .ref a_t_race_way_bearings, .ref a_t_race_way_cuts, .ref a_t_race_way_deaths, .int t_race_way_mats])), (a_t_race_way_bearings, .inl (cI, 12, .inl t_race_way_bearings)), (a_t_race_way_cuts, .inl (cI, 12, .inl t_race_way_cuts)), (a_t_race_way_deaths, .inl (cZ, 12, .inl t_race_way_deaths)), (a_t_race_way_places, .inl (cI, 12, .inl t_race_way_places))] := hD
  refine lv_if_eq (tgt := 32) hx hb dX10_mat_8 (by decide) (fun c3 => ?_) (fun c3 => ?_)
  · have h := zz_t h c3
    refine lv_iconst (v := (-1 : Int32)) hx hb dX10_mat_32 rfl ?_
    obtain ⟨j0_, g_⟩ := Prod.mk.inj (Option.some.inj h)
    obtain ⟨j1_, g_⟩ := Prod.mk.inj g_
    obtain ⟨j2_, g_⟩ := Prod.mk.inj g_
    obtain ⟨j3_, g_⟩ := Prod.mk.inj g_
    obtain ⟨j4_, g_⟩ := Prod.mk.inj g_
    have j5_ := g_
    subst j0_
    subst j1_
    subst j2_
    subst j3_
    subst j4_
    subst j5_
    exact W.iret (v := (-1 : Int32)) hx hb hr (fun t ht hW => ⟨⟨_, (), rfl, rfl, zPost.of hP hD hK ht hW [0, 1, 2, 3, 4, 5, 6] rfl rfl rfl⟩, hS.F ht⟩) hS.2.2 dX10_mat_33
  · have h := zz_f h c3
    refine lv_iload_n hx hb dX10_mat_11 rfl (lv_at hl 1 rfl) ?_
    refine lv_aload_n hx hb dX10_mat_12 rfl (lv_at hl 0 rfl) ?_
    refine va_get (D := D) (ci := 10) (C := RX10) (T := TX10) (N := 8) hx hb hts qX10_mat_X10 hown hK hP 0 rfl rfl 0 (by decide) (hts _ kX10_mat_0) (fun _ h9 => h9) rfl dX10_mat_13 ?_
    refine va_getN (host := "RunDesk") (D := D) (ci := 4) (C := RX4) (T := TX4) (N := 3) hx hb hts qX10_mat_X4 hown hK hP 1 rfl rfl 0 (by decide) (va_Nw.use rfl (hN _ (List.mem_of_getElem? (i := 0) rfl))) (fun _ h9 => h9) rfl dX10_mat_16 ?_
    obtain ⟨r4, e5, h⟩ := zz_b h
    refine zVi (As := []) (rest := [.int x1]) (C := RX9) (wr := [(a_t, .inr (10, [.ref a_t_race, .ref a_t_kept, .ref a_t_trail, .ref a_t_doubts, .ref a_t_foretelling, .ref a_t_text, .ref a_t_listing, .int t_isKept])), (a_t_race, .inr (4, [.ref a_t_race_way, .ref a_t_race_guns, .ref a_t_race_runners])), (a_t_race_way_bearings, .inl (cI, 12, .inl t_race_way_bearings)), (a_t_race_way_cuts, .inl (cI, 12, .inl t_race_way_cuts)), (a_t_race_way_deaths, .inl (cZ, 12, .inl t_race_way_deaths))]) [2, 6] [0, 1, 3, 4, 5] 0 ⟨hx, hb, hml, hown, hts⟩ (mX9_farthest l D cB cI cZ a_t_race_way a_t_race_way_places a_t_race_way_bearings a_t_race_way_cuts a_t_race_way_deaths t_race_way_mats t_race_way_places H.size r4 e5) (cwV 0 hts gX10_mat_X9_farthest rfl rfl rfl (by decide +kernel) ⟨Nat.le_of_ble_eq_true rfl, Nat.le_of_ble_eq_true rfl⟩) hK hN hZ hP hD hS hA rfl rfl rfl rfl rfl rfl rfl rfl hl.1 rfl (lv_room (Nat.le_of_ble_eq_true rfl)) dX10_mat_19 ⟨Nat.le_of_ble_eq_true rfl, Nat.le_of_ble_eq_true rfl⟩ (fun H locs hP hD hS => ?_)
    have hP : va_P D vwCl [(a_t, .inr (10, [.ref a_t_race, .ref a_t_kept, .ref a_t_trail, .ref a_t_doubts, .ref a_t_foretelling, .ref a_t_text, .ref a_t_listing, .int t_isKept])), (a_t_race, .inr (4, [.ref a_t_race_way, .ref a_t_race_guns, .ref a_t_race_runners])), (a_t_race_way_bearings, .inl (cI, 12, .inl t_race_way_bearings)), (a_t_race_way_cuts, .inl (cI, 12, .inl t_race_way_cuts)), (a_t_race_way_deaths, .inl (cZ, 12, .inl t_race_way_deaths)), (a_t_race_way, .inr (9, [.ref a_t_race_way_places, .ref a_t_race_way_bearings, .ref a_t_race_way_cuts, .ref a_t_race_way_deaths, .int t_race_way_mats])), (a_t_race_way_places, .inl (cI, 12, .inl t_race_way_places))] H := hP
    have hD : va_D A [(a_t, .inr (10, [.ref a_t_race, .ref a_t_kept, .ref a_t_trail, .ref a_t_doubts, .ref a_t_foretelling, .ref a_t_text, .ref a_t_listing, .int t_isKept])), (a_t_race, .inr (4, [.ref a_t_race_way, .ref a_t_race_guns, .ref a_t_race_runners])), (a_t_race_way_bearings, .inl (cI, 12, .inl t_race_way_bearings)), (a_t_race_way_cuts, .inl (cI, 12, .inl t_race_way_cuts)), (a_t_race_way_deaths, .inl (cZ, 12, .inl t_race_way_deaths)), (a_t_race_way, .inr (9, [.ref a_t_race_way_places, .ref a_t_race_way_bearings, .ref a_t_race_way_cuts, .ref a_t_race_way_deaths, .int t_race_way_mats])), (a_t_race_way_places, .inl (cI, 12, .inl t_race_way_places))] := hD
    refine lv_iconst (v := (nI 1)) hx hb dX10_mat_22 rfl ?_
    refine lv_iadd hx hb dX10_mat_23 ?_
    refine lv_ldc (v := (nI 100000)) hx hb hown (hts _ kX10_mat_3) dX10_mat_24 ?_
    obtain ⟨b6, e7, h⟩ := zz_b h
    refine zSi (As := [.int x1, .int (r4 + (nI 1)), .int (nI 100000)]) (rest := []) (wr := [(a_t, .inr (10, [.ref a_t_race, .ref a_t_kept, .ref a_t_trail, .ref a_t_doubts, .ref a_t_foretelling, .ref a_t_text, .ref a_t_listing, .int t_isKept])), (a_t_race, .inr (4, [.ref a_t_race_way, .ref a_t_race_guns, .ref a_t_race_runners])), (a_t_race_way_bearings, .inl (cI, 12, .inl t_race_way_bearings)), (a_t_race_way_cuts, .inl (cI, 12, .inl t_race_way_cuts)), (a_t_race_way_deaths, .inl (cZ, 12, .inl t_race_way_deaths)), (a_t_race_way, .inr (9, [.ref a_t_race_way_places, .ref a_t_race_way_bearings, .ref a_t_race_way_cuts, .ref a_t_race_way_deaths, .int t_race_way_mats])), (a_t_race_way_places, .inl (cI, 12, .inl t_race_way_places))]) [] [0, 1, 2, 3, 4, 5, 6] ⟨hx, hb, hml, hown, hts⟩ (mX10_within l D cB cI cZ H.size x1 (r4 + (nI 1)) (nI 100000) b6 e7) (va_cwS 3 hts gX10_mat_X10_within rfl rfl rfl (by decide +kernel) ⟨Nat.le_of_ble_eq_true rfl, Nat.le_of_ble_eq_true rfl⟩) hK hN hZ hP hD hS hA rfl rfl rfl rfl rfl rfl hl.1 rfl (lv_room (Nat.le_of_ble_eq_true rfl)) dX10_mat_26 ⟨Nat.le_of_ble_eq_true rfl, Nat.le_of_ble_eq_true rfl⟩ (fun H locs hP hD hS => ?_)
    have hP : va_P D vwCl [(a_t, .inr (10, [.ref a_t_race, .ref a_t_kept, .ref a_t_trail, .ref a_t_doubts, .ref a_t_foretelling, .ref a_t_text, .ref a_t_listing, .int t_isKept])), (a_t_race, .inr (4, [.ref a_t_race_way, .ref a_t_race_guns, .ref a_t_race_runners])), (a_t_race_way_bearings, .inl (cI, 12, .inl t_race_way_bearings)), (a_t_race_way_cuts, .inl (cI, 12, .inl t_race_way_cuts)), (a_t_race_way_deaths, .inl (cZ, 12, .inl t_race_way_deaths)), (a_t_race_way, .inr (9, [.ref a_t_race_way_places, .ref a_t_race_way_bearings, .ref a_t_race_way_cuts, .ref a_t_race_way_deaths, .int t_race_way_mats])), (a_t_race_way_places, .inl (cI, 12, .inl t_race_way_places))] H := hP
    have hD : va_D A [(a_t, .inr (10, [.ref a_t_race, .ref a_t_kept, .ref a_t_trail, .ref a_t_doubts, .ref a_t_foretelling, .ref a_t_text, .ref a_t_listing, .int t_isKept])), (a_t_race, .inr (4, [.ref a_t_race_way, .ref a_t_race_guns, .ref a_t_race_runners])), (a_t_race_way_bearings, .inl (cI, 12, .inl t_race_way_bearings)), (a_t_race_way_cuts, .inl (cI, 12, .inl t_race_way_cuts)), (a_t_race_way_deaths, .inl (cZ, 12, .inl t_race_way_deaths)), (a_t_race_way, .inr (9, [.ref a_t_race_way_places, .ref a_t_race_way_bearings, .ref a_t_race_way_cuts, .ref a_t_race_way_deaths, .int t_race_way_mats])), (a_t_race_way_places, .inl (cI, 12, .inl t_race_way_places))] := hD
    refine lv_if_ne (tgt := 34) hx hb dX10_mat_29 (by decide) (fun c8 => ?_) (fun c8 => ?_)
    · have h := zz_f h c8
      refine lv_aload_n hx hb dX10_mat_34 rfl (lv_at hl 0 rfl) ?_
      refine va_get (D := D) (ci := 10) (C := RX10) (T := TX10) (N := 8) hx hb hts qX10_mat_X10 hown hK hP 0 rfl rfl 0 (by decide) (hts _ kX10_mat_0) (fun _ h9 => h9) rfl dX10_mat_35 ?_
      refine va_getN (host := "RunDesk") (D := D) (ci := 4) (C := RX4) (T := TX4) (N := 3) hx hb hts qX10_mat_X4 hown hK hP 1 rfl rfl 0 (by decide) (va_Nw.use rfl (hN _ (List.mem_of_getElem? (i := 0) rfl))) (fun _ h9 => h9) rfl dX10_mat_38 ?_
      refine lv_iload_n hx hb dX10_mat_41 rfl (lv_at hl 1 rfl) ?_
      refine lv_iload_n hx hb dX10_mat_42 rfl (lv_at hl 2 rfl) ?_
      obtain ⟨⟨r9, t_race_way_mats_r10, t_race_way_bearings_r11, t_race_way_cuts_r12, t_race_way_deaths_r13, t_race_way_places_r14⟩, e15, h⟩ := zz_b h
      dsimp only at h
      refine zVi (As := [.int x1, .int x2]) (rest := []) (C := RX9) (wr := [(a_t, .inr (10, [.ref a_t_race, .ref a_t_kept, .ref a_t_trail, .ref a_t_doubts, .ref a_t_foretelling, .ref a_t_text, .ref a_t_listing, .int t_isKept])), (a_t_race, .inr (4, [.ref a_t_race_way, .ref a_t_race_guns, .ref a_t_race_runners]))]) [5, 2, 3, 4, 6] [0, 1] 0 ⟨hx, hb, hml, hown, hts⟩ (mX9_append l D cB cI cZ a_t_race_way a_t_race_way_places a_t_race_way_bearings a_t_race_way_cuts a_t_race_way_deaths t_race_way_mats t_race_way_bearings t_race_way_cuts t_race_way_deaths t_race_way_places H.size x1 x2 r9 t_race_way_mats_r10 t_race_way_bearings_r11 t_race_way_cuts_r12 t_race_way_deaths_r13 t_race_way_places_r14 e15) (cwV 2 hts gX10_mat_X9_append rfl rfl rfl (by decide +kernel) ⟨Nat.le_of_ble_eq_true rfl, Nat.le_of_ble_eq_true rfl⟩) hK hN hZ hP hD hS hA rfl rfl rfl rfl rfl rfl rfl rfl hl.1 rfl (lv_room (Nat.le_of_ble_eq_true rfl)) dX10_mat_43 ⟨Nat.le_of_ble_eq_true rfl, Nat.le_of_ble_eq_true rfl⟩ (fun H locs hP hD hS => ?_)
      have hP : va_P D vwCl [(a_t, .inr (10, [.ref a_t_race, .ref a_t_kept, .ref a_t_trail, .ref a_t_doubts, .ref a_t_foretelling, .ref a_t_text, .ref a_t_listing, .int t_isKept])), (a_t_race, .inr (4, [.ref a_t_race_way, .ref a_t_race_guns, .ref a_t_race_runners])), (a_t_race_way, .inr (9, [.ref a_t_race_way_places, .ref a_t_race_way_bearings, .ref a_t_race_way_cuts, .ref a_t_race_way_deaths, .int t_race_way_mats_r10])), (a_t_race_way_bearings, .inl (cI, 12, .inl t_race_way_bearings_r11)), (a_t_race_way_cuts, .inl (cI, 12, .inl t_race_way_cuts_r12)), (a_t_race_way_deaths, .inl (cZ, 12, .inl t_race_way_deaths_r13)), (a_t_race_way_places, .inl (cI, 12, .inl t_race_way_places_r14))] H := hP
      have hD : va_D A [(a_t, .inr (10, [.ref a_t_race, .ref a_t_kept, .ref a_t_trail, .ref a_t_doubts, .ref a_t_foretelling, .ref a_t_text, .ref a_t_listing, .int t_isKept])), (a_t_race, .inr (4, [.ref a_t_race_way, .ref a_t_race_guns, .ref a_t_race_runners])), (a_t_race_way, .inr (9, [.ref a_t_race_way_places, .ref a_t_race_way_bearings, .ref a_t_race_way_cuts, .ref a_t_race_way_deaths, .int t_race_way_mats_r10])), (a_t_race_way_bearings, .inl (cI, 12, .inl t_race_way_bearings_r11)), (a_t_race_way_cuts, .inl (cI, 12, .inl t_race_way_cuts_r12)), (a_t_race_way_deaths, .inl (cZ, 12, .inl t_race_way_deaths_r13)), (a_t_race_way_places, .inl (cI, 12, .inl t_race_way_places_r14))] := hD
      obtain ⟨j0_, g_⟩ := Prod.mk.inj (Option.some.inj h)
      obtain ⟨j1_, g_⟩ := Prod.mk.inj g_
      obtain ⟨j2_, g_⟩ := Prod.mk.inj g_
      obtain ⟨j3_, g_⟩ := Prod.mk.inj g_
      obtain ⟨j4_, g_⟩ := Prod.mk.inj g_
      have j5_ := g_
      subst j0_
      subst j1_
      subst j2_
      subst j3_
      subst j4_
      subst j5_
      exact W.iret (v := r9) hx hb hr (fun t ht hW => ⟨⟨_, (), rfl, rfl, zPost.of hP hD hK ht hW [0, 1, 2, 3, 4, 5, 6] rfl rfl rfl⟩, hS.F ht⟩) hS.2.2 dX10_mat_46
    · have h := zz_t h c8
      refine lv_iconst (v := (-1 : Int32)) hx hb dX10_mat_32 rfl ?_
      obtain ⟨j0_, g_⟩ := Prod.mk.inj (Option.some.inj h)
      obtain ⟨j1_, g_⟩ := Prod.mk.inj g_
      obtain ⟨j2_, g_⟩ := Prod.mk.inj g_
      obtain ⟨j3_, g_⟩ := Prod.mk.inj g_
      obtain ⟨j4_, g_⟩ := Prod.mk.inj g_
      have j5_ := g_
      subst j0_
      subst j1_
      subst j2_
      subst j3_
      subst j4_
      subst j5_
      exact W.iret (v := (-1 : Int32)) hx hb hr (fun t ht hW => ⟨⟨_, (), rfl, rfl, zPost.of hP hD hK ht hW [0, 1, 5, 2, 3, 4, 6] rfl rfl rfl⟩, hS.F ht⟩) hS.2.2 dX10_mat_33
/-! RunDesk.runner -/
theorem dX10_runner_0 : decode cX10_runner 0 = .ok (.iload_n 1, 1) := by decide +kernel
theorem dX10_runner_1 : decode cX10_runner 1 = .ok (.iconst 0, 1) := by decide +kernel
theorem dX10_runner_2 : decode cX10_runner 2 = .ok (.iconst 3, 1) := by decide +kernel
theorem dX10_runner_3 : decode cX10_runner 3 = .ok (.invokestatic 68, 3) := by decide +kernel
theorem dX10_runner_6 : decode cX10_runner 6 = .ok (.ifCond .eq 25, 3) := by decide +kernel
theorem dX10_runner_9 : decode cX10_runner 9 = .ok (.iload_n 2, 1) := by decide +kernel
theorem dX10_runner_10 : decode cX10_runner 10 = .ok (.bipush 60, 2) := by decide +kernel
theorem dX10_runner_12 : decode cX10_runner 12 = .ok (.sipush 2000, 3) := by decide +kernel
theorem dX10_runner_15 : decode cX10_runner 15 = .ok (.invokestatic 68, 3) := by decide +kernel
theorem dX10_runner_18 : decode cX10_runner 18 = .ok (.ifCond .eq 13, 3) := by decide +kernel
theorem dX10_runner_21 : decode cX10_runner 21 = .ok (.iload_n 3, 1) := by decide +kernel
theorem dX10_runner_22 : decode cX10_runner 22 = .ok (.iconst 0, 1) := by decide +kernel
theorem dX10_runner_23 : decode cX10_runner 23 = .ok (.bipush 99, 2) := by decide +kernel
theorem dX10_runner_25 : decode cX10_runner 25 = .ok (.invokestatic 68, 3) := by decide +kernel
theorem dX10_runner_28 : decode cX10_runner 28 = .ok (.ifCond .ne 5, 3) := by decide +kernel
theorem dX10_runner_31 : decode cX10_runner 31 = .ok (.iconst (-1), 1) := by decide +kernel
theorem dX10_runner_32 : decode cX10_runner 32 = .ok (.ireturn, 1) := by decide +kernel
theorem dX10_runner_33 : decode cX10_runner 33 = .ok (.iload 4, 2) := by decide +kernel
theorem dX10_runner_35 : decode cX10_runner 35 = .ok (.iconst 0, 1) := by decide +kernel
theorem dX10_runner_36 : decode cX10_runner 36 = .ok (.iconst 1, 1) := by decide +kernel
theorem dX10_runner_37 : decode cX10_runner 37 = .ok (.invokestatic 68, 3) := by decide +kernel
theorem dX10_runner_40 : decode cX10_runner 40 = .ok (.ifCond .eq 24, 3) := by decide +kernel
theorem dX10_runner_43 : decode cX10_runner 43 = .ok (.iload 5, 2) := by decide +kernel
theorem dX10_runner_45 : decode cX10_runner 45 = .ok (.iconst 0, 1) := by decide +kernel
theorem dX10_runner_46 : decode cX10_runner 46 = .ok (.bipush 9, 2) := by decide +kernel
theorem dX10_runner_48 : decode cX10_runner 48 = .ok (.invokestatic 68, 3) := by decide +kernel
theorem dX10_runner_51 : decode cX10_runner 51 = .ok (.ifCond .eq 13, 3) := by decide +kernel
theorem dX10_runner_54 : decode cX10_runner 54 = .ok (.iload 6, 2) := by decide +kernel
theorem dX10_runner_56 : decode cX10_runner 56 = .ok (.iconst 0, 1) := by decide +kernel
theorem dX10_runner_57 : decode cX10_runner 57 = .ok (.iconst 5, 1) := by decide +kernel
theorem dX10_runner_58 : decode cX10_runner 58 = .ok (.invokestatic 68, 3) := by decide +kernel
theorem dX10_runner_61 : decode cX10_runner 61 = .ok (.ifCond .ne 5, 3) := by decide +kernel
theorem dX10_runner_64 : decode cX10_runner 64 = .ok (.iconst (-1), 1) := by decide +kernel
theorem dX10_runner_65 : decode cX10_runner 65 = .ok (.ireturn, 1) := by decide +kernel
theorem dX10_runner_66 : decode cX10_runner 66 = .ok (.aload_n 0, 1) := by decide +kernel
theorem dX10_runner_67 : decode cX10_runner 67 = .ok (.getfield 10, 3) := by decide +kernel
theorem dX10_runner_70 : decode cX10_runner 70 = .ok (.getfield 77, 3) := by decide +kernel
theorem dX10_runner_73 : decode cX10_runner 73 = .ok (.iload_n 1, 1) := by decide +kernel
theorem dX10_runner_74 : decode cX10_runner 74 = .ok (.iload_n 2, 1) := by decide +kernel
theorem dX10_runner_75 : decode cX10_runner 75 = .ok (.iload_n 3, 1) := by decide +kernel
theorem dX10_runner_76 : decode cX10_runner 76 = .ok (.iload 4, 2) := by decide +kernel
theorem dX10_runner_78 : decode cX10_runner 78 = .ok (.iload 5, 2) := by decide +kernel
theorem dX10_runner_80 : decode cX10_runner 80 = .ok (.iload 6, 2) := by decide +kernel
theorem dX10_runner_82 : decode cX10_runner 82 = .ok (.invokevirtual 81, 3) := by decide +kernel
theorem dX10_runner_85 : decode cX10_runner 85 = .ok (.ireturn, 1) := by decide +kernel
set_option maxRecDepth 20000 in
theorem ggX10_runner_X10_within : GoodIn wsX10_runner wsX10_within := goodIn_r _ [5] (by decide +kernel) (by decide +kernel)
set_option maxRecDepth 20000 in
theorem gX10_runner_X10_within : GoodIn wsX10_runner (va_wsS RX10 68 yX10_within wsX10_within) := goodIn_app (goodIn_of _ (by decide +kernel)) ggX10_runner_X10_within
set_option maxRecDepth 20000 in
theorem ggX10_runner_X6_enter : GoodIn wsX10_runner wsX6_enter := goodIn_r _ [10, 11, 12, 13, 14, 15, 16, 17, 29, 30, 31, 32, 33, 34, 35, 36, 37] (by decide +kernel) (by decide +kernel)
set_option maxRecDepth 20000 in
theorem gX10_runner_X6_enter : GoodIn wsX10_runner (wsV RX10 81 RX6 yX6_enter wsX6_enter) := goodIn_app (goodIn_of _ (by decide +kernel)) ggX10_runner_X6_enter
theorem kX10_runner_0 : (.fieldLink RX10 10 "RunDesk" "race" "LRunDesk$Race;" : Cond) ∈ wsX10_runner := List.mem_of_getElem? (i := 1) (by decide +kernel)
theorem qX10_runner_X10 : ∀ w ∈ wsX100, w ∈ wsX10_runner := fun _ h => List.mem_cons_of_mem _ (List.mem_append_left _ (List.mem_append_left _ (List.mem_append_right _ (h))))
theorem qX10_runner_X4 : ∀ w ∈ wsX40, w ∈ wsX10_runner := fun _ h => List.mem_cons_of_mem _ (List.mem_append_left _ (List.mem_append_right _ (h)))
set_option maxHeartbeats 4000000 in
set_option maxRecDepth 100000 in
theorem mX10_runner (l : Launch) (D : va_G) (cB cI cZ : ClassId) (a_t : Nat) (a_t_race : Nat) (a_t_kept : Nat) (a_t_trail : Nat) (a_t_doubts : Nat) (a_t_foretelling : Nat) (a_t_text : Nat) (a_t_listing : Nat) (a_t_race_way : Nat) (a_t_race_guns : Nat) (a_t_race_runners : Nat) (a_t_race_runners_facts : Nat) (a_t_race_runners_splits : Nat) (a_t_race_runners_torn : Nat) (a_t_race_runners_dropped : Nat) (a_t_race_runners_waved : Nat) (a_t_race_runners_struck : Nat) (a_t_race_runners_strikingOrder : Nat) (t_isKept : Int32) (t_race_runners_entered : Int32) (t_race_runners_strikings : Int32) (t_race_runners_dropped : Nat → Int32) (t_race_runners_facts : Nat → Int32) (t_race_runners_splits : Nat → Int32) (t_race_runners_struck : Nat → Int32) (t_race_runners_torn : Nat → Int32) (t_race_runners_waved : Nat → Int32) (sz : Nat) (x1 : Int32) (x2 : Int32) (x3 : Int32) (x4 : Int32) (x5 : Int32) (x6 : Int32) (N : Nat) (r0 : Int32) (t_race_runners_entered' : Int32) (t_race_runners_dropped' : Nat → Int32) (t_race_runners_facts' : Nat → Int32) (t_race_runners_splits' : Nat → Int32) (t_race_runners_struck' : Nat → Int32) (t_race_runners_torn' : Nat → Int32) (t_race_runners_waved' : Nat → Int32) (h : fX10_runner N t_race_runners_entered t_race_runners_dropped t_race_runners_facts t_race_runners_splits t_race_runners_struck t_race_runners_torn t_race_runners_waved x1 x2 x3 x4 x5 x6 = some (r0, t_race_runners_entered', t_race_runners_dropped', t_race_runners_facts', t_race_runners_splits', t_race_runners_struck', t_race_runners_torn', t_race_runners_waved')) : Met l yX10_runner wsX10_runner ({ frames := 1, cells := 0, slots := 0, locals := 28 } : Room) (va_Pc [.ref a_t, .int x1, .int x2, .int x3, .int x4, .int x5, .int x6] (zPre D (zT cB cI cZ) [(a_t, .inr (10, [.ref a_t_race, .ref a_t_kept, .ref a_t_trail, .ref a_t_doubts, .ref a_t_foretelling, .ref a_t_text, .ref a_t_listing, .int t_isKept])), (a_t_race, .inr (4, [.ref a_t_race_way, .ref a_t_race_guns, .ref a_t_race_runners])), (a_t_race_runners, .inr (6, [.ref a_t_race_runners_facts, .ref a_t_race_runners_splits, .ref a_t_race_runners_torn, .ref a_t_race_runners_dropped, .ref a_t_race_runners_waved, .ref a_t_race_runners_struck, .ref a_t_race_runners_strikingOrder, .int t_race_runners_entered, .int t_race_runners_strikings])), (a_t_race_runners_dropped, .inl (cZ, 60, .inl t_race_runners_dropped)), (a_t_race_runners_facts, .inl (cI, 360, .inl t_race_runners_facts)), (a_t_race_runners_splits, .inl (cI, 720, .inl t_race_runners_splits)), (a_t_race_runners_struck, .inl (cZ, 60, .inl t_race_runners_struck)), (a_t_race_runners_torn, .inl (cI, 60, .inl t_race_runners_torn)), (a_t_race_runners_waved, .inl (cZ, 60, .inl t_race_runners_waved))] sz)) (zQi r0 D (zT cB cI cZ) [(a_t, .inr (10, [.ref a_t_race, .ref a_t_kept, .ref a_t_trail, .ref a_t_doubts, .ref a_t_foretelling, .ref a_t_text, .ref a_t_listing, .int t_isKept])), (a_t_race, .inr (4, [.ref a_t_race_way, .ref a_t_race_guns, .ref a_t_race_runners])), (a_t_race_runners, .inr (6, [.ref a_t_race_runners_facts, .ref a_t_race_runners_splits, .ref a_t_race_runners_torn, .ref a_t_race_runners_dropped, .ref a_t_race_runners_waved, .ref a_t_race_runners_struck, .ref a_t_race_runners_strikingOrder, .int t_race_runners_entered', .int t_race_runners_strikings])), (a_t_race_runners_dropped, .inl (cZ, 60, .inl t_race_runners_dropped')), (a_t_race_runners_facts, .inl (cI, 360, .inl t_race_runners_facts')), (a_t_race_runners_splits, .inl (cI, 720, .inl t_race_runners_splits')), (a_t_race_runners_struck, .inl (cZ, 60, .inl t_race_runners_struck')), (a_t_race_runners_torn, .inl (cI, 60, .inl t_race_runners_torn')), (a_t_race_runners_waved, .inl (cZ, 60, .inl t_race_runners_waved'))] (va_A [(a_t, .inr (10, [.ref a_t_race, .ref a_t_kept, .ref a_t_trail, .ref a_t_doubts, .ref a_t_foretelling, .ref a_t_text, .ref a_t_listing, .int t_isKept])), (a_t_race, .inr (4, [.ref a_t_race_way, .ref a_t_race_guns, .ref a_t_race_runners])), (a_t_race_runners, .inr (6, [.ref a_t_race_runners_facts, .ref a_t_race_runners_splits, .ref a_t_race_runners_torn, .ref a_t_race_runners_dropped, .ref a_t_race_runners_waved, .ref a_t_race_runners_struck, .ref a_t_race_runners_strikingOrder, .int t_race_runners_entered, .int t_race_runners_strikings])), (a_t_race_runners_dropped, .inl (cZ, 60, .inl t_race_runners_dropped)), (a_t_race_runners_facts, .inl (cI, 360, .inl t_race_runners_facts)), (a_t_race_runners_splits, .inl (cI, 720, .inl t_race_runners_splits)), (a_t_race_runners_struck, .inl (cZ, 60, .inl t_race_runners_struck)), (a_t_race_runners_torn, .inl (cI, 60, .inl t_race_runners_torn)), (a_t_race_runners_waved, .inl (cZ, 60, .inl t_race_runners_waved))] sz)) 0 0 (va_A [(a_t, .inr (10, [.ref a_t_race, .ref a_t_kept, .ref a_t_trail, .ref a_t_doubts, .ref a_t_foretelling, .ref a_t_text, .ref a_t_listing, .int t_isKept])), (a_t_race, .inr (4, [.ref a_t_race_way, .ref a_t_race_guns, .ref a_t_race_runners])), (a_t_race_runners, .inr (6, [.ref a_t_race_runners_facts, .ref a_t_race_runners_splits, .ref a_t_race_runners_torn, .ref a_t_race_runners_dropped, .ref a_t_race_runners_waved, .ref a_t_race_runners_struck, .ref a_t_race_runners_strikingOrder, .int t_race_runners_entered, .int t_race_runners_strikings])), (a_t_race_runners_dropped, .inl (cZ, 60, .inl t_race_runners_dropped)), (a_t_race_runners_facts, .inl (cI, 360, .inl t_race_runners_facts)), (a_t_race_runners_splits, .inl (cI, 720, .inl t_race_runners_splits)), (a_t_race_runners_struck, .inl (cZ, 60, .inl t_race_runners_struck)), (a_t_race_runners_torn, .inl (cI, 60, .inl t_race_runners_torn)), (a_t_race_runners_waved, .inl (cZ, 60, .inl t_race_runners_waved))] sz) := by
  refine Met.ofW (cc := cX10_runner) (maxL := 7) (ret := (some .int)) (by decide) rfl ?_
  intro p e s m args below meth c s₁ B hml hv
  obtain ⟨rfl, hsz, hP, hK, hN, hZ, hD0⟩ := hv
  have hx := B.exec
  have hb := B.bytes
  have hr := B.returns
  have hts := atoms_spec (ws := wsX10_runner) B.pre
  have hown : s.vm.findClass RX10 = some m.cls := findClass_of_methodNamed B.named
  have hlocks := B.notSynchronized
  subst hsz
  have hD := hD0.self (sz := s.heap.size)
  generalize hAe : va_A [(a_t, .inr (10, [.ref a_t_race, .ref a_t_kept, .ref a_t_trail, .ref a_t_doubts, .ref a_t_foretelling, .ref a_t_text, .ref a_t_listing, .int t_isKept])), (a_t_race, .inr (4, [.ref a_t_race_way, .ref a_t_race_guns, .ref a_t_race_runners])), (a_t_race_runners, .inr (6, [.ref a_t_race_runners_facts, .ref a_t_race_runners_splits, .ref a_t_race_runners_torn, .ref a_t_race_runners_dropped, .ref a_t_race_runners_waved, .ref a_t_race_runners_struck, .ref a_t_race_runners_strikingOrder, .int t_race_runners_entered, .int t_race_runners_strikings])), (a_t_race_runners_dropped, .inl (cZ, 60, .inl t_race_runners_dropped)), (a_t_race_runners_facts, .inl (cI, 360, .inl t_race_runners_facts)), (a_t_race_runners_splits, .inl (cI, 720, .inl t_race_runners_splits)), (a_t_race_runners_struck, .inl (cZ, 60, .inl t_race_runners_struck)), (a_t_race_runners_torn, .inl (cI, 60, .inl t_race_runners_torn)), (a_t_race_runners_waved, .inl (cZ, 60, .inl t_race_runners_waved))] s.heap.size = A at hD hZ ⊢
  have hA : ∀ q : Nat, s.heap.size ≤ q → A q := fun q h => by rw [← hAe]; exact Or.inr h
  have hS : va_S A s.heap s.heap [] := va_S.rf
  have hl := lv_entry ([.ref a_t, .int x1, .int x2, .int x3, .int x4, .int x5, .int x6]) (n := 7) (Nat.le_of_ble_eq_true rfl)
  rw [lg_entry_eq]
  generalize (lg_sl ([.ref a_t, .int x1, .int x2, .int x3, .int x4, .int x5, .int x6]) ++ List.replicate (7 - (lg_sl ([.ref a_t, .int x1, .int x2, .int x3, .int x4, .int x5, .int x6])).length) Slot.unset).toArray = ls at hl ⊢
  have hl : lv_has ls 7 [(0, .ref a_t), (1, .int x1), (2, .int x2), (3, .int x3), (4, .int x4), (5, .int x5), (6, .int x6)] := hl
  unfold fX10_runner at h
  refine lv_iload_n hx hb dX10_runner_0 rfl (lv_at hl 1 rfl) ?_
  refine lv_iconst (v := (nI 0)) hx hb dX10_runner_1 rfl ?_
  refine lv_iconst (v := (nI 3)) hx hb dX10_runner_2 rfl ?_
  obtain ⟨b1, e2, h⟩ := zz_b h
  refine zSi (As := [.int x1, .int (nI 0), .int (nI 3)]) (rest := []) (wr := [(a_t, .inr (10, [.ref a_t_race, .ref a_t_kept, .ref a_t_trail, .ref a_t_doubts, .ref a_t_foretelling, .ref a_t_text, .ref a_t_listing, .int t_isKept])), (a_t_race, .inr (4, [.ref a_t_race_way, .ref a_t_race_guns, .ref a_t_race_runners])), (a_t_race_runners, .inr (6, [.ref a_t_race_runners_facts, .ref a_t_race_runners_splits, .ref a_t_race_runners_torn, .ref a_t_race_runners_dropped, .ref a_t_race_runners_waved, .ref a_t_race_runners_struck, .ref a_t_race_runners_strikingOrder, .int t_race_runners_entered, .int t_race_runners_strikings])), (a_t_race_runners_dropped, .inl (cZ, 60, .inl t_race_runners_dropped)), (a_t_race_runners_facts, .inl (cI, 360, .inl t_race_runners_facts)), (a_t_race_runners_splits, .inl (cI, 720, .inl t_race_runners_splits)), (a_t_race_runners_struck, .inl (cZ, 60, .inl t_race_runners_struck)), (a_t_race_runners_torn, .inl (cI, 60, .inl t_race_runners_torn)), (a_t_race_runners_waved, .inl (cZ, 60, .inl t_race_runners_waved))]) [] [0, 1, 2, 3, 4, 5, 6, 7, 8] ⟨hx, hb, hml, hown, hts⟩ (mX10_within l D cB cI cZ s.heap.size x1 (nI 0) (nI 3) b1 e2) (va_cwS 3 hts gX10_runner_X10_within rfl rfl rfl (by decide +kernel) ⟨Nat.le_of_ble_eq_true rfl, Nat.le_of_ble_eq_true rfl⟩) hK hN hZ hP hD hS hA rfl rfl rfl rfl rfl rfl hl.1 rfl (lv_room (Nat.le_of_ble_eq_true rfl)) dX10_runner_3 ⟨Nat.le_of_ble_eq_true rfl, Nat.le_of_ble_eq_true rfl⟩ (fun H locs hP hD hS => ?_)
  have hP : va_P D vwCl [(a_t, .inr (10, [.ref a_t_race, .ref a_t_kept, .ref a_t_trail, .ref a_t_doubts, .ref a_t_foretelling, .ref a_t_text, .ref a_t_listing, .int t_isKept])), (a_t_race, .inr (4, [.ref a_t_race_way, .ref a_t_race_guns, .ref a_t_race_runners])), (a_t_race_runners, .inr (6, [.ref a_t_race_runners_facts, .ref a_t_race_runners_splits, .ref a_t_race_runners_torn, .ref a_t_race_runners_dropped, .ref a_t_race_runners_waved, .ref a_t_race_runners_struck, .ref a_t_race_runners_strikingOrder, .int t_race_runners_entered, .int t_race_runners_strikings])), (a_t_race_runners_dropped, .inl (cZ, 60, .inl t_race_runners_dropped)), (a_t_race_runners_facts, .inl (cI, 360, .inl t_race_runners_facts)), (a_t_race_runners_splits, .inl (cI, 720, .inl t_race_runners_splits)), (a_t_race_runners_struck, .inl (cZ, 60, .inl t_race_runners_struck)), (a_t_race_runners_torn, .inl (cI, 60, .inl t_race_runners_torn)), (a_t_race_runners_waved, .inl (cZ, 60, .inl t_race_runners_waved))] H := hP
  have hD : va_D A [(a_t, .inr (10, [.ref a_t_race, .ref a_t_kept, .ref a_t_trail, .ref a_t_doubts, .ref a_t_foretelling, .ref a_t_text, .ref a_t_listing, .int t_isKept])), (a_t_race, .inr (4, [.ref a_t_race_way, .ref a_t_race_guns, .ref a_t_race_runners])), (a_t_race_runners, .inr (6, [.ref a_t_race_runners_facts, .ref a_t_race_runners_splits, .ref a_t_race_runners_torn, .ref a_t_race_runners_dropped, .ref a_t_race_runners_waved, .ref a_t_race_runners_struck, .ref a_t_race_runners_strikingOrder, .int t_race_runners_entered, .int t_race_runners_strikings])), (a_t_race_runners_dropped, .inl (cZ, 60, .inl t_race_runners_dropped)), (a_t_race_runners_facts, .inl (cI, 360, .inl t_race_runners_facts)), (a_t_race_runners_splits, .inl (cI, 720, .inl t_race_runners_splits)), (a_t_race_runners_struck, .inl (cZ, 60, .inl t_race_runners_struck)), (a_t_race_runners_torn, .inl (cI, 60, .inl t_race_runners_torn)), (a_t_race_runners_waved, .inl (cZ, 60, .inl t_race_runners_waved))] := hD
  refine lv_if_eq (tgt := 31) hx hb dX10_runner_6 (by decide) (fun c3 => ?_) (fun c3 => ?_)
  · have h := zz_t h c3
    refine lv_iconst (v := (-1 : Int32)) hx hb dX10_runner_31 rfl ?_
    obtain ⟨j0_, g_⟩ := Prod.mk.inj (Option.some.inj h)
    obtain ⟨j1_, g_⟩ := Prod.mk.inj g_
    obtain ⟨j2_, g_⟩ := Prod.mk.inj g_
    obtain ⟨j3_, g_⟩ := Prod.mk.inj g_
    obtain ⟨j4_, g_⟩ := Prod.mk.inj g_
    obtain ⟨j5_, g_⟩ := Prod.mk.inj g_
    obtain ⟨j6_, g_⟩ := Prod.mk.inj g_
    have j7_ := g_
    subst j0_
    subst j1_
    subst j2_
    subst j3_
    subst j4_
    subst j5_
    subst j6_
    subst j7_
    exact W.iret (v := (-1 : Int32)) hx hb hr (fun t ht hW => ⟨⟨_, (), rfl, rfl, zPost.of hP hD hK ht hW [0, 1, 2, 3, 4, 5, 6, 7, 8] rfl rfl rfl⟩, hS.F ht⟩) hS.2.2 dX10_runner_32
  · have h := zz_f h c3
    refine lv_iload_n hx hb dX10_runner_9 rfl (lv_at hl 2 rfl) ?_
    refine lv_bipush (v := (nI 60)) hx hb dX10_runner_10 rfl ?_
    refine lv_sipush (v := (nI 2000)) hx hb dX10_runner_12 rfl ?_
    obtain ⟨b4, e5, h⟩ := zz_b h
    refine zSi (As := [.int x2, .int (nI 60), .int (nI 2000)]) (rest := []) (wr := [(a_t, .inr (10, [.ref a_t_race, .ref a_t_kept, .ref a_t_trail, .ref a_t_doubts, .ref a_t_foretelling, .ref a_t_text, .ref a_t_listing, .int t_isKept])), (a_t_race, .inr (4, [.ref a_t_race_way, .ref a_t_race_guns, .ref a_t_race_runners])), (a_t_race_runners, .inr (6, [.ref a_t_race_runners_facts, .ref a_t_race_runners_splits, .ref a_t_race_runners_torn, .ref a_t_race_runners_dropped, .ref a_t_race_runners_waved, .ref a_t_race_runners_struck, .ref a_t_race_runners_strikingOrder, .int t_race_runners_entered, .int t_race_runners_strikings])), (a_t_race_runners_dropped, .inl (cZ, 60, .inl t_race_runners_dropped)), (a_t_race_runners_facts, .inl (cI, 360, .inl t_race_runners_facts)), (a_t_race_runners_splits, .inl (cI, 720, .inl t_race_runners_splits)), (a_t_race_runners_struck, .inl (cZ, 60, .inl t_race_runners_struck)), (a_t_race_runners_torn, .inl (cI, 60, .inl t_race_runners_torn)), (a_t_race_runners_waved, .inl (cZ, 60, .inl t_race_runners_waved))]) [] [0, 1, 2, 3, 4, 5, 6, 7, 8] ⟨hx, hb, hml, hown, hts⟩ (mX10_within l D cB cI cZ H.size x2 (nI 60) (nI 2000) b4 e5) (va_cwS 3 hts gX10_runner_X10_within rfl rfl rfl (by decide +kernel) ⟨Nat.le_of_ble_eq_true rfl, Nat.le_of_ble_eq_true rfl⟩) hK hN hZ hP hD hS hA rfl rfl rfl rfl rfl rfl hl.1 rfl (lv_room (Nat.le_of_ble_eq_true rfl)) dX10_runner_15 ⟨Nat.le_of_ble_eq_true rfl, Nat.le_of_ble_eq_true rfl⟩ (fun H locs hP hD hS => ?_)
    have hP : va_P D vwCl [(a_t, .inr (10, [.ref a_t_race, .ref a_t_kept, .ref a_t_trail, .ref a_t_doubts, .ref a_t_foretelling, .ref a_t_text, .ref a_t_listing, .int t_isKept])), (a_t_race, .inr (4, [.ref a_t_race_way, .ref a_t_race_guns, .ref a_t_race_runners])), (a_t_race_runners, .inr (6, [.ref a_t_race_runners_facts, .ref a_t_race_runners_splits, .ref a_t_race_runners_torn, .ref a_t_race_runners_dropped, .ref a_t_race_runners_waved, .ref a_t_race_runners_struck, .ref a_t_race_runners_strikingOrder, .int t_race_runners_entered, .int t_race_runners_strikings])), (a_t_race_runners_dropped, .inl (cZ, 60, .inl t_race_runners_dropped)), (a_t_race_runners_facts, .inl (cI, 360, .inl t_race_runners_facts)), (a_t_race_runners_splits, .inl (cI, 720, .inl t_race_runners_splits)), (a_t_race_runners_struck, .inl (cZ, 60, .inl t_race_runners_struck)), (a_t_race_runners_torn, .inl (cI, 60, .inl t_race_runners_torn)), (a_t_race_runners_waved, .inl (cZ, 60, .inl t_race_runners_waved))] H := hP
    have hD : va_D A [(a_t, .inr (10, [.ref a_t_race, .ref a_t_kept, .ref a_t_trail, .ref a_t_doubts, .ref a_t_foretelling, .ref a_t_text, .ref a_t_listing, .int t_isKept])), (a_t_race, .inr (4, [.ref a_t_race_way, .ref a_t_race_guns, .ref a_t_race_runners])), (a_t_race_runners, .inr (6, [.ref a_t_race_runners_facts, .ref a_t_race_runners_splits, .ref a_t_race_runners_torn, .ref a_t_race_runners_dropped, .ref a_t_race_runners_waved, .ref a_t_race_runners_struck, .ref a_t_race_runners_strikingOrder, .int t_race_runners_entered, .int t_race_runners_strikings])), (a_t_race_runners_dropped, .inl (cZ, 60, .inl t_race_runners_dropped)), (a_t_race_runners_facts, .inl (cI, 360, .inl t_race_runners_facts)), (a_t_race_runners_splits, .inl (cI, 720, .inl t_race_runners_splits)), (a_t_race_runners_struck, .inl (cZ, 60, .inl t_race_runners_struck)), (a_t_race_runners_torn, .inl (cI, 60, .inl t_race_runners_torn)), (a_t_race_runners_waved, .inl (cZ, 60, .inl t_race_runners_waved))] := hD
    refine lv_if_eq (tgt := 31) hx hb dX10_runner_18 (by decide) (fun c6 => ?_) (fun c6 => ?_)
    · have h := zz_t h c6
      refine lv_iconst (v := (-1 : Int32)) hx hb dX10_runner_31 rfl ?_
      obtain ⟨j0_, g_⟩ := Prod.mk.inj (Option.some.inj h)
      obtain ⟨j1_, g_⟩ := Prod.mk.inj g_
      obtain ⟨j2_, g_⟩ := Prod.mk.inj g_
      obtain ⟨j3_, g_⟩ := Prod.mk.inj g_
      obtain ⟨j4_, g_⟩ := Prod.mk.inj g_
      obtain ⟨j5_, g_⟩ := Prod.mk.inj g_
      obtain ⟨j6_, g_⟩ := Prod.mk.inj g_
      have j7_ := g_
      subst j0_
      subst j1_
      subst j2_
      subst j3_
      subst j4_
      subst j5_
      subst j6_
      subst j7_
      exact W.iret (v := (-1 : Int32)) hx hb hr (fun t ht hW => ⟨⟨_, (), rfl, rfl, zPost.of hP hD hK ht hW [0, 1, 2, 3, 4, 5, 6, 7, 8] rfl rfl rfl⟩, hS.F ht⟩) hS.2.2 dX10_runner_32
    · have h := zz_f h c6
      refine lv_iload_n hx hb dX10_runner_21 rfl (lv_at hl 3 rfl) ?_
      refine lv_iconst (v := (nI 0)) hx hb dX10_runner_22 rfl ?_
      refine lv_bipush (v := (nI 99)) hx hb dX10_runner_23 rfl ?_
      obtain ⟨b7, e8, h⟩ := zz_b h
      refine zSi (As := [.int x3, .int (nI 0), .int (nI 99)]) (rest := []) (wr := [(a_t, .inr (10, [.ref a_t_race, .ref a_t_kept, .ref a_t_trail, .ref a_t_doubts, .ref a_t_foretelling, .ref a_t_text, .ref a_t_listing, .int t_isKept])), (a_t_race, .inr (4, [.ref a_t_race_way, .ref a_t_race_guns, .ref a_t_race_runners])), (a_t_race_runners, .inr (6, [.ref a_t_race_runners_facts, .ref a_t_race_runners_splits, .ref a_t_race_runners_torn, .ref a_t_race_runners_dropped, .ref a_t_race_runners_waved, .ref a_t_race_runners_struck, .ref a_t_race_runners_strikingOrder, .int t_race_runners_entered, .int t_race_runners_strikings])), (a_t_race_runners_dropped, .inl (cZ, 60, .inl t_race_runners_dropped)), (a_t_race_runners_facts, .inl (cI, 360, .inl t_race_runners_facts)), (a_t_race_runners_splits, .inl (cI, 720, .inl t_race_runners_splits)), (a_t_race_runners_struck, .inl (cZ, 60, .inl t_race_runners_struck)), (a_t_race_runners_torn, .inl (cI, 60, .inl t_race_runners_torn)), (a_t_race_runners_waved, .inl (cZ, 60, .inl t_race_runners_waved))]) [] [0, 1, 2, 3, 4, 5, 6, 7, 8] ⟨hx, hb, hml, hown, hts⟩ (mX10_within l D cB cI cZ H.size x3 (nI 0) (nI 99) b7 e8) (va_cwS 3 hts gX10_runner_X10_within rfl rfl rfl (by decide +kernel) ⟨Nat.le_of_ble_eq_true rfl, Nat.le_of_ble_eq_true rfl⟩) hK hN hZ hP hD hS hA rfl rfl rfl rfl rfl rfl hl.1 rfl (lv_room (Nat.le_of_ble_eq_true rfl)) dX10_runner_25 ⟨Nat.le_of_ble_eq_true rfl, Nat.le_of_ble_eq_true rfl⟩ (fun H locs hP hD hS => ?_)
      have hP : va_P D vwCl [(a_t, .inr (10, [.ref a_t_race, .ref a_t_kept, .ref a_t_trail, .ref a_t_doubts, .ref a_t_foretelling, .ref a_t_text, .ref a_t_listing, .int t_isKept])), (a_t_race, .inr (4, [.ref a_t_race_way, .ref a_t_race_guns, .ref a_t_race_runners])), (a_t_race_runners, .inr (6, [.ref a_t_race_runners_facts, .ref a_t_race_runners_splits, .ref a_t_race_runners_torn, .ref a_t_race_runners_dropped, .ref a_t_race_runners_waved, .ref a_t_race_runners_struck, .ref a_t_race_runners_strikingOrder, .int t_race_runners_entered, .int t_race_runners_strikings])), (a_t_race_runners_dropped, .inl (cZ, 60, .inl t_race_runners_dropped)), (a_t_race_runners_facts, .inl (cI, 360, .inl t_race_runners_facts)), (a_t_race_runners_splits, .inl (cI, 720, .inl t_race_runners_splits)), (a_t_race_runners_struck, .inl (cZ, 60, .inl t_race_runners_struck)), (a_t_race_runners_torn, .inl (cI, 60, .inl t_race_runners_torn)), (a_t_race_runners_waved, .inl (cZ, 60, .inl t_race_runners_waved))] H := hP
      have hD : va_D A [(a_t, .inr (10, [.ref a_t_race, .ref a_t_kept, .ref a_t_trail, .ref a_t_doubts, .ref a_t_foretelling, .ref a_t_text, .ref a_t_listing, .int t_isKept])), (a_t_race, .inr (4, [.ref a_t_race_way, .ref a_t_race_guns, .ref a_t_race_runners])), (a_t_race_runners, .inr (6, [.ref a_t_race_runners_facts, .ref a_t_race_runners_splits, .ref a_t_race_runners_torn, .ref a_t_race_runners_dropped, .ref a_t_race_runners_waved, .ref a_t_race_runners_struck, .ref a_t_race_runners_strikingOrder, .int t_race_runners_entered, .int t_race_runners_strikings])), (a_t_race_runners_dropped, .inl (cZ, 60, .inl t_race_runners_dropped)), (a_t_race_runners_facts, .inl (cI, 360, .inl t_race_runners_facts)), (a_t_race_runners_splits, .inl (cI, 720, .inl t_race_runners_splits)), (a_t_race_runners_struck, .inl (cZ, 60, .inl t_race_runners_struck)), (a_t_race_runners_torn, .inl (cI, 60, .inl t_race_runners_torn)), (a_t_race_runners_waved, .inl (cZ, 60, .inl t_race_runners_waved))] := hD
      refine lv_if_ne (tgt := 33) hx hb dX10_runner_28 (by decide) (fun c9 => ?_) (fun c9 => ?_)
      · have h := zz_f h c9
        refine lv_iload hx hb dX10_runner_33 (lv_at hl 4 rfl) ?_
        refine lv_iconst (v := (nI 0)) hx hb dX10_runner_35 rfl ?_
        refine lv_iconst (v := (nI 1)) hx hb dX10_runner_36 rfl ?_
        obtain ⟨b10, e11, h⟩ := zz_b h
        refine zSi (As := [.int x4, .int (nI 0), .int (nI 1)]) (rest := []) (wr := [(a_t, .inr (10, [.ref a_t_race, .ref a_t_kept, .ref a_t_trail, .ref a_t_doubts, .ref a_t_foretelling, .ref a_t_text, .ref a_t_listing, .int t_isKept])), (a_t_race, .inr (4, [.ref a_t_race_way, .ref a_t_race_guns, .ref a_t_race_runners])), (a_t_race_runners, .inr (6, [.ref a_t_race_runners_facts, .ref a_t_race_runners_splits, .ref a_t_race_runners_torn, .ref a_t_race_runners_dropped, .ref a_t_race_runners_waved, .ref a_t_race_runners_struck, .ref a_t_race_runners_strikingOrder, .int t_race_runners_entered, .int t_race_runners_strikings])), (a_t_race_runners_dropped, .inl (cZ, 60, .inl t_race_runners_dropped)), (a_t_race_runners_facts, .inl (cI, 360, .inl t_race_runners_facts)), (a_t_race_runners_splits, .inl (cI, 720, .inl t_race_runners_splits)), (a_t_race_runners_struck, .inl (cZ, 60, .inl t_race_runners_struck)), (a_t_race_runners_torn, .inl (cI, 60, .inl t_race_runners_torn)), (a_t_race_runners_waved, .inl (cZ, 60, .inl t_race_runners_waved))]) [] [0, 1, 2, 3, 4, 5, 6, 7, 8] ⟨hx, hb, hml, hown, hts⟩ (mX10_within l D cB cI cZ H.size x4 (nI 0) (nI 1) b10 e11) (va_cwS 3 hts gX10_runner_X10_within rfl rfl rfl (by decide +kernel) ⟨Nat.le_of_ble_eq_true rfl, Nat.le_of_ble_eq_true rfl⟩) hK hN hZ hP hD hS hA rfl rfl rfl rfl rfl rfl hl.1 rfl (lv_room (Nat.le_of_ble_eq_true rfl)) dX10_runner_37 ⟨Nat.le_of_ble_eq_true rfl, Nat.le_of_ble_eq_true rfl⟩ (fun H locs hP hD hS => ?_)
        have hP : va_P D vwCl [(a_t, .inr (10, [.ref a_t_race, .ref a_t_kept, .ref a_t_trail, .ref a_t_doubts, .ref a_t_foretelling, .ref a_t_text, .ref a_t_listing, .int t_isKept])), (a_t_race, .inr (4, [.ref a_t_race_way, .ref a_t_race_guns, .ref a_t_race_runners])), (a_t_race_runners, .inr (6, [.ref a_t_race_runners_facts, .ref a_t_race_runners_splits, .ref a_t_race_runners_torn, .ref a_t_race_runners_dropped, .ref a_t_race_runners_waved, .ref a_t_race_runners_struck, .ref a_t_race_runners_strikingOrder, .int t_race_runners_entered, .int t_race_runners_strikings])), (a_t_race_runners_dropped, .inl (cZ, 60, .inl t_race_runners_dropped)), (a_t_race_runners_facts, .inl (cI, 360, .inl t_race_runners_facts)), (a_t_race_runners_splits, .inl (cI, 720, .inl t_race_runners_splits)), (a_t_race_runners_struck, .inl (cZ, 60, .inl t_race_runners_struck)), (a_t_race_runners_torn, .inl (cI, 60, .inl t_race_runners_torn)), (a_t_race_runners_waved, .inl (cZ, 60, .inl t_race_runners_waved))] H := hP
        have hD : va_D A [(a_t, .inr (10, [.ref a_t_race, .ref a_t_kept, .ref a_t_trail, .ref a_t_doubts, .ref a_t_foretelling, .ref a_t_text, .ref a_t_listing, .int t_isKept])), (a_t_race, .inr (4, [.ref a_t_race_way, .ref a_t_race_guns, .ref a_t_race_runners])), (a_t_race_runners, .inr (6, [.ref a_t_race_runners_facts, .ref a_t_race_runners_splits, .ref a_t_race_runners_torn, .ref a_t_race_runners_dropped, .ref a_t_race_runners_waved, .ref a_t_race_runners_struck, .ref a_t_race_runners_strikingOrder, .int t_race_runners_entered, .int t_race_runners_strikings])), (a_t_race_runners_dropped, .inl (cZ, 60, .inl t_race_runners_dropped)), (a_t_race_runners_facts, .inl (cI, 360, .inl t_race_runners_facts)), (a_t_race_runners_splits, .inl (cI, 720, .inl t_race_runners_splits)), (a_t_race_runners_struck, .inl (cZ, 60, .inl t_race_runners_struck)), (a_t_race_runners_torn, .inl (cI, 60, .inl t_race_runners_torn)), (a_t_race_runners_waved, .inl (cZ, 60, .inl t_race_runners_waved))] := hD
        refine lv_if_eq (tgt := 64) hx hb dX10_runner_40 (by decide) (fun c12 => ?_) (fun c12 => ?_)
        · have h := zz_t h c12
          refine lv_iconst (v := (-1 : Int32)) hx hb dX10_runner_64 rfl ?_
          obtain ⟨j0_, g_⟩ := Prod.mk.inj (Option.some.inj h)
          obtain ⟨j1_, g_⟩ := Prod.mk.inj g_
          obtain ⟨j2_, g_⟩ := Prod.mk.inj g_
          obtain ⟨j3_, g_⟩ := Prod.mk.inj g_
          obtain ⟨j4_, g_⟩ := Prod.mk.inj g_
          obtain ⟨j5_, g_⟩ := Prod.mk.inj g_
          obtain ⟨j6_, g_⟩ := Prod.mk.inj g_
          have j7_ := g_
          subst j0_
          subst j1_
          subst j2_
          subst j3_
          subst j4_
          subst j5_
          subst j6_
          subst j7_
          exact W.iret (v := (-1 : Int32)) hx hb hr (fun t ht hW => ⟨⟨_, (), rfl, rfl, zPost.of hP hD hK ht hW [0, 1, 2, 3, 4, 5, 6, 7, 8] rfl rfl rfl⟩, hS.F ht⟩) hS.2.2 dX10_runner_65
        · have h := zz_f h c12
          refine lv_iload hx hb dX10_runner_43 (lv_at hl 5 rfl) ?_
          refine lv_iconst (v := (nI 0)) hx hb dX10_runner_45 rfl ?_
          refine lv_bipush (v := (nI 9)) hx hb dX10_runner_46 rfl ?_
          obtain ⟨b13, e14, h⟩ := zz_b h
          refine zSi (As := [.int x5, .int (nI 0), .int (nI 9)]) (rest := []) (wr := [(a_t, .inr (10, [.ref a_t_race, .ref a_t_kept, .ref a_t_trail, .ref a_t_doubts, .ref a_t_foretelling, .ref a_t_text, .ref a_t_listing, .int t_isKept])), (a_t_race, .inr (4, [.ref a_t_race_way, .ref a_t_race_guns, .ref a_t_race_runners])), (a_t_race_runners, .inr (6, [.ref a_t_race_runners_facts, .ref a_t_race_runners_splits, .ref a_t_race_runners_torn, .ref a_t_race_runners_dropped, .ref a_t_race_runners_waved, .ref a_t_race_runners_struck, .ref a_t_race_runners_strikingOrder, .int t_race_runners_entered, .int t_race_runners_strikings])), (a_t_race_runners_dropped, .inl (cZ, 60, .inl t_race_runners_dropped)), (a_t_race_runners_facts, .inl (cI, 360, .inl t_race_runners_facts)), (a_t_race_runners_splits, .inl (cI, 720, .inl t_race_runners_splits)), (a_t_race_runners_struck, .inl (cZ, 60, .inl t_race_runners_struck)), (a_t_race_runners_torn, .inl (cI, 60, .inl t_race_runners_torn)), (a_t_race_runners_waved, .inl (cZ, 60, .inl t_race_runners_waved))]) [] [0, 1, 2, 3, 4, 5, 6, 7, 8] ⟨hx, hb, hml, hown, hts⟩ (mX10_within l D cB cI cZ H.size x5 (nI 0) (nI 9) b13 e14) (va_cwS 3 hts gX10_runner_X10_within rfl rfl rfl (by decide +kernel) ⟨Nat.le_of_ble_eq_true rfl, Nat.le_of_ble_eq_true rfl⟩) hK hN hZ hP hD hS hA rfl rfl rfl rfl rfl rfl hl.1 rfl (lv_room (Nat.le_of_ble_eq_true rfl)) dX10_runner_48 ⟨Nat.le_of_ble_eq_true rfl, Nat.le_of_ble_eq_true rfl⟩ (fun H locs hP hD hS => ?_)
          have hP : va_P D vwCl [(a_t, .inr (10, [.ref a_t_race, .ref a_t_kept, .ref a_t_trail, .ref a_t_doubts, .ref a_t_foretelling, .ref a_t_text, .ref a_t_listing, .int t_isKept])), (a_t_race, .inr (4, [.ref a_t_race_way, .ref a_t_race_guns, .ref a_t_race_runners])), (a_t_race_runners, .inr (6, [.ref a_t_race_runners_facts, .ref a_t_race_runners_splits, .ref a_t_race_runners_torn, .ref a_t_race_runners_dropped, .ref a_t_race_runners_waved, .ref a_t_race_runners_struck, .ref a_t_race_runners_strikingOrder, .int t_race_runners_entered, .int t_race_runners_strikings])), (a_t_race_runners_dropped, .inl (cZ, 60, .inl t_race_runners_dropped)), (a_t_race_runners_facts, .inl (cI, 360, .inl t_race_runners_facts)), (a_t_race_runners_splits, .inl (cI, 720, .inl t_race_runners_splits)), (a_t_race_runners_struck, .inl (cZ, 60, .inl t_race_runners_struck)), (a_t_race_runners_torn, .inl (cI, 60, .inl t_race_runners_torn)), (a_t_race_runners_waved, .inl (cZ, 60, .inl t_race_runners_waved))] H := hP
          have hD : va_D A [(a_t, .inr (10, [.ref a_t_race, .ref a_t_kept, .ref a_t_trail, .ref a_t_doubts, .ref a_t_foretelling, .ref a_t_text, .ref a_t_listing, .int t_isKept])), (a_t_race, .inr (4, [.ref a_t_race_way, .ref a_t_race_guns, .ref a_t_race_runners])), (a_t_race_runners, .inr (6, [.ref a_t_race_runners_facts, .ref a_t_race_runners_splits, .ref a_t_race_runners_torn, .ref a_t_race_runners_dropped, .ref a_t_race_runners_waved, .ref a_t_race_runners_struck, .ref a_t_race_runners_strikingOrder, .int t_race_runners_entered, .int t_race_runners_strikings])), (a_t_race_runners_dropped, .inl (cZ, 60, .inl t_race_runners_dropped)), (a_t_race_runners_facts, .inl (cI, 360, .inl t_race_runners_facts)), (a_t_race_runners_splits, .inl (cI, 720, .inl t_race_runners_splits)), (a_t_race_runners_struck, .inl (cZ, 60, .inl t_race_runners_struck)), (a_t_race_runners_torn, .inl (cI, 60, .inl t_race_runners_torn)), (a_t_race_runners_waved, .inl (cZ, 60, .inl t_race_runners_waved))] := hD
          refine lv_if_eq (tgt := 64) hx hb dX10_runner_51 (by decide) (fun c15 => ?_) (fun c15 => ?_)
          · have h := zz_t h c15
            refine lv_iconst (v := (-1 : Int32)) hx hb dX10_runner_64 rfl ?_
            obtain ⟨j0_, g_⟩ := Prod.mk.inj (Option.some.inj h)
            obtain ⟨j1_, g_⟩ := Prod.mk.inj g_
            obtain ⟨j2_, g_⟩ := Prod.mk.inj g_
            obtain ⟨j3_, g_⟩ := Prod.mk.inj g_
            obtain ⟨j4_, g_⟩ := Prod.mk.inj g_
            obtain ⟨j5_, g_⟩ := Prod.mk.inj g_
            obtain ⟨j6_, g_⟩ := Prod.mk.inj g_
            have j7_ := g_
            subst j0_
            subst j1_
            subst j2_
            subst j3_
            subst j4_
            subst j5_
            subst j6_
            subst j7_
            exact W.iret (v := (-1 : Int32)) hx hb hr (fun t ht hW => ⟨⟨_, (), rfl, rfl, zPost.of hP hD hK ht hW [0, 1, 2, 3, 4, 5, 6, 7, 8] rfl rfl rfl⟩, hS.F ht⟩) hS.2.2 dX10_runner_65
          · have h := zz_f h c15
            refine lv_iload hx hb dX10_runner_54 (lv_at hl 6 rfl) ?_
            refine lv_iconst (v := (nI 0)) hx hb dX10_runner_56 rfl ?_
            refine lv_iconst (v := (nI 5)) hx hb dX10_runner_57 rfl ?_
            obtain ⟨b16, e17, h⟩ := zz_b h
            refine zSi (As := [.int x6, .int (nI 0), .int (nI 5)]) (rest := []) (wr := [(a_t, .inr (10, [.ref a_t_race, .ref a_t_kept, .ref a_t_trail, .ref a_t_doubts, .ref a_t_foretelling, .ref a_t_text, .ref a_t_listing, .int t_isKept])), (a_t_race, .inr (4, [.ref a_t_race_way, .ref a_t_race_guns, .ref a_t_race_runners])), (a_t_race_runners, .inr (6, [.ref a_t_race_runners_facts, .ref a_t_race_runners_splits, .ref a_t_race_runners_torn, .ref a_t_race_runners_dropped, .ref a_t_race_runners_waved, .ref a_t_race_runners_struck, .ref a_t_race_runners_strikingOrder, .int t_race_runners_entered, .int t_race_runners_strikings])), (a_t_race_runners_dropped, .inl (cZ, 60, .inl t_race_runners_dropped)), (a_t_race_runners_facts, .inl (cI, 360, .inl t_race_runners_facts)), (a_t_race_runners_splits, .inl (cI, 720, .inl t_race_runners_splits)), (a_t_race_runners_struck, .inl (cZ, 60, .inl t_race_runners_struck)), (a_t_race_runners_torn, .inl (cI, 60, .inl t_race_runners_torn)), (a_t_race_runners_waved, .inl (cZ, 60, .inl t_race_runners_waved))]) [] [0, 1, 2, 3, 4, 5, 6, 7, 8] ⟨hx, hb, hml, hown, hts⟩ (mX10_within l D cB cI cZ H.size x6 (nI 0) (nI 5) b16 e17) (va_cwS 3 hts gX10_runner_X10_within rfl rfl rfl (by decide +kernel) ⟨Nat.le_of_ble_eq_true rfl, Nat.le_of_ble_eq_true rfl⟩) hK hN hZ hP hD hS hA rfl rfl rfl rfl rfl rfl hl.1 rfl (lv_room (Nat.le_of_ble_eq_true rfl)) dX10_runner_58 ⟨Nat.le_of_ble_eq_true rfl, Nat.le_of_ble_eq_true rfl⟩ (fun H locs hP hD hS => ?_)
            have hP : va_P D vwCl [(a_t, .inr (10, [.ref a_t_race, .ref a_t_kept, .ref a_t_trail, .ref a_t_doubts, .ref a_t_foretelling, .ref a_t_text, .ref a_t_listing, .int t_isKept])), (a_t_race, .inr (4, [.ref a_t_race_way, .ref a_t_race_guns, .ref a_t_race_runners])), (a_t_race_runners, .inr (6, [.ref a_t_race_runners_facts, .ref a_t_race_runners_splits, .ref a_t_race_runners_torn, .ref a_t_race_runners_dropped, .ref a_t_race_runners_waved, .ref a_t_race_runners_struck, .ref a_t_race_runners_strikingOrder, .int t_race_runners_entered, .int t_race_runners_strikings])), (a_t_race_runners_dropped, .inl (cZ, 60, .inl t_race_runners_dropped)), (a_t_race_runners_facts, .inl (cI, 360, .inl t_race_runners_facts)), (a_t_race_runners_splits, .inl (cI, 720, .inl t_race_runners_splits)), (a_t_race_runners_struck, .inl (cZ, 60, .inl t_race_runners_struck)), (a_t_race_runners_torn, .inl (cI, 60, .inl t_race_runners_torn)), (a_t_race_runners_waved, .inl (cZ, 60, .inl t_race_runners_waved))] H := hP
            have hD : va_D A [(a_t, .inr (10, [.ref a_t_race, .ref a_t_kept, .ref a_t_trail, .ref a_t_doubts, .ref a_t_foretelling, .ref a_t_text, .ref a_t_listing, .int t_isKept])), (a_t_race, .inr (4, [.ref a_t_race_way, .ref a_t_race_guns, .ref a_t_race_runners])), (a_t_race_runners, .inr (6, [.ref a_t_race_runners_facts, .ref a_t_race_runners_splits, .ref a_t_race_runners_torn, .ref a_t_race_runners_dropped, .ref a_t_race_runners_waved, .ref a_t_race_runners_struck, .ref a_t_race_runners_strikingOrder, .int t_race_runners_entered, .int t_race_runners_strikings])), (a_t_race_runners_dropped, .inl (cZ, 60, .inl t_race_runners_dropped)), (a_t_race_runners_facts, .inl (cI, 360, .inl t_race_runners_facts)), (a_t_race_runners_splits, .inl (cI, 720, .inl t_race_runners_splits)), (a_t_race_runners_struck, .inl (cZ, 60, .inl t_race_runners_struck)), (a_t_race_runners_torn, .inl (cI, 60, .inl t_race_runners_torn)), (a_t_race_runners_waved, .inl (cZ, 60, .inl t_race_runners_waved))] := hD
            refine lv_if_ne (tgt := 66) hx hb dX10_runner_61 (by decide) (fun c18 => ?_) (fun c18 => ?_)
            · have h := zz_f h c18
              refine lv_aload_n hx hb dX10_runner_66 rfl (lv_at hl 0 rfl) ?_
              refine va_get (D := D) (ci := 10) (C := RX10) (T := TX10) (N := 8) hx hb hts qX10_runner_X10 hown hK hP 0 rfl rfl 0 (by decide) (hts _ kX10_runner_0) (fun _ h9 => h9) rfl dX10_runner_67 ?_
              refine va_getN (host := "RunDesk") (D := D) (ci := 4) (C := RX4) (T := TX4) (N := 3) hx hb hts qX10_runner_X4 hown hK hP 1 rfl rfl 2 (by decide) (va_Nw.use rfl (hN _ (List.mem_of_getElem? (i := 10) rfl))) (fun _ h9 => h9) rfl dX10_runner_70 ?_
              refine lv_iload_n hx hb dX10_runner_73 rfl (lv_at hl 1 rfl) ?_
              refine lv_iload_n hx hb dX10_runner_74 rfl (lv_at hl 2 rfl) ?_
              refine lv_iload_n hx hb dX10_runner_75 rfl (lv_at hl 3 rfl) ?_
              refine lv_iload hx hb dX10_runner_76 (lv_at hl 4 rfl) ?_
              refine lv_iload hx hb dX10_runner_78 (lv_at hl 5 rfl) ?_
              refine lv_iload hx hb dX10_runner_80 (lv_at hl 6 rfl) ?_
              obtain ⟨⟨r19, t_race_runners_entered_r20, t_race_runners_dropped_r21, t_race_runners_facts_r22, t_race_runners_splits_r23, t_race_runners_struck_r24, t_race_runners_torn_r25, t_race_runners_waved_r26⟩, e27, h⟩ := zz_b h
              dsimp only at h
              refine zVi (As := [.int x1, .int x2, .int x3, .int x4, .int x5, .int x6]) (rest := []) (C := RX6) (wr := [(a_t, .inr (10, [.ref a_t_race, .ref a_t_kept, .ref a_t_trail, .ref a_t_doubts, .ref a_t_foretelling, .ref a_t_text, .ref a_t_listing, .int t_isKept])), (a_t_race, .inr (4, [.ref a_t_race_way, .ref a_t_race_guns, .ref a_t_race_runners]))]) [2, 3, 4, 5, 6, 7, 8] [0, 1] 0 ⟨hx, hb, hml, hown, hts⟩ (mX6_enter l D cB cI cZ a_t_race_runners a_t_race_runners_facts a_t_race_runners_splits a_t_race_runners_torn a_t_race_runners_dropped a_t_race_runners_waved a_t_race_runners_struck a_t_race_runners_strikingOrder t_race_runners_entered t_race_runners_strikings t_race_runners_dropped t_race_runners_facts t_race_runners_splits t_race_runners_struck t_race_runners_torn t_race_runners_waved H.size x1 x2 x3 x4 x5 x6 N r19 t_race_runners_entered_r20 t_race_runners_dropped_r21 t_race_runners_facts_r22 t_race_runners_splits_r23 t_race_runners_struck_r24 t_race_runners_torn_r25 t_race_runners_waved_r26 e27) (cwV 6 hts gX10_runner_X6_enter rfl rfl rfl (by decide +kernel) ⟨Nat.le_of_ble_eq_true rfl, Nat.le_of_ble_eq_true rfl⟩) hK hN hZ hP hD hS hA rfl rfl rfl rfl rfl rfl rfl rfl hl.1 rfl (lv_room (Nat.le_of_ble_eq_true rfl)) dX10_runner_82 ⟨Nat.le_of_ble_eq_true rfl, Nat.le_of_ble_eq_true rfl⟩ (fun H locs hP hD hS => ?_)
              have hP : va_P D vwCl [(a_t, .inr (10, [.ref a_t_race, .ref a_t_kept, .ref a_t_trail, .ref a_t_doubts, .ref a_t_foretelling, .ref a_t_text, .ref a_t_listing, .int t_isKept])), (a_t_race, .inr (4, [.ref a_t_race_way, .ref a_t_race_guns, .ref a_t_race_runners])), (a_t_race_runners, .inr (6, [.ref a_t_race_runners_facts, .ref a_t_race_runners_splits, .ref a_t_race_runners_torn, .ref a_t_race_runners_dropped, .ref a_t_race_runners_waved, .ref a_t_race_runners_struck, .ref a_t_race_runners_strikingOrder, .int t_race_runners_entered_r20, .int t_race_runners_strikings])), (a_t_race_runners_dropped, .inl (cZ, 60, .inl t_race_runners_dropped_r21)), (a_t_race_runners_facts, .inl (cI, 360, .inl t_race_runners_facts_r22)), (a_t_race_runners_splits, .inl (cI, 720, .inl t_race_runners_splits_r23)), (a_t_race_runners_struck, .inl (cZ, 60, .inl t_race_runners_struck_r24)), (a_t_race_runners_torn, .inl (cI, 60, .inl t_race_runners_torn_r25)), (a_t_race_runners_waved, .inl (cZ, 60, .inl t_race_runners_waved_r26))] H := hP
              have hD : va_D A [(a_t, .inr (10, [.ref a_t_race, .ref a_t_kept, .ref a_t_trail, .ref a_t_doubts, .ref a_t_foretelling, .ref a_t_text, .ref a_t_listing, .int t_isKept])), (a_t_race, .inr (4, [.ref a_t_race_way, .ref a_t_race_guns, .ref a_t_race_runners])), (a_t_race_runners, .inr (6, [.ref a_t_race_runners_facts, .ref a_t_race_runners_splits, .ref a_t_race_runners_torn, .ref a_t_race_runners_dropped, .ref a_t_race_runners_waved, .ref a_t_race_runners_struck, .ref a_t_race_runners_strikingOrder, .int t_race_runners_entered_r20, .int t_race_runners_strikings])), (a_t_race_runners_dropped, .inl (cZ, 60, .inl t_race_runners_dropped_r21)), (a_t_race_runners_facts, .inl (cI, 360, .inl t_race_runners_facts_r22)), (a_t_race_runners_splits, .inl (cI, 720, .inl t_race_runners_splits_r23)), (a_t_race_runners_struck, .inl (cZ, 60, .inl t_race_runners_struck_r24)), (a_t_race_runners_torn, .inl (cI, 60, .inl t_race_runners_torn_r25)), (a_t_race_runners_waved, .inl (cZ, 60, .inl t_race_runners_waved_r26))] := hD
              obtain ⟨j0_, g_⟩ := Prod.mk.inj (Option.some.inj h)
              obtain ⟨j1_, g_⟩ := Prod.mk.inj g_
              obtain ⟨j2_, g_⟩ := Prod.mk.inj g_
              obtain ⟨j3_, g_⟩ := Prod.mk.inj g_
              obtain ⟨j4_, g_⟩ := Prod.mk.inj g_
              obtain ⟨j5_, g_⟩ := Prod.mk.inj g_
              obtain ⟨j6_, g_⟩ := Prod.mk.inj g_
              have j7_ := g_
              subst j0_
              subst j1_
              subst j2_
              subst j3_
              subst j4_
              subst j5_
              subst j6_
              subst j7_
              exact W.iret (v := r19) hx hb hr (fun t ht hW => ⟨⟨_, (), rfl, rfl, zPost.of hP hD hK ht hW [0, 1, 2, 3, 4, 5, 6, 7, 8] rfl rfl rfl⟩, hS.F ht⟩) hS.2.2 dX10_runner_85
            · have h := zz_t h c18
              refine lv_iconst (v := (-1 : Int32)) hx hb dX10_runner_64 rfl ?_
              obtain ⟨j0_, g_⟩ := Prod.mk.inj (Option.some.inj h)
              obtain ⟨j1_, g_⟩ := Prod.mk.inj g_
              obtain ⟨j2_, g_⟩ := Prod.mk.inj g_
              obtain ⟨j3_, g_⟩ := Prod.mk.inj g_
              obtain ⟨j4_, g_⟩ := Prod.mk.inj g_
              obtain ⟨j5_, g_⟩ := Prod.mk.inj g_
              obtain ⟨j6_, g_⟩ := Prod.mk.inj g_
              have j7_ := g_
              subst j0_
              subst j1_
              subst j2_
              subst j3_
              subst j4_
              subst j5_
              subst j6_
              subst j7_
              exact W.iret (v := (-1 : Int32)) hx hb hr (fun t ht hW => ⟨⟨_, (), rfl, rfl, zPost.of hP hD hK ht hW [0, 1, 2, 3, 4, 5, 6, 7, 8] rfl rfl rfl⟩, hS.F ht⟩) hS.2.2 dX10_runner_65
      · have h := zz_t h c9
        refine lv_iconst (v := (-1 : Int32)) hx hb dX10_runner_31 rfl ?_
        obtain ⟨j0_, g_⟩ := Prod.mk.inj (Option.some.inj h)
        obtain ⟨j1_, g_⟩ := Prod.mk.inj g_
        obtain ⟨j2_, g_⟩ := Prod.mk.inj g_
        obtain ⟨j3_, g_⟩ := Prod.mk.inj g_
        obtain ⟨j4_, g_⟩ := Prod.mk.inj g_
        obtain ⟨j5_, g_⟩ := Prod.mk.inj g_
        obtain ⟨j6_, g_⟩ := Prod.mk.inj g_
        have j7_ := g_
        subst j0_
        subst j1_
        subst j2_
        subst j3_
        subst j4_
        subst j5_
        subst j6_
        subst j7_
        exact W.iret (v := (-1 : Int32)) hx hb hr (fun t ht hW => ⟨⟨_, (), rfl, rfl, zPost.of hP hD hK ht hW [0, 1, 2, 3, 4, 5, 6, 7, 8] rfl rfl rfl⟩, hS.F ht⟩) hS.2.2 dX10_runner_32
/-! RunDesk.isTickOrNone -/
theorem dX10_isTickOrNone_0 : decode cX10_isTickOrNone 0 = .ok (.iload_n 0, 1) := by decide +kernel
theorem dX10_isTickOrNone_1 : decode cX10_isTickOrNone 1 = .ok (.iconst (-1), 1) := by decide +kernel
theorem dX10_isTickOrNone_2 : decode cX10_isTickOrNone 2 = .ok (.if_icmp .eq 13, 3) := by decide +kernel
theorem dX10_isTickOrNone_5 : decode cX10_isTickOrNone 5 = .ok (.iload_n 0, 1) := by decide +kernel
theorem dX10_isTickOrNone_6 : decode cX10_isTickOrNone 6 = .ok (.iconst 0, 1) := by decide +kernel
theorem dX10_isTickOrNone_7 : decode cX10_isTickOrNone 7 = .ok (.ldc 104, 2) := by decide +kernel
theorem dX10_isTickOrNone_9 : decode cX10_isTickOrNone 9 = .ok (.invokestatic 68, 3) := by decide +kernel
theorem dX10_isTickOrNone_12 : decode cX10_isTickOrNone 12 = .ok (.ifCond .eq 7, 3) := by decide +kernel
theorem dX10_isTickOrNone_15 : decode cX10_isTickOrNone 15 = .ok (.iconst 1, 1) := by decide +kernel
theorem dX10_isTickOrNone_16 : decode cX10_isTickOrNone 16 = .ok (.goto 4, 3) := by decide +kernel
theorem dX10_isTickOrNone_19 : decode cX10_isTickOrNone 19 = .ok (.iconst 0, 1) := by decide +kernel
theorem dX10_isTickOrNone_20 : decode cX10_isTickOrNone 20 = .ok (.ireturn, 1) := by decide +kernel
set_option maxRecDepth 20000 in
theorem ggX10_isTickOrNone_X10_within : GoodIn wsX10_isTickOrNone wsX10_within := goodIn_r _ [5] (by decide +kernel) (by decide +kernel)
set_option maxRecDepth 20000 in
theorem gX10_isTickOrNone_X10_within : GoodIn wsX10_isTickOrNone (va_wsS RX10 68 yX10_within wsX10_within) := goodIn_app (goodIn_of _ (by decide +kernel)) ggX10_isTickOrNone_X10_within
theorem kX10_isTickOrNone_0 : (.constant RX10 104 (40000) : Cond) ∈ wsX10_isTickOrNone := List.mem_of_getElem? (i := 1) (by decide +kernel)
set_option maxHeartbeats 4000000 in
set_option maxRecDepth 100000 in
theorem mX10_isTickOrNone (l : Launch) (D : va_G) (cB cI cZ : ClassId) (sz : Nat) (x1 : Int32) (b0 : Bool) (h : fX10_isTickOrNone x1 = some (b0)) : Met l yX10_isTickOrNone wsX10_isTickOrNone ({ frames := 1, cells := 0, slots := 0, locals := 22 } : Room) (va_Pc [.int x1] (zPre D (zT cB cI cZ) [] sz)) (zQi (zb b0) D (zT cB cI cZ) [] (va_A [] sz)) 0 0 (va_A [] sz) := by
  refine Met.ofW (cc := cX10_isTickOrNone) (maxL := 1) (ret := (some .boolean)) (by decide) rfl ?_
  intro p e s m args below meth c s₁ B hml hv
  obtain ⟨rfl, hsz, hP, hK, hN, hZ, hD0⟩ := hv
  have hx := B.exec
  have hb := B.bytes
  have hr := B.returns
  have hts := atoms_spec (ws := wsX10_isTickOrNone) B.pre
  have hown : s.vm.findClass RX10 = some m.cls := findClass_of_methodNamed B.named
  have hlocks := B.notSynchronized
  subst hsz
  have hD := hD0.self (sz := s.heap.size)
  generalize hAe : va_A [] s.heap.size = A at hD hZ ⊢
  have hA : ∀ q : Nat, s.heap.size ≤ q → A q := fun q h => by rw [← hAe]; exact Or.inr h
  have hS : va_S A s.heap s.heap [] := va_S.rf
  have hl := lv_entry ([.int x1]) (n := 1) (Nat.le_of_ble_eq_true rfl)
  rw [lg_entry_eq]
  generalize (lg_sl ([.int x1]) ++ List.replicate (1 - (lg_sl ([.int x1])).length) Slot.unset).toArray = ls at hl ⊢
  have hl : lv_has ls 1 [(0, .int x1)] := hl
  unfold fX10_isTickOrNone at h
  refine lv_iload_n hx hb dX10_isTickOrNone_0 rfl (lv_at hl 0 rfl) ?_
  refine lv_iconst (v := (-1 : Int32)) hx hb dX10_isTickOrNone_1 rfl ?_
  refine lv_icmp_eq (tgt := 15) hx hb dX10_isTickOrNone_2 (by decide) (fun c1 => ?_) (fun c1 => ?_)
  · have h := zz_t h c1
    refine lv_iconst (v := (nI 1)) hx hb dX10_isTickOrNone_15 rfl ?_
    refine lv_goto (tgt := 20) hx hb dX10_isTickOrNone_16 (by decide) ?_
    have j0_ := Option.some.inj h
    subst j0_
    exact W.zret (v := (nI 1)) hx hb hr rfl (fun t ht hW => ⟨⟨_, (), rfl, rfl, zPost.of hP hD hK ht hW [] rfl rfl rfl⟩, hS.F ht⟩) hS.2.2 dX10_isTickOrNone_20
  · have h := zz_f h c1
    refine lv_iload_n hx hb dX10_isTickOrNone_5 rfl (lv_at hl 0 rfl) ?_
    refine lv_iconst (v := (nI 0)) hx hb dX10_isTickOrNone_6 rfl ?_
    refine lv_ldc (v := (nI 40000)) hx hb hown (hts _ kX10_isTickOrNone_0) dX10_isTickOrNone_7 ?_
    obtain ⟨b2, e3, h⟩ := zz_b h
    refine zSi (As := [.int x1, .int (nI 0), .int (nI 40000)]) (rest := []) (wr := []) [] [] ⟨hx, hb, hml, hown, hts⟩ (mX10_within l D cB cI cZ s.heap.size x1 (nI 0) (nI 40000) b2 e3) (va_cwS 3 hts gX10_isTickOrNone_X10_within rfl rfl rfl (by decide +kernel) ⟨Nat.le_of_ble_eq_true rfl, Nat.le_of_ble_eq_true rfl⟩) hK hN hZ hP hD hS hA rfl rfl rfl rfl rfl rfl hl.1 rfl (lv_room (Nat.le_of_ble_eq_true rfl)) dX10_isTickOrNone_9 ⟨Nat.le_of_ble_eq_true rfl, Nat.le_of_ble_eq_true rfl⟩ (fun H locs hP hD hS => ?_)
    have hP : va_P D vwCl [] H := hP
    have hD : va_D A [] := hD
    refine lv_if_eq (tgt := 19) hx hb dX10_isTickOrNone_12 (by decide) (fun c4 => ?_) (fun c4 => ?_)
    · have h := zz_t h c4
      refine lv_iconst (v := (nI 0)) hx hb dX10_isTickOrNone_19 rfl ?_
      have j0_ := Option.some.inj h
      subst j0_
      exact W.zret (v := (nI 0)) hx hb hr rfl (fun t ht hW => ⟨⟨_, (), rfl, rfl, zPost.of hP hD hK ht hW [] rfl rfl rfl⟩, hS.F ht⟩) hS.2.2 dX10_isTickOrNone_20
    · have h := zz_f h c4
      refine lv_iconst (v := (nI 1)) hx hb dX10_isTickOrNone_15 rfl ?_
      refine lv_goto (tgt := 20) hx hb dX10_isTickOrNone_16 (by decide) ?_
      have j0_ := Option.some.inj h
      subst j0_
      exact W.zret (v := (nI 1)) hx hb hr rfl (fun t ht hW => ⟨⟨_, (), rfl, rfl, zPost.of hP hD hK ht hW [] rfl rfl rfl⟩, hS.F ht⟩) hS.2.2 dX10_isTickOrNone_20
/-! RunDesk.gun -/
theorem dX10_gun_0 : decode cX10_gun 0 = .ok (.iload_n 2, 1) := by decide +kernel
theorem dX10_gun_1 : decode cX10_gun 1 = .ok (.invokestatic 87, 3) := by decide +kernel
theorem dX10_gun_4 : decode cX10_gun 4 = .ok (.ifCond .eq 22, 3) := by decide +kernel
theorem dX10_gun_7 : decode cX10_gun 7 = .ok (.aload_n 0, 1) := by decide +kernel
theorem dX10_gun_8 : decode cX10_gun 8 = .ok (.getfield 10, 3) := by decide +kernel
theorem dX10_gun_11 : decode cX10_gun 11 = .ok (.getfield 91, 3) := by decide +kernel
theorem dX10_gun_14 : decode cX10_gun 14 = .ok (.iload_n 1, 1) := by decide +kernel
theorem dX10_gun_15 : decode cX10_gun 15 = .ok (.iload_n 2, 1) := by decide +kernel
theorem dX10_gun_16 : decode cX10_gun 16 = .ok (.invokevirtual 95, 3) := by decide +kernel
theorem dX10_gun_19 : decode cX10_gun 19 = .ok (.ifCond .eq 7, 3) := by decide +kernel
theorem dX10_gun_22 : decode cX10_gun 22 = .ok (.iconst 1, 1) := by decide +kernel
theorem dX10_gun_23 : decode cX10_gun 23 = .ok (.goto 4, 3) := by decide +kernel
theorem dX10_gun_26 : decode cX10_gun 26 = .ok (.iconst 0, 1) := by decide +kernel
theorem dX10_gun_27 : decode cX10_gun 27 = .ok (.ireturn, 1) := by decide +kernel
set_option maxRecDepth 20000 in
theorem ggX10_gun_X10_isTickOrNone : GoodIn wsX10_gun wsX10_isTickOrNone := goodIn_r _ [5, 6, 7, 8, 4, 9] (by decide +kernel) (by decide +kernel)
set_option maxRecDepth 20000 in
theorem gX10_gun_X10_isTickOrNone : GoodIn wsX10_gun (va_wsS RX10 87 yX10_isTickOrNone wsX10_isTickOrNone) := goodIn_app (goodIn_of _ (by decide +kernel)) ggX10_gun_X10_isTickOrNone
set_option maxRecDepth 20000 in
theorem ggX10_gun_X2_fire : GoodIn wsX10_gun wsX2_fire := goodIn_r _ [14, 15, 8, 4, 9, 27] (by decide +kernel) (by decide +kernel)
set_option maxRecDepth 20000 in
theorem gX10_gun_X2_fire : GoodIn wsX10_gun (wsV RX10 95 RX2 yX2_fire wsX2_fire) := goodIn_app (goodIn_of _ (by decide +kernel)) ggX10_gun_X2_fire
theorem kX10_gun_0 : (.fieldLink RX10 10 "RunDesk" "race" "LRunDesk$Race;" : Cond) ∈ wsX10_gun := List.mem_of_getElem? (i := 1) (by decide +kernel)
theorem qX10_gun_X10 : ∀ w ∈ wsX100, w ∈ wsX10_gun := fun _ h => List.mem_cons_of_mem _ (List.mem_append_left _ (List.mem_append_left _ (List.mem_append_right _ (h))))
theorem qX10_gun_X4 : ∀ w ∈ wsX40, w ∈ wsX10_gun := fun _ h => List.mem_cons_of_mem _ (List.mem_append_left _ (List.mem_append_right _ (h)))
set_option maxHeartbeats 4000000 in
set_option maxRecDepth 100000 in
theorem mX10_gun (l : Launch) (D : va_G) (cB cI cZ : ClassId) (a_t : Nat) (a_t_race : Nat) (a_t_kept : Nat) (a_t_trail : Nat) (a_t_doubts : Nat) (a_t_foretelling : Nat) (a_t_text : Nat) (a_t_listing : Nat) (a_t_race_way : Nat) (a_t_race_guns : Nat) (a_t_race_runners : Nat) (a_t_race_guns_ticks : Nat) (t_isKept : Int32) (t_race_guns_ticks : Nat → Int32) (sz : Nat) (x1 : Int32) (x2 : Int32) (b0 : Bool) (t_race_guns_ticks' : Nat → Int32) (h : fX10_gun t_race_guns_ticks x1 x2 = some (b0, t_race_guns_ticks')) : Met l yX10_gun wsX10_gun ({ frames := 2, cells := 0, slots := 0, locals := 44 } : Room) (va_Pc [.ref a_t, .int x1, .int x2] (zPre D (zT cB cI cZ) [(a_t, .inr (10, [.ref a_t_race, .ref a_t_kept, .ref a_t_trail, .ref a_t_doubts, .ref a_t_foretelling, .ref a_t_text, .ref a_t_listing, .int t_isKept])), (a_t_race, .inr (4, [.ref a_t_race_way, .ref a_t_race_guns, .ref a_t_race_runners])), (a_t_race_guns, .inr (2, [.ref a_t_race_guns_ticks])), (a_t_race_guns_ticks, .inl (cI, 6, .inl t_race_guns_ticks))] sz)) (zQi (zb b0) D (zT cB cI cZ) [(a_t, .inr (10, [.ref a_t_race, .ref a_t_kept, .ref a_t_trail, .ref a_t_doubts, .ref a_t_foretelling, .ref a_t_text, .ref a_t_listing, .int t_isKept])), (a_t_race, .inr (4, [.ref a_t_race_way, .ref a_t_race_guns, .ref a_t_race_runners])), (a_t_race_guns, .inr (2, [.ref a_t_race_guns_ticks])), (a_t_race_guns_ticks, .inl (cI, 6, .inl t_race_guns_ticks'))] (va_A [(a_t, .inr (10, [.ref a_t_race, .ref a_t_kept, .ref a_t_trail, .ref a_t_doubts, .ref a_t_foretelling, .ref a_t_text, .ref a_t_listing, .int t_isKept])), (a_t_race, .inr (4, [.ref a_t_race_way, .ref a_t_race_guns, .ref a_t_race_runners])), (a_t_race_guns, .inr (2, [.ref a_t_race_guns_ticks])), (a_t_race_guns_ticks, .inl (cI, 6, .inl t_race_guns_ticks))] sz)) 0 0 (va_A [(a_t, .inr (10, [.ref a_t_race, .ref a_t_kept, .ref a_t_trail, .ref a_t_doubts, .ref a_t_foretelling, .ref a_t_text, .ref a_t_listing, .int t_isKept])), (a_t_race, .inr (4, [.ref a_t_race_way, .ref a_t_race_guns, .ref a_t_race_runners])), (a_t_race_guns, .inr (2, [.ref a_t_race_guns_ticks])), (a_t_race_guns_ticks, .inl (cI, 6, .inl t_race_guns_ticks))] sz) := by
  refine Met.ofW (cc := cX10_gun) (maxL := 3) (ret := (some .boolean)) (by decide) rfl ?_
  intro p e s m args below meth c s₁ B hml hv
  obtain ⟨rfl, hsz, hP, hK, hN, hZ, hD0⟩ := hv
  have hx := B.exec
  have hb := B.bytes
  have hr := B.returns
  have hts := atoms_spec (ws := wsX10_gun) B.pre
  have hown : s.vm.findClass RX10 = some m.cls := findClass_of_methodNamed B.named
  have hlocks := B.notSynchronized
  subst hsz
  have hD := hD0.self (sz := s.heap.size)
  generalize hAe : va_A [(a_t, .inr (10, [.ref a_t_race, .ref a_t_kept, .ref a_t_trail, .ref a_t_doubts, .ref a_t_foretelling, .ref a_t_text, .ref a_t_listing, .int t_isKept])), (a_t_race, .inr (4, [.ref a_t_race_way, .ref a_t_race_guns, .ref a_t_race_runners])), (a_t_race_guns, .inr (2, [.ref a_t_race_guns_ticks])), (a_t_race_guns_ticks, .inl (cI, 6, .inl t_race_guns_ticks))] s.heap.size = A at hD hZ ⊢
  have hA : ∀ q : Nat, s.heap.size ≤ q → A q := fun q h => by rw [← hAe]; exact Or.inr h
  have hS : va_S A s.heap s.heap [] := va_S.rf
  have hl := lv_entry ([.ref a_t, .int x1, .int x2]) (n := 3) (Nat.le_of_ble_eq_true rfl)
  rw [lg_entry_eq]
  generalize (lg_sl ([.ref a_t, .int x1, .int x2]) ++ List.replicate (3 - (lg_sl ([.ref a_t, .int x1, .int x2])).length) Slot.unset).toArray = ls at hl ⊢
  have hl : lv_has ls 3 [(0, .ref a_t), (1, .int x1), (2, .int x2)] := hl
  unfold fX10_gun at h
  refine lv_iload_n hx hb dX10_gun_0 rfl (lv_at hl 2 rfl) ?_
  obtain ⟨b1, e2, h⟩ := zz_b h
  refine zSi (As := [.int x2]) (rest := []) (wr := [(a_t, .inr (10, [.ref a_t_race, .ref a_t_kept, .ref a_t_trail, .ref a_t_doubts, .ref a_t_foretelling, .ref a_t_text, .ref a_t_listing, .int t_isKept])), (a_t_race, .inr (4, [.ref a_t_race_way, .ref a_t_race_guns, .ref a_t_race_runners])), (a_t_race_guns, .inr (2, [.ref a_t_race_guns_ticks])), (a_t_race_guns_ticks, .inl (cI, 6, .inl t_race_guns_ticks))]) [] [0, 1, 2, 3] ⟨hx, hb, hml, hown, hts⟩ (mX10_isTickOrNone l D cB cI cZ s.heap.size x2 b1 e2) (va_cwS 1 hts gX10_gun_X10_isTickOrNone rfl rfl rfl (by decide +kernel) ⟨Nat.le_of_ble_eq_true rfl, Nat.le_of_ble_eq_true rfl⟩) hK hN hZ hP hD hS hA rfl rfl rfl rfl rfl rfl hl.1 rfl (lv_room (Nat.le_of_ble_eq_true rfl)) dX10_gun_1 ⟨Nat.le_of_ble_eq_true rfl, Nat.le_of_ble_eq_true rfl⟩ (fun H locs hP hD hS => ?_)
  have hP : va_P D vwCl [(a_t, .inr (10, [.ref a_t_race, .ref a_t_kept, .ref a_t_trail, .ref a_t_doubts, .ref a_t_foretelling, .ref a_t_text, .ref a_t_listing, .int t_isKept])), (a_t_race, .inr (4, [.ref a_t_race_way, .ref a_t_race_guns, .ref a_t_race_runners])), (a_t_race_guns, .inr (2, [.ref a_t_race_guns_ticks])), (a_t_race_guns_ticks, .inl (cI, 6, .inl t_race_guns_ticks))] H := hP
  have hD : va_D A [(a_t, .inr (10, [.ref a_t_race, .ref a_t_kept, .ref a_t_trail, .ref a_t_doubts, .ref a_t_foretelling, .ref a_t_text, .ref a_t_listing, .int t_isKept])), (a_t_race, .inr (4, [.ref a_t_race_way, .ref a_t_race_guns, .ref a_t_race_runners])), (a_t_race_guns, .inr (2, [.ref a_t_race_guns_ticks])), (a_t_race_guns_ticks, .inl (cI, 6, .inl t_race_guns_ticks))] := hD
  refine lv_if_eq (tgt := 26) hx hb dX10_gun_4 (by decide) (fun c3 => ?_) (fun c3 => ?_)
  · have h := zz_t h c3
    refine lv_iconst (v := (nI 0)) hx hb dX10_gun_26 rfl ?_
    obtain ⟨j0_, g_⟩ := Prod.mk.inj (Option.some.inj h)
    have j1_ := g_
    subst j0_
    subst j1_
    exact W.zret (v := (nI 0)) hx hb hr rfl (fun t ht hW => ⟨⟨_, (), rfl, rfl, zPost.of hP hD hK ht hW [0, 1, 2, 3] rfl rfl rfl⟩, hS.F ht⟩) hS.2.2 dX10_gun_27
  · have h := zz_f h c3
    refine lv_aload_n hx hb dX10_gun_7 rfl (lv_at hl 0 rfl) ?_
    refine va_get (D := D) (ci := 10) (C := RX10) (T := TX10) (N := 8) hx hb hts qX10_gun_X10 hown hK hP 0 rfl rfl 0 (by decide) (hts _ kX10_gun_0) (fun _ h9 => h9) rfl dX10_gun_8 ?_
    refine va_getN (host := "RunDesk") (D := D) (ci := 4) (C := RX4) (T := TX4) (N := 3) hx hb hts qX10_gun_X4 hown hK hP 1 rfl rfl 1 (by decide) (va_Nw.use rfl (hN _ (List.mem_of_getElem? (i := 5) rfl))) (fun _ h9 => h9) rfl dX10_gun_11 ?_
    refine lv_iload_n hx hb dX10_gun_14 rfl (lv_at hl 1 rfl) ?_
    refine lv_iload_n hx hb dX10_gun_15 rfl (lv_at hl 2 rfl) ?_
    obtain ⟨⟨b4, t_race_guns_ticks_r5⟩, e6, h⟩ := zz_b h
    dsimp only at h
    refine zVi (As := [.int x1, .int x2]) (rest := []) (C := RX2) (wr := [(a_t, .inr (10, [.ref a_t_race, .ref a_t_kept, .ref a_t_trail, .ref a_t_doubts, .ref a_t_foretelling, .ref a_t_text, .ref a_t_listing, .int t_isKept])), (a_t_race, .inr (4, [.ref a_t_race_way, .ref a_t_race_guns, .ref a_t_race_runners]))]) [2, 3] [0, 1] 0 ⟨hx, hb, hml, hown, hts⟩ (mX2_fire l D cB cI cZ a_t_race_guns a_t_race_guns_ticks t_race_guns_ticks H.size x1 x2 b4 t_race_guns_ticks_r5 e6) (cwV 2 hts gX10_gun_X2_fire rfl rfl rfl (by decide +kernel) ⟨Nat.le_of_ble_eq_true rfl, Nat.le_of_ble_eq_true rfl⟩) hK hN hZ hP hD hS hA rfl rfl rfl rfl rfl rfl rfl rfl hl.1 rfl (lv_room (Nat.le_of_ble_eq_true rfl)) dX10_gun_16 ⟨Nat.le_of_ble_eq_true rfl, Nat.le_of_ble_eq_true rfl⟩ (fun H locs hP hD hS => ?_)
    have hP : va_P D vwCl [(a_t, .inr (10, [.ref a_t_race, .ref a_t_kept, .ref a_t_trail, .ref a_t_doubts, .ref a_t_foretelling, .ref a_t_text, .ref a_t_listing, .int t_isKept])), (a_t_race, .inr (4, [.ref a_t_race_way, .ref a_t_race_guns, .ref a_t_race_runners])), (a_t_race_guns, .inr (2, [.ref a_t_race_guns_ticks])), (a_t_race_guns_ticks, .inl (cI, 6, .inl t_race_guns_ticks_r5))] H := hP
    have hD : va_D A [(a_t, .inr (10, [.ref a_t_race, .ref a_t_kept, .ref a_t_trail, .ref a_t_doubts, .ref a_t_foretelling, .ref a_t_text, .ref a_t_listing, .int t_isKept])), (a_t_race, .inr (4, [.ref a_t_race_way, .ref a_t_race_guns, .ref a_t_race_runners])), (a_t_race_guns, .inr (2, [.ref a_t_race_guns_ticks])), (a_t_race_guns_ticks, .inl (cI, 6, .inl t_race_guns_ticks_r5))] := hD
    refine lv_if_eq (tgt := 26) hx hb dX10_gun_19 (by decide) (fun c7 => ?_) (fun c7 => ?_)
    · have h := zz_t h c7
      refine lv_iconst (v := (nI 0)) hx hb dX10_gun_26 rfl ?_
      obtain ⟨j0_, g_⟩ := Prod.mk.inj (Option.some.inj h)
      have j1_ := g_
      subst j0_
      subst j1_
      exact W.zret (v := (nI 0)) hx hb hr rfl (fun t ht hW => ⟨⟨_, (), rfl, rfl, zPost.of hP hD hK ht hW [0, 1, 2, 3] rfl rfl rfl⟩, hS.F ht⟩) hS.2.2 dX10_gun_27
    · have h := zz_f h c7
      refine lv_iconst (v := (nI 1)) hx hb dX10_gun_22 rfl ?_
      refine lv_goto (tgt := 27) hx hb dX10_gun_23 (by decide) ?_
      obtain ⟨j0_, g_⟩ := Prod.mk.inj (Option.some.inj h)
      have j1_ := g_
      subst j0_
      subst j1_
      exact W.zret (v := (nI 1)) hx hb hr rfl (fun t ht hW => ⟨⟨_, (), rfl, rfl, zPost.of hP hD hK ht hW [0, 1, 2, 3] rfl rfl rfl⟩, hS.F ht⟩) hS.2.2 dX10_gun_27
/-! RunDesk.saw -/
theorem dX10_saw_0 : decode cX10_saw 0 = .ok (.aload_n 0, 1) := by decide +kernel
theorem dX10_saw_1 : decode cX10_saw 1 = .ok (.getfield 10, 3) := by decide +kernel
theorem dX10_saw_4 : decode cX10_saw 4 = .ok (.iload_n 1, 1) := by decide +kernel
theorem dX10_saw_5 : decode cX10_saw 5 = .ok (.iload_n 2, 1) := by decide +kernel
theorem dX10_saw_6 : decode cX10_saw 6 = .ok (.invokevirtual 101, 3) := by decide +kernel
theorem dX10_saw_9 : decode cX10_saw 9 = .ok (.ifCond .eq 13, 3) := by decide +kernel
theorem dX10_saw_12 : decode cX10_saw 12 = .ok (.iload_n 3, 1) := by decide +kernel
theorem dX10_saw_13 : decode cX10_saw 13 = .ok (.iconst 0, 1) := by decide +kernel
theorem dX10_saw_14 : decode cX10_saw 14 = .ok (.ldc 104, 2) := by decide +kernel
theorem dX10_saw_16 : decode cX10_saw 16 = .ok (.invokestatic 68, 3) := by decide +kernel
theorem dX10_saw_19 : decode cX10_saw 19 = .ok (.ifCond .ne 5, 3) := by decide +kernel
theorem dX10_saw_22 : decode cX10_saw 22 = .ok (.iconst (-1), 1) := by decide +kernel
theorem dX10_saw_23 : decode cX10_saw 23 = .ok (.ireturn, 1) := by decide +kernel
theorem dX10_saw_24 : decode cX10_saw 24 = .ok (.aload_n 0, 1) := by decide +kernel
theorem dX10_saw_25 : decode cX10_saw 25 = .ok (.getfield 10, 3) := by decide +kernel
theorem dX10_saw_28 : decode cX10_saw 28 = .ok (.getfield 58, 3) := by decide +kernel
theorem dX10_saw_31 : decode cX10_saw 31 = .ok (.iload_n 2, 1) := by decide +kernel
theorem dX10_saw_32 : decode cX10_saw 32 = .ok (.invokevirtual 105, 3) := by decide +kernel
theorem dX10_saw_35 : decode cX10_saw 35 = .ok (.ifCond .ne 18, 3) := by decide +kernel
theorem dX10_saw_38 : decode cX10_saw 38 = .ok (.aload_n 0, 1) := by decide +kernel
theorem dX10_saw_39 : decode cX10_saw 39 = .ok (.getfield 10, 3) := by decide +kernel
theorem dX10_saw_42 : decode cX10_saw 42 = .ok (.getfield 77, 3) := by decide +kernel
theorem dX10_saw_45 : decode cX10_saw 45 = .ok (.iload_n 1, 1) := by decide +kernel
theorem dX10_saw_46 : decode cX10_saw 46 = .ok (.iload_n 2, 1) := by decide +kernel
theorem dX10_saw_47 : decode cX10_saw 47 = .ok (.invokevirtual 108, 3) := by decide +kernel
theorem dX10_saw_50 : decode cX10_saw 50 = .ok (.ifCond .eq 5, 3) := by decide +kernel
theorem dX10_saw_53 : decode cX10_saw 53 = .ok (.iconst (-1), 1) := by decide +kernel
theorem dX10_saw_54 : decode cX10_saw 54 = .ok (.ireturn, 1) := by decide +kernel
theorem dX10_saw_55 : decode cX10_saw 55 = .ok (.aload_n 0, 1) := by decide +kernel
theorem dX10_saw_56 : decode cX10_saw 56 = .ok (.getfield 10, 3) := by decide +kernel
theorem dX10_saw_59 : decode cX10_saw 59 = .ok (.getfield 77, 3) := by decide +kernel
theorem dX10_saw_62 : decode cX10_saw 62 = .ok (.iload_n 1, 1) := by decide +kernel
theorem dX10_saw_63 : decode cX10_saw 63 = .ok (.iload_n 2, 1) := by decide +kernel
theorem dX10_saw_64 : decode cX10_saw 64 = .ok (.iload_n 3, 1) := by decide +kernel
theorem dX10_saw_65 : decode cX10_saw 65 = .ok (.invokevirtual 111, 3) := by decide +kernel
theorem dX10_saw_68 : decode cX10_saw 68 = .ok (.ifCond .eq 7, 3) := by decide +kernel
theorem dX10_saw_71 : decode cX10_saw 71 = .ok (.iconst 1, 1) := by decide +kernel
theorem dX10_saw_72 : decode cX10_saw 72 = .ok (.goto 4, 3) := by decide +kernel
theorem dX10_saw_75 : decode cX10_saw 75 = .ok (.iconst 0, 1) := by decide +kernel
theorem dX10_saw_76 : decode cX10_saw 76 = .ok (.ireturn, 1) := by decide +kernel
set_option maxRecDepth 20000 in
theorem ggX10_saw_X4_hasCell : GoodIn wsX10_saw wsX4_hasCell := goodIn_r _ [7, 8, 9, 10, 11, 12, 13, 14, 15, 16, 17, 18, 19, 20, 21, 55, 56, 57, 58, 59, 60, 61, 62, 63, 64, 65, 66, 67, 68, 69, 70, 71] (by decide +kernel) (by decide +kernel)
set_option maxRecDepth 20000 in
theorem gX10_saw_X4_hasCell : GoodIn wsX10_saw (wsV RX10 101 RX4 yX4_hasCell wsX4_hasCell) := goodIn_app (goodIn_of _ (by decide +kernel)) ggX10_saw_X4_hasCell
set_option maxRecDepth 20000 in
theorem ggX10_saw_X10_within : GoodIn wsX10_saw wsX10_within := goodIn_r _ [25] (by decide +kernel) (by decide +kernel)
set_option maxRecDepth 20000 in
theorem gX10_saw_X10_within : GoodIn wsX10_saw (va_wsS RX10 68 yX10_within wsX10_within) := goodIn_app (goodIn_of _ (by decide +kernel)) ggX10_saw_X10_within
set_option maxRecDepth 20000 in
theorem ggX10_saw_X9_isDead : GoodIn wsX10_saw wsX9_isDead := goodIn_r _ [29, 30, 31, 17, 18, 19, 20, 21, 67, 68, 69, 70, 71] (by decide +kernel) (by decide +kernel)
set_option maxRecDepth 20000 in
theorem gX10_saw_X9_isDead : GoodIn wsX10_saw (wsV RX10 105 RX9 yX9_isDead wsX9_isDead) := goodIn_app (goodIn_of _ (by decide +kernel)) ggX10_saw_X9_isDead
set_option maxRecDepth 20000 in
theorem ggX10_saw_X6_isTorn : GoodIn wsX10_saw wsX6_isTorn := goodIn_r _ [35, 36, 37, 38, 13, 39, 40, 41, 11, 12, 14, 15, 58, 59, 60, 61, 62, 63, 64, 65, 66] (by decide +kernel) (by decide +kernel)
set_option maxRecDepth 20000 in
theorem gX10_saw_X6_isTorn : GoodIn wsX10_saw (wsV RX10 108 RX6 yX6_isTorn wsX6_isTorn) := goodIn_app (goodIn_of _ (by decide +kernel)) ggX10_saw_X6_isTorn
set_option maxRecDepth 20000 in
theorem ggX10_saw_X6_enterSplit : GoodIn wsX10_saw wsX6_enterSplit := goodIn_r _ [45, 46, 41, 11, 12, 13, 14, 15, 58, 59, 60, 61, 62, 63, 64, 65, 66] (by decide +kernel) (by decide +kernel)
set_option maxRecDepth 20000 in
theorem gX10_saw_X6_enterSplit : GoodIn wsX10_saw (wsV RX10 111 RX6 yX6_enterSplit wsX6_enterSplit) := goodIn_app (goodIn_of _ (by decide +kernel)) ggX10_saw_X6_enterSplit
theorem kX10_saw_0 : (.fieldLink RX10 10 "RunDesk" "race" "LRunDesk$Race;" : Cond) ∈ wsX10_saw := List.mem_of_getElem? (i := 1) (by decide +kernel)
theorem qX10_saw_X10 : ∀ w ∈ wsX100, w ∈ wsX10_saw := fun _ h => List.mem_cons_of_mem _ (List.mem_append_left _ (List.mem_append_left _ (List.mem_append_left _ (List.mem_append_right _ (h)))))
theorem kX10_saw_2 : (.constant RX10 104 (40000) : Cond) ∈ wsX10_saw := List.mem_of_getElem? (i := 2) (by decide +kernel)
theorem qX10_saw_X4 : ∀ w ∈ wsX40, w ∈ wsX10_saw := fun _ h => List.mem_cons_of_mem _ (List.mem_append_left _ (List.mem_append_left _ (List.mem_append_right _ (h))))
set_option maxHeartbeats 4000000 in
set_option maxRecDepth 100000 in
theorem mX10_saw (l : Launch) (D : va_G) (cB cI cZ : ClassId) (a_t : Nat) (a_t_race : Nat) (a_t_kept : Nat) (a_t_trail : Nat) (a_t_doubts : Nat) (a_t_foretelling : Nat) (a_t_text : Nat) (a_t_listing : Nat) (a_t_race_way : Nat) (a_t_race_guns : Nat) (a_t_race_runners : Nat) (a_t_race_runners_facts : Nat) (a_t_race_runners_splits : Nat) (a_t_race_runners_torn : Nat) (a_t_race_runners_dropped : Nat) (a_t_race_runners_waved : Nat) (a_t_race_runners_struck : Nat) (a_t_race_runners_strikingOrder : Nat) (a_t_race_way_places : Nat) (a_t_race_way_bearings : Nat) (a_t_race_way_cuts : Nat) (a_t_race_way_deaths : Nat) (t_isKept : Int32) (t_race_runners_entered : Int32) (t_race_runners_strikings : Int32) (t_race_runners_splits : Nat → Int32) (t_race_runners_torn : Nat → Int32) (t_race_way_mats : Int32) (t_race_way_deaths : Nat → Int32) (sz : Nat) (x1 : Int32) (x2 : Int32) (x3 : Int32) (r0 : Int32) (t_race_runners_splits' : Nat → Int32) (h : fX10_saw t_race_runners_entered t_race_runners_splits t_race_runners_torn t_race_way_mats t_race_way_deaths x1 x2 x3 = some (r0, t_race_runners_splits')) : Met l yX10_saw wsX10_saw ({ frames := 3, cells := 0, slots := 0, locals := 65 } : Room) (va_Pc [.ref a_t, .int x1, .int x2, .int x3] (zPre D (zT cB cI cZ) [(a_t, .inr (10, [.ref a_t_race, .ref a_t_kept, .ref a_t_trail, .ref a_t_doubts, .ref a_t_foretelling, .ref a_t_text, .ref a_t_listing, .int t_isKept])), (a_t_race, .inr (4, [.ref a_t_race_way, .ref a_t_race_guns, .ref a_t_race_runners])), (a_t_race_runners, .inr (6, [.ref a_t_race_runners_facts, .ref a_t_race_runners_splits, .ref a_t_race_runners_torn, .ref a_t_race_runners_dropped, .ref a_t_race_runners_waved, .ref a_t_race_runners_struck, .ref a_t_race_runners_strikingOrder, .int t_race_runners_entered, .int t_race_runners_strikings])), (a_t_race_runners_splits, .inl (cI, 720, .inl t_race_runners_splits)), (a_t_race_runners_torn, .inl (cI, 60, .inl t_race_runners_torn)), (a_t_race_way, .inr (9, [.ref a_t_race_way_places, .ref a_t_race_way_bearings, .ref a_t_race_way_cuts, .ref a_t_race_way_deaths, .int t_race_way_mats])), (a_t_race_way_deaths, .inl (cZ, 12, .inl t_race_way_deaths))] sz)) (zQi r0 D (zT cB cI cZ) [(a_t, .inr (10, [.ref a_t_race, .ref a_t_kept, .ref a_t_trail, .ref a_t_doubts, .ref a_t_foretelling, .ref a_t_text, .ref a_t_listing, .int t_isKept])), (a_t_race, .inr (4, [.ref a_t_race_way, .ref a_t_race_guns, .ref a_t_race_runners])), (a_t_race_runners, .inr (6, [.ref a_t_race_runners_facts, .ref a_t_race_runners_splits, .ref a_t_race_runners_torn, .ref a_t_race_runners_dropped, .ref a_t_race_runners_waved, .ref a_t_race_runners_struck, .ref a_t_race_runners_strikingOrder, .int t_race_runners_entered, .int t_race_runners_strikings])), (a_t_race_runners_splits, .inl (cI, 720, .inl t_race_runners_splits')), (a_t_race_runners_torn, .inl (cI, 60, .inl t_race_runners_torn)), (a_t_race_way, .inr (9, [.ref a_t_race_way_places, .ref a_t_race_way_bearings, .ref a_t_race_way_cuts, .ref a_t_race_way_deaths, .int t_race_way_mats])), (a_t_race_way_deaths, .inl (cZ, 12, .inl t_race_way_deaths))] (va_A [(a_t, .inr (10, [.ref a_t_race, .ref a_t_kept, .ref a_t_trail, .ref a_t_doubts, .ref a_t_foretelling, .ref a_t_text, .ref a_t_listing, .int t_isKept])), (a_t_race, .inr (4, [.ref a_t_race_way, .ref a_t_race_guns, .ref a_t_race_runners])), (a_t_race_runners, .inr (6, [.ref a_t_race_runners_facts, .ref a_t_race_runners_splits, .ref a_t_race_runners_torn, .ref a_t_race_runners_dropped, .ref a_t_race_runners_waved, .ref a_t_race_runners_struck, .ref a_t_race_runners_strikingOrder, .int t_race_runners_entered, .int t_race_runners_strikings])), (a_t_race_runners_splits, .inl (cI, 720, .inl t_race_runners_splits)), (a_t_race_runners_torn, .inl (cI, 60, .inl t_race_runners_torn)), (a_t_race_way, .inr (9, [.ref a_t_race_way_places, .ref a_t_race_way_bearings, .ref a_t_race_way_cuts, .ref a_t_race_way_deaths, .int t_race_way_mats])), (a_t_race_way_deaths, .inl (cZ, 12, .inl t_race_way_deaths))] sz)) 0 0 (va_A [(a_t, .inr (10, [.ref a_t_race, .ref a_t_kept, .ref a_t_trail, .ref a_t_doubts, .ref a_t_foretelling, .ref a_t_text, .ref a_t_listing, .int t_isKept])), (a_t_race, .inr (4, [.ref a_t_race_way, .ref a_t_race_guns, .ref a_t_race_runners])), (a_t_race_runners, .inr (6, [.ref a_t_race_runners_facts, .ref a_t_race_runners_splits, .ref a_t_race_runners_torn, .ref a_t_race_runners_dropped, .ref a_t_race_runners_waved, .ref a_t_race_runners_struck, .ref a_t_race_runners_strikingOrder, .int t_race_runners_entered, .int t_race_runners_strikings])), (a_t_race_runners_splits, .inl (cI, 720, .inl t_race_runners_splits)), (a_t_race_runners_torn, .inl (cI, 60, .inl t_race_runners_torn)), (a_t_race_way, .inr (9, [.ref a_t_race_way_places, .ref a_t_race_way_bearings, .ref a_t_race_way_cuts, .ref a_t_race_way_deaths, .int t_race_way_mats])), (a_t_race_way_deaths, .inl (cZ, 12, .inl t_race_way_deaths))] sz) := by
  refine Met.ofW (cc := cX10_saw) (maxL := 4) (ret := (some .int)) (by decide) rfl ?_
  intro p e s m args below meth c s₁ B hml hv
  obtain ⟨rfl, hsz, hP, hK, hN, hZ, hD0⟩ := hv
  have hx := B.exec
  have hb := B.bytes
  have hr := B.returns
  have hts := atoms_spec (ws := wsX10_saw) B.pre
  have hown : s.vm.findClass RX10 = some m.cls := findClass_of_methodNamed B.named
  have hlocks := B.notSynchronized
  subst hsz
  have hD := hD0.self (sz := s.heap.size)
  generalize hAe : va_A [(a_t, .inr (10, [.ref a_t_race, .ref a_t_kept, .ref a_t_trail, .ref a_t_doubts, .ref a_t_foretelling, .ref a_t_text, .ref a_t_listing, .int t_isKept])), (a_t_race, .inr (4, [.ref a_t_race_way, .ref a_t_race_guns, .ref a_t_race_runners])), (a_t_race_runners, .inr (6, [.ref a_t_race_runners_facts, .ref a_t_race_runners_splits, .ref a_t_race_runners_torn, .ref a_t_race_runners_dropped, .ref a_t_race_runners_waved, .ref a_t_race_runners_struck, .ref a_t_race_runners_strikingOrder, .int t_race_runners_entered, .int t_race_runners_strikings])), (a_t_race_runners_splits, .inl (cI, 720, .inl t_race_runners_splits)), (a_t_race_runners_torn, .inl (cI, 60, .inl t_race_runners_torn)), (a_t_race_way, .inr (9, [.ref a_t_race_way_places, .ref a_t_race_way_bearings, .ref a_t_race_way_cuts, .ref a_t_race_way_deaths, .int t_race_way_mats])), (a_t_race_way_deaths, .inl (cZ, 12, .inl t_race_way_deaths))] s.heap.size = A at hD hZ ⊢
  have hA : ∀ q : Nat, s.heap.size ≤ q → A q := fun q h => by rw [← hAe]; exact Or.inr h
  have hS : va_S A s.heap s.heap [] := va_S.rf
  have hl := lv_entry ([.ref a_t, .int x1, .int x2, .int x3]) (n := 4) (Nat.le_of_ble_eq_true rfl)
  rw [lg_entry_eq]
  generalize (lg_sl ([.ref a_t, .int x1, .int x2, .int x3]) ++ List.replicate (4 - (lg_sl ([.ref a_t, .int x1, .int x2, .int x3])).length) Slot.unset).toArray = ls at hl ⊢
  have hl : lv_has ls 4 [(0, .ref a_t), (1, .int x1), (2, .int x2), (3, .int x3)] := hl
  unfold fX10_saw at h
  refine lv_aload_n hx hb dX10_saw_0 rfl (lv_at hl 0 rfl) ?_
  refine va_get (D := D) (ci := 10) (C := RX10) (T := TX10) (N := 8) hx hb hts qX10_saw_X10 hown hK hP 0 rfl rfl 0 (by decide) (hts _ kX10_saw_0) (fun _ h9 => h9) rfl dX10_saw_1 ?_
  refine lv_iload_n hx hb dX10_saw_4 rfl (lv_at hl 1 rfl) ?_
  refine lv_iload_n hx hb dX10_saw_5 rfl (lv_at hl 2 rfl) ?_
  obtain ⟨b1, e2, h⟩ := zz_b h
  refine zVi (As := [.int x1, .int x2]) (rest := []) (C := RX4) (wr := [(a_t, .inr (10, [.ref a_t_race, .ref a_t_kept, .ref a_t_trail, .ref a_t_doubts, .ref a_t_foretelling, .ref a_t_text, .ref a_t_listing, .int t_isKept])), (a_t_race_runners_splits, .inl (cI, 720, .inl t_race_runners_splits)), (a_t_race_runners_torn, .inl (cI, 60, .inl t_race_runners_torn)), (a_t_race_way_deaths, .inl (cZ, 12, .inl t_race_way_deaths))]) [1, 2, 5] [0, 3, 4, 6] 0 ⟨hx, hb, hml, hown, hts⟩ (mX4_hasCell l D cB cI cZ a_t_race a_t_race_way a_t_race_guns a_t_race_runners a_t_race_runners_facts a_t_race_runners_splits a_t_race_runners_torn a_t_race_runners_dropped a_t_race_runners_waved a_t_race_runners_struck a_t_race_runners_strikingOrder a_t_race_way_places a_t_race_way_bearings a_t_race_way_cuts a_t_race_way_deaths t_race_runners_entered t_race_runners_strikings t_race_way_mats s.heap.size x1 x2 b1 e2) (cwV 2 hts gX10_saw_X4_hasCell rfl rfl rfl (by decide +kernel) ⟨Nat.le_of_ble_eq_true rfl, Nat.le_of_ble_eq_true rfl⟩) hK hN hZ hP hD hS hA rfl rfl rfl rfl rfl rfl rfl rfl hl.1 rfl (lv_room (Nat.le_of_ble_eq_true rfl)) dX10_saw_6 ⟨Nat.le_of_ble_eq_true rfl, Nat.le_of_ble_eq_true rfl⟩ (fun H locs hP hD hS => ?_)
  have hP : va_P D vwCl [(a_t, .inr (10, [.ref a_t_race, .ref a_t_kept, .ref a_t_trail, .ref a_t_doubts, .ref a_t_foretelling, .ref a_t_text, .ref a_t_listing, .int t_isKept])), (a_t_race_runners_splits, .inl (cI, 720, .inl t_race_runners_splits)), (a_t_race_runners_torn, .inl (cI, 60, .inl t_race_runners_torn)), (a_t_race_way_deaths, .inl (cZ, 12, .inl t_race_way_deaths)), (a_t_race, .inr (4, [.ref a_t_race_way, .ref a_t_race_guns, .ref a_t_race_runners])), (a_t_race_runners, .inr (6, [.ref a_t_race_runners_facts, .ref a_t_race_runners_splits, .ref a_t_race_runners_torn, .ref a_t_race_runners_dropped, .ref a_t_race_runners_waved, .ref a_t_race_runners_struck, .ref a_t_race_runners_strikingOrder, .int t_race_runners_entered, .int t_race_runners_strikings])), (a_t_race_way, .inr (9, [.ref a_t_race_way_places, .ref a_t_race_way_bearings, .ref a_t_race_way_cuts, .ref a_t_race_way_deaths, .int t_race_way_mats]))] H := hP
  have hD : va_D A [(a_t, .inr (10, [.ref a_t_race, .ref a_t_kept, .ref a_t_trail, .ref a_t_doubts, .ref a_t_foretelling, .ref a_t_text, .ref a_t_listing, .int t_isKept])), (a_t_race_runners_splits, .inl (cI, 720, .inl t_race_runners_splits)), (a_t_race_runners_torn, .inl (cI, 60, .inl t_race_runners_torn)), (a_t_race_way_deaths, .inl (cZ, 12, .inl t_race_way_deaths)), (a_t_race, .inr (4, [.ref a_t_race_way, .ref a_t_race_guns, .ref a_t_race_runners])), (a_t_race_runners, .inr (6, [.ref a_t_race_runners_facts, .ref a_t_race_runners_splits, .ref a_t_race_runners_torn, .ref a_t_race_runners_dropped, .ref a_t_race_runners_waved, .ref a_t_race_runners_struck, .ref a_t_race_runners_strikingOrder, .int t_race_runners_entered, .int t_race_runners_strikings])), (a_t_race_way, .inr (9, [.ref a_t_race_way_places, .ref a_t_race_way_bearings, .ref a_t_race_way_cuts, .ref a_t_race_way_deaths, .int t_race_way_mats]))] := hD
  refine lv_if_eq (tgt := 22) hx hb dX10_saw_9 (by decide) (fun c3 => ?_) (fun c3 => ?_)
  · have h := zz_t h c3
    refine lv_iconst (v := (-1 : Int32)) hx hb dX10_saw_22 rfl ?_
    obtain ⟨j0_, g_⟩ := Prod.mk.inj (Option.some.inj h)
    have j1_ := g_
    subst j0_
    subst j1_
    exact W.iret (v := (-1 : Int32)) hx hb hr (fun t ht hW => ⟨⟨_, (), rfl, rfl, zPost.of hP hD hK ht hW [0, 4, 5, 1, 2, 6, 3] rfl rfl rfl⟩, hS.F ht⟩) hS.2.2 dX10_saw_23
  · have h := zz_f h c3
    refine lv_iload_n hx hb dX10_saw_12 rfl (lv_at hl 3 rfl) ?_
    refine lv_iconst (v := (nI 0)) hx hb dX10_saw_13 rfl ?_
    refine lv_ldc (v := (nI 40000)) hx hb hown (hts _ kX10_saw_2) dX10_saw_14 ?_
    obtain ⟨b4, e5, h⟩ := zz_b h
    refine zSi (As := [.int x3, .int (nI 0), .int (nI 40000)]) (rest := []) (wr := [(a_t, .inr (10, [.ref a_t_race, .ref a_t_kept, .ref a_t_trail, .ref a_t_doubts, .ref a_t_foretelling, .ref a_t_text, .ref a_t_listing, .int t_isKept])), (a_t_race_runners_splits, .inl (cI, 720, .inl t_race_runners_splits)), (a_t_race_runners_torn, .inl (cI, 60, .inl t_race_runners_torn)), (a_t_race_way_deaths, .inl (cZ, 12, .inl t_race_way_deaths)), (a_t_race, .inr (4, [.ref a_t_race_way, .ref a_t_race_guns, .ref a_t_race_runners])), (a_t_race_runners, .inr (6, [.ref a_t_race_runners_facts, .ref a_t_race_runners_splits, .ref a_t_race_runners_torn, .ref a_t_race_runners_dropped, .ref a_t_race_runners_waved, .ref a_t_race_runners_struck, .ref a_t_race_runners_strikingOrder, .int t_race_runners_entered, .int t_race_runners_strikings])), (a_t_race_way, .inr (9, [.ref a_t_race_way_places, .ref a_t_race_way_bearings, .ref a_t_race_way_cuts, .ref a_t_race_way_deaths, .int t_race_way_mats]))]) [] [0, 1, 2, 3, 4, 5, 6] ⟨hx, hb, hml, hown, hts⟩ (mX10_within l D cB cI cZ H.size x3 (nI 0) (nI 40000) b4 e5) (va_cwS 3 hts gX10_saw_X10_within rfl rfl rfl (by decide +kernel) ⟨Nat.le_of_ble_eq_true rfl, Nat.le_of_ble_eq_true rfl⟩) hK hN hZ hP hD hS hA rfl rfl rfl rfl rfl rfl hl.1 rfl (lv_room (Nat.le_of_ble_eq_true rfl)) dX10_saw_16 ⟨Nat.le_of_ble_eq_true rfl, Nat.le_of_ble_eq_true rfl⟩ (fun H locs hP hD hS => ?_)
    have hP : va_P D vwCl [(a_t, .inr (10, [.ref a_t_race, .ref a_t_kept, .ref a_t_trail, .ref a_t_doubts, .ref a_t_foretelling, .ref a_t_text, .ref a_t_listing, .int t_isKept])), (a_t_race_runners_splits, .inl (cI, 720, .inl t_race_runners_splits)), (a_t_race_runners_torn, .inl (cI, 60, .inl t_race_runners_torn)), (a_t_race_way_deaths, .inl (cZ, 12, .inl t_race_way_deaths)), (a_t_race, .inr (4, [.ref a_t_race_way, .ref a_t_race_guns, .ref a_t_race_runners])), (a_t_race_runners, .inr (6, [.ref a_t_race_runners_facts, .ref a_t_race_runners_splits, .ref a_t_race_runners_torn, .ref a_t_race_runners_dropped, .ref a_t_race_runners_waved, .ref a_t_race_runners_struck, .ref a_t_race_runners_strikingOrder, .int t_race_runners_entered, .int t_race_runners_strikings])), (a_t_race_way, .inr (9, [.ref a_t_race_way_places, .ref a_t_race_way_bearings, .ref a_t_race_way_cuts, .ref a_t_race_way_deaths, .int t_race_way_mats]))] H := hP
    have hD : va_D A [(a_t, .inr (10, [.ref a_t_race, .ref a_t_kept, .ref a_t_trail, .ref a_t_doubts, .ref a_t_foretelling, .ref a_t_text, .ref a_t_listing, .int t_isKept])), (a_t_race_runners_splits, .inl (cI, 720, .inl t_race_runners_splits)), (a_t_race_runners_torn, .inl (cI, 60, .inl t_race_runners_torn)), (a_t_race_way_deaths, .inl (cZ, 12, .inl t_race_way_deaths)), (a_t_race, .inr (4, [.ref a_t_race_way, .ref a_t_race_guns, .ref a_t_race_runners])), (a_t_race_runners, .inr (6, [.ref a_t_race_runners_facts, .ref a_t_race_runners_splits, .ref a_t_race_runners_torn, .ref a_t_race_runners_dropped, .ref a_t_race_runners_waved, .ref a_t_race_runners_struck, .ref a_t_race_runners_strikingOrder, .int t_race_runners_entered, .int t_race_runners_strikings])), (a_t_race_way, .inr (9, [.ref a_t_race_way_places, .ref a_t_race_way_bearings, .ref a_t_race_way_cuts, .ref a_t_race_way_deaths, .int t_race_way_mats]))] := hD
    refine lv_if_ne (tgt := 24) hx hb dX10_saw_19 (by decide) (fun c6 => ?_) (fun c6 => ?_)
    · have h := zz_f h c6
      refine lv_aload_n hx hb dX10_saw_24 rfl (lv_at hl 0 rfl) ?_
      refine va_get (D := D) (ci := 10) (C := RX10) (T := TX10) (N := 8) hx hb hts qX10_saw_X10 hown hK hP 0 rfl rfl 0 (by decide) (hts _ kX10_saw_0) (fun _ h9 => h9) rfl dX10_saw_25 ?_
      refine va_getN (host := "RunDesk") (D := D) (ci := 4) (C := RX4) (T := TX4) (N := 3) hx hb hts qX10_saw_X4 hown hK hP 4 rfl rfl 0 (by decide) (va_Nw.use rfl (hN _ (List.mem_of_getElem? (i := 0) rfl))) (fun _ h9 => h9) rfl dX10_saw_28 ?_
      refine lv_iload_n hx hb dX10_saw_31 rfl (lv_at hl 2 rfl) ?_
      obtain ⟨b7, e8, h⟩ := zz_b h
      refine zVi (As := [.int x2]) (rest := []) (C := RX9) (wr := [(a_t, .inr (10, [.ref a_t_race, .ref a_t_kept, .ref a_t_trail, .ref a_t_doubts, .ref a_t_foretelling, .ref a_t_text, .ref a_t_listing, .int t_isKept])), (a_t_race_runners_splits, .inl (cI, 720, .inl t_race_runners_splits)), (a_t_race_runners_torn, .inl (cI, 60, .inl t_race_runners_torn)), (a_t_race, .inr (4, [.ref a_t_race_way, .ref a_t_race_guns, .ref a_t_race_runners])), (a_t_race_runners, .inr (6, [.ref a_t_race_runners_facts, .ref a_t_race_runners_splits, .ref a_t_race_runners_torn, .ref a_t_race_runners_dropped, .ref a_t_race_runners_waved, .ref a_t_race_runners_struck, .ref a_t_race_runners_strikingOrder, .int t_race_runners_entered, .int t_race_runners_strikings]))]) [6, 3] [0, 1, 2, 4, 5] 0 ⟨hx, hb, hml, hown, hts⟩ (mX9_isDead l D cB cI cZ a_t_race_way a_t_race_way_places a_t_race_way_bearings a_t_race_way_cuts a_t_race_way_deaths t_race_way_mats t_race_way_deaths H.size x2 b7 e8) (cwV 1 hts gX10_saw_X9_isDead rfl rfl rfl (by decide +kernel) ⟨Nat.le_of_ble_eq_true rfl, Nat.le_of_ble_eq_true rfl⟩) hK hN hZ hP hD hS hA rfl rfl rfl rfl rfl rfl rfl rfl hl.1 rfl (lv_room (Nat.le_of_ble_eq_true rfl)) dX10_saw_32 ⟨Nat.le_of_ble_eq_true rfl, Nat.le_of_ble_eq_true rfl⟩ (fun H locs hP hD hS => ?_)
      have hP : va_P D vwCl [(a_t, .inr (10, [.ref a_t_race, .ref a_t_kept, .ref a_t_trail, .ref a_t_doubts, .ref a_t_foretelling, .ref a_t_text, .ref a_t_listing, .int t_isKept])), (a_t_race_runners_splits, .inl (cI, 720, .inl t_race_runners_splits)), (a_t_race_runners_torn, .inl (cI, 60, .inl t_race_runners_torn)), (a_t_race, .inr (4, [.ref a_t_race_way, .ref a_t_race_guns, .ref a_t_race_runners])), (a_t_race_runners, .inr (6, [.ref a_t_race_runners_facts, .ref a_t_race_runners_splits, .ref a_t_race_runners_torn, .ref a_t_race_runners_dropped, .ref a_t_race_runners_waved, .ref a_t_race_runners_struck, .ref a_t_race_runners_strikingOrder, .int t_race_runners_entered, .int t_race_runners_strikings])), (a_t_race_way, .inr (9, [.ref a_t_race_way_places, .ref a_t_race_way_bearings, .ref a_t_race_way_cuts, .ref a_t_race_way_deaths, .int t_race_way_mats])), (a_t_race_way_deaths, .inl (cZ, 12, .inl t_race_way_deaths))] H := hP
      have hD : va_D A [(a_t, .inr (10, [.ref a_t_race, .ref a_t_kept, .ref a_t_trail, .ref a_t_doubts, .ref a_t_foretelling, .ref a_t_text, .ref a_t_listing, .int t_isKept])), (a_t_race_runners_splits, .inl (cI, 720, .inl t_race_runners_splits)), (a_t_race_runners_torn, .inl (cI, 60, .inl t_race_runners_torn)), (a_t_race, .inr (4, [.ref a_t_race_way, .ref a_t_race_guns, .ref a_t_race_runners])), (a_t_race_runners, .inr (6, [.ref a_t_race_runners_facts, .ref a_t_race_runners_splits, .ref a_t_race_runners_torn, .ref a_t_race_runners_dropped, .ref a_t_race_runners_waved, .ref a_t_race_runners_struck, .ref a_t_race_runners_strikingOrder, .int t_race_runners_entered, .int t_race_runners_strikings])), (a_t_race_way, .inr (9, [.ref a_t_race_way_places, .ref a_t_race_way_bearings, .ref a_t_race_way_cuts, .ref a_t_race_way_deaths, .int t_race_way_mats])), (a_t_race_way_deaths, .inl (cZ, 12, .inl t_race_way_deaths))] := hD
      refine lv_if_ne (tgt := 53) hx hb dX10_saw_35 (by decide) (fun c9 => ?_) (fun c9 => ?_)
      · have h := zz_f h c9
        refine lv_iconst (v := (-1 : Int32)) hx hb dX10_saw_53 rfl ?_
        obtain ⟨j0_, g_⟩ := Prod.mk.inj (Option.some.inj h)
        have j1_ := g_
        subst j0_
        subst j1_
        exact W.iret (v := (-1 : Int32)) hx hb hr (fun t ht hW => ⟨⟨_, (), rfl, rfl, zPost.of hP hD hK ht hW [0, 3, 4, 1, 2, 5, 6] rfl rfl rfl⟩, hS.F ht⟩) hS.2.2 dX10_saw_54
      · have h := zz_t h c9
        refine lv_aload_n hx hb dX10_saw_38 rfl (lv_at hl 0 rfl) ?_
        refine va_get (D := D) (ci := 10) (C := RX10) (T := TX10) (N := 8) hx hb hts qX10_saw_X10 hown hK hP 0 rfl rfl 0 (by decide) (hts _ kX10_saw_0) (fun _ h9 => h9) rfl dX10_saw_39 ?_
        refine va_getN (host := "RunDesk") (D := D) (ci := 4) (C := RX4) (T := TX4) (N := 3) hx hb hts qX10_saw_X4 hown hK hP 3 rfl rfl 2 (by decide) (va_Nw.use rfl (hN _ (List.mem_of_getElem? (i := 10) rfl))) (fun _ h9 => h9) rfl dX10_saw_42 ?_
        refine lv_iload_n hx hb dX10_saw_45 rfl (lv_at hl 1 rfl) ?_
        refine lv_iload_n hx hb dX10_saw_46 rfl (lv_at hl 2 rfl) ?_
        obtain ⟨b10, e11, h⟩ := zz_b h
        refine zVi (As := [.int x1, .int x2]) (rest := []) (C := RX6) (wr := [(a_t, .inr (10, [.ref a_t_race, .ref a_t_kept, .ref a_t_trail, .ref a_t_doubts, .ref a_t_foretelling, .ref a_t_text, .ref a_t_listing, .int t_isKept])), (a_t_race_runners_splits, .inl (cI, 720, .inl t_race_runners_splits)), (a_t_race, .inr (4, [.ref a_t_race_way, .ref a_t_race_guns, .ref a_t_race_runners])), (a_t_race_way, .inr (9, [.ref a_t_race_way_places, .ref a_t_race_way_bearings, .ref a_t_race_way_cuts, .ref a_t_race_way_deaths, .int t_race_way_mats])), (a_t_race_way_deaths, .inl (cZ, 12, .inl t_race_way_deaths))]) [4, 2] [0, 1, 3, 5, 6] 0 ⟨hx, hb, hml, hown, hts⟩ (mX6_isTorn l D cB cI cZ a_t_race_runners a_t_race_runners_facts a_t_race_runners_splits a_t_race_runners_torn a_t_race_runners_dropped a_t_race_runners_waved a_t_race_runners_struck a_t_race_runners_strikingOrder t_race_runners_entered t_race_runners_strikings t_race_runners_torn H.size x1 x2 b10 e11) (cwV 2 hts gX10_saw_X6_isTorn rfl rfl rfl (by decide +kernel) ⟨Nat.le_of_ble_eq_true rfl, Nat.le_of_ble_eq_true rfl⟩) hK hN hZ hP hD hS hA rfl rfl rfl rfl rfl rfl rfl rfl hl.1 rfl (lv_room (Nat.le_of_ble_eq_true rfl)) dX10_saw_47 ⟨Nat.le_of_ble_eq_true rfl, Nat.le_of_ble_eq_true rfl⟩ (fun H locs hP hD hS => ?_)
        have hP : va_P D vwCl [(a_t, .inr (10, [.ref a_t_race, .ref a_t_kept, .ref a_t_trail, .ref a_t_doubts, .ref a_t_foretelling, .ref a_t_text, .ref a_t_listing, .int t_isKept])), (a_t_race_runners_splits, .inl (cI, 720, .inl t_race_runners_splits)), (a_t_race, .inr (4, [.ref a_t_race_way, .ref a_t_race_guns, .ref a_t_race_runners])), (a_t_race_way, .inr (9, [.ref a_t_race_way_places, .ref a_t_race_way_bearings, .ref a_t_race_way_cuts, .ref a_t_race_way_deaths, .int t_race_way_mats])), (a_t_race_way_deaths, .inl (cZ, 12, .inl t_race_way_deaths)), (a_t_race_runners, .inr (6, [.ref a_t_race_runners_facts, .ref a_t_race_runners_splits, .ref a_t_race_runners_torn, .ref a_t_race_runners_dropped, .ref a_t_race_runners_waved, .ref a_t_race_runners_struck, .ref a_t_race_runners_strikingOrder, .int t_race_runners_entered, .int t_race_runners_strikings])), (a_t_race_runners_torn, .inl (cI, 60, .inl t_race_runners_torn))] H := hP
        have hD : va_D A [(a_t, .inr (10, [.ref a_t_race, .ref a_t_kept, .ref a_t_trail, .ref a_t_doubts, .ref a_t_foretelling, .ref a_t_text, .ref a_t_listing, .int t_isKept])), (a_t_race_runners_splits, .inl (cI, 720, .inl t_race_runners_splits)), (a_t_race, .inr (4, [.ref a_t_race_way, .ref a_t_race_guns, .ref a_t_race_runners])), (a_t_race_way, .inr (9, [.ref a_t_race_way_places, .ref a_t_race_way_bearings, .ref a_t_race_way_cuts, .ref a_t_race_way_deaths, .int t_race_way_mats])), (a_t_race_way_deaths, .inl (cZ, 12, .inl t_race_way_deaths)), (a_t_race_runners, .inr (6, [.ref a_t_race_runners_facts, .ref a_t_race_runners_splits, .ref a_t_race_runners_torn, .ref a_t_race_runners_dropped, .ref a_t_race_runners_waved, .ref a_t_race_runners_struck, .ref a_t_race_runners_strikingOrder, .int t_race_runners_entered, .int t_race_runners_strikings])), (a_t_race_runners_torn, .inl (cI, 60, .inl t_race_runners_torn))] := hD
        refine lv_if_eq (tgt := 55) hx hb dX10_saw_50 (by decide) (fun c12 => ?_) (fun c12 => ?_)
        · have h := zz_t h c12
          refine lv_aload_n hx hb dX10_saw_55 rfl (lv_at hl 0 rfl) ?_
          refine va_get (D := D) (ci := 10) (C := RX10) (T := TX10) (N := 8) hx hb hts qX10_saw_X10 hown hK hP 0 rfl rfl 0 (by decide) (hts _ kX10_saw_0) (fun _ h9 => h9) rfl dX10_saw_56 ?_
          refine va_getN (host := "RunDesk") (D := D) (ci := 4) (C := RX4) (T := TX4) (N := 3) hx hb hts qX10_saw_X4 hown hK hP 2 rfl rfl 2 (by decide) (va_Nw.use rfl (hN _ (List.mem_of_getElem? (i := 10) rfl))) (fun _ h9 => h9) rfl dX10_saw_59 ?_
          refine lv_iload_n hx hb dX10_saw_62 rfl (lv_at hl 1 rfl) ?_
          refine lv_iload_n hx hb dX10_saw_63 rfl (lv_at hl 2 rfl) ?_
          refine lv_iload_n hx hb dX10_saw_64 rfl (lv_at hl 3 rfl) ?_
          obtain ⟨⟨b13, t_race_runners_splits_r14⟩, e15, h⟩ := zz_b h
          dsimp only at h
          refine zVi (As := [.int x1, .int x2, .int x3]) (rest := []) (C := RX6) (wr := [(a_t, .inr (10, [.ref a_t_race, .ref a_t_kept, .ref a_t_trail, .ref a_t_doubts, .ref a_t_foretelling, .ref a_t_text, .ref a_t_listing, .int t_isKept])), (a_t_race, .inr (4, [.ref a_t_race_way, .ref a_t_race_guns, .ref a_t_race_runners])), (a_t_race_way, .inr (9, [.ref a_t_race_way_places, .ref a_t_race_way_bearings, .ref a_t_race_way_cuts, .ref a_t_race_way_deaths, .int t_race_way_mats])), (a_t_race_way_deaths, .inl (cZ, 12, .inl t_race_way_deaths)), (a_t_race_runners_torn, .inl (cI, 60, .inl t_race_runners_torn))]) [5, 1] [0, 2, 3, 4, 6] 0 ⟨hx, hb, hml, hown, hts⟩ (mX6_enterSplit l D cB cI cZ a_t_race_runners a_t_race_runners_facts a_t_race_runners_splits a_t_race_runners_torn a_t_race_runners_dropped a_t_race_runners_waved a_t_race_runners_struck a_t_race_runners_strikingOrder t_race_runners_entered t_race_runners_strikings t_race_runners_splits H.size x1 x2 x3 b13 t_race_runners_splits_r14 e15) (cwV 3 hts gX10_saw_X6_enterSplit rfl rfl rfl (by decide +kernel) ⟨Nat.le_of_ble_eq_true rfl, Nat.le_of_ble_eq_true rfl⟩) hK hN hZ hP hD hS hA rfl rfl rfl rfl rfl rfl rfl rfl hl.1 rfl (lv_room (Nat.le_of_ble_eq_true rfl)) dX10_saw_65 ⟨Nat.le_of_ble_eq_true rfl, Nat.le_of_ble_eq_true rfl⟩ (fun H locs hP hD hS => ?_)
          have hP : va_P D vwCl [(a_t, .inr (10, [.ref a_t_race, .ref a_t_kept, .ref a_t_trail, .ref a_t_doubts, .ref a_t_foretelling, .ref a_t_text, .ref a_t_listing, .int t_isKept])), (a_t_race, .inr (4, [.ref a_t_race_way, .ref a_t_race_guns, .ref a_t_race_runners])), (a_t_race_way, .inr (9, [.ref a_t_race_way_places, .ref a_t_race_way_bearings, .ref a_t_race_way_cuts, .ref a_t_race_way_deaths, .int t_race_way_mats])), (a_t_race_way_deaths, .inl (cZ, 12, .inl t_race_way_deaths)), (a_t_race_runners_torn, .inl (cI, 60, .inl t_race_runners_torn)), (a_t_race_runners, .inr (6, [.ref a_t_race_runners_facts, .ref a_t_race_runners_splits, .ref a_t_race_runners_torn, .ref a_t_race_runners_dropped, .ref a_t_race_runners_waved, .ref a_t_race_runners_struck, .ref a_t_race_runners_strikingOrder, .int t_race_runners_entered, .int t_race_runners_strikings])), (a_t_race_runners_splits, .inl (cI, 720, .inl t_race_runners_splits_r14))] H := hP
          have hD : va_D A [(a_t, .inr (10, [.ref a_t_race, .ref a_t_kept, .ref a_t_trail, .ref a_t_doubts, .ref a_t_foretelling, .ref a_t_text, .ref a_t_listing, .int t_isKept])), (a_t_race, .inr (4, [.ref a_t_race_way, .ref a_t_race_guns, .ref a_t_race_runners])), (a_t_race_way, .inr (9, [.ref a_t_race_way_places, .ref a_t_race_way_bearings, .ref a_t_race_way_cuts, .ref a_t_race_way_deaths, .int t_race_way_mats])), (a_t_race_way_deaths, .inl (cZ, 12, .inl t_race_way_deaths)), (a_t_race_runners_torn, .inl (cI, 60, .inl t_race_runners_torn)), (a_t_race_runners, .inr (6, [.ref a_t_race_runners_facts, .ref a_t_race_runners_splits, .ref a_t_race_runners_torn, .ref a_t_race_runners_dropped, .ref a_t_race_runners_waved, .ref a_t_race_runners_struck, .ref a_t_race_runners_strikingOrder, .int t_race_runners_entered, .int t_race_runners_strikings])), (a_t_race_runners_splits, .inl (cI, 720, .inl t_race_runners_splits_r14))] := hD
          refine lv_if_eq (tgt := 75) hx hb dX10_saw_68 (by decide) (fun c16 => ?_) (fun c16 => ?_)
          · have h := zz_t h c16
            refine lv_iconst (v := (nI 0)) hx hb dX10_saw_75 rfl ?_
            obtain ⟨j0_, g_⟩ := Prod.mk.inj (Option.some.inj h)
            have j1_ := g_
            subst j0_
            subst j1_
            exact W.iret (v := (nI 0)) hx hb hr (fun t ht hW => ⟨⟨_, (), rfl, rfl, zPost.of hP hD hK ht hW [0, 1, 5, 6, 4, 2, 3] rfl rfl rfl⟩, hS.F ht⟩) hS.2.2 dX10_saw_76
          · have h := zz_f h c16
            refine lv_iconst (v := (nI 1)) hx hb dX10_saw_71 rfl ?_
            refine lv_goto (tgt := 76) hx hb dX10_saw_72 (by decide) ?_
            obtain ⟨j0_, g_⟩ := Prod.mk.inj (Option.some.inj h)
            have j1_ := g_
            subst j0_
            subst j1_
            exact W.iret (v := (nI 1)) hx hb hr (fun t ht hW => ⟨⟨_, (), rfl, rfl, zPost.of hP hD hK ht hW [0, 1, 5, 6, 4, 2, 3] rfl rfl rfl⟩, hS.F ht⟩) hS.2.2 dX10_saw_76
        · have h := zz_f h c12
          refine lv_iconst (v := (-1 : Int32)) hx hb dX10_saw_53 rfl ?_
          obtain ⟨j0_, g_⟩ := Prod.mk.inj (Option.some.inj h)
          have j1_ := g_
          subst j0_
          subst j1_
          exact W.iret (v := (-1 : Int32)) hx hb hr (fun t ht hW => ⟨⟨_, (), rfl, rfl, zPost.of hP hD hK ht hW [0, 2, 5, 1, 6, 3, 4] rfl rfl rfl⟩, hS.F ht⟩) hS.2.2 dX10_saw_54
    · have h := zz_t h c6
      refine lv_iconst (v := (-1 : Int32)) hx hb dX10_saw_22 rfl ?_
      obtain ⟨j0_, g_⟩ := Prod.mk.inj (Option.some.inj h)
      have j1_ := g_
      subst j0_
      subst j1_
      exact W.iret (v := (-1 : Int32)) hx hb hr (fun t ht hW => ⟨⟨_, (), rfl, rfl, zPost.of hP hD hK ht hW [0, 4, 5, 1, 2, 6, 3] rfl rfl rfl⟩, hS.F ht⟩) hS.2.2 dX10_saw_23
/-! RunDesk.dead -/
theorem dX10_dead_0 : decode cX10_dead 0 = .ok (.aload_n 0, 1) := by decide +kernel
theorem dX10_dead_1 : decode cX10_dead 1 = .ok (.getfield 10, 3) := by decide +kernel
theorem dX10_dead_4 : decode cX10_dead 4 = .ok (.getfield 58, 3) := by decide +kernel
theorem dX10_dead_7 : decode cX10_dead 7 = .ok (.iload_n 1, 1) := by decide +kernel
theorem dX10_dead_8 : decode cX10_dead 8 = .ok (.iload_n 2, 1) := by decide +kernel
theorem dX10_dead_9 : decode cX10_dead 9 = .ok (.invokevirtual 114, 3) := by decide +kernel
theorem dX10_dead_12 : decode cX10_dead 12 = .ok (.ireturn, 1) := by decide +kernel
set_option maxRecDepth 20000 in
theorem ggX10_dead_X9_setDead : GoodIn wsX10_dead wsX9_setDead := goodIn_r _ [6, 7, 8, 9, 10, 5, 11, 12, 24, 25, 26, 27, 28] (by decide +kernel) (by decide +kernel)
set_option maxRecDepth 20000 in
theorem gX10_dead_X9_setDead : GoodIn wsX10_dead (wsV RX10 114 RX9 yX9_setDead wsX9_setDead) := goodIn_app (goodIn_of _ (by decide +kernel)) ggX10_dead_X9_setDead
theorem kX10_dead_0 : (.fieldLink RX10 10 "RunDesk" "race" "LRunDesk$Race;" : Cond) ∈ wsX10_dead := List.mem_of_getElem? (i := 1) (by decide +kernel)
theorem qX10_dead_X10 : ∀ w ∈ wsX100, w ∈ wsX10_dead := fun _ h => List.mem_cons_of_mem _ (List.mem_append_left _ (List.mem_append_left _ (List.mem_append_right _ (h))))
theorem qX10_dead_X4 : ∀ w ∈ wsX40, w ∈ wsX10_dead := fun _ h => List.mem_cons_of_mem _ (List.mem_append_left _ (List.mem_append_right _ (h)))
set_option maxHeartbeats 4000000 in
set_option maxRecDepth 100000 in
theorem mX10_dead (l : Launch) (D : va_G) (cB cI cZ : ClassId) (a_t : Nat) (a_t_race : Nat) (a_t_kept : Nat) (a_t_trail : Nat) (a_t_doubts : Nat) (a_t_foretelling : Nat) (a_t_text : Nat) (a_t_listing : Nat) (a_t_race_way : Nat) (a_t_race_guns : Nat) (a_t_race_runners : Nat) (a_t_race_way_places : Nat) (a_t_race_way_bearings : Nat) (a_t_race_way_cuts : Nat) (a_t_race_way_deaths : Nat) (t_isKept : Int32) (t_race_way_mats : Int32) (t_race_way_deaths : Nat → Int32) (sz : Nat) (x1 : Int32) (x2 : Int32) (b0 : Bool) (t_race_way_deaths' : Nat → Int32) (h : fX10_dead t_race_way_mats t_race_way_deaths x1 x2 = some (b0, t_race_way_deaths')) : Met l yX10_dead wsX10_dead ({ frames := 2, cells := 0, slots := 0, locals := 43 } : Room) (va_Pc [.ref a_t, .int x1, .int x2] (zPre D (zT cB cI cZ) [(a_t, .inr (10, [.ref a_t_race, .ref a_t_kept, .ref a_t_trail, .ref a_t_doubts, .ref a_t_foretelling, .ref a_t_text, .ref a_t_listing, .int t_isKept])), (a_t_race, .inr (4, [.ref a_t_race_way, .ref a_t_race_guns, .ref a_t_race_runners])), (a_t_race_way, .inr (9, [.ref a_t_race_way_places, .ref a_t_race_way_bearings, .ref a_t_race_way_cuts, .ref a_t_race_way_deaths, .int t_race_way_mats])), (a_t_race_way_deaths, .inl (cZ, 12, .inl t_race_way_deaths))] sz)) (zQi (zb b0) D (zT cB cI cZ) [(a_t, .inr (10, [.ref a_t_race, .ref a_t_kept, .ref a_t_trail, .ref a_t_doubts, .ref a_t_foretelling, .ref a_t_text, .ref a_t_listing, .int t_isKept])), (a_t_race, .inr (4, [.ref a_t_race_way, .ref a_t_race_guns, .ref a_t_race_runners])), (a_t_race_way, .inr (9, [.ref a_t_race_way_places, .ref a_t_race_way_bearings, .ref a_t_race_way_cuts, .ref a_t_race_way_deaths, .int t_race_way_mats])), (a_t_race_way_deaths, .inl (cZ, 12, .inl t_race_way_deaths'))] (va_A [(a_t, .inr (10, [.ref a_t_race, .ref a_t_kept, .ref a_t_trail, .ref a_t_doubts, .ref a_t_foretelling, .ref a_t_text, .ref a_t_listing, .int t_isKept])), (a_t_race, .inr (4, [.ref a_t_race_way, .ref a_t_race_guns, .ref a_t_race_runners])), (a_t_race_way, .inr (9, [.ref a_t_race_way_places, .ref a_t_race_way_bearings, .ref a_t_race_way_cuts, .ref a_t_race_way_deaths, .int t_race_way_mats])), (a_t_race_way_deaths, .inl (cZ, 12, .inl t_race_way_deaths))] sz)) 0 0 (va_A [(a_t, .inr (10, [.ref a_t_race, .ref a_t_kept, .ref a_t_trail, .ref a_t_doubts, .ref a_t_foretelling, .ref a_t_text, .ref a_t_listing, .int t_isKept])), (a_t_race, .inr (4, [.ref a_t_race_way, .ref a_t_race_guns, .ref a_t_race_runners])), (a_t_race_way, .inr (9, [.ref a_t_race_way_places, .ref a_t_race_way_bearings, .ref a_t_race_way_cuts, .ref a_t_race_way_deaths, .int t_race_way_mats])), (a_t_race_way_deaths, .inl (cZ, 12, .inl t_race_way_deaths))] sz) := by
  refine Met.ofW (cc := cX10_dead) (maxL := 3) (ret := (some .boolean)) (by decide) rfl ?_
  intro p e s m args below meth c s₁ B hml hv
  obtain ⟨rfl, hsz, hP, hK, hN, hZ, hD0⟩ := hv
  have hx := B.exec
  have hb := B.bytes
  have hr := B.returns
  have hts := atoms_spec (ws := wsX10_dead) B.pre
  have hown : s.vm.findClass RX10 = some m.cls := findClass_of_methodNamed B.named
  have hlocks := B.notSynchronized
  subst hsz
  have hD := hD0.self (sz := s.heap.size)
  generalize hAe : va_A [(a_t, .inr (10, [.ref a_t_race, .ref a_t_kept, .ref a_t_trail, .ref a_t_doubts, .ref a_t_foretelling, .ref a_t_text, .ref a_t_listing, .int t_isKept])), (a_t_race, .inr (4, [.ref a_t_race_way, .ref a_t_race_guns, .ref a_t_race_runners])), (a_t_race_way, .inr (9, [.ref a_t_race_way_places, .ref a_t_race_way_bearings, .ref a_t_race_way_cuts, .ref a_t_race_way_deaths, .int t_race_way_mats])), (a_t_race_way_deaths, .inl (cZ, 12, .inl t_race_way_deaths))] s.heap.size = A at hD hZ ⊢
  have hA : ∀ q : Nat, s.heap.size ≤ q → A q := fun q h => by rw [← hAe]; exact Or.inr h
  have hS : va_S A s.heap s.heap [] := va_S.rf
  have hl := lv_entry ([.ref a_t, .int x1, .int x2]) (n := 3) (Nat.le_of_ble_eq_true rfl)
  rw [lg_entry_eq]
  generalize (lg_sl ([.ref a_t, .int x1, .int x2]) ++ List.replicate (3 - (lg_sl ([.ref a_t, .int x1, .int x2])).length) Slot.unset).toArray = ls at hl ⊢
  have hl : lv_has ls 3 [(0, .ref a_t), (1, .int x1), (2, .int x2)] := hl
  unfold fX10_dead at h
  refine lv_aload_n hx hb dX10_dead_0 rfl (lv_at hl 0 rfl) ?_
  refine va_get (D := D) (ci := 10) (C := RX10) (T := TX10) (N := 8) hx hb hts qX10_dead_X10 hown hK hP 0 rfl rfl 0 (by decide) (hts _ kX10_dead_0) (fun _ h9 => h9) rfl dX10_dead_1 ?_
  refine va_getN (host := "RunDesk") (D := D) (ci := 4) (C := RX4) (T := TX4) (N := 3) hx hb hts qX10_dead_X4 hown hK hP 1 rfl rfl 0 (by decide) (va_Nw.use rfl (hN _ (List.mem_of_getElem? (i := 0) rfl))) (fun _ h9 => h9) rfl dX10_dead_4 ?_
  refine lv_iload_n hx hb dX10_dead_7 rfl (lv_at hl 1 rfl) ?_
  refine lv_iload_n hx hb dX10_dead_8 rfl (lv_at hl 2 rfl) ?_
  obtain ⟨⟨b1, t_race_way_deaths_r2⟩, e3, h⟩ := zz_b h
  dsimp only at h
  refine zVi (As := [.int x1, .int x2]) (rest := []) (C := RX9) (wr := [(a_t, .inr (10, [.ref a_t_race, .ref a_t_kept, .ref a_t_trail, .ref a_t_doubts, .ref a_t_foretelling, .ref a_t_text, .ref a_t_listing, .int t_isKept])), (a_t_race, .inr (4, [.ref a_t_race_way, .ref a_t_race_guns, .ref a_t_race_runners]))]) [2, 3] [0, 1] 0 ⟨hx, hb, hml, hown, hts⟩ (mX9_setDead l D cB cI cZ a_t_race_way a_t_race_way_places a_t_race_way_bearings a_t_race_way_cuts a_t_race_way_deaths t_race_way_mats t_race_way_deaths s.heap.size x1 x2 b1 t_race_way_deaths_r2 e3) (cwV 2 hts gX10_dead_X9_setDead rfl rfl rfl (by decide +kernel) ⟨Nat.le_of_ble_eq_true rfl, Nat.le_of_ble_eq_true rfl⟩) hK hN hZ hP hD hS hA rfl rfl rfl rfl rfl rfl rfl rfl hl.1 rfl (lv_room (Nat.le_of_ble_eq_true rfl)) dX10_dead_9 ⟨Nat.le_of_ble_eq_true rfl, Nat.le_of_ble_eq_true rfl⟩ (fun H locs hP hD hS => ?_)
  have hP : va_P D vwCl [(a_t, .inr (10, [.ref a_t_race, .ref a_t_kept, .ref a_t_trail, .ref a_t_doubts, .ref a_t_foretelling, .ref a_t_text, .ref a_t_listing, .int t_isKept])), (a_t_race, .inr (4, [.ref a_t_race_way, .ref a_t_race_guns, .ref a_t_race_runners])), (a_t_race_way, .inr (9, [.ref a_t_race_way_places, .ref a_t_race_way_bearings, .ref a_t_race_way_cuts, .ref a_t_race_way_deaths, .int t_race_way_mats])), (a_t_race_way_deaths, .inl (cZ, 12, .inl t_race_way_deaths_r2))] H := hP
  have hD : va_D A [(a_t, .inr (10, [.ref a_t_race, .ref a_t_kept, .ref a_t_trail, .ref a_t_doubts, .ref a_t_foretelling, .ref a_t_text, .ref a_t_listing, .int t_isKept])), (a_t_race, .inr (4, [.ref a_t_race_way, .ref a_t_race_guns, .ref a_t_race_runners])), (a_t_race_way, .inr (9, [.ref a_t_race_way_places, .ref a_t_race_way_bearings, .ref a_t_race_way_cuts, .ref a_t_race_way_deaths, .int t_race_way_mats])), (a_t_race_way_deaths, .inl (cZ, 12, .inl t_race_way_deaths_r2))] := hD
  obtain ⟨j0_, g_⟩ := Prod.mk.inj (Option.some.inj h)
  have j1_ := g_
  subst j0_
  subst j1_
  exact W.zret (v := (zb b1)) hx hb hr zz_n (fun t ht hW => ⟨⟨_, (), rfl, rfl, zPost.of hP hD hK ht hW [0, 1, 2, 3] rfl rfl rfl⟩, hS.F ht⟩) hS.2.2 dX10_dead_12
/-! RunDesk.tear -/
theorem dX10_tear_0 : decode cX10_tear 0 = .ok (.aload_n 0, 1) := by decide +kernel
theorem dX10_tear_1 : decode cX10_tear 1 = .ok (.getfield 10, 3) := by decide +kernel
theorem dX10_tear_4 : decode cX10_tear 4 = .ok (.getfield 58, 3) := by decide +kernel
theorem dX10_tear_7 : decode cX10_tear 7 = .ok (.iload_n 2, 1) := by decide +kernel
theorem dX10_tear_8 : decode cX10_tear 8 = .ok (.invokevirtual 118, 3) := by decide +kernel
theorem dX10_tear_11 : decode cX10_tear 11 = .ok (.ifCond .eq 22, 3) := by decide +kernel
theorem dX10_tear_14 : decode cX10_tear 14 = .ok (.aload_n 0, 1) := by decide +kernel
theorem dX10_tear_15 : decode cX10_tear 15 = .ok (.getfield 10, 3) := by decide +kernel
theorem dX10_tear_18 : decode cX10_tear 18 = .ok (.getfield 77, 3) := by decide +kernel
theorem dX10_tear_21 : decode cX10_tear 21 = .ok (.iload_n 1, 1) := by decide +kernel
theorem dX10_tear_22 : decode cX10_tear 22 = .ok (.iload_n 2, 1) := by decide +kernel
theorem dX10_tear_23 : decode cX10_tear 23 = .ok (.invokevirtual 121, 3) := by decide +kernel
theorem dX10_tear_26 : decode cX10_tear 26 = .ok (.ifCond .eq 7, 3) := by decide +kernel
theorem dX10_tear_29 : decode cX10_tear 29 = .ok (.iconst 1, 1) := by decide +kernel
theorem dX10_tear_30 : decode cX10_tear 30 = .ok (.goto 4, 3) := by decide +kernel
theorem dX10_tear_33 : decode cX10_tear 33 = .ok (.iconst 0, 1) := by decide +kernel
theorem dX10_tear_34 : decode cX10_tear 34 = .ok (.ireturn, 1) := by decide +kernel
set_option maxRecDepth 20000 in
theorem ggX10_tear_X9_has : GoodIn wsX10_tear wsX9_has := goodIn_r _ [6, 7, 42, 43, 44, 45, 46] (by decide +kernel) (by decide +kernel)
set_option maxRecDepth 20000 in
theorem gX10_tear_X9_has : GoodIn wsX10_tear (wsV RX10 118 RX9 yX9_has wsX9_has) := goodIn_app (goodIn_of _ (by decide +kernel)) ggX10_tear_X9_has
set_option maxRecDepth 20000 in
theorem ggX10_tear_X6_tearFrom : GoodIn wsX10_tear wsX6_tearFrom := goodIn_r _ [12, 13, 14, 15, 16, 17, 11, 18, 19, 20, 21, 22, 23, 24, 25, 26, 27, 28, 29, 30, 47, 48, 49, 50, 51, 52, 53, 54, 55] (by decide +kernel) (by decide +kernel)
set_option maxRecDepth 20000 in
theorem gX10_tear_X6_tearFrom : GoodIn wsX10_tear (wsV RX10 121 RX6 yX6_tearFrom wsX6_tearFrom) := goodIn_app (goodIn_of _ (by decide +kernel)) ggX10_tear_X6_tearFrom
theorem kX10_tear_0 : (.fieldLink RX10 10 "RunDesk" "race" "LRunDesk$Race;" : Cond) ∈ wsX10_tear := List.mem_of_getElem? (i := 1) (by decide +kernel)
theorem qX10_tear_X10 : ∀ w ∈ wsX100, w ∈ wsX10_tear := fun _ h => List.mem_cons_of_mem _ (List.mem_append_left _ (List.mem_append_left _ (List.mem_append_left _ (List.mem_append_right _ (h)))))
theorem qX10_tear_X4 : ∀ w ∈ wsX40, w ∈ wsX10_tear := fun _ h => List.mem_cons_of_mem _ (List.mem_append_left _ (List.mem_append_left _ (List.mem_append_right _ (h))))
set_option maxHeartbeats 4000000 in
set_option maxRecDepth 100000 in
theorem mX10_tear (l : Launch) (D : va_G) (cB cI cZ : ClassId) (a_t : Nat) (a_t_race : Nat) (a_t_kept : Nat) (a_t_trail : Nat) (a_t_doubts : Nat) (a_t_foretelling : Nat) (a_t_text : Nat) (a_t_listing : Nat) (a_t_race_way : Nat) (a_t_race_guns : Nat) (a_t_race_runners : Nat) (a_t_race_runners_facts : Nat) (a_t_race_runners_splits : Nat) (a_t_race_runners_torn : Nat) (a_t_race_runners_dropped : Nat) (a_t_race_runners_waved : Nat) (a_t_race_runners_struck : Nat) (a_t_race_runners_strikingOrder : Nat) (a_t_race_way_places : Nat) (a_t_race_way_bearings : Nat) (a_t_race_way_cuts : Nat) (a_t_race_way_deaths : Nat) (t_isKept : Int32) (t_race_runners_entered : Int32) (t_race_runners_strikings : Int32) (t_race_runners_splits : Nat → Int32) (t_race_runners_torn : Nat → Int32) (t_race_way_mats : Int32) (sz : Nat) (x1 : Int32) (x2 : Int32) (N : Nat) (b0 : Bool) (t_race_runners_splits' : Nat → Int32) (t_race_runners_torn' : Nat → Int32) (h : fX10_tear N t_race_runners_entered t_race_runners_splits t_race_runners_torn t_race_way_mats x1 x2 = some (b0, t_race_runners_splits', t_race_runners_torn')) : Met l yX10_tear wsX10_tear ({ frames := 4, cells := 0, slots := 0, locals := 88 } : Room) (va_Pc [.ref a_t, .int x1, .int x2] (zPre D (zT cB cI cZ) [(a_t, .inr (10, [.ref a_t_race, .ref a_t_kept, .ref a_t_trail, .ref a_t_doubts, .ref a_t_foretelling, .ref a_t_text, .ref a_t_listing, .int t_isKept])), (a_t_race, .inr (4, [.ref a_t_race_way, .ref a_t_race_guns, .ref a_t_race_runners])), (a_t_race_runners, .inr (6, [.ref a_t_race_runners_facts, .ref a_t_race_runners_splits, .ref a_t_race_runners_torn, .ref a_t_race_runners_dropped, .ref a_t_race_runners_waved, .ref a_t_race_runners_struck, .ref a_t_race_runners_strikingOrder, .int t_race_runners_entered, .int t_race_runners_strikings])), (a_t_race_runners_splits, .inl (cI, 720, .inl t_race_runners_splits)), (a_t_race_runners_torn, .inl (cI, 60, .inl t_race_runners_torn)), (a_t_race_way, .inr (9, [.ref a_t_race_way_places, .ref a_t_race_way_bearings, .ref a_t_race_way_cuts, .ref a_t_race_way_deaths, .int t_race_way_mats]))] sz)) (zQi (zb b0) D (zT cB cI cZ) [(a_t, .inr (10, [.ref a_t_race, .ref a_t_kept, .ref a_t_trail, .ref a_t_doubts, .ref a_t_foretelling, .ref a_t_text, .ref a_t_listing, .int t_isKept])), (a_t_race, .inr (4, [.ref a_t_race_way, .ref a_t_race_guns, .ref a_t_race_runners])), (a_t_race_runners, .inr (6, [.ref a_t_race_runners_facts, .ref a_t_race_runners_splits, .ref a_t_race_runners_torn, .ref a_t_race_runners_dropped, .ref a_t_race_runners_waved, .ref a_t_race_runners_struck, .ref a_t_race_runners_strikingOrder, .int t_race_runners_entered, .int t_race_runners_strikings])), (a_t_race_runners_splits, .inl (cI, 720, .inl t_race_runners_splits')), (a_t_race_runners_torn, .inl (cI, 60, .inl t_race_runners_torn')), (a_t_race_way, .inr (9, [.ref a_t_race_way_places, .ref a_t_race_way_bearings, .ref a_t_race_way_cuts, .ref a_t_race_way_deaths, .int t_race_way_mats]))] (va_A [(a_t, .inr (10, [.ref a_t_race, .ref a_t_kept, .ref a_t_trail, .ref a_t_doubts, .ref a_t_foretelling, .ref a_t_text, .ref a_t_listing, .int t_isKept])), (a_t_race, .inr (4, [.ref a_t_race_way, .ref a_t_race_guns, .ref a_t_race_runners])), (a_t_race_runners, .inr (6, [.ref a_t_race_runners_facts, .ref a_t_race_runners_splits, .ref a_t_race_runners_torn, .ref a_t_race_runners_dropped, .ref a_t_race_runners_waved, .ref a_t_race_runners_struck, .ref a_t_race_runners_strikingOrder, .int t_race_runners_entered, .int t_race_runners_strikings])), (a_t_race_runners_splits, .inl (cI, 720, .inl t_race_runners_splits)), (a_t_race_runners_torn, .inl (cI, 60, .inl t_race_runners_torn)), (a_t_race_way, .inr (9, [.ref a_t_race_way_places, .ref a_t_race_way_bearings, .ref a_t_race_way_cuts, .ref a_t_race_way_deaths, .int t_race_way_mats]))] sz)) 0 0 (va_A [(a_t, .inr (10, [.ref a_t_race, .ref a_t_kept, .ref a_t_trail, .ref a_t_doubts, .ref a_t_foretelling, .ref a_t_text, .ref a_t_listing, .int t_isKept])), (a_t_race, .inr (4, [.ref a_t_race_way, .ref a_t_race_guns, .ref a_t_race_runners])), (a_t_race_runners, .inr (6, [.ref a_t_race_runners_facts, .ref a_t_race_runners_splits, .ref a_t_race_runners_torn, .ref a_t_race_runners_dropped, .ref a_t_race_runners_waved, .ref a_t_race_runners_struck, .ref a_t_race_runners_strikingOrder, .int t_race_runners_entered, .int t_race_runners_strikings])), (a_t_race_runners_splits, .inl (cI, 720, .inl t_race_runners_splits)), (a_t_race_runners_torn, .inl (cI, 60, .inl t_race_runners_torn)), (a_t_race_way, .inr (9, [.ref a_t_race_way_places, .ref a_t_race_way_bearings, .ref a_t_race_way_cuts, .ref a_t_race_way_deaths, .int t_race_way_mats]))] sz) := by
  refine Met.ofW (cc := cX10_tear) (maxL := 3) (ret := (some .boolean)) (by decide) rfl ?_
  intro p e s m args below meth c s₁ B hml hv
  obtain ⟨rfl, hsz, hP, hK, hN, hZ, hD0⟩ := hv
  have hx := B.exec
  have hb := B.bytes
  have hr := B.returns
  have hts := atoms_spec (ws := wsX10_tear) B.pre
  have hown : s.vm.findClass RX10 = some m.cls := findClass_of_methodNamed B.named
  have hlocks := B.notSynchronized
  subst hsz
  have hD := hD0.self (sz := s.heap.size)
  generalize hAe : va_A [(a_t, .inr (10, [.ref a_t_race, .ref a_t_kept, .ref a_t_trail, .ref a_t_doubts, .ref a_t_foretelling, .ref a_t_text, .ref a_t_listing, .int t_isKept])), (a_t_race, .inr (4, [.ref a_t_race_way, .ref a_t_race_guns, .ref a_t_race_runners])), (a_t_race_runners, .inr (6, [.ref a_t_race_runners_facts, .ref a_t_race_runners_splits, .ref a_t_race_runners_torn, .ref a_t_race_runners_dropped, .ref a_t_race_runners_waved, .ref a_t_race_runners_struck, .ref a_t_race_runners_strikingOrder, .int t_race_runners_entered, .int t_race_runners_strikings])), (a_t_race_runners_splits, .inl (cI, 720, .inl t_race_runners_splits)), (a_t_race_runners_torn, .inl (cI, 60, .inl t_race_runners_torn)), (a_t_race_way, .inr (9, [.ref a_t_race_way_places, .ref a_t_race_way_bearings, .ref a_t_race_way_cuts, .ref a_t_race_way_deaths, .int t_race_way_mats]))] s.heap.size = A at hD hZ ⊢
  have hA : ∀ q : Nat, s.heap.size ≤ q → A q := fun q h => by rw [← hAe]; exact Or.inr h
  have hS : va_S A s.heap s.heap [] := va_S.rf
  have hl := lv_entry ([.ref a_t, .int x1, .int x2]) (n := 3) (Nat.le_of_ble_eq_true rfl)
  rw [lg_entry_eq]
  generalize (lg_sl ([.ref a_t, .int x1, .int x2]) ++ List.replicate (3 - (lg_sl ([.ref a_t, .int x1, .int x2])).length) Slot.unset).toArray = ls at hl ⊢
  have hl : lv_has ls 3 [(0, .ref a_t), (1, .int x1), (2, .int x2)] := hl
  unfold fX10_tear at h
  refine lv_aload_n hx hb dX10_tear_0 rfl (lv_at hl 0 rfl) ?_
  refine va_get (D := D) (ci := 10) (C := RX10) (T := TX10) (N := 8) hx hb hts qX10_tear_X10 hown hK hP 0 rfl rfl 0 (by decide) (hts _ kX10_tear_0) (fun _ h9 => h9) rfl dX10_tear_1 ?_
  refine va_getN (host := "RunDesk") (D := D) (ci := 4) (C := RX4) (T := TX4) (N := 3) hx hb hts qX10_tear_X4 hown hK hP 1 rfl rfl 0 (by decide) (va_Nw.use rfl (hN _ (List.mem_of_getElem? (i := 0) rfl))) (fun _ h9 => h9) rfl dX10_tear_4 ?_
  refine lv_iload_n hx hb dX10_tear_7 rfl (lv_at hl 2 rfl) ?_
  obtain ⟨b1, e2, h⟩ := zz_b h
  refine zVi (As := [.int x2]) (rest := []) (C := RX9) (wr := [(a_t, .inr (10, [.ref a_t_race, .ref a_t_kept, .ref a_t_trail, .ref a_t_doubts, .ref a_t_foretelling, .ref a_t_text, .ref a_t_listing, .int t_isKept])), (a_t_race, .inr (4, [.ref a_t_race_way, .ref a_t_race_guns, .ref a_t_race_runners])), (a_t_race_runners, .inr (6, [.ref a_t_race_runners_facts, .ref a_t_race_runners_splits, .ref a_t_race_runners_torn, .ref a_t_race_runners_dropped, .ref a_t_race_runners_waved, .ref a_t_race_runners_struck, .ref a_t_race_runners_strikingOrder, .int t_race_runners_entered, .int t_race_runners_strikings])), (a_t_race_runners_splits, .inl (cI, 720, .inl t_race_runners_splits)), (a_t_race_runners_torn, .inl (cI, 60, .inl t_race_runners_torn))]) [5] [0, 1, 2, 3, 4] 0 ⟨hx, hb, hml, hown, hts⟩ (mX9_has l D cB cI cZ a_t_race_way a_t_race_way_places a_t_race_way_bearings a_t_race_way_cuts a_t_race_way_deaths t_race_way_mats s.heap.size x2 b1 e2) (cwV 1 hts gX10_tear_X9_has rfl rfl rfl (by decide +kernel) ⟨Nat.le_of_ble_eq_true rfl, Nat.le_of_ble_eq_true rfl⟩) hK hN hZ hP hD hS hA rfl rfl rfl rfl rfl rfl rfl rfl hl.1 rfl (lv_room (Nat.le_of_ble_eq_true rfl)) dX10_tear_8 ⟨Nat.le_of_ble_eq_true rfl, Nat.le_of_ble_eq_true rfl⟩ (fun H locs hP hD hS => ?_)
  have hP : va_P D vwCl [(a_t, .inr (10, [.ref a_t_race, .ref a_t_kept, .ref a_t_trail, .ref a_t_doubts, .ref a_t_foretelling, .ref a_t_text, .ref a_t_listing, .int t_isKept])), (a_t_race, .inr (4, [.ref a_t_race_way, .ref a_t_race_guns, .ref a_t_race_runners])), (a_t_race_runners, .inr (6, [.ref a_t_race_runners_facts, .ref a_t_race_runners_splits, .ref a_t_race_runners_torn, .ref a_t_race_runners_dropped, .ref a_t_race_runners_waved, .ref a_t_race_runners_struck, .ref a_t_race_runners_strikingOrder, .int t_race_runners_entered, .int t_race_runners_strikings])), (a_t_race_runners_splits, .inl (cI, 720, .inl t_race_runners_splits)), (a_t_race_runners_torn, .inl (cI, 60, .inl t_race_runners_torn)), (a_t_race_way, .inr (9, [.ref a_t_race_way_places, .ref a_t_race_way_bearings, .ref a_t_race_way_cuts, .ref a_t_race_way_deaths, .int t_race_way_mats]))] H := hP
  have hD : va_D A [(a_t, .inr (10, [.ref a_t_race, .ref a_t_kept, .ref a_t_trail, .ref a_t_doubts, .ref a_t_foretelling, .ref a_t_text, .ref a_t_listing, .int t_isKept])), (a_t_race, .inr (4, [.ref a_t_race_way, .ref a_t_race_guns, .ref a_t_race_runners])), (a_t_race_runners, .inr (6, [.ref a_t_race_runners_facts, .ref a_t_race_runners_splits, .ref a_t_race_runners_torn, .ref a_t_race_runners_dropped, .ref a_t_race_runners_waved, .ref a_t_race_runners_struck, .ref a_t_race_runners_strikingOrder, .int t_race_runners_entered, .int t_race_runners_strikings])), (a_t_race_runners_splits, .inl (cI, 720, .inl t_race_runners_splits)), (a_t_race_runners_torn, .inl (cI, 60, .inl t_race_runners_torn)), (a_t_race_way, .inr (9, [.ref a_t_race_way_places, .ref a_t_race_way_bearings, .ref a_t_race_way_cuts, .ref a_t_race_way_deaths, .int t_race_way_mats]))] := hD
  refine lv_if_eq (tgt := 33) hx hb dX10_tear_11 (by decide) (fun c3 => ?_) (fun c3 => ?_)
  · have h := zz_t h c3
    refine lv_iconst (v := (nI 0)) hx hb dX10_tear_33 rfl ?_
    obtain ⟨j0_, g_⟩ := Prod.mk.inj (Option.some.inj h)
    obtain ⟨j1_, g_⟩ := Prod.mk.inj g_
    have j2_ := g_
    subst j0_
    subst j1_
    subst j2_
    exact W.zret (v := (nI 0)) hx hb hr rfl (fun t ht hW => ⟨⟨_, (), rfl, rfl, zPost.of hP hD hK ht hW [0, 1, 2, 3, 4, 5] rfl rfl rfl⟩, hS.F ht⟩) hS.2.2 dX10_tear_34
  · have h := zz_f h c3
    refine lv_aload_n hx hb dX10_tear_14 rfl (lv_at hl 0 rfl) ?_
    refine va_get (D := D) (ci := 10) (C := RX10) (T := TX10) (N := 8) hx hb hts qX10_tear_X10 hown hK hP 0 rfl rfl 0 (by decide) (hts _ kX10_tear_0) (fun _ h9 => h9) rfl dX10_tear_15 ?_
    refine va_getN (host := "RunDesk") (D := D) (ci := 4) (C := RX4) (T := TX4) (N := 3) hx hb hts qX10_tear_X4 hown hK hP 1 rfl rfl 2 (by decide) (va_Nw.use rfl (hN _ (List.mem_of_getElem? (i := 10) rfl))) (fun _ h9 => h9) rfl dX10_tear_18 ?_
    refine lv_iload_n hx hb dX10_tear_21 rfl (lv_at hl 1 rfl) ?_
    refine lv_iload_n hx hb dX10_tear_22 rfl (lv_at hl 2 rfl) ?_
    obtain ⟨⟨b4, t_race_runners_splits_r5, t_race_runners_torn_r6⟩, e7, h⟩ := zz_b h
    dsimp only at h
    refine zVi (As := [.int x1, .int x2]) (rest := []) (C := RX6) (wr := [(a_t, .inr (10, [.ref a_t_race, .ref a_t_kept, .ref a_t_trail, .ref a_t_doubts, .ref a_t_foretelling, .ref a_t_text, .ref a_t_listing, .int t_isKept])), (a_t_race, .inr (4, [.ref a_t_race_way, .ref a_t_race_guns, .ref a_t_race_runners])), (a_t_race_way, .inr (9, [.ref a_t_race_way_places, .ref a_t_race_way_bearings, .ref a_t_race_way_cuts, .ref a_t_race_way_deaths, .int t_race_way_mats]))]) [2, 3, 4] [0, 1, 5] 0 ⟨hx, hb, hml, hown, hts⟩ (mX6_tearFrom l D cB cI cZ a_t_race_runners a_t_race_runners_facts a_t_race_runners_splits a_t_race_runners_torn a_t_race_runners_dropped a_t_race_runners_waved a_t_race_runners_struck a_t_race_runners_strikingOrder t_race_runners_entered t_race_runners_strikings t_race_runners_splits t_race_runners_torn H.size x1 x2 N b4 t_race_runners_splits_r5 t_race_runners_torn_r6 e7) (cwV 2 hts gX10_tear_X6_tearFrom rfl rfl rfl (by decide +kernel) ⟨Nat.le_of_ble_eq_true rfl, Nat.le_of_ble_eq_true rfl⟩) hK hN hZ hP hD hS hA rfl rfl rfl rfl rfl rfl rfl rfl hl.1 rfl (lv_room (Nat.le_of_ble_eq_true rfl)) dX10_tear_23 ⟨Nat.le_of_ble_eq_true rfl, Nat.le_of_ble_eq_true rfl⟩ (fun H locs hP hD hS => ?_)
    have hP : va_P D vwCl [(a_t, .inr (10, [.ref a_t_race, .ref a_t_kept, .ref a_t_trail, .ref a_t_doubts, .ref a_t_foretelling, .ref a_t_text, .ref a_t_listing, .int t_isKept])), (a_t_race, .inr (4, [.ref a_t_race_way, .ref a_t_race_guns, .ref a_t_race_runners])), (a_t_race_way, .inr (9, [.ref a_t_race_way_places, .ref a_t_race_way_bearings, .ref a_t_race_way_cuts, .ref a_t_race_way_deaths, .int t_race_way_mats])), (a_t_race_runners, .inr (6, [.ref a_t_race_runners_facts, .ref a_t_race_runners_splits, .ref a_t_race_runners_torn, .ref a_t_race_runners_dropped, .ref a_t_race_runners_waved, .ref a_t_race_runners_struck, .ref a_t_race_runners_strikingOrder, .int t_race_runners_entered, .int t_race_runners_strikings])), (a_t_race_runners_splits, .inl (cI, 720, .inl t_race_runners_splits_r5)), (a_t_race_runners_torn, .inl (cI, 60, .inl t_race_runners_torn_r6))] H := hP
    have hD : va_D A [(a_t, .inr (10, [.ref a_t_race, .ref a_t_kept, .ref a_t_trail, .ref a_t_doubts, .ref a_t_foretelling, .ref a_t_text, .ref a_t_listing, .int t_isKept])), (a_t_race, .inr (4, [.ref a_t_race_way, .ref a_t_race_guns, .ref a_t_race_runners])), (a_t_race_way, .inr (9, [.ref a_t_race_way_places, .ref a_t_race_way_bearings, .ref a_t_race_way_cuts, .ref a_t_race_way_deaths, .int t_race_way_mats])), (a_t_race_runners, .inr (6, [.ref a_t_race_runners_facts, .ref a_t_race_runners_splits, .ref a_t_race_runners_torn, .ref a_t_race_runners_dropped, .ref a_t_race_runners_waved, .ref a_t_race_runners_struck, .ref a_t_race_runners_strikingOrder, .int t_race_runners_entered, .int t_race_runners_strikings])), (a_t_race_runners_splits, .inl (cI, 720, .inl t_race_runners_splits_r5)), (a_t_race_runners_torn, .inl (cI, 60, .inl t_race_runners_torn_r6))] := hD
    refine lv_if_eq (tgt := 33) hx hb dX10_tear_26 (by decide) (fun c8 => ?_) (fun c8 => ?_)
    · have h := zz_t h c8
      refine lv_iconst (v := (nI 0)) hx hb dX10_tear_33 rfl ?_
      obtain ⟨j0_, g_⟩ := Prod.mk.inj (Option.some.inj h)
      obtain ⟨j1_, g_⟩ := Prod.mk.inj g_
      have j2_ := g_
      subst j0_
      subst j1_
      subst j2_
      exact W.zret (v := (nI 0)) hx hb hr rfl (fun t ht hW => ⟨⟨_, (), rfl, rfl, zPost.of hP hD hK ht hW [0, 1, 3, 4, 5, 2] rfl rfl rfl⟩, hS.F ht⟩) hS.2.2 dX10_tear_34
    · have h := zz_f h c8
      refine lv_iconst (v := (nI 1)) hx hb dX10_tear_29 rfl ?_
      refine lv_goto (tgt := 34) hx hb dX10_tear_30 (by decide) ?_
      obtain ⟨j0_, g_⟩ := Prod.mk.inj (Option.some.inj h)
      obtain ⟨j1_, g_⟩ := Prod.mk.inj g_
      have j2_ := g_
      subst j0_
      subst j1_
      subst j2_
      exact W.zret (v := (nI 1)) hx hb hr rfl (fun t ht hW => ⟨⟨_, (), rfl, rfl, zPost.of hP hD hK ht hW [0, 1, 3, 4, 5, 2] rfl rfl rfl⟩, hS.F ht⟩) hS.2.2 dX10_tear_34
/-! RunDesk.drop -/
theorem dX10_drop_0 : decode cX10_drop 0 = .ok (.aload_n 0, 1) := by decide +kernel
theorem dX10_drop_1 : decode cX10_drop 1 = .ok (.getfield 10, 3) := by decide +kernel
theorem dX10_drop_4 : decode cX10_drop 4 = .ok (.getfield 77, 3) := by decide +kernel
theorem dX10_drop_7 : decode cX10_drop 7 = .ok (.iload_n 1, 1) := by decide +kernel
theorem dX10_drop_8 : decode cX10_drop 8 = .ok (.iload_n 2, 1) := by decide +kernel
theorem dX10_drop_9 : decode cX10_drop 9 = .ok (.invokevirtual 124, 3) := by decide +kernel
theorem dX10_drop_12 : decode cX10_drop 12 = .ok (.ireturn, 1) := by decide +kernel
set_option maxRecDepth 20000 in
theorem ggX10_drop_X6_setDropped : GoodIn wsX10_drop wsX6_setDropped := goodIn_r _ [6, 7, 8, 9, 10, 5, 11, 12, 24, 25, 26, 27, 28, 29, 30, 31, 32] (by decide +kernel) (by decide +kernel)
set_option maxRecDepth 20000 in
theorem gX10_drop_X6_setDropped : GoodIn wsX10_drop (wsV RX10 124 RX6 yX6_setDropped wsX6_setDropped) := goodIn_app (goodIn_of _ (by decide +kernel)) ggX10_drop_X6_setDropped
theorem kX10_drop_0 : (.fieldLink RX10 10 "RunDesk" "race" "LRunDesk$Race;" : Cond) ∈ wsX10_drop := List.mem_of_getElem? (i := 1) (by decide +kernel)
theorem qX10_drop_X10 : ∀ w ∈ wsX100, w ∈ wsX10_drop := fun _ h => List.mem_cons_of_mem _ (List.mem_append_left _ (List.mem_append_left _ (List.mem_append_right _ (h))))
theorem qX10_drop_X4 : ∀ w ∈ wsX40, w ∈ wsX10_drop := fun _ h => List.mem_cons_of_mem _ (List.mem_append_left _ (List.mem_append_right _ (h)))
set_option maxHeartbeats 4000000 in
set_option maxRecDepth 100000 in
theorem mX10_drop (l : Launch) (D : va_G) (cB cI cZ : ClassId) (a_t : Nat) (a_t_race : Nat) (a_t_kept : Nat) (a_t_trail : Nat) (a_t_doubts : Nat) (a_t_foretelling : Nat) (a_t_text : Nat) (a_t_listing : Nat) (a_t_race_way : Nat) (a_t_race_guns : Nat) (a_t_race_runners : Nat) (a_t_race_runners_facts : Nat) (a_t_race_runners_splits : Nat) (a_t_race_runners_torn : Nat) (a_t_race_runners_dropped : Nat) (a_t_race_runners_waved : Nat) (a_t_race_runners_struck : Nat) (a_t_race_runners_strikingOrder : Nat) (t_isKept : Int32) (t_race_runners_entered : Int32) (t_race_runners_strikings : Int32) (t_race_runners_dropped : Nat → Int32) (sz : Nat) (x1 : Int32) (x2 : Int32) (b0 : Bool) (t_race_runners_dropped' : Nat → Int32) (h : fX10_drop t_race_runners_entered t_race_runners_dropped x1 x2 = some (b0, t_race_runners_dropped')) : Met l yX10_drop wsX10_drop ({ frames := 2, cells := 0, slots := 0, locals := 43 } : Room) (va_Pc [.ref a_t, .int x1, .int x2] (zPre D (zT cB cI cZ) [(a_t, .inr (10, [.ref a_t_race, .ref a_t_kept, .ref a_t_trail, .ref a_t_doubts, .ref a_t_foretelling, .ref a_t_text, .ref a_t_listing, .int t_isKept])), (a_t_race, .inr (4, [.ref a_t_race_way, .ref a_t_race_guns, .ref a_t_race_runners])), (a_t_race_runners, .inr (6, [.ref a_t_race_runners_facts, .ref a_t_race_runners_splits, .ref a_t_race_runners_torn, .ref a_t_race_runners_dropped, .ref a_t_race_runners_waved, .ref a_t_race_runners_struck, .ref a_t_race_runners_strikingOrder, .int t_race_runners_entered, .int t_race_runners_strikings])), (a_t_race_runners_dropped, .inl (cZ, 60, .inl t_race_runners_dropped))] sz)) (zQi (zb b0) D (zT cB cI cZ) [(a_t, .inr (10, [.ref a_t_race, .ref a_t_kept, .ref a_t_trail, .ref a_t_doubts, .ref a_t_foretelling, .ref a_t_text, .ref a_t_listing, .int t_isKept])), (a_t_race, .inr (4, [.ref a_t_race_way, .ref a_t_race_guns, .ref a_t_race_runners])), (a_t_race_runners, .inr (6, [.ref a_t_race_runners_facts, .ref a_t_race_runners_splits, .ref a_t_race_runners_torn, .ref a_t_race_runners_dropped, .ref a_t_race_runners_waved, .ref a_t_race_runners_struck, .ref a_t_race_runners_strikingOrder, .int t_race_runners_entered, .int t_race_runners_strikings])), (a_t_race_runners_dropped, .inl (cZ, 60, .inl t_race_runners_dropped'))] (va_A [(a_t, .inr (10, [.ref a_t_race, .ref a_t_kept, .ref a_t_trail, .ref a_t_doubts, .ref a_t_foretelling, .ref a_t_text, .ref a_t_listing, .int t_isKept])), (a_t_race, .inr (4, [.ref a_t_race_way, .ref a_t_race_guns, .ref a_t_race_runners])), (a_t_race_runners, .inr (6, [.ref a_t_race_runners_facts, .ref a_t_race_runners_splits, .ref a_t_race_runners_torn, .ref a_t_race_runners_dropped, .ref a_t_race_runners_waved, .ref a_t_race_runners_struck, .ref a_t_race_runners_strikingOrder, .int t_race_runners_entered, .int t_race_runners_strikings])), (a_t_race_runners_dropped, .inl (cZ, 60, .inl t_race_runners_dropped))] sz)) 0 0 (va_A [(a_t, .inr (10, [.ref a_t_race, .ref a_t_kept, .ref a_t_trail, .ref a_t_doubts, .ref a_t_foretelling, .ref a_t_text, .ref a_t_listing, .int t_isKept])), (a_t_race, .inr (4, [.ref a_t_race_way, .ref a_t_race_guns, .ref a_t_race_runners])), (a_t_race_runners, .inr (6, [.ref a_t_race_runners_facts, .ref a_t_race_runners_splits, .ref a_t_race_runners_torn, .ref a_t_race_runners_dropped, .ref a_t_race_runners_waved, .ref a_t_race_runners_struck, .ref a_t_race_runners_strikingOrder, .int t_race_runners_entered, .int t_race_runners_strikings])), (a_t_race_runners_dropped, .inl (cZ, 60, .inl t_race_runners_dropped))] sz) := by
  refine Met.ofW (cc := cX10_drop) (maxL := 3) (ret := (some .boolean)) (by decide) rfl ?_
  intro p e s m args below meth c s₁ B hml hv
  obtain ⟨rfl, hsz, hP, hK, hN, hZ, hD0⟩ := hv
  have hx := B.exec
  have hb := B.bytes
  have hr := B.returns
  have hts := atoms_spec (ws := wsX10_drop) B.pre
  have hown : s.vm.findClass RX10 = some m.cls := findClass_of_methodNamed B.named
  have hlocks := B.notSynchronized
  subst hsz
  have hD := hD0.self (sz := s.heap.size)
  generalize hAe : va_A [(a_t, .inr (10, [.ref a_t_race, .ref a_t_kept, .ref a_t_trail, .ref a_t_doubts, .ref a_t_foretelling, .ref a_t_text, .ref a_t_listing, .int t_isKept])), (a_t_race, .inr (4, [.ref a_t_race_way, .ref a_t_race_guns, .ref a_t_race_runners])), (a_t_race_runners, .inr (6, [.ref a_t_race_runners_facts, .ref a_t_race_runners_splits, .ref a_t_race_runners_torn, .ref a_t_race_runners_dropped, .ref a_t_race_runners_waved, .ref a_t_race_runners_struck, .ref a_t_race_runners_strikingOrder, .int t_race_runners_entered, .int t_race_runners_strikings])), (a_t_race_runners_dropped, .inl (cZ, 60, .inl t_race_runners_dropped))] s.heap.size = A at hD hZ ⊢
  have hA : ∀ q : Nat, s.heap.size ≤ q → A q := fun q h => by rw [← hAe]; exact Or.inr h
  have hS : va_S A s.heap s.heap [] := va_S.rf
  have hl := lv_entry ([.ref a_t, .int x1, .int x2]) (n := 3) (Nat.le_of_ble_eq_true rfl)
  rw [lg_entry_eq]
  generalize (lg_sl ([.ref a_t, .int x1, .int x2]) ++ List.replicate (3 - (lg_sl ([.ref a_t, .int x1, .int x2])).length) Slot.unset).toArray = ls at hl ⊢
  have hl : lv_has ls 3 [(0, .ref a_t), (1, .int x1), (2, .int x2)] := hl
  unfold fX10_drop at h
  refine lv_aload_n hx hb dX10_drop_0 rfl (lv_at hl 0 rfl) ?_
  refine va_get (D := D) (ci := 10) (C := RX10) (T := TX10) (N := 8) hx hb hts qX10_drop_X10 hown hK hP 0 rfl rfl 0 (by decide) (hts _ kX10_drop_0) (fun _ h9 => h9) rfl dX10_drop_1 ?_
  refine va_getN (host := "RunDesk") (D := D) (ci := 4) (C := RX4) (T := TX4) (N := 3) hx hb hts qX10_drop_X4 hown hK hP 1 rfl rfl 2 (by decide) (va_Nw.use rfl (hN _ (List.mem_of_getElem? (i := 10) rfl))) (fun _ h9 => h9) rfl dX10_drop_4 ?_
  refine lv_iload_n hx hb dX10_drop_7 rfl (lv_at hl 1 rfl) ?_
  refine lv_iload_n hx hb dX10_drop_8 rfl (lv_at hl 2 rfl) ?_
  obtain ⟨⟨b1, t_race_runners_dropped_r2⟩, e3, h⟩ := zz_b h
  dsimp only at h
  refine zVi (As := [.int x1, .int x2]) (rest := []) (C := RX6) (wr := [(a_t, .inr (10, [.ref a_t_race, .ref a_t_kept, .ref a_t_trail, .ref a_t_doubts, .ref a_t_foretelling, .ref a_t_text, .ref a_t_listing, .int t_isKept])), (a_t_race, .inr (4, [.ref a_t_race_way, .ref a_t_race_guns, .ref a_t_race_runners]))]) [2, 3] [0, 1] 0 ⟨hx, hb, hml, hown, hts⟩ (mX6_setDropped l D cB cI cZ a_t_race_runners a_t_race_runners_facts a_t_race_runners_splits a_t_race_runners_torn a_t_race_runners_dropped a_t_race_runners_waved a_t_race_runners_struck a_t_race_runners_strikingOrder t_race_runners_entered t_race_runners_strikings t_race_runners_dropped s.heap.size x1 x2 b1 t_race_runners_dropped_r2 e3) (cwV 2 hts gX10_drop_X6_setDropped rfl rfl rfl (by decide +kernel) ⟨Nat.le_of_ble_eq_true rfl, Nat.le_of_ble_eq_true rfl⟩) hK hN hZ hP hD hS hA rfl rfl rfl rfl rfl rfl rfl rfl hl.1 rfl (lv_room (Nat.le_of_ble_eq_true rfl)) dX10_drop_9 ⟨Nat.le_of_ble_eq_true rfl, Nat.le_of_ble_eq_true rfl⟩ (fun H locs hP hD hS => ?_)
  have hP : va_P D vwCl [(a_t, .inr (10, [.ref a_t_race, .ref a_t_kept, .ref a_t_trail, .ref a_t_doubts, .ref a_t_foretelling, .ref a_t_text, .ref a_t_listing, .int t_isKept])), (a_t_race, .inr (4, [.ref a_t_race_way, .ref a_t_race_guns, .ref a_t_race_runners])), (a_t_race_runners, .inr (6, [.ref a_t_race_runners_facts, .ref a_t_race_runners_splits, .ref a_t_race_runners_torn, .ref a_t_race_runners_dropped, .ref a_t_race_runners_waved, .ref a_t_race_runners_struck, .ref a_t_race_runners_strikingOrder, .int t_race_runners_entered, .int t_race_runners_strikings])), (a_t_race_runners_dropped, .inl (cZ, 60, .inl t_race_runners_dropped_r2))] H := hP
  have hD : va_D A [(a_t, .inr (10, [.ref a_t_race, .ref a_t_kept, .ref a_t_trail, .ref a_t_doubts, .ref a_t_foretelling, .ref a_t_text, .ref a_t_listing, .int t_isKept])), (a_t_race, .inr (4, [.ref a_t_race_way, .ref a_t_race_guns, .ref a_t_race_runners])), (a_t_race_runners, .inr (6, [.ref a_t_race_runners_facts, .ref a_t_race_runners_splits, .ref a_t_race_runners_torn, .ref a_t_race_runners_dropped, .ref a_t_race_runners_waved, .ref a_t_race_runners_struck, .ref a_t_race_runners_strikingOrder, .int t_race_runners_entered, .int t_race_runners_strikings])), (a_t_race_runners_dropped, .inl (cZ, 60, .inl t_race_runners_dropped_r2))] := hD
  obtain ⟨j0_, g_⟩ := Prod.mk.inj (Option.some.inj h)
  have j1_ := g_
  subst j0_
  subst j1_
  exact W.zret (v := (zb b1)) hx hb hr zz_n (fun t ht hW => ⟨⟨_, (), rfl, rfl, zPost.of hP hD hK ht hW [0, 1, 2, 3] rfl rfl rfl⟩, hS.F ht⟩) hS.2.2 dX10_drop_12
/-! RunDesk.cut -/
theorem dX10_cut_0 : decode cX10_cut 0 = .ok (.iload_n 2, 1) := by decide +kernel
theorem dX10_cut_1 : decode cX10_cut 1 = .ok (.invokestatic 87, 3) := by decide +kernel
theorem dX10_cut_4 : decode cX10_cut 4 = .ok (.ifCond .eq 22, 3) := by decide +kernel
theorem dX10_cut_7 : decode cX10_cut 7 = .ok (.aload_n 0, 1) := by decide +kernel
theorem dX10_cut_8 : decode cX10_cut 8 = .ok (.getfield 10, 3) := by decide +kernel
theorem dX10_cut_11 : decode cX10_cut 11 = .ok (.getfield 58, 3) := by decide +kernel
theorem dX10_cut_14 : decode cX10_cut 14 = .ok (.iload_n 1, 1) := by decide +kernel
theorem dX10_cut_15 : decode cX10_cut 15 = .ok (.iload_n 2, 1) := by decide +kernel
theorem dX10_cut_16 : decode cX10_cut 16 = .ok (.invokevirtual 127, 3) := by decide +kernel
theorem dX10_cut_19 : decode cX10_cut 19 = .ok (.ifCond .eq 7, 3) := by decide +kernel
theorem dX10_cut_22 : decode cX10_cut 22 = .ok (.iconst 1, 1) := by decide +kernel
theorem dX10_cut_23 : decode cX10_cut 23 = .ok (.goto 4, 3) := by decide +kernel
theorem dX10_cut_26 : decode cX10_cut 26 = .ok (.iconst 0, 1) := by decide +kernel
theorem dX10_cut_27 : decode cX10_cut 27 = .ok (.ireturn, 1) := by decide +kernel
set_option maxRecDepth 20000 in
theorem ggX10_cut_X10_isTickOrNone : GoodIn wsX10_cut wsX10_isTickOrNone := goodIn_r _ [5, 6, 7, 8, 4, 9] (by decide +kernel) (by decide +kernel)
set_option maxRecDepth 20000 in
theorem gX10_cut_X10_isTickOrNone : GoodIn wsX10_cut (va_wsS RX10 87 yX10_isTickOrNone wsX10_isTickOrNone) := goodIn_app (goodIn_of _ (by decide +kernel)) ggX10_cut_X10_isTickOrNone
set_option maxRecDepth 20000 in
theorem ggX10_cut_X9_setCut : GoodIn wsX10_cut wsX9_setCut := goodIn_r _ [14, 15, 16, 17, 18, 13, 19, 20, 32, 33, 34, 35, 36] (by decide +kernel) (by decide +kernel)
set_option maxRecDepth 20000 in
theorem gX10_cut_X9_setCut : GoodIn wsX10_cut (wsV RX10 127 RX9 yX9_setCut wsX9_setCut) := goodIn_app (goodIn_of _ (by decide +kernel)) ggX10_cut_X9_setCut
theorem kX10_cut_0 : (.fieldLink RX10 10 "RunDesk" "race" "LRunDesk$Race;" : Cond) ∈ wsX10_cut := List.mem_of_getElem? (i := 1) (by decide +kernel)
theorem qX10_cut_X10 : ∀ w ∈ wsX100, w ∈ wsX10_cut := fun _ h => List.mem_cons_of_mem _ (List.mem_append_left _ (List.mem_append_left _ (List.mem_append_right _ (h))))
theorem qX10_cut_X4 : ∀ w ∈ wsX40, w ∈ wsX10_cut := fun _ h => List.mem_cons_of_mem _ (List.mem_append_left _ (List.mem_append_right _ (h)))
set_option maxHeartbeats 4000000 in
set_option maxRecDepth 100000 in
theorem mX10_cut (l : Launch) (D : va_G) (cB cI cZ : ClassId) (a_t : Nat) (a_t_race : Nat) (a_t_kept : Nat) (a_t_trail : Nat) (a_t_doubts : Nat) (a_t_foretelling : Nat) (a_t_text : Nat) (a_t_listing : Nat) (a_t_race_way : Nat) (a_t_race_guns : Nat) (a_t_race_runners : Nat) (a_t_race_way_places : Nat) (a_t_race_way_bearings : Nat) (a_t_race_way_cuts : Nat) (a_t_race_way_deaths : Nat) (t_isKept : Int32) (t_race_way_mats : Int32) (t_race_way_cuts : Nat → Int32) (sz : Nat) (x1 : Int32) (x2 : Int32) (b0 : Bool) (t_race_way_cuts' : Nat → Int32) (h : fX10_cut t_race_way_mats t_race_way_cuts x1 x2 = some (b0, t_race_way_cuts')) : Met l yX10_cut wsX10_cut ({ frames := 2, cells := 0, slots := 0, locals := 43 } : Room) (va_Pc [.ref a_t, .int x1, .int x2] (zPre D (zT cB cI cZ) [(a_t, .inr (10, [.ref a_t_race, .ref a_t_kept, .ref a_t_trail, .ref a_t_doubts, .ref a_t_foretelling, .ref a_t_text, .ref a_t_listing, .int t_isKept])), (a_t_race, .inr (4, [.ref a_t_race_way, .ref a_t_race_guns, .ref a_t_race_runners])), (a_t_race_way, .inr (9, [.ref a_t_race_way_places, .ref a_t_race_way_bearings, .ref a_t_race_way_cuts, .ref a_t_race_way_deaths, .int t_race_way_mats])), (a_t_race_way_cuts, .inl (cI, 12, .inl t_race_way_cuts))] sz)) (zQi (zb b0) D (zT cB cI cZ) [(a_t, .inr (10, [.ref a_t_race, .ref a_t_kept, .ref a_t_trail, .ref a_t_doubts, .ref a_t_foretelling, .ref a_t_text, .ref a_t_listing, .int t_isKept])), (a_t_race, .inr (4, [.ref a_t_race_way, .ref a_t_race_guns, .ref a_t_race_runners])), (a_t_race_way, .inr (9, [.ref a_t_race_way_places, .ref a_t_race_way_bearings, .ref a_t_race_way_cuts, .ref a_t_race_way_deaths, .int t_race_way_mats])), (a_t_race_way_cuts, .inl (cI, 12, .inl t_race_way_cuts'))] (va_A [(a_t, .inr (10, [.ref a_t_race, .ref a_t_kept, .ref a_t_trail, .ref a_t_doubts, .ref a_t_foretelling, .ref a_t_text, .ref a_t_listing, .int t_isKept])), (a_t_race, .inr (4, [.ref a_t_race_way, .ref a_t_race_guns, .ref a_t_race_runners])), (a_t_race_way, .inr (9, [.ref a_t_race_way_places, .ref a_t_race_way_bearings, .ref a_t_race_way_cuts, .ref a_t_race_way_deaths, .int t_race_way_mats])), (a_t_race_way_cuts, .inl (cI, 12, .inl t_race_way_cuts))] sz)) 0 0 (va_A [(a_t, .inr (10, [.ref a_t_race, .ref a_t_kept, .ref a_t_trail, .ref a_t_doubts, .ref a_t_foretelling, .ref a_t_text, .ref a_t_listing, .int t_isKept])), (a_t_race, .inr (4, [.ref a_t_race_way, .ref a_t_race_guns, .ref a_t_race_runners])), (a_t_race_way, .inr (9, [.ref a_t_race_way_places, .ref a_t_race_way_bearings, .ref a_t_race_way_cuts, .ref a_t_race_way_deaths, .int t_race_way_mats])), (a_t_race_way_cuts, .inl (cI, 12, .inl t_race_way_cuts))] sz) := by
  refine Met.ofW (cc := cX10_cut) (maxL := 3) (ret := (some .boolean)) (by decide) rfl ?_
  intro p e s m args below meth c s₁ B hml hv
  obtain ⟨rfl, hsz, hP, hK, hN, hZ, hD0⟩ := hv
  have hx := B.exec
  have hb := B.bytes
  have hr := B.returns
  have hts := atoms_spec (ws := wsX10_cut) B.pre
  have hown : s.vm.findClass RX10 = some m.cls := findClass_of_methodNamed B.named
  have hlocks := B.notSynchronized
  subst hsz
  have hD := hD0.self (sz := s.heap.size)
  generalize hAe : va_A [(a_t, .inr (10, [.ref a_t_race, .ref a_t_kept, .ref a_t_trail, .ref a_t_doubts, .ref a_t_foretelling, .ref a_t_text, .ref a_t_listing, .int t_isKept])), (a_t_race, .inr (4, [.ref a_t_race_way, .ref a_t_race_guns, .ref a_t_race_runners])), (a_t_race_way, .inr (9, [.ref a_t_race_way_places, .ref a_t_race_way_bearings, .ref a_t_race_way_cuts, .ref a_t_race_way_deaths, .int t_race_way_mats])), (a_t_race_way_cuts, .inl (cI, 12, .inl t_race_way_cuts))] s.heap.size = A at hD hZ ⊢
  have hA : ∀ q : Nat, s.heap.size ≤ q → A q := fun q h => by rw [← hAe]; exact Or.inr h
  have hS : va_S A s.heap s.heap [] := va_S.rf
  have hl := lv_entry ([.ref a_t, .int x1, .int x2]) (n := 3) (Nat.le_of_ble_eq_true rfl)
  rw [lg_entry_eq]
  generalize (lg_sl ([.ref a_t, .int x1, .int x2]) ++ List.replicate (3 - (lg_sl ([.ref a_t, .int x1, .int x2])).length) Slot.unset).toArray = ls at hl ⊢
  have hl : lv_has ls 3 [(0, .ref a_t), (1, .int x1), (2, .int x2)] := hl
  unfold fX10_cut at h
  refine lv_iload_n hx hb dX10_cut_0 rfl (lv_at hl 2 rfl) ?_
  obtain ⟨b1, e2, h⟩ := zz_b h
  refine zSi (As := [.int x2]) (rest := []) (wr := [(a_t, .inr (10, [.ref a_t_race, .ref a_t_kept, .ref a_t_trail, .ref a_t_doubts, .ref a_t_foretelling, .ref a_t_text, .ref a_t_listing, .int t_isKept])), (a_t_race, .inr (4, [.ref a_t_race_way, .ref a_t_race_guns, .ref a_t_race_runners])), (a_t_race_way, .inr (9, [.ref a_t_race_way_places, .ref a_t_race_way_bearings, .ref a_t_race_way_cuts, .ref a_t_race_way_deaths, .int t_race_way_mats])), (a_t_race_way_cuts, .inl (cI, 12, .inl t_race_way_cuts))]) [] [0, 1, 2, 3] ⟨hx, hb, hml, hown, hts⟩ (mX10_isTickOrNone l D cB cI cZ s.heap.size x2 b1 e2) (va_cwS 1 hts gX10_cut_X10_isTickOrNone rfl rfl rfl (by decide +kernel) ⟨Nat.le_of_ble_eq_true rfl, Nat.le_of_ble_eq_true rfl⟩) hK hN hZ hP hD hS hA rfl rfl rfl rfl rfl rfl hl.1 rfl (lv_room (Nat.le_of_ble_eq_true rfl)) dX10_cut_1 ⟨Nat.le_of_ble_eq_true rfl, Nat.le_of_ble_eq_true rfl⟩ (fun H locs hP hD hS => ?_)
  have hP : va_P D vwCl [(a_t, .inr (10, [.ref a_t_race, .ref a_t_kept, .ref a_t_trail, .ref a_t_doubts, .ref a_t_foretelling, .ref a_t_text, .ref a_t_listing, .int t_isKept])), (a_t_race, .inr (4, [.ref a_t_race_way, .ref a_t_race_guns, .ref a_t_race_runners])), (a_t_race_way, .inr (9, [.ref a_t_race_way_places, .ref a_t_race_way_bearings, .ref a_t_race_way_cuts, .ref a_t_race_way_deaths, .int t_race_way_mats])), (a_t_race_way_cuts, .inl (cI, 12, .inl t_race_way_cuts))] H := hP
  have hD : va_D A [(a_t, .inr (10, [.ref a_t_race, .ref a_t_kept, .ref a_t_trail, .ref a_t_doubts, .ref a_t_foretelling, .ref a_t_text, .ref a_t_listing, .int t_isKept])), (a_t_race, .inr (4, [.ref a_t_race_way, .ref a_t_race_guns, .ref a_t_race_runners])), (a_t_race_way, .inr (9, [.ref a_t_race_way_places, .ref a_t_race_way_bearings, .ref a_t_race_way_cuts, .ref a_t_race_way_deaths, .int t_race_way_mats])), (a_t_race_way_cuts, .inl (cI, 12, .inl t_race_way_cuts))] := hD
  refine lv_if_eq (tgt := 26) hx hb dX10_cut_4 (by decide) (fun c3 => ?_) (fun c3 => ?_)
  · have h := zz_t h c3
    refine lv_iconst (v := (nI 0)) hx hb dX10_cut_26 rfl ?_
    obtain ⟨j0_, g_⟩ := Prod.mk.inj (Option.some.inj h)
    have j1_ := g_
    subst j0_
    subst j1_
    exact W.zret (v := (nI 0)) hx hb hr rfl (fun t ht hW => ⟨⟨_, (), rfl, rfl, zPost.of hP hD hK ht hW [0, 1, 2, 3] rfl rfl rfl⟩, hS.F ht⟩) hS.2.2 dX10_cut_27
  · have h := zz_f h c3
    refine lv_aload_n hx hb dX10_cut_7 rfl (lv_at hl 0 rfl) ?_
    refine va_get (D := D) (ci := 10) (C := RX10) (T := TX10) (N := 8) hx hb hts qX10_cut_X10 hown hK hP 0 rfl rfl 0 (by decide) (hts _ kX10_cut_0) (fun _ h9 => h9) rfl dX10_cut_8 ?_
    refine va_getN (host := "RunDesk") (D := D) (ci := 4) (C := RX4) (T := TX4) (N := 3) hx hb hts qX10_cut_X4 hown hK hP 1 rfl rfl 0 (by decide) (va_Nw.use rfl (hN _ (List.mem_of_getElem? (i := 0) rfl))) (fun _ h9 => h9) rfl dX10_cut_11 ?_
    refine lv_iload_n hx hb dX10_cut_14 rfl (lv_at hl 1 rfl) ?_
    refine lv_iload_n hx hb dX10_cut_15 rfl (lv_at hl 2 rfl) ?_
    obtain ⟨⟨b4, t_race_way_cuts_r5⟩, e6, h⟩ := zz_b h
    dsimp only at h
    refine zVi (As := [.int x1, .int x2]) (rest := []) (C := RX9) (wr := [(a_t, .inr (10, [.ref a_t_race, .ref a_t_kept, .ref a_t_trail, .ref a_t_doubts, .ref a_t_foretelling, .ref a_t_text, .ref a_t_listing, .int t_isKept])), (a_t_race, .inr (4, [.ref a_t_race_way, .ref a_t_race_guns, .ref a_t_race_runners]))]) [2, 3] [0, 1] 0 ⟨hx, hb, hml, hown, hts⟩ (mX9_setCut l D cB cI cZ a_t_race_way a_t_race_way_places a_t_race_way_bearings a_t_race_way_cuts a_t_race_way_deaths t_race_way_mats t_race_way_cuts H.size x1 x2 b4 t_race_way_cuts_r5 e6) (cwV 2 hts gX10_cut_X9_setCut rfl rfl rfl (by decide +kernel) ⟨Nat.le_of_ble_eq_true rfl, Nat.le_of_ble_eq_true rfl⟩) hK hN hZ hP hD hS hA rfl rfl rfl rfl rfl rfl rfl rfl hl.1 rfl (lv_room (Nat.le_of_ble_eq_true rfl)) dX10_cut_16 ⟨Nat.le_of_ble_eq_true rfl, Nat.le_of_ble_eq_true rfl⟩ (fun H locs hP hD hS => ?_)
    have hP : va_P D vwCl [(a_t, .inr (10, [.ref a_t_race, .ref a_t_kept, .ref a_t_trail, .ref a_t_doubts, .ref a_t_foretelling, .ref a_t_text, .ref a_t_listing, .int t_isKept])), (a_t_race, .inr (4, [.ref a_t_race_way, .ref a_t_race_guns, .ref a_t_race_runners])), (a_t_race_way, .inr (9, [.ref a_t_race_way_places, .ref a_t_race_way_bearings, .ref a_t_race_way_cuts, .ref a_t_race_way_deaths, .int t_race_way_mats])), (a_t_race_way_cuts, .inl (cI, 12, .inl t_race_way_cuts_r5))] H := hP
    have hD : va_D A [(a_t, .inr (10, [.ref a_t_race, .ref a_t_kept, .ref a_t_trail, .ref a_t_doubts, .ref a_t_foretelling, .ref a_t_text, .ref a_t_listing, .int t_isKept])), (a_t_race, .inr (4, [.ref a_t_race_way, .ref a_t_race_guns, .ref a_t_race_runners])), (a_t_race_way, .inr (9, [.ref a_t_race_way_places, .ref a_t_race_way_bearings, .ref a_t_race_way_cuts, .ref a_t_race_way_deaths, .int t_race_way_mats])), (a_t_race_way_cuts, .inl (cI, 12, .inl t_race_way_cuts_r5))] := hD
    refine lv_if_eq (tgt := 26) hx hb dX10_cut_19 (by decide) (fun c7 => ?_) (fun c7 => ?_)
    · have h := zz_t h c7
      refine lv_iconst (v := (nI 0)) hx hb dX10_cut_26 rfl ?_
      obtain ⟨j0_, g_⟩ := Prod.mk.inj (Option.some.inj h)
      have j1_ := g_
      subst j0_
      subst j1_
      exact W.zret (v := (nI 0)) hx hb hr rfl (fun t ht hW => ⟨⟨_, (), rfl, rfl, zPost.of hP hD hK ht hW [0, 1, 2, 3] rfl rfl rfl⟩, hS.F ht⟩) hS.2.2 dX10_cut_27
    · have h := zz_f h c7
      refine lv_iconst (v := (nI 1)) hx hb dX10_cut_22 rfl ?_
      refine lv_goto (tgt := 27) hx hb dX10_cut_23 (by decide) ?_
      obtain ⟨j0_, g_⟩ := Prod.mk.inj (Option.some.inj h)
      have j1_ := g_
      subst j0_
      subst j1_
      exact W.zret (v := (nI 1)) hx hb hr rfl (fun t ht hW => ⟨⟨_, (), rfl, rfl, zPost.of hP hD hK ht hW [0, 1, 2, 3] rfl rfl rfl⟩, hS.F ht⟩) hS.2.2 dX10_cut_27
/-! RunDesk.wave -/
theorem dX10_wave_0 : decode cX10_wave 0 = .ok (.aload_n 0, 1) := by decide +kernel
theorem dX10_wave_1 : decode cX10_wave 1 = .ok (.getfield 10, 3) := by decide +kernel
theorem dX10_wave_4 : decode cX10_wave 4 = .ok (.getfield 77, 3) := by decide +kernel
theorem dX10_wave_7 : decode cX10_wave 7 = .ok (.iload_n 1, 1) := by decide +kernel
theorem dX10_wave_8 : decode cX10_wave 8 = .ok (.iload_n 2, 1) := by decide +kernel
theorem dX10_wave_9 : decode cX10_wave 9 = .ok (.invokevirtual 130, 3) := by decide +kernel
theorem dX10_wave_12 : decode cX10_wave 12 = .ok (.ireturn, 1) := by decide +kernel
set_option maxRecDepth 20000 in
theorem ggX10_wave_X6_setWaved : GoodIn wsX10_wave wsX6_setWaved := goodIn_r _ [6, 7, 8, 9, 10, 5, 11, 12, 24, 25, 26, 27, 28, 29, 30, 31, 32] (by decide +kernel) (by decide +kernel)
set_option maxRecDepth 20000 in
theorem gX10_wave_X6_setWaved : GoodIn wsX10_wave (wsV RX10 130 RX6 yX6_setWaved wsX6_setWaved) := goodIn_app (goodIn_of _ (by decide +kernel)) ggX10_wave_X6_setWaved
theorem kX10_wave_0 : (.fieldLink RX10 10 "RunDesk" "race" "LRunDesk$Race;" : Cond) ∈ wsX10_wave := List.mem_of_getElem? (i := 1) (by decide +kernel)
theorem qX10_wave_X10 : ∀ w ∈ wsX100, w ∈ wsX10_wave := fun _ h => List.mem_cons_of_mem _ (List.mem_append_left _ (List.mem_append_left _ (List.mem_append_right _ (h))))
theorem qX10_wave_X4 : ∀ w ∈ wsX40, w ∈ wsX10_wave := fun _ h => List.mem_cons_of_mem _ (List.mem_append_left _ (List.mem_append_right _ (h)))
set_option maxHeartbeats 4000000 in
set_option maxRecDepth 100000 in
theorem mX10_wave (l : Launch) (D : va_G) (cB cI cZ : ClassId) (a_t : Nat) (a_t_race : Nat) (a_t_kept : Nat) (a_t_trail : Nat) (a_t_doubts : Nat) (a_t_foretelling : Nat) (a_t_text : Nat) (a_t_listing : Nat) (a_t_race_way : Nat) (a_t_race_guns : Nat) (a_t_race_runners : Nat) (a_t_race_runners_facts : Nat) (a_t_race_runners_splits : Nat) (a_t_race_runners_torn : Nat) (a_t_race_runners_dropped : Nat) (a_t_race_runners_waved : Nat) (a_t_race_runners_struck : Nat) (a_t_race_runners_strikingOrder : Nat) (t_isKept : Int32) (t_race_runners_entered : Int32) (t_race_runners_strikings : Int32) (t_race_runners_waved : Nat → Int32) (sz : Nat) (x1 : Int32) (x2 : Int32) (b0 : Bool) (t_race_runners_waved' : Nat → Int32) (h : fX10_wave t_race_runners_entered t_race_runners_waved x1 x2 = some (b0, t_race_runners_waved')) : Met l yX10_wave wsX10_wave ({ frames := 2, cells := 0, slots := 0, locals := 43 } : Room) (va_Pc [.ref a_t, .int x1, .int x2] (zPre D (zT cB cI cZ) [(a_t, .inr (10, [.ref a_t_race, .ref a_t_kept, .ref a_t_trail, .ref a_t_doubts, .ref a_t_foretelling, .ref a_t_text, .ref a_t_listing, .int t_isKept])), (a_t_race, .inr (4, [.ref a_t_race_way, .ref a_t_race_guns, .ref a_t_race_runners])), (a_t_race_runners, .inr (6, [.ref a_t_race_runners_facts, .ref a_t_race_runners_splits, .ref a_t_race_runners_torn, .ref a_t_race_runners_dropped, .ref a_t_race_runners_waved, .ref a_t_race_runners_struck, .ref a_t_race_runners_strikingOrder, .int t_race_runners_entered, .int t_race_runners_strikings])), (a_t_race_runners_waved, .inl (cZ, 60, .inl t_race_runners_waved))] sz)) (zQi (zb b0) D (zT cB cI cZ) [(a_t, .inr (10, [.ref a_t_race, .ref a_t_kept, .ref a_t_trail, .ref a_t_doubts, .ref a_t_foretelling, .ref a_t_text, .ref a_t_listing, .int t_isKept])), (a_t_race, .inr (4, [.ref a_t_race_way, .ref a_t_race_guns, .ref a_t_race_runners])), (a_t_race_runners, .inr (6, [.ref a_t_race_runners_facts, .ref a_t_race_runners_splits, .ref a_t_race_runners_torn, .ref a_t_race_runners_dropped, .ref a_t_race_runners_waved, .ref a_t_race_runners_struck, .ref a_t_race_runners_strikingOrder, .int t_race_runners_entered, .int t_race_runners_strikings])), (a_t_race_runners_waved, .inl (cZ, 60, .inl t_race_runners_waved'))] (va_A [(a_t, .inr (10, [.ref a_t_race, .ref a_t_kept, .ref a_t_trail, .ref a_t_doubts, .ref a_t_foretelling, .ref a_t_text, .ref a_t_listing, .int t_isKept])), (a_t_race, .inr (4, [.ref a_t_race_way, .ref a_t_race_guns, .ref a_t_race_runners])), (a_t_race_runners, .inr (6, [.ref a_t_race_runners_facts, .ref a_t_race_runners_splits, .ref a_t_race_runners_torn, .ref a_t_race_runners_dropped, .ref a_t_race_runners_waved, .ref a_t_race_runners_struck, .ref a_t_race_runners_strikingOrder, .int t_race_runners_entered, .int t_race_runners_strikings])), (a_t_race_runners_waved, .inl (cZ, 60, .inl t_race_runners_waved))] sz)) 0 0 (va_A [(a_t, .inr (10, [.ref a_t_race, .ref a_t_kept, .ref a_t_trail, .ref a_t_doubts, .ref a_t_foretelling, .ref a_t_text, .ref a_t_listing, .int t_isKept])), (a_t_race, .inr (4, [.ref a_t_race_way, .ref a_t_race_guns, .ref a_t_race_runners])), (a_t_race_runners, .inr (6, [.ref a_t_race_runners_facts, .ref a_t_race_runners_splits, .ref a_t_race_runners_torn, .ref a_t_race_runners_dropped, .ref a_t_race_runners_waved, .ref a_t_race_runners_struck, .ref a_t_race_runners_strikingOrder, .int t_race_runners_entered, .int t_race_runners_strikings])), (a_t_race_runners_waved, .inl (cZ, 60, .inl t_race_runners_waved))] sz) := by
  refine Met.ofW (cc := cX10_wave) (maxL := 3) (ret := (some .boolean)) (by decide) rfl ?_
  intro p e s m args below meth c s₁ B hml hv
  obtain ⟨rfl, hsz, hP, hK, hN, hZ, hD0⟩ := hv
  have hx := B.exec
  have hb := B.bytes
  have hr := B.returns
  have hts := atoms_spec (ws := wsX10_wave) B.pre
  have hown : s.vm.findClass RX10 = some m.cls := findClass_of_methodNamed B.named
  have hlocks := B.notSynchronized
  subst hsz
  have hD := hD0.self (sz := s.heap.size)
  generalize hAe : va_A [(a_t, .inr (10, [.ref a_t_race, .ref a_t_kept, .ref a_t_trail, .ref a_t_doubts, .ref a_t_foretelling, .ref a_t_text, .ref a_t_listing, .int t_isKept])), (a_t_race, .inr (4, [.ref a_t_race_way, .ref a_t_race_guns, .ref a_t_race_runners])), (a_t_race_runners, .inr (6, [.ref a_t_race_runners_facts, .ref a_t_race_runners_splits, .ref a_t_race_runners_torn, .ref a_t_race_runners_dropped, .ref a_t_race_runners_waved, .ref a_t_race_runners_struck, .ref a_t_race_runners_strikingOrder, .int t_race_runners_entered, .int t_race_runners_strikings])), (a_t_race_runners_waved, .inl (cZ, 60, .inl t_race_runners_waved))] s.heap.size = A at hD hZ ⊢
  have hA : ∀ q : Nat, s.heap.size ≤ q → A q := fun q h => by rw [← hAe]; exact Or.inr h
  have hS : va_S A s.heap s.heap [] := va_S.rf
  have hl := lv_entry ([.ref a_t, .int x1, .int x2]) (n := 3) (Nat.le_of_ble_eq_true rfl)
  rw [lg_entry_eq]
  generalize (lg_sl ([.ref a_t, .int x1, .int x2]) ++ List.replicate (3 - (lg_sl ([.ref a_t, .int x1, .int x2])).length) Slot.unset).toArray = ls at hl ⊢
  have hl : lv_has ls 3 [(0, .ref a_t), (1, .int x1), (2, .int x2)] := hl
  unfold fX10_wave at h
  refine lv_aload_n hx hb dX10_wave_0 rfl (lv_at hl 0 rfl) ?_
  refine va_get (D := D) (ci := 10) (C := RX10) (T := TX10) (N := 8) hx hb hts qX10_wave_X10 hown hK hP 0 rfl rfl 0 (by decide) (hts _ kX10_wave_0) (fun _ h9 => h9) rfl dX10_wave_1 ?_
  refine va_getN (host := "RunDesk") (D := D) (ci := 4) (C := RX4) (T := TX4) (N := 3) hx hb hts qX10_wave_X4 hown hK hP 1 rfl rfl 2 (by decide) (va_Nw.use rfl (hN _ (List.mem_of_getElem? (i := 10) rfl))) (fun _ h9 => h9) rfl dX10_wave_4 ?_
  refine lv_iload_n hx hb dX10_wave_7 rfl (lv_at hl 1 rfl) ?_
  refine lv_iload_n hx hb dX10_wave_8 rfl (lv_at hl 2 rfl) ?_
  obtain ⟨⟨b1, t_race_runners_waved_r2⟩, e3, h⟩ := zz_b h
  dsimp only at h
  refine zVi (As := [.int x1, .int x2]) (rest := []) (C := RX6) (wr := [(a_t, .inr (10, [.ref a_t_race, .ref a_t_kept, .ref a_t_trail, .ref a_t_doubts, .ref a_t_foretelling, .ref a_t_text, .ref a_t_listing, .int t_isKept])), (a_t_race, .inr (4, [.ref a_t_race_way, .ref a_t_race_guns, .ref a_t_race_runners]))]) [2, 3] [0, 1] 0 ⟨hx, hb, hml, hown, hts⟩ (mX6_setWaved l D cB cI cZ a_t_race_runners a_t_race_runners_facts a_t_race_runners_splits a_t_race_runners_torn a_t_race_runners_dropped a_t_race_runners_waved a_t_race_runners_struck a_t_race_runners_strikingOrder t_race_runners_entered t_race_runners_strikings t_race_runners_waved s.heap.size x1 x2 b1 t_race_runners_waved_r2 e3) (cwV 2 hts gX10_wave_X6_setWaved rfl rfl rfl (by decide +kernel) ⟨Nat.le_of_ble_eq_true rfl, Nat.le_of_ble_eq_true rfl⟩) hK hN hZ hP hD hS hA rfl rfl rfl rfl rfl rfl rfl rfl hl.1 rfl (lv_room (Nat.le_of_ble_eq_true rfl)) dX10_wave_9 ⟨Nat.le_of_ble_eq_true rfl, Nat.le_of_ble_eq_true rfl⟩ (fun H locs hP hD hS => ?_)
  have hP : va_P D vwCl [(a_t, .inr (10, [.ref a_t_race, .ref a_t_kept, .ref a_t_trail, .ref a_t_doubts, .ref a_t_foretelling, .ref a_t_text, .ref a_t_listing, .int t_isKept])), (a_t_race, .inr (4, [.ref a_t_race_way, .ref a_t_race_guns, .ref a_t_race_runners])), (a_t_race_runners, .inr (6, [.ref a_t_race_runners_facts, .ref a_t_race_runners_splits, .ref a_t_race_runners_torn, .ref a_t_race_runners_dropped, .ref a_t_race_runners_waved, .ref a_t_race_runners_struck, .ref a_t_race_runners_strikingOrder, .int t_race_runners_entered, .int t_race_runners_strikings])), (a_t_race_runners_waved, .inl (cZ, 60, .inl t_race_runners_waved_r2))] H := hP
  have hD : va_D A [(a_t, .inr (10, [.ref a_t_race, .ref a_t_kept, .ref a_t_trail, .ref a_t_doubts, .ref a_t_foretelling, .ref a_t_text, .ref a_t_listing, .int t_isKept])), (a_t_race, .inr (4, [.ref a_t_race_way, .ref a_t_race_guns, .ref a_t_race_runners])), (a_t_race_runners, .inr (6, [.ref a_t_race_runners_facts, .ref a_t_race_runners_splits, .ref a_t_race_runners_torn, .ref a_t_race_runners_dropped, .ref a_t_race_runners_waved, .ref a_t_race_runners_struck, .ref a_t_race_runners_strikingOrder, .int t_race_runners_entered, .int t_race_runners_strikings])), (a_t_race_runners_waved, .inl (cZ, 60, .inl t_race_runners_waved_r2))] := hD
  obtain ⟨j0_, g_⟩ := Prod.mk.inj (Option.some.inj h)
  have j1_ := g_
  subst j0_
  subst j1_
  exact W.zret (v := (zb b1)) hx hb hr zz_n (fun t ht hW => ⟨⟨_, (), rfl, rfl, zPost.of hP hD hK ht hW [0, 1, 2, 3] rfl rfl rfl⟩, hS.F ht⟩) hS.2.2 dX10_wave_12
/-! RunDesk.strike -/
theorem dX10_strike_0 : decode cX10_strike 0 = .ok (.aload_n 0, 1) := by decide +kernel
theorem dX10_strike_1 : decode cX10_strike 1 = .ok (.getfield 10, 3) := by decide +kernel
theorem dX10_strike_4 : decode cX10_strike 4 = .ok (.getfield 77, 3) := by decide +kernel
theorem dX10_strike_7 : decode cX10_strike 7 = .ok (.iload_n 1, 1) := by decide +kernel
theorem dX10_strike_8 : decode cX10_strike 8 = .ok (.invokevirtual 133, 3) := by decide +kernel
theorem dX10_strike_11 : decode cX10_strike 11 = .ok (.ireturn, 1) := by decide +kernel
set_option maxRecDepth 20000 in
theorem ggX10_strike_X6_strikeOff : GoodIn wsX10_strike wsX6_strikeOff := goodIn_r _ [6, 7, 8, 9, 10, 11, 12, 5, 13, 14, 15, 16, 17, 29, 30, 31, 32, 33, 34, 35, 36, 37] (by decide +kernel) (by decide +kernel)
set_option maxRecDepth 20000 in
theorem gX10_strike_X6_strikeOff : GoodIn wsX10_strike (wsV RX10 133 RX6 yX6_strikeOff wsX6_strikeOff) := goodIn_app (goodIn_of _ (by decide +kernel)) ggX10_strike_X6_strikeOff
theorem kX10_strike_0 : (.fieldLink RX10 10 "RunDesk" "race" "LRunDesk$Race;" : Cond) ∈ wsX10_strike := List.mem_of_getElem? (i := 1) (by decide +kernel)
theorem qX10_strike_X10 : ∀ w ∈ wsX100, w ∈ wsX10_strike := fun _ h => List.mem_cons_of_mem _ (List.mem_append_left _ (List.mem_append_left _ (List.mem_append_right _ (h))))
theorem qX10_strike_X4 : ∀ w ∈ wsX40, w ∈ wsX10_strike := fun _ h => List.mem_cons_of_mem _ (List.mem_append_left _ (List.mem_append_right _ (h)))
set_option maxHeartbeats 4000000 in
set_option maxRecDepth 100000 in
theorem mX10_strike (l : Launch) (D : va_G) (cB cI cZ : ClassId) (a_t : Nat) (a_t_race : Nat) (a_t_kept : Nat) (a_t_trail : Nat) (a_t_doubts : Nat) (a_t_foretelling : Nat) (a_t_text : Nat) (a_t_listing : Nat) (a_t_race_way : Nat) (a_t_race_guns : Nat) (a_t_race_runners : Nat) (a_t_race_runners_facts : Nat) (a_t_race_runners_splits : Nat) (a_t_race_runners_torn : Nat) (a_t_race_runners_dropped : Nat) (a_t_race_runners_waved : Nat) (a_t_race_runners_struck : Nat) (a_t_race_runners_strikingOrder : Nat) (t_isKept : Int32) (t_race_runners_entered : Int32) (t_race_runners_strikings : Int32) (t_race_runners_strikingOrder : Nat → Int32) (t_race_runners_struck : Nat → Int32) (sz : Nat) (x1 : Int32) (b0 : Bool) (t_race_runners_strikings' : Int32) (t_race_runners_strikingOrder' : Nat → Int32) (t_race_runners_struck' : Nat → Int32) (h : fX10_strike t_race_runners_entered t_race_runners_strikings t_race_runners_strikingOrder t_race_runners_struck x1 = some (b0, t_race_runners_strikings', t_race_runners_strikingOrder', t_race_runners_struck')) : Met l yX10_strike wsX10_strike ({ frames := 2, cells := 0, slots := 0, locals := 43 } : Room) (va_Pc [.ref a_t, .int x1] (zPre D (zT cB cI cZ) [(a_t, .inr (10, [.ref a_t_race, .ref a_t_kept, .ref a_t_trail, .ref a_t_doubts, .ref a_t_foretelling, .ref a_t_text, .ref a_t_listing, .int t_isKept])), (a_t_race, .inr (4, [.ref a_t_race_way, .ref a_t_race_guns, .ref a_t_race_runners])), (a_t_race_runners, .inr (6, [.ref a_t_race_runners_facts, .ref a_t_race_runners_splits, .ref a_t_race_runners_torn, .ref a_t_race_runners_dropped, .ref a_t_race_runners_waved, .ref a_t_race_runners_struck, .ref a_t_race_runners_strikingOrder, .int t_race_runners_entered, .int t_race_runners_strikings])), (a_t_race_runners_strikingOrder, .inl (cI, 60, .inl t_race_runners_strikingOrder)), (a_t_race_runners_struck, .inl (cZ, 60, .inl t_race_runners_struck))] sz)) (zQi (zb b0) D (zT cB cI cZ) [(a_t, .inr (10, [.ref a_t_race, .ref a_t_kept, .ref a_t_trail, .ref a_t_doubts, .ref a_t_foretelling, .ref a_t_text, .ref a_t_listing, .int t_isKept])), (a_t_race, .inr (4, [.ref a_t_race_way, .ref a_t_race_guns, .ref a_t_race_runners])), (a_t_race_runners, .inr (6, [.ref a_t_race_runners_facts, .ref a_t_race_runners_splits, .ref a_t_race_runners_torn, .ref a_t_race_runners_dropped, .ref a_t_race_runners_waved, .ref a_t_race_runners_struck, .ref a_t_race_runners_strikingOrder, .int t_race_runners_entered, .int t_race_runners_strikings'])), (a_t_race_runners_strikingOrder, .inl (cI, 60, .inl t_race_runners_strikingOrder')), (a_t_race_runners_struck, .inl (cZ, 60, .inl t_race_runners_struck'))] (va_A [(a_t, .inr (10, [.ref a_t_race, .ref a_t_kept, .ref a_t_trail, .ref a_t_doubts, .ref a_t_foretelling, .ref a_t_text, .ref a_t_listing, .int t_isKept])), (a_t_race, .inr (4, [.ref a_t_race_way, .ref a_t_race_guns, .ref a_t_race_runners])), (a_t_race_runners, .inr (6, [.ref a_t_race_runners_facts, .ref a_t_race_runners_splits, .ref a_t_race_runners_torn, .ref a_t_race_runners_dropped, .ref a_t_race_runners_waved, .ref a_t_race_runners_struck, .ref a_t_race_runners_strikingOrder, .int t_race_runners_entered, .int t_race_runners_strikings])), (a_t_race_runners_strikingOrder, .inl (cI, 60, .inl t_race_runners_strikingOrder)), (a_t_race_runners_struck, .inl (cZ, 60, .inl t_race_runners_struck))] sz)) 0 0 (va_A [(a_t, .inr (10, [.ref a_t_race, .ref a_t_kept, .ref a_t_trail, .ref a_t_doubts, .ref a_t_foretelling, .ref a_t_text, .ref a_t_listing, .int t_isKept])), (a_t_race, .inr (4, [.ref a_t_race_way, .ref a_t_race_guns, .ref a_t_race_runners])), (a_t_race_runners, .inr (6, [.ref a_t_race_runners_facts, .ref a_t_race_runners_splits, .ref a_t_race_runners_torn, .ref a_t_race_runners_dropped, .ref a_t_race_runners_waved, .ref a_t_race_runners_struck, .ref a_t_race_runners_strikingOrder, .int t_race_runners_entered, .int t_race_runners_strikings])), (a_t_race_runners_strikingOrder, .inl (cI, 60, .inl t_race_runners_strikingOrder)), (a_t_race_runners_struck, .inl (cZ, 60, .inl t_race_runners_struck))] sz) := by
  refine Met.ofW (cc := cX10_strike) (maxL := 2) (ret := (some .boolean)) (by decide) rfl ?_
  intro p e s m args below meth c s₁ B hml hv
  obtain ⟨rfl, hsz, hP, hK, hN, hZ, hD0⟩ := hv
  have hx := B.exec
  have hb := B.bytes
  have hr := B.returns
  have hts := atoms_spec (ws := wsX10_strike) B.pre
  have hown : s.vm.findClass RX10 = some m.cls := findClass_of_methodNamed B.named
  have hlocks := B.notSynchronized
  subst hsz
  have hD := hD0.self (sz := s.heap.size)
  generalize hAe : va_A [(a_t, .inr (10, [.ref a_t_race, .ref a_t_kept, .ref a_t_trail, .ref a_t_doubts, .ref a_t_foretelling, .ref a_t_text, .ref a_t_listing, .int t_isKept])), (a_t_race, .inr (4, [.ref a_t_race_way, .ref a_t_race_guns, .ref a_t_race_runners])), (a_t_race_runners, .inr (6, [.ref a_t_race_runners_facts, .ref a_t_race_runners_splits, .ref a_t_race_runners_torn, .ref a_t_race_runners_dropped, .ref a_t_race_runners_waved, .ref a_t_race_runners_struck, .ref a_t_race_runners_strikingOrder, .int t_race_runners_entered, .int t_race_runners_strikings])), (a_t_race_runners_strikingOrder, .inl (cI, 60, .inl t_race_runners_strikingOrder)), (a_t_race_runners_struck, .inl (cZ, 60, .inl t_race_runners_struck))] s.heap.size = A at hD hZ ⊢
  have hA : ∀ q : Nat, s.heap.size ≤ q → A q := fun q h => by rw [← hAe]; exact Or.inr h
  have hS : va_S A s.heap s.heap [] := va_S.rf
  have hl := lv_entry ([.ref a_t, .int x1]) (n := 2) (Nat.le_of_ble_eq_true rfl)
  rw [lg_entry_eq]
  generalize (lg_sl ([.ref a_t, .int x1]) ++ List.replicate (2 - (lg_sl ([.ref a_t, .int x1])).length) Slot.unset).toArray = ls at hl ⊢
  have hl : lv_has ls 2 [(0, .ref a_t), (1, .int x1)] := hl
  unfold fX10_strike at h
  refine lv_aload_n hx hb dX10_strike_0 rfl (lv_at hl 0 rfl) ?_
  refine va_get (D := D) (ci := 10) (C := RX10) (T := TX10) (N := 8) hx hb hts qX10_strike_X10 hown hK hP 0 rfl rfl 0 (by decide) (hts _ kX10_strike_0) (fun _ h9 => h9) rfl dX10_strike_1 ?_
  refine va_getN (host := "RunDesk") (D := D) (ci := 4) (C := RX4) (T := TX4) (N := 3) hx hb hts qX10_strike_X4 hown hK hP 1 rfl rfl 2 (by decide) (va_Nw.use rfl (hN _ (List.mem_of_getElem? (i := 10) rfl))) (fun _ h9 => h9) rfl dX10_strike_4 ?_
  refine lv_iload_n hx hb dX10_strike_7 rfl (lv_at hl 1 rfl) ?_
  obtain ⟨⟨b1, t_race_runners_strikings_r2, t_race_runners_strikingOrder_r3, t_race_runners_struck_r4⟩, e5, h⟩ := zz_b h
  dsimp only at h
  refine zVi (As := [.int x1]) (rest := []) (C := RX6) (wr := [(a_t, .inr (10, [.ref a_t_race, .ref a_t_kept, .ref a_t_trail, .ref a_t_doubts, .ref a_t_foretelling, .ref a_t_text, .ref a_t_listing, .int t_isKept])), (a_t_race, .inr (4, [.ref a_t_race_way, .ref a_t_race_guns, .ref a_t_race_runners]))]) [2, 3, 4] [0, 1] 0 ⟨hx, hb, hml, hown, hts⟩ (mX6_strikeOff l D cB cI cZ a_t_race_runners a_t_race_runners_facts a_t_race_runners_splits a_t_race_runners_torn a_t_race_runners_dropped a_t_race_runners_waved a_t_race_runners_struck a_t_race_runners_strikingOrder t_race_runners_entered t_race_runners_strikings t_race_runners_strikingOrder t_race_runners_struck s.heap.size x1 b1 t_race_runners_strikings_r2 t_race_runners_strikingOrder_r3 t_race_runners_struck_r4 e5) (cwV 1 hts gX10_strike_X6_strikeOff rfl rfl rfl (by decide +kernel) ⟨Nat.le_of_ble_eq_true rfl, Nat.le_of_ble_eq_true rfl⟩) hK hN hZ hP hD hS hA rfl rfl rfl rfl rfl rfl rfl rfl hl.1 rfl (lv_room (Nat.le_of_ble_eq_true rfl)) dX10_strike_8 ⟨Nat.le_of_ble_eq_true rfl, Nat.le_of_ble_eq_true rfl⟩ (fun H locs hP hD hS => ?_)
  have hP : va_P D vwCl [(a_t, .inr (10, [.ref a_t_race, .ref a_t_kept, .ref a_t_trail, .ref a_t_doubts, .ref a_t_foretelling, .ref a_t_text, .ref a_t_listing, .int t_isKept])), (a_t_race, .inr (4, [.ref a_t_race_way, .ref a_t_race_guns, .ref a_t_race_runners])), (a_t_race_runners, .inr (6, [.ref a_t_race_runners_facts, .ref a_t_race_runners_splits, .ref a_t_race_runners_torn, .ref a_t_race_runners_dropped, .ref a_t_race_runners_waved, .ref a_t_race_runners_struck, .ref a_t_race_runners_strikingOrder, .int t_race_runners_entered, .int t_race_runners_strikings_r2])), (a_t_race_runners_strikingOrder, .inl (cI, 60, .inl t_race_runners_strikingOrder_r3)), (a_t_race_runners_struck, .inl (cZ, 60, .inl t_race_runners_struck_r4))] H := hP
  have hD : va_D A [(a_t, .inr (10, [.ref a_t_race, .ref a_t_kept, .ref a_t_trail, .ref a_t_doubts, .ref a_t_foretelling, .ref a_t_text, .ref a_t_listing, .int t_isKept])), (a_t_race, .inr (4, [.ref a_t_race_way, .ref a_t_race_guns, .ref a_t_race_runners])), (a_t_race_runners, .inr (6, [.ref a_t_race_runners_facts, .ref a_t_race_runners_splits, .ref a_t_race_runners_torn, .ref a_t_race_runners_dropped, .ref a_t_race_runners_waved, .ref a_t_race_runners_struck, .ref a_t_race_runners_strikingOrder, .int t_race_runners_entered, .int t_race_runners_strikings_r2])), (a_t_race_runners_strikingOrder, .inl (cI, 60, .inl t_race_runners_strikingOrder_r3)), (a_t_race_runners_struck, .inl (cZ, 60, .inl t_race_runners_struck_r4))] := hD
  obtain ⟨j0_, g_⟩ := Prod.mk.inj (Option.some.inj h)
  obtain ⟨j1_, g_⟩ := Prod.mk.inj g_
  obtain ⟨j2_, g_⟩ := Prod.mk.inj g_
  have j3_ := g_
  subst j0_
  subst j1_
  subst j2_
  subst j3_
  exact W.zret (v := (zb b1)) hx hb hr zz_n (fun t ht hW => ⟨⟨_, (), rfl, rfl, zPost.of hP hD hK ht hW [0, 1, 2, 3, 4] rfl rfl rfl⟩, hS.F ht⟩) hS.2.2 dX10_strike_11
/-! RunDesk.pardon -/
theorem dX10_pardon_0 : decode cX10_pardon 0 = .ok (.aload_n 0, 1) := by decide +kernel
theorem dX10_pardon_1 : decode cX10_pardon 1 = .ok (.getfield 10, 3) := by decide +kernel
theorem dX10_pardon_4 : decode cX10_pardon 4 = .ok (.getfield 77, 3) := by decide +kernel
theorem dX10_pardon_7 : decode cX10_pardon 7 = .ok (.invokevirtual 136, 3) := by decide +kernel
theorem dX10_pardon_10 : decode cX10_pardon 10 = .ok (.ireturn, 1) := by decide +kernel
set_option maxRecDepth 20000 in
theorem ggX10_pardon_X6_takeStrikingBack : GoodIn wsX10_pardon wsX6_takeStrikingBack := goodIn_r _ [6, 7, 8, 9, 10, 11, 12, 13, 14, 15, 5, 16, 17, 29, 30, 31, 32, 33, 34, 35, 36, 37] (by decide +kernel) (by decide +kernel)
set_option maxRecDepth 20000 in
theorem gX10_pardon_X6_takeStrikingBack : GoodIn wsX10_pardon (wsV RX10 136 RX6 yX6_takeStrikingBack wsX6_takeStrikingBack) := goodIn_app (goodIn_of _ (by decide +kernel)) ggX10_pardon_X6_takeStrikingBack
theorem kX10_pardon_0 : (.fieldLink RX10 10 "RunDesk" "race" "LRunDesk$Race;" : Cond) ∈ wsX10_pardon := List.mem_of_getElem? (i := 1) (by decide +kernel)
theorem qX10_pardon_X10 : ∀ w ∈ wsX100, w ∈ wsX10_pardon := fun _ h => List.mem_cons_of_mem _ (List.mem_append_left _ (List.mem_append_left _ (List.mem_append_right _ (h))))
theorem qX10_pardon_X4 : ∀ w ∈ wsX40, w ∈ wsX10_pardon := fun _ h => List.mem_cons_of_mem _ (List.mem_append_left _ (List.mem_append_right _ (h)))
set_option maxHeartbeats 4000000 in
set_option maxRecDepth 100000 in
theorem mX10_pardon (l : Launch) (D : va_G) (cB cI cZ : ClassId) (a_t : Nat) (a_t_race : Nat) (a_t_kept : Nat) (a_t_trail : Nat) (a_t_doubts : Nat) (a_t_foretelling : Nat) (a_t_text : Nat) (a_t_listing : Nat) (a_t_race_way : Nat) (a_t_race_guns : Nat) (a_t_race_runners : Nat) (a_t_race_runners_facts : Nat) (a_t_race_runners_splits : Nat) (a_t_race_runners_torn : Nat) (a_t_race_runners_dropped : Nat) (a_t_race_runners_waved : Nat) (a_t_race_runners_struck : Nat) (a_t_race_runners_strikingOrder : Nat) (t_isKept : Int32) (t_race_runners_entered : Int32) (t_race_runners_strikings : Int32) (t_race_runners_strikingOrder : Nat → Int32) (t_race_runners_struck : Nat → Int32) (sz : Nat) (r0 : Int32) (t_race_runners_strikings' : Int32) (t_race_runners_struck' : Nat → Int32) (h : fX10_pardon t_race_runners_entered t_race_runners_strikings t_race_runners_strikingOrder t_race_runners_struck = some (r0, t_race_runners_strikings', t_race_runners_struck')) : Met l yX10_pardon wsX10_pardon ({ frames := 2, cells := 0, slots := 0, locals := 43 } : Room) (va_Pc [.ref a_t] (zPre D (zT cB cI cZ) [(a_t, .inr (10, [.ref a_t_race, .ref a_t_kept, .ref a_t_trail, .ref a_t_doubts, .ref a_t_foretelling, .ref a_t_text, .ref a_t_listing, .int t_isKept])), (a_t_race, .inr (4, [.ref a_t_race_way, .ref a_t_race_guns, .ref a_t_race_runners])), (a_t_race_runners, .inr (6, [.ref a_t_race_runners_facts, .ref a_t_race_runners_splits, .ref a_t_race_runners_torn, .ref a_t_race_runners_dropped, .ref a_t_race_runners_waved, .ref a_t_race_runners_struck, .ref a_t_race_runners_strikingOrder, .int t_race_runners_entered, .int t_race_runners_strikings])), (a_t_race_runners_strikingOrder, .inl (cI, 60, .inl t_race_runners_strikingOrder)), (a_t_race_runners_struck, .inl (cZ, 60, .inl t_race_runners_struck))] sz)) (zQi r0 D (zT cB cI cZ) [(a_t, .inr (10, [.ref a_t_race, .ref a_t_kept, .ref a_t_trail, .ref a_t_doubts, .ref a_t_foretelling, .ref a_t_text, .ref a_t_listing, .int t_isKept])), (a_t_race, .inr (4, [.ref a_t_race_way, .ref a_t_race_guns, .ref a_t_race_runners])), (a_t_race_runners, .inr (6, [.ref a_t_race_runners_facts, .ref a_t_race_runners_splits, .ref a_t_race_runners_torn, .ref a_t_race_runners_dropped, .ref a_t_race_runners_waved, .ref a_t_race_runners_struck, .ref a_t_race_runners_strikingOrder, .int t_race_runners_entered, .int t_race_runners_strikings'])), (a_t_race_runners_strikingOrder, .inl (cI, 60, .inl t_race_runners_strikingOrder)), (a_t_race_runners_struck, .inl (cZ, 60, .inl t_race_runners_struck'))] (va_A [(a_t, .inr (10, [.ref a_t_race, .ref a_t_kept, .ref a_t_trail, .ref a_t_doubts, .ref a_t_foretelling, .ref a_t_text, .ref a_t_listing, .int t_isKept])), (a_t_race, .inr (4, [.ref a_t_race_way, .ref a_t_race_guns, .ref a_t_race_runners])), (a_t_race_runners, .inr (6, [.ref a_t_race_runners_facts, .ref a_t_race_runners_splits, .ref a_t_race_runners_torn, .ref a_t_race_runners_dropped, .ref a_t_race_runners_waved, .ref a_t_race_runners_struck, .ref a_t_race_runners_strikingOrder, .int t_race_runners_entered, .int t_race_runners_strikings])), (a_t_race_runners_strikingOrder, .inl (cI, 60, .inl t_race_runners_strikingOrder)), (a_t_race_runners_struck, .inl (cZ, 60, .inl t_race_runners_struck))] sz)) 0 0 (va_A [(a_t, .inr (10, [.ref a_t_race, .ref a_t_kept, .ref a_t_trail, .ref a_t_doubts, .ref a_t_foretelling, .ref a_t_text, .ref a_t_listing, .int t_isKept])), (a_t_race, .inr (4, [.ref a_t_race_way, .ref a_t_race_guns, .ref a_t_race_runners])), (a_t_race_runners, .inr (6, [.ref a_t_race_runners_facts, .ref a_t_race_runners_splits, .ref a_t_race_runners_torn, .ref a_t_race_runners_dropped, .ref a_t_race_runners_waved, .ref a_t_race_runners_struck, .ref a_t_race_runners_strikingOrder, .int t_race_runners_entered, .int t_race_runners_strikings])), (a_t_race_runners_strikingOrder, .inl (cI, 60, .inl t_race_runners_strikingOrder)), (a_t_race_runners_struck, .inl (cZ, 60, .inl t_race_runners_struck))] sz) := by
  refine Met.ofW (cc := cX10_pardon) (maxL := 1) (ret := (some .int)) (by decide) rfl ?_
  intro p e s m args below meth c s₁ B hml hv
  obtain ⟨rfl, hsz, hP, hK, hN, hZ, hD0⟩ := hv
  have hx := B.exec
  have hb := B.bytes
  have hr := B.returns
  have hts := atoms_spec (ws := wsX10_pardon) B.pre
  have hown : s.vm.findClass RX10 = some m.cls := findClass_of_methodNamed B.named
  have hlocks := B.notSynchronized
  subst hsz
  have hD := hD0.self (sz := s.heap.size)
  generalize hAe : va_A [(a_t, .inr (10, [.ref a_t_race, .ref a_t_kept, .ref a_t_trail, .ref a_t_doubts, .ref a_t_foretelling, .ref a_t_text, .ref a_t_listing, .int t_isKept])), (a_t_race, .inr (4, [.ref a_t_race_way, .ref a_t_race_guns, .ref a_t_race_runners])), (a_t_race_runners, .inr (6, [.ref a_t_race_runners_facts, .ref a_t_race_runners_splits, .ref a_t_race_runners_torn, .ref a_t_race_runners_dropped, .ref a_t_race_runners_waved, .ref a_t_race_runners_struck, .ref a_t_race_runners_strikingOrder, .int t_race_runners_entered, .int t_race_runners_strikings])), (a_t_race_runners_strikingOrder, .inl (cI, 60, .inl t_race_runners_strikingOrder)), (a_t_race_runners_struck, .inl (cZ, 60, .inl t_race_runners_struck))] s.heap.size = A at hD hZ ⊢
  have hA : ∀ q : Nat, s.heap.size ≤ q → A q := fun q h => by rw [← hAe]; exact Or.inr h
  have hS : va_S A s.heap s.heap [] := va_S.rf
  have hl := lv_entry ([.ref a_t]) (n := 1) (Nat.le_of_ble_eq_true rfl)
  rw [lg_entry_eq]
  generalize (lg_sl ([.ref a_t]) ++ List.replicate (1 - (lg_sl ([.ref a_t])).length) Slot.unset).toArray = ls at hl ⊢
  have hl : lv_has ls 1 [(0, .ref a_t)] := hl
  unfold fX10_pardon at h
  refine lv_aload_n hx hb dX10_pardon_0 rfl (lv_at hl 0 rfl) ?_
  refine va_get (D := D) (ci := 10) (C := RX10) (T := TX10) (N := 8) hx hb hts qX10_pardon_X10 hown hK hP 0 rfl rfl 0 (by decide) (hts _ kX10_pardon_0) (fun _ h9 => h9) rfl dX10_pardon_1 ?_
  refine va_getN (host := "RunDesk") (D := D) (ci := 4) (C := RX4) (T := TX4) (N := 3) hx hb hts qX10_pardon_X4 hown hK hP 1 rfl rfl 2 (by decide) (va_Nw.use rfl (hN _ (List.mem_of_getElem? (i := 10) rfl))) (fun _ h9 => h9) rfl dX10_pardon_4 ?_
  obtain ⟨⟨r1, t_race_runners_strikings_r2, t_race_runners_struck_r3⟩, e4, h⟩ := zz_b h
  dsimp only at h
  refine zVi (As := []) (rest := []) (C := RX6) (wr := [(a_t, .inr (10, [.ref a_t_race, .ref a_t_kept, .ref a_t_trail, .ref a_t_doubts, .ref a_t_foretelling, .ref a_t_text, .ref a_t_listing, .int t_isKept])), (a_t_race, .inr (4, [.ref a_t_race_way, .ref a_t_race_guns, .ref a_t_race_runners]))]) [2, 3, 4] [0, 1] 0 ⟨hx, hb, hml, hown, hts⟩ (mX6_takeStrikingBack l D cB cI cZ a_t_race_runners a_t_race_runners_facts a_t_race_runners_splits a_t_race_runners_torn a_t_race_runners_dropped a_t_race_runners_waved a_t_race_runners_struck a_t_race_runners_strikingOrder t_race_runners_entered t_race_runners_strikings t_race_runners_strikingOrder t_race_runners_struck s.heap.size r1 t_race_runners_strikings_r2 t_race_runners_struck_r3 e4) (cwV 0 hts gX10_pardon_X6_takeStrikingBack rfl rfl rfl (by decide +kernel) ⟨Nat.le_of_ble_eq_true rfl, Nat.le_of_ble_eq_true rfl⟩) hK hN hZ hP hD hS hA rfl rfl rfl rfl rfl rfl rfl rfl hl.1 rfl (lv_room (Nat.le_of_ble_eq_true rfl)) dX10_pardon_7 ⟨Nat.le_of_ble_eq_true rfl, Nat.le_of_ble_eq_true rfl⟩ (fun H locs hP hD hS => ?_)
  have hP : va_P D vwCl [(a_t, .inr (10, [.ref a_t_race, .ref a_t_kept, .ref a_t_trail, .ref a_t_doubts, .ref a_t_foretelling, .ref a_t_text, .ref a_t_listing, .int t_isKept])), (a_t_race, .inr (4, [.ref a_t_race_way, .ref a_t_race_guns, .ref a_t_race_runners])), (a_t_race_runners, .inr (6, [.ref a_t_race_runners_facts, .ref a_t_race_runners_splits, .ref a_t_race_runners_torn, .ref a_t_race_runners_dropped, .ref a_t_race_runners_waved, .ref a_t_race_runners_struck, .ref a_t_race_runners_strikingOrder, .int t_race_runners_entered, .int t_race_runners_strikings_r2])), (a_t_race_runners_strikingOrder, .inl (cI, 60, .inl t_race_runners_strikingOrder)), (a_t_race_runners_struck, .inl (cZ, 60, .inl t_race_runners_struck_r3))] H := hP
  have hD : va_D A [(a_t, .inr (10, [.ref a_t_race, .ref a_t_kept, .ref a_t_trail, .ref a_t_doubts, .ref a_t_foretelling, .ref a_t_text, .ref a_t_listing, .int t_isKept])), (a_t_race, .inr (4, [.ref a_t_race_way, .ref a_t_race_guns, .ref a_t_race_runners])), (a_t_race_runners, .inr (6, [.ref a_t_race_runners_facts, .ref a_t_race_runners_splits, .ref a_t_race_runners_torn, .ref a_t_race_runners_dropped, .ref a_t_race_runners_waved, .ref a_t_race_runners_struck, .ref a_t_race_runners_strikingOrder, .int t_race_runners_entered, .int t_race_runners_strikings_r2])), (a_t_race_runners_strikingOrder, .inl (cI, 60, .inl t_race_runners_strikingOrder)), (a_t_race_runners_struck, .inl (cZ, 60, .inl t_race_runners_struck_r3))] := hD
  obtain ⟨j0_, g_⟩ := Prod.mk.inj (Option.some.inj h)
  obtain ⟨j1_, g_⟩ := Prod.mk.inj g_
  have j2_ := g_
  subst j0_
  subst j1_
  subst j2_
  exact W.iret (v := r1) hx hb hr (fun t ht hW => ⟨⟨_, (), rfl, rfl, zPost.of hP hD hK ht hW [0, 1, 2, 3, 4] rfl rfl rfl⟩, hS.F ht⟩) hS.2.2 dX10_pardon_10
/-! RunDesk.told -/
theorem dX10_told_0 : decode cX10_told 0 = .ok (.aload_n 0, 1) := by decide +kernel
theorem dX10_told_1 : decode cX10_told 1 = .ok (.getfield 10, 3) := by decide +kernel
theorem dX10_told_4 : decode cX10_told 4 = .ok (.iload_n 1, 1) := by decide +kernel
theorem dX10_told_5 : decode cX10_told 5 = .ok (.iload_n 2, 1) := by decide +kernel
theorem dX10_told_6 : decode cX10_told 6 = .ok (.invokevirtual 139, 3) := by decide +kernel
theorem dX10_told_9 : decode cX10_told 9 = .ok (.ireturn, 1) := by decide +kernel
set_option maxRecDepth 20000 in
theorem ggX10_told_X4_tell : GoodIn wsX10_told wsX4_tell := goodIn_r _ [6, 7, 8, 9, 10, 11, 12, 13, 14, 15, 16, 17, 18, 19, 20, 21, 22, 23, 24, 5, 25, 26, 27, 28, 29, 30, 31, 32, 33, 34, 35, 36, 37, 38, 39, 40, 41, 42, 43, 44, 45, 46, 47, 48, 49, 50, 51, 52, 53, 54, 55, 56, 57, 58, 59, 60, 61, 62, 63, 64, 65, 66, 67, 68, 69, 70, 71, 72, 73, 74, 75, 76, 77, 78, 79, 80, 81, 82, 83, 84, 85, 86, 87, 88, 89, 90, 91, 92, 93, 94, 95, 96, 97, 98, 99, 100, 101, 102, 103, 104, 105, 106, 107, 108, 109, 110, 111, 112, 113, 122, 123, 124, 125, 126, 127, 128, 129, 130, 131, 132, 133, 134, 135, 136, 137, 138, 139] (by decide +kernel) (by decide +kernel)
set_option maxRecDepth 20000 in
theorem gX10_told_X4_tell : GoodIn wsX10_told (wsV RX10 139 RX4 yX4_tell wsX4_tell) := goodIn_app (goodIn_of _ (by decide +kernel)) ggX10_told_X4_tell
theorem kX10_told_0 : (.fieldLink RX10 10 "RunDesk" "race" "LRunDesk$Race;" : Cond) ∈ wsX10_told := List.mem_of_getElem? (i := 1) (by decide +kernel)
theorem qX10_told_X10 : ∀ w ∈ wsX100, w ∈ wsX10_told := fun _ h => List.mem_cons_of_mem _ (List.mem_append_left _ (List.mem_append_left _ (List.mem_append_left _ (List.mem_append_left _ (List.mem_append_right _ (h))))))
set_option maxHeartbeats 4000000 in
set_option maxRecDepth 100000 in
theorem mX10_told (l : Launch) (D : va_G) (cB cI cZ : ClassId) (a_t : Nat) (a_t_race : Nat) (a_t_kept : Nat) (a_t_trail : Nat) (a_t_doubts : Nat) (a_t_foretelling : Nat) (a_t_text : Nat) (a_t_listing : Nat) (a_t_race_way : Nat) (a_t_race_guns : Nat) (a_t_race_runners : Nat) (a_t_race_guns_ticks : Nat) (a_t_race_runners_facts : Nat) (a_t_race_runners_splits : Nat) (a_t_race_runners_torn : Nat) (a_t_race_runners_dropped : Nat) (a_t_race_runners_waved : Nat) (a_t_race_runners_struck : Nat) (a_t_race_runners_strikingOrder : Nat) (a_t_race_way_places : Nat) (a_t_race_way_bearings : Nat) (a_t_race_way_cuts : Nat) (a_t_race_way_deaths : Nat) (t_isKept : Int32) (t_race_guns_ticks : Nat → Int32) (t_race_runners_entered : Int32) (t_race_runners_strikings : Int32) (t_race_runners_dropped : Nat → Int32) (t_race_runners_facts : Nat → Int32) (t_race_runners_splits : Nat → Int32) (t_race_runners_struck : Nat → Int32) (t_race_runners_torn : Nat → Int32) (t_race_runners_waved : Nat → Int32) (t_race_way_mats : Int32) (t_race_way_cuts : Nat → Int32) (t_race_way_places : Nat → Int32) (sz : Nat) (x1 : Int32) (x2 : Int32) (N : Nat) (r0 : Int32) (h : fX10_told N t_race_guns_ticks t_race_runners_entered t_race_runners_dropped t_race_runners_facts t_race_runners_splits t_race_runners_struck t_race_runners_torn t_race_runners_waved t_race_way_mats t_race_way_cuts t_race_way_places x1 x2 = some (r0)) : Met l yX10_told wsX10_told ({ frames := 6, cells := 0, slots := 0, locals := 132 } : Room) (va_Pc [.ref a_t, .int x1, .int x2] (zPre D (zT cB cI cZ) [(a_t, .inr (10, [.ref a_t_race, .ref a_t_kept, .ref a_t_trail, .ref a_t_doubts, .ref a_t_foretelling, .ref a_t_text, .ref a_t_listing, .int t_isKept])), (a_t_race, .inr (4, [.ref a_t_race_way, .ref a_t_race_guns, .ref a_t_race_runners])), (a_t_race_guns, .inr (2, [.ref a_t_race_guns_ticks])), (a_t_race_guns_ticks, .inl (cI, 6, .inl t_race_guns_ticks)), (a_t_race_runners, .inr (6, [.ref a_t_race_runners_facts, .ref a_t_race_runners_splits, .ref a_t_race_runners_torn, .ref a_t_race_runners_dropped, .ref a_t_race_runners_waved, .ref a_t_race_runners_struck, .ref a_t_race_runners_strikingOrder, .int t_race_runners_entered, .int t_race_runners_strikings])), (a_t_race_runners_dropped, .inl (cZ, 60, .inl t_race_runners_dropped)), (a_t_race_runners_facts, .inl (cI, 360, .inl t_race_runners_facts)), (a_t_race_runners_splits, .inl (cI, 720, .inl t_race_runners_splits)), (a_t_race_runners_struck, .inl (cZ, 60, .inl t_race_runners_struck)), (a_t_race_runners_torn, .inl (cI, 60, .inl t_race_runners_torn)), (a_t_race_runners_waved, .inl (cZ, 60, .inl t_race_runners_waved)), (a_t_race_way, .inr (9, [.ref a_t_race_way_places, .ref a_t_race_way_bearings, .ref a_t_race_way_cuts, .ref a_t_race_way_deaths, .int t_race_way_mats])), (a_t_race_way_cuts, .inl (cI, 12, .inl t_race_way_cuts)), (a_t_race_way_places, .inl (cI, 12, .inl t_race_way_places))] sz)) (zQi r0 D (zT cB cI cZ) [(a_t, .inr (10, [.ref a_t_race, .ref a_t_kept, .ref a_t_trail, .ref a_t_doubts, .ref a_t_foretelling, .ref a_t_text, .ref a_t_listing, .int t_isKept])), (a_t_race, .inr (4, [.ref a_t_race_way, .ref a_t_race_guns, .ref a_t_race_runners])), (a_t_race_guns, .inr (2, [.ref a_t_race_guns_ticks])), (a_t_race_guns_ticks, .inl (cI, 6, .inl t_race_guns_ticks)), (a_t_race_runners, .inr (6, [.ref a_t_race_runners_facts, .ref a_t_race_runners_splits, .ref a_t_race_runners_torn, .ref a_t_race_runners_dropped, .ref a_t_race_runners_waved, .ref a_t_race_runners_struck, .ref a_t_race_runners_strikingOrder, .int t_race_runners_entered, .int t_race_runners_strikings])), (a_t_race_runners_dropped, .inl (cZ, 60, .inl t_race_runners_dropped)), (a_t_race_runners_facts, .inl (cI, 360, .inl t_race_runners_facts)), (a_t_race_runners_splits, .inl (cI, 720, .inl t_race_runners_splits)), (a_t_race_runners_struck, .inl (cZ, 60, .inl t_race_runners_struck)), (a_t_race_runners_torn, .inl (cI, 60, .inl t_race_runners_torn)), (a_t_race_runners_waved, .inl (cZ, 60, .inl t_race_runners_waved)), (a_t_race_way, .inr (9, [.ref a_t_race_way_places, .ref a_t_race_way_bearings, .ref a_t_race_way_cuts, .ref a_t_race_way_deaths, .int t_race_way_mats])), (a_t_race_way_cuts, .inl (cI, 12, .inl t_race_way_cuts)), (a_t_race_way_places, .inl (cI, 12, .inl t_race_way_places))] (va_A [(a_t, .inr (10, [.ref a_t_race, .ref a_t_kept, .ref a_t_trail, .ref a_t_doubts, .ref a_t_foretelling, .ref a_t_text, .ref a_t_listing, .int t_isKept])), (a_t_race, .inr (4, [.ref a_t_race_way, .ref a_t_race_guns, .ref a_t_race_runners])), (a_t_race_guns, .inr (2, [.ref a_t_race_guns_ticks])), (a_t_race_guns_ticks, .inl (cI, 6, .inl t_race_guns_ticks)), (a_t_race_runners, .inr (6, [.ref a_t_race_runners_facts, .ref a_t_race_runners_splits, .ref a_t_race_runners_torn, .ref a_t_race_runners_dropped, .ref a_t_race_runners_waved, .ref a_t_race_runners_struck, .ref a_t_race_runners_strikingOrder, .int t_race_runners_entered, .int t_race_runners_strikings])), (a_t_race_runners_dropped, .inl (cZ, 60, .inl t_race_runners_dropped)), (a_t_race_runners_facts, .inl (cI, 360, .inl t_race_runners_facts)), (a_t_race_runners_splits, .inl (cI, 720, .inl t_race_runners_splits)), (a_t_race_runners_struck, .inl (cZ, 60, .inl t_race_runners_struck)), (a_t_race_runners_torn, .inl (cI, 60, .inl t_race_runners_torn)), (a_t_race_runners_waved, .inl (cZ, 60, .inl t_race_runners_waved)), (a_t_race_way, .inr (9, [.ref a_t_race_way_places, .ref a_t_race_way_bearings, .ref a_t_race_way_cuts, .ref a_t_race_way_deaths, .int t_race_way_mats])), (a_t_race_way_cuts, .inl (cI, 12, .inl t_race_way_cuts)), (a_t_race_way_places, .inl (cI, 12, .inl t_race_way_places))] sz)) 0 0 (va_A [(a_t, .inr (10, [.ref a_t_race, .ref a_t_kept, .ref a_t_trail, .ref a_t_doubts, .ref a_t_foretelling, .ref a_t_text, .ref a_t_listing, .int t_isKept])), (a_t_race, .inr (4, [.ref a_t_race_way, .ref a_t_race_guns, .ref a_t_race_runners])), (a_t_race_guns, .inr (2, [.ref a_t_race_guns_ticks])), (a_t_race_guns_ticks, .inl (cI, 6, .inl t_race_guns_ticks)), (a_t_race_runners, .inr (6, [.ref a_t_race_runners_facts, .ref a_t_race_runners_splits, .ref a_t_race_runners_torn, .ref a_t_race_runners_dropped, .ref a_t_race_runners_waved, .ref a_t_race_runners_struck, .ref a_t_race_runners_strikingOrder, .int t_race_runners_entered, .int t_race_runners_strikings])), (a_t_race_runners_dropped, .inl (cZ, 60, .inl t_race_runners_dropped)), (a_t_race_runners_facts, .inl (cI, 360, .inl t_race_runners_facts)), (a_t_race_runners_splits, .inl (cI, 720, .inl t_race_runners_splits)), (a_t_race_runners_struck, .inl (cZ, 60, .inl t_race_runners_struck)), (a_t_race_runners_torn, .inl (cI, 60, .inl t_race_runners_torn)), (a_t_race_runners_waved, .inl (cZ, 60, .inl t_race_runners_waved)), (a_t_race_way, .inr (9, [.ref a_t_race_way_places, .ref a_t_race_way_bearings, .ref a_t_race_way_cuts, .ref a_t_race_way_deaths, .int t_race_way_mats])), (a_t_race_way_cuts, .inl (cI, 12, .inl t_race_way_cuts)), (a_t_race_way_places, .inl (cI, 12, .inl t_race_way_places))] sz) := by
  refine Met.ofW (cc := cX10_told) (maxL := 3) (ret := (some .int)) (by decide) rfl ?_
  intro p e s m args below meth c s₁ B hml hv
  obtain ⟨rfl, hsz, hP, hK, hN, hZ, hD0⟩ := hv
  have hx := B.exec
  have hb := B.bytes
  have hr := B.returns
  have hts := atoms_spec (ws := wsX10_told) B.pre
  have hown : s.vm.findClass RX10 = some m.cls := findClass_of_methodNamed B.named
  have hlocks := B.notSynchronized
  subst hsz
  have hD := hD0.self (sz := s.heap.size)
  generalize hAe : va_A [(a_t, .inr (10, [.ref a_t_race, .ref a_t_kept, .ref a_t_trail, .ref a_t_doubts, .ref a_t_foretelling, .ref a_t_text, .ref a_t_listing, .int t_isKept])), (a_t_race, .inr (4, [.ref a_t_race_way, .ref a_t_race_guns, .ref a_t_race_runners])), (a_t_race_guns, .inr (2, [.ref a_t_race_guns_ticks])), (a_t_race_guns_ticks, .inl (cI, 6, .inl t_race_guns_ticks)), (a_t_race_runners, .inr (6, [.ref a_t_race_runners_facts, .ref a_t_race_runners_splits, .ref a_t_race_runners_torn, .ref a_t_race_runners_dropped, .ref a_t_race_runners_waved, .ref a_t_race_runners_struck, .ref a_t_race_runners_strikingOrder, .int t_race_runners_entered, .int t_race_runners_strikings])), (a_t_race_runners_dropped, .inl (cZ, 60, .inl t_race_runners_dropped)), (a_t_race_runners_facts, .inl (cI, 360, .inl t_race_runners_facts)), (a_t_race_runners_splits, .inl (cI, 720, .inl t_race_runners_splits)), (a_t_race_runners_struck, .inl (cZ, 60, .inl t_race_runners_struck)), (a_t_race_runners_torn, .inl (cI, 60, .inl t_race_runners_torn)), (a_t_race_runners_waved, .inl (cZ, 60, .inl t_race_runners_waved)), (a_t_race_way, .inr (9, [.ref a_t_race_way_places, .ref a_t_race_way_bearings, .ref a_t_race_way_cuts, .ref a_t_race_way_deaths, .int t_race_way_mats])), (a_t_race_way_cuts, .inl (cI, 12, .inl t_race_way_cuts)), (a_t_race_way_places, .inl (cI, 12, .inl t_race_way_places))] s.heap.size = A at hD hZ ⊢
  have hA : ∀ q : Nat, s.heap.size ≤ q → A q := fun q h => by rw [← hAe]; exact Or.inr h
  have hS : va_S A s.heap s.heap [] := va_S.rf
  have hl := lv_entry ([.ref a_t, .int x1, .int x2]) (n := 3) (Nat.le_of_ble_eq_true rfl)
  rw [lg_entry_eq]
  generalize (lg_sl ([.ref a_t, .int x1, .int x2]) ++ List.replicate (3 - (lg_sl ([.ref a_t, .int x1, .int x2])).length) Slot.unset).toArray = ls at hl ⊢
  have hl : lv_has ls 3 [(0, .ref a_t), (1, .int x1), (2, .int x2)] := hl
  unfold fX10_told at h
  refine lv_aload_n hx hb dX10_told_0 rfl (lv_at hl 0 rfl) ?_
  refine va_get (D := D) (ci := 10) (C := RX10) (T := TX10) (N := 8) hx hb hts qX10_told_X10 hown hK hP 0 rfl rfl 0 (by decide) (hts _ kX10_told_0) (fun _ h9 => h9) rfl dX10_told_1 ?_
  refine lv_iload_n hx hb dX10_told_4 rfl (lv_at hl 1 rfl) ?_
  refine lv_iload_n hx hb dX10_told_5 rfl (lv_at hl 2 rfl) ?_
  obtain ⟨r1, e2, h⟩ := zz_b h
  refine zVi (As := [.int x1, .int x2]) (rest := []) (C := RX4) (wr := [(a_t, .inr (10, [.ref a_t_race, .ref a_t_kept, .ref a_t_trail, .ref a_t_doubts, .ref a_t_foretelling, .ref a_t_text, .ref a_t_listing, .int t_isKept]))]) [1, 2, 3, 4, 5, 6, 7, 8, 9, 10, 11, 12, 13] [0] 0 ⟨hx, hb, hml, hown, hts⟩ (mX4_tell l D cB cI cZ a_t_race a_t_race_way a_t_race_guns a_t_race_runners a_t_race_guns_ticks a_t_race_runners_facts a_t_race_runners_splits a_t_race_runners_torn a_t_race_runners_dropped a_t_race_runners_waved a_t_race_runners_struck a_t_race_runners_strikingOrder a_t_race_way_places a_t_race_way_bearings a_t_race_way_cuts a_t_race_way_deaths t_race_guns_ticks t_race_runners_entered t_race_runners_strikings t_race_runners_dropped t_race_runners_facts t_race_runners_splits t_race_runners_struck t_race_runners_torn t_race_runners_waved t_race_way_mats t_race_way_cuts t_race_way_places s.heap.size x1 x2 N r1 e2) (cwV 2 hts gX10_told_X4_tell rfl rfl rfl (by decide +kernel) ⟨Nat.le_of_ble_eq_true rfl, Nat.le_of_ble_eq_true rfl⟩) hK hN hZ hP hD hS hA rfl rfl rfl rfl rfl rfl rfl rfl hl.1 rfl (lv_room (Nat.le_of_ble_eq_true rfl)) dX10_told_6 ⟨Nat.le_of_ble_eq_true rfl, Nat.le_of_ble_eq_true rfl⟩ (fun H locs hP hD hS => ?_)
  have hP : va_P D vwCl [(a_t, .inr (10, [.ref a_t_race, .ref a_t_kept, .ref a_t_trail, .ref a_t_doubts, .ref a_t_foretelling, .ref a_t_text, .ref a_t_listing, .int t_isKept])), (a_t_race, .inr (4, [.ref a_t_race_way, .ref a_t_race_guns, .ref a_t_race_runners])), (a_t_race_guns, .inr (2, [.ref a_t_race_guns_ticks])), (a_t_race_guns_ticks, .inl (cI, 6, .inl t_race_guns_ticks)), (a_t_race_runners, .inr (6, [.ref a_t_race_runners_facts, .ref a_t_race_runners_splits, .ref a_t_race_runners_torn, .ref a_t_race_runners_dropped, .ref a_t_race_runners_waved, .ref a_t_race_runners_struck, .ref a_t_race_runners_strikingOrder, .int t_race_runners_entered, .int t_race_runners_strikings])), (a_t_race_runners_dropped, .inl (cZ, 60, .inl t_race_runners_dropped)), (a_t_race_runners_facts, .inl (cI, 360, .inl t_race_runners_facts)), (a_t_race_runners_splits, .inl (cI, 720, .inl t_race_runners_splits)), (a_t_race_runners_struck, .inl (cZ, 60, .inl t_race_runners_struck)), (a_t_race_runners_torn, .inl (cI, 60, .inl t_race_runners_torn)), (a_t_race_runners_waved, .inl (cZ, 60, .inl t_race_runners_waved)), (a_t_race_way, .inr (9, [.ref a_t_race_way_places, .ref a_t_race_way_bearings, .ref a_t_race_way_cuts, .ref a_t_race_way_deaths, .int t_race_way_mats])), (a_t_race_way_cuts, .inl (cI, 12, .inl t_race_way_cuts)), (a_t_race_way_places, .inl (cI, 12, .inl t_race_way_places))] H := hP
  have hD : va_D A [(a_t, .inr (10, [.ref a_t_race, .ref a_t_kept, .ref a_t_trail, .ref a_t_doubts, .ref a_t_foretelling, .ref a_t_text, .ref a_t_listing, .int t_isKept])), (a_t_race, .inr (4, [.ref a_t_race_way, .ref a_t_race_guns, .ref a_t_race_runners])), (a_t_race_guns, .inr (2, [.ref a_t_race_guns_ticks])), (a_t_race_guns_ticks, .inl (cI, 6, .inl t_race_guns_ticks)), (a_t_race_runners, .inr (6, [.ref a_t_race_runners_facts, .ref a_t_race_runners_splits, .ref a_t_race_runners_torn, .ref a_t_race_runners_dropped, .ref a_t_race_runners_waved, .ref a_t_race_runners_struck, .ref a_t_race_runners_strikingOrder, .int t_race_runners_entered, .int t_race_runners_strikings])), (a_t_race_runners_dropped, .inl (cZ, 60, .inl t_race_runners_dropped)), (a_t_race_runners_facts, .inl (cI, 360, .inl t_race_runners_facts)), (a_t_race_runners_splits, .inl (cI, 720, .inl t_race_runners_splits)), (a_t_race_runners_struck, .inl (cZ, 60, .inl t_race_runners_struck)), (a_t_race_runners_torn, .inl (cI, 60, .inl t_race_runners_torn)), (a_t_race_runners_waved, .inl (cZ, 60, .inl t_race_runners_waved)), (a_t_race_way, .inr (9, [.ref a_t_race_way_places, .ref a_t_race_way_bearings, .ref a_t_race_way_cuts, .ref a_t_race_way_deaths, .int t_race_way_mats])), (a_t_race_way_cuts, .inl (cI, 12, .inl t_race_way_cuts)), (a_t_race_way_places, .inl (cI, 12, .inl t_race_way_places))] := hD
  have j0_ := Option.some.inj h
  subst j0_
  exact W.iret (v := r1) hx hb hr (fun t ht hW => ⟨⟨_, (), rfl, rfl, zPost.of hP hD hK ht hW [0, 1, 2, 3, 4, 5, 6, 7, 8, 9, 10, 11, 12, 13] rfl rfl rfl⟩, hS.F ht⟩) hS.2.2 dX10_told_9
/-! RunDesk.split -/
theorem dX10_split_0 : decode cX10_split 0 = .ok (.aload_n 0, 1) := by decide +kernel
theorem dX10_split_1 : decode cX10_split 1 = .ok (.getfield 10, 3) := by decide +kernel
theorem dX10_split_4 : decode cX10_split 4 = .ok (.iload_n 1, 1) := by decide +kernel
theorem dX10_split_5 : decode cX10_split 5 = .ok (.iload_n 2, 1) := by decide +kernel
theorem dX10_split_6 : decode cX10_split 6 = .ok (.invokevirtual 101, 3) := by decide +kernel
theorem dX10_split_9 : decode cX10_split 9 = .ok (.ifCond .eq 18, 3) := by decide +kernel
theorem dX10_split_12 : decode cX10_split 12 = .ok (.aload_n 0, 1) := by decide +kernel
theorem dX10_split_13 : decode cX10_split 13 = .ok (.getfield 10, 3) := by decide +kernel
theorem dX10_split_16 : decode cX10_split 16 = .ok (.getfield 77, 3) := by decide +kernel
theorem dX10_split_19 : decode cX10_split 19 = .ok (.iload_n 1, 1) := by decide +kernel
theorem dX10_split_20 : decode cX10_split 20 = .ok (.iload_n 2, 1) := by decide +kernel
theorem dX10_split_21 : decode cX10_split 21 = .ok (.invokevirtual 142, 3) := by decide +kernel
theorem dX10_split_24 : decode cX10_split 24 = .ok (.goto 4, 3) := by decide +kernel
theorem dX10_split_27 : decode cX10_split 27 = .ok (.iconst (-1), 1) := by decide +kernel
theorem dX10_split_28 : decode cX10_split 28 = .ok (.ireturn, 1) := by decide +kernel
set_option maxRecDepth 20000 in
theorem ggX10_split_X4_hasCell : GoodIn wsX10_split wsX4_hasCell := goodIn_r _ [6, 7, 8, 9, 10, 11, 12, 13, 14, 15, 16, 17, 18, 19, 20, 35, 36, 37, 38, 39, 40, 41, 42, 43, 44, 45, 46, 47, 48, 49, 50, 51] (by decide +kernel) (by decide +kernel)
set_option maxRecDepth 20000 in
theorem gX10_split_X4_hasCell : GoodIn wsX10_split (wsV RX10 101 RX4 yX4_hasCell wsX4_hasCell) := goodIn_app (goodIn_of _ (by decide +kernel)) ggX10_split_X4_hasCell
set_option maxRecDepth 20000 in
theorem ggX10_split_X6_splitAt : GoodIn wsX10_split wsX6_splitAt := goodIn_r _ [24, 25, 26, 10, 11, 12, 13, 14, 38, 39, 40, 41, 42, 43, 44, 45, 46] (by decide +kernel) (by decide +kernel)
set_option maxRecDepth 20000 in
theorem gX10_split_X6_splitAt : GoodIn wsX10_split (wsV RX10 142 RX6 yX6_splitAt wsX6_splitAt) := goodIn_app (goodIn_of _ (by decide +kernel)) ggX10_split_X6_splitAt
theorem kX10_split_0 : (.fieldLink RX10 10 "RunDesk" "race" "LRunDesk$Race;" : Cond) ∈ wsX10_split := List.mem_of_getElem? (i := 1) (by decide +kernel)
theorem qX10_split_X10 : ∀ w ∈ wsX100, w ∈ wsX10_split := fun _ h => List.mem_cons_of_mem _ (List.mem_append_left _ (List.mem_append_left _ (List.mem_append_left _ (List.mem_append_right _ (h)))))
theorem qX10_split_X4 : ∀ w ∈ wsX40, w ∈ wsX10_split := fun _ h => List.mem_cons_of_mem _ (List.mem_append_left _ (List.mem_append_left _ (List.mem_append_right _ (h))))
set_option maxHeartbeats 4000000 in
set_option maxRecDepth 100000 in
theorem mX10_split (l : Launch) (D : va_G) (cB cI cZ : ClassId) (a_t : Nat) (a_t_race : Nat) (a_t_kept : Nat) (a_t_trail : Nat) (a_t_doubts : Nat) (a_t_foretelling : Nat) (a_t_text : Nat) (a_t_listing : Nat) (a_t_race_way : Nat) (a_t_race_guns : Nat) (a_t_race_runners : Nat) (a_t_race_runners_facts : Nat) (a_t_race_runners_splits : Nat) (a_t_race_runners_torn : Nat) (a_t_race_runners_dropped : Nat) (a_t_race_runners_waved : Nat) (a_t_race_runners_struck : Nat) (a_t_race_runners_strikingOrder : Nat) (a_t_race_way_places : Nat) (a_t_race_way_bearings : Nat) (a_t_race_way_cuts : Nat) (a_t_race_way_deaths : Nat) (t_isKept : Int32) (t_race_runners_entered : Int32) (t_race_runners_strikings : Int32) (t_race_runners_splits : Nat → Int32) (t_race_way_mats : Int32) (sz : Nat) (x1 : Int32) (x2 : Int32) (r0 : Int32) (h : fX10_split t_race_runners_entered t_race_runners_splits t_race_way_mats x1 x2 = some (r0)) : Met l yX10_split wsX10_split ({ frames := 2, cells := 0, slots := 0, locals := 43 } : Room) (va_Pc [.ref a_t, .int x1, .int x2] (zPre D (zT cB cI cZ) [(a_t, .inr (10, [.ref a_t_race, .ref a_t_kept, .ref a_t_trail, .ref a_t_doubts, .ref a_t_foretelling, .ref a_t_text, .ref a_t_listing, .int t_isKept])), (a_t_race, .inr (4, [.ref a_t_race_way, .ref a_t_race_guns, .ref a_t_race_runners])), (a_t_race_runners, .inr (6, [.ref a_t_race_runners_facts, .ref a_t_race_runners_splits, .ref a_t_race_runners_torn, .ref a_t_race_runners_dropped, .ref a_t_race_runners_waved, .ref a_t_race_runners_struck, .ref a_t_race_runners_strikingOrder, .int t_race_runners_entered, .int t_race_runners_strikings])), (a_t_race_runners_splits, .inl (cI, 720, .inl t_race_runners_splits)), (a_t_race_way, .inr (9, [.ref a_t_race_way_places, .ref a_t_race_way_bearings, .ref a_t_race_way_cuts, .ref a_t_race_way_deaths, .int t_race_way_mats]))] sz)) (zQi r0 D (zT cB cI cZ) [(a_t, .inr (10, [.ref a_t_race, .ref a_t_kept, .ref a_t_trail, .ref a_t_doubts, .ref a_t_foretelling, .ref a_t_text, .ref a_t_listing, .int t_isKept])), (a_t_race, .inr (4, [.ref a_t_race_way, .ref a_t_race_guns, .ref a_t_race_runners])), (a_t_race_runners, .inr (6, [.ref a_t_race_runners_facts, .ref a_t_race_runners_splits, .ref a_t_race_runners_torn, .ref a_t_race_runners_dropped, .ref a_t_race_runners_waved, .ref a_t_race_runners_struck, .ref a_t_race_runners_strikingOrder, .int t_race_runners_entered, .int t_race_runners_strikings])), (a_t_race_runners_splits, .inl (cI, 720, .inl t_race_runners_splits)), (a_t_race_way, .inr (9, [.ref a_t_race_way_places, .ref a_t_race_way_bearings, .ref a_t_race_way_cuts, .ref a_t_race_way_deaths, .int t_race_way_mats]))] (va_A [(a_t, .inr (10, [.ref a_t_race, .ref a_t_kept, .ref a_t_trail, .ref a_t_doubts, .ref a_t_foretelling, .ref a_t_text, .ref a_t_listing, .int t_isKept])), (a_t_race, .inr (4, [.ref a_t_race_way, .ref a_t_race_guns, .ref a_t_race_runners])), (a_t_race_runners, .inr (6, [.ref a_t_race_runners_facts, .ref a_t_race_runners_splits, .ref a_t_race_runners_torn, .ref a_t_race_runners_dropped, .ref a_t_race_runners_waved, .ref a_t_race_runners_struck, .ref a_t_race_runners_strikingOrder, .int t_race_runners_entered, .int t_race_runners_strikings])), (a_t_race_runners_splits, .inl (cI, 720, .inl t_race_runners_splits)), (a_t_race_way, .inr (9, [.ref a_t_race_way_places, .ref a_t_race_way_bearings, .ref a_t_race_way_cuts, .ref a_t_race_way_deaths, .int t_race_way_mats]))] sz)) 0 0 (va_A [(a_t, .inr (10, [.ref a_t_race, .ref a_t_kept, .ref a_t_trail, .ref a_t_doubts, .ref a_t_foretelling, .ref a_t_text, .ref a_t_listing, .int t_isKept])), (a_t_race, .inr (4, [.ref a_t_race_way, .ref a_t_race_guns, .ref a_t_race_runners])), (a_t_race_runners, .inr (6, [.ref a_t_race_runners_facts, .ref a_t_race_runners_splits, .ref a_t_race_runners_torn, .ref a_t_race_runners_dropped, .ref a_t_race_runners_waved, .ref a_t_race_runners_struck, .ref a_t_race_runners_strikingOrder, .int t_race_runners_entered, .int t_race_runners_strikings])), (a_t_race_runners_splits, .inl (cI, 720, .inl t_race_runners_splits)), (a_t_race_way, .inr (9, [.ref a_t_race_way_places, .ref a_t_race_way_bearings, .ref a_t_race_way_cuts, .ref a_t_race_way_deaths, .int t_race_way_mats]))] sz) := by
  refine Met.ofW (cc := cX10_split) (maxL := 3) (ret := (some .int)) (by decide) rfl ?_
  intro p e s m args below meth c s₁ B hml hv
  obtain ⟨rfl, hsz, hP, hK, hN, hZ, hD0⟩ := hv
  have hx := B.exec
  have hb := B.bytes
  have hr := B.returns
  have hts := atoms_spec (ws := wsX10_split) B.pre
  have hown : s.vm.findClass RX10 = some m.cls := findClass_of_methodNamed B.named
  have hlocks := B.notSynchronized
  subst hsz
  have hD := hD0.self (sz := s.heap.size)
  generalize hAe : va_A [(a_t, .inr (10, [.ref a_t_race, .ref a_t_kept, .ref a_t_trail, .ref a_t_doubts, .ref a_t_foretelling, .ref a_t_text, .ref a_t_listing, .int t_isKept])), (a_t_race, .inr (4, [.ref a_t_race_way, .ref a_t_race_guns, .ref a_t_race_runners])), (a_t_race_runners, .inr (6, [.ref a_t_race_runners_facts, .ref a_t_race_runners_splits, .ref a_t_race_runners_torn, .ref a_t_race_runners_dropped, .ref a_t_race_runners_waved, .ref a_t_race_runners_struck, .ref a_t_race_runners_strikingOrder, .int t_race_runners_entered, .int t_race_runners_strikings])), (a_t_race_runners_splits, .inl (cI, 720, .inl t_race_runners_splits)), (a_t_race_way, .inr (9, [.ref a_t_race_way_places, .ref a_t_race_way_bearings, .ref a_t_race_way_cuts, .ref a_t_race_way_deaths, .int t_race_way_mats]))] s.heap.size = A at hD hZ ⊢
  have hA : ∀ q : Nat, s.heap.size ≤ q → A q := fun q h => by rw [← hAe]; exact Or.inr h
  have hS : va_S A s.heap s.heap [] := va_S.rf
  have hl := lv_entry ([.ref a_t, .int x1, .int x2]) (n := 3) (Nat.le_of_ble_eq_true rfl)
  rw [lg_entry_eq]
  generalize (lg_sl ([.ref a_t, .int x1, .int x2]) ++ List.replicate (3 - (lg_sl ([.ref a_t, .int x1, .int x2])).length) Slot.unset).toArray = ls at hl ⊢
  have hl : lv_has ls 3 [(0, .ref a_t), (1, .int x1), (2, .int x2)] := hl
  unfold fX10_split at h
  refine lv_aload_n hx hb dX10_split_0 rfl (lv_at hl 0 rfl) ?_
  refine va_get (D := D) (ci := 10) (C := RX10) (T := TX10) (N := 8) hx hb hts qX10_split_X10 hown hK hP 0 rfl rfl 0 (by decide) (hts _ kX10_split_0) (fun _ h9 => h9) rfl dX10_split_1 ?_
  refine lv_iload_n hx hb dX10_split_4 rfl (lv_at hl 1 rfl) ?_
  refine lv_iload_n hx hb dX10_split_5 rfl (lv_at hl 2 rfl) ?_
  obtain ⟨b1, e2, h⟩ := zz_b h
  refine zVi (As := [.int x1, .int x2]) (rest := []) (C := RX4) (wr := [(a_t, .inr (10, [.ref a_t_race, .ref a_t_kept, .ref a_t_trail, .ref a_t_doubts, .ref a_t_foretelling, .ref a_t_text, .ref a_t_listing, .int t_isKept])), (a_t_race_runners_splits, .inl (cI, 720, .inl t_race_runners_splits))]) [1, 2, 4] [0, 3] 0 ⟨hx, hb, hml, hown, hts⟩ (mX4_hasCell l D cB cI cZ a_t_race a_t_race_way a_t_race_guns a_t_race_runners a_t_race_runners_facts a_t_race_runners_splits a_t_race_runners_torn a_t_race_runners_dropped a_t_race_runners_waved a_t_race_runners_struck a_t_race_runners_strikingOrder a_t_race_way_places a_t_race_way_bearings a_t_race_way_cuts a_t_race_way_deaths t_race_runners_entered t_race_runners_strikings t_race_way_mats s.heap.size x1 x2 b1 e2) (cwV 2 hts gX10_split_X4_hasCell rfl rfl rfl (by decide +kernel) ⟨Nat.le_of_ble_eq_true rfl, Nat.le_of_ble_eq_true rfl⟩) hK hN hZ hP hD hS hA rfl rfl rfl rfl rfl rfl rfl rfl hl.1 rfl (lv_room (Nat.le_of_ble_eq_true rfl)) dX10_split_6 ⟨Nat.le_of_ble_eq_true rfl, Nat.le_of_ble_eq_true rfl⟩ (fun H locs hP hD hS => ?_)
  have hP : va_P D vwCl [(a_t, .inr (10, [.ref a_t_race, .ref a_t_kept, .ref a_t_trail, .ref a_t_doubts, .ref a_t_foretelling, .ref a_t_text, .ref a_t_listing, .int t_isKept])), (a_t_race_runners_splits, .inl (cI, 720, .inl t_race_runners_splits)), (a_t_race, .inr (4, [.ref a_t_race_way, .ref a_t_race_guns, .ref a_t_race_runners])), (a_t_race_runners, .inr (6, [.ref a_t_race_runners_facts, .ref a_t_race_runners_splits, .ref a_t_race_runners_torn, .ref a_t_race_runners_dropped, .ref a_t_race_runners_waved, .ref a_t_race_runners_struck, .ref a_t_race_runners_strikingOrder, .int t_race_runners_entered, .int t_race_runners_strikings])), (a_t_race_way, .inr (9, [.ref a_t_race_way_places, .ref a_t_race_way_bearings, .ref a_t_race_way_cuts, .ref a_t_race_way_deaths, .int t_race_way_mats]))] H := hP
  have hD : va_D A [(a_t, .inr (10, [.ref a_t_race, .ref a_t_kept, .ref a_t_trail, .ref a_t_doubts, .ref a_t_foretelling, .ref a_t_text, .ref a_t_listing, .int t_isKept])), (a_t_race_runners_splits, .inl (cI, 720, .inl t_race_runners_splits)), (a_t_race, .inr (4, [.ref a_t_race_way, .ref a_t_race_guns, .ref a_t_race_runners])), (a_t_race_runners, .inr (6, [.ref a_t_race_runners_facts, .ref a_t_race_runners_splits, .ref a_t_race_runners_torn, .ref a_t_race_runners_dropped, .ref a_t_race_runners_waved, .ref a_t_race_runners_struck, .ref a_t_race_runners_strikingOrder, .int t_race_runners_entered, .int t_race_runners_strikings])), (a_t_race_way, .inr (9, [.ref a_t_race_way_places, .ref a_t_race_way_bearings, .ref a_t_race_way_cuts, .ref a_t_race_way_deaths, .int t_race_way_mats]))] := hD
  refine lv_if_eq (tgt := 27) hx hb dX10_split_9 (by decide) (fun c3 => ?_) (fun c3 => ?_)
  · have h := zz_t h c3
    refine lv_iconst (v := (-1 : Int32)) hx hb dX10_split_27 rfl ?_
    have j0_ := Option.some.inj h
    subst j0_
    exact W.iret (v := (-1 : Int32)) hx hb hr (fun t ht hW => ⟨⟨_, (), rfl, rfl, zPost.of hP hD hK ht hW [0, 2, 3, 1, 4] rfl rfl rfl⟩, hS.F ht⟩) hS.2.2 dX10_split_28
  · have h := zz_f h c3
    refine lv_aload_n hx hb dX10_split_12 rfl (lv_at hl 0 rfl) ?_
    refine va_get (D := D) (ci := 10) (C := RX10) (T := TX10) (N := 8) hx hb hts qX10_split_X10 hown hK hP 0 rfl rfl 0 (by decide) (hts _ kX10_split_0) (fun _ h9 => h9) rfl dX10_split_13 ?_
    refine va_getN (host := "RunDesk") (D := D) (ci := 4) (C := RX4) (T := TX4) (N := 3) hx hb hts qX10_split_X4 hown hK hP 2 rfl rfl 2 (by decide) (va_Nw.use rfl (hN _ (List.mem_of_getElem? (i := 10) rfl))) (fun _ h9 => h9) rfl dX10_split_16 ?_
    refine lv_iload_n hx hb dX10_split_19 rfl (lv_at hl 1 rfl) ?_
    refine lv_iload_n hx hb dX10_split_20 rfl (lv_at hl 2 rfl) ?_
    obtain ⟨r4, e5, h⟩ := zz_b h
    refine zVi (As := [.int x1, .int x2]) (rest := []) (C := RX6) (wr := [(a_t, .inr (10, [.ref a_t_race, .ref a_t_kept, .ref a_t_trail, .ref a_t_doubts, .ref a_t_foretelling, .ref a_t_text, .ref a_t_listing, .int t_isKept])), (a_t_race, .inr (4, [.ref a_t_race_way, .ref a_t_race_guns, .ref a_t_race_runners])), (a_t_race_way, .inr (9, [.ref a_t_race_way_places, .ref a_t_race_way_bearings, .ref a_t_race_way_cuts, .ref a_t_race_way_deaths, .int t_race_way_mats]))]) [3, 1] [0, 2, 4] 0 ⟨hx, hb, hml, hown, hts⟩ (mX6_splitAt l D cB cI cZ a_t_race_runners a_t_race_runners_facts a_t_race_runners_splits a_t_race_runners_torn a_t_race_runners_dropped a_t_race_runners_waved a_t_race_runners_struck a_t_race_runners_strikingOrder t_race_runners_entered t_race_runners_strikings t_race_runners_splits H.size x1 x2 r4 e5) (cwV 2 hts gX10_split_X6_splitAt rfl rfl rfl (by decide +kernel) ⟨Nat.le_of_ble_eq_true rfl, Nat.le_of_ble_eq_true rfl⟩) hK hN hZ hP hD hS hA rfl rfl rfl rfl rfl rfl rfl rfl hl.1 rfl (lv_room (Nat.le_of_ble_eq_true rfl)) dX10_split_21 ⟨Nat.le_of_ble_eq_true rfl, Nat.le_of_ble_eq_true rfl⟩ (fun H locs hP hD hS => ?_)
    have hP : va_P D vwCl [(a_t, .inr (10, [.ref a_t_race, .ref a_t_kept, .ref a_t_trail, .ref a_t_doubts, .ref a_t_foretelling, .ref a_t_text, .ref a_t_listing, .int t_isKept])), (a_t_race, .inr (4, [.ref a_t_race_way, .ref a_t_race_guns, .ref a_t_race_runners])), (a_t_race_way, .inr (9, [.ref a_t_race_way_places, .ref a_t_race_way_bearings, .ref a_t_race_way_cuts, .ref a_t_race_way_deaths, .int t_race_way_mats])), (a_t_race_runners, .inr (6, [.ref a_t_race_runners_facts, .ref a_t_race_runners_splits, .ref a_t_race_runners_torn, .ref a_t_race_runners_dropped, .ref a_t_race_runners_waved, .ref a_t_race_runners_struck, .ref a_t_race_runners_strikingOrder, .int t_race_runners_entered, .int t_race_runners_strikings])), (a_t_race_runners_splits, .inl (cI, 720, .inl t_race_runners_splits))] H := hP
    have hD : va_D A [(a_t, .inr (10, [.ref a_t_race, .ref a_t_kept, .ref a_t_trail, .ref a_t_doubts, .ref a_t_foretelling, .ref a_t_text, .ref a_t_listing, .int t_isKept])), (a_t_race, .inr (4, [.ref a_t_race_way, .ref a_t_race_guns, .ref a_t_race_runners])), (a_t_race_way, .inr (9, [.ref a_t_race_way_places, .ref a_t_race_way_bearings, .ref a_t_race_way_cuts, .ref a_t_race_way_deaths, .int t_race_way_mats])), (a_t_race_runners, .inr (6, [.ref a_t_race_runners_facts, .ref a_t_race_runners_splits, .ref a_t_race_runners_torn, .ref a_t_race_runners_dropped, .ref a_t_race_runners_waved, .ref a_t_race_runners_struck, .ref a_t_race_runners_strikingOrder, .int t_race_runners_entered, .int t_race_runners_strikings])), (a_t_race_runners_splits, .inl (cI, 720, .inl t_race_runners_splits))] := hD
    refine lv_goto (tgt := 28) hx hb dX10_split_24 (by decide) ?_
    have j0_ := Option.some.inj h
    subst j0_
    exact W.iret (v := r4) hx hb hr (fun t ht hW => ⟨⟨_, (), rfl, rfl, zPost.of hP hD hK ht hW [0, 1, 3, 4, 2] rfl rfl rfl⟩, hS.F ht⟩) hS.2.2 dX10_split_28
/-! RunDesk.guess -/
theorem dX10_guess_0 : decode cX10_guess 0 = .ok (.aload_n 0, 1) := by decide +kernel
theorem dX10_guess_1 : decode cX10_guess 1 = .ok (.getfield 10, 3) := by decide +kernel
theorem dX10_guess_4 : decode cX10_guess 4 = .ok (.iload_n 1, 1) := by decide +kernel
theorem dX10_guess_5 : decode cX10_guess 5 = .ok (.iload_n 2, 1) := by decide +kernel
theorem dX10_guess_6 : decode cX10_guess 6 = .ok (.invokevirtual 101, 3) := by decide +kernel
theorem dX10_guess_9 : decode cX10_guess 9 = .ok (.ifCond .ne 5, 3) := by decide +kernel
theorem dX10_guess_12 : decode cX10_guess 12 = .ok (.iconst (-1), 1) := by decide +kernel
theorem dX10_guess_13 : decode cX10_guess 13 = .ok (.ireturn, 1) := by decide +kernel
theorem dX10_guess_14 : decode cX10_guess 14 = .ok (.aload_n 0, 1) := by decide +kernel
theorem dX10_guess_15 : decode cX10_guess 15 = .ok (.getfield 22, 3) := by decide +kernel
theorem dX10_guess_18 : decode cX10_guess 18 = .ok (.aload_n 0, 1) := by decide +kernel
theorem dX10_guess_19 : decode cX10_guess 19 = .ok (.getfield 10, 3) := by decide +kernel
theorem dX10_guess_22 : decode cX10_guess 22 = .ok (.iload_n 1, 1) := by decide +kernel
theorem dX10_guess_23 : decode cX10_guess 23 = .ok (.invokevirtual 145, 3) := by decide +kernel
theorem dX10_guess_26 : decode cX10_guess 26 = .ok (.iload_n 3, 1) := by decide +kernel
theorem dX10_guess_27 : decode cX10_guess 27 = .ok (.ifCond .eq 14, 3) := by decide +kernel
theorem dX10_guess_30 : decode cX10_guess 30 = .ok (.aload_n 0, 1) := by decide +kernel
theorem dX10_guess_31 : decode cX10_guess 31 = .ok (.getfield 22, 3) := by decide +kernel
theorem dX10_guess_34 : decode cX10_guess 34 = .ok (.iload_n 2, 1) := by decide +kernel
theorem dX10_guess_35 : decode cX10_guess 35 = .ok (.invokevirtual 149, 3) := by decide +kernel
theorem dX10_guess_38 : decode cX10_guess 38 = .ok (.goto 11, 3) := by decide +kernel
theorem dX10_guess_41 : decode cX10_guess 41 = .ok (.aload_n 0, 1) := by decide +kernel
theorem dX10_guess_42 : decode cX10_guess 42 = .ok (.getfield 22, 3) := by decide +kernel
theorem dX10_guess_45 : decode cX10_guess 45 = .ok (.iload_n 2, 1) := by decide +kernel
theorem dX10_guess_46 : decode cX10_guess 46 = .ok (.invokevirtual 153, 3) := by decide +kernel
theorem dX10_guess_49 : decode cX10_guess 49 = .ok (.ireturn, 1) := by decide +kernel
set_option maxRecDepth 20000 in
theorem ggX10_guess_X4_hasCell : GoodIn wsX10_guess wsX4_hasCell := goodIn_r _ [7, 8, 9, 10, 11, 12, 13, 14, 15, 16, 17, 18, 19, 20, 21, 130, 131, 132, 133, 134, 135, 136, 137, 138, 139, 140, 141, 142, 143, 144, 145, 146] (by decide +kernel) (by decide +kernel)
set_option maxRecDepth 20000 in
theorem gX10_guess_X4_hasCell : GoodIn wsX10_guess (wsV RX10 101 RX4 yX4_hasCell wsX4_hasCell) := goodIn_app (goodIn_of _ (by decide +kernel)) ggX10_guess_X4_hasCell
set_option maxRecDepth 20000 in
theorem ggX10_guess_X8_follow : GoodIn wsX10_guess wsX8_follow := goodIn_r _ [26, 27, 28, 29, 30, 31, 32, 33, 34, 13, 35, 15, 36, 37, 38, 39, 40, 41, 42, 43, 44, 19, 45, 21, 46, 47, 48, 6, 49, 8, 50, 51, 52, 53, 54, 55, 11, 12, 14, 56, 57, 58, 59, 60, 61, 62, 63, 64, 65, 66, 67, 68, 69, 70, 71, 72, 73, 74, 17, 18, 20, 130, 131, 132, 147, 148, 149, 150, 151, 133, 134, 135, 136, 137, 138, 139, 140, 141, 142, 143, 144, 145, 146, 152] (by decide +kernel) (by decide +kernel)
set_option maxRecDepth 20000 in
theorem gX10_guess_X8_follow : GoodIn wsX10_guess (wsV RX10 145 RX8 yX8_follow wsX8_follow) := goodIn_app (goodIn_of _ (by decide +kernel)) ggX10_guess_X8_follow
set_option maxRecDepth 20000 in
theorem ggX10_guess_X8_greatestGuess : GoodIn wsX10_guess wsX8_greatestGuess := goodIn_r _ [78, 79, 80, 81, 82, 83, 84, 85, 86, 87, 88, 25, 89, 90, 91, 92, 93, 94, 95, 96, 97, 29, 30, 98, 99, 100, 101, 28, 102, 103, 104, 105, 31, 106, 38, 107, 108, 109, 110, 111, 112, 113, 114, 115, 27, 116, 117, 147, 148, 149, 150, 151] (by decide +kernel) (by decide +kernel)
set_option maxRecDepth 20000 in
theorem gX10_guess_X8_greatestGuess : GoodIn wsX10_guess (wsV RX10 149 RX8 yX8_greatestGuess wsX8_greatestGuess) := goodIn_app (goodIn_of _ (by decide +kernel)) ggX10_guess_X8_greatestGuess
set_option maxRecDepth 20000 in
theorem ggX10_guess_X8_leastGuess : GoodIn wsX10_guess wsX8_leastGuess := goodIn_r _ [121, 83, 84, 81, 85, 86, 87, 88, 25, 89, 90, 91, 92, 93, 94, 95, 96, 97, 29, 30, 112, 113, 114, 115, 27, 102, 103, 104, 105, 31, 116, 38, 117, 108, 109, 110, 111, 98, 99, 100, 101, 28, 106, 107, 147, 148, 149, 150, 151] (by decide +kernel) (by decide +kernel)
set_option maxRecDepth 20000 in
theorem gX10_guess_X8_leastGuess : GoodIn wsX10_guess (wsV RX10 153 RX8 yX8_leastGuess wsX8_leastGuess) := goodIn_app (goodIn_of _ (by decide +kernel)) ggX10_guess_X8_leastGuess
theorem kX10_guess_0 : (.fieldLink RX10 10 "RunDesk" "race" "LRunDesk$Race;" : Cond) ∈ wsX10_guess := List.mem_of_getElem? (i := 1) (by decide +kernel)
theorem qX10_guess_X10 : ∀ w ∈ wsX100, w ∈ wsX10_guess := fun _ h => List.mem_cons_of_mem _ (List.mem_append_left _ (List.mem_append_left _ (List.mem_append_left _ (List.mem_append_left _ (List.mem_append_left _ (List.mem_append_right _ (h)))))))
theorem kX10_guess_2 : (.fieldLink RX10 22 "RunDesk" "trail" "LRunDesk$Trail;" : Cond) ∈ wsX10_guess := List.mem_of_getElem? (i := 2) (by decide +kernel)
set_option maxHeartbeats 4000000 in
set_option maxRecDepth 100000 in
theorem mX10_guess (l : Launch) (D : va_G) (cB cI cZ : ClassId) (a_t : Nat) (a_t_race : Nat) (a_t_kept : Nat) (a_t_trail : Nat) (a_t_doubts : Nat) (a_t_foretelling : Nat) (a_t_text : Nat) (a_t_listing : Nat) (a_t_race_way : Nat) (a_t_race_guns : Nat) (a_t_race_runners : Nat) (a_t_race_guns_ticks : Nat) (a_t_race_runners_facts : Nat) (a_t_race_runners_splits : Nat) (a_t_race_runners_torn : Nat) (a_t_race_runners_dropped : Nat) (a_t_race_runners_waved : Nat) (a_t_race_runners_struck : Nat) (a_t_race_runners_strikingOrder : Nat) (a_t_race_way_places : Nat) (a_t_race_way_bearings : Nat) (a_t_race_way_cuts : Nat) (a_t_race_way_deaths : Nat) (a_t_trail_ticks : Nat) (a_t_trail_places : Nat) (t_isKept : Int32) (t_race_guns_ticks : Nat → Int32) (t_race_runners_entered : Int32) (t_race_runners_strikings : Int32) (t_race_runners_facts : Nat → Int32) (t_race_runners_splits : Nat → Int32) (t_race_way_mats : Int32) (t_race_way_places : Nat → Int32) (t_trail_mats : Int32) (t_trail_least : Int32) (t_trail_greatest : Int32) (t_trail_places : Nat → Int32) (t_trail_ticks : Nat → Int32) (sz : Nat) (x1 : Int32) (x2 : Int32) (x3 : Int32) (N : Nat) (r0 : Int32) (t_trail_greatest' : Int32) (t_trail_least' : Int32) (t_trail_mats' : Int32) (t_trail_places' : Nat → Int32) (t_trail_ticks' : Nat → Int32) (h : fX10_guess N t_race_guns_ticks t_race_runners_entered t_race_runners_facts t_race_runners_splits t_race_way_mats t_race_way_places t_trail_greatest t_trail_least t_trail_mats t_trail_places t_trail_ticks x1 x2 x3 = some (r0, t_trail_greatest', t_trail_least', t_trail_mats', t_trail_places', t_trail_ticks')) : Met l yX10_guess wsX10_guess ({ frames := 4, cells := 0, slots := 0, locals := 89 } : Room) (va_Pc [.ref a_t, .int x1, .int x2, .int x3] (zPre D (zT cB cI cZ) [(a_t, .inr (10, [.ref a_t_race, .ref a_t_kept, .ref a_t_trail, .ref a_t_doubts, .ref a_t_foretelling, .ref a_t_text, .ref a_t_listing, .int t_isKept])), (a_t_race, .inr (4, [.ref a_t_race_way, .ref a_t_race_guns, .ref a_t_race_runners])), (a_t_race_guns, .inr (2, [.ref a_t_race_guns_ticks])), (a_t_race_guns_ticks, .inl (cI, 6, .inl t_race_guns_ticks)), (a_t_race_runners, .inr (6, [.ref a_t_race_runners_facts, .ref a_t_race_runners_splits, .ref a_t_race_runners_torn, .ref a_t_race_runners_dropped, .ref a_t_race_runners_waved, .ref a_t_race_runners_struck, .ref a_t_race_runners_strikingOrder, .int t_race_runners_entered, .int t_race_runners_strikings])), (a_t_race_runners_facts, .inl (cI, 360, .inl t_race_runners_facts)), (a_t_race_runners_splits, .inl (cI, 720, .inl t_race_runners_splits)), (a_t_race_way, .inr (9, [.ref a_t_race_way_places, .ref a_t_race_way_bearings, .ref a_t_race_way_cuts, .ref a_t_race_way_deaths, .int t_race_way_mats])), (a_t_race_way_places, .inl (cI, 12, .inl t_race_way_places)), (a_t_trail, .inr (8, [.ref a_t_trail_ticks, .ref a_t_trail_places, .int t_trail_mats, .int t_trail_least, .int t_trail_greatest])), (a_t_trail_places, .inl (cI, 12, .inl t_trail_places)), (a_t_trail_ticks, .inl (cI, 12, .inl t_trail_ticks))] sz)) (zQi r0 D (zT cB cI cZ) [(a_t, .inr (10, [.ref a_t_race, .ref a_t_kept, .ref a_t_trail, .ref a_t_doubts, .ref a_t_foretelling, .ref a_t_text, .ref a_t_listing, .int t_isKept])), (a_t_race, .inr (4, [.ref a_t_race_way, .ref a_t_race_guns, .ref a_t_race_runners])), (a_t_race_guns, .inr (2, [.ref a_t_race_guns_ticks])), (a_t_race_guns_ticks, .inl (cI, 6, .inl t_race_guns_ticks)), (a_t_race_runners, .inr (6, [.ref a_t_race_runners_facts, .ref a_t_race_runners_splits, .ref a_t_race_runners_torn, .ref a_t_race_runners_dropped, .ref a_t_race_runners_waved, .ref a_t_race_runners_struck, .ref a_t_race_runners_strikingOrder, .int t_race_runners_entered, .int t_race_runners_strikings])), (a_t_race_runners_facts, .inl (cI, 360, .inl t_race_runners_facts)), (a_t_race_runners_splits, .inl (cI, 720, .inl t_race_runners_splits)), (a_t_race_way, .inr (9, [.ref a_t_race_way_places, .ref a_t_race_way_bearings, .ref a_t_race_way_cuts, .ref a_t_race_way_deaths, .int t_race_way_mats])), (a_t_race_way_places, .inl (cI, 12, .inl t_race_way_places)), (a_t_trail, .inr (8, [.ref a_t_trail_ticks, .ref a_t_trail_places, .int t_trail_mats', .int t_trail_least', .int t_trail_greatest'])), (a_t_trail_places, .inl (cI, 12, .inl t_trail_places')), (a_t_trail_ticks, .inl (cI, 12, .inl t_trail_ticks'))] (va_A [(a_t, .inr (10, [.ref a_t_race, .ref a_t_kept, .ref a_t_trail, .ref a_t_doubts, .ref a_t_foretelling, .ref a_t_text, .ref a_t_listing, .int t_isKept])), (a_t_race, .inr (4, [.ref a_t_race_way, .ref a_t_race_guns, .ref a_t_race_runners])), (a_t_race_guns, .inr (2, [.ref a_t_race_guns_ticks])), (a_t_race_guns_ticks, .inl (cI, 6, .inl t_race_guns_ticks)), (a_t_race_runners, .inr (6, [.ref a_t_race_runners_facts, .ref a_t_race_runners_splits, .ref a_t_race_runners_torn, .ref a_t_race_runners_dropped, .ref a_t_race_runners_waved, .ref a_t_race_runners_struck, .ref a_t_race_runners_strikingOrder, .int t_race_runners_entered, .int t_race_runners_strikings])), (a_t_race_runners_facts, .inl (cI, 360, .inl t_race_runners_facts)), (a_t_race_runners_splits, .inl (cI, 720, .inl t_race_runners_splits)), (a_t_race_way, .inr (9, [.ref a_t_race_way_places, .ref a_t_race_way_bearings, .ref a_t_race_way_cuts, .ref a_t_race_way_deaths, .int t_race_way_mats])), (a_t_race_way_places, .inl (cI, 12, .inl t_race_way_places)), (a_t_trail, .inr (8, [.ref a_t_trail_ticks, .ref a_t_trail_places, .int t_trail_mats, .int t_trail_least, .int t_trail_greatest])), (a_t_trail_places, .inl (cI, 12, .inl t_trail_places)), (a_t_trail_ticks, .inl (cI, 12, .inl t_trail_ticks))] sz)) 0 0 (va_A [(a_t, .inr (10, [.ref a_t_race, .ref a_t_kept, .ref a_t_trail, .ref a_t_doubts, .ref a_t_foretelling, .ref a_t_text, .ref a_t_listing, .int t_isKept])), (a_t_race, .inr (4, [.ref a_t_race_way, .ref a_t_race_guns, .ref a_t_race_runners])), (a_t_race_guns, .inr (2, [.ref a_t_race_guns_ticks])), (a_t_race_guns_ticks, .inl (cI, 6, .inl t_race_guns_ticks)), (a_t_race_runners, .inr (6, [.ref a_t_race_runners_facts, .ref a_t_race_runners_splits, .ref a_t_race_runners_torn, .ref a_t_race_runners_dropped, .ref a_t_race_runners_waved, .ref a_t_race_runners_struck, .ref a_t_race_runners_strikingOrder, .int t_race_runners_entered, .int t_race_runners_strikings])), (a_t_race_runners_facts, .inl (cI, 360, .inl t_race_runners_facts)), (a_t_race_runners_splits, .inl (cI, 720, .inl t_race_runners_splits)), (a_t_race_way, .inr (9, [.ref a_t_race_way_places, .ref a_t_race_way_bearings, .ref a_t_race_way_cuts, .ref a_t_race_way_deaths, .int t_race_way_mats])), (a_t_race_way_places, .inl (cI, 12, .inl t_race_way_places)), (a_t_trail, .inr (8, [.ref a_t_trail_ticks, .ref a_t_trail_places, .int t_trail_mats, .int t_trail_least, .int t_trail_greatest])), (a_t_trail_places, .inl (cI, 12, .inl t_trail_places)), (a_t_trail_ticks, .inl (cI, 12, .inl t_trail_ticks))] sz) := by
  refine Met.ofW (cc := cX10_guess) (maxL := 4) (ret := (some .int)) (by decide) rfl ?_
  intro p e s m args below meth c s₁ B hml hv
  obtain ⟨rfl, hsz, hP, hK, hN, hZ, hD0⟩ := hv
  have hx := B.exec
  have hb := B.bytes
  have hr := B.returns
  have hts := atoms_spec (ws := wsX10_guess) B.pre
  have hown : s.vm.findClass RX10 = some m.cls := findClass_of_methodNamed B.named
  have hlocks := B.notSynchronized
  subst hsz
  have hD := hD0.self (sz := s.heap.size)
  generalize hAe : va_A [(a_t, .inr (10, [.ref a_t_race, .ref a_t_kept, .ref a_t_trail, .ref a_t_doubts, .ref a_t_foretelling, .ref a_t_text, .ref a_t_listing, .int t_isKept])), (a_t_race, .inr (4, [.ref a_t_race_way, .ref a_t_race_guns, .ref a_t_race_runners])), (a_t_race_guns, .inr (2, [.ref a_t_race_guns_ticks])), (a_t_race_guns_ticks, .inl (cI, 6, .inl t_race_guns_ticks)), (a_t_race_runners, .inr (6, [.ref a_t_race_runners_facts, .ref a_t_race_runners_splits, .ref a_t_race_runners_torn, .ref a_t_race_runners_dropped, .ref a_t_race_runners_waved, .ref a_t_race_runners_struck, .ref a_t_race_runners_strikingOrder, .int t_race_runners_entered, .int t_race_runners_strikings])), (a_t_race_runners_facts, .inl (cI, 360, .inl t_race_runners_facts)), (a_t_race_runners_splits, .inl (cI, 720, .inl t_race_runners_splits)), (a_t_race_way, .inr (9, [.ref a_t_race_way_places, .ref a_t_race_way_bearings, .ref a_t_race_way_cuts, .ref a_t_race_way_deaths, .int t_race_way_mats])), (a_t_race_way_places, .inl (cI, 12, .inl t_race_way_places)), (a_t_trail, .inr (8, [.ref a_t_trail_ticks, .ref a_t_trail_places, .int t_trail_mats, .int t_trail_least, .int t_trail_greatest])), (a_t_trail_places, .inl (cI, 12, .inl t_trail_places)), (a_t_trail_ticks, .inl (cI, 12, .inl t_trail_ticks))] s.heap.size = A at hD hZ ⊢
  have hA : ∀ q : Nat, s.heap.size ≤ q → A q := fun q h => by rw [← hAe]; exact Or.inr h
  have hS : va_S A s.heap s.heap [] := va_S.rf
  have hl := lv_entry ([.ref a_t, .int x1, .int x2, .int x3]) (n := 4) (Nat.le_of_ble_eq_true rfl)
  rw [lg_entry_eq]
  generalize (lg_sl ([.ref a_t, .int x1, .int x2, .int x3]) ++ List.replicate (4 - (lg_sl ([.ref a_t, .int x1, .int x2, .int x3])).length) Slot.unset).toArray = ls at hl ⊢
  have hl : lv_has ls 4 [(0, .ref a_t), (1, .int x1), (2, .int x2), (3, .int x3)] := hl
  unfold fX10_guess at h
  refine lv_aload_n hx hb dX10_guess_0 rfl (lv_at hl 0 rfl) ?_
  refine va_get (D := D) (ci := 10) (C := RX10) (T := TX10) (N := 8) hx hb hts qX10_guess_X10 hown hK hP 0 rfl rfl 0 (by decide) (hts _ kX10_guess_0) (fun _ h9 => h9) rfl dX10_guess_1 ?_
  refine lv_iload_n hx hb dX10_guess_4 rfl (lv_at hl 1 rfl) ?_
  refine lv_iload_n hx hb dX10_guess_5 rfl (lv_at hl 2 rfl) ?_
  obtain ⟨b1, e2, h⟩ := zz_b h
  refine zVi (As := [.int x1, .int x2]) (rest := []) (C := RX4) (wr := [(a_t, .inr (10, [.ref a_t_race, .ref a_t_kept, .ref a_t_trail, .ref a_t_doubts, .ref a_t_foretelling, .ref a_t_text, .ref a_t_listing, .int t_isKept])), (a_t_race_guns, .inr (2, [.ref a_t_race_guns_ticks])), (a_t_race_guns_ticks, .inl (cI, 6, .inl t_race_guns_ticks)), (a_t_race_runners_facts, .inl (cI, 360, .inl t_race_runners_facts)), (a_t_race_runners_splits, .inl (cI, 720, .inl t_race_runners_splits)), (a_t_race_way_places, .inl (cI, 12, .inl t_race_way_places)), (a_t_trail, .inr (8, [.ref a_t_trail_ticks, .ref a_t_trail_places, .int t_trail_mats, .int t_trail_least, .int t_trail_greatest])), (a_t_trail_places, .inl (cI, 12, .inl t_trail_places)), (a_t_trail_ticks, .inl (cI, 12, .inl t_trail_ticks))]) [1, 4, 7] [0, 2, 3, 5, 6, 8, 9, 10, 11] 0 ⟨hx, hb, hml, hown, hts⟩ (mX4_hasCell l D cB cI cZ a_t_race a_t_race_way a_t_race_guns a_t_race_runners a_t_race_runners_facts a_t_race_runners_splits a_t_race_runners_torn a_t_race_runners_dropped a_t_race_runners_waved a_t_race_runners_struck a_t_race_runners_strikingOrder a_t_race_way_places a_t_race_way_bearings a_t_race_way_cuts a_t_race_way_deaths t_race_runners_entered t_race_runners_strikings t_race_way_mats s.heap.size x1 x2 b1 e2) (cwV 2 hts gX10_guess_X4_hasCell rfl rfl rfl (by decide +kernel) ⟨Nat.le_of_ble_eq_true rfl, Nat.le_of_ble_eq_true rfl⟩) hK hN hZ hP hD hS hA rfl rfl rfl rfl rfl rfl rfl rfl hl.1 rfl (lv_room (Nat.le_of_ble_eq_true rfl)) dX10_guess_6 ⟨Nat.le_of_ble_eq_true rfl, Nat.le_of_ble_eq_true rfl⟩ (fun H locs hP hD hS => ?_)
  have hP : va_P D vwCl [(a_t, .inr (10, [.ref a_t_race, .ref a_t_kept, .ref a_t_trail, .ref a_t_doubts, .ref a_t_foretelling, .ref a_t_text, .ref a_t_listing, .int t_isKept])), (a_t_race_guns, .inr (2, [.ref a_t_race_guns_ticks])), (a_t_race_guns_ticks, .inl (cI, 6, .inl t_race_guns_ticks)), (a_t_race_runners_facts, .inl (cI, 360, .inl t_race_runners_facts)), (a_t_race_runners_splits, .inl (cI, 720, .inl t_race_runners_splits)), (a_t_race_way_places, .inl (cI, 12, .inl t_race_way_places)), (a_t_trail, .inr (8, [.ref a_t_trail_ticks, .ref a_t_trail_places, .int t_trail_mats, .int t_trail_least, .int t_trail_greatest])), (a_t_trail_places, .inl (cI, 12, .inl t_trail_places)), (a_t_trail_ticks, .inl (cI, 12, .inl t_trail_ticks)), (a_t_race, .inr (4, [.ref a_t_race_way, .ref a_t_race_guns, .ref a_t_race_runners])), (a_t_race_runners, .inr (6, [.ref a_t_race_runners_facts, .ref a_t_race_runners_splits, .ref a_t_race_runners_torn, .ref a_t_race_runners_dropped, .ref a_t_race_runners_waved, .ref a_t_race_runners_struck, .ref a_t_race_runners_strikingOrder, .int t_race_runners_entered, .int t_race_runners_strikings])), (a_t_race_way, .inr (9, [.ref a_t_race_way_places, .ref a_t_race_way_bearings, .ref a_t_race_way_cuts, .ref a_t_race_way_deaths, .int t_race_way_mats]))] H := hP
  have hD : va_D A [(a_t, .inr (10, [.ref a_t_race, .ref a_t_kept, .ref a_t_trail, .ref a_t_doubts, .ref a_t_foretelling, .ref a_t_text, .ref a_t_listing, .int t_isKept])), (a_t_race_guns, .inr (2, [.ref a_t_race_guns_ticks])), (a_t_race_guns_ticks, .inl (cI, 6, .inl t_race_guns_ticks)), (a_t_race_runners_facts, .inl (cI, 360, .inl t_race_runners_facts)), (a_t_race_runners_splits, .inl (cI, 720, .inl t_race_runners_splits)), (a_t_race_way_places, .inl (cI, 12, .inl t_race_way_places)), (a_t_trail, .inr (8, [.ref a_t_trail_ticks, .ref a_t_trail_places, .int t_trail_mats, .int t_trail_least, .int t_trail_greatest])), (a_t_trail_places, .inl (cI, 12, .inl t_trail_places)), (a_t_trail_ticks, .inl (cI, 12, .inl t_trail_ticks)), (a_t_race, .inr (4, [.ref a_t_race_way, .ref a_t_race_guns, .ref a_t_race_runners])), (a_t_race_runners, .inr (6, [.ref a_t_race_runners_facts, .ref a_t_race_runners_splits, .ref a_t_race_runners_torn, .ref a_t_race_runners_dropped, .ref a_t_race_runners_waved, .ref a_t_race_runners_struck, .ref a_t_race_runners_strikingOrder, .int t_race_runners_entered, .int t_race_runners_strikings])), (a_t_race_way, .inr (9, [.ref a_t_race_way_places, .ref a_t_race_way_bearings, .ref a_t_race_way_cuts, .ref a_t_race_way_deaths, .int t_race_way_mats]))] := hD
  refine lv_if_ne (tgt := 14) hx hb dX10_guess_9 (by decide) (fun c3 => ?_) (fun c3 => ?_)
  · have h := zz_f h c3
    refine lv_aload_n hx hb dX10_guess_14 rfl (lv_at hl 0 rfl) ?_
    refine va_get (D := D) (ci := 10) (C := RX10) (T := TX10) (N := 8) hx hb hts qX10_guess_X10 hown hK hP 0 rfl rfl 2 (by decide) (hts _ kX10_guess_2) (fun _ h9 => h9) rfl dX10_guess_15 ?_
    refine lv_aload_n hx hb dX10_guess_18 rfl (lv_at hl 0 rfl) ?_
    refine va_get (D := D) (ci := 10) (C := RX10) (T := TX10) (N := 8) hx hb hts qX10_guess_X10 hown hK hP 0 rfl rfl 0 (by decide) (hts _ kX10_guess_0) (fun _ h9 => h9) rfl dX10_guess_19 ?_
    refine lv_iload_n hx hb dX10_guess_22 rfl (lv_at hl 1 rfl) ?_
    obtain ⟨⟨t_trail_greatest_r4, t_trail_least_r5, t_trail_mats_r6, t_trail_places_r7, t_trail_ticks_r8⟩, e9, h⟩ := zz_b h
    dsimp only at h
    refine zVv (As := [.ref a_t_race, .int x1]) (rest := []) (C := RX8) (wr := [(a_t, .inr (10, [.ref a_t_race, .ref a_t_kept, .ref a_t_trail, .ref a_t_doubts, .ref a_t_foretelling, .ref a_t_text, .ref a_t_listing, .int t_isKept]))]) [6, 7, 8, 9, 1, 2, 10, 3, 4, 11, 5] [0] 0 ⟨hx, hb, hml, hown, hts⟩ (mX8_follow l D cB cI cZ a_t_trail a_t_race a_t_trail_ticks a_t_trail_places a_t_race_way a_t_race_guns a_t_race_runners a_t_race_guns_ticks a_t_race_runners_facts a_t_race_runners_splits a_t_race_runners_torn a_t_race_runners_dropped a_t_race_runners_waved a_t_race_runners_struck a_t_race_runners_strikingOrder a_t_race_way_places a_t_race_way_bearings a_t_race_way_cuts a_t_race_way_deaths t_trail_mats t_trail_least t_trail_greatest t_trail_places t_trail_ticks t_race_guns_ticks t_race_runners_entered t_race_runners_strikings t_race_runners_facts t_race_runners_splits t_race_way_mats t_race_way_places H.size x1 N t_trail_greatest_r4 t_trail_least_r5 t_trail_mats_r6 t_trail_places_r7 t_trail_ticks_r8 e9) (cwV 2 hts gX10_guess_X8_follow rfl rfl rfl (by decide +kernel) ⟨Nat.le_of_ble_eq_true rfl, Nat.le_of_ble_eq_true rfl⟩) hK hN hZ hP hD hS hA rfl rfl rfl rfl rfl rfl rfl rfl hl.1 rfl (lv_room (Nat.le_of_ble_eq_true rfl)) dX10_guess_23 ⟨Nat.le_of_ble_eq_true rfl, Nat.le_of_ble_eq_true rfl⟩ (fun H locs hP hD hS => ?_)
    have hP : va_P D vwCl [(a_t, .inr (10, [.ref a_t_race, .ref a_t_kept, .ref a_t_trail, .ref a_t_doubts, .ref a_t_foretelling, .ref a_t_text, .ref a_t_listing, .int t_isKept])), (a_t_trail, .inr (8, [.ref a_t_trail_ticks, .ref a_t_trail_places, .int t_trail_mats_r6, .int t_trail_least_r5, .int t_trail_greatest_r4])), (a_t_trail_places, .inl (cI, 12, .inl t_trail_places_r7)), (a_t_trail_ticks, .inl (cI, 12, .inl t_trail_ticks_r8)), (a_t_race, .inr (4, [.ref a_t_race_way, .ref a_t_race_guns, .ref a_t_race_runners])), (a_t_race_guns, .inr (2, [.ref a_t_race_guns_ticks])), (a_t_race_guns_ticks, .inl (cI, 6, .inl t_race_guns_ticks)), (a_t_race_runners, .inr (6, [.ref a_t_race_runners_facts, .ref a_t_race_runners_splits, .ref a_t_race_runners_torn, .ref a_t_race_runners_dropped, .ref a_t_race_runners_waved, .ref a_t_race_runners_struck, .ref a_t_race_runners_strikingOrder, .int t_race_runners_entered, .int t_race_runners_strikings])), (a_t_race_runners_facts, .inl (cI, 360, .inl t_race_runners_facts)), (a_t_race_runners_splits, .inl (cI, 720, .inl t_race_runners_splits)), (a_t_race_way, .inr (9, [.ref a_t_race_way_places, .ref a_t_race_way_bearings, .ref a_t_race_way_cuts, .ref a_t_race_way_deaths, .int t_race_way_mats])), (a_t_race_way_places, .inl (cI, 12, .inl t_race_way_places))] H := hP
    have hD : va_D A [(a_t, .inr (10, [.ref a_t_race, .ref a_t_kept, .ref a_t_trail, .ref a_t_doubts, .ref a_t_foretelling, .ref a_t_text, .ref a_t_listing, .int t_isKept])), (a_t_trail, .inr (8, [.ref a_t_trail_ticks, .ref a_t_trail_places, .int t_trail_mats_r6, .int t_trail_least_r5, .int t_trail_greatest_r4])), (a_t_trail_places, .inl (cI, 12, .inl t_trail_places_r7)), (a_t_trail_ticks, .inl (cI, 12, .inl t_trail_ticks_r8)), (a_t_race, .inr (4, [.ref a_t_race_way, .ref a_t_race_guns, .ref a_t_race_runners])), (a_t_race_guns, .inr (2, [.ref a_t_race_guns_ticks])), (a_t_race_guns_ticks, .inl (cI, 6, .inl t_race_guns_ticks)), (a_t_race_runners, .inr (6, [.ref a_t_race_runners_facts, .ref a_t_race_runners_splits, .ref a_t_race_runners_torn, .ref a_t_race_runners_dropped, .ref a_t_race_runners_waved, .ref a_t_race_runners_struck, .ref a_t_race_runners_strikingOrder, .int t_race_runners_entered, .int t_race_runners_strikings])), (a_t_race_runners_facts, .inl (cI, 360, .inl t_race_runners_facts)), (a_t_race_runners_splits, .inl (cI, 720, .inl t_race_runners_splits)), (a_t_race_way, .inr (9, [.ref a_t_race_way_places, .ref a_t_race_way_bearings, .ref a_t_race_way_cuts, .ref a_t_race_way_deaths, .int t_race_way_mats])), (a_t_race_way_places, .inl (cI, 12, .inl t_race_way_places))] := hD
    refine lv_iload_n hx hb dX10_guess_26 rfl (lv_at hl 3 rfl) ?_
    refine lv_if_eq (tgt := 41) hx hb dX10_guess_27 (by decide) (fun c10 => ?_) (fun c10 => ?_)
    · have h := zz_t h c10
      refine lv_aload_n hx hb dX10_guess_41 rfl (lv_at hl 0 rfl) ?_
      refine va_get (D := D) (ci := 10) (C := RX10) (T := TX10) (N := 8) hx hb hts qX10_guess_X10 hown hK hP 0 rfl rfl 2 (by decide) (hts _ kX10_guess_2) (fun _ h9 => h9) rfl dX10_guess_42 ?_
      refine lv_iload_n hx hb dX10_guess_45 rfl (lv_at hl 2 rfl) ?_
      obtain ⟨r11, e12, h⟩ := zz_b h
      refine zVi (As := [.int x2]) (rest := []) (C := RX8) (wr := [(a_t, .inr (10, [.ref a_t_race, .ref a_t_kept, .ref a_t_trail, .ref a_t_doubts, .ref a_t_foretelling, .ref a_t_text, .ref a_t_listing, .int t_isKept])), (a_t_race, .inr (4, [.ref a_t_race_way, .ref a_t_race_guns, .ref a_t_race_runners])), (a_t_race_guns, .inr (2, [.ref a_t_race_guns_ticks])), (a_t_race_guns_ticks, .inl (cI, 6, .inl t_race_guns_ticks)), (a_t_race_runners, .inr (6, [.ref a_t_race_runners_facts, .ref a_t_race_runners_splits, .ref a_t_race_runners_torn, .ref a_t_race_runners_dropped, .ref a_t_race_runners_waved, .ref a_t_race_runners_struck, .ref a_t_race_runners_strikingOrder, .int t_race_runners_entered, .int t_race_runners_strikings])), (a_t_race_runners_facts, .inl (cI, 360, .inl t_race_runners_facts)), (a_t_race_runners_splits, .inl (cI, 720, .inl t_race_runners_splits)), (a_t_race_way, .inr (9, [.ref a_t_race_way_places, .ref a_t_race_way_bearings, .ref a_t_race_way_cuts, .ref a_t_race_way_deaths, .int t_race_way_mats])), (a_t_race_way_places, .inl (cI, 12, .inl t_race_way_places))]) [1, 2, 3] [0, 4, 5, 6, 7, 8, 9, 10, 11] 0 ⟨hx, hb, hml, hown, hts⟩ (mX8_leastGuess l D cB cI cZ a_t_trail a_t_trail_ticks a_t_trail_places t_trail_mats_r6 t_trail_least_r5 t_trail_greatest_r4 t_trail_places_r7 t_trail_ticks_r8 H.size x2 N r11 e12) (cwV 1 hts gX10_guess_X8_leastGuess rfl rfl rfl (by decide +kernel) ⟨Nat.le_of_ble_eq_true rfl, Nat.le_of_ble_eq_true rfl⟩) hK hN hZ hP hD hS hA rfl rfl rfl rfl rfl rfl rfl rfl hl.1 rfl (lv_room (Nat.le_of_ble_eq_true rfl)) dX10_guess_46 ⟨Nat.le_of_ble_eq_true rfl, Nat.le_of_ble_eq_true rfl⟩ (fun H locs hP hD hS => ?_)
      have hP : va_P D vwCl [(a_t, .inr (10, [.ref a_t_race, .ref a_t_kept, .ref a_t_trail, .ref a_t_doubts, .ref a_t_foretelling, .ref a_t_text, .ref a_t_listing, .int t_isKept])), (a_t_race, .inr (4, [.ref a_t_race_way, .ref a_t_race_guns, .ref a_t_race_runners])), (a_t_race_guns, .inr (2, [.ref a_t_race_guns_ticks])), (a_t_race_guns_ticks, .inl (cI, 6, .inl t_race_guns_ticks)), (a_t_race_runners, .inr (6, [.ref a_t_race_runners_facts, .ref a_t_race_runners_splits, .ref a_t_race_runners_torn, .ref a_t_race_runners_dropped, .ref a_t_race_runners_waved, .ref a_t_race_runners_struck, .ref a_t_race_runners_strikingOrder, .int t_race_runners_entered, .int t_race_runners_strikings])), (a_t_race_runners_facts, .inl (cI, 360, .inl t_race_runners_facts)), (a_t_race_runners_splits, .inl (cI, 720, .inl t_race_runners_splits)), (a_t_race_way, .inr (9, [.ref a_t_race_way_places, .ref a_t_race_way_bearings, .ref a_t_race_way_cuts, .ref a_t_race_way_deaths, .int t_race_way_mats])), (a_t_race_way_places, .inl (cI, 12, .inl t_race_way_places)), (a_t_trail, .inr (8, [.ref a_t_trail_ticks, .ref a_t_trail_places, .int t_trail_mats_r6, .int t_trail_least_r5, .int t_trail_greatest_r4])), (a_t_trail_places, .inl (cI, 12, .inl t_trail_places_r7)), (a_t_trail_ticks, .inl (cI, 12, .inl t_trail_ticks_r8))] H := hP
      have hD : va_D A [(a_t, .inr (10, [.ref a_t_race, .ref a_t_kept, .ref a_t_trail, .ref a_t_doubts, .ref a_t_foretelling, .ref a_t_text, .ref a_t_listing, .int t_isKept])), (a_t_race, .inr (4, [.ref a_t_race_way, .ref a_t_race_guns, .ref a_t_race_runners])), (a_t_race_guns, .inr (2, [.ref a_t_race_guns_ticks])), (a_t_race_guns_ticks, .inl (cI, 6, .inl t_race_guns_ticks)), (a_t_race_runners, .inr (6, [.ref a_t_race_runners_facts, .ref a_t_race_runners_splits, .ref a_t_race_runners_torn, .ref a_t_race_runners_dropped, .ref a_t_race_runners_waved, .ref a_t_race_runners_struck, .ref a_t_race_runners_strikingOrder, .int t_race_runners_entered, .int t_race_runners_strikings])), (a_t_race_runners_facts, .inl (cI, 360, .inl t_race_runners_facts)), (a_t_race_runners_splits, .inl (cI, 720, .inl t_race_runners_splits)), (a_t_race_way, .inr (9, [.ref a_t_race_way_places, .ref a_t_race_way_bearings, .ref a_t_race_way_cuts, .ref a_t_race_way_deaths, .int t_race_way_mats])), (a_t_race_way_places, .inl (cI, 12, .inl t_race_way_places)), (a_t_trail, .inr (8, [.ref a_t_trail_ticks, .ref a_t_trail_places, .int t_trail_mats_r6, .int t_trail_least_r5, .int t_trail_greatest_r4])), (a_t_trail_places, .inl (cI, 12, .inl t_trail_places_r7)), (a_t_trail_ticks, .inl (cI, 12, .inl t_trail_ticks_r8))] := hD
      obtain ⟨j0_, g_⟩ := Prod.mk.inj (Option.some.inj h)
      obtain ⟨j1_, g_⟩ := Prod.mk.inj g_
      obtain ⟨j2_, g_⟩ := Prod.mk.inj g_
      obtain ⟨j3_, g_⟩ := Prod.mk.inj g_
      obtain ⟨j4_, g_⟩ := Prod.mk.inj g_
      have j5_ := g_
      subst j0_
      subst j1_
      subst j2_
      subst j3_
      subst j4_
      subst j5_
      exact W.iret (v := r11) hx hb hr (fun t ht hW => ⟨⟨_, (), rfl, rfl, zPost.of hP hD hK ht hW [0, 1, 2, 3, 4, 5, 6, 7, 8, 9, 10, 11] rfl rfl rfl⟩, hS.F ht⟩) hS.2.2 dX10_guess_49
    · have h := zz_f h c10
      refine lv_aload_n hx hb dX10_guess_30 rfl (lv_at hl 0 rfl) ?_
      refine va_get (D := D) (ci := 10) (C := RX10) (T := TX10) (N := 8) hx hb hts qX10_guess_X10 hown hK hP 0 rfl rfl 2 (by decide) (hts _ kX10_guess_2) (fun _ h9 => h9) rfl dX10_guess_31 ?_
      refine lv_iload_n hx hb dX10_guess_34 rfl (lv_at hl 2 rfl) ?_
      obtain ⟨r13, e14, h⟩ := zz_b h
      refine zVi (As := [.int x2]) (rest := []) (C := RX8) (wr := [(a_t, .inr (10, [.ref a_t_race, .ref a_t_kept, .ref a_t_trail, .ref a_t_doubts, .ref a_t_foretelling, .ref a_t_text, .ref a_t_listing, .int t_isKept])), (a_t_race, .inr (4, [.ref a_t_race_way, .ref a_t_race_guns, .ref a_t_race_runners])), (a_t_race_guns, .inr (2, [.ref a_t_race_guns_ticks])), (a_t_race_guns_ticks, .inl (cI, 6, .inl t_race_guns_ticks)), (a_t_race_runners, .inr (6, [.ref a_t_race_runners_facts, .ref a_t_race_runners_splits, .ref a_t_race_runners_torn, .ref a_t_race_runners_dropped, .ref a_t_race_runners_waved, .ref a_t_race_runners_struck, .ref a_t_race_runners_strikingOrder, .int t_race_runners_entered, .int t_race_runners_strikings])), (a_t_race_runners_facts, .inl (cI, 360, .inl t_race_runners_facts)), (a_t_race_runners_splits, .inl (cI, 720, .inl t_race_runners_splits)), (a_t_race_way, .inr (9, [.ref a_t_race_way_places, .ref a_t_race_way_bearings, .ref a_t_race_way_cuts, .ref a_t_race_way_deaths, .int t_race_way_mats])), (a_t_race_way_places, .inl (cI, 12, .inl t_race_way_places))]) [1, 2, 3] [0, 4, 5, 6, 7, 8, 9, 10, 11] 0 ⟨hx, hb, hml, hown, hts⟩ (mX8_greatestGuess l D cB cI cZ a_t_trail a_t_trail_ticks a_t_trail_places t_trail_mats_r6 t_trail_least_r5 t_trail_greatest_r4 t_trail_places_r7 t_trail_ticks_r8 H.size x2 N r13 e14) (cwV 1 hts gX10_guess_X8_greatestGuess rfl rfl rfl (by decide +kernel) ⟨Nat.le_of_ble_eq_true rfl, Nat.le_of_ble_eq_true rfl⟩) hK hN hZ hP hD hS hA rfl rfl rfl rfl rfl rfl rfl rfl hl.1 rfl (lv_room (Nat.le_of_ble_eq_true rfl)) dX10_guess_35 ⟨Nat.le_of_ble_eq_true rfl, Nat.le_of_ble_eq_true rfl⟩ (fun H locs hP hD hS => ?_)
      have hP : va_P D vwCl [(a_t, .inr (10, [.ref a_t_race, .ref a_t_kept, .ref a_t_trail, .ref a_t_doubts, .ref a_t_foretelling, .ref a_t_text, .ref a_t_listing, .int t_isKept])), (a_t_race, .inr (4, [.ref a_t_race_way, .ref a_t_race_guns, .ref a_t_race_runners])), (a_t_race_guns, .inr (2, [.ref a_t_race_guns_ticks])), (a_t_race_guns_ticks, .inl (cI, 6, .inl t_race_guns_ticks)), (a_t_race_runners, .inr (6, [.ref a_t_race_runners_facts, .ref a_t_race_runners_splits, .ref a_t_race_runners_torn, .ref a_t_race_runners_dropped, .ref a_t_race_runners_waved, .ref a_t_race_runners_struck, .ref a_t_race_runners_strikingOrder, .int t_race_runners_entered, .int t_race_runners_strikings])), (a_t_race_runners_facts, .inl (cI, 360, .inl t_race_runners_facts)), (a_t_race_runners_splits, .inl (cI, 720, .inl t_race_runners_splits)), (a_t_race_way, .inr (9, [.ref a_t_race_way_places, .ref a_t_race_way_bearings, .ref a_t_race_way_cuts, .ref a_t_race_way_deaths, .int t_race_way_mats])), (a_t_race_way_places, .inl (cI, 12, .inl t_race_way_places)), (a_t_trail, .inr (8, [.ref a_t_trail_ticks, .ref a_t_trail_places, .int t_trail_mats_r6, .int t_trail_least_r5, .int t_trail_greatest_r4])), (a_t_trail_places, .inl (cI, 12, .inl t_trail_places_r7)), (a_t_trail_ticks, .inl (cI, 12, .inl t_trail_ticks_r8))] H := hP
      have hD : va_D A [(a_t, .inr (10, [.ref a_t_race, .ref a_t_kept, .ref a_t_trail, .ref a_t_doubts, .ref a_t_foretelling, .ref a_t_text, .ref a_t_listing, .int t_isKept])), (a_t_race, .inr (4, [.ref a_t_race_way, .ref a_t_race_guns, .ref a_t_race_runners])), (a_t_race_guns, .inr (2, [.ref a_t_race_guns_ticks])), (a_t_race_guns_ticks, .inl (cI, 6, .inl t_race_guns_ticks)), (a_t_race_runners, .inr (6, [.ref a_t_race_runners_facts, .ref a_t_race_runners_splits, .ref a_t_race_runners_torn, .ref a_t_race_runners_dropped, .ref a_t_race_runners_waved, .ref a_t_race_runners_struck, .ref a_t_race_runners_strikingOrder, .int t_race_runners_entered, .int t_race_runners_strikings])), (a_t_race_runners_facts, .inl (cI, 360, .inl t_race_runners_facts)), (a_t_race_runners_splits, .inl (cI, 720, .inl t_race_runners_splits)), (a_t_race_way, .inr (9, [.ref a_t_race_way_places, .ref a_t_race_way_bearings, .ref a_t_race_way_cuts, .ref a_t_race_way_deaths, .int t_race_way_mats])), (a_t_race_way_places, .inl (cI, 12, .inl t_race_way_places)), (a_t_trail, .inr (8, [.ref a_t_trail_ticks, .ref a_t_trail_places, .int t_trail_mats_r6, .int t_trail_least_r5, .int t_trail_greatest_r4])), (a_t_trail_places, .inl (cI, 12, .inl t_trail_places_r7)), (a_t_trail_ticks, .inl (cI, 12, .inl t_trail_ticks_r8))] := hD
      refine lv_goto (tgt := 49) hx hb dX10_guess_38 (by decide) ?_
      obtain ⟨j0_, g_⟩ := Prod.mk.inj (Option.some.inj h)
      obtain ⟨j1_, g_⟩ := Prod.mk.inj g_
      obtain ⟨j2_, g_⟩ := Prod.mk.inj g_
      obtain ⟨j3_, g_⟩ := Prod.mk.inj g_
      obtain ⟨j4_, g_⟩ := Prod.mk.inj g_
      have j5_ := g_
      subst j0_
      subst j1_
      subst j2_
      subst j3_
      subst j4_
      subst j5_
      exact W.iret (v := r13) hx hb hr (fun t ht hW => ⟨⟨_, (), rfl, rfl, zPost.of hP hD hK ht hW [0, 1, 2, 3, 4, 5, 6, 7, 8, 9, 10, 11] rfl rfl rfl⟩, hS.F ht⟩) hS.2.2 dX10_guess_49
  · have h := zz_t h c3
    refine lv_iconst (v := (-1 : Int32)) hx hb dX10_guess_12 rfl ?_
    obtain ⟨j0_, g_⟩ := Prod.mk.inj (Option.some.inj h)
    obtain ⟨j1_, g_⟩ := Prod.mk.inj g_
    obtain ⟨j2_, g_⟩ := Prod.mk.inj g_
    obtain ⟨j3_, g_⟩ := Prod.mk.inj g_
    obtain ⟨j4_, g_⟩ := Prod.mk.inj g_
    have j5_ := g_
    subst j0_
    subst j1_
    subst j2_
    subst j3_
    subst j4_
    subst j5_
    exact W.iret (v := (-1 : Int32)) hx hb hr (fun t ht hW => ⟨⟨_, (), rfl, rfl, zPost.of hP hD hK ht hW [0, 9, 1, 2, 10, 3, 4, 11, 5, 6, 7, 8] rfl rfl rfl⟩, hS.F ht⟩) hS.2.2 dX10_guess_13
/-! RunDesk.doubt -/
theorem dX10_doubt_0 : decode cX10_doubt 0 = .ok (.aload_n 0, 1) := by decide +kernel
theorem dX10_doubt_1 : decode cX10_doubt 1 = .ok (.getfield 29, 3) := by decide +kernel
theorem dX10_doubt_4 : decode cX10_doubt 4 = .ok (.aload_n 0, 1) := by decide +kernel
theorem dX10_doubt_5 : decode cX10_doubt 5 = .ok (.getfield 10, 3) := by decide +kernel
theorem dX10_doubt_8 : decode cX10_doubt 8 = .ok (.aload_n 0, 1) := by decide +kernel
theorem dX10_doubt_9 : decode cX10_doubt 9 = .ok (.getfield 22, 3) := by decide +kernel
theorem dX10_doubt_12 : decode cX10_doubt 12 = .ok (.invokevirtual 156, 3) := by decide +kernel
theorem dX10_doubt_15 : decode cX10_doubt 15 = .ok (.pop, 1) := by decide +kernel
theorem dX10_doubt_16 : decode cX10_doubt 16 = .ok (.aload_n 0, 1) := by decide +kernel
theorem dX10_doubt_17 : decode cX10_doubt 17 = .ok (.getfield 29, 3) := by decide +kernel
theorem dX10_doubt_20 : decode cX10_doubt 20 = .ok (.iload_n 1, 1) := by decide +kernel
theorem dX10_doubt_21 : decode cX10_doubt 21 = .ok (.iload_n 2, 1) := by decide +kernel
theorem dX10_doubt_22 : decode cX10_doubt 22 = .ok (.invokevirtual 160, 3) := by decide +kernel
theorem dX10_doubt_25 : decode cX10_doubt 25 = .ok (.ireturn, 1) := by decide +kernel
set_option maxRecDepth 20000 in
theorem ggX10_doubt_X0_gather : GoodIn wsX10_doubt wsX0_gather := goodIn_r _ [8, 9, 10, 11, 12, 13, 14, 15, 16, 17, 18, 19, 20, 21, 22, 23, 24, 25, 26, 27, 28, 29, 30, 31, 32, 33, 34, 35, 36, 37, 38, 39, 40, 41, 42, 43, 44, 45, 46, 47, 48, 49, 50, 51, 52, 53, 54, 55, 56, 57, 58, 59, 60, 61, 62, 63, 64, 65, 66, 67, 68, 69, 70, 71, 72, 73, 74, 75, 76, 77, 78, 79, 80, 81, 82, 7, 83, 84, 85, 86, 87, 88, 89, 90, 91, 92, 93, 94, 95, 96, 97, 98, 99, 100, 101, 102, 103, 104, 105, 106, 107, 108, 109, 110, 111, 112, 113, 114, 115, 116, 117, 118, 119, 120, 121, 122, 123, 124, 125, 126, 127, 128, 129, 130, 131, 132, 133, 134, 135, 136, 137, 138, 139, 140, 141, 154, 155, 156, 157, 158, 159, 160, 161, 162, 163, 164, 165, 166, 167, 168, 169, 170, 171, 172, 173, 174, 175, 176, 177, 178] (by decide +kernel) (by decide +kernel)
set_option maxRecDepth 20000 in
theorem gX10_doubt_X0_gather : GoodIn wsX10_doubt (wsV RX10 156 RX0 yX0_gather wsX0_gather) := goodIn_app (goodIn_of _ (by decide +kernel)) ggX10_doubt_X0_gather
set_option maxRecDepth 20000 in
theorem ggX10_doubt_X0_tell : GoodIn wsX10_doubt wsX0_tell := goodIn_r _ [145, 9, 101, 154, 155] (by decide +kernel) (by decide +kernel)
set_option maxRecDepth 20000 in
theorem gX10_doubt_X0_tell : GoodIn wsX10_doubt (wsV RX10 160 RX0 yX0_tell wsX0_tell) := goodIn_app (goodIn_of _ (by decide +kernel)) ggX10_doubt_X0_tell
theorem kX10_doubt_0 : (.fieldLink RX10 29 "RunDesk" "doubts" "LRunDesk$Doubts;" : Cond) ∈ wsX10_doubt := List.mem_of_getElem? (i := 1) (by decide +kernel)
theorem qX10_doubt_X10 : ∀ w ∈ wsX100, w ∈ wsX10_doubt := fun _ h => List.mem_cons_of_mem _ (List.mem_append_left _ (List.mem_append_left _ (List.mem_append_left _ (List.mem_append_left _ (List.mem_append_left _ (List.mem_append_left _ (List.mem_append_right _ (h))))))))
theorem kX10_doubt_2 : (.fieldLink RX10 10 "RunDesk" "race" "LRunDesk$Race;" : Cond) ∈ wsX10_doubt := List.mem_of_getElem? (i := 2) (by decide +kernel)
theorem kX10_doubt_3 : (.fieldLink RX10 22 "RunDesk" "trail" "LRunDesk$Trail;" : Cond) ∈ wsX10_doubt := List.mem_of_getElem? (i := 3) (by decide +kernel)
set_option maxHeartbeats 4000000 in
set_option maxRecDepth 100000 in
theorem mX10_doubt (l : Launch) (D : va_G) (cB cI cZ : ClassId) (a_t : Nat) (a_t_race : Nat) (a_t_kept : Nat) (a_t_trail : Nat) (a_t_doubts : Nat) (a_t_foretelling : Nat) (a_t_text : Nat) (a_t_listing : Nat) (a_t_doubts_codes : Nat) (a_t_race_way : Nat) (a_t_race_guns : Nat) (a_t_race_runners : Nat) (a_t_race_guns_ticks : Nat) (a_t_race_runners_facts : Nat) (a_t_race_runners_splits : Nat) (a_t_race_runners_torn : Nat) (a_t_race_runners_dropped : Nat) (a_t_race_runners_waved : Nat) (a_t_race_runners_struck : Nat) (a_t_race_runners_strikingOrder : Nat) (a_t_race_way_places : Nat) (a_t_race_way_bearings : Nat) (a_t_race_way_cuts : Nat) (a_t_race_way_deaths : Nat) (a_t_trail_ticks : Nat) (a_t_trail_places : Nat) (t_isKept : Int32) (t_doubts_doubts : Int32) (t_doubts_codes : Nat → Int32) (t_race_guns_ticks : Nat → Int32) (t_race_runners_entered : Int32) (t_race_runners_strikings : Int32) (t_race_runners_facts : Nat → Int32) (t_race_runners_splits : Nat → Int32) (t_race_way_mats : Int32) (t_race_way_places : Nat → Int32) (t_trail_mats : Int32) (t_trail_least : Int32) (t_trail_greatest : Int32) (t_trail_places : Nat → Int32) (t_trail_ticks : Nat → Int32) (sz : Nat) (x1 : Int32) (x2 : Int32) (N : Nat) (r0 : Int32) (t_doubts_doubts' : Int32) (t_doubts_codes' : Nat → Int32) (t_trail_greatest' : Int32) (t_trail_least' : Int32) (t_trail_mats' : Int32) (t_trail_places' : Nat → Int32) (t_trail_ticks' : Nat → Int32) (h : fX10_doubt N t_doubts_doubts t_doubts_codes t_race_guns_ticks t_race_runners_entered t_race_runners_facts t_race_runners_splits t_race_way_mats t_race_way_places t_trail_greatest t_trail_least t_trail_mats t_trail_places t_trail_ticks x1 x2 = some (r0, t_doubts_doubts', t_doubts_codes', t_trail_greatest', t_trail_least', t_trail_mats', t_trail_places', t_trail_ticks')) : Met l yX10_doubt wsX10_doubt ({ frames := 6, cells := 0, slots := 0, locals := 136 } : Room) (va_Pc [.ref a_t, .int x1, .int x2] (zPre D (zT cB cI cZ) [(a_t, .inr (10, [.ref a_t_race, .ref a_t_kept, .ref a_t_trail, .ref a_t_doubts, .ref a_t_foretelling, .ref a_t_text, .ref a_t_listing, .int t_isKept])), (a_t_doubts, .inr (0, [.ref a_t_doubts_codes, .int t_doubts_doubts])), (a_t_doubts_codes, .inl (cI, 2160, .inl t_doubts_codes)), (a_t_race, .inr (4, [.ref a_t_race_way, .ref a_t_race_guns, .ref a_t_race_runners])), (a_t_race_guns, .inr (2, [.ref a_t_race_guns_ticks])), (a_t_race_guns_ticks, .inl (cI, 6, .inl t_race_guns_ticks)), (a_t_race_runners, .inr (6, [.ref a_t_race_runners_facts, .ref a_t_race_runners_splits, .ref a_t_race_runners_torn, .ref a_t_race_runners_dropped, .ref a_t_race_runners_waved, .ref a_t_race_runners_struck, .ref a_t_race_runners_strikingOrder, .int t_race_runners_entered, .int t_race_runners_strikings])), (a_t_race_runners_facts, .inl (cI, 360, .inl t_race_runners_facts)), (a_t_race_runners_splits, .inl (cI, 720, .inl t_race_runners_splits)), (a_t_race_way, .inr (9, [.ref a_t_race_way_places, .ref a_t_race_way_bearings, .ref a_t_race_way_cuts, .ref a_t_race_way_deaths, .int t_race_way_mats])), (a_t_race_way_places, .inl (cI, 12, .inl t_race_way_places)), (a_t_trail, .inr (8, [.ref a_t_trail_ticks, .ref a_t_trail_places, .int t_trail_mats, .int t_trail_least, .int t_trail_greatest])), (a_t_trail_places, .inl (cI, 12, .inl t_trail_places)), (a_t_trail_ticks, .inl (cI, 12, .inl t_trail_ticks))] sz)) (zQi r0 D (zT cB cI cZ) [(a_t, .inr (10, [.ref a_t_race, .ref a_t_kept, .ref a_t_trail, .ref a_t_doubts, .ref a_t_foretelling, .ref a_t_text, .ref a_t_listing, .int t_isKept])), (a_t_doubts, .inr (0, [.ref a_t_doubts_codes, .int t_doubts_doubts'])), (a_t_doubts_codes, .inl (cI, 2160, .inl t_doubts_codes')), (a_t_race, .inr (4, [.ref a_t_race_way, .ref a_t_race_guns, .ref a_t_race_runners])), (a_t_race_guns, .inr (2, [.ref a_t_race_guns_ticks])), (a_t_race_guns_ticks, .inl (cI, 6, .inl t_race_guns_ticks)), (a_t_race_runners, .inr (6, [.ref a_t_race_runners_facts, .ref a_t_race_runners_splits, .ref a_t_race_runners_torn, .ref a_t_race_runners_dropped, .ref a_t_race_runners_waved, .ref a_t_race_runners_struck, .ref a_t_race_runners_strikingOrder, .int t_race_runners_entered, .int t_race_runners_strikings])), (a_t_race_runners_facts, .inl (cI, 360, .inl t_race_runners_facts)), (a_t_race_runners_splits, .inl (cI, 720, .inl t_race_runners_splits)), (a_t_race_way, .inr (9, [.ref a_t_race_way_places, .ref a_t_race_way_bearings, .ref a_t_race_way_cuts, .ref a_t_race_way_deaths, .int t_race_way_mats])), (a_t_race_way_places, .inl (cI, 12, .inl t_race_way_places)), (a_t_trail, .inr (8, [.ref a_t_trail_ticks, .ref a_t_trail_places, .int t_trail_mats', .int t_trail_least', .int t_trail_greatest'])), (a_t_trail_places, .inl (cI, 12, .inl t_trail_places')), (a_t_trail_ticks, .inl (cI, 12, .inl t_trail_ticks'))] (va_A [(a_t, .inr (10, [.ref a_t_race, .ref a_t_kept, .ref a_t_trail, .ref a_t_doubts, .ref a_t_foretelling, .ref a_t_text, .ref a_t_listing, .int t_isKept])), (a_t_doubts, .inr (0, [.ref a_t_doubts_codes, .int t_doubts_doubts])), (a_t_doubts_codes, .inl (cI, 2160, .inl t_doubts_codes)), (a_t_race, .inr (4, [.ref a_t_race_way, .ref a_t_race_guns, .ref a_t_race_runners])), (a_t_race_guns, .inr (2, [.ref a_t_race_guns_ticks])), (a_t_race_guns_ticks, .inl (cI, 6, .inl t_race_guns_ticks)), (a_t_race_runners, .inr (6, [.ref a_t_race_runners_facts, .ref a_t_race_runners_splits, .ref a_t_race_runners_torn, .ref a_t_race_runners_dropped, .ref a_t_race_runners_waved, .ref a_t_race_runners_struck, .ref a_t_race_runners_strikingOrder, .int t_race_runners_entered, .int t_race_runners_strikings])), (a_t_race_runners_facts, .inl (cI, 360, .inl t_race_runners_facts)), (a_t_race_runners_splits, .inl (cI, 720, .inl t_race_runners_splits)), (a_t_race_way, .inr (9, [.ref a_t_race_way_places, .ref a_t_race_way_bearings, .ref a_t_race_way_cuts, .ref a_t_race_way_deaths, .int t_race_way_mats])), (a_t_race_way_places, .inl (cI, 12, .inl t_race_way_places)), (a_t_trail, .inr (8, [.ref a_t_trail_ticks, .ref a_t_trail_places, .int t_trail_mats, .int t_trail_least, .int t_trail_greatest])), (a_t_trail_places, .inl (cI, 12, .inl t_trail_places)), (a_t_trail_ticks, .inl (cI, 12, .inl t_trail_ticks))] sz)) 0 0 (va_A [(a_t, .inr (10, [.ref a_t_race, .ref a_t_kept, .ref a_t_trail, .ref a_t_doubts, .ref a_t_foretelling, .ref a_t_text, .ref a_t_listing, .int t_isKept])), (a_t_doubts, .inr (0, [.ref a_t_doubts_codes, .int t_doubts_doubts])), (a_t_doubts_codes, .inl (cI, 2160, .inl t_doubts_codes)), (a_t_race, .inr (4, [.ref a_t_race_way, .ref a_t_race_guns, .ref a_t_race_runners])), (a_t_race_guns, .inr (2, [.ref a_t_race_guns_ticks])), (a_t_race_guns_ticks, .inl (cI, 6, .inl t_race_guns_ticks)), (a_t_race_runners, .inr (6, [.ref a_t_race_runners_facts, .ref a_t_race_runners_splits, .ref a_t_race_runners_torn, .ref a_t_race_runners_dropped, .ref a_t_race_runners_waved, .ref a_t_race_runners_struck, .ref a_t_race_runners_strikingOrder, .int t_race_runners_entered, .int t_race_runners_strikings])), (a_t_race_runners_facts, .inl (cI, 360, .inl t_race_runners_facts)), (a_t_race_runners_splits, .inl (cI, 720, .inl t_race_runners_splits)), (a_t_race_way, .inr (9, [.ref a_t_race_way_places, .ref a_t_race_way_bearings, .ref a_t_race_way_cuts, .ref a_t_race_way_deaths, .int t_race_way_mats])), (a_t_race_way_places, .inl (cI, 12, .inl t_race_way_places)), (a_t_trail, .inr (8, [.ref a_t_trail_ticks, .ref a_t_trail_places, .int t_trail_mats, .int t_trail_least, .int t_trail_greatest])), (a_t_trail_places, .inl (cI, 12, .inl t_trail_places)), (a_t_trail_ticks, .inl (cI, 12, .inl t_trail_ticks))] sz) := by
  refine Met.ofW (cc := cX10_doubt) (maxL := 3) (ret := (some .int)) (by decide) rfl ?_
  intro p e s m args below meth c s₁ B hml hv
  obtain ⟨rfl, hsz, hP, hK, hN, hZ, hD0⟩ := hv
  have hx := B.exec
  have hb := B.bytes
  have hr := B.returns
  have hts := atoms_spec (ws := wsX10_doubt) B.pre
  have hown : s.vm.findClass RX10 = some m.cls := findClass_of_methodNamed B.named
  have hlocks := B.notSynchronized
  subst hsz
  have hD := hD0.self (sz := s.heap.size)
  generalize hAe : va_A [(a_t, .inr (10, [.ref a_t_race, .ref a_t_kept, .ref a_t_trail, .ref a_t_doubts, .ref a_t_foretelling, .ref a_t_text, .ref a_t_listing, .int t_isKept])), (a_t_doubts, .inr (0, [.ref a_t_doubts_codes, .int t_doubts_doubts])), (a_t_doubts_codes, .inl (cI, 2160, .inl t_doubts_codes)), (a_t_race, .inr (4, [.ref a_t_race_way, .ref a_t_race_guns, .ref a_t_race_runners])), (a_t_race_guns, .inr (2, [.ref a_t_race_guns_ticks])), (a_t_race_guns_ticks, .inl (cI, 6, .inl t_race_guns_ticks)), (a_t_race_runners, .inr (6, [.ref a_t_race_runners_facts, .ref a_t_race_runners_splits, .ref a_t_race_runners_torn, .ref a_t_race_runners_dropped, .ref a_t_race_runners_waved, .ref a_t_race_runners_struck, .ref a_t_race_runners_strikingOrder, .int t_race_runners_entered, .int t_race_runners_strikings])), (a_t_race_runners_facts, .inl (cI, 360, .inl t_race_runners_facts)), (a_t_race_runners_splits, .inl (cI, 720, .inl t_race_runners_splits)), (a_t_race_way, .inr (9, [.ref a_t_race_way_places, .ref a_t_race_way_bearings, .ref a_t_race_way_cuts, .ref a_t_race_way_deaths, .int t_race_way_mats])), (a_t_race_way_places, .inl (cI, 12, .inl t_race_way_places)), (a_t_trail, .inr (8, [.ref a_t_trail_ticks, .ref a_t_trail_places, .int t_trail_mats, .int t_trail_least, .int t_trail_greatest])), (a_t_trail_places, .inl (cI, 12, .inl t_trail_places)), (a_t_trail_ticks, .inl (cI, 12, .inl t_trail_ticks))] s.heap.size = A at hD hZ ⊢
  have hA : ∀ q : Nat, s.heap.size ≤ q → A q := fun q h => by rw [← hAe]; exact Or.inr h
  have hS : va_S A s.heap s.heap [] := va_S.rf
  have hl := lv_entry ([.ref a_t, .int x1, .int x2]) (n := 3) (Nat.le_of_ble_eq_true rfl)
  rw [lg_entry_eq]
  generalize (lg_sl ([.ref a_t, .int x1, .int x2]) ++ List.replicate (3 - (lg_sl ([.ref a_t, .int x1, .int x2])).length) Slot.unset).toArray = ls at hl ⊢
  have hl : lv_has ls 3 [(0, .ref a_t), (1, .int x1), (2, .int x2)] := hl
  unfold fX10_doubt at h
  refine lv_aload_n hx hb dX10_doubt_0 rfl (lv_at hl 0 rfl) ?_
  refine va_get (D := D) (ci := 10) (C := RX10) (T := TX10) (N := 8) hx hb hts qX10_doubt_X10 hown hK hP 0 rfl rfl 3 (by decide) (hts _ kX10_doubt_0) (fun _ h9 => h9) rfl dX10_doubt_1 ?_
  refine lv_aload_n hx hb dX10_doubt_4 rfl (lv_at hl 0 rfl) ?_
  refine va_get (D := D) (ci := 10) (C := RX10) (T := TX10) (N := 8) hx hb hts qX10_doubt_X10 hown hK hP 0 rfl rfl 0 (by decide) (hts _ kX10_doubt_2) (fun _ h9 => h9) rfl dX10_doubt_5 ?_
  refine lv_aload_n hx hb dX10_doubt_8 rfl (lv_at hl 0 rfl) ?_
  refine va_get (D := D) (ci := 10) (C := RX10) (T := TX10) (N := 8) hx hb hts qX10_doubt_X10 hown hK hP 0 rfl rfl 2 (by decide) (hts _ kX10_doubt_3) (fun _ h9 => h9) rfl dX10_doubt_9 ?_
  obtain ⟨⟨r1, t_doubts_doubts_r2, t_doubts_codes_r3, t_trail_greatest_r4, t_trail_least_r5, t_trail_mats_r6, t_trail_places_r7, t_trail_ticks_r8⟩, e9, h⟩ := zz_b h
  dsimp only at h
  refine zVi (As := [.ref a_t_race, .ref a_t_trail]) (rest := []) (C := RX0) (wr := [(a_t, .inr (10, [.ref a_t_race, .ref a_t_kept, .ref a_t_trail, .ref a_t_doubts, .ref a_t_foretelling, .ref a_t_text, .ref a_t_listing, .int t_isKept]))]) [1, 2, 3, 4, 5, 6, 7, 8, 9, 10, 11, 12, 13] [0] 0 ⟨hx, hb, hml, hown, hts⟩ (mX0_gather l D cB cI cZ a_t_doubts a_t_race a_t_trail a_t_doubts_codes a_t_race_way a_t_race_guns a_t_race_runners a_t_race_guns_ticks a_t_race_runners_facts a_t_race_runners_splits a_t_race_runners_torn a_t_race_runners_dropped a_t_race_runners_waved a_t_race_runners_struck a_t_race_runners_strikingOrder a_t_race_way_places a_t_race_way_bearings a_t_race_way_cuts a_t_race_way_deaths a_t_trail_ticks a_t_trail_places t_doubts_doubts t_doubts_codes t_race_guns_ticks t_race_runners_entered t_race_runners_strikings t_race_runners_facts t_race_runners_splits t_race_way_mats t_race_way_places t_trail_mats t_trail_least t_trail_greatest t_trail_places t_trail_ticks s.heap.size N r1 t_doubts_doubts_r2 t_doubts_codes_r3 t_trail_greatest_r4 t_trail_least_r5 t_trail_mats_r6 t_trail_places_r7 t_trail_ticks_r8 e9) (cwV 2 hts gX10_doubt_X0_gather rfl rfl rfl (by decide +kernel) ⟨Nat.le_of_ble_eq_true rfl, Nat.le_of_ble_eq_true rfl⟩) hK hN hZ hP hD hS hA rfl rfl rfl rfl rfl rfl rfl rfl hl.1 rfl (lv_room (Nat.le_of_ble_eq_true rfl)) dX10_doubt_12 ⟨Nat.le_of_ble_eq_true rfl, Nat.le_of_ble_eq_true rfl⟩ (fun H locs hP hD hS => ?_)
  have hP : va_P D vwCl [(a_t, .inr (10, [.ref a_t_race, .ref a_t_kept, .ref a_t_trail, .ref a_t_doubts, .ref a_t_foretelling, .ref a_t_text, .ref a_t_listing, .int t_isKept])), (a_t_doubts, .inr (0, [.ref a_t_doubts_codes, .int t_doubts_doubts_r2])), (a_t_doubts_codes, .inl (cI, 2160, .inl t_doubts_codes_r3)), (a_t_race, .inr (4, [.ref a_t_race_way, .ref a_t_race_guns, .ref a_t_race_runners])), (a_t_race_guns, .inr (2, [.ref a_t_race_guns_ticks])), (a_t_race_guns_ticks, .inl (cI, 6, .inl t_race_guns_ticks)), (a_t_race_runners, .inr (6, [.ref a_t_race_runners_facts, .ref a_t_race_runners_splits, .ref a_t_race_runners_torn, .ref a_t_race_runners_dropped, .ref a_t_race_runners_waved, .ref a_t_race_runners_struck, .ref a_t_race_runners_strikingOrder, .int t_race_runners_entered, .int t_race_runners_strikings])), (a_t_race_runners_facts, .inl (cI, 360, .inl t_race_runners_facts)), (a_t_race_runners_splits, .inl (cI, 720, .inl t_race_runners_splits)), (a_t_race_way, .inr (9, [.ref a_t_race_way_places, .ref a_t_race_way_bearings, .ref a_t_race_way_cuts, .ref a_t_race_way_deaths, .int t_race_way_mats])), (a_t_race_way_places, .inl (cI, 12, .inl t_race_way_places)), (a_t_trail, .inr (8, [.ref a_t_trail_ticks, .ref a_t_trail_places, .int t_trail_mats_r6, .int t_trail_least_r5, .int t_trail_greatest_r4])), (a_t_trail_places, .inl (cI, 12, .inl t_trail_places_r7)), (a_t_trail_ticks, .inl (cI, 12, .inl t_trail_ticks_r8))] H := hP
  have hD : va_D A [(a_t, .inr (10, [.ref a_t_race, .ref a_t_kept, .ref a_t_trail, .ref a_t_doubts, .ref a_t_foretelling, .ref a_t_text, .ref a_t_listing, .int t_isKept])), (a_t_doubts, .inr (0, [.ref a_t_doubts_codes, .int t_doubts_doubts_r2])), (a_t_doubts_codes, .inl (cI, 2160, .inl t_doubts_codes_r3)), (a_t_race, .inr (4, [.ref a_t_race_way, .ref a_t_race_guns, .ref a_t_race_runners])), (a_t_race_guns, .inr (2, [.ref a_t_race_guns_ticks])), (a_t_race_guns_ticks, .inl (cI, 6, .inl t_race_guns_ticks)), (a_t_race_runners, .inr (6, [.ref a_t_race_runners_facts, .ref a_t_race_runners_splits, .ref a_t_race_runners_torn, .ref a_t_race_runners_dropped, .ref a_t_race_runners_waved, .ref a_t_race_runners_struck, .ref a_t_race_runners_strikingOrder, .int t_race_runners_entered, .int t_race_runners_strikings])), (a_t_race_runners_facts, .inl (cI, 360, .inl t_race_runners_facts)), (a_t_race_runners_splits, .inl (cI, 720, .inl t_race_runners_splits)), (a_t_race_way, .inr (9, [.ref a_t_race_way_places, .ref a_t_race_way_bearings, .ref a_t_race_way_cuts, .ref a_t_race_way_deaths, .int t_race_way_mats])), (a_t_race_way_places, .inl (cI, 12, .inl t_race_way_places)), (a_t_trail, .inr (8, [.ref a_t_trail_ticks, .ref a_t_trail_places, .int t_trail_mats_r6, .int t_trail_least_r5, .int t_trail_greatest_r4])), (a_t_trail_places, .inl (cI, 12, .inl t_trail_places_r7)), (a_t_trail_ticks, .inl (cI, 12, .inl t_trail_ticks_r8))] := hD
  refine lv_pop hx hb dX10_doubt_15 rfl ?_
  refine lv_aload_n hx hb dX10_doubt_16 rfl (lv_at hl 0 rfl) ?_
  refine va_get (D := D) (ci := 10) (C := RX10) (T := TX10) (N := 8) hx hb hts qX10_doubt_X10 hown hK hP 0 rfl rfl 3 (by decide) (hts _ kX10_doubt_0) (fun _ h9 => h9) rfl dX10_doubt_17 ?_
  refine lv_iload_n hx hb dX10_doubt_20 rfl (lv_at hl 1 rfl) ?_
  refine lv_iload_n hx hb dX10_doubt_21 rfl (lv_at hl 2 rfl) ?_
  obtain ⟨r10, e11, h⟩ := zz_b h
  refine zVi (As := [.int x1, .int x2]) (rest := []) (C := RX0) (wr := [(a_t, .inr (10, [.ref a_t_race, .ref a_t_kept, .ref a_t_trail, .ref a_t_doubts, .ref a_t_foretelling, .ref a_t_text, .ref a_t_listing, .int t_isKept])), (a_t_race, .inr (4, [.ref a_t_race_way, .ref a_t_race_guns, .ref a_t_race_runners])), (a_t_race_guns, .inr (2, [.ref a_t_race_guns_ticks])), (a_t_race_guns_ticks, .inl (cI, 6, .inl t_race_guns_ticks)), (a_t_race_runners, .inr (6, [.ref a_t_race_runners_facts, .ref a_t_race_runners_splits, .ref a_t_race_runners_torn, .ref a_t_race_runners_dropped, .ref a_t_race_runners_waved, .ref a_t_race_runners_struck, .ref a_t_race_runners_strikingOrder, .int t_race_runners_entered, .int t_race_runners_strikings])), (a_t_race_runners_facts, .inl (cI, 360, .inl t_race_runners_facts)), (a_t_race_runners_splits, .inl (cI, 720, .inl t_race_runners_splits)), (a_t_race_way, .inr (9, [.ref a_t_race_way_places, .ref a_t_race_way_bearings, .ref a_t_race_way_cuts, .ref a_t_race_way_deaths, .int t_race_way_mats])), (a_t_race_way_places, .inl (cI, 12, .inl t_race_way_places)), (a_t_trail, .inr (8, [.ref a_t_trail_ticks, .ref a_t_trail_places, .int t_trail_mats_r6, .int t_trail_least_r5, .int t_trail_greatest_r4])), (a_t_trail_places, .inl (cI, 12, .inl t_trail_places_r7)), (a_t_trail_ticks, .inl (cI, 12, .inl t_trail_ticks_r8))]) [1, 2] [0, 3, 4, 5, 6, 7, 8, 9, 10, 11, 12, 13] 0 ⟨hx, hb, hml, hown, hts⟩ (mX0_tell l D cB cI cZ a_t_doubts a_t_doubts_codes t_doubts_doubts_r2 t_doubts_codes_r3 H.size x1 x2 r10 e11) (cwV 2 hts gX10_doubt_X0_tell rfl rfl rfl (by decide +kernel) ⟨Nat.le_of_ble_eq_true rfl, Nat.le_of_ble_eq_true rfl⟩) hK hN hZ hP hD hS hA rfl rfl rfl rfl rfl rfl rfl rfl hl.1 rfl (lv_room (Nat.le_of_ble_eq_true rfl)) dX10_doubt_22 ⟨Nat.le_of_ble_eq_true rfl, Nat.le_of_ble_eq_true rfl⟩ (fun H locs hP hD hS => ?_)
  have hP : va_P D vwCl [(a_t, .inr (10, [.ref a_t_race, .ref a_t_kept, .ref a_t_trail, .ref a_t_doubts, .ref a_t_foretelling, .ref a_t_text, .ref a_t_listing, .int t_isKept])), (a_t_race, .inr (4, [.ref a_t_race_way, .ref a_t_race_guns, .ref a_t_race_runners])), (a_t_race_guns, .inr (2, [.ref a_t_race_guns_ticks])), (a_t_race_guns_ticks, .inl (cI, 6, .inl t_race_guns_ticks)), (a_t_race_runners, .inr (6, [.ref a_t_race_runners_facts, .ref a_t_race_runners_splits, .ref a_t_race_runners_torn, .ref a_t_race_runners_dropped, .ref a_t_race_runners_waved, .ref a_t_race_runners_struck, .ref a_t_race_runners_strikingOrder, .int t_race_runners_entered, .int t_race_runners_strikings])), (a_t_race_runners_facts, .inl (cI, 360, .inl t_race_runners_facts)), (a_t_race_runners_splits, .inl (cI, 720, .inl t_race_runners_splits)), (a_t_race_way, .inr (9, [.ref a_t_race_way_places, .ref a_t_race_way_bearings, .ref a_t_race_way_cuts, .ref a_t_race_way_deaths, .int t_race_way_mats])), (a_t_race_way_places, .inl (cI, 12, .inl t_race_way_places)), (a_t_trail, .inr (8, [.ref a_t_trail_ticks, .ref a_t_trail_places, .int t_trail_mats_r6, .int t_trail_least_r5, .int t_trail_greatest_r4])), (a_t_trail_places, .inl (cI, 12, .inl t_trail_places_r7)), (a_t_trail_ticks, .inl (cI, 12, .inl t_trail_ticks_r8)), (a_t_doubts, .inr (0, [.ref a_t_doubts_codes, .int t_doubts_doubts_r2])), (a_t_doubts_codes, .inl (cI, 2160, .inl t_doubts_codes_r3))] H := hP
  have hD : va_D A [(a_t, .inr (10, [.ref a_t_race, .ref a_t_kept, .ref a_t_trail, .ref a_t_doubts, .ref a_t_foretelling, .ref a_t_text, .ref a_t_listing, .int t_isKept])), (a_t_race, .inr (4, [.ref a_t_race_way, .ref a_t_race_guns, .ref a_t_race_runners])), (a_t_race_guns, .inr (2, [.ref a_t_race_guns_ticks])), (a_t_race_guns_ticks, .inl (cI, 6, .inl t_race_guns_ticks)), (a_t_race_runners, .inr (6, [.ref a_t_race_runners_facts, .ref a_t_race_runners_splits, .ref a_t_race_runners_torn, .ref a_t_race_runners_dropped, .ref a_t_race_runners_waved, .ref a_t_race_runners_struck, .ref a_t_race_runners_strikingOrder, .int t_race_runners_entered, .int t_race_runners_strikings])), (a_t_race_runners_facts, .inl (cI, 360, .inl t_race_runners_facts)), (a_t_race_runners_splits, .inl (cI, 720, .inl t_race_runners_splits)), (a_t_race_way, .inr (9, [.ref a_t_race_way_places, .ref a_t_race_way_bearings, .ref a_t_race_way_cuts, .ref a_t_race_way_deaths, .int t_race_way_mats])), (a_t_race_way_places, .inl (cI, 12, .inl t_race_way_places)), (a_t_trail, .inr (8, [.ref a_t_trail_ticks, .ref a_t_trail_places, .int t_trail_mats_r6, .int t_trail_least_r5, .int t_trail_greatest_r4])), (a_t_trail_places, .inl (cI, 12, .inl t_trail_places_r7)), (a_t_trail_ticks, .inl (cI, 12, .inl t_trail_ticks_r8)), (a_t_doubts, .inr (0, [.ref a_t_doubts_codes, .int t_doubts_doubts_r2])), (a_t_doubts_codes, .inl (cI, 2160, .inl t_doubts_codes_r3))] := hD
  obtain ⟨j0_, g_⟩ := Prod.mk.inj (Option.some.inj h)
  obtain ⟨j1_, g_⟩ := Prod.mk.inj g_
  obtain ⟨j2_, g_⟩ := Prod.mk.inj g_
  obtain ⟨j3_, g_⟩ := Prod.mk.inj g_
  obtain ⟨j4_, g_⟩ := Prod.mk.inj g_
  obtain ⟨j5_, g_⟩ := Prod.mk.inj g_
  obtain ⟨j6_, g_⟩ := Prod.mk.inj g_
  have j7_ := g_
  subst j0_
  subst j1_
  subst j2_
  subst j3_
  subst j4_
  subst j5_
  subst j6_
  subst j7_
  exact W.iret (v := r10) hx hb hr (fun t ht hW => ⟨⟨_, (), rfl, rfl, zPost.of hP hD hK ht hW [0, 12, 13, 1, 2, 3, 4, 5, 6, 7, 8, 9, 10, 11] rfl rfl rfl⟩, hS.F ht⟩) hS.2.2 dX10_doubt_25
/-! RunDesk.foretold -/
theorem dX10_foretold_0 : decode cX10_foretold 0 = .ok (.aload_n 0, 1) := by decide +kernel
theorem dX10_foretold_1 : decode cX10_foretold 1 = .ok (.getfield 10, 3) := by decide +kernel
theorem dX10_foretold_4 : decode cX10_foretold 4 = .ok (.getfield 58, 3) := by decide +kernel
theorem dX10_foretold_7 : decode cX10_foretold 7 = .ok (.iload_n 1, 1) := by decide +kernel
theorem dX10_foretold_8 : decode cX10_foretold 8 = .ok (.invokevirtual 118, 3) := by decide +kernel
theorem dX10_foretold_11 : decode cX10_foretold 11 = .ok (.ifCond .eq 23, 3) := by decide +kernel
theorem dX10_foretold_14 : decode cX10_foretold 14 = .ok (.iload_n 2, 1) := by decide +kernel
theorem dX10_foretold_15 : decode cX10_foretold 15 = .ok (.ifCond .lt 19, 3) := by decide +kernel
theorem dX10_foretold_18 : decode cX10_foretold 18 = .ok (.aload_n 0, 1) := by decide +kernel
theorem dX10_foretold_19 : decode cX10_foretold 19 = .ok (.getfield 36, 3) := by decide +kernel
theorem dX10_foretold_22 : decode cX10_foretold 22 = .ok (.aload_n 0, 1) := by decide +kernel
theorem dX10_foretold_23 : decode cX10_foretold 23 = .ok (.getfield 10, 3) := by decide +kernel
theorem dX10_foretold_26 : decode cX10_foretold 26 = .ok (.iload_n 1, 1) := by decide +kernel
theorem dX10_foretold_27 : decode cX10_foretold 27 = .ok (.iload_n 2, 1) := by decide +kernel
theorem dX10_foretold_28 : decode cX10_foretold 28 = .ok (.invokevirtual 161, 3) := by decide +kernel
theorem dX10_foretold_31 : decode cX10_foretold 31 = .ok (.goto 4, 3) := by decide +kernel
theorem dX10_foretold_34 : decode cX10_foretold 34 = .ok (.iconst (-1), 1) := by decide +kernel
theorem dX10_foretold_35 : decode cX10_foretold 35 = .ok (.ireturn, 1) := by decide +kernel
set_option maxRecDepth 20000 in
theorem ggX10_foretold_X9_has : GoodIn wsX10_foretold wsX9_has := goodIn_r _ [7, 8, 59, 60, 61, 62, 63] (by decide +kernel) (by decide +kernel)
set_option maxRecDepth 20000 in
theorem gX10_foretold_X9_has : GoodIn wsX10_foretold (wsV RX10 118 RX9 yX9_has wsX9_has) := goodIn_app (goodIn_of _ (by decide +kernel)) ggX10_foretold_X9_has
set_option maxRecDepth 20000 in
theorem ggX10_foretold_X1_passersIn : GoodIn wsX10_foretold wsX1_passersIn := goodIn_r _ [13, 14, 15, 16, 6, 17, 18, 19, 4, 5, 7, 8, 20, 21, 22, 23, 24, 25, 26, 27, 28, 29, 30, 31, 32, 33, 34, 35, 36, 37, 38, 39, 40, 41, 42, 43, 44, 45, 46, 47, 56, 57, 58, 59, 60, 61, 62, 63, 64, 65, 66, 67, 68, 69, 70, 71, 72, 73] (by decide +kernel) (by decide +kernel)
set_option maxRecDepth 20000 in
theorem gX10_foretold_X1_passersIn : GoodIn wsX10_foretold (wsV RX10 161 RX1 yX1_passersIn wsX1_passersIn) := goodIn_app (goodIn_of _ (by decide +kernel)) ggX10_foretold_X1_passersIn
theorem kX10_foretold_0 : (.fieldLink RX10 10 "RunDesk" "race" "LRunDesk$Race;" : Cond) ∈ wsX10_foretold := List.mem_of_getElem? (i := 1) (by decide +kernel)
theorem qX10_foretold_X10 : ∀ w ∈ wsX100, w ∈ wsX10_foretold := fun _ h => List.mem_cons_of_mem _ (List.mem_append_left _ (List.mem_append_left _ (List.mem_append_left _ (List.mem_append_left _ (List.mem_append_right _ (h))))))
theorem qX10_foretold_X4 : ∀ w ∈ wsX40, w ∈ wsX10_foretold := fun _ h => List.mem_cons_of_mem _ (List.mem_append_left _ (List.mem_append_left _ (List.mem_append_left _ (List.mem_append_right _ (h)))))
theorem kX10_foretold_3 : (.fieldLink RX10 36 "RunDesk" "foretelling" "LRunDesk$Foretelling;" : Cond) ∈ wsX10_foretold := List.mem_of_getElem? (i := 2) (by decide +kernel)
set_option maxHeartbeats 4000000 in
set_option maxRecDepth 100000 in
theorem mX10_foretold (l : Launch) (D : va_G) (cB cI cZ : ClassId) (a_t : Nat) (a_t_race : Nat) (a_t_kept : Nat) (a_t_trail : Nat) (a_t_doubts : Nat) (a_t_foretelling : Nat) (a_t_text : Nat) (a_t_listing : Nat) (a_t_foretelling_seconds : Nat) (a_t_foretelling_pens : Nat) (a_t_foretelling_minutes : Nat) (a_t_foretelling_passers : Nat) (a_t_foretelling_tried : Nat) (a_t_race_way : Nat) (a_t_race_guns : Nat) (a_t_race_runners : Nat) (a_t_race_guns_ticks : Nat) (a_t_race_runners_facts : Nat) (a_t_race_runners_splits : Nat) (a_t_race_runners_torn : Nat) (a_t_race_runners_dropped : Nat) (a_t_race_runners_waved : Nat) (a_t_race_runners_struck : Nat) (a_t_race_runners_strikingOrder : Nat) (a_t_race_way_places : Nat) (a_t_race_way_bearings : Nat) (a_t_race_way_cuts : Nat) (a_t_race_way_deaths : Nat) (t_isKept : Int32) (t_race_guns_ticks : Nat → Int32) (t_race_runners_entered : Int32) (t_race_runners_strikings : Int32) (t_race_runners_facts : Nat → Int32) (t_race_way_mats : Int32) (t_race_way_places : Nat → Int32) (sz : Nat) (x1 : Int32) (x2 : Int32) (N : Nat) (r0 : Int32) (h : fX10_foretold N t_race_guns_ticks t_race_runners_entered t_race_runners_facts t_race_way_mats t_race_way_places x1 x2 = some (r0)) : Met l yX10_foretold wsX10_foretold ({ frames := 3, cells := 0, slots := 0, locals := 71 } : Room) (va_Pc [.ref a_t, .int x1, .int x2] (zPre D (zT cB cI cZ) [(a_t, .inr (10, [.ref a_t_race, .ref a_t_kept, .ref a_t_trail, .ref a_t_doubts, .ref a_t_foretelling, .ref a_t_text, .ref a_t_listing, .int t_isKept])), (a_t_foretelling, .inr (1, [.ref a_t_foretelling_seconds, .ref a_t_foretelling_pens, .ref a_t_foretelling_minutes, .ref a_t_foretelling_passers, .ref a_t_foretelling_tried])), (a_t_race, .inr (4, [.ref a_t_race_way, .ref a_t_race_guns, .ref a_t_race_runners])), (a_t_race_guns, .inr (2, [.ref a_t_race_guns_ticks])), (a_t_race_guns_ticks, .inl (cI, 6, .inl t_race_guns_ticks)), (a_t_race_runners, .inr (6, [.ref a_t_race_runners_facts, .ref a_t_race_runners_splits, .ref a_t_race_runners_torn, .ref a_t_race_runners_dropped, .ref a_t_race_runners_waved, .ref a_t_race_runners_struck, .ref a_t_race_runners_strikingOrder, .int t_race_runners_entered, .int t_race_runners_strikings])), (a_t_race_runners_facts, .inl (cI, 360, .inl t_race_runners_facts)), (a_t_race_way, .inr (9, [.ref a_t_race_way_places, .ref a_t_race_way_bearings, .ref a_t_race_way_cuts, .ref a_t_race_way_deaths, .int t_race_way_mats])), (a_t_race_way_places, .inl (cI, 12, .inl t_race_way_places))] sz)) (zQi r0 D (zT cB cI cZ) [(a_t, .inr (10, [.ref a_t_race, .ref a_t_kept, .ref a_t_trail, .ref a_t_doubts, .ref a_t_foretelling, .ref a_t_text, .ref a_t_listing, .int t_isKept])), (a_t_foretelling, .inr (1, [.ref a_t_foretelling_seconds, .ref a_t_foretelling_pens, .ref a_t_foretelling_minutes, .ref a_t_foretelling_passers, .ref a_t_foretelling_tried])), (a_t_race, .inr (4, [.ref a_t_race_way, .ref a_t_race_guns, .ref a_t_race_runners])), (a_t_race_guns, .inr (2, [.ref a_t_race_guns_ticks])), (a_t_race_guns_ticks, .inl (cI, 6, .inl t_race_guns_ticks)), (a_t_race_runners, .inr (6, [.ref a_t_race_runners_facts, .ref a_t_race_runners_splits, .ref a_t_race_runners_torn, .ref a_t_race_runners_dropped, .ref a_t_race_runners_waved, .ref a_t_race_runners_struck, .ref a_t_race_runners_strikingOrder, .int t_race_runners_entered, .int t_race_runners_strikings])), (a_t_race_runners_facts, .inl (cI, 360, .inl t_race_runners_facts)), (a_t_race_way, .inr (9, [.ref a_t_race_way_places, .ref a_t_race_way_bearings, .ref a_t_race_way_cuts, .ref a_t_race_way_deaths, .int t_race_way_mats])), (a_t_race_way_places, .inl (cI, 12, .inl t_race_way_places))] (va_A [(a_t, .inr (10, [.ref a_t_race, .ref a_t_kept, .ref a_t_trail, .ref a_t_doubts, .ref a_t_foretelling, .ref a_t_text, .ref a_t_listing, .int t_isKept])), (a_t_foretelling, .inr (1, [.ref a_t_foretelling_seconds, .ref a_t_foretelling_pens, .ref a_t_foretelling_minutes, .ref a_t_foretelling_passers, .ref a_t_foretelling_tried])), (a_t_race, .inr (4, [.ref a_t_race_way, .ref a_t_race_guns, .ref a_t_race_runners])), (a_t_race_guns, .inr (2, [.ref a_t_race_guns_ticks])), (a_t_race_guns_ticks, .inl (cI, 6, .inl t_race_guns_ticks)), (a_t_race_runners, .inr (6, [.ref a_t_race_runners_facts, .ref a_t_race_runners_splits, .ref a_t_race_runners_torn, .ref a_t_race_runners_dropped, .ref a_t_race_runners_waved, .ref a_t_race_runners_struck, .ref a_t_race_runners_strikingOrder, .int t_race_runners_entered, .int t_race_runners_strikings])), (a_t_race_runners_facts, .inl (cI, 360, .inl t_race_runners_facts)), (a_t_race_way, .inr (9, [.ref a_t_race_way_places, .ref a_t_race_way_bearings, .ref a_t_race_way_cuts, .ref a_t_race_way_deaths, .int t_race_way_mats])), (a_t_race_way_places, .inl (cI, 12, .inl t_race_way_places))] sz)) 0 0 (va_A [(a_t, .inr (10, [.ref a_t_race, .ref a_t_kept, .ref a_t_trail, .ref a_t_doubts, .ref a_t_foretelling, .ref a_t_text, .ref a_t_listing, .int t_isKept])), (a_t_foretelling, .inr (1, [.ref a_t_foretelling_seconds, .ref a_t_foretelling_pens, .ref a_t_foretelling_minutes, .ref a_t_foretelling_passers, .ref a_t_foretelling_tried])), (a_t_race, .inr (4, [.ref a_t_race_way, .ref a_t_race_guns, .ref a_t_race_runners])), (a_t_race_guns, .inr (2, [.ref a_t_race_guns_ticks])), (a_t_race_guns_ticks, .inl (cI, 6, .inl t_race_guns_ticks)), (a_t_race_runners, .inr (6, [.ref a_t_race_runners_facts, .ref a_t_race_runners_splits, .ref a_t_race_runners_torn, .ref a_t_race_runners_dropped, .ref a_t_race_runners_waved, .ref a_t_race_runners_struck, .ref a_t_race_runners_strikingOrder, .int t_race_runners_entered, .int t_race_runners_strikings])), (a_t_race_runners_facts, .inl (cI, 360, .inl t_race_runners_facts)), (a_t_race_way, .inr (9, [.ref a_t_race_way_places, .ref a_t_race_way_bearings, .ref a_t_race_way_cuts, .ref a_t_race_way_deaths, .int t_race_way_mats])), (a_t_race_way_places, .inl (cI, 12, .inl t_race_way_places))] sz) := by
  refine Met.ofW (cc := cX10_foretold) (maxL := 3) (ret := (some .int)) (by decide) rfl ?_
  intro p e s m args below meth c s₁ B hml hv
  obtain ⟨rfl, hsz, hP, hK, hN, hZ, hD0⟩ := hv
  have hx := B.exec
  have hb := B.bytes
  have hr := B.returns
  have hts := atoms_spec (ws := wsX10_foretold) B.pre
  have hown : s.vm.findClass RX10 = some m.cls := findClass_of_methodNamed B.named
  have hlocks := B.notSynchronized
  subst hsz
  have hD := hD0.self (sz := s.heap.size)
  generalize hAe : va_A [(a_t, .inr (10, [.ref a_t_race, .ref a_t_kept, .ref a_t_trail, .ref a_t_doubts, .ref a_t_foretelling, .ref a_t_text, .ref a_t_listing, .int t_isKept])), (a_t_foretelling, .inr (1, [.ref a_t_foretelling_seconds, .ref a_t_foretelling_pens, .ref a_t_foretelling_minutes, .ref a_t_foretelling_passers, .ref a_t_foretelling_tried])), (a_t_race, .inr (4, [.ref a_t_race_way, .ref a_t_race_guns, .ref a_t_race_runners])), (a_t_race_guns, .inr (2, [.ref a_t_race_guns_ticks])), (a_t_race_guns_ticks, .inl (cI, 6, .inl t_race_guns_ticks)), (a_t_race_runners, .inr (6, [.ref a_t_race_runners_facts, .ref a_t_race_runners_splits, .ref a_t_race_runners_torn, .ref a_t_race_runners_dropped, .ref a_t_race_runners_waved, .ref a_t_race_runners_struck, .ref a_t_race_runners_strikingOrder, .int t_race_runners_entered, .int t_race_runners_strikings])), (a_t_race_runners_facts, .inl (cI, 360, .inl t_race_runners_facts)), (a_t_race_way, .inr (9, [.ref a_t_race_way_places, .ref a_t_race_way_bearings, .ref a_t_race_way_cuts, .ref a_t_race_way_deaths, .int t_race_way_mats])), (a_t_race_way_places, .inl (cI, 12, .inl t_race_way_places))] s.heap.size = A at hD hZ ⊢
  have hA : ∀ q : Nat, s.heap.size ≤ q → A q := fun q h => by rw [← hAe]; exact Or.inr h
  have hS : va_S A s.heap s.heap [] := va_S.rf
  have hl := lv_entry ([.ref a_t, .int x1, .int x2]) (n := 3) (Nat.le_of_ble_eq_true rfl)
  rw [lg_entry_eq]
  generalize (lg_sl ([.ref a_t, .int x1, .int x2]) ++ List.replicate (3 - (lg_sl ([.ref a_t, .int x1, .int x2])).length) Slot.unset).toArray = ls at hl ⊢
  have hl : lv_has ls 3 [(0, .ref a_t), (1, .int x1), (2, .int x2)] := hl
  unfold fX10_foretold at h
  refine lv_aload_n hx hb dX10_foretold_0 rfl (lv_at hl 0 rfl) ?_
  refine va_get (D := D) (ci := 10) (C := RX10) (T := TX10) (N := 8) hx hb hts qX10_foretold_X10 hown hK hP 0 rfl rfl 0 (by decide) (hts _ kX10_foretold_0) (fun _ h9 => h9) rfl dX10_foretold_1 ?_
  refine va_getN (host := "RunDesk") (D := D) (ci := 4) (C := RX4) (T := TX4) (N := 3) hx hb hts qX10_foretold_X4 hown hK hP 2 rfl rfl 0 (by decide) (va_Nw.use rfl (hN _ (List.mem_of_getElem? (i := 0) rfl))) (fun _ h9 => h9) rfl dX10_foretold_4 ?_
  refine lv_iload_n hx hb dX10_foretold_7 rfl (lv_at hl 1 rfl) ?_
  obtain ⟨b1, e2, h⟩ := zz_b h
  refine zVi (As := [.int x1]) (rest := []) (C := RX9) (wr := [(a_t, .inr (10, [.ref a_t_race, .ref a_t_kept, .ref a_t_trail, .ref a_t_doubts, .ref a_t_foretelling, .ref a_t_text, .ref a_t_listing, .int t_isKept])), (a_t_foretelling, .inr (1, [.ref a_t_foretelling_seconds, .ref a_t_foretelling_pens, .ref a_t_foretelling_minutes, .ref a_t_foretelling_passers, .ref a_t_foretelling_tried])), (a_t_race, .inr (4, [.ref a_t_race_way, .ref a_t_race_guns, .ref a_t_race_runners])), (a_t_race_guns, .inr (2, [.ref a_t_race_guns_ticks])), (a_t_race_guns_ticks, .inl (cI, 6, .inl t_race_guns_ticks)), (a_t_race_runners, .inr (6, [.ref a_t_race_runners_facts, .ref a_t_race_runners_splits, .ref a_t_race_runners_torn, .ref a_t_race_runners_dropped, .ref a_t_race_runners_waved, .ref a_t_race_runners_struck, .ref a_t_race_runners_strikingOrder, .int t_race_runners_entered, .int t_race_runners_strikings])), (a_t_race_runners_facts, .inl (cI, 360, .inl t_race_runners_facts)), (a_t_race_way_places, .inl (cI, 12, .inl t_race_way_places))]) [7] [0, 1, 2, 3, 4, 5, 6, 8] 0 ⟨hx, hb, hml, hown, hts⟩ (mX9_has l D cB cI cZ a_t_race_way a_t_race_way_places a_t_race_way_bearings a_t_race_way_cuts a_t_race_way_deaths t_race_way_mats s.heap.size x1 b1 e2) (cwV 1 hts gX10_foretold_X9_has rfl rfl rfl (by decide +kernel) ⟨Nat.le_of_ble_eq_true rfl, Nat.le_of_ble_eq_true rfl⟩) hK hN hZ hP hD hS hA rfl rfl rfl rfl rfl rfl rfl rfl hl.1 rfl (lv_room (Nat.le_of_ble_eq_true rfl)) dX10_foretold_8 ⟨Nat.le_of_ble_eq_true rfl, Nat.le_of_ble_eq_true rfl⟩ (fun H locs hP hD hS => ?_)
  have hP : va_P D vwCl [(a_t, .inr (10, [.ref a_t_race, .ref a_t_kept, .ref a_t_trail, .ref a_t_doubts, .ref a_t_foretelling, .ref a_t_text, .ref a_t_listing, .int t_isKept])), (a_t_foretelling, .inr (1, [.ref a_t_foretelling_seconds, .ref a_t_foretelling_pens, .ref a_t_foretelling_minutes, .ref a_t_foretelling_passers, .ref a_t_foretelling_tried])), (a_t_race, .inr (4, [.ref a_t_race_way, .ref a_t_race_guns, .ref a_t_race_runners])), (a_t_race_guns, .inr (2, [.ref a_t_race_guns_ticks])), (a_t_race_guns_ticks, .inl (cI, 6, .inl t_race_guns_ticks)), (a_t_race_runners, .inr (6, [.ref a_t_race_runners_facts, .ref a_t_race_runners_splits, .ref a_t_race_runners_torn, .ref a_t_race_runners_dropped, .ref a_t_race_runners_waved, .ref a_t_race_runners_struck, .ref a_t_race_runners_strikingOrder, .int t_race_runners_entered, .int t_race_runners_strikings])), (a_t_race_runners_facts, .inl (cI, 360, .inl t_race_runners_facts)), (a_t_race_way_places, .inl (cI, 12, .inl t_race_way_places)), (a_t_race_way, .inr (9, [.ref a_t_race_way_places, .ref a_t_race_way_bearings, .ref a_t_race_way_cuts, .ref a_t_race_way_deaths, .int t_race_way_mats]))] H := hP
  have hD : va_D A [(a_t, .inr (10, [.ref a_t_race, .ref a_t_kept, .ref a_t_trail, .ref a_t_doubts, .ref a_t_foretelling, .ref a_t_text, .ref a_t_listing, .int t_isKept])), (a_t_foretelling, .inr (1, [.ref a_t_foretelling_seconds, .ref a_t_foretelling_pens, .ref a_t_foretelling_minutes, .ref a_t_foretelling_passers, .ref a_t_foretelling_tried])), (a_t_race, .inr (4, [.ref a_t_race_way, .ref a_t_race_guns, .ref a_t_race_runners])), (a_t_race_guns, .inr (2, [.ref a_t_race_guns_ticks])), (a_t_race_guns_ticks, .inl (cI, 6, .inl t_race_guns_ticks)), (a_t_race_runners, .inr (6, [.ref a_t_race_runners_facts, .ref a_t_race_runners_splits, .ref a_t_race_runners_torn, .ref a_t_race_runners_dropped, .ref a_t_race_runners_waved, .ref a_t_race_runners_struck, .ref a_t_race_runners_strikingOrder, .int t_race_runners_entered, .int t_race_runners_strikings])), (a_t_race_runners_facts, .inl (cI, 360, .inl t_race_runners_facts)), (a_t_race_way_places, .inl (cI, 12, .inl t_race_way_places)), (a_t_race_way, .inr (9, [.ref a_t_race_way_places, .ref a_t_race_way_bearings, .ref a_t_race_way_cuts, .ref a_t_race_way_deaths, .int t_race_way_mats]))] := hD
  refine lv_if_eq (tgt := 34) hx hb dX10_foretold_11 (by decide) (fun c3 => ?_) (fun c3 => ?_)
  · have h := zz_t h c3
    refine lv_iconst (v := (-1 : Int32)) hx hb dX10_foretold_34 rfl ?_
    have j0_ := Option.some.inj h
    subst j0_
    exact W.iret (v := (-1 : Int32)) hx hb hr (fun t ht hW => ⟨⟨_, (), rfl, rfl, zPost.of hP hD hK ht hW [0, 1, 2, 3, 4, 5, 6, 8, 7] rfl rfl rfl⟩, hS.F ht⟩) hS.2.2 dX10_foretold_35
  · have h := zz_f h c3
    refine lv_iload_n hx hb dX10_foretold_14 rfl (lv_at hl 2 rfl) ?_
    refine lv_if_lt (tgt := 34) hx hb dX10_foretold_15 (by decide) (fun c4 => ?_) (fun c4 => ?_)
    · have h := zz_t h c4
      refine lv_iconst (v := (-1 : Int32)) hx hb dX10_foretold_34 rfl ?_
      have j0_ := Option.some.inj h
      subst j0_
      exact W.iret (v := (-1 : Int32)) hx hb hr (fun t ht hW => ⟨⟨_, (), rfl, rfl, zPost.of hP hD hK ht hW [0, 1, 2, 3, 4, 5, 6, 8, 7] rfl rfl rfl⟩, hS.F ht⟩) hS.2.2 dX10_foretold_35
    · have h := zz_f h c4
      refine lv_aload_n hx hb dX10_foretold_18 rfl (lv_at hl 0 rfl) ?_
      refine va_get (D := D) (ci := 10) (C := RX10) (T := TX10) (N := 8) hx hb hts qX10_foretold_X10 hown hK hP 0 rfl rfl 4 (by decide) (hts _ kX10_foretold_3) (fun _ h9 => h9) rfl dX10_foretold_19 ?_
      refine lv_aload_n hx hb dX10_foretold_22 rfl (lv_at hl 0 rfl) ?_
      refine va_get (D := D) (ci := 10) (C := RX10) (T := TX10) (N := 8) hx hb hts qX10_foretold_X10 hown hK hP 0 rfl rfl 0 (by decide) (hts _ kX10_foretold_0) (fun _ h9 => h9) rfl dX10_foretold_23 ?_
      refine lv_iload_n hx hb dX10_foretold_26 rfl (lv_at hl 1 rfl) ?_
      refine lv_iload_n hx hb dX10_foretold_27 rfl (lv_at hl 2 rfl) ?_
      obtain ⟨r5, e6, h⟩ := zz_b h
      refine zVi (As := [.ref a_t_race, .int x1, .int x2]) (rest := []) (C := RX1) (wr := [(a_t, .inr (10, [.ref a_t_race, .ref a_t_kept, .ref a_t_trail, .ref a_t_doubts, .ref a_t_foretelling, .ref a_t_text, .ref a_t_listing, .int t_isKept]))]) [1, 2, 3, 4, 5, 6, 8, 7] [0] 0 ⟨hx, hb, hml, hown, hts⟩ (mX1_passersIn l D cB cI cZ a_t_foretelling a_t_race a_t_foretelling_seconds a_t_foretelling_pens a_t_foretelling_minutes a_t_foretelling_passers a_t_foretelling_tried a_t_race_way a_t_race_guns a_t_race_runners a_t_race_guns_ticks a_t_race_runners_facts a_t_race_runners_splits a_t_race_runners_torn a_t_race_runners_dropped a_t_race_runners_waved a_t_race_runners_struck a_t_race_runners_strikingOrder a_t_race_way_places a_t_race_way_bearings a_t_race_way_cuts a_t_race_way_deaths t_race_guns_ticks t_race_runners_entered t_race_runners_strikings t_race_runners_facts t_race_way_mats t_race_way_places H.size x1 x2 N r5 e6) (cwV 3 hts gX10_foretold_X1_passersIn rfl rfl rfl (by decide +kernel) ⟨Nat.le_of_ble_eq_true rfl, Nat.le_of_ble_eq_true rfl⟩) hK hN hZ hP hD hS hA rfl rfl rfl rfl rfl rfl rfl rfl hl.1 rfl (lv_room (Nat.le_of_ble_eq_true rfl)) dX10_foretold_28 ⟨Nat.le_of_ble_eq_true rfl, Nat.le_of_ble_eq_true rfl⟩ (fun H locs hP hD hS => ?_)
      have hP : va_P D vwCl [(a_t, .inr (10, [.ref a_t_race, .ref a_t_kept, .ref a_t_trail, .ref a_t_doubts, .ref a_t_foretelling, .ref a_t_text, .ref a_t_listing, .int t_isKept])), (a_t_foretelling, .inr (1, [.ref a_t_foretelling_seconds, .ref a_t_foretelling_pens, .ref a_t_foretelling_minutes, .ref a_t_foretelling_passers, .ref a_t_foretelling_tried])), (a_t_race, .inr (4, [.ref a_t_race_way, .ref a_t_race_guns, .ref a_t_race_runners])), (a_t_race_guns, .inr (2, [.ref a_t_race_guns_ticks])), (a_t_race_guns_ticks, .inl (cI, 6, .inl t_race_guns_ticks)), (a_t_race_runners, .inr (6, [.ref a_t_race_runners_facts, .ref a_t_race_runners_splits, .ref a_t_race_runners_torn, .ref a_t_race_runners_dropped, .ref a_t_race_runners_waved, .ref a_t_race_runners_struck, .ref a_t_race_runners_strikingOrder, .int t_race_runners_entered, .int t_race_runners_strikings])), (a_t_race_runners_facts, .inl (cI, 360, .inl t_race_runners_facts)), (a_t_race_way, .inr (9, [.ref a_t_race_way_places, .ref a_t_race_way_bearings, .ref a_t_race_way_cuts, .ref a_t_race_way_deaths, .int t_race_way_mats])), (a_t_race_way_places, .inl (cI, 12, .inl t_race_way_places))] H := hP
      have hD : va_D A [(a_t, .inr (10, [.ref a_t_race, .ref a_t_kept, .ref a_t_trail, .ref a_t_doubts, .ref a_t_foretelling, .ref a_t_text, .ref a_t_listing, .int t_isKept])), (a_t_foretelling, .inr (1, [.ref a_t_foretelling_seconds, .ref a_t_foretelling_pens, .ref a_t_foretelling_minutes, .ref a_t_foretelling_passers, .ref a_t_foretelling_tried])), (a_t_race, .inr (4, [.ref a_t_race_way, .ref a_t_race_guns, .ref a_t_race_runners])), (a_t_race_guns, .inr (2, [.ref a_t_race_guns_ticks])), (a_t_race_guns_ticks, .inl (cI, 6, .inl t_race_guns_ticks)), (a_t_race_runners, .inr (6, [.ref a_t_race_runners_facts, .ref a_t_race_runners_splits, .ref a_t_race_runners_torn, .ref a_t_race_runners_dropped, .ref a_t_race_runners_waved, .ref a_t_race_runners_struck, .ref a_t_race_runners_strikingOrder, .int t_race_runners_entered, .int t_race_runners_strikings])), (a_t_race_runners_facts, .inl (cI, 360, .inl t_race_runners_facts)), (a_t_race_way, .inr (9, [.ref a_t_race_way_places, .ref a_t_race_way_bearings, .ref a_t_race_way_cuts, .ref a_t_race_way_deaths, .int t_race_way_mats])), (a_t_race_way_places, .inl (cI, 12, .inl t_race_way_places))] := hD
      refine lv_goto (tgt := 35) hx hb dX10_foretold_31 (by decide) ?_
      have j0_ := Option.some.inj h
      subst j0_
      exact W.iret (v := r5) hx hb hr (fun t ht hW => ⟨⟨_, (), rfl, rfl, zPost.of hP hD hK ht hW [0, 1, 2, 3, 4, 5, 6, 7, 8] rfl rfl rfl⟩, hS.F ht⟩) hS.2.2 dX10_foretold_35
/-! RunDesk.tight -/
theorem dX10_tight_0 : decode cX10_tight 0 = .ok (.aload_n 0, 1) := by decide +kernel
theorem dX10_tight_1 : decode cX10_tight 1 = .ok (.getfield 10, 3) := by decide +kernel
theorem dX10_tight_4 : decode cX10_tight 4 = .ok (.getfield 58, 3) := by decide +kernel
theorem dX10_tight_7 : decode cX10_tight 7 = .ok (.iload_n 1, 1) := by decide +kernel
theorem dX10_tight_8 : decode cX10_tight 8 = .ok (.invokevirtual 118, 3) := by decide +kernel
theorem dX10_tight_11 : decode cX10_tight 11 = .ok (.ifCond .eq 18, 3) := by decide +kernel
theorem dX10_tight_14 : decode cX10_tight 14 = .ok (.aload_n 0, 1) := by decide +kernel
theorem dX10_tight_15 : decode cX10_tight 15 = .ok (.getfield 36, 3) := by decide +kernel
theorem dX10_tight_18 : decode cX10_tight 18 = .ok (.aload_n 0, 1) := by decide +kernel
theorem dX10_tight_19 : decode cX10_tight 19 = .ok (.getfield 10, 3) := by decide +kernel
theorem dX10_tight_22 : decode cX10_tight 22 = .ok (.iload_n 1, 1) := by decide +kernel
theorem dX10_tight_23 : decode cX10_tight 23 = .ok (.invokevirtual 165, 3) := by decide +kernel
theorem dX10_tight_26 : decode cX10_tight 26 = .ok (.goto 4, 3) := by decide +kernel
theorem dX10_tight_29 : decode cX10_tight 29 = .ok (.iconst (-1), 1) := by decide +kernel
theorem dX10_tight_30 : decode cX10_tight 30 = .ok (.ireturn, 1) := by decide +kernel
set_option maxRecDepth 20000 in
theorem ggX10_tight_X9_has : GoodIn wsX10_tight wsX9_has := goodIn_r _ [7, 8, 72, 73, 74, 75, 76] (by decide +kernel) (by decide +kernel)
set_option maxRecDepth 20000 in
theorem gX10_tight_X9_has : GoodIn wsX10_tight (wsV RX10 118 RX9 yX9_has wsX9_has) := goodIn_app (goodIn_of _ (by decide +kernel)) ggX10_tight_X9_has
set_option maxRecDepth 20000 in
theorem ggX10_tight_X1_firstTightMinute : GoodIn wsX10_tight wsX1_firstTightMinute := goodIn_r _ [13, 14, 15, 16, 12, 17, 18, 19, 20, 21, 22, 6, 23, 24, 25, 4, 5, 7, 8, 26, 27, 28, 29, 30, 31, 32, 33, 34, 35, 36, 37, 38, 39, 40, 41, 42, 43, 44, 45, 46, 47, 48, 49, 50, 51, 52, 53, 54, 55, 56, 57, 58, 59, 60, 69, 70, 71, 77, 78, 79, 80, 81, 72, 73, 74, 75, 76, 82, 83, 84, 85, 86, 87, 88, 89, 90, 91] (by decide +kernel) (by decide +kernel)
set_option maxRecDepth 20000 in
theorem gX10_tight_X1_firstTightMinute : GoodIn wsX10_tight (wsV RX10 165 RX1 yX1_firstTightMinute wsX1_firstTightMinute) := goodIn_app (goodIn_of _ (by decide +kernel)) ggX10_tight_X1_firstTightMinute
theorem kX10_tight_0 : (.fieldLink RX10 10 "RunDesk" "race" "LRunDesk$Race;" : Cond) ∈ wsX10_tight := List.mem_of_getElem? (i := 1) (by decide +kernel)
theorem qX10_tight_X10 : ∀ w ∈ wsX100, w ∈ wsX10_tight := fun _ h => List.mem_cons_of_mem _ (List.mem_append_left _ (List.mem_append_left _ (List.mem_append_left _ (List.mem_append_left _ (List.mem_append_left _ (List.mem_append_right _ (h)))))))
theorem qX10_tight_X4 : ∀ w ∈ wsX40, w ∈ wsX10_tight := fun _ h => List.mem_cons_of_mem _ (List.mem_append_left _ (List.mem_append_left _ (List.mem_append_left _ (List.mem_append_left _ (List.mem_append_right _ (h))))))
theorem kX10_tight_3 : (.fieldLink RX10 36 "RunDesk" "foretelling" "LRunDesk$Foretelling;" : Cond) ∈ wsX10_tight := List.mem_of_getElem? (i := 2) (by decide +kernel)
set_option maxHeartbeats 4000000 in
set_option maxRecDepth 100000 in
theorem mX10_tight (l : Launch) (D : va_G) (cB cI cZ : ClassId) (a_t : Nat) (a_t_race : Nat) (a_t_kept : Nat) (a_t_trail : Nat) (a_t_doubts : Nat) (a_t_foretelling : Nat) (a_t_text : Nat) (a_t_listing : Nat) (a_t_foretelling_seconds : Nat) (a_t_foretelling_pens : Nat) (a_t_foretelling_minutes : Nat) (a_t_foretelling_passers : Nat) (a_t_foretelling_tried : Nat) (a_t_race_way : Nat) (a_t_race_guns : Nat) (a_t_race_runners : Nat) (a_t_race_guns_ticks : Nat) (a_t_race_runners_facts : Nat) (a_t_race_runners_splits : Nat) (a_t_race_runners_torn : Nat) (a_t_race_runners_dropped : Nat) (a_t_race_runners_waved : Nat) (a_t_race_runners_struck : Nat) (a_t_race_runners_strikingOrder : Nat) (a_t_race_way_places : Nat) (a_t_race_way_bearings : Nat) (a_t_race_way_cuts : Nat) (a_t_race_way_deaths : Nat) (t_isKept : Int32) (t_foretelling_minutes : Nat → Int32) (t_foretelling_passers : Nat → Int32) (t_foretelling_pens : Nat → Int32) (t_foretelling_seconds : Nat → Int32) (t_race_guns_ticks : Nat → Int32) (t_race_runners_entered : Int32) (t_race_runners_strikings : Int32) (t_race_runners_facts : Nat → Int32) (t_race_way_mats : Int32) (t_race_way_bearings : Nat → Int32) (t_race_way_places : Nat → Int32) (sz : Nat) (x1 : Int32) (N : Nat) (r0 : Int32) (t_foretelling_minutes' : Nat → Int32) (t_foretelling_passers' : Nat → Int32) (t_foretelling_pens' : Nat → Int32) (t_foretelling_seconds' : Nat → Int32) (h : fX10_tight N t_foretelling_minutes t_foretelling_passers t_foretelling_pens t_foretelling_seconds t_race_guns_ticks t_race_runners_entered t_race_runners_facts t_race_way_mats t_race_way_bearings t_race_way_places x1 = some (r0, t_foretelling_minutes', t_foretelling_passers', t_foretelling_pens', t_foretelling_seconds')) : Met l yX10_tight wsX10_tight ({ frames := 4, cells := 0, slots := 0, locals := 94 } : Room) (va_Pc [.ref a_t, .int x1] (zPre D (zT cB cI cZ) [(a_t, .inr (10, [.ref a_t_race, .ref a_t_kept, .ref a_t_trail, .ref a_t_doubts, .ref a_t_foretelling, .ref a_t_text, .ref a_t_listing, .int t_isKept])), (a_t_foretelling, .inr (1, [.ref a_t_foretelling_seconds, .ref a_t_foretelling_pens, .ref a_t_foretelling_minutes, .ref a_t_foretelling_passers, .ref a_t_foretelling_tried])), (a_t_foretelling_minutes, .inl (cI, 60, .inl t_foretelling_minutes)), (a_t_foretelling_passers, .inl (cI, 4001, .inl t_foretelling_passers)), (a_t_foretelling_pens, .inl (cI, 60, .inl t_foretelling_pens)), (a_t_foretelling_seconds, .inl (cI, 720, .inl t_foretelling_seconds)), (a_t_race, .inr (4, [.ref a_t_race_way, .ref a_t_race_guns, .ref a_t_race_runners])), (a_t_race_guns, .inr (2, [.ref a_t_race_guns_ticks])), (a_t_race_guns_ticks, .inl (cI, 6, .inl t_race_guns_ticks)), (a_t_race_runners, .inr (6, [.ref a_t_race_runners_facts, .ref a_t_race_runners_splits, .ref a_t_race_runners_torn, .ref a_t_race_runners_dropped, .ref a_t_race_runners_waved, .ref a_t_race_runners_struck, .ref a_t_race_runners_strikingOrder, .int t_race_runners_entered, .int t_race_runners_strikings])), (a_t_race_runners_facts, .inl (cI, 360, .inl t_race_runners_facts)), (a_t_race_way, .inr (9, [.ref a_t_race_way_places, .ref a_t_race_way_bearings, .ref a_t_race_way_cuts, .ref a_t_race_way_deaths, .int t_race_way_mats])), (a_t_race_way_bearings, .inl (cI, 12, .inl t_race_way_bearings)), (a_t_race_way_places, .inl (cI, 12, .inl t_race_way_places))] sz)) (zQi r0 D (zT cB cI cZ) [(a_t, .inr (10, [.ref a_t_race, .ref a_t_kept, .ref a_t_trail, .ref a_t_doubts, .ref a_t_foretelling, .ref a_t_text, .ref a_t_listing, .int t_isKept])), (a_t_foretelling, .inr (1, [.ref a_t_foretelling_seconds, .ref a_t_foretelling_pens, .ref a_t_foretelling_minutes, .ref a_t_foretelling_passers, .ref a_t_foretelling_tried])), (a_t_foretelling_minutes, .inl (cI, 60, .inl t_foretelling_minutes')), (a_t_foretelling_passers, .inl (cI, 4001, .inl t_foretelling_passers')), (a_t_foretelling_pens, .inl (cI, 60, .inl t_foretelling_pens')), (a_t_foretelling_seconds, .inl (cI, 720, .inl t_foretelling_seconds')), (a_t_race, .inr (4, [.ref a_t_race_way, .ref a_t_race_guns, .ref a_t_race_runners])), (a_t_race_guns, .inr (2, [.ref a_t_race_guns_ticks])), (a_t_race_guns_ticks, .inl (cI, 6, .inl t_race_guns_ticks)), (a_t_race_runners, .inr (6, [.ref a_t_race_runners_facts, .ref a_t_race_runners_splits, .ref a_t_race_runners_torn, .ref a_t_race_runners_dropped, .ref a_t_race_runners_waved, .ref a_t_race_runners_struck, .ref a_t_race_runners_strikingOrder, .int t_race_runners_entered, .int t_race_runners_strikings])), (a_t_race_runners_facts, .inl (cI, 360, .inl t_race_runners_facts)), (a_t_race_way, .inr (9, [.ref a_t_race_way_places, .ref a_t_race_way_bearings, .ref a_t_race_way_cuts, .ref a_t_race_way_deaths, .int t_race_way_mats])), (a_t_race_way_bearings, .inl (cI, 12, .inl t_race_way_bearings)), (a_t_race_way_places, .inl (cI, 12, .inl t_race_way_places))] (va_A [(a_t, .inr (10, [.ref a_t_race, .ref a_t_kept, .ref a_t_trail, .ref a_t_doubts, .ref a_t_foretelling, .ref a_t_text, .ref a_t_listing, .int t_isKept])), (a_t_foretelling, .inr (1, [.ref a_t_foretelling_seconds, .ref a_t_foretelling_pens, .ref a_t_foretelling_minutes, .ref a_t_foretelling_passers, .ref a_t_foretelling_tried])), (a_t_foretelling_minutes, .inl (cI, 60, .inl t_foretelling_minutes)), (a_t_foretelling_passers, .inl (cI, 4001, .inl t_foretelling_passers)), (a_t_foretelling_pens, .inl (cI, 60, .inl t_foretelling_pens)), (a_t_foretelling_seconds, .inl (cI, 720, .inl t_foretelling_seconds)), (a_t_race, .inr (4, [.ref a_t_race_way, .ref a_t_race_guns, .ref a_t_race_runners])), (a_t_race_guns, .inr (2, [.ref a_t_race_guns_ticks])), (a_t_race_guns_ticks, .inl (cI, 6, .inl t_race_guns_ticks)), (a_t_race_runners, .inr (6, [.ref a_t_race_runners_facts, .ref a_t_race_runners_splits, .ref a_t_race_runners_torn, .ref a_t_race_runners_dropped, .ref a_t_race_runners_waved, .ref a_t_race_runners_struck, .ref a_t_race_runners_strikingOrder, .int t_race_runners_entered, .int t_race_runners_strikings])), (a_t_race_runners_facts, .inl (cI, 360, .inl t_race_runners_facts)), (a_t_race_way, .inr (9, [.ref a_t_race_way_places, .ref a_t_race_way_bearings, .ref a_t_race_way_cuts, .ref a_t_race_way_deaths, .int t_race_way_mats])), (a_t_race_way_bearings, .inl (cI, 12, .inl t_race_way_bearings)), (a_t_race_way_places, .inl (cI, 12, .inl t_race_way_places))] sz)) 0 0 (va_A [(a_t, .inr (10, [.ref a_t_race, .ref a_t_kept, .ref a_t_trail, .ref a_t_doubts, .ref a_t_foretelling, .ref a_t_text, .ref a_t_listing, .int t_isKept])), (a_t_foretelling, .inr (1, [.ref a_t_foretelling_seconds, .ref a_t_foretelling_pens, .ref a_t_foretelling_minutes, .ref a_t_foretelling_passers, .ref a_t_foretelling_tried])), (a_t_foretelling_minutes, .inl (cI, 60, .inl t_foretelling_minutes)), (a_t_foretelling_passers, .inl (cI, 4001, .inl t_foretelling_passers)), (a_t_foretelling_pens, .inl (cI, 60, .inl t_foretelling_pens)), (a_t_foretelling_seconds, .inl (cI, 720, .inl t_foretelling_seconds)), (a_t_race, .inr (4, [.ref a_t_race_way, .ref a_t_race_guns, .ref a_t_race_runners])), (a_t_race_guns, .inr (2, [.ref a_t_race_guns_ticks])), (a_t_race_guns_ticks, .inl (cI, 6, .inl t_race_guns_ticks)), (a_t_race_runners, .inr (6, [.ref a_t_race_runners_facts, .ref a_t_race_runners_splits, .ref a_t_race_runners_torn, .ref a_t_race_runners_dropped, .ref a_t_race_runners_waved, .ref a_t_race_runners_struck, .ref a_t_race_runners_strikingOrder, .int t_race_runners_entered, .int t_race_runners_strikings])), (a_t_race_runners_facts, .inl (cI, 360, .inl t_race_runners_facts)), (a_t_race_way, .inr (9, [.ref a_t_race_way_places, .ref a_t_race_way_bearings, .ref a_t_race_way_cuts, .ref a_t_race_way_deaths, .int t_race_way_mats])), (a_t_race_way_bearings, .inl (cI, 12, .inl t_race_way_bearings)), (a_t_race_way_places, .inl (cI, 12, .inl t_race_way_places))] sz) := by
  refine Met.ofW (cc := cX10_tight) (maxL := 2) (ret := (some .int)) (by decide) rfl ?_
  intro p e s m args below meth c s₁ B hml hv
  obtain ⟨rfl, hsz, hP, hK, hN, hZ, hD0⟩ := hv
  have hx := B.exec
  have hb := B.bytes
  have hr := B.returns
  have hts := atoms_spec (ws := wsX10_tight) B.pre
  have hown : s.vm.findClass RX10 = some m.cls := findClass_of_methodNamed B.named
  have hlocks := B.notSynchronized
  subst hsz
  have hD := hD0.self (sz := s.heap.size)
  generalize hAe : va_A [(a_t, .inr (10, [.ref a_t_race, .ref a_t_kept, .ref a_t_trail, .ref a_t_doubts, .ref a_t_foretelling, .ref a_t_text, .ref a_t_listing, .int t_isKept])), (a_t_foretelling, .inr (1, [.ref a_t_foretelling_seconds, .ref a_t_foretelling_pens, .ref a_t_foretelling_minutes, .ref a_t_foretelling_passers, .ref a_t_foretelling_tried])), (a_t_foretelling_minutes, .inl (cI, 60, .inl t_foretelling_minutes)), (a_t_foretelling_passers, .inl (cI, 4001, .inl t_foretelling_passers)), (a_t_foretelling_pens, .inl (cI, 60, .inl t_foretelling_pens)), (a_t_foretelling_seconds, .inl (cI, 720, .inl t_foretelling_seconds)), (a_t_race, .inr (4, [.ref a_t_race_way, .ref a_t_race_guns, .ref a_t_race_runners])), (a_t_race_guns, .inr (2, [.ref a_t_race_guns_ticks])), (a_t_race_guns_ticks, .inl (cI, 6, .inl t_race_guns_ticks)), (a_t_race_runners, .inr (6, [.ref a_t_race_runners_facts, .ref a_t_race_runners_splits, .ref a_t_race_runners_torn, .ref a_t_race_runners_dropped, .ref a_t_race_runners_waved, .ref a_t_race_runners_struck, .ref a_t_race_runners_strikingOrder, .int t_race_runners_entered, .int t_race_runners_strikings])), (a_t_race_runners_facts, .inl (cI, 360, .inl t_race_runners_facts)), (a_t_race_way, .inr (9, [.ref a_t_race_way_places, .ref a_t_race_way_bearings, .ref a_t_race_way_cuts, .ref a_t_race_way_deaths, .int t_race_way_mats])), (a_t_race_way_bearings, .inl (cI, 12, .inl t_race_way_bearings)), (a_t_race_way_places, .inl (cI, 12, .inl t_race_way_places))] s.heap.size = A at hD hZ ⊢
  have hA : ∀ q : Nat, s.heap.size ≤ q → A q := fun q h => by rw [← hAe]; exact Or.inr h
  have hS : va_S A s.heap s.heap [] := va_S.rf
  have hl := lv_entry ([.ref a_t, .int x1]) (n := 2) (Nat.le_of_ble_eq_true rfl)
  rw [lg_entry_eq]
  generalize (lg_sl ([.ref a_t, .int x1]) ++ List.replicate (2 - (lg_sl ([.ref a_t, .int x1])).length) Slot.unset).toArray = ls at hl ⊢
  have hl : lv_has ls 2 [(0, .ref a_t), (1, .int x1)] := hl
  unfold fX10_tight at h
  refine lv_aload_n hx hb dX10_tight_0 rfl (lv_at hl 0 rfl) ?_
  refine va_get (D := D) (ci := 10) (C := RX10) (T := TX10) (N := 8) hx hb hts qX10_tight_X10 hown hK hP 0 rfl rfl 0 (by decide) (hts _ kX10_tight_0) (fun _ h9 => h9) rfl dX10_tight_1 ?_
  refine va_getN (host := "RunDesk") (D := D) (ci := 4) (C := RX4) (T := TX4) (N := 3) hx hb hts qX10_tight_X4 hown hK hP 6 rfl rfl 0 (by decide) (va_Nw.use rfl (hN _ (List.mem_of_getElem? (i := 0) rfl))) (fun _ h9 => h9) rfl dX10_tight_4 ?_
  refine lv_iload_n hx hb dX10_tight_7 rfl (lv_at hl 1 rfl) ?_
  obtain ⟨b1, e2, h⟩ := zz_b h
  refine zVi (As := [.int x1]) (rest := []) (C := RX9) (wr := [(a_t, .inr (10, [.ref a_t_race, .ref a_t_kept, .ref a_t_trail, .ref a_t_doubts, .ref a_t_foretelling, .ref a_t_text, .ref a_t_listing, .int t_isKept])), (a_t_foretelling, .inr (1, [.ref a_t_foretelling_seconds, .ref a_t_foretelling_pens, .ref a_t_foretelling_minutes, .ref a_t_foretelling_passers, .ref a_t_foretelling_tried])), (a_t_foretelling_minutes, .inl (cI, 60, .inl t_foretelling_minutes)), (a_t_foretelling_passers, .inl (cI, 4001, .inl t_foretelling_passers)), (a_t_foretelling_pens, .inl (cI, 60, .inl t_foretelling_pens)), (a_t_foretelling_seconds, .inl (cI, 720, .inl t_foretelling_seconds)), (a_t_race, .inr (4, [.ref a_t_race_way, .ref a_t_race_guns, .ref a_t_race_runners])), (a_t_race_guns, .inr (2, [.ref a_t_race_guns_ticks])), (a_t_race_guns_ticks, .inl (cI, 6, .inl t_race_guns_ticks)), (a_t_race_runners, .inr (6, [.ref a_t_race_runners_facts, .ref a_t_race_runners_splits, .ref a_t_race_runners_torn, .ref a_t_race_runners_dropped, .ref a_t_race_runners_waved, .ref a_t_race_runners_struck, .ref a_t_race_runners_strikingOrder, .int t_race_runners_entered, .int t_race_runners_strikings])), (a_t_race_runners_facts, .inl (cI, 360, .inl t_race_runners_facts)), (a_t_race_way_bearings, .inl (cI, 12, .inl t_race_way_bearings)), (a_t_race_way_places, .inl (cI, 12, .inl t_race_way_places))]) [11] [0, 1, 2, 3, 4, 5, 6, 7, 8, 9, 10, 12, 13] 0 ⟨hx, hb, hml, hown, hts⟩ (mX9_has l D cB cI cZ a_t_race_way a_t_race_way_places a_t_race_way_bearings a_t_race_way_cuts a_t_race_way_deaths t_race_way_mats s.heap.size x1 b1 e2) (cwV 1 hts gX10_tight_X9_has rfl rfl rfl (by decide +kernel) ⟨Nat.le_of_ble_eq_true rfl, Nat.le_of_ble_eq_true rfl⟩) hK hN hZ hP hD hS hA rfl rfl rfl rfl rfl rfl rfl rfl hl.1 rfl (lv_room (Nat.le_of_ble_eq_true rfl)) dX10_tight_8 ⟨Nat.le_of_ble_eq_true rfl, Nat.le_of_ble_eq_true rfl⟩ (fun H locs hP hD hS => ?_)
  have hP : va_P D vwCl [(a_t, .inr (10, [.ref a_t_race, .ref a_t_kept, .ref a_t_trail, .ref a_t_doubts, .ref a_t_foretelling, .ref a_t_text, .ref a_t_listing, .int t_isKept])), (a_t_foretelling, .inr (1, [.ref a_t_foretelling_seconds, .ref a_t_foretelling_pens, .ref a_t_foretelling_minutes, .ref a_t_foretelling_passers, .ref a_t_foretelling_tried])), (a_t_foretelling_minutes, .inl (cI, 60, .inl t_foretelling_minutes)), (a_t_foretelling_passers, .inl (cI, 4001, .inl t_foretelling_passers)), (a_t_foretelling_pens, .inl (cI, 60, .inl t_foretelling_pens)), (a_t_foretelling_seconds, .inl (cI, 720, .inl t_foretelling_seconds)), (a_t_race, .inr (4, [.ref a_t_race_way, .ref a_t_race_guns, .ref a_t_race_runners])), (a_t_race_guns, .inr (2, [.ref a_t_race_guns_ticks])), (a_t_race_guns_ticks, .inl (cI, 6, .inl t_race_guns_ticks)), (a_t_race_runners, .inr (6, [.ref a_t_race_runners_facts, .ref a_t_race_runners_splits, .ref a_t_race_runners_torn, .ref a_t_race_runners_dropped, .ref a_t_race_runners_waved, .ref a_t_race_runners_struck, .ref a_t_race_runners_strikingOrder, .int t_race_runners_entered, .int t_race_runners_strikings])), (a_t_race_runners_facts, .inl (cI, 360, .inl t_race_runners_facts)), (a_t_race_way_bearings, .inl (cI, 12, .inl t_race_way_bearings)), (a_t_race_way_places, .inl (cI, 12, .inl t_race_way_places)), (a_t_race_way, .inr (9, [.ref a_t_race_way_places, .ref a_t_race_way_bearings, .ref a_t_race_way_cuts, .ref a_t_race_way_deaths, .int t_race_way_mats]))] H := hP
  have hD : va_D A [(a_t, .inr (10, [.ref a_t_race, .ref a_t_kept, .ref a_t_trail, .ref a_t_doubts, .ref a_t_foretelling, .ref a_t_text, .ref a_t_listing, .int t_isKept])), (a_t_foretelling, .inr (1, [.ref a_t_foretelling_seconds, .ref a_t_foretelling_pens, .ref a_t_foretelling_minutes, .ref a_t_foretelling_passers, .ref a_t_foretelling_tried])), (a_t_foretelling_minutes, .inl (cI, 60, .inl t_foretelling_minutes)), (a_t_foretelling_passers, .inl (cI, 4001, .inl t_foretelling_passers)), (a_t_foretelling_pens, .inl (cI, 60, .inl t_foretelling_pens)), (a_t_foretelling_seconds, .inl (cI, 720, .inl t_foretelling_seconds)), (a_t_race, .inr (4, [.ref a_t_race_way, .ref a_t_race_guns, .ref a_t_race_runners])), (a_t_race_guns, .inr (2, [.ref a_t_race_guns_ticks])), (a_t_race_guns_ticks, .inl (cI, 6, .inl t_race_guns_ticks)), (a_t_race_runners, .inr (6, [.ref a_t_race_runners_facts, .ref a_t_race_runners_splits, .ref a_t_race_runners_torn, .ref a_t_race_runners_dropped, .ref a_t_race_runners_waved, .ref a_t_race_runners_struck, .ref a_t_race_runners_strikingOrder, .int t_race_runners_entered, .int t_race_runners_strikings])), (a_t_race_runners_facts, .inl (cI, 360, .inl t_race_runners_facts)), (a_t_race_way_bearings, .inl (cI, 12, .inl t_race_way_bearings)), (a_t_race_way_places, .inl (cI, 12, .inl t_race_way_places)), (a_t_race_way, .inr (9, [.ref a_t_race_way_places, .ref a_t_race_way_bearings, .ref a_t_race_way_cuts, .ref a_t_race_way_deaths, .int t_race_way_mats]))] := hD
  refine lv_if_eq (tgt := 29) hx hb dX10_tight_11 (by decide) (fun c3 => ?_) (fun c3 => ?_)
  · have h := zz_t h c3
    refine lv_iconst (v := (-1 : Int32)) hx hb dX10_tight_29 rfl ?_
    obtain ⟨j0_, g_⟩ := Prod.mk.inj (Option.some.inj h)
    obtain ⟨j1_, g_⟩ := Prod.mk.inj g_
    obtain ⟨j2_, g_⟩ := Prod.mk.inj g_
    obtain ⟨j3_, g_⟩ := Prod.mk.inj g_
    have j4_ := g_
    subst j0_
    subst j1_
    subst j2_
    subst j3_
    subst j4_
    exact W.iret (v := (-1 : Int32)) hx hb hr (fun t ht hW => ⟨⟨_, (), rfl, rfl, zPost.of hP hD hK ht hW [0, 1, 2, 3, 4, 5, 6, 7, 8, 9, 10, 13, 11, 12] rfl rfl rfl⟩, hS.F ht⟩) hS.2.2 dX10_tight_30
  · have h := zz_f h c3
    refine lv_aload_n hx hb dX10_tight_14 rfl (lv_at hl 0 rfl) ?_
    refine va_get (D := D) (ci := 10) (C := RX10) (T := TX10) (N := 8) hx hb hts qX10_tight_X10 hown hK hP 0 rfl rfl 4 (by decide) (hts _ kX10_tight_3) (fun _ h9 => h9) rfl dX10_tight_15 ?_
    refine lv_aload_n hx hb dX10_tight_18 rfl (lv_at hl 0 rfl) ?_
    refine va_get (D := D) (ci := 10) (C := RX10) (T := TX10) (N := 8) hx hb hts qX10_tight_X10 hown hK hP 0 rfl rfl 0 (by decide) (hts _ kX10_tight_0) (fun _ h9 => h9) rfl dX10_tight_19 ?_
    refine lv_iload_n hx hb dX10_tight_22 rfl (lv_at hl 1 rfl) ?_
    obtain ⟨⟨r4, t_foretelling_minutes_r5, t_foretelling_passers_r6, t_foretelling_pens_r7, t_foretelling_seconds_r8⟩, e9, h⟩ := zz_b h
    dsimp only at h
    refine zVi (As := [.ref a_t_race, .int x1]) (rest := []) (C := RX1) (wr := [(a_t, .inr (10, [.ref a_t_race, .ref a_t_kept, .ref a_t_trail, .ref a_t_doubts, .ref a_t_foretelling, .ref a_t_text, .ref a_t_listing, .int t_isKept]))]) [1, 2, 3, 4, 5, 6, 7, 8, 9, 10, 13, 11, 12] [0] 0 ⟨hx, hb, hml, hown, hts⟩ (mX1_firstTightMinute l D cB cI cZ a_t_foretelling a_t_race a_t_foretelling_seconds a_t_foretelling_pens a_t_foretelling_minutes a_t_foretelling_passers a_t_foretelling_tried a_t_race_way a_t_race_guns a_t_race_runners a_t_race_guns_ticks a_t_race_runners_facts a_t_race_runners_splits a_t_race_runners_torn a_t_race_runners_dropped a_t_race_runners_waved a_t_race_runners_struck a_t_race_runners_strikingOrder a_t_race_way_places a_t_race_way_bearings a_t_race_way_cuts a_t_race_way_deaths t_foretelling_minutes t_foretelling_passers t_foretelling_pens t_foretelling_seconds t_race_guns_ticks t_race_runners_entered t_race_runners_strikings t_race_runners_facts t_race_way_mats t_race_way_bearings t_race_way_places H.size x1 N r4 t_foretelling_minutes_r5 t_foretelling_passers_r6 t_foretelling_pens_r7 t_foretelling_seconds_r8 e9) (cwV 2 hts gX10_tight_X1_firstTightMinute rfl rfl rfl (by decide +kernel) ⟨Nat.le_of_ble_eq_true rfl, Nat.le_of_ble_eq_true rfl⟩) hK hN hZ hP hD hS hA rfl rfl rfl rfl rfl rfl rfl rfl hl.1 rfl (lv_room (Nat.le_of_ble_eq_true rfl)) dX10_tight_23 ⟨Nat.le_of_ble_eq_true rfl, Nat.le_of_ble_eq_true rfl⟩ (fun H locs hP hD hS => ?_)
    have hP : va_P D vwCl [(a_t, .inr (10, [.ref a_t_race, .ref a_t_kept, .ref a_t_trail, .ref a_t_doubts, .ref a_t_foretelling, .ref a_t_text, .ref a_t_listing, .int t_isKept])), (a_t_foretelling, .inr (1, [.ref a_t_foretelling_seconds, .ref a_t_foretelling_pens, .ref a_t_foretelling_minutes, .ref a_t_foretelling_passers, .ref a_t_foretelling_tried])), (a_t_foretelling_minutes, .inl (cI, 60, .inl t_foretelling_minutes_r5)), (a_t_foretelling_passers, .inl (cI, 4001, .inl t_foretelling_passers_r6)), (a_t_foretelling_pens, .inl (cI, 60, .inl t_foretelling_pens_r7)), (a_t_foretelling_seconds, .inl (cI, 720, .inl t_foretelling_seconds_r8)), (a_t_race, .inr (4, [.ref a_t_race_way, .ref a_t_race_guns, .ref a_t_race_runners])), (a_t_race_guns, .inr (2, [.ref a_t_race_guns_ticks])), (a_t_race_guns_ticks, .inl (cI, 6, .inl t_race_guns_ticks)), (a_t_race_runners, .inr (6, [.ref a_t_race_runners_facts, .ref a_t_race_runners_splits, .ref a_t_race_runners_torn, .ref a_t_race_runners_dropped, .ref a_t_race_runners_waved, .ref a_t_race_runners_struck, .ref a_t_race_runners_strikingOrder, .int t_race_runners_entered, .int t_race_runners_strikings])), (a_t_race_runners_facts, .inl (cI, 360, .inl t_race_runners_facts)), (a_t_race_way, .inr (9, [.ref a_t_race_way_places, .ref a_t_race_way_bearings, .ref a_t_race_way_cuts, .ref a_t_race_way_deaths, .int t_race_way_mats])), (a_t_race_way_bearings, .inl (cI, 12, .inl t_race_way_bearings)), (a_t_race_way_places, .inl (cI, 12, .inl t_race_way_places))] H := hP
    have hD : va_D A [(a_t, .inr (10, [.ref a_t_race, .ref a_t_kept, .ref a_t_trail, .ref a_t_doubts, .ref a_t_foretelling, .ref a_t_text, .ref a_t_listing, .int t_isKept])), (a_t_foretelling, .inr (1, [.ref a_t_foretelling_seconds, .ref a_t_foretelling_pens, .ref a_t_foretelling_minutes, .ref a_t_foretelling_passers, .ref a_t_foretelling_tried])), (a_t_foretelling_minutes, .inl (cI, 60, .inl t_foretelling_minutes_r5)), (a_t_foretelling_passers, .inl (cI, 4001, .inl t_foretelling_passers_r6)), (a_t_foretelling_pens, .inl (cI, 60, .inl t_foretelling_pens_r7)), (a_t_foretelling_seconds, .inl (cI, 720, .inl t_foretelling_seconds_r8)), (a_t_race, .inr (4, [.ref a_t_race_way, .ref a_t_race_guns, .ref a_t_race_runners])), (a_t_race_guns, .inr (2, [.ref a_t_race_guns_ticks])), (a_t_race_guns_ticks, .inl (cI, 6, .inl t_race_guns_ticks)), (a_t_race_runners, .inr (6, [.ref a_t_race_runners_facts, .ref a_t_race_runners_splits, .ref a_t_race_runners_torn, .ref a_t_race_runners_dropped, .ref a_t_race_runners_waved, .ref a_t_race_runners_struck, .ref a_t_race_runners_strikingOrder, .int t_race_runners_entered, .int t_race_runners_strikings])), (a_t_race_runners_facts, .inl (cI, 360, .inl t_race_runners_facts)), (a_t_race_way, .inr (9, [.ref a_t_race_way_places, .ref a_t_race_way_bearings, .ref a_t_race_way_cuts, .ref a_t_race_way_deaths, .int t_race_way_mats])), (a_t_race_way_bearings, .inl (cI, 12, .inl t_race_way_bearings)), (a_t_race_way_places, .inl (cI, 12, .inl t_race_way_places))] := hD
    refine lv_goto (tgt := 30) hx hb dX10_tight_26 (by decide) ?_
    obtain ⟨j0_, g_⟩ := Prod.mk.inj (Option.some.inj h)
    obtain ⟨j1_, g_⟩ := Prod.mk.inj g_
    obtain ⟨j2_, g_⟩ := Prod.mk.inj g_
    obtain ⟨j3_, g_⟩ := Prod.mk.inj g_
    have j4_ := g_
    subst j0_
    subst j1_
    subst j2_
    subst j3_
    subst j4_
    exact W.iret (v := r4) hx hb hr (fun t ht hW => ⟨⟨_, (), rfl, rfl, zPost.of hP hD hK ht hW [0, 1, 2, 3, 4, 5, 6, 7, 8, 9, 10, 11, 12, 13] rfl rfl rfl⟩, hS.F ht⟩) hS.2.2 dX10_tight_30
