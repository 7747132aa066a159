/-! RunDesk$Way.size -/
theorem dX9_size_0 : decode cX9_size 0 = .ok (.aload_n 0, 1) := by decide +kernel
theorem dX9_size_1 : decode cX9_size 1 = .ok (.getfield 25, 3) := by decide +kernel
theorem dX9_size_4 : decode cX9_size 4 = .ok (.ireturn, 1) := by decide +kernel
def fX9_size (t_mats : Int32) : Option (Int32) := some (t_mats)
theorem kX9_size_0 : (.fieldLink RX9 25 "RunDesk$Way" "mats" "I" : Cond) ∈ wsX9_size := List.mem_of_getElem? (i := 1) (by decide +kernel)
theorem qX9_size_X9 : ∀ w ∈ wsX90, w ∈ wsX9_size := fun _ h => List.mem_cons_of_mem _ (List.mem_append_right _ (h))
set_option maxHeartbeats 4000000 in
set_option maxRecDepth 100000 in
theorem mX9_size (l : Launch) (D : va_G) (cB cI cZ : ClassId) (a_t : Nat) (a_t_places : Nat) (a_t_bearings : Nat) (a_t_cuts : Nat) (a_t_deaths : Nat) (t_mats : Int32) (sz : Nat) (r0 : Int32) (h : fX9_size t_mats = some (r0)) : Met l yX9_size wsX9_size ({ frames := 0, cells := 0, slots := 0, locals := 0 } : Room) (va_Pc [.ref a_t] (zPre D (zT cB cI cZ) [(a_t, .inr (9, [.ref a_t_places, .ref a_t_bearings, .ref a_t_cuts, .ref a_t_deaths, .int t_mats]))] sz)) (zQi r0 D (zT cB cI cZ) [(a_t, .inr (9, [.ref a_t_places, .ref a_t_bearings, .ref a_t_cuts, .ref a_t_deaths, .int t_mats]))] (va_A [(a_t, .inr (9, [.ref a_t_places, .ref a_t_bearings, .ref a_t_cuts, .ref a_t_deaths, .int t_mats]))] sz)) 0 0 (va_A [(a_t, .inr (9, [.ref a_t_places, .ref a_t_bearings, .ref a_t_cuts, .ref a_t_deaths, .int t_mats]))] sz) := by
  refine Met.ofW (cc := cX9_size) (maxL := 1) (ret := (some .int)) (by decide) rfl ?_
  intro p e s m args below meth c s₁ B hml hv
  obtain ⟨rfl, hsz, hP, hK, hN, hD0⟩ := hv
  have hx := B.exec
  have hb := B.bytes
  have hr := B.returns
  have hts := atoms_spec (ws := wsX9_size) B.pre
  have hown : s.vm.findClass RX9 = some m.cls := findClass_of_methodNamed B.named
  have hlocks := B.notSynchronized
  subst hsz
  have hD := hD0.self (sz := s.heap.size)
  generalize hAe : va_A [(a_t, .inr (9, [.ref a_t_places, .ref a_t_bearings, .ref a_t_cuts, .ref a_t_deaths, .int t_mats]))] s.heap.size = A at hD ⊢
  have hA : ∀ q : Nat, s.heap.size ≤ q → A q := fun q h => by rw [← hAe]; exact Or.inr h
  have hS : va_S A s.heap s.heap [] := va_S.rf
  have hl := lv_entry ([.ref a_t]) (n := 1) (Nat.le_of_ble_eq_true rfl)
  rw [lg_entry_eq]
  generalize (lg_sl ([.ref a_t]) ++ List.replicate (1 - (lg_sl ([.ref a_t])).length) Slot.unset).toArray = ls at hl ⊢
  have hl : lv_has ls 1 [(0, .ref a_t)] := hl
  unfold fX9_size at h
  refine lv_aload_n hx hb dX9_size_0 rfl (lv_at hl 0 rfl) ?_
  refine va_get (D := D) (ci := 9) (C := RX9) (T := TX9) (N := 5) hx hb hts qX9_size_X9 hown hK hP 0 rfl rfl 4 (by decide) (hts _ kX9_size_0) (fun _ h9 => h9) rfl dX9_size_1 ?_
  have j0_ := Option.some.inj h
  subst j0_
  exact W.iret (v := t_mats) hx hb hr (fun t ht hW => ⟨⟨_, (), rfl, rfl, zPost.of hP hD hK ht hW [0] rfl rfl rfl⟩, hS.F ht⟩) hS.2.2 dX9_size_4
/-! RunDesk$Way.has -/
theorem dX9_has_0 : decode cX9_has 0 = .ok (.iload_n 1, 1) := by decide +kernel
theorem dX9_has_1 : decode cX9_has 1 = .ok (.ifCond .lt 21, 3) := by decide +kernel
theorem dX9_has_4 : decode cX9_has 4 = .ok (.iload_n 1, 1) := by decide +kernel
theorem dX9_has_5 : decode cX9_has 5 = .ok (.aload_n 0, 1) := by decide +kernel
theorem dX9_has_6 : decode cX9_has 6 = .ok (.getfield 25, 3) := by decide +kernel
theorem dX9_has_9 : decode cX9_has 9 = .ok (.if_icmp .ge 13, 3) := by decide +kernel
theorem dX9_has_12 : decode cX9_has 12 = .ok (.iload_n 1, 1) := by decide +kernel
theorem dX9_has_13 : decode cX9_has 13 = .ok (.bipush 12, 2) := by decide +kernel
theorem dX9_has_15 : decode cX9_has 15 = .ok (.if_icmp .ge 7, 3) := by decide +kernel
theorem dX9_has_18 : decode cX9_has 18 = .ok (.iconst 1, 1) := by decide +kernel
theorem dX9_has_19 : decode cX9_has 19 = .ok (.goto 4, 3) := by decide +kernel
theorem dX9_has_22 : decode cX9_has 22 = .ok (.iconst 0, 1) := by decide +kernel
theorem dX9_has_23 : decode cX9_has 23 = .ok (.ireturn, 1) := by decide +kernel
def fX9_has (t_mats : Int32) (x1 : Int32) : Option (Bool) := (if x1 < 0 then some (false) else (if t_mats ≤ x1 then some (false) else (if (12 : Int32) ≤ x1 then some (false) else some (true))))
theorem kX9_has_0 : (.fieldLink RX9 25 "RunDesk$Way" "mats" "I" : Cond) ∈ wsX9_has := List.mem_of_getElem? (i := 1) (by decide +kernel)
theorem qX9_has_X9 : ∀ w ∈ wsX90, w ∈ wsX9_has := fun _ h => List.mem_cons_of_mem _ (List.mem_append_right _ (h))
set_option maxHeartbeats 4000000 in
set_option maxRecDepth 100000 in
theorem mX9_has (l : Launch) (D : va_G) (cB cI cZ : ClassId) (a_t : Nat) (a_t_places : Nat) (a_t_bearings : Nat) (a_t_cuts : Nat) (a_t_deaths : Nat) (t_mats : Int32) (sz : Nat) (x1 : Int32) (b0 : Bool) (h : fX9_has t_mats x1 = some (b0)) : Met l yX9_has wsX9_has ({ frames := 0, cells := 0, slots := 0, locals := 0 } : Room) (va_Pc [.ref a_t, .int x1] (zPre D (zT cB cI cZ) [(a_t, .inr (9, [.ref a_t_places, .ref a_t_bearings, .ref a_t_cuts, .ref a_t_deaths, .int t_mats]))] sz)) (zQi (zb b0) D (zT cB cI cZ) [(a_t, .inr (9, [.ref a_t_places, .ref a_t_bearings, .ref a_t_cuts, .ref a_t_deaths, .int t_mats]))] (va_A [(a_t, .inr (9, [.ref a_t_places, .ref a_t_bearings, .ref a_t_cuts, .ref a_t_deaths, .int t_mats]))] sz)) 0 0 (va_A [(a_t, .inr (9, [.ref a_t_places, .ref a_t_bearings, .ref a_t_cuts, .ref a_t_deaths, .int t_mats]))] sz) := by
  refine Met.ofW (cc := cX9_has) (maxL := 2) (ret := (some .boolean)) (by decide) rfl ?_
  intro p e s m args below meth c s₁ B hml hv
  obtain ⟨rfl, hsz, hP, hK, hN, hD0⟩ := hv
  have hx := B.exec
  have hb := B.bytes
  have hr := B.returns
  have hts := atoms_spec (ws := wsX9_has) B.pre
  have hown : s.vm.findClass RX9 = some m.cls := findClass_of_methodNamed B.named
  have hlocks := B.notSynchronized
  subst hsz
  have hD := hD0.self (sz := s.heap.size)
  generalize hAe : va_A [(a_t, .inr (9, [.ref a_t_places, .ref a_t_bearings, .ref a_t_cuts, .ref a_t_deaths, .int t_mats]))] s.heap.size = A at hD ⊢
  have hA : ∀ q : Nat, s.heap.size ≤ q → A q := fun q h => by rw [← hAe]; exact Or.inr h
  have hS : va_S A s.heap s.heap [] := va_S.rf
  have hl := lv_entry ([.ref a_t, .int x1]) (n := 2) (Nat.le_of_ble_eq_true rfl)
  rw [lg_entry_eq]
  generalize (lg_sl ([.ref a_t, .int x1]) ++ List.replicate (2 - (lg_sl ([.ref a_t, .int x1])).length) Slot.unset).toArray = ls at hl ⊢
  have hl : lv_has ls 2 [(0, .ref a_t), (1, .int x1)] := hl
  unfold fX9_has at h
  refine lv_iload_n hx hb dX9_has_0 rfl (lv_at hl 1 rfl) ?_
  refine lv_if_lt (tgt := 22) hx hb dX9_has_1 (by decide) (fun c1 => ?_) (fun c1 => ?_)
  · have h := zz_t h c1
    refine lv_iconst (v := (0 : Int32)) hx hb dX9_has_22 rfl ?_
    have j0_ := Option.some.inj h
    subst j0_
    exact W.zret (v := (0 : Int32)) hx hb hr rfl (fun t ht hW => ⟨⟨_, (), rfl, rfl, zPost.of hP hD hK ht hW [0] rfl rfl rfl⟩, hS.F ht⟩) hS.2.2 dX9_has_23
  · have h := zz_f h c1
    refine lv_iload_n hx hb dX9_has_4 rfl (lv_at hl 1 rfl) ?_
    refine lv_aload_n hx hb dX9_has_5 rfl (lv_at hl 0 rfl) ?_
    refine va_get (D := D) (ci := 9) (C := RX9) (T := TX9) (N := 5) hx hb hts qX9_has_X9 hown hK hP 0 rfl rfl 4 (by decide) (hts _ kX9_has_0) (fun _ h9 => h9) rfl dX9_has_6 ?_
    refine lv_icmp_ge (tgt := 22) hx hb dX9_has_9 (by decide) (fun c2 => ?_) (fun c2 => ?_)
    · have h := zz_t h c2
      refine lv_iconst (v := (0 : Int32)) hx hb dX9_has_22 rfl ?_
      have j0_ := Option.some.inj h
      subst j0_
      exact W.zret (v := (0 : Int32)) hx hb hr rfl (fun t ht hW => ⟨⟨_, (), rfl, rfl, zPost.of hP hD hK ht hW [0] rfl rfl rfl⟩, hS.F ht⟩) hS.2.2 dX9_has_23
    · have h := zz_f h c2
      refine lv_iload_n hx hb dX9_has_12 rfl (lv_at hl 1 rfl) ?_
      refine lv_bipush (v := (12 : Int32)) hx hb dX9_has_13 rfl ?_
      refine lv_icmp_ge (tgt := 22) hx hb dX9_has_15 (by decide) (fun c3 => ?_) (fun c3 => ?_)
      · have h := zz_t h c3
        refine lv_iconst (v := (0 : Int32)) hx hb dX9_has_22 rfl ?_
        have j0_ := Option.some.inj h
        subst j0_
        exact W.zret (v := (0 : Int32)) hx hb hr rfl (fun t ht hW => ⟨⟨_, (), rfl, rfl, zPost.of hP hD hK ht hW [0] rfl rfl rfl⟩, hS.F ht⟩) hS.2.2 dX9_has_23
      · have h := zz_f h c3
        refine lv_iconst (v := (1 : Int32)) hx hb dX9_has_18 rfl ?_
        refine lv_goto (tgt := 23) hx hb dX9_has_19 (by decide) ?_
        have j0_ := Option.some.inj h
        subst j0_
        exact W.zret (v := (1 : Int32)) hx hb hr rfl (fun t ht hW => ⟨⟨_, (), rfl, rfl, zPost.of hP hD hK ht hW [0] rfl rfl rfl⟩, hS.F ht⟩) hS.2.2 dX9_has_23
/-! RunDesk$Way.placeAt -/
theorem dX9_placeAt_0 : decode cX9_placeAt 0 = .ok (.aload_n 0, 1) := by decide +kernel
theorem dX9_placeAt_1 : decode cX9_placeAt 1 = .ok (.iload_n 1, 1) := by decide +kernel
theorem dX9_placeAt_2 : decode cX9_placeAt 2 = .ok (.invokevirtual 33, 3) := by decide +kernel
theorem dX9_placeAt_5 : decode cX9_placeAt 5 = .ok (.ifCond .eq 12, 3) := by decide +kernel
theorem dX9_placeAt_8 : decode cX9_placeAt 8 = .ok (.aload_n 0, 1) := by decide +kernel
theorem dX9_placeAt_9 : decode cX9_placeAt 9 = .ok (.getfield 9, 3) := by decide +kernel
theorem dX9_placeAt_12 : decode cX9_placeAt 12 = .ok (.iload_n 1, 1) := by decide +kernel
theorem dX9_placeAt_13 : decode cX9_placeAt 13 = .ok (.iaload, 1) := by decide +kernel
theorem dX9_placeAt_14 : decode cX9_placeAt 14 = .ok (.goto 4, 3) := by decide +kernel
theorem dX9_placeAt_17 : decode cX9_placeAt 17 = .ok (.iconst (-1), 1) := by decide +kernel
theorem dX9_placeAt_18 : decode cX9_placeAt 18 = .ok (.ireturn, 1) := by decide +kernel
set_option maxRecDepth 20000 in
theorem ggX9_placeAt_X9_has : GoodIn wsX9_placeAt wsX9_has := goodIn_r _ [6, 7, 8, 9, 10, 11, 12] (by decide +kernel) (by decide +kernel)
set_option maxRecDepth 20000 in
theorem gX9_placeAt_X9_has : GoodIn wsX9_placeAt (wsV RX9 33 RX9 yX9_has wsX9_has) := goodIn_app (goodIn_of _ (by decide +kernel)) ggX9_placeAt_X9_has
def fX9_placeAt (t_mats : Int32) (t_places : Nat → Int32) (x1 : Int32) : Option (Int32) := ((fX9_has t_mats x1).bind (fun b1 => (if (zb b1) = 0 then some ((-1 : Int32)) else (if zin x1 12 then some ((t_places (x1).toNatClampNeg)) else none))))
theorem kX9_placeAt_0 : (.fieldLink RX9 9 "RunDesk$Way" "places" "[I" : Cond) ∈ wsX9_placeAt := List.mem_of_getElem? (i := 1) (by decide +kernel)
theorem qX9_placeAt_X9 : ∀ w ∈ wsX90, w ∈ wsX9_placeAt := fun _ h => List.mem_cons_of_mem _ (List.mem_append_right _ (h))
set_option maxHeartbeats 4000000 in
set_option maxRecDepth 100000 in
theorem mX9_placeAt (l : Launch) (D : va_G) (cB cI cZ : ClassId) (a_t : Nat) (a_t_places : Nat) (a_t_bearings : Nat) (a_t_cuts : Nat) (a_t_deaths : Nat) (t_mats : Int32) (t_places : Nat → Int32) (sz : Nat) (x1 : Int32) (r0 : Int32) (h : fX9_placeAt t_mats t_places x1 = some (r0)) : Met l yX9_placeAt wsX9_placeAt ({ frames := 1, cells := 0, slots := 0, locals := 21 } : Room) (va_Pc [.ref a_t, .int x1] (zPre D (zT cB cI cZ) [(a_t, .inr (9, [.ref a_t_places, .ref a_t_bearings, .ref a_t_cuts, .ref a_t_deaths, .int t_mats])), (a_t_places, .inl (cI, 12, .inl t_places))] sz)) (zQi r0 D (zT cB cI cZ) [(a_t, .inr (9, [.ref a_t_places, .ref a_t_bearings, .ref a_t_cuts, .ref a_t_deaths, .int t_mats])), (a_t_places, .inl (cI, 12, .inl t_places))] (va_A [(a_t, .inr (9, [.ref a_t_places, .ref a_t_bearings, .ref a_t_cuts, .ref a_t_deaths, .int t_mats])), (a_t_places, .inl (cI, 12, .inl t_places))] sz)) 0 0 (va_A [(a_t, .inr (9, [.ref a_t_places, .ref a_t_bearings, .ref a_t_cuts, .ref a_t_deaths, .int t_mats])), (a_t_places, .inl (cI, 12, .inl t_places))] sz) := by
  refine Met.ofW (cc := cX9_placeAt) (maxL := 2) (ret := (some .int)) (by decide) rfl ?_
  intro p e s m args below meth c s₁ B hml hv
  obtain ⟨rfl, hsz, hP, hK, hN, hD0⟩ := hv
  have hx := B.exec
  have hb := B.bytes
  have hr := B.returns
  have hts := atoms_spec (ws := wsX9_placeAt) B.pre
  have hown : s.vm.findClass RX9 = some m.cls := findClass_of_methodNamed B.named
  have hlocks := B.notSynchronized
  subst hsz
  have hD := hD0.self (sz := s.heap.size)
  generalize hAe : va_A [(a_t, .inr (9, [.ref a_t_places, .ref a_t_bearings, .ref a_t_cuts, .ref a_t_deaths, .int t_mats])), (a_t_places, .inl (cI, 12, .inl t_places))] s.heap.size = A at hD ⊢
  have hA : ∀ q : Nat, s.heap.size ≤ q → A q := fun q h => by rw [← hAe]; exact Or.inr h
  have hS : va_S A s.heap s.heap [] := va_S.rf
  have hl := lv_entry ([.ref a_t, .int x1]) (n := 2) (Nat.le_of_ble_eq_true rfl)
  rw [lg_entry_eq]
  generalize (lg_sl ([.ref a_t, .int x1]) ++ List.replicate (2 - (lg_sl ([.ref a_t, .int x1])).length) Slot.unset).toArray = ls at hl ⊢
  have hl : lv_has ls 2 [(0, .ref a_t), (1, .int x1)] := hl
  unfold fX9_placeAt at h
  refine lv_aload_n hx hb dX9_placeAt_0 rfl (lv_at hl 0 rfl) ?_
  refine lv_iload_n hx hb dX9_placeAt_1 rfl (lv_at hl 1 rfl) ?_
  obtain ⟨b1, e2, h⟩ := zz_b h
  refine zVi (As := [.int x1]) (rest := []) (C := RX9) (wr := [(a_t_places, .inl (cI, 12, .inl t_places))]) [0] [1] 0 ⟨hx, hb, hml, hown, hts⟩ (mX9_has l D cB cI cZ a_t a_t_places a_t_bearings a_t_cuts a_t_deaths t_mats s.heap.size x1 b1 e2) (cwV 1 hts gX9_placeAt_X9_has rfl rfl rfl (by decide +kernel) ⟨Nat.le_of_ble_eq_true rfl, Nat.le_of_ble_eq_true rfl⟩) hK hN hP hD hS hA rfl rfl rfl rfl rfl rfl rfl rfl hl.1 rfl (lv_room (Nat.le_of_ble_eq_true rfl)) dX9_placeAt_2 ⟨Nat.le_of_ble_eq_true rfl, Nat.le_of_ble_eq_true rfl⟩ (fun H locs hP hD hS => ?_)
  have hP : va_P D vwCl [(a_t_places, .inl (cI, 12, .inl t_places)), (a_t, .inr (9, [.ref a_t_places, .ref a_t_bearings, .ref a_t_cuts, .ref a_t_deaths, .int t_mats]))] H := hP
  have hD : va_D A [(a_t_places, .inl (cI, 12, .inl t_places)), (a_t, .inr (9, [.ref a_t_places, .ref a_t_bearings, .ref a_t_cuts, .ref a_t_deaths, .int t_mats]))] := hD
  refine lv_if_eq (tgt := 17) hx hb dX9_placeAt_5 (by decide) (fun c3 => ?_) (fun c3 => ?_)
  · have h := zz_t h c3
    refine lv_iconst (v := (-1 : Int32)) hx hb dX9_placeAt_17 rfl ?_
    have j0_ := Option.some.inj h
    subst j0_
    exact W.iret (v := (-1 : Int32)) hx hb hr (fun t ht hW => ⟨⟨_, (), rfl, rfl, zPost.of hP hD hK ht hW [1, 0] rfl rfl rfl⟩, hS.F ht⟩) hS.2.2 dX9_placeAt_18
  · have h := zz_f h c3
    refine lv_aload_n hx hb dX9_placeAt_8 rfl (lv_at hl 0 rfl) ?_
    refine va_get (D := D) (ci := 9) (C := RX9) (T := TX9) (N := 5) hx hb hts qX9_placeAt_X9 hown hK hP 1 rfl rfl 0 (by decide) (hts _ kX9_placeAt_0) (fun _ h9 => h9) rfl dX9_placeAt_9 ?_
    refine lv_iload_n hx hb dX9_placeAt_12 rfl (lv_at hl 1 rfl) ?_
    obtain ⟨i4, h⟩ := zz_i h
    refine va_iald hx hb hK hP 0 1 rfl rfl i4 dX9_placeAt_13 ?_
    refine lv_goto (tgt := 18) hx hb dX9_placeAt_14 (by decide) ?_
    have j0_ := Option.some.inj h
    subst j0_
    exact W.iret (v := (t_places (x1).toNatClampNeg)) hx hb hr (fun t ht hW => ⟨⟨_, (), rfl, rfl, zPost.of hP hD hK ht hW [1, 0] rfl rfl rfl⟩, hS.F ht⟩) hS.2.2 dX9_placeAt_18
/-! RunDesk$Way.bearingAt -/
theorem dX9_bearingAt_0 : decode cX9_bearingAt 0 = .ok (.aload_n 0, 1) := by decide +kernel
theorem dX9_bearingAt_1 : decode cX9_bearingAt 1 = .ok (.iload_n 1, 1) := by decide +kernel
theorem dX9_bearingAt_2 : decode cX9_bearingAt 2 = .ok (.invokevirtual 33, 3) := by decide +kernel
theorem dX9_bearingAt_5 : decode cX9_bearingAt 5 = .ok (.ifCond .eq 12, 3) := by decide +kernel
theorem dX9_bearingAt_8 : decode cX9_bearingAt 8 = .ok (.aload_n 0, 1) := by decide +kernel
theorem dX9_bearingAt_9 : decode cX9_bearingAt 9 = .ok (.getfield 15, 3) := by decide +kernel
theorem dX9_bearingAt_12 : decode cX9_bearingAt 12 = .ok (.iload_n 1, 1) := by decide +kernel
theorem dX9_bearingAt_13 : decode cX9_bearingAt 13 = .ok (.iaload, 1) := by decide +kernel
theorem dX9_bearingAt_14 : decode cX9_bearingAt 14 = .ok (.goto 4, 3) := by decide +kernel
theorem dX9_bearingAt_17 : decode cX9_bearingAt 17 = .ok (.iconst (-1), 1) := by decide +kernel
theorem dX9_bearingAt_18 : decode cX9_bearingAt 18 = .ok (.ireturn, 1) := by decide +kernel
set_option maxRecDepth 20000 in
theorem ggX9_bearingAt_X9_has : GoodIn wsX9_bearingAt wsX9_has := goodIn_r _ [6, 7, 8, 9, 10, 11, 12] (by decide +kernel) (by decide +kernel)
set_option maxRecDepth 20000 in
theorem gX9_bearingAt_X9_has : GoodIn wsX9_bearingAt (wsV RX9 33 RX9 yX9_has wsX9_has) := goodIn_app (goodIn_of _ (by decide +kernel)) ggX9_bearingAt_X9_has
def fX9_bearingAt (t_mats : Int32) (t_bearings : Nat → Int32) (x1 : Int32) : Option (Int32) := ((fX9_has t_mats x1).bind (fun b1 => (if (zb b1) = 0 then some ((-1 : Int32)) else (if zin x1 12 then some ((t_bearings (x1).toNatClampNeg)) else none))))
theorem kX9_bearingAt_0 : (.fieldLink RX9 15 "RunDesk$Way" "bearings" "[I" : Cond) ∈ wsX9_bearingAt := List.mem_of_getElem? (i := 1) (by decide +kernel)
theorem qX9_bearingAt_X9 : ∀ w ∈ wsX90, w ∈ wsX9_bearingAt := fun _ h => List.mem_cons_of_mem _ (List.mem_append_right _ (h))
set_option maxHeartbeats 4000000 in
set_option maxRecDepth 100000 in
theorem mX9_bearingAt (l : Launch) (D : va_G) (cB cI cZ : ClassId) (a_t : Nat) (a_t_places : Nat) (a_t_bearings : Nat) (a_t_cuts : Nat) (a_t_deaths : Nat) (t_mats : Int32) (t_bearings : Nat → Int32) (sz : Nat) (x1 : Int32) (r0 : Int32) (h : fX9_bearingAt t_mats t_bearings x1 = some (r0)) : Met l yX9_bearingAt wsX9_bearingAt ({ frames := 1, cells := 0, slots := 0, locals := 21 } : Room) (va_Pc [.ref a_t, .int x1] (zPre D (zT cB cI cZ) [(a_t, .inr (9, [.ref a_t_places, .ref a_t_bearings, .ref a_t_cuts, .ref a_t_deaths, .int t_mats])), (a_t_bearings, .inl (cI, 12, .inl t_bearings))] sz)) (zQi r0 D (zT cB cI cZ) [(a_t, .inr (9, [.ref a_t_places, .ref a_t_bearings, .ref a_t_cuts, .ref a_t_deaths, .int t_mats])), (a_t_bearings, .inl (cI, 12, .inl t_bearings))] (va_A [(a_t, .inr (9, [.ref a_t_places, .ref a_t_bearings, .ref a_t_cuts, .ref a_t_deaths, .int t_mats])), (a_t_bearings, .inl (cI, 12, .inl t_bearings))] sz)) 0 0 (va_A [(a_t, .inr (9, [.ref a_t_places, .ref a_t_bearings, .ref a_t_cuts, .ref a_t_deaths, .int t_mats])), (a_t_bearings, .inl (cI, 12, .inl t_bearings))] sz) := by
  refine Met.ofW (cc := cX9_bearingAt) (maxL := 2) (ret := (some .int)) (by decide) rfl ?_
  intro p e s m args below meth c s₁ B hml hv
  obtain ⟨rfl, hsz, hP, hK, hN, hD0⟩ := hv
  have hx := B.exec
  have hb := B.bytes
  have hr := B.returns
  have hts := atoms_spec (ws := wsX9_bearingAt) B.pre
  have hown : s.vm.findClass RX9 = some m.cls := findClass_of_methodNamed B.named
  have hlocks := B.notSynchronized
  subst hsz
  have hD := hD0.self (sz := s.heap.size)
  generalize hAe : va_A [(a_t, .inr (9, [.ref a_t_places, .ref a_t_bearings, .ref a_t_cuts, .ref a_t_deaths, .int t_mats])), (a_t_bearings, .inl (cI, 12, .inl t_bearings))] s.heap.size = A at hD ⊢
  have hA : ∀ q : Nat, s.heap.size ≤ q → A q := fun q h => by rw [← hAe]; exact Or.inr h
  have hS : va_S A s.heap s.heap [] := va_S.rf
  have hl := lv_entry ([.ref a_t, .int x1]) (n := 2) (Nat.le_of_ble_eq_true rfl)
  rw [lg_entry_eq]
  generalize (lg_sl ([.ref a_t, .int x1]) ++ List.replicate (2 - (lg_sl ([.ref a_t, .int x1])).length) Slot.unset).toArray = ls at hl ⊢
  have hl : lv_has ls 2 [(0, .ref a_t), (1, .int x1)] := hl
  unfold fX9_bearingAt at h
  refine lv_aload_n hx hb dX9_bearingAt_0 rfl (lv_at hl 0 rfl) ?_
  refine lv_iload_n hx hb dX9_bearingAt_1 rfl (lv_at hl 1 rfl) ?_
  obtain ⟨b1, e2, h⟩ := zz_b h
  refine zVi (As := [.int x1]) (rest := []) (C := RX9) (wr := [(a_t_bearings, .inl (cI, 12, .inl t_bearings))]) [0] [1] 0 ⟨hx, hb, hml, hown, hts⟩ (mX9_has l D cB cI cZ a_t a_t_places a_t_bearings a_t_cuts a_t_deaths t_mats s.heap.size x1 b1 e2) (cwV 1 hts gX9_bearingAt_X9_has rfl rfl rfl (by decide +kernel) ⟨Nat.le_of_ble_eq_true rfl, Nat.le_of_ble_eq_true rfl⟩) hK hN hP hD hS hA rfl rfl rfl rfl rfl rfl rfl rfl hl.1 rfl (lv_room (Nat.le_of_ble_eq_true rfl)) dX9_bearingAt_2 ⟨Nat.le_of_ble_eq_true rfl, Nat.le_of_ble_eq_true rfl⟩ (fun H locs hP hD hS => ?_)
  have hP : va_P D vwCl [(a_t_bearings, .inl (cI, 12, .inl t_bearings)), (a_t, .inr (9, [.ref a_t_places, .ref a_t_bearings, .ref a_t_cuts, .ref a_t_deaths, .int t_mats]))] H := hP
  have hD : va_D A [(a_t_bearings, .inl (cI, 12, .inl t_bearings)), (a_t, .inr (9, [.ref a_t_places, .ref a_t_bearings, .ref a_t_cuts, .ref a_t_deaths, .int t_mats]))] := hD
  refine lv_if_eq (tgt := 17) hx hb dX9_bearingAt_5 (by decide) (fun c3 => ?_) (fun c3 => ?_)
  · have h := zz_t h c3
    refine lv_iconst (v := (-1 : Int32)) hx hb dX9_bearingAt_17 rfl ?_
    have j0_ := Option.some.inj h
    subst j0_
    exact W.iret (v := (-1 : Int32)) hx hb hr (fun t ht hW => ⟨⟨_, (), rfl, rfl, zPost.of hP hD hK ht hW [1, 0] rfl rfl rfl⟩, hS.F ht⟩) hS.2.2 dX9_bearingAt_18
  · have h := zz_f h c3
    refine lv_aload_n hx hb dX9_bearingAt_8 rfl (lv_at hl 0 rfl) ?_
    refine va_get (D := D) (ci := 9) (C := RX9) (T := TX9) (N := 5) hx hb hts qX9_bearingAt_X9 hown hK hP 1 rfl rfl 1 (by decide) (hts _ kX9_bearingAt_0) (fun _ h9 => h9) rfl dX9_bearingAt_9 ?_
    refine lv_iload_n hx hb dX9_bearingAt_12 rfl (lv_at hl 1 rfl) ?_
    obtain ⟨i4, h⟩ := zz_i h
    refine va_iald hx hb hK hP 0 1 rfl rfl i4 dX9_bearingAt_13 ?_
    refine lv_goto (tgt := 18) hx hb dX9_bearingAt_14 (by decide) ?_
    have j0_ := Option.some.inj h
    subst j0_
    exact W.iret (v := (t_bearings (x1).toNatClampNeg)) hx hb hr (fun t ht hW => ⟨⟨_, (), rfl, rfl, zPost.of hP hD hK ht hW [1, 0] rfl rfl rfl⟩, hS.F ht⟩) hS.2.2 dX9_bearingAt_18
/-! RunDesk$Way.cutAt -/
theorem dX9_cutAt_0 : decode cX9_cutAt 0 = .ok (.aload_n 0, 1) := by decide +kernel
theorem dX9_cutAt_1 : decode cX9_cutAt 1 = .ok (.iload_n 1, 1) := by decide +kernel
theorem dX9_cutAt_2 : decode cX9_cutAt 2 = .ok (.invokevirtual 33, 3) := by decide +kernel
theorem dX9_cutAt_5 : decode cX9_cutAt 5 = .ok (.ifCond .eq 12, 3) := by decide +kernel
theorem dX9_cutAt_8 : decode cX9_cutAt 8 = .ok (.aload_n 0, 1) := by decide +kernel
theorem dX9_cutAt_9 : decode cX9_cutAt 9 = .ok (.getfield 18, 3) := by decide +kernel
theorem dX9_cutAt_12 : decode cX9_cutAt 12 = .ok (.iload_n 1, 1) := by decide +kernel
theorem dX9_cutAt_13 : decode cX9_cutAt 13 = .ok (.iaload, 1) := by decide +kernel
theorem dX9_cutAt_14 : decode cX9_cutAt 14 = .ok (.goto 4, 3) := by decide +kernel
theorem dX9_cutAt_17 : decode cX9_cutAt 17 = .ok (.iconst (-1), 1) := by decide +kernel
theorem dX9_cutAt_18 : decode cX9_cutAt 18 = .ok (.ireturn, 1) := by decide +kernel
set_option maxRecDepth 20000 in
theorem ggX9_cutAt_X9_has : GoodIn wsX9_cutAt wsX9_has := goodIn_r _ [6, 7, 8, 9, 10, 11, 12] (by decide +kernel) (by decide +kernel)
set_option maxRecDepth 20000 in
theorem gX9_cutAt_X9_has : GoodIn wsX9_cutAt (wsV RX9 33 RX9 yX9_has wsX9_has) := goodIn_app (goodIn_of _ (by decide +kernel)) ggX9_cutAt_X9_has
def fX9_cutAt (t_mats : Int32) (t_cuts : Nat → Int32) (x1 : Int32) : Option (Int32) := ((fX9_has t_mats x1).bind (fun b1 => (if (zb b1) = 0 then some ((-1 : Int32)) else (if zin x1 12 then some ((t_cuts (x1).toNatClampNeg)) else none))))
theorem kX9_cutAt_0 : (.fieldLink RX9 18 "RunDesk$Way" "cuts" "[I" : Cond) ∈ wsX9_cutAt := List.mem_of_getElem? (i := 1) (by decide +kernel)
theorem qX9_cutAt_X9 : ∀ w ∈ wsX90, w ∈ wsX9_cutAt := fun _ h => List.mem_cons_of_mem _ (List.mem_append_right _ (h))
set_option maxHeartbeats 4000000 in
set_option maxRecDepth 100000 in
theorem mX9_cutAt (l : Launch) (D : va_G) (cB cI cZ : ClassId) (a_t : Nat) (a_t_places : Nat) (a_t_bearings : Nat) (a_t_cuts : Nat) (a_t_deaths : Nat) (t_mats : Int32) (t_cuts : Nat → Int32) (sz : Nat) (x1 : Int32) (r0 : Int32) (h : fX9_cutAt t_mats t_cuts x1 = some (r0)) : Met l yX9_cutAt wsX9_cutAt ({ frames := 1, cells := 0, slots := 0, locals := 21 } : Room) (va_Pc [.ref a_t, .int x1] (zPre D (zT cB cI cZ) [(a_t, .inr (9, [.ref a_t_places, .ref a_t_bearings, .ref a_t_cuts, .ref a_t_deaths, .int t_mats])), (a_t_cuts, .inl (cI, 12, .inl t_cuts))] sz)) (zQi r0 D (zT cB cI cZ) [(a_t, .inr (9, [.ref a_t_places, .ref a_t_bearings, .ref a_t_cuts, .ref a_t_deaths, .int t_mats])), (a_t_cuts, .inl (cI, 12, .inl t_cuts))] (va_A [(a_t, .inr (9, [.ref a_t_places, .ref a_t_bearings, .ref a_t_cuts, .ref a_t_deaths, .int t_mats])), (a_t_cuts, .inl (cI, 12, .inl t_cuts))] sz)) 0 0 (va_A [(a_t, .inr (9, [.ref a_t_places, .ref a_t_bearings, .ref a_t_cuts, .ref a_t_deaths, .int t_mats])), (a_t_cuts, .inl (cI, 12, .inl t_cuts))] sz) := by
  refine Met.ofW (cc := cX9_cutAt) (maxL := 2) (ret := (some .int)) (by decide) rfl ?_
  intro p e s m args below meth c s₁ B hml hv
  obtain ⟨rfl, hsz, hP, hK, hN, hD0⟩ := hv
  have hx := B.exec
  have hb := B.bytes
  have hr := B.returns
  have hts := atoms_spec (ws := wsX9_cutAt) B.pre
  have hown : s.vm.findClass RX9 = some m.cls := findClass_of_methodNamed B.named
  have hlocks := B.notSynchronized
  subst hsz
  have hD := hD0.self (sz := s.heap.size)
  generalize hAe : va_A [(a_t, .inr (9, [.ref a_t_places, .ref a_t_bearings, .ref a_t_cuts, .ref a_t_deaths, .int t_mats])), (a_t_cuts, .inl (cI, 12, .inl t_cuts))] s.heap.size = A at hD ⊢
  have hA : ∀ q : Nat, s.heap.size ≤ q → A q := fun q h => by rw [← hAe]; exact Or.inr h
  have hS : va_S A s.heap s.heap [] := va_S.rf
  have hl := lv_entry ([.ref a_t, .int x1]) (n := 2) (Nat.le_of_ble_eq_true rfl)
  rw [lg_entry_eq]
  generalize (lg_sl ([.ref a_t, .int x1]) ++ List.replicate (2 - (lg_sl ([.ref a_t, .int x1])).length) Slot.unset).toArray = ls at hl ⊢
  have hl : lv_has ls 2 [(0, .ref a_t), (1, .int x1)] := hl
  unfold fX9_cutAt at h
  refine lv_aload_n hx hb dX9_cutAt_0 rfl (lv_at hl 0 rfl) ?_
  refine lv_iload_n hx hb dX9_cutAt_1 rfl (lv_at hl 1 rfl) ?_
  obtain ⟨b1, e2, h⟩ := zz_b h
  refine zVi (As := [.int x1]) (rest := []) (C := RX9) (wr := [(a_t_cuts, .inl (cI, 12, .inl t_cuts))]) [0] [1] 0 ⟨hx, hb, hml, hown, hts⟩ (mX9_has l D cB cI cZ a_t a_t_places a_t_bearings a_t_cuts a_t_deaths t_mats s.heap.size x1 b1 e2) (cwV 1 hts gX9_cutAt_X9_has rfl rfl rfl (by decide +kernel) ⟨Nat.le_of_ble_eq_true rfl, Nat.le_of_ble_eq_true rfl⟩) hK hN hP hD hS hA rfl rfl rfl rfl rfl rfl rfl rfl hl.1 rfl (lv_room (Nat.le_of_ble_eq_true rfl)) dX9_cutAt_2 ⟨Nat.le_of_ble_eq_true rfl, Nat.le_of_ble_eq_true rfl⟩ (fun H locs hP hD hS => ?_)
  have hP : va_P D vwCl [(a_t_cuts, .inl (cI, 12, .inl t_cuts)), (a_t, .inr (9, [.ref a_t_places, .ref a_t_bearings, .ref a_t_cuts, .ref a_t_deaths, .int t_mats]))] H := hP
  have hD : va_D A [(a_t_cuts, .inl (cI, 12, .inl t_cuts)), (a_t, .inr (9, [.ref a_t_places, .ref a_t_bearings, .ref a_t_cuts, .ref a_t_deaths, .int t_mats]))] := hD
  refine lv_if_eq (tgt := 17) hx hb dX9_cutAt_5 (by decide) (fun c3 => ?_) (fun c3 => ?_)
  · have h := zz_t h c3
    refine lv_iconst (v := (-1 : Int32)) hx hb dX9_cutAt_17 rfl ?_
    have j0_ := Option.some.inj h
    subst j0_
    exact W.iret (v := (-1 : Int32)) hx hb hr (fun t ht hW => ⟨⟨_, (), rfl, rfl, zPost.of hP hD hK ht hW [1, 0] rfl rfl rfl⟩, hS.F ht⟩) hS.2.2 dX9_cutAt_18
  · have h := zz_f h c3
    refine lv_aload_n hx hb dX9_cutAt_8 rfl (lv_at hl 0 rfl) ?_
    refine va_get (D := D) (ci := 9) (C := RX9) (T := TX9) (N := 5) hx hb hts qX9_cutAt_X9 hown hK hP 1 rfl rfl 2 (by decide) (hts _ kX9_cutAt_0) (fun _ h9 => h9) rfl dX9_cutAt_9 ?_
    refine lv_iload_n hx hb dX9_cutAt_12 rfl (lv_at hl 1 rfl) ?_
    obtain ⟨i4, h⟩ := zz_i h
    refine va_iald hx hb hK hP 0 1 rfl rfl i4 dX9_cutAt_13 ?_
    refine lv_goto (tgt := 18) hx hb dX9_cutAt_14 (by decide) ?_
    have j0_ := Option.some.inj h
    subst j0_
    exact W.iret (v := (t_cuts (x1).toNatClampNeg)) hx hb hr (fun t ht hW => ⟨⟨_, (), rfl, rfl, zPost.of hP hD hK ht hW [1, 0] rfl rfl rfl⟩, hS.F ht⟩) hS.2.2 dX9_cutAt_18
/-! RunDesk$Way.lastMat -/
theorem dX9_lastMat_0 : decode cX9_lastMat 0 = .ok (.aload_n 0, 1) := by decide +kernel
theorem dX9_lastMat_1 : decode cX9_lastMat 1 = .ok (.getfield 25, 3) := by decide +kernel
theorem dX9_lastMat_4 : decode cX9_lastMat 4 = .ok (.iconst 2, 1) := by decide +kernel
theorem dX9_lastMat_5 : decode cX9_lastMat 5 = .ok (.if_icmp .ge 7, 3) := by decide +kernel
theorem dX9_lastMat_8 : decode cX9_lastMat 8 = .ok (.iconst (-1), 1) := by decide +kernel
theorem dX9_lastMat_9 : decode cX9_lastMat 9 = .ok (.goto 9, 3) := by decide +kernel
theorem dX9_lastMat_12 : decode cX9_lastMat 12 = .ok (.aload_n 0, 1) := by decide +kernel
theorem dX9_lastMat_13 : decode cX9_lastMat 13 = .ok (.getfield 25, 3) := by decide +kernel
theorem dX9_lastMat_16 : decode cX9_lastMat 16 = .ok (.iconst 1, 1) := by decide +kernel
theorem dX9_lastMat_17 : decode cX9_lastMat 17 = .ok (.isub, 1) := by decide +kernel
theorem dX9_lastMat_18 : decode cX9_lastMat 18 = .ok (.ireturn, 1) := by decide +kernel
def fX9_lastMat (t_mats : Int32) : Option (Int32) := (if (2 : Int32) ≤ t_mats then some ((t_mats - (1 : Int32))) else some ((-1 : Int32)))
theorem kX9_lastMat_0 : (.fieldLink RX9 25 "RunDesk$Way" "mats" "I" : Cond) ∈ wsX9_lastMat := List.mem_of_getElem? (i := 1) (by decide +kernel)
theorem qX9_lastMat_X9 : ∀ w ∈ wsX90, w ∈ wsX9_lastMat := fun _ h => List.mem_cons_of_mem _ (List.mem_append_right _ (h))
set_option maxHeartbeats 4000000 in
set_option maxRecDepth 100000 in
theorem mX9_lastMat (l : Launch) (D : va_G) (cB cI cZ : ClassId) (a_t : Nat) (a_t_places : Nat) (a_t_bearings : Nat) (a_t_cuts : Nat) (a_t_deaths : Nat) (t_mats : Int32) (sz : Nat) (r0 : Int32) (h : fX9_lastMat t_mats = some (r0)) : Met l yX9_lastMat wsX9_lastMat ({ frames := 0, cells := 0, slots := 0, locals := 0 } : Room) (va_Pc [.ref a_t] (zPre D (zT cB cI cZ) [(a_t, .inr (9, [.ref a_t_places, .ref a_t_bearings, .ref a_t_cuts, .ref a_t_deaths, .int t_mats]))] sz)) (zQi r0 D (zT cB cI cZ) [(a_t, .inr (9, [.ref a_t_places, .ref a_t_bearings, .ref a_t_cuts, .ref a_t_deaths, .int t_mats]))] (va_A [(a_t, .inr (9, [.ref a_t_places, .ref a_t_bearings, .ref a_t_cuts, .ref a_t_deaths, .int t_mats]))] sz)) 0 0 (va_A [(a_t, .inr (9, [.ref a_t_places, .ref a_t_bearings, .ref a_t_cuts, .ref a_t_deaths, .int t_mats]))] sz) := by
  refine Met.ofW (cc := cX9_lastMat) (maxL := 1) (ret := (some .int)) (by decide) rfl ?_
  intro p e s m args below meth c s₁ B hml hv
  obtain ⟨rfl, hsz, hP, hK, hN, hD0⟩ := hv
  have hx := B.exec
  have hb := B.bytes
  have hr := B.returns
  have hts := atoms_spec (ws := wsX9_lastMat) B.pre
  have hown : s.vm.findClass RX9 = some m.cls := findClass_of_methodNamed B.named
  have hlocks := B.notSynchronized
  subst hsz
  have hD := hD0.self (sz := s.heap.size)
  generalize hAe : va_A [(a_t, .inr (9, [.ref a_t_places, .ref a_t_bearings, .ref a_t_cuts, .ref a_t_deaths, .int t_mats]))] s.heap.size = A at hD ⊢
  have hA : ∀ q : Nat, s.heap.size ≤ q → A q := fun q h => by rw [← hAe]; exact Or.inr h
  have hS : va_S A s.heap s.heap [] := va_S.rf
  have hl := lv_entry ([.ref a_t]) (n := 1) (Nat.le_of_ble_eq_true rfl)
  rw [lg_entry_eq]
  generalize (lg_sl ([.ref a_t]) ++ List.replicate (1 - (lg_sl ([.ref a_t])).length) Slot.unset).toArray = ls at hl ⊢
  have hl : lv_has ls 1 [(0, .ref a_t)] := hl
  unfold fX9_lastMat at h
  refine lv_aload_n hx hb dX9_lastMat_0 rfl (lv_at hl 0 rfl) ?_
  refine va_get (D := D) (ci := 9) (C := RX9) (T := TX9) (N := 5) hx hb hts qX9_lastMat_X9 hown hK hP 0 rfl rfl 4 (by decide) (hts _ kX9_lastMat_0) (fun _ h9 => h9) rfl dX9_lastMat_1 ?_
  refine lv_iconst (v := (2 : Int32)) hx hb dX9_lastMat_4 rfl ?_
  refine lv_icmp_ge (tgt := 12) hx hb dX9_lastMat_5 (by decide) (fun c1 => ?_) (fun c1 => ?_)
  · have h := zz_t h c1
    refine lv_aload_n hx hb dX9_lastMat_12 rfl (lv_at hl 0 rfl) ?_
    refine va_get (D := D) (ci := 9) (C := RX9) (T := TX9) (N := 5) hx hb hts qX9_lastMat_X9 hown hK hP 0 rfl rfl 4 (by decide) (hts _ kX9_lastMat_0) (fun _ h9 => h9) rfl dX9_lastMat_13 ?_
    refine lv_iconst (v := (1 : Int32)) hx hb dX9_lastMat_16 rfl ?_
    refine lv_isub hx hb dX9_lastMat_17 ?_
    have j0_ := Option.some.inj h
    subst j0_
    exact W.iret (v := (t_mats - (1 : Int32))) hx hb hr (fun t ht hW => ⟨⟨_, (), rfl, rfl, zPost.of hP hD hK ht hW [0] rfl rfl rfl⟩, hS.F ht⟩) hS.2.2 dX9_lastMat_18
  · have h := zz_f h c1
    refine lv_iconst (v := (-1 : Int32)) hx hb dX9_lastMat_8 rfl ?_
    refine lv_goto (tgt := 18) hx hb dX9_lastMat_9 (by decide) ?_
    have j0_ := Option.some.inj h
    subst j0_
    exact W.iret (v := (-1 : Int32)) hx hb hr (fun t ht hW => ⟨⟨_, (), rfl, rfl, zPost.of hP hD hK ht hW [0] rfl rfl rfl⟩, hS.F ht⟩) hS.2.2 dX9_lastMat_18
/-! RunDesk$Way.clear -/
theorem dX9_clear_0 : decode cX9_clear 0 = .ok (.aload_n 0, 1) := by decide +kernel
theorem dX9_clear_1 : decode cX9_clear 1 = .ok (.iconst 0, 1) := by decide +kernel
theorem dX9_clear_2 : decode cX9_clear 2 = .ok (.putfield 25, 3) := by decide +kernel
theorem dX9_clear_5 : decode cX9_clear 5 = .ok (.return_, 1) := by decide +kernel
def fX9_clear (t_mats : Int32) : Option (Int32) := some ((0 : Int32))
theorem kX9_clear_0 : (.fieldLink RX9 25 "RunDesk$Way" "mats" "I" : Cond) ∈ wsX9_clear := List.mem_of_getElem? (i := 1) (by decide +kernel)
theorem qX9_clear_X9 : ∀ w ∈ wsX90, w ∈ wsX9_clear := fun _ h => List.mem_cons_of_mem _ (List.mem_append_right _ (h))
set_option maxHeartbeats 4000000 in
set_option maxRecDepth 100000 in
theorem mX9_clear (l : Launch) (D : va_G) (cB cI cZ : ClassId) (a_t : Nat) (a_t_places : Nat) (a_t_bearings : Nat) (a_t_cuts : Nat) (a_t_deaths : Nat) (t_mats : Int32) (sz : Nat) (t_mats' : Int32) (h : fX9_clear t_mats = some (t_mats')) : Met l yX9_clear wsX9_clear ({ frames := 0, cells := 0, slots := 0, locals := 0 } : Room) (va_Pc [.ref a_t] (zPre D (zT cB cI cZ) [(a_t, .inr (9, [.ref a_t_places, .ref a_t_bearings, .ref a_t_cuts, .ref a_t_deaths, .int t_mats]))] sz)) (zQv D (zT cB cI cZ) [(a_t, .inr (9, [.ref a_t_places, .ref a_t_bearings, .ref a_t_cuts, .ref a_t_deaths, .int t_mats']))] (va_A [(a_t, .inr (9, [.ref a_t_places, .ref a_t_bearings, .ref a_t_cuts, .ref a_t_deaths, .int t_mats]))] sz)) 0 0 (va_A [(a_t, .inr (9, [.ref a_t_places, .ref a_t_bearings, .ref a_t_cuts, .ref a_t_deaths, .int t_mats]))] sz) := by
  refine Met.ofW (cc := cX9_clear) (maxL := 1) (ret := none) (by decide) rfl ?_
  intro p e s m args below meth c s₁ B hml hv
  obtain ⟨rfl, hsz, hP, hK, hN, hD0⟩ := hv
  have hx := B.exec
  have hb := B.bytes
  have hr := B.returns
  have hts := atoms_spec (ws := wsX9_clear) B.pre
  have hown : s.vm.findClass RX9 = some m.cls := findClass_of_methodNamed B.named
  have hlocks := B.notSynchronized
  subst hsz
  have hD := hD0.self (sz := s.heap.size)
  generalize hAe : va_A [(a_t, .inr (9, [.ref a_t_places, .ref a_t_bearings, .ref a_t_cuts, .ref a_t_deaths, .int t_mats]))] s.heap.size = A at hD ⊢
  have hA : ∀ q : Nat, s.heap.size ≤ q → A q := fun q h => by rw [← hAe]; exact Or.inr h
  have hS : va_S A s.heap s.heap [] := va_S.rf
  have hl := lv_entry ([.ref a_t]) (n := 1) (Nat.le_of_ble_eq_true rfl)
  rw [lg_entry_eq]
  generalize (lg_sl ([.ref a_t]) ++ List.replicate (1 - (lg_sl ([.ref a_t])).length) Slot.unset).toArray = ls at hl ⊢
  have hl : lv_has ls 1 [(0, .ref a_t)] := hl
  unfold fX9_clear at h
  refine lv_aload_n hx hb dX9_clear_0 rfl (lv_at hl 0 rfl) ?_
  refine lv_iconst (v := (0 : Int32)) hx hb dX9_clear_1 rfl ?_
  refine va_put (D := D) (ci := 9) (ty := .int) (C := RX9) (T := TX9) (N := 5) hx hb hts qX9_clear_X9 tyX9 tyX9_ok nmX9 hown hK hP hD hS 0 rfl rfl 4 (by decide) (hts _ kX9_clear_0) (fun _ h9 => h9) rfl (by decide +kernel) rfl (by first | rfl | exact zz_fit) (Nat.le_of_ble_eq_true rfl) dX9_clear_2 (fun H locs hP hD hS => ?_)
  have hP : va_P D vwCl [(a_t, .inr (9, [.ref a_t_places, .ref a_t_bearings, .ref a_t_cuts, .ref a_t_deaths, .int (0 : Int32)]))] H := hP
  have hD : va_D A [(a_t, .inr (9, [.ref a_t_places, .ref a_t_bearings, .ref a_t_cuts, .ref a_t_deaths, .int (0 : Int32)]))] := hD
  have j0_ := Option.some.inj h
  subst j0_
  exact W.vret hx hb hr (fun t ht hW => ⟨⟨(), rfl, trivial, zPost.of hP hD hK ht hW [0] rfl rfl rfl⟩, hS.F ht⟩) hS.2.2 dX9_clear_5
/-! RunDesk$Way.append -/
theorem dX9_append_0 : decode cX9_append 0 = .ok (.aload_n 0, 1) := by decide +kernel
theorem dX9_append_1 : decode cX9_append 1 = .ok (.getfield 25, 3) := by decide +kernel
theorem dX9_append_4 : decode cX9_append 4 = .ok (.ifCond .lt 12, 3) := by decide +kernel
theorem dX9_append_7 : decode cX9_append 7 = .ok (.aload_n 0, 1) := by decide +kernel
theorem dX9_append_8 : decode cX9_append 8 = .ok (.getfield 25, 3) := by decide +kernel
theorem dX9_append_11 : decode cX9_append 11 = .ok (.bipush 12, 2) := by decide +kernel
theorem dX9_append_13 : decode cX9_append 13 = .ok (.if_icmp .lt 5, 3) := by decide +kernel
theorem dX9_append_16 : decode cX9_append 16 = .ok (.iconst (-1), 1) := by decide +kernel
theorem dX9_append_17 : decode cX9_append 17 = .ok (.ireturn, 1) := by decide +kernel
theorem dX9_append_18 : decode cX9_append 18 = .ok (.aload_n 0, 1) := by decide +kernel
theorem dX9_append_19 : decode cX9_append 19 = .ok (.getfield 9, 3) := by decide +kernel
theorem dX9_append_22 : decode cX9_append 22 = .ok (.aload_n 0, 1) := by decide +kernel
theorem dX9_append_23 : decode cX9_append 23 = .ok (.getfield 25, 3) := by decide +kernel
theorem dX9_append_26 : decode cX9_append 26 = .ok (.iload_n 1, 1) := by decide +kernel
theorem dX9_append_27 : decode cX9_append 27 = .ok (.iastore, 1) := by decide +kernel
theorem dX9_append_28 : decode cX9_append 28 = .ok (.aload_n 0, 1) := by decide +kernel
theorem dX9_append_29 : decode cX9_append 29 = .ok (.getfield 15, 3) := by decide +kernel
theorem dX9_append_32 : decode cX9_append 32 = .ok (.aload_n 0, 1) := by decide +kernel
theorem dX9_append_33 : decode cX9_append 33 = .ok (.getfield 25, 3) := by decide +kernel
theorem dX9_append_36 : decode cX9_append 36 = .ok (.iload_n 2, 1) := by decide +kernel
theorem dX9_append_37 : decode cX9_append 37 = .ok (.iastore, 1) := by decide +kernel
theorem dX9_append_38 : decode cX9_append 38 = .ok (.aload_n 0, 1) := by decide +kernel
theorem dX9_append_39 : decode cX9_append 39 = .ok (.getfield 18, 3) := by decide +kernel
theorem dX9_append_42 : decode cX9_append 42 = .ok (.aload_n 0, 1) := by decide +kernel
theorem dX9_append_43 : decode cX9_append 43 = .ok (.getfield 25, 3) := by decide +kernel
theorem dX9_append_46 : decode cX9_append 46 = .ok (.iconst (-1), 1) := by decide +kernel
theorem dX9_append_47 : decode cX9_append 47 = .ok (.iastore, 1) := by decide +kernel
theorem dX9_append_48 : decode cX9_append 48 = .ok (.aload_n 0, 1) := by decide +kernel
theorem dX9_append_49 : decode cX9_append 49 = .ok (.getfield 21, 3) := by decide +kernel
theorem dX9_append_52 : decode cX9_append 52 = .ok (.aload_n 0, 1) := by decide +kernel
theorem dX9_append_53 : decode cX9_append 53 = .ok (.getfield 25, 3) := by decide +kernel
theorem dX9_append_56 : decode cX9_append 56 = .ok (.iconst 0, 1) := by decide +kernel
theorem dX9_append_57 : decode cX9_append 57 = .ok (.bastore, 1) := by decide +kernel
theorem dX9_append_58 : decode cX9_append 58 = .ok (.aload_n 0, 1) := by decide +kernel
theorem dX9_append_59 : decode cX9_append 59 = .ok (.dup, 1) := by decide +kernel
theorem dX9_append_60 : decode cX9_append 60 = .ok (.getfield 25, 3) := by decide +kernel
theorem dX9_append_63 : decode cX9_append 63 = .ok (.iconst 1, 1) := by decide +kernel
theorem dX9_append_64 : decode cX9_append 64 = .ok (.iadd, 1) := by decide +kernel
theorem dX9_append_65 : decode cX9_append 65 = .ok (.putfield 25, 3) := by decide +kernel
theorem dX9_append_68 : decode cX9_append 68 = .ok (.aload_n 0, 1) := by decide +kernel
theorem dX9_append_69 : decode cX9_append 69 = .ok (.getfield 25, 3) := by decide +kernel
theorem dX9_append_72 : decode cX9_append 72 = .ok (.iconst 1, 1) := by decide +kernel
theorem dX9_append_73 : decode cX9_append 73 = .ok (.isub, 1) := by decide +kernel
theorem dX9_append_74 : decode cX9_append 74 = .ok (.ireturn, 1) := by decide +kernel
def fX9_append (t_mats : Int32) (t_bearings : Nat → Int32) (t_cuts : Nat → Int32) (t_deaths : Nat → Int32) (t_places : Nat → Int32) (x1 : Int32) (x2 : Int32) : Option (Int32 × Int32 × (Nat → Int32) × (Nat → Int32) × (Nat → Int32) × (Nat → Int32)) := (if t_mats < 0 then some ((-1 : Int32), t_mats, t_bearings, t_cuts, t_deaths, t_places) else (if t_mats < (12 : Int32) then (if zin t_mats 12 then (if zin t_mats 12 then (if zin t_mats 12 then (if zin t_mats 12 then some (((t_mats + (1 : Int32)) - (1 : Int32)), (t_mats + (1 : Int32)), (upd t_bearings (t_mats).toNatClampNeg x2), (upd t_cuts (t_mats).toNatClampNeg (-1 : Int32)), (upd t_deaths (t_mats).toNatClampNeg (vp_nar .boolean (0 : Int32))), (upd t_places (t_mats).toNatClampNeg x1)) else none) else none) else none) else none) else some ((-1 : Int32), t_mats, t_bearings, t_cuts, t_deaths, t_places)))
theorem kX9_append_0 : (.fieldLink RX9 25 "RunDesk$Way" "mats" "I" : Cond) ∈ wsX9_append := List.mem_of_getElem? (i := 1) (by decide +kernel)
theorem qX9_append_X9 : ∀ w ∈ wsX90, w ∈ wsX9_append := fun _ h => List.mem_cons_of_mem _ (List.mem_append_right _ (h))
theorem kX9_append_2 : (.fieldLink RX9 9 "RunDesk$Way" "places" "[I" : Cond) ∈ wsX9_append := List.mem_of_getElem? (i := 2) (by decide +kernel)
theorem kX9_append_3 : (.fieldLink RX9 15 "RunDesk$Way" "bearings" "[I" : Cond) ∈ wsX9_append := List.mem_of_getElem? (i := 3) (by decide +kernel)
theorem kX9_append_4 : (.fieldLink RX9 18 "RunDesk$Way" "cuts" "[I" : Cond) ∈ wsX9_append := List.mem_of_getElem? (i := 4) (by decide +kernel)
theorem kX9_append_5 : (.fieldLink RX9 21 "RunDesk$Way" "deaths" "[Z" : Cond) ∈ wsX9_append := List.mem_of_getElem? (i := 5) (by decide +kernel)
set_option maxHeartbeats 4000000 in
set_option maxRecDepth 100000 in
theorem mX9_append (l : Launch) (D : va_G) (cB cI cZ : ClassId) (a_t : Nat) (a_t_places : Nat) (a_t_bearings : Nat) (a_t_cuts : Nat) (a_t_deaths : Nat) (t_mats : Int32) (t_bearings : Nat → Int32) (t_cuts : Nat → Int32) (t_deaths : Nat → Int32) (t_places : Nat → Int32) (sz : Nat) (x1 : Int32) (x2 : Int32) (r0 : Int32) (t_mats' : Int32) (t_bearings' : Nat → Int32) (t_cuts' : Nat → Int32) (t_deaths' : Nat → Int32) (t_places' : Nat → Int32) (h : fX9_append t_mats t_bearings t_cuts t_deaths t_places x1 x2 = some (r0, t_mats', t_bearings', t_cuts', t_deaths', t_places')) : Met l yX9_append wsX9_append ({ frames := 0, cells := 0, slots := 0, locals := 0 } : Room) (va_Pc [.ref a_t, .int x1, .int x2] (zPre D (zT cB cI cZ) [(a_t, .inr (9, [.ref a_t_places, .ref a_t_bearings, .ref a_t_cuts, .ref a_t_deaths, .int t_mats])), (a_t_bearings, .inl (cI, 12, .inl t_bearings)), (a_t_cuts, .inl (cI, 12, .inl t_cuts)), (a_t_deaths, .inl (cZ, 12, .inl t_deaths)), (a_t_places, .inl (cI, 12, .inl t_places))] sz)) (zQi r0 D (zT cB cI cZ) [(a_t, .inr (9, [.ref a_t_places, .ref a_t_bearings, .ref a_t_cuts, .ref a_t_deaths, .int t_mats'])), (a_t_bearings, .inl (cI, 12, .inl t_bearings')), (a_t_cuts, .inl (cI, 12, .inl t_cuts')), (a_t_deaths, .inl (cZ, 12, .inl t_deaths')), (a_t_places, .inl (cI, 12, .inl t_places'))] (va_A [(a_t, .inr (9, [.ref a_t_places, .ref a_t_bearings, .ref a_t_cuts, .ref a_t_deaths, .int t_mats])), (a_t_bearings, .inl (cI, 12, .inl t_bearings)), (a_t_cuts, .inl (cI, 12, .inl t_cuts)), (a_t_deaths, .inl (cZ, 12, .inl t_deaths)), (a_t_places, .inl (cI, 12, .inl t_places))] sz)) 0 0 (va_A [(a_t, .inr (9, [.ref a_t_places, .ref a_t_bearings, .ref a_t_cuts, .ref a_t_deaths, .int t_mats])), (a_t_bearings, .inl (cI, 12, .inl t_bearings)), (a_t_cuts, .inl (cI, 12, .inl t_cuts)), (a_t_deaths, .inl (cZ, 12, .inl t_deaths)), (a_t_places, .inl (cI, 12, .inl t_places))] sz) := by
  refine Met.ofW (cc := cX9_append) (maxL := 3) (ret := (some .int)) (by decide) rfl ?_
  intro p e s m args below meth c s₁ B hml hv
  obtain ⟨rfl, hsz, hP, hK, hN, hD0⟩ := hv
  have hx := B.exec
  have hb := B.bytes
  have hr := B.returns
  have hts := atoms_spec (ws := wsX9_append) B.pre
  have hown : s.vm.findClass RX9 = some m.cls := findClass_of_methodNamed B.named
  have hlocks := B.notSynchronized
  subst hsz
  have hD := hD0.self (sz := s.heap.size)
  generalize hAe : va_A [(a_t, .inr (9, [.ref a_t_places, .ref a_t_bearings, .ref a_t_cuts, .ref a_t_deaths, .int t_mats])), (a_t_bearings, .inl (cI, 12, .inl t_bearings)), (a_t_cuts, .inl (cI, 12, .inl t_cuts)), (a_t_deaths, .inl (cZ, 12, .inl t_deaths)), (a_t_places, .inl (cI, 12, .inl t_places))] s.heap.size = A at hD ⊢
  have hA : ∀ q : Nat, s.heap.size ≤ q → A q := fun q h => by rw [← hAe]; exact Or.inr h
  have hS : va_S A s.heap s.heap [] := va_S.rf
  have hl := lv_entry ([.ref a_t, .int x1, .int x2]) (n := 3) (Nat.le_of_ble_eq_true rfl)
  rw [lg_entry_eq]
  generalize (lg_sl ([.ref a_t, .int x1, .int x2]) ++ List.replicate (3 - (lg_sl ([.ref a_t, .int x1, .int x2])).length) Slot.unset).toArray = ls at hl ⊢
  have hl : lv_has ls 3 [(0, .ref a_t), (1, .int x1), (2, .int x2)] := hl
  unfold fX9_append at h
  refine lv_aload_n hx hb dX9_append_0 rfl (lv_at hl 0 rfl) ?_
  refine va_get (D := D) (ci := 9) (C := RX9) (T := TX9) (N := 5) hx hb hts qX9_append_X9 hown hK hP 0 rfl rfl 4 (by decide) (hts _ kX9_append_0) (fun _ h9 => h9) rfl dX9_append_1 ?_
  refine lv_if_lt (tgt := 16) hx hb dX9_append_4 (by decide) (fun c1 => ?_) (fun c1 => ?_)
  · have h := zz_t h c1
    refine lv_iconst (v := (-1 : Int32)) hx hb dX9_append_16 rfl ?_
    obtain ⟨j0_, g_⟩ := Prod.mk.inj (Option.some.inj h)
    obtain ⟨j1_, g_⟩ := Prod.mk.inj g_
    obtain ⟨j2_, g_⟩ := Prod.mk.inj g_
    obtain ⟨j3_, g_⟩ := Prod.mk.inj g_
    obtain ⟨j4_, g_⟩ := Prod.mk.inj g_
    have j5_ := g_
    subst j0_
    subst j1_
    subst j2_
    subst j3_
    subst j4_
    subst j5_
    exact W.iret (v := (-1 : Int32)) hx hb hr (fun t ht hW => ⟨⟨_, (), rfl, rfl, zPost.of hP hD hK ht hW [0, 1, 2, 3, 4] rfl rfl rfl⟩, hS.F ht⟩) hS.2.2 dX9_append_17
  · have h := zz_f h c1
    refine lv_aload_n hx hb dX9_append_7 rfl (lv_at hl 0 rfl) ?_
    refine va_get (D := D) (ci := 9) (C := RX9) (T := TX9) (N := 5) hx hb hts qX9_append_X9 hown hK hP 0 rfl rfl 4 (by decide) (hts _ kX9_append_0) (fun _ h9 => h9) rfl dX9_append_8 ?_
    refine lv_bipush (v := (12 : Int32)) hx hb dX9_append_11 rfl ?_
    refine lv_icmp_lt (tgt := 18) hx hb dX9_append_13 (by decide) (fun c2 => ?_) (fun c2 => ?_)
    · have h := zz_t h c2
      refine lv_aload_n hx hb dX9_append_18 rfl (lv_at hl 0 rfl) ?_
      refine va_get (D := D) (ci := 9) (C := RX9) (T := TX9) (N := 5) hx hb hts qX9_append_X9 hown hK hP 0 rfl rfl 0 (by decide) (hts _ kX9_append_2) (fun _ h9 => h9) rfl dX9_append_19 ?_
      refine lv_aload_n hx hb dX9_append_22 rfl (lv_at hl 0 rfl) ?_
      refine va_get (D := D) (ci := 9) (C := RX9) (T := TX9) (N := 5) hx hb hts qX9_append_X9 hown hK hP 0 rfl rfl 4 (by decide) (hts _ kX9_append_0) (fun _ h9 => h9) rfl dX9_append_23 ?_
      refine lv_iload_n hx hb dX9_append_26 rfl (lv_at hl 1 rfl) ?_
      obtain ⟨i3, h⟩ := zz_i h
      refine va_iast hx hb hK hP hD hS 4 1 rfl rfl i3 dX9_append_27 (fun H locs hP hD hS => ?_)
      have hP : va_P D vwCl [(a_t, .inr (9, [.ref a_t_places, .ref a_t_bearings, .ref a_t_cuts, .ref a_t_deaths, .int t_mats])), (a_t_bearings, .inl (cI, 12, .inl t_bearings)), (a_t_cuts, .inl (cI, 12, .inl t_cuts)), (a_t_deaths, .inl (cZ, 12, .inl t_deaths)), (a_t_places, .inl (cI, 12, .inl (upd t_places (t_mats).toNatClampNeg x1)))] H := hP
      have hD : va_D A [(a_t, .inr (9, [.ref a_t_places, .ref a_t_bearings, .ref a_t_cuts, .ref a_t_deaths, .int t_mats])), (a_t_bearings, .inl (cI, 12, .inl t_bearings)), (a_t_cuts, .inl (cI, 12, .inl t_cuts)), (a_t_deaths, .inl (cZ, 12, .inl t_deaths)), (a_t_places, .inl (cI, 12, .inl (upd t_places (t_mats).toNatClampNeg x1)))] := hD
      refine lv_aload_n hx hb dX9_append_28 rfl (lv_at hl 0 rfl) ?_
      refine va_get (D := D) (ci := 9) (C := RX9) (T := TX9) (N := 5) hx hb hts qX9_append_X9 hown hK hP 0 rfl rfl 1 (by decide) (hts _ kX9_append_3) (fun _ h9 => h9) rfl dX9_append_29 ?_
      refine lv_aload_n hx hb dX9_append_32 rfl (lv_at hl 0 rfl) ?_
      refine va_get (D := D) (ci := 9) (C := RX9) (T := TX9) (N := 5) hx hb hts qX9_append_X9 hown hK hP 0 rfl rfl 4 (by decide) (hts _ kX9_append_0) (fun _ h9 => h9) rfl dX9_append_33 ?_
      refine lv_iload_n hx hb dX9_append_36 rfl (lv_at hl 2 rfl) ?_
      obtain ⟨i4, h⟩ := zz_i h
      refine va_iast hx hb hK hP hD hS 1 1 rfl rfl i4 dX9_append_37 (fun H locs hP hD hS => ?_)
      have hP : va_P D vwCl [(a_t, .inr (9, [.ref a_t_places, .ref a_t_bearings, .ref a_t_cuts, .ref a_t_deaths, .int t_mats])), (a_t_bearings, .inl (cI, 12, .inl (upd t_bearings (t_mats).toNatClampNeg x2))), (a_t_cuts, .inl (cI, 12, .inl t_cuts)), (a_t_deaths, .inl (cZ, 12, .inl t_deaths)), (a_t_places, .inl (cI, 12, .inl (upd t_places (t_mats).toNatClampNeg x1)))] H := hP
      have hD : va_D A [(a_t, .inr (9, [.ref a_t_places, .ref a_t_bearings, .ref a_t_cuts, .ref a_t_deaths, .int t_mats])), (a_t_bearings, .inl (cI, 12, .inl (upd t_bearings (t_mats).toNatClampNeg x2))), (a_t_cuts, .inl (cI, 12, .inl t_cuts)), (a_t_deaths, .inl (cZ, 12, .inl t_deaths)), (a_t_places, .inl (cI, 12, .inl (upd t_places (t_mats).toNatClampNeg x1)))] := hD
      refine lv_aload_n hx hb dX9_append_38 rfl (lv_at hl 0 rfl) ?_
      refine va_get (D := D) (ci := 9) (C := RX9) (T := TX9) (N := 5) hx hb hts qX9_append_X9 hown hK hP 0 rfl rfl 2 (by decide) (hts _ kX9_append_4) (fun _ h9 => h9) rfl dX9_append_39 ?_
      refine lv_aload_n hx hb dX9_append_42 rfl (lv_at hl 0 rfl) ?_
      refine va_get (D := D) (ci := 9) (C := RX9) (T := TX9) (N := 5) hx hb hts qX9_append_X9 hown hK hP 0 rfl rfl 4 (by decide) (hts _ kX9_append_0) (fun _ h9 => h9) rfl dX9_append_43 ?_
      refine lv_iconst (v := (-1 : Int32)) hx hb dX9_append_46 rfl ?_
      obtain ⟨i5, h⟩ := zz_i h
      refine va_iast hx hb hK hP hD hS 2 1 rfl rfl i5 dX9_append_47 (fun H locs hP hD hS => ?_)
      have hP : va_P D vwCl [(a_t, .inr (9, [.ref a_t_places, .ref a_t_bearings, .ref a_t_cuts, .ref a_t_deaths, .int t_mats])), (a_t_bearings, .inl (cI, 12, .inl (upd t_bearings (t_mats).toNatClampNeg x2))), (a_t_cuts, .inl (cI, 12, .inl (upd t_cuts (t_mats).toNatClampNeg (-1 : Int32)))), (a_t_deaths, .inl (cZ, 12, .inl t_deaths)), (a_t_places, .inl (cI, 12, .inl (upd t_places (t_mats).toNatClampNeg x1)))] H := hP
      have hD : va_D A [(a_t, .inr (9, [.ref a_t_places, .ref a_t_bearings, .ref a_t_cuts, .ref a_t_deaths, .int t_mats])), (a_t_bearings, .inl (cI, 12, .inl (upd t_bearings (t_mats).toNatClampNeg x2))), (a_t_cuts, .inl (cI, 12, .inl (upd t_cuts (t_mats).toNatClampNeg (-1 : Int32)))), (a_t_deaths, .inl (cZ, 12, .inl t_deaths)), (a_t_places, .inl (cI, 12, .inl (upd t_places (t_mats).toNatClampNeg x1)))] := hD
      refine lv_aload_n hx hb dX9_append_48 rfl (lv_at hl 0 rfl) ?_
      refine va_get (D := D) (ci := 9) (C := RX9) (T := TX9) (N := 5) hx hb hts qX9_append_X9 hown hK hP 0 rfl rfl 3 (by decide) (hts _ kX9_append_5) (fun _ h9 => h9) rfl dX9_append_49 ?_
      refine lv_aload_n hx hb dX9_append_52 rfl (lv_at hl 0 rfl) ?_
      refine va_get (D := D) (ci := 9) (C := RX9) (T := TX9) (N := 5) hx hb hts qX9_append_X9 hown hK hP 0 rfl rfl 4 (by decide) (hts _ kX9_append_0) (fun _ h9 => h9) rfl dX9_append_53 ?_
      refine lv_iconst (v := (0 : Int32)) hx hb dX9_append_56 rfl ?_
      obtain ⟨i6, h⟩ := zz_i h
      refine va_zast hx hb hK hP hD hS 3 2 rfl rfl i6 dX9_append_57 (fun H locs hP hD hS => ?_)
      have hP : va_P D vwCl [(a_t, .inr (9, [.ref a_t_places, .ref a_t_bearings, .ref a_t_cuts, .ref a_t_deaths, .int t_mats])), (a_t_bearings, .inl (cI, 12, .inl (upd t_bearings (t_mats).toNatClampNeg x2))), (a_t_cuts, .inl (cI, 12, .inl (upd t_cuts (t_mats).toNatClampNeg (-1 : Int32)))), (a_t_deaths, .inl (cZ, 12, .inl (upd t_deaths (t_mats).toNatClampNeg (vp_nar .boolean (0 : Int32))))), (a_t_places, .inl (cI, 12, .inl (upd t_places (t_mats).toNatClampNeg x1)))] H := hP
      have hD : va_D A [(a_t, .inr (9, [.ref a_t_places, .ref a_t_bearings, .ref a_t_cuts, .ref a_t_deaths, .int t_mats])), (a_t_bearings, .inl (cI, 12, .inl (upd t_bearings (t_mats).toNatClampNeg x2))), (a_t_cuts, .inl (cI, 12, .inl (upd t_cuts (t_mats).toNatClampNeg (-1 : Int32)))), (a_t_deaths, .inl (cZ, 12, .inl (upd t_deaths (t_mats).toNatClampNeg (vp_nar .boolean (0 : Int32))))), (a_t_places, .inl (cI, 12, .inl (upd t_places (t_mats).toNatClampNeg x1)))] := hD
      refine lv_aload_n hx hb dX9_append_58 rfl (lv_at hl 0 rfl) ?_
      refine lv_dup hx hb dX9_append_59 rfl ?_
      refine va_get (D := D) (ci := 9) (C := RX9) (T := TX9) (N := 5) hx hb hts qX9_append_X9 hown hK hP 0 rfl rfl 4 (by decide) (hts _ kX9_append_0) (fun _ h9 => h9) rfl dX9_append_60 ?_
      refine lv_iconst (v := (1 : Int32)) hx hb dX9_append_63 rfl ?_
      refine lv_iadd hx hb dX9_append_64 ?_
      refine va_put (D := D) (ci := 9) (ty := .int) (C := RX9) (T := TX9) (N := 5) hx hb hts qX9_append_X9 tyX9 tyX9_ok nmX9 hown hK hP hD hS 0 rfl rfl 4 (by decide) (hts _ kX9_append_0) (fun _ h9 => h9) rfl (by decide +kernel) rfl (by first | rfl | exact zz_fit) (Nat.le_of_ble_eq_true rfl) dX9_append_65 (fun H locs hP hD hS => ?_)
      have hP : va_P D vwCl [(a_t, .inr (9, [.ref a_t_places, .ref a_t_bearings, .ref a_t_cuts, .ref a_t_deaths, .int (t_mats + (1 : Int32))])), (a_t_bearings, .inl (cI, 12, .inl (upd t_bearings (t_mats).toNatClampNeg x2))), (a_t_cuts, .inl (cI, 12, .inl (upd t_cuts (t_mats).toNatClampNeg (-1 : Int32)))), (a_t_deaths, .inl (cZ, 12, .inl (upd t_deaths (t_mats).toNatClampNeg (vp_nar .boolean (0 : Int32))))), (a_t_places, .inl (cI, 12, .inl (upd t_places (t_mats).toNatClampNeg x1)))] H := hP
      have hD : va_D A [(a_t, .inr (9, [.ref a_t_places, .ref a_t_bearings, .ref a_t_cuts, .ref a_t_deaths, .int (t_mats + (1 : Int32))])), (a_t_bearings, .inl (cI, 12, .inl (upd t_bearings (t_mats).toNatClampNeg x2))), (a_t_cuts, .inl (cI, 12, .inl (upd t_cuts (t_mats).toNatClampNeg (-1 : Int32)))), (a_t_deaths, .inl (cZ, 12, .inl (upd t_deaths (t_mats).toNatClampNeg (vp_nar .boolean (0 : Int32))))), (a_t_places, .inl (cI, 12, .inl (upd t_places (t_mats).toNatClampNeg x1)))] := hD
      refine lv_aload_n hx hb dX9_append_68 rfl (lv_at hl 0 rfl) ?_
      refine va_get (D := D) (ci := 9) (C := RX9) (T := TX9) (N := 5) hx hb hts qX9_append_X9 hown hK hP 0 rfl rfl 4 (by decide) (hts _ kX9_append_0) (fun _ h9 => h9) rfl dX9_append_69 ?_
      refine lv_iconst (v := (1 : Int32)) hx hb dX9_append_72 rfl ?_
      refine lv_isub hx hb dX9_append_73 ?_
      obtain ⟨j0_, g_⟩ := Prod.mk.inj (Option.some.inj h)
      obtain ⟨j1_, g_⟩ := Prod.mk.inj g_
      obtain ⟨j2_, g_⟩ := Prod.mk.inj g_
      obtain ⟨j3_, g_⟩ := Prod.mk.inj g_
      obtain ⟨j4_, g_⟩ := Prod.mk.inj g_
      have j5_ := g_
      subst j0_
      subst j1_
      subst j2_
      subst j3_
      subst j4_
      subst j5_
      exact W.iret (v := ((t_mats + (1 : Int32)) - (1 : Int32))) hx hb hr (fun t ht hW => ⟨⟨_, (), rfl, rfl, zPost.of hP hD hK ht hW [0, 1, 2, 3, 4] rfl rfl rfl⟩, hS.F ht⟩) hS.2.2 dX9_append_74
    · have h := zz_f h c2
      refine lv_iconst (v := (-1 : Int32)) hx hb dX9_append_16 rfl ?_
      obtain ⟨j0_, g_⟩ := Prod.mk.inj (Option.some.inj h)
      obtain ⟨j1_, g_⟩ := Prod.mk.inj g_
      obtain ⟨j2_, g_⟩ := Prod.mk.inj g_
      obtain ⟨j3_, g_⟩ := Prod.mk.inj g_
      obtain ⟨j4_, g_⟩ := Prod.mk.inj g_
      have j5_ := g_
      subst j0_
      subst j1_
      subst j2_
      subst j3_
      subst j4_
      subst j5_
      exact W.iret (v := (-1 : Int32)) hx hb hr (fun t ht hW => ⟨⟨_, (), rfl, rfl, zPost.of hP hD hK ht hW [0, 1, 2, 3, 4] rfl rfl rfl⟩, hS.F ht⟩) hS.2.2 dX9_append_17
/-! RunDesk$Way.copyFrom -/
theorem dX9_copyFrom_0 : decode cX9_copyFrom 0 = .ok (.aload_n 1, 1) := by decide +kernel
theorem dX9_copyFrom_1 : decode cX9_copyFrom 1 = .ok (.getfield 9, 3) := by decide +kernel
theorem dX9_copyFrom_4 : decode cX9_copyFrom 4 = .ok (.iconst 0, 1) := by decide +kernel
theorem dX9_copyFrom_5 : decode cX9_copyFrom 5 = .ok (.aload_n 0, 1) := by decide +kernel
theorem dX9_copyFrom_6 : decode cX9_copyFrom 6 = .ok (.getfield 9, 3) := by decide +kernel
theorem dX9_copyFrom_9 : decode cX9_copyFrom 9 = .ok (.iconst 0, 1) := by decide +kernel
theorem dX9_copyFrom_10 : decode cX9_copyFrom 10 = .ok (.bipush 12, 2) := by decide +kernel
theorem dX9_copyFrom_12 : decode cX9_copyFrom 12 = .ok (.invokestatic 37, 3) := by decide +kernel
theorem dX9_copyFrom_15 : decode cX9_copyFrom 15 = .ok (.aload_n 1, 1) := by decide +kernel
theorem dX9_copyFrom_16 : decode cX9_copyFrom 16 = .ok (.getfield 15, 3) := by decide +kernel
theorem dX9_copyFrom_19 : decode cX9_copyFrom 19 = .ok (.iconst 0, 1) := by decide +kernel
theorem dX9_copyFrom_20 : decode cX9_copyFrom 20 = .ok (.aload_n 0, 1) := by decide +kernel
theorem dX9_copyFrom_21 : decode cX9_copyFrom 21 = .ok (.getfield 15, 3) := by decide +kernel
theorem dX9_copyFrom_24 : decode cX9_copyFrom 24 = .ok (.iconst 0, 1) := by decide +kernel
theorem dX9_copyFrom_25 : decode cX9_copyFrom 25 = .ok (.bipush 12, 2) := by decide +kernel
theorem dX9_copyFrom_27 : decode cX9_copyFrom 27 = .ok (.invokestatic 37, 3) := by decide +kernel
theorem dX9_copyFrom_30 : decode cX9_copyFrom 30 = .ok (.aload_n 1, 1) := by decide +kernel
theorem dX9_copyFrom_31 : decode cX9_copyFrom 31 = .ok (.getfield 18, 3) := by decide +kernel
theorem dX9_copyFrom_34 : decode cX9_copyFrom 34 = .ok (.iconst 0, 1) := by decide +kernel
theorem dX9_copyFrom_35 : decode cX9_copyFrom 35 = .ok (.aload_n 0, 1) := by decide +kernel
theorem dX9_copyFrom_36 : decode cX9_copyFrom 36 = .ok (.getfield 18, 3) := by decide +kernel
theorem dX9_copyFrom_39 : decode cX9_copyFrom 39 = .ok (.iconst 0, 1) := by decide +kernel
theorem dX9_copyFrom_40 : decode cX9_copyFrom 40 = .ok (.bipush 12, 2) := by decide +kernel
theorem dX9_copyFrom_42 : decode cX9_copyFrom 42 = .ok (.invokestatic 37, 3) := by decide +kernel
theorem dX9_copyFrom_45 : decode cX9_copyFrom 45 = .ok (.iconst 0, 1) := by decide +kernel
theorem dX9_copyFrom_46 : decode cX9_copyFrom 46 = .ok (.istore_n 2, 1) := by decide +kernel
theorem dX9_copyFrom_47 : decode cX9_copyFrom 47 = .ok (.iload_n 2, 1) := by decide +kernel
theorem dX9_copyFrom_48 : decode cX9_copyFrom 48 = .ok (.bipush 12, 2) := by decide +kernel
theorem dX9_copyFrom_50 : decode cX9_copyFrom 50 = .ok (.if_icmp .ge 21, 3) := by decide +kernel
theorem dX9_copyFrom_53 : decode cX9_copyFrom 53 = .ok (.aload_n 0, 1) := by decide +kernel
theorem dX9_copyFrom_54 : decode cX9_copyFrom 54 = .ok (.getfield 21, 3) := by decide +kernel
theorem dX9_copyFrom_57 : decode cX9_copyFrom 57 = .ok (.iload_n 2, 1) := by decide +kernel
theorem dX9_copyFrom_58 : decode cX9_copyFrom 58 = .ok (.aload_n 1, 1) := by decide +kernel
theorem dX9_copyFrom_59 : decode cX9_copyFrom 59 = .ok (.getfield 21, 3) := by decide +kernel
theorem dX9_copyFrom_62 : decode cX9_copyFrom 62 = .ok (.iload_n 2, 1) := by decide +kernel
theorem dX9_copyFrom_63 : decode cX9_copyFrom 63 = .ok (.baload, 1) := by decide +kernel
theorem dX9_copyFrom_64 : decode cX9_copyFrom 64 = .ok (.bastore, 1) := by decide +kernel
theorem dX9_copyFrom_65 : decode cX9_copyFrom 65 = .ok (.iinc 2 1, 3) := by decide +kernel
theorem dX9_copyFrom_68 : decode cX9_copyFrom 68 = .ok (.goto (-21), 3) := by decide +kernel
theorem dX9_copyFrom_71 : decode cX9_copyFrom 71 = .ok (.aload_n 0, 1) := by decide +kernel
theorem dX9_copyFrom_72 : decode cX9_copyFrom 72 = .ok (.aload_n 1, 1) := by decide +kernel
theorem dX9_copyFrom_73 : decode cX9_copyFrom 73 = .ok (.getfield 25, 3) := by decide +kernel
theorem dX9_copyFrom_76 : decode cX9_copyFrom 76 = .ok (.putfield 25, 3) := by decide +kernel
theorem dX9_copyFrom_79 : decode cX9_copyFrom 79 = .ok (.return_, 1) := by decide +kernel
def fX9_copyFrom_L47 (p1_deaths : Nat → Int32) (K47_71 : Int32 → (Nat → Int32) → Option (Int32 × (Nat → Int32) × (Nat → Int32) × (Nat → Int32) × (Nat → Int32))) : Nat → Int32 → (Nat → Int32) → Option (Int32 × (Nat → Int32) × (Nat → Int32) × (Nat → Int32) × (Nat → Int32))
  | 0, _, _ => none
  | n47 + 1, v2_47, t_deaths_47 => (if (12 : Int32) ≤ v2_47 then (K47_71 v2_47 t_deaths_47) else (if zin v2_47 12 then (if zin v2_47 12 then (fX9_copyFrom_L47 p1_deaths K47_71 n47 (v2_47 + (1 : Int32)) (upd t_deaths_47 (v2_47).toNatClampNeg (vp_nar .boolean (p1_deaths (v2_47).toNatClampNeg)))) else none) else none))
def fX9_copyFrom (N : Nat) (t_mats : Int32) (t_bearings : Nat → Int32) (t_cuts : Nat → Int32) (t_deaths : Nat → Int32) (t_places : Nat → Int32) (p1_mats : Int32) (p1_bearings : Nat → Int32) (p1_cuts : Nat → Int32) (p1_deaths : Nat → Int32) (p1_places : Nat → Int32) : Option (Int32 × (Nat → Int32) × (Nat → Int32) × (Nat → Int32) × (Nat → Int32)) := fX9_copyFrom_L47 p1_deaths (fun (v2_47 : Int32) (t_deaths_47 : Nat → Int32) => some (p1_mats, (va_cpy p1_bearings t_bearings 0 0 12), (va_cpy p1_cuts t_cuts 0 0 12), t_deaths_47, (va_cpy p1_places t_places 0 0 12))) N (0 : Int32) t_deaths
theorem kX9_copyFrom_0 : (.fieldLink RX9 9 "RunDesk$Way" "places" "[I" : Cond) ∈ wsX9_copyFrom := List.mem_of_getElem? (i := 1) (by decide +kernel)
theorem qX9_copyFrom_X9 : ∀ w ∈ wsX90, w ∈ wsX9_copyFrom := fun _ h => List.mem_cons_of_mem _ (List.mem_append_right _ (h))
theorem kX9_copyFrom_2 : (.methodLink RX9 37 arraycopyName : Cond) ∈ wsX9_copyFrom := List.mem_of_getElem? (i := 2) (by decide +kernel)
theorem kX9_copyFrom_3 : (.native arraycopyName : Cond) ∈ wsX9_copyFrom := List.mem_of_getElem? (i := 3) (by decide +kernel)
theorem kX9_copyFrom_4 : (.static arraycopyName : Cond) ∈ wsX9_copyFrom := List.mem_of_getElem? (i := 4) (by decide +kernel)
theorem kX9_copyFrom_5 : (.initialized "java/lang/System" : Cond) ∈ wsX9_copyFrom := List.mem_of_getElem? (i := 5) (by decide +kernel)
theorem kX9_copyFrom_6 : (.fieldLink RX9 15 "RunDesk$Way" "bearings" "[I" : Cond) ∈ wsX9_copyFrom := List.mem_of_getElem? (i := 6) (by decide +kernel)
theorem kX9_copyFrom_7 : (.fieldLink RX9 18 "RunDesk$Way" "cuts" "[I" : Cond) ∈ wsX9_copyFrom := List.mem_of_getElem? (i := 7) (by decide +kernel)
theorem kX9_copyFrom_8 : (.fieldLink RX9 25 "RunDesk$Way" "mats" "I" : Cond) ∈ wsX9_copyFrom := List.mem_of_getElem? (i := 9) (by decide +kernel)
theorem kX9_copyFrom_9 : (.fieldLink RX9 21 "RunDesk$Way" "deaths" "[Z" : Cond) ∈ wsX9_copyFrom := List.mem_of_getElem? (i := 8) (by decide +kernel)
set_option maxHeartbeats 4000000 in
set_option maxRecDepth 100000 in
theorem mX9_copyFrom (l : Launch) (D : va_G) (cB cI cZ : ClassId) (a_t : Nat) (a_p1 : Nat) (a_t_places : Nat) (a_t_bearings : Nat) (a_t_cuts : Nat) (a_t_deaths : Nat) (a_p1_places : Nat) (a_p1_bearings : Nat) (a_p1_cuts : Nat) (a_p1_deaths : Nat) (t_mats : Int32) (t_bearings : Nat → Int32) (t_cuts : Nat → Int32) (t_deaths : Nat → Int32) (t_places : Nat → Int32) (p1_mats : Int32) (p1_bearings : Nat → Int32) (p1_cuts : Nat → Int32) (p1_deaths : Nat → Int32) (p1_places : Nat → Int32) (sz : Nat) (N : Nat) (t_mats' : Int32) (t_bearings' : Nat → Int32) (t_cuts' : Nat → Int32) (t_deaths' : Nat → Int32) (t_places' : Nat → Int32) (h : fX9_copyFrom N t_mats t_bearings t_cuts t_deaths t_places p1_mats p1_bearings p1_cuts p1_deaths p1_places = some (t_mats', t_bearings', t_cuts', t_deaths', t_places')) : Met l yX9_copyFrom wsX9_copyFrom ({ frames := 1, cells := 0, slots := 0, locals := 60 } : Room) (va_Pc [.ref a_t, .ref a_p1] (zPre D (zT cB cI cZ) [(a_t, .inr (9, [.ref a_t_places, .ref a_t_bearings, .ref a_t_cuts, .ref a_t_deaths, .int t_mats])), (a_t_bearings, .inl (cI, 12, .inl t_bearings)), (a_t_cuts, .inl (cI, 12, .inl t_cuts)), (a_t_deaths, .inl (cZ, 12, .inl t_deaths)), (a_t_places, .inl (cI, 12, .inl t_places)), (a_p1, .inr (9, [.ref a_p1_places, .ref a_p1_bearings, .ref a_p1_cuts, .ref a_p1_deaths, .int p1_mats])), (a_p1_bearings, .inl (cI, 12, .inl p1_bearings)), (a_p1_cuts, .inl (cI, 12, .inl p1_cuts)), (a_p1_deaths, .inl (cZ, 12, .inl p1_deaths)), (a_p1_places, .inl (cI, 12, .inl p1_places))] sz)) (zQv D (zT cB cI cZ) [(a_t, .inr (9, [.ref a_t_places, .ref a_t_bearings, .ref a_t_cuts, .ref a_t_deaths, .int t_mats'])), (a_t_bearings, .inl (cI, 12, .inl t_bearings')), (a_t_cuts, .inl (cI, 12, .inl t_cuts')), (a_t_deaths, .inl (cZ, 12, .inl t_deaths')), (a_t_places, .inl (cI, 12, .inl t_places')), (a_p1, .inr (9, [.ref a_p1_places, .ref a_p1_bearings, .ref a_p1_cuts, .ref a_p1_deaths, .int p1_mats])), (a_p1_bearings, .inl (cI, 12, .inl p1_bearings)), (a_p1_cuts, .inl (cI, 12, .inl p1_cuts)), (a_p1_deaths, .inl (cZ, 12, .inl p1_deaths)), (a_p1_places, .inl (cI, 12, .inl p1_places))] (va_A [(a_t, .inr (9, [.ref a_t_places, .ref a_t_bearings, .ref a_t_cuts, .ref a_t_deaths, .int t_mats])), (a_t_bearings, .inl (cI, 12, .inl t_bearings)), (a_t_cuts, .inl (cI, 12, .inl t_cuts)), (a_t_deaths, .inl (cZ, 12, .inl t_deaths)), (a_t_places, .inl (cI, 12, .inl t_places)), (a_p1, .inr (9, [.ref a_p1_places, .ref a_p1_bearings, .ref a_p1_cuts, .ref a_p1_deaths, .int p1_mats])), (a_p1_bearings, .inl (cI, 12, .inl p1_bearings)), (a_p1_cuts, .inl (cI, 12, .inl p1_cuts)), (a_p1_deaths, .inl (cZ, 12, .inl p1_deaths)), (a_p1_places, .inl (cI, 12, .inl p1_places))] sz)) 0 0 (va_A [(a_t, .inr (9, [.ref a_t_places, .ref a_t_bearings, .ref a_t_cuts, .ref a_t_deaths, .int t_mats])), (a_t_bearings, .inl (cI, 12, .inl t_bearings)), (a_t_cuts, .inl (cI, 12, .inl t_cuts)), (a_t_deaths, .inl (cZ, 12, .inl t_deaths)), (a_t_places, .inl (cI, 12, .inl t_places)), (a_p1, .inr (9, [.ref a_p1_places, .ref a_p1_bearings, .ref a_p1_cuts, .ref a_p1_deaths, .int p1_mats])), (a_p1_bearings, .inl (cI, 12, .inl p1_bearings)), (a_p1_cuts, .inl (cI, 12, .inl p1_cuts)), (a_p1_deaths, .inl (cZ, 12, .inl p1_deaths)), (a_p1_places, .inl (cI, 12, .inl p1_places))] sz) := by
  refine Met.ofW (cc := cX9_copyFrom) (maxL := 3) (ret := none) (by decide) rfl ?_
  intro p e s m args below meth c s₁ B hml hv
  obtain ⟨rfl, hsz, hP, hK, hN, hD0⟩ := hv
  have hx := B.exec
  have hb := B.bytes
  have hr := B.returns
  have hts := atoms_spec (ws := wsX9_copyFrom) B.pre
  have hown : s.vm.findClass RX9 = some m.cls := findClass_of_methodNamed B.named
  have hlocks := B.notSynchronized
  subst hsz
  have hD := hD0.self (sz := s.heap.size)
  generalize hAe : va_A [(a_t, .inr (9, [.ref a_t_places, .ref a_t_bearings, .ref a_t_cuts, .ref a_t_deaths, .int t_mats])), (a_t_bearings, .inl (cI, 12, .inl t_bearings)), (a_t_cuts, .inl (cI, 12, .inl t_cuts)), (a_t_deaths, .inl (cZ, 12, .inl t_deaths)), (a_t_places, .inl (cI, 12, .inl t_places)), (a_p1, .inr (9, [.ref a_p1_places, .ref a_p1_bearings, .ref a_p1_cuts, .ref a_p1_deaths, .int p1_mats])), (a_p1_bearings, .inl (cI, 12, .inl p1_bearings)), (a_p1_cuts, .inl (cI, 12, .inl p1_cuts)), (a_p1_deaths, .inl (cZ, 12, .inl p1_deaths)), (a_p1_places, .inl (cI, 12, .inl p1_places))] s.heap.size = A at hD ⊢
  have hA : ∀ q : Nat, s.heap.size ≤ q → A q := fun q h => by rw [← hAe]; exact Or.inr h
  have hS : va_S A s.heap s.heap [] := va_S.rf
  have hl := lv_entry ([.ref a_t, .ref a_p1]) (n := 3) (Nat.le_of_ble_eq_true rfl)
  rw [lg_entry_eq]
  generalize (lg_sl ([.ref a_t, .ref a_p1]) ++ List.replicate (3 - (lg_sl ([.ref a_t, .ref a_p1])).length) Slot.unset).toArray = ls at hl ⊢
  have hl : lv_has ls 3 [(0, .ref a_t), (1, .ref a_p1)] := hl
  unfold fX9_copyFrom at h
  refine lv_aload_n hx hb dX9_copyFrom_0 rfl (lv_at hl 1 rfl) ?_
  refine va_get (D := D) (ci := 9) (C := RX9) (T := TX9) (N := 5) hx hb hts qX9_copyFrom_X9 hown hK hP 5 rfl rfl 0 (by decide) (hts _ kX9_copyFrom_0) (fun _ h9 => h9) rfl dX9_copyFrom_1 ?_
  refine lv_iconst (v := (0 : Int32)) hx hb dX9_copyFrom_4 rfl ?_
  refine lv_aload_n hx hb dX9_copyFrom_5 rfl (lv_at hl 0 rfl) ?_
  refine va_get (D := D) (ci := 9) (C := RX9) (T := TX9) (N := 5) hx hb hts qX9_copyFrom_X9 hown hK hP 0 rfl rfl 0 (by decide) (hts _ kX9_copyFrom_0) (fun _ h9 => h9) rfl dX9_copyFrom_6 ?_
  refine lv_iconst (v := (0 : Int32)) hx hb dX9_copyFrom_9 rfl ?_
  refine lv_bipush (v := (12 : Int32)) hx hb dX9_copyFrom_10 rfl ?_
  refine va_copyi (ty := .int) hx hb (hml.trans hl.1.symm) hown (hts _ kX9_copyFrom_2) (hts _ kX9_copyFrom_3) (hts _ kX9_copyFrom_4) (hts _ kX9_copyFrom_5) hK hP hD hS 9 4 1 1 rfl rfl rfl rfl rfl (by decide) (by decide) (by decide) (by decide) (by decide) (fun _ _ => rfl) (Nat.le_of_ble_eq_true rfl) (Nat.le_of_ble_eq_true rfl) dX9_copyFrom_12 (fun H locs hP hD hS => ?_)
  have hP : va_P D vwCl [(a_t, .inr (9, [.ref a_t_places, .ref a_t_bearings, .ref a_t_cuts, .ref a_t_deaths, .int t_mats])), (a_t_bearings, .inl (cI, 12, .inl t_bearings)), (a_t_cuts, .inl (cI, 12, .inl t_cuts)), (a_t_deaths, .inl (cZ, 12, .inl t_deaths)), (a_t_places, .inl (cI, 12, .inl (va_cpy p1_places t_places 0 0 12))), (a_p1, .inr (9, [.ref a_p1_places, .ref a_p1_bearings, .ref a_p1_cuts, .ref a_p1_deaths, .int p1_mats])), (a_p1_bearings, .inl (cI, 12, .inl p1_bearings)), (a_p1_cuts, .inl (cI, 12, .inl p1_cuts)), (a_p1_deaths, .inl (cZ, 12, .inl p1_deaths)), (a_p1_places, .inl (cI, 12, .inl p1_places))] H := hP
  have hD : va_D A [(a_t, .inr (9, [.ref a_t_places, .ref a_t_bearings, .ref a_t_cuts, .ref a_t_deaths, .int t_mats])), (a_t_bearings, .inl (cI, 12, .inl t_bearings)), (a_t_cuts, .inl (cI, 12, .inl t_cuts)), (a_t_deaths, .inl (cZ, 12, .inl t_deaths)), (a_t_places, .inl (cI, 12, .inl (va_cpy p1_places t_places 0 0 12))), (a_p1, .inr (9, [.ref a_p1_places, .ref a_p1_bearings, .ref a_p1_cuts, .ref a_p1_deaths, .int p1_mats])), (a_p1_bearings, .inl (cI, 12, .inl p1_bearings)), (a_p1_cuts, .inl (cI, 12, .inl p1_cuts)), (a_p1_deaths, .inl (cZ, 12, .inl p1_deaths)), (a_p1_places, .inl (cI, 12, .inl p1_places))] := hD
  refine lv_aload_n hx hb dX9_copyFrom_15 rfl (lv_at hl 1 rfl) ?_
  refine va_get (D := D) (ci := 9) (C := RX9) (T := TX9) (N := 5) hx hb hts qX9_copyFrom_X9 hown hK hP 5 rfl rfl 1 (by decide) (hts _ kX9_copyFrom_6) (fun _ h9 => h9) rfl dX9_copyFrom_16 ?_
  refine lv_iconst (v := (0 : Int32)) hx hb dX9_copyFrom_19 rfl ?_
  refine lv_aload_n hx hb dX9_copyFrom_20 rfl (lv_at hl 0 rfl) ?_
  refine va_get (D := D) (ci := 9) (C := RX9) (T := TX9) (N := 5) hx hb hts qX9_copyFrom_X9 hown hK hP 0 rfl rfl 1 (by decide) (hts _ kX9_copyFrom_6) (fun _ h9 => h9) rfl dX9_copyFrom_21 ?_
  refine lv_iconst (v := (0 : Int32)) hx hb dX9_copyFrom_24 rfl ?_
  refine lv_bipush (v := (12 : Int32)) hx hb dX9_copyFrom_25 rfl ?_
  refine va_copyi (ty := .int) hx hb (hml.trans hl.1.symm) hown (hts _ kX9_copyFrom_2) (hts _ kX9_copyFrom_3) (hts _ kX9_copyFrom_4) (hts _ kX9_copyFrom_5) hK hP hD hS 6 1 1 1 rfl rfl rfl rfl rfl (by decide) (by decide) (by decide) (by decide) (by decide) (fun _ _ => rfl) (Nat.le_of_ble_eq_true rfl) (Nat.le_of_ble_eq_true rfl) dX9_copyFrom_27 (fun H locs hP hD hS => ?_)
  have hP : va_P D vwCl [(a_t, .inr (9, [.ref a_t_places, .ref a_t_bearings, .ref a_t_cuts, .ref a_t_deaths, .int t_mats])), (a_t_bearings, .inl (cI, 12, .inl (va_cpy p1_bearings t_bearings 0 0 12))), (a_t_cuts, .inl (cI, 12, .inl t_cuts)), (a_t_deaths, .inl (cZ, 12, .inl t_deaths)), (a_t_places, .inl (cI, 12, .inl (va_cpy p1_places t_places 0 0 12))), (a_p1, .inr (9, [.ref a_p1_places, .ref a_p1_bearings, .ref a_p1_cuts, .ref a_p1_deaths, .int p1_mats])), (a_p1_bearings, .inl (cI, 12, .inl p1_bearings)), (a_p1_cuts, .inl (cI, 12, .inl p1_cuts)), (a_p1_deaths, .inl (cZ, 12, .inl p1_deaths)), (a_p1_places, .inl (cI, 12, .inl p1_places))] H := hP
  have hD : va_D A [(a_t, .inr (9, [.ref a_t_places, .ref a_t_bearings, .ref a_t_cuts, .ref a_t_deaths, .int t_mats])), (a_t_bearings, .inl (cI, 12, .inl (va_cpy p1_bearings t_bearings 0 0 12))), (a_t_cuts, .inl (cI, 12, .inl t_cuts)), (a_t_deaths, .inl (cZ, 12, .inl t_deaths)), (a_t_places, .inl (cI, 12, .inl (va_cpy p1_places t_places 0 0 12))), (a_p1, .inr (9, [.ref a_p1_places, .ref a_p1_bearings, .ref a_p1_cuts, .ref a_p1_deaths, .int p1_mats])), (a_p1_bearings, .inl (cI, 12, .inl p1_bearings)), (a_p1_cuts, .inl (cI, 12, .inl p1_cuts)), (a_p1_deaths, .inl (cZ, 12, .inl p1_deaths)), (a_p1_places, .inl (cI, 12, .inl p1_places))] := hD
  refine lv_aload_n hx hb dX9_copyFrom_30 rfl (lv_at hl 1 rfl) ?_
  refine va_get (D := D) (ci := 9) (C := RX9) (T := TX9) (N := 5) hx hb hts qX9_copyFrom_X9 hown hK hP 5 rfl rfl 2 (by decide) (hts _ kX9_copyFrom_7) (fun _ h9 => h9) rfl dX9_copyFrom_31 ?_
  refine lv_iconst (v := (0 : Int32)) hx hb dX9_copyFrom_34 rfl ?_
  refine lv_aload_n hx hb dX9_copyFrom_35 rfl (lv_at hl 0 rfl) ?_
  refine va_get (D := D) (ci := 9) (C := RX9) (T := TX9) (N := 5) hx hb hts qX9_copyFrom_X9 hown hK hP 0 rfl rfl 2 (by decide) (hts _ kX9_copyFrom_7) (fun _ h9 => h9) rfl dX9_copyFrom_36 ?_
  refine lv_iconst (v := (0 : Int32)) hx hb dX9_copyFrom_39 rfl ?_
  refine lv_bipush (v := (12 : Int32)) hx hb dX9_copyFrom_40 rfl ?_
  refine va_copyi (ty := .int) hx hb (hml.trans hl.1.symm) hown (hts _ kX9_copyFrom_2) (hts _ kX9_copyFrom_3) (hts _ kX9_copyFrom_4) (hts _ kX9_copyFrom_5) hK hP hD hS 7 2 1 1 rfl rfl rfl rfl rfl (by decide) (by decide) (by decide) (by decide) (by decide) (fun _ _ => rfl) (Nat.le_of_ble_eq_true rfl) (Nat.le_of_ble_eq_true rfl) dX9_copyFrom_42 (fun H locs hP hD hS => ?_)
  have hP : va_P D vwCl [(a_t, .inr (9, [.ref a_t_places, .ref a_t_bearings, .ref a_t_cuts, .ref a_t_deaths, .int t_mats])), (a_t_bearings, .inl (cI, 12, .inl (va_cpy p1_bearings t_bearings 0 0 12))), (a_t_cuts, .inl (cI, 12, .inl (va_cpy p1_cuts t_cuts 0 0 12))), (a_t_deaths, .inl (cZ, 12, .inl t_deaths)), (a_t_places, .inl (cI, 12, .inl (va_cpy p1_places t_places 0 0 12))), (a_p1, .inr (9, [.ref a_p1_places, .ref a_p1_bearings, .ref a_p1_cuts, .ref a_p1_deaths, .int p1_mats])), (a_p1_bearings, .inl (cI, 12, .inl p1_bearings)), (a_p1_cuts, .inl (cI, 12, .inl p1_cuts)), (a_p1_deaths, .inl (cZ, 12, .inl p1_deaths)), (a_p1_places, .inl (cI, 12, .inl p1_places))] H := hP
  have hD : va_D A [(a_t, .inr (9, [.ref a_t_places, .ref a_t_bearings, .ref a_t_cuts, .ref a_t_deaths, .int t_mats])), (a_t_bearings, .inl (cI, 12, .inl (va_cpy p1_bearings t_bearings 0 0 12))), (a_t_cuts, .inl (cI, 12, .inl (va_cpy p1_cuts t_cuts 0 0 12))), (a_t_deaths, .inl (cZ, 12, .inl t_deaths)), (a_t_places, .inl (cI, 12, .inl (va_cpy p1_places t_places 0 0 12))), (a_p1, .inr (9, [.ref a_p1_places, .ref a_p1_bearings, .ref a_p1_cuts, .ref a_p1_deaths, .int p1_mats])), (a_p1_bearings, .inl (cI, 12, .inl p1_bearings)), (a_p1_cuts, .inl (cI, 12, .inl p1_cuts)), (a_p1_deaths, .inl (cZ, 12, .inl p1_deaths)), (a_p1_places, .inl (cI, 12, .inl p1_places))] := hD
  refine lv_iconst (v := (0 : Int32)) hx hb dX9_copyFrom_45 rfl ?_
  refine lv_istore_n (lv' := [(2, .int (0 : Int32)), (0, .ref a_t), (1, .ref a_p1)]) hx hb dX9_copyFrom_46 rfl hl (by decide) rfl (fun ls hl => ?_)
  have L47 : ∀ (n : Nat) (v2_47 : Int32) (t_deaths_47 : Nat → Int32) (H : Heap) (locs : List Loc) (ls : Array Slot), fX9_copyFrom_L47 p1_deaths (fun (v2_47 : Int32) (t_deaths_47 : Nat → Int32) => some (p1_mats, (va_cpy p1_bearings t_bearings 0 0 12), (va_cpy p1_cuts t_cuts 0 0 12), t_deaths_47, (va_cpy p1_places t_places 0 0 12))) n v2_47 t_deaths_47 = some (t_mats', t_bearings', t_cuts', t_deaths', t_places') → va_P D vwCl [(a_t, .inr (9, [.ref a_t_places, .ref a_t_bearings, .ref a_t_cuts, .ref a_t_deaths, .int t_mats])), (a_t_bearings, .inl (cI, 12, .inl (va_cpy p1_bearings t_bearings 0 0 12))), (a_t_cuts, .inl (cI, 12, .inl (va_cpy p1_cuts t_cuts 0 0 12))), (a_t_deaths, .inl (cZ, 12, .inl t_deaths_47)), (a_t_places, .inl (cI, 12, .inl (va_cpy p1_places t_places 0 0 12))), (a_p1, .inr (9, [.ref a_p1_places, .ref a_p1_bearings, .ref a_p1_cuts, .ref a_p1_deaths, .int p1_mats])), (a_p1_bearings, .inl (cI, 12, .inl p1_bearings)), (a_p1_cuts, .inl (cI, 12, .inl p1_cuts)), (a_p1_deaths, .inl (cZ, 12, .inl p1_deaths)), (a_p1_places, .inl (cI, 12, .inl p1_places))] H → va_D A [(a_t, .inr (9, [.ref a_t_places, .ref a_t_bearings, .ref a_t_cuts, .ref a_t_deaths, .int t_mats])), (a_t_bearings, .inl (cI, 12, .inl (va_cpy p1_bearings t_bearings 0 0 12))), (a_t_cuts, .inl (cI, 12, .inl (va_cpy p1_cuts t_cuts 0 0 12))), (a_t_deaths, .inl (cZ, 12, .inl t_deaths_47)), (a_t_places, .inl (cI, 12, .inl (va_cpy p1_places t_places 0 0 12))), (a_p1, .inr (9, [.ref a_p1_places, .ref a_p1_bearings, .ref a_p1_cuts, .ref a_p1_deaths, .int p1_mats])), (a_p1_bearings, .inl (cI, 12, .inl p1_bearings)), (a_p1_cuts, .inl (cI, 12, .inl p1_cuts)), (a_p1_deaths, .inl (cZ, 12, .inl p1_deaths)), (a_p1_places, .inl (cI, 12, .inl p1_places))] → va_S A s.heap H locs → lv_has ls 3 [(2, .int v2_47), (0, .ref a_t), (1, .ref a_p1)] → W p l e (headSpec wsX9_copyFrom ({ frames := 1, cells := 0, slots := 0, locals := 60 } : Room)).room s m #[Value.ref a_t, Value.ref a_p1] below meth c H locs 0 0 (MQ below (zQv D (zT cB cI cZ) [(a_t, .inr (9, [.ref a_t_places, .ref a_t_bearings, .ref a_t_cuts, .ref a_t_deaths, .int t_mats'])), (a_t_bearings, .inl (cI, 12, .inl t_bearings')), (a_t_cuts, .inl (cI, 12, .inl t_cuts')), (a_t_deaths, .inl (cZ, 12, .inl t_deaths')), (a_t_places, .inl (cI, 12, .inl t_places')), (a_p1, .inr (9, [.ref a_p1_places, .ref a_p1_bearings, .ref a_p1_cuts, .ref a_p1_deaths, .int p1_mats])), (a_p1_bearings, .inl (cI, 12, .inl p1_bearings)), (a_p1_cuts, .inl (cI, 12, .inl p1_cuts)), (a_p1_deaths, .inl (cZ, 12, .inl p1_deaths)), (a_p1_places, .inl (cI, 12, .inl p1_places))] A) #[Value.ref a_t, Value.ref a_p1] s 0 0 A) (F0 m 47 ls []) := by
    intro n
    induction n with
    | zero => intro _ _ H locs ls h hP hD hS hl; cases h
    | succ n47 ih47 =>
      intro v2_47 t_deaths_47 H locs ls h hP hD hS hl
      rw [fX9_copyFrom_L47.eq_2] at h
      refine lv_iload_n hx hb dX9_copyFrom_47 rfl (lv_at hl 0 rfl) ?_
      refine lv_bipush (v := (12 : Int32)) hx hb dX9_copyFrom_48 rfl ?_
      refine lv_icmp_ge (tgt := 71) hx hb dX9_copyFrom_50 (by decide) (fun c1 => ?_) (fun c1 => ?_)
      · have h := zz_t h c1
        refine lv_aload_n hx hb dX9_copyFrom_71 rfl (lv_at hl 1 rfl) ?_
        refine lv_aload_n hx hb dX9_copyFrom_72 rfl (lv_at hl 2 rfl) ?_
        refine va_get (D := D) (ci := 9) (C := RX9) (T := TX9) (N := 5) hx hb hts qX9_copyFrom_X9 hown hK hP 5 rfl rfl 4 (by decide) (hts _ kX9_copyFrom_8) (fun _ h9 => h9) rfl dX9_copyFrom_73 ?_
        refine va_put (D := D) (ci := 9) (ty := .int) (C := RX9) (T := TX9) (N := 5) hx hb hts qX9_copyFrom_X9 tyX9 tyX9_ok nmX9 hown hK hP hD hS 0 rfl rfl 4 (by decide) (hts _ kX9_copyFrom_8) (fun _ h9 => h9) rfl (by decide +kernel) rfl (by first | rfl | exact zz_fit) (Nat.le_of_ble_eq_true rfl) dX9_copyFrom_76 (fun H locs hP hD hS => ?_)
        have hP : va_P D vwCl [(a_t, .inr (9, [.ref a_t_places, .ref a_t_bearings, .ref a_t_cuts, .ref a_t_deaths, .int p1_mats])), (a_t_bearings, .inl (cI, 12, .inl (va_cpy p1_bearings t_bearings 0 0 12))), (a_t_cuts, .inl (cI, 12, .inl (va_cpy p1_cuts t_cuts 0 0 12))), (a_t_deaths, .inl (cZ, 12, .inl t_deaths_47)), (a_t_places, .inl (cI, 12, .inl (va_cpy p1_places t_places 0 0 12))), (a_p1, .inr (9, [.ref a_p1_places, .ref a_p1_bearings, .ref a_p1_cuts, .ref a_p1_deaths, .int p1_mats])), (a_p1_bearings, .inl (cI, 12, .inl p1_bearings)), (a_p1_cuts, .inl (cI, 12, .inl p1_cuts)), (a_p1_deaths, .inl (cZ, 12, .inl p1_deaths)), (a_p1_places, .inl (cI, 12, .inl p1_places))] H := hP
        have hD : va_D A [(a_t, .inr (9, [.ref a_t_places, .ref a_t_bearings, .ref a_t_cuts, .ref a_t_deaths, .int p1_mats])), (a_t_bearings, .inl (cI, 12, .inl (va_cpy p1_bearings t_bearings 0 0 12))), (a_t_cuts, .inl (cI, 12, .inl (va_cpy p1_cuts t_cuts 0 0 12))), (a_t_deaths, .inl (cZ, 12, .inl t_deaths_47)), (a_t_places, .inl (cI, 12, .inl (va_cpy p1_places t_places 0 0 12))), (a_p1, .inr (9, [.ref a_p1_places, .ref a_p1_bearings, .ref a_p1_cuts, .ref a_p1_deaths, .int p1_mats])), (a_p1_bearings, .inl (cI, 12, .inl p1_bearings)), (a_p1_cuts, .inl (cI, 12, .inl p1_cuts)), (a_p1_deaths, .inl (cZ, 12, .inl p1_deaths)), (a_p1_places, .inl (cI, 12, .inl p1_places))] := hD
        obtain ⟨j0_, g_⟩ := Prod.mk.inj (Option.some.inj h)
        obtain ⟨j1_, g_⟩ := Prod.mk.inj g_
        obtain ⟨j2_, g_⟩ := Prod.mk.inj g_
        obtain ⟨j3_, g_⟩ := Prod.mk.inj g_
        have j4_ := g_
        subst j0_
        subst j1_
        subst j2_
        subst j3_
        subst j4_
        exact W.vret hx hb hr (fun t ht hW => ⟨⟨(), rfl, trivial, zPost.of hP hD hK ht hW [0, 1, 2, 3, 4, 5, 6, 7, 8, 9] rfl rfl rfl⟩, hS.F ht⟩) hS.2.2 dX9_copyFrom_79
      · have h := zz_f h c1
        refine lv_aload_n hx hb dX9_copyFrom_53 rfl (lv_at hl 1 rfl) ?_
        refine va_get (D := D) (ci := 9) (C := RX9) (T := TX9) (N := 5) hx hb hts qX9_copyFrom_X9 hown hK hP 0 rfl rfl 3 (by decide) (hts _ kX9_copyFrom_9) (fun _ h9 => h9) rfl dX9_copyFrom_54 ?_
        refine lv_iload_n hx hb dX9_copyFrom_57 rfl (lv_at hl 0 rfl) ?_
        refine lv_aload_n hx hb dX9_copyFrom_58 rfl (lv_at hl 2 rfl) ?_
        refine va_get (D := D) (ci := 9) (C := RX9) (T := TX9) (N := 5) hx hb hts qX9_copyFrom_X9 hown hK hP 5 rfl rfl 3 (by decide) (hts _ kX9_copyFrom_9) (fun _ h9 => h9) rfl dX9_copyFrom_59 ?_
        refine lv_iload_n hx hb dX9_copyFrom_62 rfl (lv_at hl 0 rfl) ?_
        obtain ⟨i2, h⟩ := zz_i h
        refine va_zald hx hb hK hP 8 2 rfl rfl i2 dX9_copyFrom_63 ?_
        obtain ⟨i3, h⟩ := zz_i h
        refine va_zast hx hb hK hP hD hS 3 2 rfl rfl i3 dX9_copyFrom_64 (fun H locs hP hD hS => ?_)
        have hP : va_P D vwCl [(a_t, .inr (9, [.ref a_t_places, .ref a_t_bearings, .ref a_t_cuts, .ref a_t_deaths, .int t_mats])), (a_t_bearings, .inl (cI, 12, .inl (va_cpy p1_bearings t_bearings 0 0 12))), (a_t_cuts, .inl (cI, 12, .inl (va_cpy p1_cuts t_cuts 0 0 12))), (a_t_deaths, .inl (cZ, 12, .inl (upd t_deaths_47 (v2_47).toNatClampNeg (vp_nar .boolean (p1_deaths (v2_47).toNatClampNeg))))), (a_t_places, .inl (cI, 12, .inl (va_cpy p1_places t_places 0 0 12))), (a_p1, .inr (9, [.ref a_p1_places, .ref a_p1_bearings, .ref a_p1_cuts, .ref a_p1_deaths, .int p1_mats])), (a_p1_bearings, .inl (cI, 12, .inl p1_bearings)), (a_p1_cuts, .inl (cI, 12, .inl p1_cuts)), (a_p1_deaths, .inl (cZ, 12, .inl p1_deaths)), (a_p1_places, .inl (cI, 12, .inl p1_places))] H := hP
        have hD : va_D A [(a_t, .inr (9, [.ref a_t_places, .ref a_t_bearings, .ref a_t_cuts, .ref a_t_deaths, .int t_mats])), (a_t_bearings, .inl (cI, 12, .inl (va_cpy p1_bearings t_bearings 0 0 12))), (a_t_cuts, .inl (cI, 12, .inl (va_cpy p1_cuts t_cuts 0 0 12))), (a_t_deaths, .inl (cZ, 12, .inl (upd t_deaths_47 (v2_47).toNatClampNeg (vp_nar .boolean (p1_deaths (v2_47).toNatClampNeg))))), (a_t_places, .inl (cI, 12, .inl (va_cpy p1_places t_places 0 0 12))), (a_p1, .inr (9, [.ref a_p1_places, .ref a_p1_bearings, .ref a_p1_cuts, .ref a_p1_deaths, .int p1_mats])), (a_p1_bearings, .inl (cI, 12, .inl p1_bearings)), (a_p1_cuts, .inl (cI, 12, .inl p1_cuts)), (a_p1_deaths, .inl (cZ, 12, .inl p1_deaths)), (a_p1_places, .inl (cI, 12, .inl p1_places))] := hD
        refine lv_iinc (v := (v2_47 + (1 : Int32))) (lv' := [(2, .int (v2_47 + (1 : Int32))), (0, .ref a_t), (1, .ref a_p1)]) hx hb dX9_copyFrom_65 hl (k := 0) rfl rfl (by decide) rfl (fun ls hl => ?_)
        refine lv_goto (tgt := 47) hx hb dX9_copyFrom_68 (by decide) ?_
        exact ih47 (v2_47 + (1 : Int32)) (upd t_deaths_47 (v2_47).toNatClampNeg (vp_nar .boolean (p1_deaths (v2_47).toNatClampNeg))) _ _ _ h (hP.sub [0, 1, 2, 3, 4, 5, 6, 7, 8, 9] rfl) (hD.sub [0, 1, 2, 3, 4, 5, 6, 7, 8, 9] rfl rfl) hS (lv_sub hl [0, 1, 2] rfl)
  exact L47 N (0 : Int32) t_deaths _ _ _ h hP hD hS hl
/-! RunDesk$Way.farthest -/
theorem dX9_farthest_0 : decode cX9_farthest 0 = .ok (.aload_n 0, 1) := by decide +kernel
theorem dX9_farthest_1 : decode cX9_farthest 1 = .ok (.aload_n 0, 1) := by decide +kernel
theorem dX9_farthest_2 : decode cX9_farthest 2 = .ok (.getfield 25, 3) := by decide +kernel
theorem dX9_farthest_5 : decode cX9_farthest 5 = .ok (.iconst 1, 1) := by decide +kernel
theorem dX9_farthest_6 : decode cX9_farthest 6 = .ok (.isub, 1) := by decide +kernel
theorem dX9_farthest_7 : decode cX9_farthest 7 = .ok (.invokevirtual 29, 3) := by decide +kernel
theorem dX9_farthest_10 : decode cX9_farthest 10 = .ok (.ireturn, 1) := by decide +kernel
set_option maxRecDepth 20000 in
theorem ggX9_farthest_X9_placeAt : GoodIn wsX9_farthest wsX9_placeAt := goodIn_r _ [6, 7, 8, 9, 10, 5, 11, 1, 12, 13, 14, 15, 16] (by decide +kernel) (by decide +kernel)
set_option maxRecDepth 20000 in
theorem gX9_farthest_X9_placeAt : GoodIn wsX9_farthest (wsV RX9 29 RX9 yX9_placeAt wsX9_placeAt) := goodIn_app (goodIn_of _ (by decide +kernel)) ggX9_farthest_X9_placeAt
def fX9_farthest (t_mats : Int32) (t_places : Nat → Int32) : Option (Int32) := ((fX9_placeAt t_mats t_places (t_mats - (1 : Int32))).bind (fun r1 => some (r1)))
theorem kX9_farthest_0 : (.fieldLink RX9 25 "RunDesk$Way" "mats" "I" : Cond) ∈ wsX9_farthest := List.mem_of_getElem? (i := 1) (by decide +kernel)
theorem qX9_farthest_X9 : ∀ w ∈ wsX90, w ∈ wsX9_farthest := fun _ h => List.mem_cons_of_mem _ (List.mem_append_right _ (h))
set_option maxHeartbeats 4000000 in
set_option maxRecDepth 100000 in
theorem mX9_farthest (l : Launch) (D : va_G) (cB cI cZ : ClassId) (a_t : Nat) (a_t_places : Nat) (a_t_bearings : Nat) (a_t_cuts : Nat) (a_t_deaths : Nat) (t_mats : Int32) (t_places : Nat → Int32) (sz : Nat) (r0 : Int32) (h : fX9_farthest t_mats t_places = some (r0)) : Met l yX9_farthest wsX9_farthest ({ frames := 2, cells := 0, slots := 0, locals := 42 } : Room) (va_Pc [.ref a_t] (zPre D (zT cB cI cZ) [(a_t, .inr (9, [.ref a_t_places, .ref a_t_bearings, .ref a_t_cuts, .ref a_t_deaths, .int t_mats])), (a_t_places, .inl (cI, 12, .inl t_places))] sz)) (zQi r0 D (zT cB cI cZ) [(a_t, .inr (9, [.ref a_t_places, .ref a_t_bearings, .ref a_t_cuts, .ref a_t_deaths, .int t_mats])), (a_t_places, .inl (cI, 12, .inl t_places))] (va_A [(a_t, .inr (9, [.ref a_t_places, .ref a_t_bearings, .ref a_t_cuts, .ref a_t_deaths, .int t_mats])), (a_t_places, .inl (cI, 12, .inl t_places))] sz)) 0 0 (va_A [(a_t, .inr (9, [.ref a_t_places, .ref a_t_bearings, .ref a_t_cuts, .ref a_t_deaths, .int t_mats])), (a_t_places, .inl (cI, 12, .inl t_places))] sz) := by
  refine Met.ofW (cc := cX9_farthest) (maxL := 1) (ret := (some .int)) (by decide) rfl ?_
  intro p e s m args below meth c s₁ B hml hv
  obtain ⟨rfl, hsz, hP, hK, hN, hD0⟩ := hv
  have hx := B.exec
  have hb := B.bytes
  have hr := B.returns
  have hts := atoms_spec (ws := wsX9_farthest) B.pre
  have hown : s.vm.findClass RX9 = some m.cls := findClass_of_methodNamed B.named
  have hlocks := B.notSynchronized
  subst hsz
  have hD := hD0.self (sz := s.heap.size)
  generalize hAe : va_A [(a_t, .inr (9, [.ref a_t_places, .ref a_t_bearings, .ref a_t_cuts, .ref a_t_deaths, .int t_mats])), (a_t_places, .inl (cI, 12, .inl t_places))] s.heap.size = A at hD ⊢
  have hA : ∀ q : Nat, s.heap.size ≤ q → A q := fun q h => by rw [← hAe]; exact Or.inr h
  have hS : va_S A s.heap s.heap [] := va_S.rf
  have hl := lv_entry ([.ref a_t]) (n := 1) (Nat.le_of_ble_eq_true rfl)
  rw [lg_entry_eq]
  generalize (lg_sl ([.ref a_t]) ++ List.replicate (1 - (lg_sl ([.ref a_t])).length) Slot.unset).toArray = ls at hl ⊢
  have hl : lv_has ls 1 [(0, .ref a_t)] := hl
  unfold fX9_farthest at h
  refine lv_aload_n hx hb dX9_farthest_0 rfl (lv_at hl 0 rfl) ?_
  refine lv_aload_n hx hb dX9_farthest_1 rfl (lv_at hl 0 rfl) ?_
  refine va_get (D := D) (ci := 9) (C := RX9) (T := TX9) (N := 5) hx hb hts qX9_farthest_X9 hown hK hP 0 rfl rfl 4 (by decide) (hts _ kX9_farthest_0) (fun _ h9 => h9) rfl dX9_farthest_2 ?_
  refine lv_iconst (v := (1 : Int32)) hx hb dX9_farthest_5 rfl ?_
  refine lv_isub hx hb dX9_farthest_6 ?_
  obtain ⟨r1, e2, h⟩ := zz_b h
  refine zVi (As := [.int (t_mats - (1 : Int32))]) (rest := []) (C := RX9) (wr := []) [0, 1] [] 0 ⟨hx, hb, hml, hown, hts⟩ (mX9_placeAt l D cB cI cZ a_t a_t_places a_t_bearings a_t_cuts a_t_deaths t_mats t_places s.heap.size (t_mats - (1 : Int32)) r1 e2) (cwV 1 hts gX9_farthest_X9_placeAt rfl rfl rfl (by decide +kernel) ⟨Nat.le_of_ble_eq_true rfl, Nat.le_of_ble_eq_true rfl⟩) hK hN hP hD hS hA rfl rfl rfl rfl rfl rfl rfl rfl hl.1 rfl (lv_room (Nat.le_of_ble_eq_true rfl)) dX9_farthest_7 ⟨Nat.le_of_ble_eq_true rfl, Nat.le_of_ble_eq_true rfl⟩ (fun H locs hP hD hS => ?_)
  have hP : va_P D vwCl [(a_t, .inr (9, [.ref a_t_places, .ref a_t_bearings, .ref a_t_cuts, .ref a_t_deaths, .int t_mats])), (a_t_places, .inl (cI, 12, .inl t_places))] H := hP
  have hD : va_D A [(a_t, .inr (9, [.ref a_t_places, .ref a_t_bearings, .ref a_t_cuts, .ref a_t_deaths, .int t_mats])), (a_t_places, .inl (cI, 12, .inl t_places))] := hD
  have j0_ := Option.some.inj h
  subst j0_
  exact W.iret (v := r1) hx hb hr (fun t ht hW => ⟨⟨_, (), rfl, rfl, zPost.of hP hD hK ht hW [0, 1] rfl rfl rfl⟩, hS.F ht⟩) hS.2.2 dX9_farthest_10
/-! RunDesk$Way.setCut -/
theorem dX9_setCut_0 : decode cX9_setCut 0 = .ok (.aload_n 0, 1) := by decide +kernel
theorem dX9_setCut_1 : decode cX9_setCut 1 = .ok (.iload_n 1, 1) := by decide +kernel
theorem dX9_setCut_2 : decode cX9_setCut 2 = .ok (.invokevirtual 33, 3) := by decide +kernel
theorem dX9_setCut_5 : decode cX9_setCut 5 = .ok (.ifCond .ne 5, 3) := by decide +kernel
theorem dX9_setCut_8 : decode cX9_setCut 8 = .ok (.iconst 0, 1) := by decide +kernel
theorem dX9_setCut_9 : decode cX9_setCut 9 = .ok (.ireturn, 1) := by decide +kernel
theorem dX9_setCut_10 : decode cX9_setCut 10 = .ok (.aload_n 0, 1) := by decide +kernel
theorem dX9_setCut_11 : decode cX9_setCut 11 = .ok (.getfield 18, 3) := by decide +kernel
theorem dX9_setCut_14 : decode cX9_setCut 14 = .ok (.iload_n 1, 1) := by decide +kernel
theorem dX9_setCut_15 : decode cX9_setCut 15 = .ok (.iload_n 2, 1) := by decide +kernel
theorem dX9_setCut_16 : decode cX9_setCut 16 = .ok (.iastore, 1) := by decide +kernel
theorem dX9_setCut_17 : decode cX9_setCut 17 = .ok (.iconst 1, 1) := by decide +kernel
theorem dX9_setCut_18 : decode cX9_setCut 18 = .ok (.ireturn, 1) := by decide +kernel
set_option maxRecDepth 20000 in
theorem ggX9_setCut_X9_has : GoodIn wsX9_setCut wsX9_has := goodIn_r _ [6, 7, 8, 9, 10, 11, 12] (by decide +kernel) (by decide +kernel)
set_option maxRecDepth 20000 in
theorem gX9_setCut_X9_has : GoodIn wsX9_setCut (wsV RX9 33 RX9 yX9_has wsX9_has) := goodIn_app (goodIn_of _ (by decide +kernel)) ggX9_setCut_X9_has
def fX9_setCut (t_mats : Int32) (t_cuts : Nat → Int32) (x1 : Int32) (x2 : Int32) : Option (Bool × (Nat → Int32)) := ((fX9_has t_mats x1).bind (fun b1 => (if (zb b1) = 0 then some (false, t_cuts) else (if zin x1 12 then some (true, (upd t_cuts (x1).toNatClampNeg x2)) else none))))
theorem kX9_setCut_0 : (.fieldLink RX9 18 "RunDesk$Way" "cuts" "[I" : Cond) ∈ wsX9_setCut := List.mem_of_getElem? (i := 1) (by decide +kernel)
theorem qX9_setCut_X9 : ∀ w ∈ wsX90, w ∈ wsX9_setCut := fun _ h => List.mem_cons_of_mem _ (List.mem_append_right _ (h))
set_option maxHeartbeats 4000000 in
set_option maxRecDepth 100000 in
theorem mX9_setCut (l : Launch) (D : va_G) (cB cI cZ : ClassId) (a_t : Nat) (a_t_places : Nat) (a_t_bearings : Nat) (a_t_cuts : Nat) (a_t_deaths : Nat) (t_mats : Int32) (t_cuts : Nat → Int32) (sz : Nat) (x1 : Int32) (x2 : Int32) (b0 : Bool) (t_cuts' : Nat → Int32) (h : fX9_setCut t_mats t_cuts x1 x2 = some (b0, t_cuts')) : Met l yX9_setCut wsX9_setCut ({ frames := 1, cells := 0, slots := 0, locals := 21 } : Room) (va_Pc [.ref a_t, .int x1, .int x2] (zPre D (zT cB cI cZ) [(a_t, .inr (9, [.ref a_t_places, .ref a_t_bearings, .ref a_t_cuts, .ref a_t_deaths, .int t_mats])), (a_t_cuts, .inl (cI, 12, .inl t_cuts))] sz)) (zQi (zb b0) D (zT cB cI cZ) [(a_t, .inr (9, [.ref a_t_places, .ref a_t_bearings, .ref a_t_cuts, .ref a_t_deaths, .int t_mats])), (a_t_cuts, .inl (cI, 12, .inl t_cuts'))] (va_A [(a_t, .inr (9, [.ref a_t_places, .ref a_t_bearings, .ref a_t_cuts, .ref a_t_deaths, .int t_mats])), (a_t_cuts, .inl (cI, 12, .inl t_cuts))] sz)) 0 0 (va_A [(a_t, .inr (9, [.ref a_t_places, .ref a_t_bearings, .ref a_t_cuts, .ref a_t_deaths, .int t_mats])), (a_t_cuts, .inl (cI, 12, .inl t_cuts))] sz) := by
  refine Met.ofW (cc := cX9_setCut) (maxL := 3) (ret := (some .boolean)) (by decide) rfl ?_
  intro p e s m args below meth c s₁ B hml hv
  obtain ⟨rfl, hsz, hP, hK, hN, hD0⟩ := hv
  have hx := B.exec
  have hb := B.bytes
  have hr := B.returns
  have hts := atoms_spec (ws := wsX9_setCut) B.pre
  have hown : s.vm.findClass RX9 = some m.cls := findClass_of_methodNamed B.named
  have hlocks := B.notSynchronized
  subst hsz
  have hD := hD0.self (sz := s.heap.size)
  generalize hAe : va_A [(a_t, .inr (9, [.ref a_t_places, .ref a_t_bearings, .ref a_t_cuts, .ref a_t_deaths, .int t_mats])), (a_t_cuts, .inl (cI, 12, .inl t_cuts))] s.heap.size = A at hD ⊢
  have hA : ∀ q : Nat, s.heap.size ≤ q → A q := fun q h => by rw [← hAe]; exact Or.inr h
  have hS : va_S A s.heap s.heap [] := va_S.rf
  have hl := lv_entry ([.ref a_t, .int x1, .int x2]) (n := 3) (Nat.le_of_ble_eq_true rfl)
  rw [lg_entry_eq]
  generalize (lg_sl ([.ref a_t, .int x1, .int x2]) ++ List.replicate (3 - (lg_sl ([.ref a_t, .int x1, .int x2])).length) Slot.unset).toArray = ls at hl ⊢
  have hl : lv_has ls 3 [(0, .ref a_t), (1, .int x1), (2, .int x2)] := hl
  unfold fX9_setCut at h
  refine lv_aload_n hx hb dX9_setCut_0 rfl (lv_at hl 0 rfl) ?_
  refine lv_iload_n hx hb dX9_setCut_1 rfl (lv_at hl 1 rfl) ?_
  obtain ⟨b1, e2, h⟩ := zz_b h
  refine zVi (As := [.int x1]) (rest := []) (C := RX9) (wr := [(a_t_cuts, .inl (cI, 12, .inl t_cuts))]) [0] [1] 0 ⟨hx, hb, hml, hown, hts⟩ (mX9_has l D cB cI cZ a_t a_t_places a_t_bearings a_t_cuts a_t_deaths t_mats s.heap.size x1 b1 e2) (cwV 1 hts gX9_setCut_X9_has rfl rfl rfl (by decide +kernel) ⟨Nat.le_of_ble_eq_true rfl, Nat.le_of_ble_eq_true rfl⟩) hK hN hP hD hS hA rfl rfl rfl rfl rfl rfl rfl rfl hl.1 rfl (lv_room (Nat.le_of_ble_eq_true rfl)) dX9_setCut_2 ⟨Nat.le_of_ble_eq_true rfl, Nat.le_of_ble_eq_true rfl⟩ (fun H locs hP hD hS => ?_)
  have hP : va_P D vwCl [(a_t_cuts, .inl (cI, 12, .inl t_cuts)), (a_t, .inr (9, [.ref a_t_places, .ref a_t_bearings, .ref a_t_cuts, .ref a_t_deaths, .int t_mats]))] H := hP
  have hD : va_D A [(a_t_cuts, .inl (cI, 12, .inl t_cuts)), (a_t, .inr (9, [.ref a_t_places, .ref a_t_bearings, .ref a_t_cuts, .ref a_t_deaths, .int t_mats]))] := hD
  refine lv_if_ne (tgt := 10) hx hb dX9_setCut_5 (by decide) (fun c3 => ?_) (fun c3 => ?_)
  · have h := zz_f h c3
    refine lv_aload_n hx hb dX9_setCut_10 rfl (lv_at hl 0 rfl) ?_
    refine va_get (D := D) (ci := 9) (C := RX9) (T := TX9) (N := 5) hx hb hts qX9_setCut_X9 hown hK hP 1 rfl rfl 2 (by decide) (hts _ kX9_setCut_0) (fun _ h9 => h9) rfl dX9_setCut_11 ?_
    refine lv_iload_n hx hb dX9_setCut_14 rfl (lv_at hl 1 rfl) ?_
    refine lv_iload_n hx hb dX9_setCut_15 rfl (lv_at hl 2 rfl) ?_
    obtain ⟨i4, h⟩ := zz_i h
    refine va_iast hx hb hK hP hD hS 0 1 rfl rfl i4 dX9_setCut_16 (fun H locs hP hD hS => ?_)
    have hP : va_P D vwCl [(a_t_cuts, .inl (cI, 12, .inl (upd t_cuts (x1).toNatClampNeg x2))), (a_t, .inr (9, [.ref a_t_places, .ref a_t_bearings, .ref a_t_cuts, .ref a_t_deaths, .int t_mats]))] H := hP
    have hD : va_D A [(a_t_cuts, .inl (cI, 12, .inl (upd t_cuts (x1).toNatClampNeg x2))), (a_t, .inr (9, [.ref a_t_places, .ref a_t_bearings, .ref a_t_cuts, .ref a_t_deaths, .int t_mats]))] := hD
    refine lv_iconst (v := (1 : Int32)) hx hb dX9_setCut_17 rfl ?_
    obtain ⟨j0_, g_⟩ := Prod.mk.inj (Option.some.inj h)
    have j1_ := g_
    subst j0_
    subst j1_
    exact W.zret (v := (1 : Int32)) hx hb hr rfl (fun t ht hW => ⟨⟨_, (), rfl, rfl, zPost.of hP hD hK ht hW [1, 0] rfl rfl rfl⟩, hS.F ht⟩) hS.2.2 dX9_setCut_18
  · have h := zz_t h c3
    refine lv_iconst (v := (0 : Int32)) hx hb dX9_setCut_8 rfl ?_
    obtain ⟨j0_, g_⟩ := Prod.mk.inj (Option.some.inj h)
    have j1_ := g_
    subst j0_
    subst j1_
    exact W.zret (v := (0 : Int32)) hx hb hr rfl (fun t ht hW => ⟨⟨_, (), rfl, rfl, zPost.of hP hD hK ht hW [1, 0] rfl rfl rfl⟩, hS.F ht⟩) hS.2.2 dX9_setCut_9
/-! RunDesk$Way.isDead -/
theorem dX9_isDead_0 : decode cX9_isDead 0 = .ok (.aload_n 0, 1) := by decide +kernel
theorem dX9_isDead_1 : decode cX9_isDead 1 = .ok (.iload_n 1, 1) := by decide +kernel
theorem dX9_isDead_2 : decode cX9_isDead 2 = .ok (.invokevirtual 33, 3) := by decide +kernel
theorem dX9_isDead_5 : decode cX9_isDead 5 = .ok (.ifCond .eq 16, 3) := by decide +kernel
theorem dX9_isDead_8 : decode cX9_isDead 8 = .ok (.aload_n 0, 1) := by decide +kernel
theorem dX9_isDead_9 : decode cX9_isDead 9 = .ok (.getfield 21, 3) := by decide +kernel
theorem dX9_isDead_12 : decode cX9_isDead 12 = .ok (.iload_n 1, 1) := by decide +kernel
theorem dX9_isDead_13 : decode cX9_isDead 13 = .ok (.baload, 1) := by decide +kernel
theorem dX9_isDead_14 : decode cX9_isDead 14 = .ok (.ifCond .eq 7, 3) := by decide +kernel
theorem dX9_isDead_17 : decode cX9_isDead 17 = .ok (.iconst 1, 1) := by decide +kernel
theorem dX9_isDead_18 : decode cX9_isDead 18 = .ok (.goto 4, 3) := by decide +kernel
theorem dX9_isDead_21 : decode cX9_isDead 21 = .ok (.iconst 0, 1) := by decide +kernel
theorem dX9_isDead_22 : decode cX9_isDead 22 = .ok (.ireturn, 1) := by decide +kernel
set_option maxRecDepth 20000 in
theorem ggX9_isDead_X9_has : GoodIn wsX9_isDead wsX9_has := goodIn_r _ [6, 7, 8, 9, 10, 11, 12] (by decide +kernel) (by decide +kernel)
set_option maxRecDepth 20000 in
theorem gX9_isDead_X9_has : GoodIn wsX9_isDead (wsV RX9 33 RX9 yX9_has wsX9_has) := goodIn_app (goodIn_of _ (by decide +kernel)) ggX9_isDead_X9_has
def fX9_isDead (t_mats : Int32) (t_deaths : Nat → Int32) (x1 : Int32) : Option (Bool) := ((fX9_has t_mats x1).bind (fun b1 => (if (zb b1) = 0 then some (false) else (if zin x1 12 then (if (t_deaths (x1).toNatClampNeg) = 0 then some (false) else some (true)) else none))))
theorem kX9_isDead_0 : (.fieldLink RX9 21 "RunDesk$Way" "deaths" "[Z" : Cond) ∈ wsX9_isDead := List.mem_of_getElem? (i := 1) (by decide +kernel)
theorem qX9_isDead_X9 : ∀ w ∈ wsX90, w ∈ wsX9_isDead := fun _ h => List.mem_cons_of_mem _ (List.mem_append_right _ (h))
set_option maxHeartbeats 4000000 in
set_option maxRecDepth 100000 in
theorem mX9_isDead (l : Launch) (D : va_G) (cB cI cZ : ClassId) (a_t : Nat) (a_t_places : Nat) (a_t_bearings : Nat) (a_t_cuts : Nat) (a_t_deaths : Nat) (t_mats : Int32) (t_deaths : Nat → Int32) (sz : Nat) (x1 : Int32) (b0 : Bool) (h : fX9_isDead t_mats t_deaths x1 = some (b0)) : Met l yX9_isDead wsX9_isDead ({ frames := 1, cells := 0, slots := 0, locals := 21 } : Room) (va_Pc [.ref a_t, .int x1] (zPre D (zT cB cI cZ) [(a_t, .inr (9, [.ref a_t_places, .ref a_t_bearings, .ref a_t_cuts, .ref a_t_deaths, .int t_mats])), (a_t_deaths, .inl (cZ, 12, .inl t_deaths))] sz)) (zQi (zb b0) D (zT cB cI cZ) [(a_t, .inr (9, [.ref a_t_places, .ref a_t_bearings, .ref a_t_cuts, .ref a_t_deaths, .int t_mats])), (a_t_deaths, .inl (cZ, 12, .inl t_deaths))] (va_A [(a_t, .inr (9, [.ref a_t_places, .ref a_t_bearings, .ref a_t_cuts, .ref a_t_deaths, .int t_mats])), (a_t_deaths, .inl (cZ, 12, .inl t_deaths))] sz)) 0 0 (va_A [(a_t, .inr (9, [.ref a_t_places, .ref a_t_bearings, .ref a_t_cuts, .ref a_t_deaths, .int t_mats])), (a_t_deaths, .inl (cZ, 12, .inl t_deaths))] sz) := by
  refine Met.ofW (cc := cX9_isDead) (maxL := 2) (ret := (some .boolean)) (by decide) rfl ?_
  intro p e s m args below meth c s₁ B hml hv
  obtain ⟨rfl, hsz, hP, hK, hN, hD0⟩ := hv
  have hx := B.exec
  have hb := B.bytes
  have hr := B.returns
  have hts := atoms_spec (ws := wsX9_isDead) B.pre
  have hown : s.vm.findClass RX9 = some m.cls := findClass_of_methodNamed B.named
  have hlocks := B.notSynchronized
  subst hsz
  have hD := hD0.self (sz := s.heap.size)
  generalize hAe : va_A [(a_t, .inr (9, [.ref a_t_places, .ref a_t_bearings, .ref a_t_cuts, .ref a_t_deaths, .int t_mats])), (a_t_deaths, .inl (cZ, 12, .inl t_deaths))] s.heap.size = A at hD ⊢
  have hA : ∀ q : Nat, s.heap.size ≤ q → A q := fun q h => by rw [← hAe]; exact Or.inr h
  have hS : va_S A s.heap s.heap [] := va_S.rf
  have hl := lv_entry ([.ref a_t, .int x1]) (n := 2) (Nat.le_of_ble_eq_true rfl)
  rw [lg_entry_eq]
  generalize (lg_sl ([.ref a_t, .int x1]) ++ List.replicate (2 - (lg_sl ([.ref a_t, .int x1])).length) Slot.unset).toArray = ls at hl ⊢
  have hl : lv_has ls 2 [(0, .ref a_t), (1, .int x1)] := hl
  unfold fX9_isDead at h
  refine lv_aload_n hx hb dX9_isDead_0 rfl (lv_at hl 0 rfl) ?_
  refine lv_iload_n hx hb dX9_isDead_1 rfl (lv_at hl 1 rfl) ?_
  obtain ⟨b1, e2, h⟩ := zz_b h
  refine zVi (As := [.int x1]) (rest := []) (C := RX9) (wr := [(a_t_deaths, .inl (cZ, 12, .inl t_deaths))]) [0] [1] 0 ⟨hx, hb, hml, hown, hts⟩ (mX9_has l D cB cI cZ a_t a_t_places a_t_bearings a_t_cuts a_t_deaths t_mats s.heap.size x1 b1 e2) (cwV 1 hts gX9_isDead_X9_has rfl rfl rfl (by decide +kernel) ⟨Nat.le_of_ble_eq_true rfl, Nat.le_of_ble_eq_true rfl⟩) hK hN hP hD hS hA rfl rfl rfl rfl rfl rfl rfl rfl hl.1 rfl (lv_room (Nat.le_of_ble_eq_true rfl)) dX9_isDead_2 ⟨Nat.le_of_ble_eq_true rfl, Nat.le_of_ble_eq_true rfl⟩ (fun H locs hP hD hS => ?_)
  have hP : va_P D vwCl [(a_t_deaths, .inl (cZ, 12, .inl t_deaths)), (a_t, .inr (9, [.ref a_t_places, .ref a_t_bearings, .ref a_t_cuts, .ref a_t_deaths, .int t_mats]))] H := hP
  have hD : va_D A [(a_t_deaths, .inl (cZ, 12, .inl t_deaths)), (a_t, .inr (9, [.ref a_t_places, .ref a_t_bearings, .ref a_t_cuts, .ref a_t_deaths, .int t_mats]))] := hD
  refine lv_if_eq (tgt := 21) hx hb dX9_isDead_5 (by decide) (fun c3 => ?_) (fun c3 => ?_)
  · have h := zz_t h c3
    refine lv_iconst (v := (0 : Int32)) hx hb dX9_isDead_21 rfl ?_
    have j0_ := Option.some.inj h
    subst j0_
    exact W.zret (v := (0 : Int32)) hx hb hr rfl (fun t ht hW => ⟨⟨_, (), rfl, rfl, zPost.of hP hD hK ht hW [1, 0] rfl rfl rfl⟩, hS.F ht⟩) hS.2.2 dX9_isDead_22
  · have h := zz_f h c3
    refine lv_aload_n hx hb dX9_isDead_8 rfl (lv_at hl 0 rfl) ?_
    refine va_get (D := D) (ci := 9) (C := RX9) (T := TX9) (N := 5) hx hb hts qX9_isDead_X9 hown hK hP 1 rfl rfl 3 (by decide) (hts _ kX9_isDead_0) (fun _ h9 => h9) rfl dX9_isDead_9 ?_
    refine lv_iload_n hx hb dX9_isDead_12 rfl (lv_at hl 1 rfl) ?_
    obtain ⟨i4, h⟩ := zz_i h
    refine va_zald hx hb hK hP 0 2 rfl rfl i4 dX9_isDead_13 ?_
    refine lv_if_eq (tgt := 21) hx hb dX9_isDead_14 (by decide) (fun c5 => ?_) (fun c5 => ?_)
    · have h := zz_t h c5
      refine lv_iconst (v := (0 : Int32)) hx hb dX9_isDead_21 rfl ?_
      have j0_ := Option.some.inj h
      subst j0_
      exact W.zret (v := (0 : Int32)) hx hb hr rfl (fun t ht hW => ⟨⟨_, (), rfl, rfl, zPost.of hP hD hK ht hW [1, 0] rfl rfl rfl⟩, hS.F ht⟩) hS.2.2 dX9_isDead_22
    · have h := zz_f h c5
      refine lv_iconst (v := (1 : Int32)) hx hb dX9_isDead_17 rfl ?_
      refine lv_goto (tgt := 22) hx hb dX9_isDead_18 (by decide) ?_
      have j0_ := Option.some.inj h
      subst j0_
      exact W.zret (v := (1 : Int32)) hx hb hr rfl (fun t ht hW => ⟨⟨_, (), rfl, rfl, zPost.of hP hD hK ht hW [1, 0] rfl rfl rfl⟩, hS.F ht⟩) hS.2.2 dX9_isDead_22
/-! RunDesk$Way.setDead -/
theorem dX9_setDead_0 : decode cX9_setDead 0 = .ok (.aload_n 0, 1) := by decide +kernel
theorem dX9_setDead_1 : decode cX9_setDead 1 = .ok (.iload_n 1, 1) := by decide +kernel
theorem dX9_setDead_2 : decode cX9_setDead 2 = .ok (.invokevirtual 33, 3) := by decide +kernel
theorem dX9_setDead_5 : decode cX9_setDead 5 = .ok (.ifCond .ne 5, 3) := by decide +kernel
theorem dX9_setDead_8 : decode cX9_setDead 8 = .ok (.iconst 0, 1) := by decide +kernel
theorem dX9_setDead_9 : decode cX9_setDead 9 = .ok (.ireturn, 1) := by decide +kernel
theorem dX9_setDead_10 : decode cX9_setDead 10 = .ok (.aload_n 0, 1) := by decide +kernel
theorem dX9_setDead_11 : decode cX9_setDead 11 = .ok (.getfield 21, 3) := by decide +kernel
theorem dX9_setDead_14 : decode cX9_setDead 14 = .ok (.iload_n 1, 1) := by decide +kernel
theorem dX9_setDead_15 : decode cX9_setDead 15 = .ok (.iload_n 2, 1) := by decide +kernel
theorem dX9_setDead_16 : decode cX9_setDead 16 = .ok (.bastore, 1) := by decide +kernel
theorem dX9_setDead_17 : decode cX9_setDead 17 = .ok (.iconst 1, 1) := by decide +kernel
theorem dX9_setDead_18 : decode cX9_setDead 18 = .ok (.ireturn, 1) := by decide +kernel
set_option maxRecDepth 20000 in
theorem ggX9_setDead_X9_has : GoodIn wsX9_setDead wsX9_has := goodIn_r _ [6, 7, 8, 9, 10, 11, 12] (by decide +kernel) (by decide +kernel)
set_option maxRecDepth 20000 in
theorem gX9_setDead_X9_has : GoodIn wsX9_setDead (wsV RX9 33 RX9 yX9_has wsX9_has) := goodIn_app (goodIn_of _ (by decide +kernel)) ggX9_setDead_X9_has
def fX9_setDead (t_mats : Int32) (t_deaths : Nat → Int32) (x1 : Int32) (x2 : Bool) : Option (Bool × (Nat → Int32)) := ((fX9_has t_mats x1).bind (fun b1 => (if (zb b1) = 0 then some (false, t_deaths) else (if zin x1 12 then some (true, (upd t_deaths (x1).toNatClampNeg (vp_nar .boolean (zb x2)))) else none))))
theorem kX9_setDead_0 : (.fieldLink RX9 21 "RunDesk$Way" "deaths" "[Z" : Cond) ∈ wsX9_setDead := List.mem_of_getElem? (i := 1) (by decide +kernel)
theorem qX9_setDead_X9 : ∀ w ∈ wsX90, w ∈ wsX9_setDead := fun _ h => List.mem_cons_of_mem _ (List.mem_append_right _ (h))
set_option maxHeartbeats 4000000 in
set_option maxRecDepth 100000 in
theorem mX9_setDead (l : Launch) (D : va_G) (cB cI cZ : ClassId) (a_t : Nat) (a_t_places : Nat) (a_t_bearings : Nat) (a_t_cuts : Nat) (a_t_deaths : Nat) (t_mats : Int32) (t_deaths : Nat → Int32) (sz : Nat) (x1 : Int32) (x2 : Bool) (b0 : Bool) (t_deaths' : Nat → Int32) (h : fX9_setDead t_mats t_deaths x1 x2 = some (b0, t_deaths')) : Met l yX9_setDead wsX9_setDead ({ frames := 1, cells := 0, slots := 0, locals := 21 } : Room) (va_Pc [.ref a_t, .int x1, .int (zb x2)] (zPre D (zT cB cI cZ) [(a_t, .inr (9, [.ref a_t_places, .ref a_t_bearings, .ref a_t_cuts, .ref a_t_deaths, .int t_mats])), (a_t_deaths, .inl (cZ, 12, .inl t_deaths))] sz)) (zQi (zb b0) D (zT cB cI cZ) [(a_t, .inr (9, [.ref a_t_places, .ref a_t_bearings, .ref a_t_cuts, .ref a_t_deaths, .int t_mats])), (a_t_deaths, .inl (cZ, 12, .inl t_deaths'))] (va_A [(a_t, .inr (9, [.ref a_t_places, .ref a_t_bearings, .ref a_t_cuts, .ref a_t_deaths, .int t_mats])), (a_t_deaths, .inl (cZ, 12, .inl t_deaths))] sz)) 0 0 (va_A [(a_t, .inr (9, [.ref a_t_places, .ref a_t_bearings, .ref a_t_cuts, .ref a_t_deaths, .int t_mats])), (a_t_deaths, .inl (cZ, 12, .inl t_deaths))] sz) := by
  refine Met.ofW (cc := cX9_setDead) (maxL := 3) (ret := (some .boolean)) (by decide) rfl ?_
  intro p e s m args below meth c s₁ B hml hv
  obtain ⟨rfl, hsz, hP, hK, hN, hD0⟩ := hv
  have hx := B.exec
  have hb := B.bytes
  have hr := B.returns
  have hts := atoms_spec (ws := wsX9_setDead) B.pre
  have hown : s.vm.findClass RX9 = some m.cls := findClass_of_methodNamed B.named
  have hlocks := B.notSynchronized
  subst hsz
  have hD := hD0.self (sz := s.heap.size)
  generalize hAe : va_A [(a_t, .inr (9, [.ref a_t_places, .ref a_t_bearings, .ref a_t_cuts, .ref a_t_deaths, .int t_mats])), (a_t_deaths, .inl (cZ, 12, .inl t_deaths))] s.heap.size = A at hD ⊢
  have hA : ∀ q : Nat, s.heap.size ≤ q → A q := fun q h => by rw [← hAe]; exact Or.inr h
  have hS : va_S A s.heap s.heap [] := va_S.rf
  have hl := lv_entry ([.ref a_t, .int x1, .int (zb x2)]) (n := 3) (Nat.le_of_ble_eq_true rfl)
  rw [lg_entry_eq]
  generalize (lg_sl ([.ref a_t, .int x1, .int (zb x2)]) ++ List.replicate (3 - (lg_sl ([.ref a_t, .int x1, .int (zb x2)])).length) Slot.unset).toArray = ls at hl ⊢
  have hl : lv_has ls 3 [(0, .ref a_t), (1, .int x1), (2, .int (zb x2))] := hl
  unfold fX9_setDead at h
  refine lv_aload_n hx hb dX9_setDead_0 rfl (lv_at hl 0 rfl) ?_
  refine lv_iload_n hx hb dX9_setDead_1 rfl (lv_at hl 1 rfl) ?_
  obtain ⟨b1, e2, h⟩ := zz_b h
  refine zVi (As := [.int x1]) (rest := []) (C := RX9) (wr := [(a_t_deaths, .inl (cZ, 12, .inl t_deaths))]) [0] [1] 0 ⟨hx, hb, hml, hown, hts⟩ (mX9_has l D cB cI cZ a_t a_t_places a_t_bearings a_t_cuts a_t_deaths t_mats s.heap.size x1 b1 e2) (cwV 1 hts gX9_setDead_X9_has rfl rfl rfl (by decide +kernel) ⟨Nat.le_of_ble_eq_true rfl, Nat.le_of_ble_eq_true rfl⟩) hK hN hP hD hS hA rfl rfl rfl rfl rfl rfl rfl rfl hl.1 rfl (lv_room (Nat.le_of_ble_eq_true rfl)) dX9_setDead_2 ⟨Nat.le_of_ble_eq_true rfl, Nat.le_of_ble_eq_true rfl⟩ (fun H locs hP hD hS => ?_)
  have hP : va_P D vwCl [(a_t_deaths, .inl (cZ, 12, .inl t_deaths)), (a_t, .inr (9, [.ref a_t_places, .ref a_t_bearings, .ref a_t_cuts, .ref a_t_deaths, .int t_mats]))] H := hP
  have hD : va_D A [(a_t_deaths, .inl (cZ, 12, .inl t_deaths)), (a_t, .inr (9, [.ref a_t_places, .ref a_t_bearings, .ref a_t_cuts, .ref a_t_deaths, .int t_mats]))] := hD
  refine lv_if_ne (tgt := 10) hx hb dX9_setDead_5 (by decide) (fun c3 => ?_) (fun c3 => ?_)
  · have h := zz_f h c3
    refine lv_aload_n hx hb dX9_setDead_10 rfl (lv_at hl 0 rfl) ?_
    refine va_get (D := D) (ci := 9) (C := RX9) (T := TX9) (N := 5) hx hb hts qX9_setDead_X9 hown hK hP 1 rfl rfl 3 (by decide) (hts _ kX9_setDead_0) (fun _ h9 => h9) rfl dX9_setDead_11 ?_
    refine lv_iload_n hx hb dX9_setDead_14 rfl (lv_at hl 1 rfl) ?_
    refine lv_iload_n hx hb dX9_setDead_15 rfl (lv_at hl 2 rfl) ?_
    obtain ⟨i4, h⟩ := zz_i h
    refine va_zast hx hb hK hP hD hS 0 2 rfl rfl i4 dX9_setDead_16 (fun H locs hP hD hS => ?_)
    have hP : va_P D vwCl [(a_t_deaths, .inl (cZ, 12, .inl (upd t_deaths (x1).toNatClampNeg (vp_nar .boolean (zb x2))))), (a_t, .inr (9, [.ref a_t_places, .ref a_t_bearings, .ref a_t_cuts, .ref a_t_deaths, .int t_mats]))] H := hP
    have hD : va_D A [(a_t_deaths, .inl (cZ, 12, .inl (upd t_deaths (x1).toNatClampNeg (vp_nar .boolean (zb x2))))), (a_t, .inr (9, [.ref a_t_places, .ref a_t_bearings, .ref a_t_cuts, .ref a_t_deaths, .int t_mats]))] := hD
    refine lv_iconst (v := (1 : Int32)) hx hb dX9_setDead_17 rfl ?_
    obtain ⟨j0_, g_⟩ := Prod.mk.inj (Option.some.inj h)
    have j1_ := g_
    subst j0_
    subst j1_
    exact W.zret (v := (1 : Int32)) hx hb hr rfl (fun t ht hW => ⟨⟨_, (), rfl, rfl, zPost.of hP hD hK ht hW [1, 0] rfl rfl rfl⟩, hS.F ht⟩) hS.2.2 dX9_setDead_18
  · have h := zz_t h c3
    refine lv_iconst (v := (0 : Int32)) hx hb dX9_setDead_8 rfl ?_
    obtain ⟨j0_, g_⟩ := Prod.mk.inj (Option.some.inj h)
    have j1_ := g_
    subst j0_
    subst j1_
    exact W.zret (v := (0 : Int32)) hx hb hr rfl (fun t ht hW => ⟨⟨_, (), rfl, rfl, zPost.of hP hD hK ht hW [1, 0] rfl rfl rfl⟩, hS.F ht⟩) hS.2.2 dX9_setDead_9
