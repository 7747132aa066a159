/-! RunDesk$Runners.size -/
theorem dX6_size_0 : decode cX6_size 0 = .ok (.aload_n 0, 1) := by decide +kernel
theorem dX6_size_1 : decode cX6_size 1 = .ok (.getfield 34, 3) := by decide +kernel
theorem dX6_size_4 : decode cX6_size 4 = .ok (.ireturn, 1) := by decide +kernel
theorem kX6_size_0 : (.fieldLink RX6 34 "RunDesk$Runners" "entered" "I" : Cond) ∈ wsX6_size := List.mem_of_getElem? (i := 1) (by decide +kernel)
theorem qX6_size_X6 : ∀ w ∈ wsX60, w ∈ wsX6_size := fun _ h => List.mem_cons_of_mem _ (List.mem_append_right _ (h))
set_option maxHeartbeats 4000000 in
set_option maxRecDepth 100000 in
theorem mX6_size (l : Launch) (D : va_G) (cB cI cZ : ClassId) (a_t : Nat) (a_t_facts : Nat) (a_t_splits : Nat) (a_t_torn : Nat) (a_t_dropped : Nat) (a_t_waved : Nat) (a_t_struck : Nat) (a_t_strikingOrder : Nat) (t_entered : Int32) (t_strikings : Int32) (sz : Nat) (r0 : Int32) (h : fX6_size t_entered = some (r0)) : Met l yX6_size wsX6_size ({ frames := 0, cells := 0, slots := 0, locals := 0 } : Room) (va_Pc [.ref a_t] (zPre D (zT cB cI cZ) [(a_t, .inr (6, [.ref a_t_facts, .ref a_t_splits, .ref a_t_torn, .ref a_t_dropped, .ref a_t_waved, .ref a_t_struck, .ref a_t_strikingOrder, .int t_entered, .int t_strikings]))] sz)) (zQi r0 D (zT cB cI cZ) [(a_t, .inr (6, [.ref a_t_facts, .ref a_t_splits, .ref a_t_torn, .ref a_t_dropped, .ref a_t_waved, .ref a_t_struck, .ref a_t_strikingOrder, .int t_entered, .int t_strikings]))] (va_A [(a_t, .inr (6, [.ref a_t_facts, .ref a_t_splits, .ref a_t_torn, .ref a_t_dropped, .ref a_t_waved, .ref a_t_struck, .ref a_t_strikingOrder, .int t_entered, .int t_strikings]))] sz)) 0 0 (va_A [(a_t, .inr (6, [.ref a_t_facts, .ref a_t_splits, .ref a_t_torn, .ref a_t_dropped, .ref a_t_waved, .ref a_t_struck, .ref a_t_strikingOrder, .int t_entered, .int t_strikings]))] sz) := by
  refine Met.ofW (cc := cX6_size) (maxL := 1) (ret := (some .int)) (by decide) rfl ?_
  intro p e s m args below meth c s₁ B hml hv
  obtain ⟨rfl, hsz, hP, hK, hN, hZ, hD0⟩ := hv
  have hx := B.exec
  have hb := B.bytes
  have hr := B.returns
  have hts := atoms_spec (ws := wsX6_size) B.pre
  have hown : s.vm.findClass RX6 = some m.cls := findClass_of_methodNamed B.named
  have hlocks := B.notSynchronized
  subst hsz
  have hD := hD0.self (sz := s.heap.size)
  generalize hAe : va_A [(a_t, .inr (6, [.ref a_t_facts, .ref a_t_splits, .ref a_t_torn, .ref a_t_dropped, .ref a_t_waved, .ref a_t_struck, .ref a_t_strikingOrder, .int t_entered, .int t_strikings]))] s.heap.size = A at hD hZ ⊢
  have hA : ∀ q : Nat, s.heap.size ≤ q → A q := fun q h => by rw [← hAe]; exact Or.inr h
  have hS : va_S A s.heap s.heap [] := va_S.rf
  have hl := lv_entry ([.ref a_t]) (n := 1) (Nat.le_of_ble_eq_true rfl)
  rw [lg_entry_eq]
  generalize (lg_sl ([.ref a_t]) ++ List.replicate (1 - (lg_sl ([.ref a_t])).length) Slot.unset).toArray = ls at hl ⊢
  have hl : lv_has ls 1 [(0, .ref a_t)] := hl
  unfold fX6_size at h
  refine lv_aload_n hx hb dX6_size_0 rfl (lv_at hl 0 rfl) ?_
  refine va_get (D := D) (ci := 6) (C := RX6) (T := TX6) (N := 9) hx hb hts qX6_size_X6 hown hK hP 0 rfl rfl 7 (by decide) (hts _ kX6_size_0) (fun _ h9 => h9) rfl dX6_size_1 ?_
  have j0_ := Option.some.inj h
  subst j0_
  exact W.iret (v := t_entered) hx hb hr (fun t ht hW => ⟨⟨_, (), rfl, rfl, zPost.of hP hD hK ht hW [0] rfl rfl rfl⟩, hS.F ht⟩) hS.2.2 dX6_size_4
/-! RunDesk$Runners.factOf -/
theorem dX6_factOf_0 : decode cX6_factOf 0 = .ok (.iload_n 1, 1) := by decide +kernel
theorem dX6_factOf_1 : decode cX6_factOf 1 = .ok (.ifCond .lt 27, 3) := by decide +kernel
theorem dX6_factOf_4 : decode cX6_factOf 4 = .ok (.iload_n 1, 1) := by decide +kernel
theorem dX6_factOf_5 : decode cX6_factOf 5 = .ok (.aload_n 0, 1) := by decide +kernel
theorem dX6_factOf_6 : decode cX6_factOf 6 = .ok (.getfield 34, 3) := by decide +kernel
theorem dX6_factOf_9 : decode cX6_factOf 9 = .ok (.if_icmp .ge 19, 3) := by decide +kernel
theorem dX6_factOf_12 : decode cX6_factOf 12 = .ok (.iload_n 1, 1) := by decide +kernel
theorem dX6_factOf_13 : decode cX6_factOf 13 = .ok (.bipush 60, 2) := by decide +kernel
theorem dX6_factOf_15 : decode cX6_factOf 15 = .ok (.if_icmp .ge 13, 3) := by decide +kernel
theorem dX6_factOf_18 : decode cX6_factOf 18 = .ok (.iload_n 2, 1) := by decide +kernel
theorem dX6_factOf_19 : decode cX6_factOf 19 = .ok (.ifCond .lt 9, 3) := by decide +kernel
theorem dX6_factOf_22 : decode cX6_factOf 22 = .ok (.iload_n 2, 1) := by decide +kernel
theorem dX6_factOf_23 : decode cX6_factOf 23 = .ok (.bipush 6, 2) := by decide +kernel
theorem dX6_factOf_25 : decode cX6_factOf 25 = .ok (.if_icmp .lt 5, 3) := by decide +kernel
theorem dX6_factOf_28 : decode cX6_factOf 28 = .ok (.iconst (-1), 1) := by decide +kernel
theorem dX6_factOf_29 : decode cX6_factOf 29 = .ok (.ireturn, 1) := by decide +kernel
theorem dX6_factOf_30 : decode cX6_factOf 30 = .ok (.aload_n 0, 1) := by decide +kernel
theorem dX6_factOf_31 : decode cX6_factOf 31 = .ok (.getfield 9, 3) := by decide +kernel
theorem dX6_factOf_34 : decode cX6_factOf 34 = .ok (.iload_n 1, 1) := by decide +kernel
theorem dX6_factOf_35 : decode cX6_factOf 35 = .ok (.bipush 6, 2) := by decide +kernel
theorem dX6_factOf_37 : decode cX6_factOf 37 = .ok (.imul, 1) := by decide +kernel
theorem dX6_factOf_38 : decode cX6_factOf 38 = .ok (.iload_n 2, 1) := by decide +kernel
theorem dX6_factOf_39 : decode cX6_factOf 39 = .ok (.iadd, 1) := by decide +kernel
theorem dX6_factOf_40 : decode cX6_factOf 40 = .ok (.iaload, 1) := by decide +kernel
theorem dX6_factOf_41 : decode cX6_factOf 41 = .ok (.ireturn, 1) := by decide +kernel
theorem kX6_factOf_0 : (.fieldLink RX6 34 "RunDesk$Runners" "entered" "I" : Cond) ∈ wsX6_factOf := List.mem_of_getElem? (i := 1) (by decide +kernel)
theorem qX6_factOf_X6 : ∀ w ∈ wsX60, w ∈ wsX6_factOf := fun _ h => List.mem_cons_of_mem _ (List.mem_append_right _ (h))
theorem kX6_factOf_2 : (.fieldLink RX6 9 "RunDesk$Runners" "facts" "[I" : Cond) ∈ wsX6_factOf := List.mem_of_getElem? (i := 2) (by decide +kernel)
set_option maxHeartbeats 4000000 in
set_option maxRecDepth 100000 in
theorem mX6_factOf (l : Launch) (D : va_G) (cB cI cZ : ClassId) (a_t : Nat) (a_t_facts : Nat) (a_t_splits : Nat) (a_t_torn : Nat) (a_t_dropped : Nat) (a_t_waved : Nat) (a_t_struck : Nat) (a_t_strikingOrder : Nat) (t_entered : Int32) (t_strikings : Int32) (t_facts : Nat → Int32) (sz : Nat) (x1 : Int32) (x2 : Int32) (r0 : Int32) (h : fX6_factOf t_entered t_facts x1 x2 = some (r0)) : Met l yX6_factOf wsX6_factOf ({ frames := 0, cells := 0, slots := 0, locals := 0 } : Room) (va_Pc [.ref a_t, .int x1, .int x2] (zPre D (zT cB cI cZ) [(a_t, .inr (6, [.ref a_t_facts, .ref a_t_splits, .ref a_t_torn, .ref a_t_dropped, .ref a_t_waved, .ref a_t_struck, .ref a_t_strikingOrder, .int t_entered, .int t_strikings])), (a_t_facts, .inl (cI, 360, .inl t_facts))] sz)) (zQi r0 D (zT cB cI cZ) [(a_t, .inr (6, [.ref a_t_facts, .ref a_t_splits, .ref a_t_torn, .ref a_t_dropped, .ref a_t_waved, .ref a_t_struck, .ref a_t_strikingOrder, .int t_entered, .int t_strikings])), (a_t_facts, .inl (cI, 360, .inl t_facts))] (va_A [(a_t, .inr (6, [.ref a_t_facts, .ref a_t_splits, .ref a_t_torn, .ref a_t_dropped, .ref a_t_waved, .ref a_t_struck, .ref a_t_strikingOrder, .int t_entered, .int t_strikings])), (a_t_facts, .inl (cI, 360, .inl t_facts))] sz)) 0 0 (va_A [(a_t, .inr (6, [.ref a_t_facts, .ref a_t_splits, .ref a_t_torn, .ref a_t_dropped, .ref a_t_waved, .ref a_t_struck, .ref a_t_strikingOrder, .int t_entered, .int t_strikings])), (a_t_facts, .inl (cI, 360, .inl t_facts))] sz) := by
  refine Met.ofW (cc := cX6_factOf) (maxL := 3) (ret := (some .int)) (by decide) rfl ?_
  intro p e s m args below meth c s₁ B hml hv
  obtain ⟨rfl, hsz, hP, hK, hN, hZ, hD0⟩ := hv
  have hx := B.exec
  have hb := B.bytes
  have hr := B.returns
  have hts := atoms_spec (ws := wsX6_factOf) B.pre
  have hown : s.vm.findClass RX6 = some m.cls := findClass_of_methodNamed B.named
  have hlocks := B.notSynchronized
  subst hsz
  have hD := hD0.self (sz := s.heap.size)
  generalize hAe : va_A [(a_t, .inr (6, [.ref a_t_facts, .ref a_t_splits, .ref a_t_torn, .ref a_t_dropped, .ref a_t_waved, .ref a_t_struck, .ref a_t_strikingOrder, .int t_entered, .int t_strikings])), (a_t_facts, .inl (cI, 360, .inl t_facts))] s.heap.size = A at hD hZ ⊢
  have hA : ∀ q : Nat, s.heap.size ≤ q → A q := fun q h => by rw [← hAe]; exact Or.inr h
  have hS : va_S A s.heap s.heap [] := va_S.rf
  have hl := lv_entry ([.ref a_t, .int x1, .int x2]) (n := 3) (Nat.le_of_ble_eq_true rfl)
  rw [lg_entry_eq]
  generalize (lg_sl ([.ref a_t, .int x1, .int x2]) ++ List.replicate (3 - (lg_sl ([.ref a_t, .int x1, .int x2])).length) Slot.unset).toArray = ls at hl ⊢
  have hl : lv_has ls 3 [(0, .ref a_t), (1, .int x1), (2, .int x2)] := hl
  unfold fX6_factOf at h
  refine lv_iload_n hx hb dX6_factOf_0 rfl (lv_at hl 1 rfl) ?_
  refine lv_if_lt (tgt := 28) hx hb dX6_factOf_1 (by decide) (fun c1 => ?_) (fun c1 => ?_)
  · have h := zz_t h c1
    refine lv_iconst (v := (-1 : Int32)) hx hb dX6_factOf_28 rfl ?_
    have j0_ := Option.some.inj h
    subst j0_
    exact W.iret (v := (-1 : Int32)) hx hb hr (fun t ht hW => ⟨⟨_, (), rfl, rfl, zPost.of hP hD hK ht hW [0, 1] rfl rfl rfl⟩, hS.F ht⟩) hS.2.2 dX6_factOf_29
  · have h := zz_f h c1
    refine lv_iload_n hx hb dX6_factOf_4 rfl (lv_at hl 1 rfl) ?_
    refine lv_aload_n hx hb dX6_factOf_5 rfl (lv_at hl 0 rfl) ?_
    refine va_get (D := D) (ci := 6) (C := RX6) (T := TX6) (N := 9) hx hb hts qX6_factOf_X6 hown hK hP 0 rfl rfl 7 (by decide) (hts _ kX6_factOf_0) (fun _ h9 => h9) rfl dX6_factOf_6 ?_
    refine lv_icmp_ge (tgt := 28) hx hb dX6_factOf_9 (by decide) (fun c2 => ?_) (fun c2 => ?_)
    · have h := zz_t h c2
      refine lv_iconst (v := (-1 : Int32)) hx hb dX6_factOf_28 rfl ?_
      have j0_ := Option.some.inj h
      subst j0_
      exact W.iret (v := (-1 : Int32)) hx hb hr (fun t ht hW => ⟨⟨_, (), rfl, rfl, zPost.of hP hD hK ht hW [0, 1] rfl rfl rfl⟩, hS.F ht⟩) hS.2.2 dX6_factOf_29
    · have h := zz_f h c2
      refine lv_iload_n hx hb dX6_factOf_12 rfl (lv_at hl 1 rfl) ?_
      refine lv_bipush (v := (nI 60)) hx hb dX6_factOf_13 rfl ?_
      refine lv_icmp_ge (tgt := 28) hx hb dX6_factOf_15 (by decide) (fun c3 => ?_) (fun c3 => ?_)
      · have h := zz_t h c3
        refine lv_iconst (v := (-1 : Int32)) hx hb dX6_factOf_28 rfl ?_
        have j0_ := Option.some.inj h
        subst j0_
        exact W.iret (v := (-1 : Int32)) hx hb hr (fun t ht hW => ⟨⟨_, (), rfl, rfl, zPost.of hP hD hK ht hW [0, 1] rfl rfl rfl⟩, hS.F ht⟩) hS.2.2 dX6_factOf_29
      · have h := zz_f h c3
        refine lv_iload_n hx hb dX6_factOf_18 rfl (lv_at hl 2 rfl) ?_
        refine lv_if_lt (tgt := 28) hx hb dX6_factOf_19 (by decide) (fun c4 => ?_) (fun c4 => ?_)
        · have h := zz_t h c4
          refine lv_iconst (v := (-1 : Int32)) hx hb dX6_factOf_28 rfl ?_
          have j0_ := Option.some.inj h
          subst j0_
          exact W.iret (v := (-1 : Int32)) hx hb hr (fun t ht hW => ⟨⟨_, (), rfl, rfl, zPost.of hP hD hK ht hW [0, 1] rfl rfl rfl⟩, hS.F ht⟩) hS.2.2 dX6_factOf_29
        · have h := zz_f h c4
          refine lv_iload_n hx hb dX6_factOf_22 rfl (lv_at hl 2 rfl) ?_
          refine lv_bipush (v := (nI 6)) hx hb dX6_factOf_23 rfl ?_
          refine lv_icmp_lt (tgt := 30) hx hb dX6_factOf_25 (by decide) (fun c5 => ?_) (fun c5 => ?_)
          · have h := zz_t h c5
            refine lv_aload_n hx hb dX6_factOf_30 rfl (lv_at hl 0 rfl) ?_
            refine va_get (D := D) (ci := 6) (C := RX6) (T := TX6) (N := 9) hx hb hts qX6_factOf_X6 hown hK hP 0 rfl rfl 0 (by decide) (hts _ kX6_factOf_2) (fun _ h9 => h9) rfl dX6_factOf_31 ?_
            refine lv_iload_n hx hb dX6_factOf_34 rfl (lv_at hl 1 rfl) ?_
            refine lv_bipush (v := (nI 6)) hx hb dX6_factOf_35 rfl ?_
            refine lv_imul hx hb dX6_factOf_37 ?_
            refine lv_iload_n hx hb dX6_factOf_38 rfl (lv_at hl 2 rfl) ?_
            refine lv_iadd hx hb dX6_factOf_39 ?_
            obtain ⟨i6, h⟩ := zz_i h
            refine va_iald hx hb hK hP 1 1 rfl rfl i6 dX6_factOf_40 ?_
            have j0_ := Option.some.inj h
            subst j0_
            exact W.iret (v := (t_facts (((x1 * (nI 6)) + x2)).toNatClampNeg)) hx hb hr (fun t ht hW => ⟨⟨_, (), rfl, rfl, zPost.of hP hD hK ht hW [0, 1] rfl rfl rfl⟩, hS.F ht⟩) hS.2.2 dX6_factOf_41
          · have h := zz_f h c5
            refine lv_iconst (v := (-1 : Int32)) hx hb dX6_factOf_28 rfl ?_
            have j0_ := Option.some.inj h
            subst j0_
            exact W.iret (v := (-1 : Int32)) hx hb hr (fun t ht hW => ⟨⟨_, (), rfl, rfl, zPost.of hP hD hK ht hW [0, 1] rfl rfl rfl⟩, hS.F ht⟩) hS.2.2 dX6_factOf_29
/-! RunDesk.leastLimit -/
theorem dX10_leastLimit_0 : decode cX10_leastLimit 0 = .ok (.iload_n 0, 1) := by decide +kernel
theorem dX10_leastLimit_1 : decode cX10_leastLimit 1 = .ok (.lookupswitch 34 #[(2, 27), (3, 30)], 27) := by decide +kernel
theorem dX10_leastLimit_28 : decode cX10_leastLimit 28 = .ok (.bipush 80, 2) := by decide +kernel
theorem dX10_leastLimit_30 : decode cX10_leastLimit 30 = .ok (.ireturn, 1) := by decide +kernel
theorem dX10_leastLimit_31 : decode cX10_leastLimit 31 = .ok (.sipush 300, 3) := by decide +kernel
theorem dX10_leastLimit_34 : decode cX10_leastLimit 34 = .ok (.ireturn, 1) := by decide +kernel
theorem dX10_leastLimit_35 : decode cX10_leastLimit 35 = .ok (.sipush 150, 3) := by decide +kernel
theorem dX10_leastLimit_38 : decode cX10_leastLimit 38 = .ok (.ireturn, 1) := by decide +kernel
set_option maxHeartbeats 4000000 in
set_option maxRecDepth 100000 in
theorem mX10_leastLimit (l : Launch) (D : va_G) (cB cI cZ : ClassId) (sz : Nat) (x1 : Int32) (r0 : Int32) (h : fX10_leastLimit x1 = some (r0)) : Met l yX10_leastLimit wsX10_leastLimit ({ frames := 0, cells := 0, slots := 0, locals := 0 } : Room) (va_Pc [.int x1] (zPre D (zT cB cI cZ) [] sz)) (zQi r0 D (zT cB cI cZ) [] (va_A [] sz)) 0 0 (va_A [] sz) := by
  refine Met.ofW (cc := cX10_leastLimit) (maxL := 1) (ret := (some .int)) (by decide) rfl ?_
  intro p e s m args below meth c s₁ B hml hv
  obtain ⟨rfl, hsz, hP, hK, hN, hZ, hD0⟩ := hv
  have hx := B.exec
  have hb := B.bytes
  have hr := B.returns
  have hts := atoms_spec (ws := wsX10_leastLimit) B.pre
  have hown : s.vm.findClass RX10 = some m.cls := findClass_of_methodNamed B.named
  have hlocks := B.notSynchronized
  subst hsz
  have hD := hD0.self (sz := s.heap.size)
  generalize hAe : va_A [] s.heap.size = A at hD hZ ⊢
  have hA : ∀ q : Nat, s.heap.size ≤ q → A q := fun q h => by rw [← hAe]; exact Or.inr h
  have hS : va_S A s.heap s.heap [] := va_S.rf
  have hl := lv_entry ([.int x1]) (n := 1) (Nat.le_of_ble_eq_true rfl)
  rw [lg_entry_eq]
  generalize (lg_sl ([.int x1]) ++ List.replicate (1 - (lg_sl ([.int x1])).length) Slot.unset).toArray = ls at hl ⊢
  have hl : lv_has ls 1 [(0, .int x1)] := hl
  unfold fX10_leastLimit at h
  refine lv_iload_n hx hb dX10_leastLimit_0 rfl (lv_at hl 0 rfl) ?_
  by_cases c1 : x1 = (nI 2)
  · have h := zz_t h c1
    refine lv_lookup (off := 27) (tgt := 28) hx hb dX10_leastLimit_1 (by decide) (by rw [c1]; decide) (by decide) ?_
    refine lv_bipush (v := (nI 80)) hx hb dX10_leastLimit_28 rfl ?_
    have j0_ := Option.some.inj h
    subst j0_
    exact W.iret (v := (nI 80)) hx hb hr (fun t ht hW => ⟨⟨_, (), rfl, rfl, zPost.of hP hD hK ht hW [] rfl rfl rfl⟩, hS.F ht⟩) hS.2.2 dX10_leastLimit_30
  · have h := zz_f h c1
    by_cases c2 : x1 = (nI 3)
    · have h := zz_t h c2
      refine lv_lookup (off := 30) (tgt := 31) hx hb dX10_leastLimit_1 (by decide) (by rw [c2]; decide) (by decide) ?_
      refine lv_sipush (v := (nI 300)) hx hb dX10_leastLimit_31 rfl ?_
      have j0_ := Option.some.inj h
      subst j0_
      exact W.iret (v := (nI 300)) hx hb hr (fun t ht hW => ⟨⟨_, (), rfl, rfl, zPost.of hP hD hK ht hW [] rfl rfl rfl⟩, hS.F ht⟩) hS.2.2 dX10_leastLimit_34
    · have h := zz_f h c2
      refine lv_lookup (off := 34) (tgt := 35) hx hb dX10_leastLimit_1 (by decide) ((lv_osw c1 (by decide)).trans ((lv_osw c2 (by decide)).trans rfl)) (by decide) ?_
      refine lv_sipush (v := (nI 150)) hx hb dX10_leastLimit_35 rfl ?_
      have j0_ := Option.some.inj h
      subst j0_
      exact W.iret (v := (nI 150)) hx hb hr (fun t ht hW => ⟨⟨_, (), rfl, rfl, zPost.of hP hD hK ht hW [] rfl rfl rfl⟩, hS.F ht⟩) hS.2.2 dX10_leastLimit_38
/-! RunDesk.greatestLimit -/
theorem dX10_greatestLimit_0 : decode cX10_greatestLimit 0 = .ok (.iload_n 0, 1) := by decide +kernel
theorem dX10_greatestLimit_1 : decode cX10_greatestLimit 1 = .ok (.iconst 3, 1) := by decide +kernel
theorem dX10_greatestLimit_2 : decode cX10_greatestLimit 2 = .ok (.if_icmp .ne 9, 3) := by decide +kernel
theorem dX10_greatestLimit_5 : decode cX10_greatestLimit 5 = .ok (.sipush 1500, 3) := by decide +kernel
theorem dX10_greatestLimit_8 : decode cX10_greatestLimit 8 = .ok (.goto 6, 3) := by decide +kernel
theorem dX10_greatestLimit_11 : decode cX10_greatestLimit 11 = .ok (.sipush 900, 3) := by decide +kernel
theorem dX10_greatestLimit_14 : decode cX10_greatestLimit 14 = .ok (.ireturn, 1) := by decide +kernel
set_option maxHeartbeats 4000000 in
set_option maxRecDepth 100000 in
theorem mX10_greatestLimit (l : Launch) (D : va_G) (cB cI cZ : ClassId) (sz : Nat) (x1 : Int32) (r0 : Int32) (h : fX10_greatestLimit x1 = some (r0)) : Met l yX10_greatestLimit wsX10_greatestLimit ({ frames := 0, cells := 0, slots := 0, locals := 0 } : Room) (va_Pc [.int x1] (zPre D (zT cB cI cZ) [] sz)) (zQi r0 D (zT cB cI cZ) [] (va_A [] sz)) 0 0 (va_A [] sz) := by
  refine Met.ofW (cc := cX10_greatestLimit) (maxL := 1) (ret := (some .int)) (by decide) rfl ?_
  intro p e s m args below meth c s₁ B hml hv
  obtain ⟨rfl, hsz, hP, hK, hN, hZ, hD0⟩ := hv
  have hx := B.exec
  have hb := B.bytes
  have hr := B.returns
  have hts := atoms_spec (ws := wsX10_greatestLimit) B.pre
  have hown : s.vm.findClass RX10 = some m.cls := findClass_of_methodNamed B.named
  have hlocks := B.notSynchronized
  subst hsz
  have hD := hD0.self (sz := s.heap.size)
  generalize hAe : va_A [] s.heap.size = A at hD hZ ⊢
  have hA : ∀ q : Nat, s.heap.size ≤ q → A q := fun q h => by rw [← hAe]; exact Or.inr h
  have hS : va_S A s.heap s.heap [] := va_S.rf
  have hl := lv_entry ([.int x1]) (n := 1) (Nat.le_of_ble_eq_true rfl)
  rw [lg_entry_eq]
  generalize (lg_sl ([.int x1]) ++ List.replicate (1 - (lg_sl ([.int x1])).length) Slot.unset).toArray = ls at hl ⊢
  have hl : lv_has ls 1 [(0, .int x1)] := hl
  unfold fX10_greatestLimit at h
  refine lv_iload_n hx hb dX10_greatestLimit_0 rfl (lv_at hl 0 rfl) ?_
  refine lv_iconst (v := (nI 3)) hx hb dX10_greatestLimit_1 rfl ?_
  refine lv_icmp_ne (tgt := 11) hx hb dX10_greatestLimit_2 (by decide) (fun c1 => ?_) (fun c1 => ?_)
  · have h := zz_f h c1
    refine lv_sipush (v := (nI 900)) hx hb dX10_greatestLimit_11 rfl ?_
    have j0_ := Option.some.inj h
    subst j0_
    exact W.iret (v := (nI 900)) hx hb hr (fun t ht hW => ⟨⟨_, (), rfl, rfl, zPost.of hP hD hK ht hW [] rfl rfl rfl⟩, hS.F ht⟩) hS.2.2 dX10_greatestLimit_14
  · have h := zz_t h c1
    refine lv_sipush (v := (nI 1500)) hx hb dX10_greatestLimit_5 rfl ?_
    refine lv_goto (tgt := 14) hx hb dX10_greatestLimit_8 (by decide) ?_
    have j0_ := Option.some.inj h
    subst j0_
    exact W.iret (v := (nI 1500)) hx hb hr (fun t ht hW => ⟨⟨_, (), rfl, rfl, zPost.of hP hD hK ht hW [] rfl rfl rfl⟩, hS.F ht⟩) hS.2.2 dX10_greatestLimit_14
/-! RunDesk$Way.size -/
theorem dX9_size_0 : decode cX9_size 0 = .ok (.aload_n 0, 1) := by decide +kernel
theorem dX9_size_1 : decode cX9_size 1 = .ok (.getfield 25, 3) := by decide +kernel
theorem dX9_size_4 : decode cX9_size 4 = .ok (.ireturn, 1) := by decide +kernel
theorem kX9_size_0 : (.fieldLink RX9 25 "RunDesk$Way" "mats" "I" : Cond) ∈ wsX9_size := List.mem_of_getElem? (i := 1) (by decide +kernel)
theorem qX9_size_X9 : ∀ w ∈ wsX90, w ∈ wsX9_size := fun _ h => List.mem_cons_of_mem _ (List.mem_append_right _ (h))
set_option maxHeartbeats 4000000 in
set_option maxRecDepth 100000 in
theorem mX9_size (l : Launch) (D : va_G) (cB cI cZ : ClassId) (a_t : Nat) (a_t_places : Nat) (a_t_bearings : Nat) (a_t_cuts : Nat) (a_t_deaths : Nat) (t_mats : Int32) (sz : Nat) (r0 : Int32) (h : fX9_size t_mats = some (r0)) : Met l yX9_size wsX9_size ({ frames := 0, cells := 0, slots := 0, locals := 0 } : Room) (va_Pc [.ref a_t] (zPre D (zT cB cI cZ) [(a_t, .inr (9, [.ref a_t_places, .ref a_t_bearings, .ref a_t_cuts, .ref a_t_deaths, .int t_mats]))] sz)) (zQi r0 D (zT cB cI cZ) [(a_t, .inr (9, [.ref a_t_places, .ref a_t_bearings, .ref a_t_cuts, .ref a_t_deaths, .int t_mats]))] (va_A [(a_t, .inr (9, [.ref a_t_places, .ref a_t_bearings, .ref a_t_cuts, .ref a_t_deaths, .int t_mats]))] sz)) 0 0 (va_A [(a_t, .inr (9, [.ref a_t_places, .ref a_t_bearings, .ref a_t_cuts, .ref a_t_deaths, .int t_mats]))] sz) := by
  refine Met.ofW (cc := cX9_size) (maxL := 1) (ret := (some .int)) (by decide) rfl ?_
  intro p e s m args below meth c s₁ B hml hv
  obtain ⟨rfl, hsz, hP, hK, hN, hZ, hD0⟩ := hv
  have hx := B.exec
  have hb := B.bytes
  have hr := B.returns
  have hts := atoms_spec (ws := wsX9_size) B.pre
  have hown : s.vm.findClass RX9 = some m.cls := findClass_of_methodNamed B.named
  have hlocks := B.notSynchronized
  subst hsz
  have hD := hD0.self (sz := s.heap.size)
  generalize hAe : va_A [(a_t, .inr (9, [.ref a_t_places, .ref a_t_bearings, .ref a_t_cuts, .ref a_t_deaths, .int t_mats]))] s.heap.size = A at hD hZ ⊢
  have hA : ∀ q : Nat, s.heap.size ≤ q → A q := fun q h => by rw [← hAe]; exact Or.inr h
  have hS : va_S A s.heap s.heap [] := va_S.rf
  have hl := lv_entry ([.ref a_t]) (n := 1) (Nat.le_of_ble_eq_true rfl)
  rw [lg_entry_eq]
  generalize (lg_sl ([.ref a_t]) ++ List.replicate (1 - (lg_sl ([.ref a_t])).length) Slot.unset).toArray = ls at hl ⊢
  have hl : lv_has ls 1 [(0, .ref a_t)] := hl
  unfold fX9_size at h
  refine lv_aload_n hx hb dX9_size_0 rfl (lv_at hl 0 rfl) ?_
  refine va_get (D := D) (ci := 9) (C := RX9) (T := TX9) (N := 5) hx hb hts qX9_size_X9 hown hK hP 0 rfl rfl 4 (by decide) (hts _ kX9_size_0) (fun _ h9 => h9) rfl dX9_size_1 ?_
  have j0_ := Option.some.inj h
  subst j0_
  exact W.iret (v := t_mats) hx hb hr (fun t ht hW => ⟨⟨_, (), rfl, rfl, zPost.of hP hD hK ht hW [0] rfl rfl rfl⟩, hS.F ht⟩) hS.2.2 dX9_size_4
/-! RunDesk$Runners.has -/
theorem dX6_has_0 : decode cX6_has 0 = .ok (.iload_n 1, 1) := by decide +kernel
theorem dX6_has_1 : decode cX6_has 1 = .ok (.ifCond .lt 21, 3) := by decide +kernel
theorem dX6_has_4 : decode cX6_has 4 = .ok (.iload_n 1, 1) := by decide +kernel
theorem dX6_has_5 : decode cX6_has 5 = .ok (.aload_n 0, 1) := by decide +kernel
theorem dX6_has_6 : decode cX6_has 6 = .ok (.getfield 34, 3) := by decide +kernel
theorem dX6_has_9 : decode cX6_has 9 = .ok (.if_icmp .ge 13, 3) := by decide +kernel
theorem dX6_has_12 : decode cX6_has 12 = .ok (.iload_n 1, 1) := by decide +kernel
theorem dX6_has_13 : decode cX6_has 13 = .ok (.bipush 60, 2) := by decide +kernel
theorem dX6_has_15 : decode cX6_has 15 = .ok (.if_icmp .ge 7, 3) := by decide +kernel
theorem dX6_has_18 : decode cX6_has 18 = .ok (.iconst 1, 1) := by decide +kernel
theorem dX6_has_19 : decode cX6_has 19 = .ok (.goto 4, 3) := by decide +kernel
theorem dX6_has_22 : decode cX6_has 22 = .ok (.iconst 0, 1) := by decide +kernel
theorem dX6_has_23 : decode cX6_has 23 = .ok (.ireturn, 1) := by decide +kernel
theorem kX6_has_0 : (.fieldLink RX6 34 "RunDesk$Runners" "entered" "I" : Cond) ∈ wsX6_has := List.mem_of_getElem? (i := 1) (by decide +kernel)
theorem qX6_has_X6 : ∀ w ∈ wsX60, w ∈ wsX6_has := fun _ h => List.mem_cons_of_mem _ (List.mem_append_right _ (h))
set_option maxHeartbeats 4000000 in
set_option maxRecDepth 100000 in
theorem mX6_has (l : Launch) (D : va_G) (cB cI cZ : ClassId) (a_t : Nat) (a_t_facts : Nat) (a_t_splits : Nat) (a_t_torn : Nat) (a_t_dropped : Nat) (a_t_waved : Nat) (a_t_struck : Nat) (a_t_strikingOrder : Nat) (t_entered : Int32) (t_strikings : Int32) (sz : Nat) (x1 : Int32) (b0 : Bool) (h : fX6_has t_entered x1 = some (b0)) : Met l yX6_has wsX6_has ({ frames := 0, cells := 0, slots := 0, locals := 0 } : Room) (va_Pc [.ref a_t, .int x1] (zPre D (zT cB cI cZ) [(a_t, .inr (6, [.ref a_t_facts, .ref a_t_splits, .ref a_t_torn, .ref a_t_dropped, .ref a_t_waved, .ref a_t_struck, .ref a_t_strikingOrder, .int t_entered, .int t_strikings]))] sz)) (zQi (zb b0) D (zT cB cI cZ) [(a_t, .inr (6, [.ref a_t_facts, .ref a_t_splits, .ref a_t_torn, .ref a_t_dropped, .ref a_t_waved, .ref a_t_struck, .ref a_t_strikingOrder, .int t_entered, .int t_strikings]))] (va_A [(a_t, .inr (6, [.ref a_t_facts, .ref a_t_splits, .ref a_t_torn, .ref a_t_dropped, .ref a_t_waved, .ref a_t_struck, .ref a_t_strikingOrder, .int t_entered, .int t_strikings]))] sz)) 0 0 (va_A [(a_t, .inr (6, [.ref a_t_facts, .ref a_t_splits, .ref a_t_torn, .ref a_t_dropped, .ref a_t_waved, .ref a_t_struck, .ref a_t_strikingOrder, .int t_entered, .int t_strikings]))] sz) := by
  refine Met.ofW (cc := cX6_has) (maxL := 2) (ret := (some .boolean)) (by decide) rfl ?_
  intro p e s m args below meth c s₁ B hml hv
  obtain ⟨rfl, hsz, hP, hK, hN, hZ, hD0⟩ := hv
  have hx := B.exec
  have hb := B.bytes
  have hr := B.returns
  have hts := atoms_spec (ws := wsX6_has) B.pre
  have hown : s.vm.findClass RX6 = some m.cls := findClass_of_methodNamed B.named
  have hlocks := B.notSynchronized
  subst hsz
  have hD := hD0.self (sz := s.heap.size)
  generalize hAe : va_A [(a_t, .inr (6, [.ref a_t_facts, .ref a_t_splits, .ref a_t_torn, .ref a_t_dropped, .ref a_t_waved, .ref a_t_struck, .ref a_t_strikingOrder, .int t_entered, .int t_strikings]))] s.heap.size = A at hD hZ ⊢
  have hA : ∀ q : Nat, s.heap.size ≤ q → A q := fun q h => by rw [← hAe]; exact Or.inr h
  have hS : va_S A s.heap s.heap [] := va_S.rf
  have hl := lv_entry ([.ref a_t, .int x1]) (n := 2) (Nat.le_of_ble_eq_true rfl)
  rw [lg_entry_eq]
  generalize (lg_sl ([.ref a_t, .int x1]) ++ List.replicate (2 - (lg_sl ([.ref a_t, .int x1])).length) Slot.unset).toArray = ls at hl ⊢
  have hl : lv_has ls 2 [(0, .ref a_t), (1, .int x1)] := hl
  unfold fX6_has at h
  refine lv_iload_n hx hb dX6_has_0 rfl (lv_at hl 1 rfl) ?_
  refine lv_if_lt (tgt := 22) hx hb dX6_has_1 (by decide) (fun c1 => ?_) (fun c1 => ?_)
  · have h := zz_t h c1
    refine lv_iconst (v := (nI 0)) hx hb dX6_has_22 rfl ?_
    have j0_ := Option.some.inj h
    subst j0_
    exact W.zret (v := (nI 0)) hx hb hr rfl (fun t ht hW => ⟨⟨_, (), rfl, rfl, zPost.of hP hD hK ht hW [0] rfl rfl rfl⟩, hS.F ht⟩) hS.2.2 dX6_has_23
  · have h := zz_f h c1
    refine lv_iload_n hx hb dX6_has_4 rfl (lv_at hl 1 rfl) ?_
    refine lv_aload_n hx hb dX6_has_5 rfl (lv_at hl 0 rfl) ?_
    refine va_get (D := D) (ci := 6) (C := RX6) (T := TX6) (N := 9) hx hb hts qX6_has_X6 hown hK hP 0 rfl rfl 7 (by decide) (hts _ kX6_has_0) (fun _ h9 => h9) rfl dX6_has_6 ?_
    refine lv_icmp_ge (tgt := 22) hx hb dX6_has_9 (by decide) (fun c2 => ?_) (fun c2 => ?_)
    · have h := zz_t h c2
      refine lv_iconst (v := (nI 0)) hx hb dX6_has_22 rfl ?_
      have j0_ := Option.some.inj h
      subst j0_
      exact W.zret (v := (nI 0)) hx hb hr rfl (fun t ht hW => ⟨⟨_, (), rfl, rfl, zPost.of hP hD hK ht hW [0] rfl rfl rfl⟩, hS.F ht⟩) hS.2.2 dX6_has_23
    · have h := zz_f h c2
      refine lv_iload_n hx hb dX6_has_12 rfl (lv_at hl 1 rfl) ?_
      refine lv_bipush (v := (nI 60)) hx hb dX6_has_13 rfl ?_
      refine lv_icmp_ge (tgt := 22) hx hb dX6_has_15 (by decide) (fun c3 => ?_) (fun c3 => ?_)
      · have h := zz_t h c3
        refine lv_iconst (v := (nI 0)) hx hb dX6_has_22 rfl ?_
        have j0_ := Option.some.inj h
        subst j0_
        exact W.zret (v := (nI 0)) hx hb hr rfl (fun t ht hW => ⟨⟨_, (), rfl, rfl, zPost.of hP hD hK ht hW [0] rfl rfl rfl⟩, hS.F ht⟩) hS.2.2 dX6_has_23
      · have h := zz_f h c3
        refine lv_iconst (v := (nI 1)) hx hb dX6_has_18 rfl ?_
        refine lv_goto (tgt := 23) hx hb dX6_has_19 (by decide) ?_
        have j0_ := Option.some.inj h
        subst j0_
        exact W.zret (v := (nI 1)) hx hb hr rfl (fun t ht hW => ⟨⟨_, (), rfl, rfl, zPost.of hP hD hK ht hW [0] rfl rfl rfl⟩, hS.F ht⟩) hS.2.2 dX6_has_23
/-! RunDesk$Runners.splitAt -/
theorem dX6_splitAt_0 : decode cX6_splitAt 0 = .ok (.aload_n 0, 1) := by decide +kernel
theorem dX6_splitAt_1 : decode cX6_splitAt 1 = .ok (.iload_n 1, 1) := by decide +kernel
theorem dX6_splitAt_2 : decode cX6_splitAt 2 = .ok (.invokevirtual 41, 3) := by decide +kernel
theorem dX6_splitAt_5 : decode cX6_splitAt 5 = .ok (.ifCond .eq 13, 3) := by decide +kernel
theorem dX6_splitAt_8 : decode cX6_splitAt 8 = .ok (.iload_n 2, 1) := by decide +kernel
theorem dX6_splitAt_9 : decode cX6_splitAt 9 = .ok (.ifCond .lt 9, 3) := by decide +kernel
theorem dX6_splitAt_12 : decode cX6_splitAt 12 = .ok (.iload_n 2, 1) := by decide +kernel
theorem dX6_splitAt_13 : decode cX6_splitAt 13 = .ok (.bipush 12, 2) := by decide +kernel
theorem dX6_splitAt_15 : decode cX6_splitAt 15 = .ok (.if_icmp .lt 5, 3) := by decide +kernel
theorem dX6_splitAt_18 : decode cX6_splitAt 18 = .ok (.iconst (-1), 1) := by decide +kernel
theorem dX6_splitAt_19 : decode cX6_splitAt 19 = .ok (.ireturn, 1) := by decide +kernel
theorem dX6_splitAt_20 : decode cX6_splitAt 20 = .ok (.aload_n 0, 1) := by decide +kernel
theorem dX6_splitAt_21 : decode cX6_splitAt 21 = .ok (.getfield 15, 3) := by decide +kernel
theorem dX6_splitAt_24 : decode cX6_splitAt 24 = .ok (.iload_n 1, 1) := by decide +kernel
theorem dX6_splitAt_25 : decode cX6_splitAt 25 = .ok (.bipush 12, 2) := by decide +kernel
theorem dX6_splitAt_27 : decode cX6_splitAt 27 = .ok (.imul, 1) := by decide +kernel
theorem dX6_splitAt_28 : decode cX6_splitAt 28 = .ok (.iload_n 2, 1) := by decide +kernel
theorem dX6_splitAt_29 : decode cX6_splitAt 29 = .ok (.iadd, 1) := by decide +kernel
theorem dX6_splitAt_30 : decode cX6_splitAt 30 = .ok (.iaload, 1) := by decide +kernel
theorem dX6_splitAt_31 : decode cX6_splitAt 31 = .ok (.ireturn, 1) := by decide +kernel
set_option maxRecDepth 20000 in
theorem ggX6_splitAt_X6_has : GoodIn wsX6_splitAt wsX6_has := goodIn_sub (List.forall_mem_cons.mpr ⟨List.mem_cons_of_mem _ (List.mem_append_left _ (List.mem_of_getElem? (i := 5) rfl)), (List.forall_mem_append.mpr ⟨(List.forall_mem_cons.mpr ⟨List.mem_cons_of_mem _ (List.mem_append_left _ (List.mem_of_getElem? (i := 6) rfl)), (fun _ h => nomatch h)⟩), (fun _ h => List.mem_cons_of_mem _ (List.mem_append_right _ (h)))⟩)⟩) (by decide +kernel)
set_option maxRecDepth 20000 in
theorem gX6_splitAt_X6_has : GoodIn wsX6_splitAt (wsV RX6 41 RX6 yX6_has wsX6_has) := goodIn_app (goodIn_of _ (by decide +kernel)) ggX6_splitAt_X6_has
theorem kX6_splitAt_0 : (.fieldLink RX6 15 "RunDesk$Runners" "splits" "[I" : Cond) ∈ wsX6_splitAt := List.mem_of_getElem? (i := 1) (by decide +kernel)
theorem qX6_splitAt_X6 : ∀ w ∈ wsX60, w ∈ wsX6_splitAt := fun _ h => List.mem_cons_of_mem _ (List.mem_append_right _ (h))
set_option maxHeartbeats 4000000 in
set_option maxRecDepth 100000 in
theorem mX6_splitAt (l : Launch) (D : va_G) (cB cI cZ : ClassId) (a_t : Nat) (a_t_facts : Nat) (a_t_splits : Nat) (a_t_torn : Nat) (a_t_dropped : Nat) (a_t_waved : Nat) (a_t_struck : Nat) (a_t_strikingOrder : Nat) (t_entered : Int32) (t_strikings : Int32) (t_splits : Nat → Int32) (sz : Nat) (x1 : Int32) (x2 : Int32) (r0 : Int32) (h : fX6_splitAt t_entered t_splits x1 x2 = some (r0)) : Met l yX6_splitAt wsX6_splitAt ({ frames := 1, cells := 0, slots := 0, locals := 21 } : Room) (va_Pc [.ref a_t, .int x1, .int x2] (zPre D (zT cB cI cZ) [(a_t, .inr (6, [.ref a_t_facts, .ref a_t_splits, .ref a_t_torn, .ref a_t_dropped, .ref a_t_waved, .ref a_t_struck, .ref a_t_strikingOrder, .int t_entered, .int t_strikings])), (a_t_splits, .inl (cI, 720, .inl t_splits))] sz)) (zQi r0 D (zT cB cI cZ) [(a_t, .inr (6, [.ref a_t_facts, .ref a_t_splits, .ref a_t_torn, .ref a_t_dropped, .ref a_t_waved, .ref a_t_struck, .ref a_t_strikingOrder, .int t_entered, .int t_strikings])), (a_t_splits, .inl (cI, 720, .inl t_splits))] (va_A [(a_t, .inr (6, [.ref a_t_facts, .ref a_t_splits, .ref a_t_torn, .ref a_t_dropped, .ref a_t_waved, .ref a_t_struck, .ref a_t_strikingOrder, .int t_entered, .int t_strikings])), (a_t_splits, .inl (cI, 720, .inl t_splits))] sz)) 0 0 (va_A [(a_t, .inr (6, [.ref a_t_facts, .ref a_t_splits, .ref a_t_torn, .ref a_t_dropped, .ref a_t_waved, .ref a_t_struck, .ref a_t_strikingOrder, .int t_entered, .int t_strikings])), (a_t_splits, .inl (cI, 720, .inl t_splits))] sz) := by
  refine Met.ofW (cc := cX6_splitAt) (maxL := 3) (ret := (some .int)) (by decide) rfl ?_
  intro p e s m args below meth c s₁ B hml hv
  obtain ⟨rfl, hsz, hP, hK, hN, hZ, hD0⟩ := hv
  have hx := B.exec
  have hb := B.bytes
  have hr := B.returns
  have hts := atoms_spec (ws := wsX6_splitAt) B.pre
  have hown : s.vm.findClass RX6 = some m.cls := findClass_of_methodNamed B.named
  have hlocks := B.notSynchronized
  subst hsz
  have hD := hD0.self (sz := s.heap.size)
  generalize hAe : va_A [(a_t, .inr (6, [.ref a_t_facts, .ref a_t_splits, .ref a_t_torn, .ref a_t_dropped, .ref a_t_waved, .ref a_t_struck, .ref a_t_strikingOrder, .int t_entered, .int t_strikings])), (a_t_splits, .inl (cI, 720, .inl t_splits))] s.heap.size = A at hD hZ ⊢
  have hA : ∀ q : Nat, s.heap.size ≤ q → A q := fun q h => by rw [← hAe]; exact Or.inr h
  have hS : va_S A s.heap s.heap [] := va_S.rf
  have hl := lv_entry ([.ref a_t, .int x1, .int x2]) (n := 3) (Nat.le_of_ble_eq_true rfl)
  rw [lg_entry_eq]
  generalize (lg_sl ([.ref a_t, .int x1, .int x2]) ++ List.replicate (3 - (lg_sl ([.ref a_t, .int x1, .int x2])).length) Slot.unset).toArray = ls at hl ⊢
  have hl : lv_has ls 3 [(0, .ref a_t), (1, .int x1), (2, .int x2)] := hl
  unfold fX6_splitAt at h
  refine lv_aload_n hx hb dX6_splitAt_0 rfl (lv_at hl 0 rfl) ?_
  refine lv_iload_n hx hb dX6_splitAt_1 rfl (lv_at hl 1 rfl) ?_
  obtain ⟨b1, e2, h⟩ := zz_b h
  refine zVi (As := [.int x1]) (rest := []) (C := RX6) (wr := [(a_t_splits, .inl (cI, 720, .inl t_splits))]) [0] [1] 0 ⟨hx, hb, hml, hown, hts⟩ (mX6_has l D cB cI cZ a_t a_t_facts a_t_splits a_t_torn a_t_dropped a_t_waved a_t_struck a_t_strikingOrder t_entered t_strikings s.heap.size x1 b1 e2) (cwV 1 hts gX6_splitAt_X6_has rfl rfl rfl (by decide +kernel) ⟨Nat.le_of_ble_eq_true rfl, Nat.le_of_ble_eq_true rfl⟩) hK hN hZ hP hD hS hA rfl rfl rfl rfl rfl rfl rfl rfl hl.1 rfl (lv_room (Nat.le_of_ble_eq_true rfl)) dX6_splitAt_2 ⟨Nat.le_of_ble_eq_true rfl, Nat.le_of_ble_eq_true rfl⟩ (fun H locs hP hD hS => ?_)
  have hP : va_P D vwCl [(a_t_splits, .inl (cI, 720, .inl t_splits)), (a_t, .inr (6, [.ref a_t_facts, .ref a_t_splits, .ref a_t_torn, .ref a_t_dropped, .ref a_t_waved, .ref a_t_struck, .ref a_t_strikingOrder, .int t_entered, .int t_strikings]))] H := hP
  have hD : va_D A [(a_t_splits, .inl (cI, 720, .inl t_splits)), (a_t, .inr (6, [.ref a_t_facts, .ref a_t_splits, .ref a_t_torn, .ref a_t_dropped, .ref a_t_waved, .ref a_t_struck, .ref a_t_strikingOrder, .int t_entered, .int t_strikings]))] := hD
  refine lv_if_eq (tgt := 18) hx hb dX6_splitAt_5 (by decide) (fun c3 => ?_) (fun c3 => ?_)
  · have h := zz_t h c3
    refine lv_iconst (v := (-1 : Int32)) hx hb dX6_splitAt_18 rfl ?_
    have j0_ := Option.some.inj h
    subst j0_
    exact W.iret (v := (-1 : Int32)) hx hb hr (fun t ht hW => ⟨⟨_, (), rfl, rfl, zPost.of hP hD hK ht hW [1, 0] rfl rfl rfl⟩, hS.F ht⟩) hS.2.2 dX6_splitAt_19
  · have h := zz_f h c3
    refine lv_iload_n hx hb dX6_splitAt_8 rfl (lv_at hl 2 rfl) ?_
    refine lv_if_lt (tgt := 18) hx hb dX6_splitAt_9 (by decide) (fun c4 => ?_) (fun c4 => ?_)
    · have h := zz_t h c4
      refine lv_iconst (v := (-1 : Int32)) hx hb dX6_splitAt_18 rfl ?_
      have j0_ := Option.some.inj h
      subst j0_
      exact W.iret (v := (-1 : Int32)) hx hb hr (fun t ht hW => ⟨⟨_, (), rfl, rfl, zPost.of hP hD hK ht hW [1, 0] rfl rfl rfl⟩, hS.F ht⟩) hS.2.2 dX6_splitAt_19
    · have h := zz_f h c4
      refine lv_iload_n hx hb dX6_splitAt_12 rfl (lv_at hl 2 rfl) ?_
      refine lv_bipush (v := (nI 12)) hx hb dX6_splitAt_13 rfl ?_
      refine lv_icmp_lt (tgt := 20) hx hb dX6_splitAt_15 (by decide) (fun c5 => ?_) (fun c5 => ?_)
      · have h := zz_t h c5
        refine lv_aload_n hx hb dX6_splitAt_20 rfl (lv_at hl 0 rfl) ?_
        refine va_get (D := D) (ci := 6) (C := RX6) (T := TX6) (N := 9) hx hb hts qX6_splitAt_X6 hown hK hP 1 rfl rfl 1 (by decide) (hts _ kX6_splitAt_0) (fun _ h9 => h9) rfl dX6_splitAt_21 ?_
        refine lv_iload_n hx hb dX6_splitAt_24 rfl (lv_at hl 1 rfl) ?_
        refine lv_bipush (v := (nI 12)) hx hb dX6_splitAt_25 rfl ?_
        refine lv_imul hx hb dX6_splitAt_27 ?_
        refine lv_iload_n hx hb dX6_splitAt_28 rfl (lv_at hl 2 rfl) ?_
        refine lv_iadd hx hb dX6_splitAt_29 ?_
        obtain ⟨i6, h⟩ := zz_i h
        refine va_iald hx hb hK hP 0 1 rfl rfl i6 dX6_splitAt_30 ?_
        have j0_ := Option.some.inj h
        subst j0_
        exact W.iret (v := (t_splits (((x1 * (nI 12)) + x2)).toNatClampNeg)) hx hb hr (fun t ht hW => ⟨⟨_, (), rfl, rfl, zPost.of hP hD hK ht hW [1, 0] rfl rfl rfl⟩, hS.F ht⟩) hS.2.2 dX6_splitAt_31
      · have h := zz_f h c5
        refine lv_iconst (v := (-1 : Int32)) hx hb dX6_splitAt_18 rfl ?_
        have j0_ := Option.some.inj h
        subst j0_
        exact W.iret (v := (-1 : Int32)) hx hb hr (fun t ht hW => ⟨⟨_, (), rfl, rfl, zPost.of hP hD hK ht hW [1, 0] rfl rfl rfl⟩, hS.F ht⟩) hS.2.2 dX6_splitAt_19
/-! RunDesk$Guns.tickOf -/
theorem dX2_tickOf_0 : decode cX2_tickOf 0 = .ok (.iload_n 1, 1) := by decide +kernel
theorem dX2_tickOf_1 : decode cX2_tickOf 1 = .ok (.ifCond .lt 18, 3) := by decide +kernel
theorem dX2_tickOf_4 : decode cX2_tickOf 4 = .ok (.iload_n 1, 1) := by decide +kernel
theorem dX2_tickOf_5 : decode cX2_tickOf 5 = .ok (.bipush 6, 2) := by decide +kernel
theorem dX2_tickOf_7 : decode cX2_tickOf 7 = .ok (.if_icmp .ge 12, 3) := by decide +kernel
theorem dX2_tickOf_10 : decode cX2_tickOf 10 = .ok (.aload_n 0, 1) := by decide +kernel
theorem dX2_tickOf_11 : decode cX2_tickOf 11 = .ok (.getfield 9, 3) := by decide +kernel
theorem dX2_tickOf_14 : decode cX2_tickOf 14 = .ok (.iload_n 1, 1) := by decide +kernel
theorem dX2_tickOf_15 : decode cX2_tickOf 15 = .ok (.iaload, 1) := by decide +kernel
theorem dX2_tickOf_16 : decode cX2_tickOf 16 = .ok (.goto 4, 3) := by decide +kernel
theorem dX2_tickOf_19 : decode cX2_tickOf 19 = .ok (.iconst (-1), 1) := by decide +kernel
theorem dX2_tickOf_20 : decode cX2_tickOf 20 = .ok (.ireturn, 1) := by decide +kernel
theorem kX2_tickOf_0 : (.fieldLink RX2 9 "RunDesk$Guns" "ticks" "[I" : Cond) ∈ wsX2_tickOf := List.mem_of_getElem? (i := 1) (by decide +kernel)
theorem qX2_tickOf_X2 : ∀ w ∈ wsX20, w ∈ wsX2_tickOf := fun _ h => List.mem_cons_of_mem _ (List.mem_append_right _ (h))
set_option maxHeartbeats 4000000 in
set_option maxRecDepth 100000 in
theorem mX2_tickOf (l : Launch) (D : va_G) (cB cI cZ : ClassId) (a_t : Nat) (a_t_ticks : Nat) (t_ticks : Nat → Int32) (sz : Nat) (x1 : Int32) (r0 : Int32) (h : fX2_tickOf t_ticks x1 = some (r0)) : Met l yX2_tickOf wsX2_tickOf ({ frames := 0, cells := 0, slots := 0, locals := 0 } : Room) (va_Pc [.ref a_t, .int x1] (zPre D (zT cB cI cZ) [(a_t, .inr (2, [.ref a_t_ticks])), (a_t_ticks, .inl (cI, 6, .inl t_ticks))] sz)) (zQi r0 D (zT cB cI cZ) [(a_t, .inr (2, [.ref a_t_ticks])), (a_t_ticks, .inl (cI, 6, .inl t_ticks))] (va_A [(a_t, .inr (2, [.ref a_t_ticks])), (a_t_ticks, .inl (cI, 6, .inl t_ticks))] sz)) 0 0 (va_A [(a_t, .inr (2, [.ref a_t_ticks])), (a_t_ticks, .inl (cI, 6, .inl t_ticks))] sz) := by
  refine Met.ofW (cc := cX2_tickOf) (maxL := 2) (ret := (some .int)) (by decide) rfl ?_
  intro p e s m args below meth c s₁ B hml hv
  obtain ⟨rfl, hsz, hP, hK, hN, hZ, hD0⟩ := hv
  have hx := B.exec
  have hb := B.bytes
  have hr := B.returns
  have hts := atoms_spec (ws := wsX2_tickOf) B.pre
  have hown : s.vm.findClass RX2 = some m.cls := findClass_of_methodNamed B.named
  have hlocks := B.notSynchronized
  subst hsz
  have hD := hD0.self (sz := s.heap.size)
  generalize hAe : va_A [(a_t, .inr (2, [.ref a_t_ticks])), (a_t_ticks, .inl (cI, 6, .inl t_ticks))] s.heap.size = A at hD hZ ⊢
  have hA : ∀ q : Nat, s.heap.size ≤ q → A q := fun q h => by rw [← hAe]; exact Or.inr h
  have hS : va_S A s.heap s.heap [] := va_S.rf
  have hl := lv_entry ([.ref a_t, .int x1]) (n := 2) (Nat.le_of_ble_eq_true rfl)
  rw [lg_entry_eq]
  generalize (lg_sl ([.ref a_t, .int x1]) ++ List.replicate (2 - (lg_sl ([.ref a_t, .int x1])).length) Slot.unset).toArray = ls at hl ⊢
  have hl : lv_has ls 2 [(0, .ref a_t), (1, .int x1)] := hl
  unfold fX2_tickOf at h
  refine lv_iload_n hx hb dX2_tickOf_0 rfl (lv_at hl 1 rfl) ?_
  refine lv_if_lt (tgt := 19) hx hb dX2_tickOf_1 (by decide) (fun c1 => ?_) (fun c1 => ?_)
  · have h := zz_t h c1
    refine lv_iconst (v := (-1 : Int32)) hx hb dX2_tickOf_19 rfl ?_
    have j0_ := Option.some.inj h
    subst j0_
    exact W.iret (v := (-1 : Int32)) hx hb hr (fun t ht hW => ⟨⟨_, (), rfl, rfl, zPost.of hP hD hK ht hW [0, 1] rfl rfl rfl⟩, hS.F ht⟩) hS.2.2 dX2_tickOf_20
  · have h := zz_f h c1
    refine lv_iload_n hx hb dX2_tickOf_4 rfl (lv_at hl 1 rfl) ?_
    refine lv_bipush (v := (nI 6)) hx hb dX2_tickOf_5 rfl ?_
    refine lv_icmp_ge (tgt := 19) hx hb dX2_tickOf_7 (by decide) (fun c2 => ?_) (fun c2 => ?_)
    · have h := zz_t h c2
      refine lv_iconst (v := (-1 : Int32)) hx hb dX2_tickOf_19 rfl ?_
      have j0_ := Option.some.inj h
      subst j0_
      exact W.iret (v := (-1 : Int32)) hx hb hr (fun t ht hW => ⟨⟨_, (), rfl, rfl, zPost.of hP hD hK ht hW [0, 1] rfl rfl rfl⟩, hS.F ht⟩) hS.2.2 dX2_tickOf_20
    · have h := zz_f h c2
      refine lv_aload_n hx hb dX2_tickOf_10 rfl (lv_at hl 0 rfl) ?_
      refine va_get (D := D) (ci := 2) (C := RX2) (T := TX2) (N := 1) hx hb hts qX2_tickOf_X2 hown hK hP 0 rfl rfl 0 (by decide) (hts _ kX2_tickOf_0) (fun _ h9 => h9) rfl dX2_tickOf_11 ?_
      refine lv_iload_n hx hb dX2_tickOf_14 rfl (lv_at hl 1 rfl) ?_
      obtain ⟨i3, h⟩ := zz_i h
      refine va_iald hx hb hK hP 1 1 rfl rfl i3 dX2_tickOf_15 ?_
      refine lv_goto (tgt := 20) hx hb dX2_tickOf_16 (by decide) ?_
      have j0_ := Option.some.inj h
      subst j0_
      exact W.iret (v := (t_ticks (x1).toNatClampNeg)) hx hb hr (fun t ht hW => ⟨⟨_, (), rfl, rfl, zPost.of hP hD hK ht hW [0, 1] rfl rfl rfl⟩, hS.F ht⟩) hS.2.2 dX2_tickOf_20
/-! RunDesk$Race.gunOf -/
theorem dX4_gunOf_0 : decode cX4_gunOf 0 = .ok (.aload_n 0, 1) := by decide +kernel
theorem dX4_gunOf_1 : decode cX4_gunOf 1 = .ok (.getfield 21, 3) := by decide +kernel
theorem dX4_gunOf_4 : decode cX4_gunOf 4 = .ok (.aload_n 0, 1) := by decide +kernel
theorem dX4_gunOf_5 : decode cX4_gunOf 5 = .ok (.getfield 28, 3) := by decide +kernel
theorem dX4_gunOf_8 : decode cX4_gunOf 8 = .ok (.iload_n 1, 1) := by decide +kernel
theorem dX4_gunOf_9 : decode cX4_gunOf 9 = .ok (.iconst 5, 1) := by decide +kernel
theorem dX4_gunOf_10 : decode cX4_gunOf 10 = .ok (.invokevirtual 60, 3) := by decide +kernel
theorem dX4_gunOf_13 : decode cX4_gunOf 13 = .ok (.invokevirtual 88, 3) := by decide +kernel
theorem dX4_gunOf_16 : decode cX4_gunOf 16 = .ok (.ireturn, 1) := by decide +kernel
set_option maxRecDepth 20000 in
theorem ggX4_gunOf_X6_factOf : GoodIn wsX4_gunOf wsX6_factOf := goodIn_sub (List.forall_mem_cons.mpr ⟨List.mem_cons_of_mem _ (List.mem_append_left _ (List.mem_append_left _ (List.mem_append_left _ (List.mem_of_getElem? (i := 6) rfl)))), (List.forall_mem_append.mpr ⟨(List.forall_mem_cons.mpr ⟨List.mem_cons_of_mem _ (List.mem_append_left _ (List.mem_append_left _ (List.mem_append_left _ (List.mem_of_getElem? (i := 7) rfl)))), (List.forall_mem_cons.mpr ⟨List.mem_cons_of_mem _ (List.mem_append_left _ (List.mem_append_left _ (List.mem_append_left _ (List.mem_of_getElem? (i := 8) rfl)))), (fun _ h => nomatch h)⟩)⟩), (fun _ h => List.mem_cons_of_mem _ (List.mem_append_left _ (List.mem_append_right _ (h))))⟩)⟩) (by decide +kernel)
set_option maxRecDepth 20000 in
theorem gX4_gunOf_X6_factOf : GoodIn wsX4_gunOf (wsV RX4 60 RX6 yX6_factOf wsX6_factOf) := goodIn_app (goodIn_of _ (by decide +kernel)) ggX4_gunOf_X6_factOf
set_option maxRecDepth 20000 in
theorem ggX4_gunOf_X2_tickOf : GoodIn wsX4_gunOf wsX2_tickOf := goodIn_sub (List.forall_mem_cons.mpr ⟨List.mem_cons_of_mem _ (List.mem_append_left _ (List.mem_append_left _ (List.mem_append_left _ (List.mem_of_getElem? (i := 13) rfl)))), (List.forall_mem_append.mpr ⟨(List.forall_mem_cons.mpr ⟨List.mem_cons_of_mem _ (List.mem_append_left _ (List.mem_append_left _ (List.mem_append_left _ (List.mem_of_getElem? (i := 14) rfl)))), (fun _ h => nomatch h)⟩), (fun _ h => List.mem_cons_of_mem _ (List.mem_append_right _ (h)))⟩)⟩) (by decide +kernel)
set_option maxRecDepth 20000 in
theorem gX4_gunOf_X2_tickOf : GoodIn wsX4_gunOf (wsV RX4 88 RX2 yX2_tickOf wsX2_tickOf) := goodIn_app (goodIn_of _ (by decide +kernel)) ggX4_gunOf_X2_tickOf
theorem kX4_gunOf_0 : (.fieldLink RX4 21 "RunDesk$Race" "guns" "LRunDesk$Guns;" : Cond) ∈ wsX4_gunOf := List.mem_of_getElem? (i := 1) (by decide +kernel)
theorem qX4_gunOf_X4 : ∀ w ∈ wsX40, w ∈ wsX4_gunOf := fun _ h => List.mem_cons_of_mem _ (List.mem_append_left _ (List.mem_append_left _ (List.mem_append_right _ (h))))
theorem kX4_gunOf_2 : (.fieldLink RX4 28 "RunDesk$Race" "runners" "LRunDesk$Runners;" : Cond) ∈ wsX4_gunOf := List.mem_of_getElem? (i := 2) (by decide +kernel)
set_option maxHeartbeats 4000000 in
set_option maxRecDepth 100000 in
theorem mX4_gunOf (l : Launch) (D : va_G) (cB cI cZ : ClassId) (a_t : Nat) (a_t_way : Nat) (a_t_guns : Nat) (a_t_runners : Nat) (a_t_guns_ticks : Nat) (a_t_runners_facts : Nat) (a_t_runners_splits : Nat) (a_t_runners_torn : Nat) (a_t_runners_dropped : Nat) (a_t_runners_waved : Nat) (a_t_runners_struck : Nat) (a_t_runners_strikingOrder : Nat) (t_guns_ticks : Nat → Int32) (t_runners_entered : Int32) (t_runners_strikings : Int32) (t_runners_facts : Nat → Int32) (sz : Nat) (x1 : Int32) (r0 : Int32) (h : fX4_gunOf t_guns_ticks t_runners_entered t_runners_facts x1 = some (r0)) : Met l yX4_gunOf wsX4_gunOf ({ frames := 1, cells := 0, slots := 0, locals := 22 } : Room) (va_Pc [.ref a_t, .int x1] (zPre D (zT cB cI cZ) [(a_t, .inr (4, [.ref a_t_way, .ref a_t_guns, .ref a_t_runners])), (a_t_guns, .inr (2, [.ref a_t_guns_ticks])), (a_t_guns_ticks, .inl (cI, 6, .inl t_guns_ticks)), (a_t_runners, .inr (6, [.ref a_t_runners_facts, .ref a_t_runners_splits, .ref a_t_runners_torn, .ref a_t_runners_dropped, .ref a_t_runners_waved, .ref a_t_runners_struck, .ref a_t_runners_strikingOrder, .int t_runners_entered, .int t_runners_strikings])), (a_t_runners_facts, .inl (cI, 360, .inl t_runners_facts))] sz)) (zQi r0 D (zT cB cI cZ) [(a_t, .inr (4, [.ref a_t_way, .ref a_t_guns, .ref a_t_runners])), (a_t_guns, .inr (2, [.ref a_t_guns_ticks])), (a_t_guns_ticks, .inl (cI, 6, .inl t_guns_ticks)), (a_t_runners, .inr (6, [.ref a_t_runners_facts, .ref a_t_runners_splits, .ref a_t_runners_torn, .ref a_t_runners_dropped, .ref a_t_runners_waved, .ref a_t_runners_struck, .ref a_t_runners_strikingOrder, .int t_runners_entered, .int t_runners_strikings])), (a_t_runners_facts, .inl (cI, 360, .inl t_runners_facts))] (va_A [(a_t, .inr (4, [.ref a_t_way, .ref a_t_guns, .ref a_t_runners])), (a_t_guns, .inr (2, [.ref a_t_guns_ticks])), (a_t_guns_ticks, .inl (cI, 6, .inl t_guns_ticks)), (a_t_runners, .inr (6, [.ref a_t_runners_facts, .ref a_t_runners_splits, .ref a_t_runners_torn, .ref a_t_runners_dropped, .ref a_t_runners_waved, .ref a_t_runners_struck, .ref a_t_runners_strikingOrder, .int t_runners_entered, .int t_runners_strikings])), (a_t_runners_facts, .inl (cI, 360, .inl t_runners_facts))] sz)) 0 0 (va_A [(a_t, .inr (4, [.ref a_t_way, .ref a_t_guns, .ref a_t_runners])), (a_t_guns, .inr (2, [.ref a_t_guns_ticks])), (a_t_guns_ticks, .inl (cI, 6, .inl t_guns_ticks)), (a_t_runners, .inr (6, [.ref a_t_runners_facts, .ref a_t_runners_splits, .ref a_t_runners_torn, .ref a_t_runners_dropped, .ref a_t_runners_waved, .ref a_t_runners_struck, .ref a_t_runners_strikingOrder, .int t_runners_entered, .int t_runners_strikings])), (a_t_runners_facts, .inl (cI, 360, .inl t_runners_facts))] sz) := by
  refine Met.ofW (cc := cX4_gunOf) (maxL := 2) (ret := (some .int)) (by decide) rfl ?_
  intro p e s m args below meth c s₁ B hml hv
  obtain ⟨rfl, hsz, hP, hK, hN, hZ, hD0⟩ := hv
  have hx := B.exec
  have hb := B.bytes
  have hr := B.returns
  have hts := atoms_spec (ws := wsX4_gunOf) B.pre
  have hown : s.vm.findClass RX4 = some m.cls := findClass_of_methodNamed B.named
  have hlocks := B.notSynchronized
  subst hsz
  have hD := hD0.self (sz := s.heap.size)
  generalize hAe : va_A [(a_t, .inr (4, [.ref a_t_way, .ref a_t_guns, .ref a_t_runners])), (a_t_guns, .inr (2, [.ref a_t_guns_ticks])), (a_t_guns_ticks, .inl (cI, 6, .inl t_guns_ticks)), (a_t_runners, .inr (6, [.ref a_t_runners_facts, .ref a_t_runners_splits, .ref a_t_runners_torn, .ref a_t_runners_dropped, .ref a_t_runners_waved, .ref a_t_runners_struck, .ref a_t_runners_strikingOrder, .int t_runners_entered, .int t_runners_strikings])), (a_t_runners_facts, .inl (cI, 360, .inl t_runners_facts))] s.heap.size = A at hD hZ ⊢
  have hA : ∀ q : Nat, s.heap.size ≤ q → A q := fun q h => by rw [← hAe]; exact Or.inr h
  have hS : va_S A s.heap s.heap [] := va_S.rf
  have hl := lv_entry ([.ref a_t, .int x1]) (n := 2) (Nat.le_of_ble_eq_true rfl)
  rw [lg_entry_eq]
  generalize (lg_sl ([.ref a_t, .int x1]) ++ List.replicate (2 - (lg_sl ([.ref a_t, .int x1])).length) Slot.unset).toArray = ls at hl ⊢
  have hl : lv_has ls 2 [(0, .ref a_t), (1, .int x1)] := hl
  unfold fX4_gunOf at h
  refine lv_aload_n hx hb dX4_gunOf_0 rfl (lv_at hl 0 rfl) ?_
  refine va_get (D := D) (ci := 4) (C := RX4) (T := TX4) (N := 3) hx hb hts qX4_gunOf_X4 hown hK hP 0 rfl rfl 1 (by decide) (hts _ kX4_gunOf_0) (fun _ h9 => h9) rfl dX4_gunOf_1 ?_
  refine lv_aload_n hx hb dX4_gunOf_4 rfl (lv_at hl 0 rfl) ?_
  refine va_get (D := D) (ci := 4) (C := RX4) (T := TX4) (N := 3) hx hb hts qX4_gunOf_X4 hown hK hP 0 rfl rfl 2 (by decide) (hts _ kX4_gunOf_2) (fun _ h9 => h9) rfl dX4_gunOf_5 ?_
  refine lv_iload_n hx hb dX4_gunOf_8 rfl (lv_at hl 1 rfl) ?_
  refine lv_iconst (v := (nI 5)) hx hb dX4_gunOf_9 rfl ?_
  obtain ⟨r1, e2, h⟩ := zz_b h
  refine zVi (As := [.int x1, .int (nI 5)]) (rest := [.ref a_t_guns]) (C := RX6) (wr := [(a_t, .inr (4, [.ref a_t_way, .ref a_t_guns, .ref a_t_runners])), (a_t_guns, .inr (2, [.ref a_t_guns_ticks])), (a_t_guns_ticks, .inl (cI, 6, .inl t_guns_ticks))]) [3, 4] [0, 1, 2] 0 ⟨hx, hb, hml, hown, hts⟩ (mX6_factOf l D cB cI cZ a_t_runners a_t_runners_facts a_t_runners_splits a_t_runners_torn a_t_runners_dropped a_t_runners_waved a_t_runners_struck a_t_runners_strikingOrder t_runners_entered t_runners_strikings t_runners_facts s.heap.size x1 (nI 5) r1 e2) (cwV 2 hts gX4_gunOf_X6_factOf rfl rfl rfl (by decide +kernel) ⟨Nat.le_of_ble_eq_true rfl, Nat.le_of_ble_eq_true rfl⟩) hK hN hZ hP hD hS hA rfl rfl rfl rfl rfl rfl rfl rfl hl.1 rfl (lv_room (Nat.le_of_ble_eq_true rfl)) dX4_gunOf_10 ⟨Nat.le_of_ble_eq_true rfl, Nat.le_of_ble_eq_true rfl⟩ (fun H locs hP hD hS => ?_)
  have hP : va_P D vwCl [(a_t, .inr (4, [.ref a_t_way, .ref a_t_guns, .ref a_t_runners])), (a_t_guns, .inr (2, [.ref a_t_guns_ticks])), (a_t_guns_ticks, .inl (cI, 6, .inl t_guns_ticks)), (a_t_runners, .inr (6, [.ref a_t_runners_facts, .ref a_t_runners_splits, .ref a_t_runners_torn, .ref a_t_runners_dropped, .ref a_t_runners_waved, .ref a_t_runners_struck, .ref a_t_runners_strikingOrder, .int t_runners_entered, .int t_runners_strikings])), (a_t_runners_facts, .inl (cI, 360, .inl t_runners_facts))] H := hP
  have hD : va_D A [(a_t, .inr (4, [.ref a_t_way, .ref a_t_guns, .ref a_t_runners])), (a_t_guns, .inr (2, [.ref a_t_guns_ticks])), (a_t_guns_ticks, .inl (cI, 6, .inl t_guns_ticks)), (a_t_runners, .inr (6, [.ref a_t_runners_facts, .ref a_t_runners_splits, .ref a_t_runners_torn, .ref a_t_runners_dropped, .ref a_t_runners_waved, .ref a_t_runners_struck, .ref a_t_runners_strikingOrder, .int t_runners_entered, .int t_runners_strikings])), (a_t_runners_facts, .inl (cI, 360, .inl t_runners_facts))] := hD
  obtain ⟨r3, e4, h⟩ := zz_b h
  refine zVi (As := [.int r1]) (rest := []) (C := RX2) (wr := [(a_t, .inr (4, [.ref a_t_way, .ref a_t_guns, .ref a_t_runners])), (a_t_runners, .inr (6, [.ref a_t_runners_facts, .ref a_t_runners_splits, .ref a_t_runners_torn, .ref a_t_runners_dropped, .ref a_t_runners_waved, .ref a_t_runners_struck, .ref a_t_runners_strikingOrder, .int t_runners_entered, .int t_runners_strikings])), (a_t_runners_facts, .inl (cI, 360, .inl t_runners_facts))]) [1, 2] [0, 3, 4] 0 ⟨hx, hb, hml, hown, hts⟩ (mX2_tickOf l D cB cI cZ a_t_guns a_t_guns_ticks t_guns_ticks H.size r1 r3 e4) (cwV 1 hts gX4_gunOf_X2_tickOf rfl rfl rfl (by decide +kernel) ⟨Nat.le_of_ble_eq_true rfl, Nat.le_of_ble_eq_true rfl⟩) hK hN hZ hP hD hS hA rfl rfl rfl rfl rfl rfl rfl rfl hl.1 rfl (lv_room (Nat.le_of_ble_eq_true rfl)) dX4_gunOf_13 ⟨Nat.le_of_ble_eq_true rfl, Nat.le_of_ble_eq_true rfl⟩ (fun H locs hP hD hS => ?_)
  have hP : va_P D vwCl [(a_t, .inr (4, [.ref a_t_way, .ref a_t_guns, .ref a_t_runners])), (a_t_runners, .inr (6, [.ref a_t_runners_facts, .ref a_t_runners_splits, .ref a_t_runners_torn, .ref a_t_runners_dropped, .ref a_t_runners_waved, .ref a_t_runners_struck, .ref a_t_runners_strikingOrder, .int t_runners_entered, .int t_runners_strikings])), (a_t_runners_facts, .inl (cI, 360, .inl t_runners_facts)), (a_t_guns, .inr (2, [.ref a_t_guns_ticks])), (a_t_guns_ticks, .inl (cI, 6, .inl t_guns_ticks))] H := hP
  have hD : va_D A [(a_t, .inr (4, [.ref a_t_way, .ref a_t_guns, .ref a_t_runners])), (a_t_runners, .inr (6, [.ref a_t_runners_facts, .ref a_t_runners_splits, .ref a_t_runners_torn, .ref a_t_runners_dropped, .ref a_t_runners_waved, .ref a_t_runners_struck, .ref a_t_runners_strikingOrder, .int t_runners_entered, .int t_runners_strikings])), (a_t_runners_facts, .inl (cI, 360, .inl t_runners_facts)), (a_t_guns, .inr (2, [.ref a_t_guns_ticks])), (a_t_guns_ticks, .inl (cI, 6, .inl t_guns_ticks))] := hD
  have j0_ := Option.some.inj h
  subst j0_
  exact W.iret (v := r3) hx hb hr (fun t ht hW => ⟨⟨_, (), rfl, rfl, zPost.of hP hD hK ht hW [0, 3, 4, 1, 2] rfl rfl rfl⟩, hS.F ht⟩) hS.2.2 dX4_gunOf_16
/-! RunDesk$Race.startOf -/
theorem dX4_startOf_0 : decode cX4_startOf 0 = .ok (.aload_n 0, 1) := by decide +kernel
theorem dX4_startOf_1 : decode cX4_startOf 1 = .ok (.getfield 28, 3) := by decide +kernel
theorem dX4_startOf_4 : decode cX4_startOf 4 = .ok (.iload_n 1, 1) := by decide +kernel
theorem dX4_startOf_5 : decode cX4_startOf 5 = .ok (.iconst 0, 1) := by decide +kernel
theorem dX4_startOf_6 : decode cX4_startOf 6 = .ok (.invokevirtual 91, 3) := by decide +kernel
theorem dX4_startOf_9 : decode cX4_startOf 9 = .ok (.istore_n 2, 1) := by decide +kernel
theorem dX4_startOf_10 : decode cX4_startOf 10 = .ok (.iload_n 2, 1) := by decide +kernel
theorem dX4_startOf_11 : decode cX4_startOf 11 = .ok (.iconst (-1), 1) := by decide +kernel
theorem dX4_startOf_12 : decode cX4_startOf 12 = .ok (.if_icmp .eq 7, 3) := by decide +kernel
theorem dX4_startOf_15 : decode cX4_startOf 15 = .ok (.iload_n 2, 1) := by decide +kernel
theorem dX4_startOf_16 : decode cX4_startOf 16 = .ok (.goto 8, 3) := by decide +kernel
theorem dX4_startOf_19 : decode cX4_startOf 19 = .ok (.aload_n 0, 1) := by decide +kernel
theorem dX4_startOf_20 : decode cX4_startOf 20 = .ok (.iload_n 1, 1) := by decide +kernel
theorem dX4_startOf_21 : decode cX4_startOf 21 = .ok (.invokevirtual 76, 3) := by decide +kernel
theorem dX4_startOf_24 : decode cX4_startOf 24 = .ok (.ireturn, 1) := by decide +kernel
set_option maxRecDepth 20000 in
theorem ggX4_startOf_X6_splitAt : GoodIn wsX4_startOf wsX6_splitAt := goodIn_sub (List.forall_mem_cons.mpr ⟨List.mem_cons_of_mem _ (List.mem_append_left _ (List.mem_append_left _ (List.mem_append_left _ (List.mem_append_left _ (List.mem_of_getElem? (l := wsX4_startOf_r1) (i := 5) rfl))))), (List.forall_mem_append.mpr ⟨(List.forall_mem_cons.mpr ⟨List.mem_cons_of_mem _ (List.mem_append_left _ (List.mem_append_left _ (List.mem_append_left _ (List.mem_append_left _ (List.mem_of_getElem? (l := wsX4_startOf_r1) (i := 6) rfl))))), (List.forall_mem_cons.mpr ⟨List.mem_cons_of_mem _ (List.mem_append_left _ (List.mem_append_left _ (List.mem_append_left _ (List.mem_append_left _ (List.mem_of_getElem? (l := wsX4_startOf_r1) (i := 7) rfl))))), (List.forall_mem_cons.mpr ⟨List.mem_cons_of_mem _ (List.mem_append_left _ (List.mem_append_left _ (List.mem_append_left _ (List.mem_append_left _ (List.mem_of_getElem? (l := wsX4_startOf_r1) (i := 8) rfl))))), (List.forall_mem_cons.mpr ⟨List.mem_cons_of_mem _ (List.mem_append_left _ (List.mem_append_left _ (List.mem_append_left _ (List.mem_append_left _ (List.mem_of_getElem? (l := wsX4_startOf_r1) (i := 9) rfl))))), (List.forall_mem_cons.mpr ⟨List.mem_cons_of_mem _ (List.mem_append_left _ (List.mem_append_left _ (List.mem_append_left _ (List.mem_append_left _ (List.mem_of_getElem? (l := wsX4_startOf_r1) (i := 4) rfl))))), (List.forall_mem_cons.mpr ⟨List.mem_cons_of_mem _ (List.mem_append_left _ (List.mem_append_left _ (List.mem_append_left _ (List.mem_append_left _ (List.mem_of_getElem? (l := wsX4_startOf_r1) (i := 10) rfl))))), (List.forall_mem_cons.mpr ⟨List.mem_cons_of_mem _ (List.mem_append_left _ (List.mem_append_left _ (List.mem_append_left _ (List.mem_append_left _ (List.mem_of_getElem? (l := wsX4_startOf_r1) (i := 11) rfl))))), (fun _ h => nomatch h)⟩)⟩)⟩)⟩)⟩)⟩)⟩), (fun _ h => List.mem_cons_of_mem _ (List.mem_append_left _ (List.mem_append_right _ (h))))⟩)⟩) (by decide +kernel)
set_option maxRecDepth 20000 in
theorem gX4_startOf_X6_splitAt : GoodIn wsX4_startOf (wsV RX4 91 RX6 yX6_splitAt wsX6_splitAt) := goodIn_app (goodIn_of _ (by decide +kernel)) ggX4_startOf_X6_splitAt
set_option maxRecDepth 20000 in
theorem ggX4_startOf_X4_gunOf : GoodIn wsX4_startOf wsX4_gunOf := goodIn_sub (List.forall_mem_cons.mpr ⟨List.mem_cons_of_mem _ (List.mem_append_left _ (List.mem_append_left _ (List.mem_append_left _ (List.mem_append_left _ (List.mem_of_getElem? (l := wsX4_startOf_r1) (i := 16) rfl))))), (List.forall_mem_append.mpr ⟨(List.forall_mem_append.mpr ⟨(List.forall_mem_append.mpr ⟨(List.forall_mem_cons.mpr ⟨List.mem_cons_of_mem _ (List.mem_append_left _ (List.mem_append_left _ (List.mem_append_left _ (List.mem_append_left _ (List.mem_of_getElem? (l := wsX4_startOf_r1) (i := 17) rfl))))), (List.forall_mem_cons.mpr ⟨List.mem_cons_of_mem _ (List.mem_append_left _ (List.mem_append_left _ (List.mem_append_left _ (List.mem_append_left _ (List.mem_of_getElem? (l := wsX4_startOf_r1) (i := 0) rfl))))), (List.forall_mem_cons.mpr ⟨List.mem_cons_of_mem _ (List.mem_append_left _ (List.mem_append_left _ (List.mem_append_left _ (List.mem_append_left _ (List.mem_of_getElem? (l := wsX4_startOf_r1) (i := 18) rfl))))), (List.forall_mem_cons.mpr ⟨List.mem_cons_of_mem _ (List.mem_append_left _ (List.mem_append_left _ (List.mem_append_left _ (List.mem_append_left _ (List.mem_of_getElem? (l := wsX4_startOf_r1) (i := 19) rfl))))), (List.forall_mem_cons.mpr ⟨List.mem_cons_of_mem _ (List.mem_append_left _ (List.mem_append_left _ (List.mem_append_left _ (List.mem_append_left _ (List.mem_of_getElem? (l := wsX4_startOf_r1) (i := 20) rfl))))), (List.forall_mem_cons.mpr ⟨List.mem_cons_of_mem _ (List.mem_append_left _ (List.mem_append_left _ (List.mem_append_left _ (List.mem_append_left _ (List.mem_of_getElem? (l := wsX4_startOf_r1) (i := 4) rfl))))), (List.forall_mem_cons.mpr ⟨List.mem_cons_of_mem _ (List.mem_append_left _ (List.mem_append_left _ (List.mem_append_left _ (List.mem_append_left _ (List.mem_of_getElem? (l := wsX4_startOf_r1) (i := 21) rfl))))), (List.forall_mem_cons.mpr ⟨List.mem_cons_of_mem _ (List.mem_append_left _ (List.mem_append_left _ (List.mem_append_left _ (List.mem_append_left _ (List.mem_of_getElem? (l := wsX4_startOf_r1) (i := 11) rfl))))), (List.forall_mem_cons.mpr ⟨List.mem_cons_of_mem _ (List.mem_append_left _ (List.mem_append_left _ (List.mem_append_left _ (List.mem_append_left _ (List.mem_of_getElem? (l := wsX4_startOf_r1) (i := 22) rfl))))), (List.forall_mem_cons.mpr ⟨List.mem_cons_of_mem _ (List.mem_append_left _ (List.mem_append_left _ (List.mem_append_left _ (List.mem_append_left _ (List.mem_of_getElem? (l := wsX4_startOf_r1) (i := 23) rfl))))), (List.forall_mem_cons.mpr ⟨List.mem_cons_of_mem _ (List.mem_append_left _ (List.mem_append_left _ (List.mem_append_left _ (List.mem_append_right _ (List.mem_of_getElem? (l := wsX4_startOf_r2) (i := 0) rfl))))), (List.forall_mem_cons.mpr ⟨List.mem_cons_of_mem _ (List.mem_append_left _ (List.mem_append_left _ (List.mem_append_left _ (List.mem_append_right _ (List.mem_of_getElem? (l := wsX4_startOf_r2) (i := 1) rfl))))), (List.forall_mem_cons.mpr ⟨List.mem_cons_of_mem _ (List.mem_append_left _ (List.mem_append_left _ (List.mem_append_left _ (List.mem_append_right _ (List.mem_of_getElem? (l := wsX4_startOf_r2) (i := 2) rfl))))), (List.forall_mem_cons.mpr ⟨List.mem_cons_of_mem _ (List.mem_append_left _ (List.mem_append_left _ (List.mem_append_left _ (List.mem_append_right _ (List.mem_of_getElem? (l := wsX4_startOf_r2) (i := 3) rfl))))), (List.forall_mem_cons.mpr ⟨List.mem_cons_of_mem _ (List.mem_append_left _ (List.mem_append_left _ (List.mem_append_left _ (List.mem_append_right _ (List.mem_of_getElem? (l := wsX4_startOf_r2) (i := 4) rfl))))), (fun _ h => nomatch h)⟩)⟩)⟩)⟩)⟩)⟩)⟩)⟩)⟩)⟩)⟩)⟩)⟩)⟩)⟩), (fun _ h => List.mem_cons_of_mem _ (List.mem_append_left _ (List.mem_append_left _ (List.mem_append_right _ (h)))))⟩), (fun _ h => List.mem_cons_of_mem _ (List.mem_append_left _ (List.mem_append_right _ (h))))⟩), (fun _ h => List.mem_cons_of_mem _ (List.mem_append_right _ (h)))⟩)⟩) (by decide +kernel)
set_option maxRecDepth 20000 in
theorem gX4_startOf_X4_gunOf : GoodIn wsX4_startOf (wsV RX4 76 RX4 yX4_gunOf wsX4_gunOf) := goodIn_app (goodIn_of _ (by decide +kernel)) ggX4_startOf_X4_gunOf
theorem kX4_startOf_0 : (.fieldLink RX4 28 "RunDesk$Race" "runners" "LRunDesk$Runners;" : Cond) ∈ wsX4_startOf := List.mem_of_getElem? (i := 1) (by decide +kernel)
theorem qX4_startOf_X4 : ∀ w ∈ wsX40, w ∈ wsX4_startOf := fun _ h => List.mem_cons_of_mem _ (List.mem_append_left _ (List.mem_append_left _ (List.mem_append_right _ (h))))
set_option maxHeartbeats 4000000 in
set_option maxRecDepth 100000 in
theorem mX4_startOf (l : Launch) (D : va_G) (cB cI cZ : ClassId) (a_t : Nat) (a_t_way : Nat) (a_t_guns : Nat) (a_t_runners : Nat) (a_t_guns_ticks : Nat) (a_t_runners_facts : Nat) (a_t_runners_splits : Nat) (a_t_runners_torn : Nat) (a_t_runners_dropped : Nat) (a_t_runners_waved : Nat) (a_t_runners_struck : Nat) (a_t_runners_strikingOrder : Nat) (t_guns_ticks : Nat → Int32) (t_runners_entered : Int32) (t_runners_strikings : Int32) (t_runners_facts : Nat → Int32) (t_runners_splits : Nat → Int32) (sz : Nat) (x1 : Int32) (r0 : Int32) (h : fX4_startOf t_guns_ticks t_runners_entered t_runners_facts t_runners_splits x1 = some (r0)) : Met l yX4_startOf wsX4_startOf ({ frames := 2, cells := 0, slots := 0, locals := 43 } : Room) (va_Pc [.ref a_t, .int x1] (zPre D (zT cB cI cZ) [(a_t, .inr (4, [.ref a_t_way, .ref a_t_guns, .ref a_t_runners])), (a_t_guns, .inr (2, [.ref a_t_guns_ticks])), (a_t_guns_ticks, .inl (cI, 6, .inl t_guns_ticks)), (a_t_runners, .inr (6, [.ref a_t_runners_facts, .ref a_t_runners_splits, .ref a_t_runners_torn, .ref a_t_runners_dropped, .ref a_t_runners_waved, .ref a_t_runners_struck, .ref a_t_runners_strikingOrder, .int t_runners_entered, .int t_runners_strikings])), (a_t_runners_facts, .inl (cI, 360, .inl t_runners_facts)), (a_t_runners_splits, .inl (cI, 720, .inl t_runners_splits))] sz)) (zQi r0 D (zT cB cI cZ) [(a_t, .inr (4, [.ref a_t_way, .ref a_t_guns, .ref a_t_runners])), (a_t_guns, .inr (2, [.ref a_t_guns_ticks])), (a_t_guns_ticks, .inl (cI, 6, .inl t_guns_ticks)), (a_t_runners, .inr (6, [.ref a_t_runners_facts, .ref a_t_runners_splits, .ref a_t_runners_torn, .ref a_t_runners_dropped, .ref a_t_runners_waved, .ref a_t_runners_struck, .ref a_t_runners_strikingOrder, .int t_runners_entered, .int t_runners_strikings])), (a_t_runners_facts, .inl (cI, 360, .inl t_runners_facts)), (a_t_runners_splits, .inl (cI, 720, .inl t_runners_splits))] (va_A [(a_t, .inr (4, [.ref a_t_way, .ref a_t_guns, .ref a_t_runners])), (a_t_guns, .inr (2, [.ref a_t_guns_ticks])), (a_t_guns_ticks, .inl (cI, 6, .inl t_guns_ticks)), (a_t_runners, .inr (6, [.ref a_t_runners_facts, .ref a_t_runners_splits, .ref a_t_runners_torn, .ref a_t_runners_dropped, .ref a_t_runners_waved, .ref a_t_runners_struck, .ref a_t_runners_strikingOrder, .int t_runners_entered, .int t_runners_strikings])), (a_t_runners_facts, .inl (cI, 360, .inl t_runners_facts)), (a_t_runners_splits, .inl (cI, 720, .inl t_runners_splits))] sz)) 0 0 (va_A [(a_t, .inr (4, [.ref a_t_way, .ref a_t_guns, .ref a_t_runners])), (a_t_guns, .inr (2, [.ref a_t_guns_ticks])), (a_t_guns_ticks, .inl (cI, 6, .inl t_guns_ticks)), (a_t_runners, .inr (6, [.ref a_t_runners_facts, .ref a_t_runners_splits, .ref a_t_runners_torn, .ref a_t_runners_dropped, .ref a_t_runners_waved, .ref a_t_runners_struck, .ref a_t_runners_strikingOrder, .int t_runners_entered, .int t_runners_strikings])), (a_t_runners_facts, .inl (cI, 360, .inl t_runners_facts)), (a_t_runners_splits, .inl (cI, 720, .inl t_runners_splits))] sz) := by
  refine Met.ofW (cc := cX4_startOf) (maxL := 3) (ret := (some .int)) (by decide) rfl ?_
  intro p e s m args below meth c s₁ B hml hv
  obtain ⟨rfl, hsz, hP, hK, hN, hZ, hD0⟩ := hv
  have hx := B.exec
  have hb := B.bytes
  have hr := B.returns
  have hts := atoms_spec (ws := wsX4_startOf) B.pre
  have hown : s.vm.findClass RX4 = some m.cls := findClass_of_methodNamed B.named
  have hlocks := B.notSynchronized
  subst hsz
  have hD := hD0.self (sz := s.heap.size)
  generalize hAe : va_A [(a_t, .inr (4, [.ref a_t_way, .ref a_t_guns, .ref a_t_runners])), (a_t_guns, .inr (2, [.ref a_t_guns_ticks])), (a_t_guns_ticks, .inl (cI, 6, .inl t_guns_ticks)), (a_t_runners, .inr (6, [.ref a_t_runners_facts, .ref a_t_runners_splits, .ref a_t_runners_torn, .ref a_t_runners_dropped, .ref a_t_runners_waved, .ref a_t_runners_struck, .ref a_t_runners_strikingOrder, .int t_runners_entered, .int t_runners_strikings])), (a_t_runners_facts, .inl (cI, 360, .inl t_runners_facts)), (a_t_runners_splits, .inl (cI, 720, .inl t_runners_splits))] s.heap.size = A at hD hZ ⊢
  have hA : ∀ q : Nat, s.heap.size ≤ q → A q := fun q h => by rw [← hAe]; exact Or.inr h
  have hS : va_S A s.heap s.heap [] := va_S.rf
  have hl := lv_entry ([.ref a_t, .int x1]) (n := 3) (Nat.le_of_ble_eq_true rfl)
  rw [lg_entry_eq]
  generalize (lg_sl ([.ref a_t, .int x1]) ++ List.replicate (3 - (lg_sl ([.ref a_t, .int x1])).length) Slot.unset).toArray = ls at hl ⊢
  have hl : lv_has ls 3 [(0, .ref a_t), (1, .int x1)] := hl
  unfold fX4_startOf at h
  refine lv_aload_n hx hb dX4_startOf_0 rfl (lv_at hl 0 rfl) ?_
  refine va_get (D := D) (ci := 4) (C := RX4) (T := TX4) (N := 3) hx hb hts qX4_startOf_X4 hown hK hP 0 rfl rfl 2 (by decide) (hts _ kX4_startOf_0) (fun _ h9 => h9) rfl dX4_startOf_1 ?_
  refine lv_iload_n hx hb dX4_startOf_4 rfl (lv_at hl 1 rfl) ?_
  refine lv_iconst (v := (nI 0)) hx hb dX4_startOf_5 rfl ?_
  obtain ⟨r1, e2, h⟩ := zz_b h
  refine zVi (As := [.int x1, .int (nI 0)]) (rest := []) (C := RX6) (wr := [(a_t, .inr (4, [.ref a_t_way, .ref a_t_guns, .ref a_t_runners])), (a_t_guns, .inr (2, [.ref a_t_guns_ticks])), (a_t_guns_ticks, .inl (cI, 6, .inl t_guns_ticks)), (a_t_runners_facts, .inl (cI, 360, .inl t_runners_facts))]) [3, 5] [0, 1, 2, 4] 0 ⟨hx, hb, hml, hown, hts⟩ (mX6_splitAt l D cB cI cZ a_t_runners a_t_runners_facts a_t_runners_splits a_t_runners_torn a_t_runners_dropped a_t_runners_waved a_t_runners_struck a_t_runners_strikingOrder t_runners_entered t_runners_strikings t_runners_splits s.heap.size x1 (nI 0) r1 e2) (cwV 2 hts gX4_startOf_X6_splitAt rfl rfl rfl (by decide +kernel) ⟨Nat.le_of_ble_eq_true rfl, Nat.le_of_ble_eq_true rfl⟩) hK hN hZ hP hD hS hA rfl rfl rfl rfl rfl rfl rfl rfl hl.1 rfl (lv_room (Nat.le_of_ble_eq_true rfl)) dX4_startOf_6 ⟨Nat.le_of_ble_eq_true rfl, Nat.le_of_ble_eq_true rfl⟩ (fun H locs hP hD hS => ?_)
  have hP : va_P D vwCl [(a_t, .inr (4, [.ref a_t_way, .ref a_t_guns, .ref a_t_runners])), (a_t_guns, .inr (2, [.ref a_t_guns_ticks])), (a_t_guns_ticks, .inl (cI, 6, .inl t_guns_ticks)), (a_t_runners_facts, .inl (cI, 360, .inl t_runners_facts)), (a_t_runners, .inr (6, [.ref a_t_runners_facts, .ref a_t_runners_splits, .ref a_t_runners_torn, .ref a_t_runners_dropped, .ref a_t_runners_waved, .ref a_t_runners_struck, .ref a_t_runners_strikingOrder, .int t_runners_entered, .int t_runners_strikings])), (a_t_runners_splits, .inl (cI, 720, .inl t_runners_splits))] H := hP
  have hD : va_D A [(a_t, .inr (4, [.ref a_t_way, .ref a_t_guns, .ref a_t_runners])), (a_t_guns, .inr (2, [.ref a_t_guns_ticks])), (a_t_guns_ticks, .inl (cI, 6, .inl t_guns_ticks)), (a_t_runners_facts, .inl (cI, 360, .inl t_runners_facts)), (a_t_runners, .inr (6, [.ref a_t_runners_facts, .ref a_t_runners_splits, .ref a_t_runners_torn, .ref a_t_runners_dropped, .ref a_t_runners_waved, .ref a_t_runners_struck, .ref a_t_runners_strikingOrder, .int t_runners_entered, .int t_runners_strikings])), (a_t_runners_splits, .inl (cI, 720, .inl t_runners_splits))] := hD
  refine lv_istore_n (lv' := [(2, .int r1), (0, .ref a_t), (1, .int x1)]) hx hb dX4_startOf_9 rfl hl (by decide) rfl (fun ls hl => ?_)
  refine lv_iload_n hx hb dX4_startOf_10 rfl (lv_at hl 0 rfl) ?_
  refine lv_iconst (v := (-1 : Int32)) hx hb dX4_startOf_11 rfl ?_
  refine lv_icmp_eq (tgt := 19) hx hb dX4_startOf_12 (by decide) (fun c3 => ?_) (fun c3 => ?_)
  · have h := zz_t h c3
    refine lv_aload_n hx hb dX4_startOf_19 rfl (lv_at hl 1 rfl) ?_
    refine lv_iload_n hx hb dX4_startOf_20 rfl (lv_at hl 2 rfl) ?_
    obtain ⟨r4, e5, h⟩ := zz_b h
    refine zVi (As := [.int x1]) (rest := []) (C := RX4) (wr := [(a_t_runners_splits, .inl (cI, 720, .inl t_runners_splits))]) [0, 1, 2, 4, 3] [5] 0 ⟨hx, hb, hml, hown, hts⟩ (mX4_gunOf l D cB cI cZ a_t a_t_way a_t_guns a_t_runners a_t_guns_ticks a_t_runners_facts a_t_runners_splits a_t_runners_torn a_t_runners_dropped a_t_runners_waved a_t_runners_struck a_t_runners_strikingOrder t_guns_ticks t_runners_entered t_runners_strikings t_runners_facts H.size x1 r4 e5) (cwV 1 hts gX4_startOf_X4_gunOf rfl rfl rfl (by decide +kernel) ⟨Nat.le_of_ble_eq_true rfl, Nat.le_of_ble_eq_true rfl⟩) hK hN hZ hP hD hS hA rfl rfl rfl rfl rfl rfl rfl rfl hl.1 rfl (lv_room (Nat.le_of_ble_eq_true rfl)) dX4_startOf_21 ⟨Nat.le_of_ble_eq_true rfl, Nat.le_of_ble_eq_true rfl⟩ (fun H locs hP hD hS => ?_)
    have hP : va_P D vwCl [(a_t_runners_splits, .inl (cI, 720, .inl t_runners_splits)), (a_t, .inr (4, [.ref a_t_way, .ref a_t_guns, .ref a_t_runners])), (a_t_guns, .inr (2, [.ref a_t_guns_ticks])), (a_t_guns_ticks, .inl (cI, 6, .inl t_guns_ticks)), (a_t_runners, .inr (6, [.ref a_t_runners_facts, .ref a_t_runners_splits, .ref a_t_runners_torn, .ref a_t_runners_dropped, .ref a_t_runners_waved, .ref a_t_runners_struck, .ref a_t_runners_strikingOrder, .int t_runners_entered, .int t_runners_strikings])), (a_t_runners_facts, .inl (cI, 360, .inl t_runners_facts))] H := hP
    have hD : va_D A [(a_t_runners_splits, .inl (cI, 720, .inl t_runners_splits)), (a_t, .inr (4, [.ref a_t_way, .ref a_t_guns, .ref a_t_runners])), (a_t_guns, .inr (2, [.ref a_t_guns_ticks])), (a_t_guns_ticks, .inl (cI, 6, .inl t_guns_ticks)), (a_t_runners, .inr (6, [.ref a_t_runners_facts, .ref a_t_runners_splits, .ref a_t_runners_torn, .ref a_t_runners_dropped, .ref a_t_runners_waved, .ref a_t_runners_struck, .ref a_t_runners_strikingOrder, .int t_runners_entered, .int t_runners_strikings])), (a_t_runners_facts, .inl (cI, 360, .inl t_runners_facts))] := hD
    have j0_ := Option.some.inj h
    subst j0_
    exact W.iret (v := r4) hx hb hr (fun t ht hW => ⟨⟨_, (), rfl, rfl, zPost.of hP hD hK ht hW [1, 2, 3, 4, 5, 0] rfl rfl rfl⟩, hS.F ht⟩) hS.2.2 dX4_startOf_24
  · have h := zz_f h c3
    refine lv_iload_n hx hb dX4_startOf_15 rfl (lv_at hl 0 rfl) ?_
    refine lv_goto (tgt := 24) hx hb dX4_startOf_16 (by decide) ?_
    have j0_ := Option.some.inj h
    subst j0_
    exact W.iret (v := r1) hx hb hr (fun t ht hW => ⟨⟨_, (), rfl, rfl, zPost.of hP hD hK ht hW [0, 1, 2, 4, 3, 5] rfl rfl rfl⟩, hS.F ht⟩) hS.2.2 dX4_startOf_24
/-! RunDesk$Way.has -/
theorem dX9_has_0 : decode cX9_has 0 = .ok (.iload_n 1, 1) := by decide +kernel
theorem dX9_has_1 : decode cX9_has 1 = .ok (.ifCond .lt 21, 3) := by decide +kernel
theorem dX9_has_4 : decode cX9_has 4 = .ok (.iload_n 1, 1) := by decide +kernel
theorem dX9_has_5 : decode cX9_has 5 = .ok (.aload_n 0, 1) := by decide +kernel
theorem dX9_has_6 : decode cX9_has 6 = .ok (.getfield 25, 3) := by decide +kernel
theorem dX9_has_9 : decode cX9_has 9 = .ok (.if_icmp .ge 13, 3) := by decide +kernel
theorem dX9_has_12 : decode cX9_has 12 = .ok (.iload_n 1, 1) := by decide +kernel
theorem dX9_has_13 : decode cX9_has 13 = .ok (.bipush 12, 2) := by decide +kernel
theorem dX9_has_15 : decode cX9_has 15 = .ok (.if_icmp .ge 7, 3) := by decide +kernel
theorem dX9_has_18 : decode cX9_has 18 = .ok (.iconst 1, 1) := by decide +kernel
theorem dX9_has_19 : decode cX9_has 19 = .ok (.goto 4, 3) := by decide +kernel
theorem dX9_has_22 : decode cX9_has 22 = .ok (.iconst 0, 1) := by decide +kernel
theorem dX9_has_23 : decode cX9_has 23 = .ok (.ireturn, 1) := by decide +kernel
theorem kX9_has_0 : (.fieldLink RX9 25 "RunDesk$Way" "mats" "I" : Cond) ∈ wsX9_has := List.mem_of_getElem? (i := 1) (by decide +kernel)
theorem qX9_has_X9 : ∀ w ∈ wsX90, w ∈ wsX9_has := fun _ h => List.mem_cons_of_mem _ (List.mem_append_right _ (h))
set_option maxHeartbeats 4000000 in
set_option maxRecDepth 100000 in
theorem mX9_has (l : Launch) (D : va_G) (cB cI cZ : ClassId) (a_t : Nat) (a_t_places : Nat) (a_t_bearings : Nat) (a_t_cuts : Nat) (a_t_deaths : Nat) (t_mats : Int32) (sz : Nat) (x1 : Int32) (b0 : Bool) (h : fX9_has t_mats x1 = some (b0)) : Met l yX9_has wsX9_has ({ frames := 0, cells := 0, slots := 0, locals := 0 } : Room) (va_Pc [.ref a_t, .int x1] (zPre D (zT cB cI cZ) [(a_t, .inr (9, [.ref a_t_places, .ref a_t_bearings, .ref a_t_cuts, .ref a_t_deaths, .int t_mats]))] sz)) (zQi (zb b0) D (zT cB cI cZ) [(a_t, .inr (9, [.ref a_t_places, .ref a_t_bearings, .ref a_t_cuts, .ref a_t_deaths, .int t_mats]))] (va_A [(a_t, .inr (9, [.ref a_t_places, .ref a_t_bearings, .ref a_t_cuts, .ref a_t_deaths, .int t_mats]))] sz)) 0 0 (va_A [(a_t, .inr (9, [.ref a_t_places, .ref a_t_bearings, .ref a_t_cuts, .ref a_t_deaths, .int t_mats]))] sz) := by
  refine Met.ofW (cc := cX9_has) (maxL := 2) (ret := (some .boolean)) (by decide) rfl ?_
  intro p e s m args below meth c s₁ B hml hv
  obtain ⟨rfl, hsz, hP, hK, hN, hZ, hD0⟩ := hv
  have hx := B.exec
  have hb := B.bytes
  have hr := B.returns
  have hts := atoms_spec (ws := wsX9_has) B.pre
  have hown : s.vm.findClass RX9 = some m.cls := findClass_of_methodNamed B.named
  have hlocks := B.notSynchronized
  subst hsz
  have hD := hD0.self (sz := s.heap.size)
  generalize hAe : va_A [(a_t, .inr (9, [.ref a_t_places, .ref a_t_bearings, .ref a_t_cuts, .ref a_t_deaths, .int t_mats]))] s.heap.size = A at hD hZ ⊢
  have hA : ∀ q : Nat, s.heap.size ≤ q → A q := fun q h => by rw [← hAe]; exact Or.inr h
  have hS : va_S A s.heap s.heap [] := va_S.rf
  have hl := lv_entry ([.ref a_t, .int x1]) (n := 2) (Nat.le_of_ble_eq_true rfl)
  rw [lg_entry_eq]
  generalize (lg_sl ([.ref a_t, .int x1]) ++ List.replicate (2 - (lg_sl ([.ref a_t, .int x1])).length) Slot.unset).toArray = ls at hl ⊢
  have hl : lv_has ls 2 [(0, .ref a_t), (1, .int x1)] := hl
  unfold fX9_has at h
  refine lv_iload_n hx hb dX9_has_0 rfl (lv_at hl 1 rfl) ?_
  refine lv_if_lt (tgt := 22) hx hb dX9_has_1 (by decide) (fun c1 => ?_) (fun c1 => ?_)
  · have h := zz_t h c1
    refine lv_iconst (v := (nI 0)) hx hb dX9_has_22 rfl ?_
    have j0_ := Option.some.inj h
    subst j0_
    exact W.zret (v := (nI 0)) hx hb hr rfl (fun t ht hW => ⟨⟨_, (), rfl, rfl, zPost.of hP hD hK ht hW [0] rfl rfl rfl⟩, hS.F ht⟩) hS.2.2 dX9_has_23
  · have h := zz_f h c1
    refine lv_iload_n hx hb dX9_has_4 rfl (lv_at hl 1 rfl) ?_
    refine lv_aload_n hx hb dX9_has_5 rfl (lv_at hl 0 rfl) ?_
    refine va_get (D := D) (ci := 9) (C := RX9) (T := TX9) (N := 5) hx hb hts qX9_has_X9 hown hK hP 0 rfl rfl 4 (by decide) (hts _ kX9_has_0) (fun _ h9 => h9) rfl dX9_has_6 ?_
    refine lv_icmp_ge (tgt := 22) hx hb dX9_has_9 (by decide) (fun c2 => ?_) (fun c2 => ?_)
    · have h := zz_t h c2
      refine lv_iconst (v := (nI 0)) hx hb dX9_has_22 rfl ?_
      have j0_ := Option.some.inj h
      subst j0_
      exact W.zret (v := (nI 0)) hx hb hr rfl (fun t ht hW => ⟨⟨_, (), rfl, rfl, zPost.of hP hD hK ht hW [0] rfl rfl rfl⟩, hS.F ht⟩) hS.2.2 dX9_has_23
    · have h := zz_f h c2
      refine lv_iload_n hx hb dX9_has_12 rfl (lv_at hl 1 rfl) ?_
      refine lv_bipush (v := (nI 12)) hx hb dX9_has_13 rfl ?_
      refine lv_icmp_ge (tgt := 22) hx hb dX9_has_15 (by decide) (fun c3 => ?_) (fun c3 => ?_)
      · have h := zz_t h c3
        refine lv_iconst (v := (nI 0)) hx hb dX9_has_22 rfl ?_
        have j0_ := Option.some.inj h
        subst j0_
        exact W.zret (v := (nI 0)) hx hb hr rfl (fun t ht hW => ⟨⟨_, (), rfl, rfl, zPost.of hP hD hK ht hW [0] rfl rfl rfl⟩, hS.F ht⟩) hS.2.2 dX9_has_23
      · have h := zz_f h c3
        refine lv_iconst (v := (nI 1)) hx hb dX9_has_18 rfl ?_
        refine lv_goto (tgt := 23) hx hb dX9_has_19 (by decide) ?_
        have j0_ := Option.some.inj h
        subst j0_
        exact W.zret (v := (nI 1)) hx hb hr rfl (fun t ht hW => ⟨⟨_, (), rfl, rfl, zPost.of hP hD hK ht hW [0] rfl rfl rfl⟩, hS.F ht⟩) hS.2.2 dX9_has_23
/-! RunDesk$Way.placeAt -/
theorem dX9_placeAt_0 : decode cX9_placeAt 0 = .ok (.aload_n 0, 1) := by decide +kernel
theorem dX9_placeAt_1 : decode cX9_placeAt 1 = .ok (.iload_n 1, 1) := by decide +kernel
theorem dX9_placeAt_2 : decode cX9_placeAt 2 = .ok (.invokevirtual 33, 3) := by decide +kernel
theorem dX9_placeAt_5 : decode cX9_placeAt 5 = .ok (.ifCond .eq 12, 3) := by decide +kernel
theorem dX9_placeAt_8 : decode cX9_placeAt 8 = .ok (.aload_n 0, 1) := by decide +kernel
theorem dX9_placeAt_9 : decode cX9_placeAt 9 = .ok (.getfield 9, 3) := by decide +kernel
theorem dX9_placeAt_12 : decode cX9_placeAt 12 = .ok (.iload_n 1, 1) := by decide +kernel
theorem dX9_placeAt_13 : decode cX9_placeAt 13 = .ok (.iaload, 1) := by decide +kernel
theorem dX9_placeAt_14 : decode cX9_placeAt 14 = .ok (.goto 4, 3) := by decide +kernel
theorem dX9_placeAt_17 : decode cX9_placeAt 17 = .ok (.iconst (-1), 1) := by decide +kernel
theorem dX9_placeAt_18 : decode cX9_placeAt 18 = .ok (.ireturn, 1) := by decide +kernel
set_option maxRecDepth 20000 in
theorem ggX9_placeAt_X9_has : GoodIn wsX9_placeAt wsX9_has := goodIn_sub (List.forall_mem_cons.mpr ⟨List.mem_cons_of_mem _ (List.mem_append_left _ (List.mem_of_getElem? (i := 5) rfl)), (List.forall_mem_append.mpr ⟨(List.forall_mem_cons.mpr ⟨List.mem_cons_of_mem _ (List.mem_append_left _ (List.mem_of_getElem? (i := 6) rfl)), (fun _ h => nomatch h)⟩), (fun _ h => List.mem_cons_of_mem _ (List.mem_append_right _ (h)))⟩)⟩) (by decide +kernel)
set_option maxRecDepth 20000 in
theorem gX9_placeAt_X9_has : GoodIn wsX9_placeAt (wsV RX9 33 RX9 yX9_has wsX9_has) := goodIn_app (goodIn_of _ (by decide +kernel)) ggX9_placeAt_X9_has
theorem kX9_placeAt_0 : (.fieldLink RX9 9 "RunDesk$Way" "places" "[I" : Cond) ∈ wsX9_placeAt := List.mem_of_getElem? (i := 1) (by decide +kernel)
theorem qX9_placeAt_X9 : ∀ w ∈ wsX90, w ∈ wsX9_placeAt := fun _ h => List.mem_cons_of_mem _ (List.mem_append_right _ (h))
set_option maxHeartbeats 4000000 in
set_option maxRecDepth 100000 in
theorem mX9_placeAt (l : Launch) (D : va_G) (cB cI cZ : ClassId) (a_t : Nat) (a_t_places : Nat) (a_t_bearings : Nat) (a_t_cuts : Nat) (a_t_deaths : Nat) (t_mats : Int32) (t_places : Nat → Int32) (sz : Nat) (x1 : Int32) (r0 : Int32) (h : fX9_placeAt t_mats t_places x1 = some (r0)) : Met l yX9_placeAt wsX9_placeAt ({ frames := 1, cells := 0, slots := 0, locals := 21 } : Room) (va_Pc [.ref a_t, .int x1] (zPre D (zT cB cI cZ) [(a_t, .inr (9, [.ref a_t_places, .ref a_t_bearings, .ref a_t_cuts, .ref a_t_deaths, .int t_mats])), (a_t_places, .inl (cI, 12, .inl t_places))] sz)) (zQi r0 D (zT cB cI cZ) [(a_t, .inr (9, [.ref a_t_places, .ref a_t_bearings, .ref a_t_cuts, .ref a_t_deaths, .int t_mats])), (a_t_places, .inl (cI, 12, .inl t_places))] (va_A [(a_t, .inr (9, [.ref a_t_places, .ref a_t_bearings, .ref a_t_cuts, .ref a_t_deaths, .int t_mats])), (a_t_places, .inl (cI, 12, .inl t_places))] sz)) 0 0 (va_A [(a_t, .inr (9, [.ref a_t_places, .ref a_t_bearings, .ref a_t_cuts, .ref a_t_deaths, .int t_mats])), (a_t_places, .inl (cI, 12, .inl t_places))] sz) := by
  refine Met.ofW (cc := cX9_placeAt) (maxL := 2) (ret := (some .int)) (by decide) rfl ?_
  intro p e s m args below meth c s₁ B hml hv
  obtain ⟨rfl, hsz, hP, hK, hN, hZ, hD0⟩ := hv
  have hx := B.exec
  have hb := B.bytes
  have hr := B.returns
  have hts := atoms_spec (ws := wsX9_placeAt) B.pre
  have hown : s.vm.findClass RX9 = some m.cls := findClass_of_methodNamed B.named
  have hlocks := B.notSynchronized
  subst hsz
  have hD := hD0.self (sz := s.heap.size)
  generalize hAe : va_A [(a_t, .inr (9, [.ref a_t_places, .ref a_t_bearings, .ref a_t_cuts, .ref a_t_deaths, .int t_mats])), (a_t_places, .inl (cI, 12, .inl t_places))] s.heap.size = A at hD hZ ⊢
  have hA : ∀ q : Nat, s.heap.size ≤ q → A q := fun q h => by rw [← hAe]; exact Or.inr h
  have hS : va_S A s.heap s.heap [] := va_S.rf
  have hl := lv_entry ([.ref a_t, .int x1]) (n := 2) (Nat.le_of_ble_eq_true rfl)
  rw [lg_entry_eq]
  generalize (lg_sl ([.ref a_t, .int x1]) ++ List.replicate (2 - (lg_sl ([.ref a_t, .int x1])).length) Slot.unset).toArray = ls at hl ⊢
  have hl : lv_has ls 2 [(0, .ref a_t), (1, .int x1)] := hl
  unfold fX9_placeAt at h
  refine lv_aload_n hx hb dX9_placeAt_0 rfl (lv_at hl 0 rfl) ?_
  refine lv_iload_n hx hb dX9_placeAt_1 rfl (lv_at hl 1 rfl) ?_
  obtain ⟨b1, e2, h⟩ := zz_b h
  refine zVi (As := [.int x1]) (rest := []) (C := RX9) (wr := [(a_t_places, .inl (cI, 12, .inl t_places))]) [0] [1] 0 ⟨hx, hb, hml, hown, hts⟩ (mX9_has l D cB cI cZ a_t a_t_places a_t_bearings a_t_cuts a_t_deaths t_mats s.heap.size x1 b1 e2) (cwV 1 hts gX9_placeAt_X9_has rfl rfl rfl (by decide +kernel) ⟨Nat.le_of_ble_eq_true rfl, Nat.le_of_ble_eq_true rfl⟩) hK hN hZ hP hD hS hA rfl rfl rfl rfl rfl rfl rfl rfl hl.1 rfl (lv_room (Nat.le_of_ble_eq_true rfl)) dX9_placeAt_2 ⟨Nat.le_of_ble_eq_true rfl, Nat.le_of_ble_eq_true rfl⟩ (fun H locs hP hD hS => ?_)
  have hP : va_P D vwCl [(a_t_places, .inl (cI, 12, .inl t_places)), (a_t, .inr (9, [.ref a_t_places, .ref a_t_bearings, .ref a_t_cuts, .ref a_t_deaths, .int t_mats]))] H := hP
  have hD : va_D A [(a_t_places, .inl (cI, 12, .inl t_places)), (a_t, .inr (9, [.ref a_t_places, .ref a_t_bearings, .ref a_t_cuts, .ref a_t_deaths, .int t_mats]))] := hD
  refine lv_if_eq (tgt := 17) hx hb dX9_placeAt_5 (by decide) (fun c3 => ?_) (fun c3 => ?_)
  · have h := zz_t h c3
    refine lv_iconst (v := (-1 : Int32)) hx hb dX9_placeAt_17 rfl ?_
    have j0_ := Option.some.inj h
    subst j0_
    exact W.iret (v := (-1 : Int32)) hx hb hr (fun t ht hW => ⟨⟨_, (), rfl, rfl, zPost.of hP hD hK ht hW [1, 0] rfl rfl rfl⟩, hS.F ht⟩) hS.2.2 dX9_placeAt_18
  · have h := zz_f h c3
    refine lv_aload_n hx hb dX9_placeAt_8 rfl (lv_at hl 0 rfl) ?_
    refine va_get (D := D) (ci := 9) (C := RX9) (T := TX9) (N := 5) hx hb hts qX9_placeAt_X9 hown hK hP 1 rfl rfl 0 (by decide) (hts _ kX9_placeAt_0) (fun _ h9 => h9) rfl dX9_placeAt_9 ?_
    refine lv_iload_n hx hb dX9_placeAt_12 rfl (lv_at hl 1 rfl) ?_
    obtain ⟨i4, h⟩ := zz_i h
    refine va_iald hx hb hK hP 0 1 rfl rfl i4 dX9_placeAt_13 ?_
    refine lv_goto (tgt := 18) hx hb dX9_placeAt_14 (by decide) ?_
    have j0_ := Option.some.inj h
    subst j0_
    exact W.iret (v := (t_places (x1).toNatClampNeg)) hx hb hr (fun t ht hW => ⟨⟨_, (), rfl, rfl, zPost.of hP hD hK ht hW [1, 0] rfl rfl rfl⟩, hS.F ht⟩) hS.2.2 dX9_placeAt_18
/-! RunDesk$Trail.follow -/
theorem dX8_follow_0 : decode cX8_follow 0 = .ok (.aload_n 1, 1) := by decide +kernel
theorem dX8_follow_1 : decode cX8_follow 1 = .ok (.getfield 18, 3) := by decide +kernel
theorem dX8_follow_4 : decode cX8_follow 4 = .ok (.iload_n 2, 1) := by decide +kernel
theorem dX8_follow_5 : decode cX8_follow 5 = .ok (.iconst 0, 1) := by decide +kernel
theorem dX8_follow_6 : decode cX8_follow 6 = .ok (.invokevirtual 24, 3) := by decide +kernel
theorem dX8_follow_9 : decode cX8_follow 9 = .ok (.istore_n 3, 1) := by decide +kernel
theorem dX8_follow_10 : decode cX8_follow 10 = .ok (.aload_n 0, 1) := by decide +kernel
theorem dX8_follow_11 : decode cX8_follow 11 = .ok (.iload_n 3, 1) := by decide +kernel
theorem dX8_follow_12 : decode cX8_follow 12 = .ok (.invokestatic 30, 3) := by decide +kernel
theorem dX8_follow_15 : decode cX8_follow 15 = .ok (.putfield 34, 3) := by decide +kernel
theorem dX8_follow_18 : decode cX8_follow 18 = .ok (.aload_n 0, 1) := by decide +kernel
theorem dX8_follow_19 : decode cX8_follow 19 = .ok (.iload_n 3, 1) := by decide +kernel
theorem dX8_follow_20 : decode cX8_follow 20 = .ok (.invokestatic 38, 3) := by decide +kernel
theorem dX8_follow_23 : decode cX8_follow 23 = .ok (.putfield 41, 3) := by decide +kernel
theorem dX8_follow_26 : decode cX8_follow 26 = .ok (.aload_n 0, 1) := by decide +kernel
theorem dX8_follow_27 : decode cX8_follow 27 = .ok (.aload_n 1, 1) := by decide +kernel
theorem dX8_follow_28 : decode cX8_follow 28 = .ok (.getfield 44, 3) := by decide +kernel
theorem dX8_follow_31 : decode cX8_follow 31 = .ok (.invokevirtual 48, 3) := by decide +kernel
theorem dX8_follow_34 : decode cX8_follow 34 = .ok (.putfield 54, 3) := by decide +kernel
theorem dX8_follow_37 : decode cX8_follow 37 = .ok (.iconst 0, 1) := by decide +kernel
theorem dX8_follow_38 : decode cX8_follow 38 = .ok (.istore 4, 2) := by decide +kernel
theorem dX8_follow_40 : decode cX8_follow 40 = .ok (.iload 4, 2) := by decide +kernel
theorem dX8_follow_42 : decode cX8_follow 42 = .ok (.aload_n 0, 1) := by decide +kernel
theorem dX8_follow_43 : decode cX8_follow 43 = .ok (.getfield 54, 3) := by decide +kernel
theorem dX8_follow_46 : decode cX8_follow 46 = .ok (.if_icmp .ge 62, 3) := by decide +kernel
theorem dX8_follow_49 : decode cX8_follow 49 = .ok (.iload 4, 2) := by decide +kernel
theorem dX8_follow_51 : decode cX8_follow 51 = .ok (.bipush 12, 2) := by decide +kernel
theorem dX8_follow_53 : decode cX8_follow 53 = .ok (.if_icmp .ge 55, 3) := by decide +kernel
theorem dX8_follow_56 : decode cX8_follow 56 = .ok (.aload_n 0, 1) := by decide +kernel
theorem dX8_follow_57 : decode cX8_follow 57 = .ok (.getfield 9, 3) := by decide +kernel
theorem dX8_follow_60 : decode cX8_follow 60 = .ok (.iload 4, 2) := by decide +kernel
theorem dX8_follow_62 : decode cX8_follow 62 = .ok (.iload 4, 2) := by decide +kernel
theorem dX8_follow_64 : decode cX8_follow 64 = .ok (.ifCond .ne 11, 3) := by decide +kernel
theorem dX8_follow_67 : decode cX8_follow 67 = .ok (.aload_n 1, 1) := by decide +kernel
theorem dX8_follow_68 : decode cX8_follow 68 = .ok (.iload_n 2, 1) := by decide +kernel
theorem dX8_follow_69 : decode cX8_follow 69 = .ok (.invokevirtual 57, 3) := by decide +kernel
theorem dX8_follow_72 : decode cX8_follow 72 = .ok (.goto 13, 3) := by decide +kernel
theorem dX8_follow_75 : decode cX8_follow 75 = .ok (.aload_n 1, 1) := by decide +kernel
theorem dX8_follow_76 : decode cX8_follow 76 = .ok (.getfield 18, 3) := by decide +kernel
theorem dX8_follow_79 : decode cX8_follow 79 = .ok (.iload_n 2, 1) := by decide +kernel
theorem dX8_follow_80 : decode cX8_follow 80 = .ok (.iload 4, 2) := by decide +kernel
theorem dX8_follow_82 : decode cX8_follow 82 = .ok (.invokevirtual 60, 3) := by decide +kernel
theorem dX8_follow_85 : decode cX8_follow 85 = .ok (.iastore, 1) := by decide +kernel
theorem dX8_follow_86 : decode cX8_follow 86 = .ok (.aload_n 0, 1) := by decide +kernel
theorem dX8_follow_87 : decode cX8_follow 87 = .ok (.getfield 15, 3) := by decide +kernel
theorem dX8_follow_90 : decode cX8_follow 90 = .ok (.iload 4, 2) := by decide +kernel
theorem dX8_follow_92 : decode cX8_follow 92 = .ok (.aload_n 1, 1) := by decide +kernel
theorem dX8_follow_93 : decode cX8_follow 93 = .ok (.getfield 44, 3) := by decide +kernel
theorem dX8_follow_96 : decode cX8_follow 96 = .ok (.iload 4, 2) := by decide +kernel
theorem dX8_follow_98 : decode cX8_follow 98 = .ok (.invokevirtual 63, 3) := by decide +kernel
theorem dX8_follow_101 : decode cX8_follow 101 = .ok (.iastore, 1) := by decide +kernel
theorem dX8_follow_102 : decode cX8_follow 102 = .ok (.iinc 4 1, 3) := by decide +kernel
theorem dX8_follow_105 : decode cX8_follow 105 = .ok (.goto (-65), 3) := by decide +kernel
theorem dX8_follow_108 : decode cX8_follow 108 = .ok (.return_, 1) := by decide +kernel
set_option maxRecDepth 20000 in
theorem ggX8_follow_X6_factOf : GoodIn wsX8_follow wsX6_factOf := goodIn_sub (List.forall_mem_cons.mpr ⟨List.mem_cons_of_mem _ (List.mem_append_left _ (List.mem_append_left _ (List.mem_append_left _ (List.mem_append_left _ (List.mem_append_left _ (List.mem_append_left _ (List.mem_of_getElem? (l := wsX8_follow_r1) (i := 9) rfl))))))), (List.forall_mem_append.mpr ⟨(List.forall_mem_cons.mpr ⟨List.mem_cons_of_mem _ (List.mem_append_left _ (List.mem_append_left _ (List.mem_append_left _ (List.mem_append_left _ (List.mem_append_left _ (List.mem_append_left _ (List.mem_of_getElem? (l := wsX8_follow_r1) (i := 10) rfl))))))), (List.forall_mem_cons.mpr ⟨List.mem_cons_of_mem _ (List.mem_append_left _ (List.mem_append_left _ (List.mem_append_left _ (List.mem_append_left _ (List.mem_append_left _ (List.mem_append_left _ (List.mem_of_getElem? (l := wsX8_follow_r1) (i := 11) rfl))))))), (fun _ h => nomatch h)⟩)⟩), (fun _ h => List.mem_cons_of_mem _ (List.mem_append_left _ (List.mem_append_left _ (List.mem_append_right _ (h)))))⟩)⟩) (by decide +kernel)
set_option maxRecDepth 20000 in
theorem gX8_follow_X6_factOf : GoodIn wsX8_follow (wsV RX8 24 RX6 yX6_factOf wsX6_factOf) := goodIn_app (goodIn_of _ (by decide +kernel)) ggX8_follow_X6_factOf
set_option maxRecDepth 20000 in
theorem ggX8_follow_X10_leastLimit : GoodIn wsX8_follow wsX10_leastLimit := goodIn_sub (List.forall_mem_cons.mpr ⟨List.mem_cons_of_mem _ (List.mem_append_left _ (List.mem_append_left _ (List.mem_append_left _ (List.mem_append_left _ (List.mem_append_left _ (List.mem_append_left _ (List.mem_of_getElem? (l := wsX8_follow_r1) (i := 14) rfl))))))), (fun _ h => nomatch h)⟩) (by decide +kernel)
set_option maxRecDepth 20000 in
theorem gX8_follow_X10_leastLimit_n30 : GoodIn wsX8_follow (wsX10_leastLimit) := ggX8_follow_X10_leastLimit
set_option maxRecDepth 20000 in
theorem ggX8_follow_X10_greatestLimit : GoodIn wsX8_follow wsX10_greatestLimit := goodIn_sub (List.forall_mem_cons.mpr ⟨List.mem_cons_of_mem _ (List.mem_append_left _ (List.mem_append_left _ (List.mem_append_left _ (List.mem_append_left _ (List.mem_append_left _ (List.mem_append_left _ (List.mem_of_getElem? (l := wsX8_follow_r1) (i := 16) rfl))))))), (fun _ h => nomatch h)⟩) (by decide +kernel)
set_option maxRecDepth 20000 in
theorem gX8_follow_X10_greatestLimit_n38 : GoodIn wsX8_follow (wsX10_greatestLimit) := ggX8_follow_X10_greatestLimit
set_option maxRecDepth 20000 in
theorem ggX8_follow_X9_size : GoodIn wsX8_follow wsX9_size := goodIn_sub (List.forall_mem_cons.mpr ⟨List.mem_cons_of_mem _ (List.mem_append_left _ (List.mem_append_left _ (List.mem_append_left _ (List.mem_append_left _ (List.mem_append_left _ (List.mem_append_left _ (List.mem_of_getElem? (l := wsX8_follow_r1) (i := 21) rfl))))))), (List.forall_mem_append.mpr ⟨(List.forall_mem_cons.mpr ⟨List.mem_cons_of_mem _ (List.mem_append_left _ (List.mem_append_left _ (List.mem_append_left _ (List.mem_append_left _ (List.mem_append_left _ (List.mem_append_left _ (List.mem_of_getElem? (l := wsX8_follow_r1) (i := 22) rfl))))))), (fun _ h => nomatch h)⟩), (fun _ h => List.mem_cons_of_mem _ (List.mem_append_left _ (List.mem_append_right _ (h))))⟩)⟩) (by decide +kernel)
set_option maxRecDepth 20000 in
theorem gX8_follow_X9_size : GoodIn wsX8_follow (wsV RX8 48 RX9 yX9_size wsX9_size) := goodIn_app (goodIn_of _ (by decide +kernel)) ggX8_follow_X9_size
set_option maxRecDepth 20000 in
theorem ggX8_follow_X4_startOf : GoodIn wsX8_follow wsX4_startOf := goodIn_sub (List.forall_mem_cons.mpr ⟨List.mem_cons_of_mem _ (List.mem_append_left _ (List.mem_append_left _ (List.mem_append_left _ (List.mem_append_left _ (List.mem_append_left _ (List.mem_append_right _ (List.mem_append_left _ (List.mem_of_getElem? (l := wsX8_follow_r2) (i := 3) rfl)))))))), (List.forall_mem_append.mpr ⟨(List.forall_mem_append.mpr ⟨(List.forall_mem_append.mpr ⟨(List.forall_mem_append.mpr ⟨(List.forall_mem_cons.mpr ⟨List.mem_cons_of_mem _ (List.mem_append_left _ (List.mem_append_left _ (List.mem_append_left _ (List.mem_append_left _ (List.mem_append_left _ (List.mem_append_right _ (List.mem_append_left _ (List.mem_of_getElem? (l := wsX8_follow_r2) (i := 4) rfl)))))))), (List.forall_mem_cons.mpr ⟨List.mem_cons_of_mem _ (List.mem_append_left _ (List.mem_append_left _ (List.mem_append_left _ (List.mem_append_left _ (List.mem_append_left _ (List.mem_append_right _ (List.mem_append_left _ (List.mem_of_getElem? (l := wsX8_follow_r2) (i := 5) rfl)))))))), (List.forall_mem_cons.mpr ⟨List.mem_cons_of_mem _ (List.mem_append_left _ (List.mem_append_left _ (List.mem_append_left _ (List.mem_append_left _ (List.mem_append_left _ (List.mem_append_right _ (List.mem_append_left _ (List.mem_of_getElem? (l := wsX8_follow_r2) (i := 6) rfl)))))))), (List.forall_mem_cons.mpr ⟨List.mem_cons_of_mem _ (List.mem_append_left _ (List.mem_append_left _ (List.mem_append_left _ (List.mem_append_left _ (List.mem_append_left _ (List.mem_append_right _ (List.mem_append_left _ (List.mem_of_getElem? (l := wsX8_follow_r2) (i := 7) rfl)))))))), (List.forall_mem_cons.mpr ⟨List.mem_cons_of_mem _ (List.mem_append_left _ (List.mem_append_left _ (List.mem_append_left _ (List.mem_append_left _ (List.mem_append_left _ (List.mem_append_left _ (List.mem_of_getElem? (l := wsX8_follow_r1) (i := 8) rfl))))))), (List.forall_mem_cons.mpr ⟨List.mem_cons_of_mem _ (List.mem_append_left _ (List.mem_append_left _ (List.mem_append_left _ (List.mem_append_left _ (List.mem_append_left _ (List.mem_append_right _ (List.mem_append_left _ (List.mem_of_getElem? (l := wsX8_follow_r2) (i := 8) rfl)))))))), (List.forall_mem_cons.mpr ⟨List.mem_cons_of_mem _ (List.mem_append_left _ (List.mem_append_left _ (List.mem_append_left _ (List.mem_append_left _ (List.mem_append_left _ (List.mem_append_right _ (List.mem_append_left _ (List.mem_of_getElem? (l := wsX8_follow_r2) (i := 9) rfl)))))))), (List.forall_mem_cons.mpr ⟨List.mem_cons_of_mem _ (List.mem_append_left _ (List.mem_append_left _ (List.mem_append_left _ (List.mem_append_left _ (List.mem_append_left _ (List.mem_append_right _ (List.mem_append_left _ (List.mem_of_getElem? (l := wsX8_follow_r2) (i := 10) rfl)))))))), (List.forall_mem_cons.mpr ⟨List.mem_cons_of_mem _ (List.mem_append_left _ (List.mem_append_left _ (List.mem_append_left _ (List.mem_append_left _ (List.mem_append_left _ (List.mem_append_right _ (List.mem_append_left _ (List.mem_of_getElem? (l := wsX8_follow_r2) (i := 11) rfl)))))))), (List.forall_mem_cons.mpr ⟨List.mem_cons_of_mem _ (List.mem_append_left _ (List.mem_append_left _ (List.mem_append_left _ (List.mem_append_left _ (List.mem_append_left _ (List.mem_append_right _ (List.mem_append_left _ (List.mem_of_getElem? (l := wsX8_follow_r2) (i := 12) rfl)))))))), (List.forall_mem_cons.mpr ⟨List.mem_cons_of_mem _ (List.mem_append_left _ (List.mem_append_left _ (List.mem_append_left _ (List.mem_append_left _ (List.mem_append_left _ (List.mem_append_right _ (List.mem_append_left _ (List.mem_of_getElem? (l := wsX8_follow_r2) (i := 13) rfl)))))))), (List.forall_mem_cons.mpr ⟨List.mem_cons_of_mem _ (List.mem_append_left _ (List.mem_append_left _ (List.mem_append_left _ (List.mem_append_left _ (List.mem_append_left _ (List.mem_append_left _ (List.mem_of_getElem? (l := wsX8_follow_r1) (i := 10) rfl))))))), (List.forall_mem_cons.mpr ⟨List.mem_cons_of_mem _ (List.mem_append_left _ (List.mem_append_left _ (List.mem_append_left _ (List.mem_append_left _ (List.mem_append_left _ (List.mem_append_right _ (List.mem_append_left _ (List.mem_of_getElem? (l := wsX8_follow_r2) (i := 14) rfl)))))))), (List.forall_mem_cons.mpr ⟨List.mem_cons_of_mem _ (List.mem_append_left _ (List.mem_append_left _ (List.mem_append_left _ (List.mem_append_left _ (List.mem_append_left _ (List.mem_append_right _ (List.mem_append_left _ (List.mem_of_getElem? (l := wsX8_follow_r2) (i := 15) rfl)))))))), (List.forall_mem_cons.mpr ⟨List.mem_cons_of_mem _ (List.mem_append_left _ (List.mem_append_left _ (List.mem_append_left _ (List.mem_append_left _ (List.mem_append_left _ (List.mem_append_right _ (List.mem_append_left _ (List.mem_of_getElem? (l := wsX8_follow_r2) (i := 16) rfl)))))))), (List.forall_mem_cons.mpr ⟨List.mem_cons_of_mem _ (List.mem_append_left _ (List.mem_append_left _ (List.mem_append_left _ (List.mem_append_left _ (List.mem_append_left _ (List.mem_append_right _ (List.mem_append_left _ (List.mem_of_getElem? (l := wsX8_follow_r2) (i := 2) rfl)))))))), (List.forall_mem_cons.mpr ⟨List.mem_cons_of_mem _ (List.mem_append_left _ (List.mem_append_left _ (List.mem_append_left _ (List.mem_append_left _ (List.mem_append_left _ (List.mem_append_right _ (List.mem_append_left _ (List.mem_of_getElem? (l := wsX8_follow_r2) (i := 17) rfl)))))))), (List.forall_mem_cons.mpr ⟨List.mem_cons_of_mem _ (List.mem_append_left _ (List.mem_append_left _ (List.mem_append_left _ (List.mem_append_left _ (List.mem_append_left _ (List.mem_append_right _ (List.mem_append_left _ (List.mem_of_getElem? (l := wsX8_follow_r2) (i := 18) rfl)))))))), (List.forall_mem_cons.mpr ⟨List.mem_cons_of_mem _ (List.mem_append_left _ (List.mem_append_left _ (List.mem_append_left _ (List.mem_append_left _ (List.mem_append_left _ (List.mem_append_right _ (List.mem_append_left _ (List.mem_of_getElem? (l := wsX8_follow_r2) (i := 19) rfl)))))))), (List.forall_mem_cons.mpr ⟨List.mem_cons_of_mem _ (List.mem_append_left _ (List.mem_append_left _ (List.mem_append_left _ (List.mem_append_left _ (List.mem_append_left _ (List.mem_append_left _ (List.mem_of_getElem? (l := wsX8_follow_r1) (i := 6) rfl))))))), (List.forall_mem_cons.mpr ⟨List.mem_cons_of_mem _ (List.mem_append_left _ (List.mem_append_left _ (List.mem_append_left _ (List.mem_append_left _ (List.mem_append_left _ (List.mem_append_left _ (List.mem_of_getElem? (l := wsX8_follow_r1) (i := 7) rfl))))))), (List.forall_mem_cons.mpr ⟨List.mem_cons_of_mem _ (List.mem_append_left _ (List.mem_append_left _ (List.mem_append_left _ (List.mem_append_left _ (List.mem_append_left _ (List.mem_append_left _ (List.mem_of_getElem? (l := wsX8_follow_r1) (i := 9) rfl))))))), (List.forall_mem_cons.mpr ⟨List.mem_cons_of_mem _ (List.mem_append_left _ (List.mem_append_left _ (List.mem_append_left _ (List.mem_append_left _ (List.mem_append_left _ (List.mem_append_left _ (List.mem_of_getElem? (l := wsX8_follow_r1) (i := 11) rfl))))))), (List.forall_mem_cons.mpr ⟨List.mem_cons_of_mem _ (List.mem_append_left _ (List.mem_append_left _ (List.mem_append_left _ (List.mem_append_left _ (List.mem_append_left _ (List.mem_append_right _ (List.mem_append_left _ (List.mem_of_getElem? (l := wsX8_follow_r2) (i := 20) rfl)))))))), (fun _ h => nomatch h)⟩)⟩)⟩)⟩)⟩)⟩)⟩)⟩)⟩)⟩)⟩)⟩)⟩)⟩)⟩)⟩)⟩)⟩)⟩)⟩)⟩)⟩)⟩)⟩), (List.forall_mem_cons.mpr ⟨List.mem_cons_of_mem _ (List.mem_append_left _ (List.mem_append_left _ (List.mem_append_left _ (List.mem_append_left _ (List.mem_append_left _ (List.mem_append_right _ (List.mem_append_left _ (List.mem_of_getElem? (l := wsX8_follow_r2) (i := 21) rfl)))))))), (List.forall_mem_cons.mpr ⟨List.mem_cons_of_mem _ (List.mem_append_left _ (List.mem_append_left _ (List.mem_append_left _ (List.mem_append_left _ (List.mem_append_left _ (List.mem_append_right _ (List.mem_append_left _ (List.mem_of_getElem? (l := wsX8_follow_r2) (i := 22) rfl)))))))), (List.forall_mem_cons.mpr ⟨List.mem_cons_of_mem _ (List.mem_append_left _ (List.mem_append_left _ (List.mem_append_left _ (List.mem_append_left _ (List.mem_append_left _ (List.mem_append_right _ (List.mem_append_left _ (List.mem_of_getElem? (l := wsX8_follow_r2) (i := 23) rfl)))))))), (List.forall_mem_cons.mpr ⟨List.mem_cons_of_mem _ (List.mem_append_left _ (List.mem_append_left _ (List.mem_append_left _ (List.mem_append_left _ (List.mem_append_left _ (List.mem_append_right _ (List.mem_append_right _ (List.mem_of_getElem? (l := wsX8_follow_r3) (i := 0) rfl)))))))), (List.forall_mem_cons.mpr ⟨List.mem_cons_of_mem _ (List.mem_append_left _ (List.mem_append_left _ (List.mem_append_left _ (List.mem_append_left _ (List.mem_append_left _ (List.mem_append_right _ (List.mem_append_right _ (List.mem_of_getElem? (l := wsX8_follow_r3) (i := 1) rfl)))))))), (fun _ h => nomatch h)⟩)⟩)⟩)⟩)⟩)⟩), (fun _ h => List.mem_cons_of_mem _ (List.mem_append_left _ (List.mem_append_left _ (List.mem_append_left _ (List.mem_append_left _ (List.mem_append_right _ (h)))))))⟩), (fun _ h => List.mem_cons_of_mem _ (List.mem_append_left _ (List.mem_append_left _ (List.mem_append_right _ (h)))))⟩), (fun _ h => List.mem_cons_of_mem _ (List.mem_append_right _ (h)))⟩)⟩) (by decide +kernel)
set_option maxRecDepth 20000 in
theorem gX8_follow_X4_startOf : GoodIn wsX8_follow (wsV RX8 57 RX4 yX4_startOf wsX4_startOf) := goodIn_app (goodIn_of _ (by decide +kernel)) ggX8_follow_X4_startOf
set_option maxRecDepth 20000 in
theorem ggX8_follow_X6_splitAt : GoodIn wsX8_follow wsX6_splitAt := goodIn_sub (List.forall_mem_cons.mpr ⟨List.mem_cons_of_mem _ (List.mem_append_left _ (List.mem_append_left _ (List.mem_append_left _ (List.mem_append_left _ (List.mem_append_left _ (List.mem_append_right _ (List.mem_append_left _ (List.mem_of_getElem? (l := wsX8_follow_r2) (i := 8) rfl)))))))), (List.forall_mem_append.mpr ⟨(List.forall_mem_cons.mpr ⟨List.mem_cons_of_mem _ (List.mem_append_left _ (List.mem_append_left _ (List.mem_append_left _ (List.mem_append_left _ (List.mem_append_left _ (List.mem_append_right _ (List.mem_append_left _ (List.mem_of_getElem? (l := wsX8_follow_r2) (i := 9) rfl)))))))), (List.forall_mem_cons.mpr ⟨List.mem_cons_of_mem _ (List.mem_append_left _ (List.mem_append_left _ (List.mem_append_left _ (List.mem_append_left _ (List.mem_append_left _ (List.mem_append_right _ (List.mem_append_left _ (List.mem_of_getElem? (l := wsX8_follow_r2) (i := 10) rfl)))))))), (List.forall_mem_cons.mpr ⟨List.mem_cons_of_mem _ (List.mem_append_left _ (List.mem_append_left _ (List.mem_append_left _ (List.mem_append_left _ (List.mem_append_left _ (List.mem_append_right _ (List.mem_append_left _ (List.mem_of_getElem? (l := wsX8_follow_r2) (i := 11) rfl)))))))), (List.forall_mem_cons.mpr ⟨List.mem_cons_of_mem _ (List.mem_append_left _ (List.mem_append_left _ (List.mem_append_left _ (List.mem_append_left _ (List.mem_append_left _ (List.mem_append_right _ (List.mem_append_left _ (List.mem_of_getElem? (l := wsX8_follow_r2) (i := 12) rfl)))))))), (List.forall_mem_cons.mpr ⟨List.mem_cons_of_mem _ (List.mem_append_left _ (List.mem_append_left _ (List.mem_append_left _ (List.mem_append_left _ (List.mem_append_left _ (List.mem_append_left _ (List.mem_of_getElem? (l := wsX8_follow_r1) (i := 8) rfl))))))), (List.forall_mem_cons.mpr ⟨List.mem_cons_of_mem _ (List.mem_append_left _ (List.mem_append_left _ (List.mem_append_left _ (List.mem_append_left _ (List.mem_append_left _ (List.mem_append_right _ (List.mem_append_left _ (List.mem_of_getElem? (l := wsX8_follow_r2) (i := 13) rfl)))))))), (List.forall_mem_cons.mpr ⟨List.mem_cons_of_mem _ (List.mem_append_left _ (List.mem_append_left _ (List.mem_append_left _ (List.mem_append_left _ (List.mem_append_left _ (List.mem_append_left _ (List.mem_of_getElem? (l := wsX8_follow_r1) (i := 10) rfl))))))), (fun _ h => nomatch h)⟩)⟩)⟩)⟩)⟩)⟩)⟩), (fun _ h => List.mem_cons_of_mem _ (List.mem_append_left _ (List.mem_append_left _ (List.mem_append_right _ (h)))))⟩)⟩) (by decide +kernel)
set_option maxRecDepth 20000 in
theorem gX8_follow_X6_splitAt : GoodIn wsX8_follow (wsV RX8 60 RX6 yX6_splitAt wsX6_splitAt) := goodIn_app (goodIn_of _ (by decide +kernel)) ggX8_follow_X6_splitAt
set_option maxRecDepth 20000 in
theorem ggX8_follow_X9_placeAt : GoodIn wsX8_follow wsX9_placeAt := goodIn_sub (List.forall_mem_cons.mpr ⟨List.mem_cons_of_mem _ (List.mem_append_left _ (List.mem_append_left _ (List.mem_append_left _ (List.mem_append_left _ (List.mem_append_left _ (List.mem_append_right _ (List.mem_append_right _ (List.mem_of_getElem? (l := wsX8_follow_r3) (i := 6) rfl)))))))), (List.forall_mem_append.mpr ⟨(List.forall_mem_cons.mpr ⟨List.mem_cons_of_mem _ (List.mem_append_left _ (List.mem_append_left _ (List.mem_append_left _ (List.mem_append_left _ (List.mem_append_left _ (List.mem_append_right _ (List.mem_append_right _ (List.mem_of_getElem? (l := wsX8_follow_r3) (i := 7) rfl)))))))), (List.forall_mem_cons.mpr ⟨List.mem_cons_of_mem _ (List.mem_append_left _ (List.mem_append_left _ (List.mem_append_left _ (List.mem_append_left _ (List.mem_append_left _ (List.mem_append_right _ (List.mem_append_right _ (List.mem_of_getElem? (l := wsX8_follow_r3) (i := 8) rfl)))))))), (List.forall_mem_cons.mpr ⟨List.mem_cons_of_mem _ (List.mem_append_left _ (List.mem_append_left _ (List.mem_append_left _ (List.mem_append_left _ (List.mem_append_left _ (List.mem_append_right _ (List.mem_append_right _ (List.mem_of_getElem? (l := wsX8_follow_r3) (i := 9) rfl)))))))), (List.forall_mem_cons.mpr ⟨List.mem_cons_of_mem _ (List.mem_append_left _ (List.mem_append_left _ (List.mem_append_left _ (List.mem_append_left _ (List.mem_append_left _ (List.mem_append_right _ (List.mem_append_right _ (List.mem_of_getElem? (l := wsX8_follow_r3) (i := 10) rfl)))))))), (List.forall_mem_cons.mpr ⟨List.mem_cons_of_mem _ (List.mem_append_left _ (List.mem_append_left _ (List.mem_append_left _ (List.mem_append_left _ (List.mem_append_left _ (List.mem_append_left _ (List.mem_of_getElem? (l := wsX8_follow_r1) (i := 20) rfl))))))), (List.forall_mem_cons.mpr ⟨List.mem_cons_of_mem _ (List.mem_append_left _ (List.mem_append_left _ (List.mem_append_left _ (List.mem_append_left _ (List.mem_append_left _ (List.mem_append_right _ (List.mem_append_right _ (List.mem_of_getElem? (l := wsX8_follow_r3) (i := 11) rfl)))))))), (List.forall_mem_cons.mpr ⟨List.mem_cons_of_mem _ (List.mem_append_left _ (List.mem_append_left _ (List.mem_append_left _ (List.mem_append_left _ (List.mem_append_left _ (List.mem_append_left _ (List.mem_of_getElem? (l := wsX8_follow_r1) (i := 22) rfl))))))), (fun _ h => nomatch h)⟩)⟩)⟩)⟩)⟩)⟩)⟩), (fun _ h => List.mem_cons_of_mem _ (List.mem_append_left _ (List.mem_append_right _ (h))))⟩)⟩) (by decide +kernel)
set_option maxRecDepth 20000 in
theorem gX8_follow_X9_placeAt : GoodIn wsX8_follow (wsV RX8 63 RX9 yX9_placeAt wsX9_placeAt) := goodIn_app (goodIn_of _ (by decide +kernel)) ggX8_follow_X9_placeAt
theorem qX8_follow_X4 : ∀ w ∈ wsX40, w ∈ wsX8_follow := fun _ h => List.mem_cons_of_mem _ (List.mem_append_left _ (List.mem_append_left _ (List.mem_append_left _ (List.mem_append_left _ (List.mem_append_right _ (h))))))
theorem kX8_follow_1 : (.initialized RX10 : Cond) ∈ wsX8_follow := List.mem_of_getElem? (i := 14) (by decide +kernel)
theorem kX8_follow_2 : (.static yX10_leastLimit : Cond) ∈ wsX8_follow := List.mem_of_getElem? (i := 13) (by decide +kernel)
theorem kX8_follow_3 : (.fieldLink RX8 34 "RunDesk$Trail" "least" "I" : Cond) ∈ wsX8_follow := List.mem_of_getElem? (i := 1) (by decide +kernel)
theorem qX8_follow_X8 : ∀ w ∈ wsX80, w ∈ wsX8_follow := fun _ h => List.mem_cons_of_mem _ (List.mem_append_left _ (List.mem_append_left _ (List.mem_append_left _ (List.mem_append_right _ (h)))))
theorem kX8_follow_5 : (.static yX10_greatestLimit : Cond) ∈ wsX8_follow := List.mem_of_getElem? (i := 16) (by decide +kernel)
theorem kX8_follow_6 : (.fieldLink RX8 41 "RunDesk$Trail" "greatest" "I" : Cond) ∈ wsX8_follow := List.mem_of_getElem? (i := 2) (by decide +kernel)
theorem kX8_follow_7 : (.fieldLink RX8 54 "RunDesk$Trail" "mats" "I" : Cond) ∈ wsX8_follow := List.mem_of_getElem? (i := 3) (by decide +kernel)
theorem kX8_follow_8 : (.fieldLink RX8 9 "RunDesk$Trail" "ticks" "[I" : Cond) ∈ wsX8_follow := List.mem_of_getElem? (i := 4) (by decide +kernel)
theorem kX8_follow_9 : (.fieldLink RX8 15 "RunDesk$Trail" "places" "[I" : Cond) ∈ wsX8_follow := List.mem_of_getElem? (i := 5) (by decide +kernel)
set_option maxHeartbeats 4000000 in
set_option maxRecDepth 100000 in
theorem mX8_follow (l : Launch) (D : va_G) (cB cI cZ : ClassId) (a_t : Nat) (a_p1 : Nat) (a_t_ticks : Nat) (a_t_places : Nat) (a_p1_way : Nat) (a_p1_guns : Nat) (a_p1_runners : Nat) (a_p1_guns_ticks : Nat) (a_p1_runners_facts : Nat) (a_p1_runners_splits : Nat) (a_p1_runners_torn : Nat) (a_p1_runners_dropped : Nat) (a_p1_runners_waved : Nat) (a_p1_runners_struck : Nat) (a_p1_runners_strikingOrder : Nat) (a_p1_way_places : Nat) (a_p1_way_bearings : Nat) (a_p1_way_cuts : Nat) (a_p1_way_deaths : Nat) (t_mats : Int32) (t_least : Int32) (t_greatest : Int32) (t_places : Nat → Int32) (t_ticks : Nat → Int32) (p1_guns_ticks : Nat → Int32) (p1_runners_entered : Int32) (p1_runners_strikings : Int32) (p1_runners_facts : Nat → Int32) (p1_runners_splits : Nat → Int32) (p1_way_mats : Int32) (p1_way_places : Nat → Int32) (sz : Nat) (x2 : Int32) (N : Nat) (t_greatest' : Int32) (t_least' : Int32) (t_mats' : Int32) (t_places' : Nat → Int32) (t_ticks' : Nat → Int32) (h : fX8_follow N t_greatest t_least t_mats t_places t_ticks p1_guns_ticks p1_runners_entered p1_runners_facts p1_runners_splits p1_way_mats p1_way_places x2 = some (t_greatest', t_least', t_mats', t_places', t_ticks')) : Met l yX8_follow wsX8_follow ({ frames := 3, cells := 0, slots := 0, locals := 65 } : Room) (va_Pc [.ref a_t, .ref a_p1, .int x2] (zPre D (zT cB cI cZ) [(a_t, .inr (8, [.ref a_t_ticks, .ref a_t_places, .int t_mats, .int t_least, .int t_greatest])), (a_t_places, .inl (cI, 12, .inl t_places)), (a_t_ticks, .inl (cI, 12, .inl t_ticks)), (a_p1, .inr (4, [.ref a_p1_way, .ref a_p1_guns, .ref a_p1_runners])), (a_p1_guns, .inr (2, [.ref a_p1_guns_ticks])), (a_p1_guns_ticks, .inl (cI, 6, .inl p1_guns_ticks)), (a_p1_runners, .inr (6, [.ref a_p1_runners_facts, .ref a_p1_runners_splits, .ref a_p1_runners_torn, .ref a_p1_runners_dropped, .ref a_p1_runners_waved, .ref a_p1_runners_struck, .ref a_p1_runners_strikingOrder, .int p1_runners_entered, .int p1_runners_strikings])), (a_p1_runners_facts, .inl (cI, 360, .inl p1_runners_facts)), (a_p1_runners_splits, .inl (cI, 720, .inl p1_runners_splits)), (a_p1_way, .inr (9, [.ref a_p1_way_places, .ref a_p1_way_bearings, .ref a_p1_way_cuts, .ref a_p1_way_deaths, .int p1_way_mats])), (a_p1_way_places, .inl (cI, 12, .inl p1_way_places))] sz)) (zQv D (zT cB cI cZ) [(a_t, .inr (8, [.ref a_t_ticks, .ref a_t_places, .int t_mats', .int t_least', .int t_greatest'])), (a_t_places, .inl (cI, 12, .inl t_places')), (a_t_ticks, .inl (cI, 12, .inl t_ticks')), (a_p1, .inr (4, [.ref a_p1_way, .ref a_p1_guns, .ref a_p1_runners])), (a_p1_guns, .inr (2, [.ref a_p1_guns_ticks])), (a_p1_guns_ticks, .inl (cI, 6, .inl p1_guns_ticks)), (a_p1_runners, .inr (6, [.ref a_p1_runners_facts, .ref a_p1_runners_splits, .ref a_p1_runners_torn, .ref a_p1_runners_dropped, .ref a_p1_runners_waved, .ref a_p1_runners_struck, .ref a_p1_runners_strikingOrder, .int p1_runners_entered, .int p1_runners_strikings])), (a_p1_runners_facts, .inl (cI, 360, .inl p1_runners_facts)), (a_p1_runners_splits, .inl (cI, 720, .inl p1_runners_splits)), (a_p1_way, .inr (9, [.ref a_p1_way_places, .ref a_p1_way_bearings, .ref a_p1_way_cuts, .ref a_p1_way_deaths, .int p1_way_mats])), (a_p1_way_places, .inl (cI, 12, .inl p1_way_places))] (va_A [(a_t, .inr (8, [.ref a_t_ticks, .ref a_t_places, .int t_mats, .int t_least, .int t_greatest])), (a_t_places, .inl (cI, 12, .inl t_places)), (a_t_ticks, .inl (cI, 12, .inl t_ticks)), (a_p1, .inr (4, [.ref a_p1_way, .ref a_p1_guns, .ref a_p1_runners])), (a_p1_guns, .inr (2, [.ref a_p1_guns_ticks])), (a_p1_guns_ticks, .inl (cI, 6, .inl p1_guns_ticks)), (a_p1_runners, .inr (6, [.ref a_p1_runners_facts, .ref a_p1_runners_splits, .ref a_p1_runners_torn, .ref a_p1_runners_dropped, .ref a_p1_runners_waved, .ref a_p1_runners_struck, .ref a_p1_runners_strikingOrder, .int p1_runners_entered, .int p1_runners_strikings])), (a_p1_runners_facts, .inl (cI, 360, .inl p1_runners_facts)), (a_p1_runners_splits, .inl (cI, 720, .inl p1_runners_splits)), (a_p1_way, .inr (9, [.ref a_p1_way_places, .ref a_p1_way_bearings, .ref a_p1_way_cuts, .ref a_p1_way_deaths, .int p1_way_mats])), (a_p1_way_places, .inl (cI, 12, .inl p1_way_places))] sz)) 0 0 (va_A [(a_t, .inr (8, [.ref a_t_ticks, .ref a_t_places, .int t_mats, .int t_least, .int t_greatest])), (a_t_places, .inl (cI, 12, .inl t_places)), (a_t_ticks, .inl (cI, 12, .inl t_ticks)), (a_p1, .inr (4, [.ref a_p1_way, .ref a_p1_guns, .ref a_p1_runners])), (a_p1_guns, .inr (2, [.ref a_p1_guns_ticks])), (a_p1_guns_ticks, .inl (cI, 6, .inl p1_guns_ticks)), (a_p1_runners, .inr (6, [.ref a_p1_runners_facts, .ref a_p1_runners_splits, .ref a_p1_runners_torn, .ref a_p1_runners_dropped, .ref a_p1_runners_waved, .ref a_p1_runners_struck, .ref a_p1_runners_strikingOrder, .int p1_runners_entered, .int p1_runners_strikings])), (a_p1_runners_facts, .inl (cI, 360, .inl p1_runners_facts)), (a_p1_runners_splits, .inl (cI, 720, .inl p1_runners_splits)), (a_p1_way, .inr (9, [.ref a_p1_way_places, .ref a_p1_way_bearings, .ref a_p1_way_cuts, .ref a_p1_way_deaths, .int p1_way_mats])), (a_p1_way_places, .inl (cI, 12, .inl p1_way_places))] sz) := by
  refine Met.ofW (cc := cX8_follow) (maxL := 5) (ret := none) (by decide) rfl ?_
  intro p e s m args below meth c s₁ B hml hv
  obtain ⟨rfl, hsz, hP, hK, hN, hZ, hD0⟩ := hv
  have hx := B.exec
  have hb := B.bytes
  have hr := B.returns
  have hts := atoms_spec (ws := wsX8_follow) B.pre
  have hown : s.vm.findClass RX8 = some m.cls := findClass_of_methodNamed B.named
  have hlocks := B.notSynchronized
  subst hsz
  have hD := hD0.self (sz := s.heap.size)
  generalize hAe : va_A [(a_t, .inr (8, [.ref a_t_ticks, .ref a_t_places, .int t_mats, .int t_least, .int t_greatest])), (a_t_places, .inl (cI, 12, .inl t_places)), (a_t_ticks, .inl (cI, 12, .inl t_ticks)), (a_p1, .inr (4, [.ref a_p1_way, .ref a_p1_guns, .ref a_p1_runners])), (a_p1_guns, .inr (2, [.ref a_p1_guns_ticks])), (a_p1_guns_ticks, .inl (cI, 6, .inl p1_guns_ticks)), (a_p1_runners, .inr (6, [.ref a_p1_runners_facts, .ref a_p1_runners_splits, .ref a_p1_runners_torn, .ref a_p1_runners_dropped, .ref a_p1_runners_waved, .ref a_p1_runners_struck, .ref a_p1_runners_strikingOrder, .int p1_runners_entered, .int p1_runners_strikings])), (a_p1_runners_facts, .inl (cI, 360, .inl p1_runners_facts)), (a_p1_runners_splits, .inl (cI, 720, .inl p1_runners_splits)), (a_p1_way, .inr (9, [.ref a_p1_way_places, .ref a_p1_way_bearings, .ref a_p1_way_cuts, .ref a_p1_way_deaths, .int p1_way_mats])), (a_p1_way_places, .inl (cI, 12, .inl p1_way_places))] s.heap.size = A at hD hZ ⊢
  have hA : ∀ q : Nat, s.heap.size ≤ q → A q := fun q h => by rw [← hAe]; exact Or.inr h
  have hS : va_S A s.heap s.heap [] := va_S.rf
  have hl := lv_entry ([.ref a_t, .ref a_p1, .int x2]) (n := 5) (Nat.le_of_ble_eq_true rfl)
  rw [lg_entry_eq]
  generalize (lg_sl ([.ref a_t, .ref a_p1, .int x2]) ++ List.replicate (5 - (lg_sl ([.ref a_t, .ref a_p1, .int x2])).length) Slot.unset).toArray = ls at hl ⊢
  have hl : lv_has ls 5 [(0, .ref a_t), (1, .ref a_p1), (2, .int x2)] := hl
  unfold fX8_follow at h
  refine lv_aload_n hx hb dX8_follow_0 rfl (lv_at hl 1 rfl) ?_
  refine va_getN (host := "RunDesk") (D := D) (ci := 4) (C := RX4) (T := TX4) (N := 3) hx hb hts qX8_follow_X4 hown hK hP 3 rfl rfl 2 (by decide) (va_Nw.use rfl (hN _ (List.mem_of_getElem? (i := 6) rfl))) (fun _ h9 => h9) rfl dX8_follow_1 ?_
  refine lv_iload_n hx hb dX8_follow_4 rfl (lv_at hl 2 rfl) ?_
  refine lv_iconst (v := (nI 0)) hx hb dX8_follow_5 rfl ?_
  obtain ⟨r1, e2, h⟩ := zz_b h
  refine zVi (As := [.int x2, .int (nI 0)]) (rest := []) (C := RX6) (wr := [(a_t, .inr (8, [.ref a_t_ticks, .ref a_t_places, .int t_mats, .int t_least, .int t_greatest])), (a_t_places, .inl (cI, 12, .inl t_places)), (a_t_ticks, .inl (cI, 12, .inl t_ticks)), (a_p1, .inr (4, [.ref a_p1_way, .ref a_p1_guns, .ref a_p1_runners])), (a_p1_guns, .inr (2, [.ref a_p1_guns_ticks])), (a_p1_guns_ticks, .inl (cI, 6, .inl p1_guns_ticks)), (a_p1_runners_splits, .inl (cI, 720, .inl p1_runners_splits)), (a_p1_way, .inr (9, [.ref a_p1_way_places, .ref a_p1_way_bearings, .ref a_p1_way_cuts, .ref a_p1_way_deaths, .int p1_way_mats])), (a_p1_way_places, .inl (cI, 12, .inl p1_way_places))]) [6, 7] [0, 1, 2, 3, 4, 5, 8, 9, 10] 0 ⟨hx, hb, hml, hown, hts⟩ (mX6_factOf l D cB cI cZ a_p1_runners a_p1_runners_facts a_p1_runners_splits a_p1_runners_torn a_p1_runners_dropped a_p1_runners_waved a_p1_runners_struck a_p1_runners_strikingOrder p1_runners_entered p1_runners_strikings p1_runners_facts s.heap.size x2 (nI 0) r1 e2) (cwV 2 hts gX8_follow_X6_factOf rfl rfl rfl (by decide +kernel) ⟨Nat.le_of_ble_eq_true rfl, Nat.le_of_ble_eq_true rfl⟩) hK hN hZ hP hD hS hA rfl rfl rfl rfl rfl rfl rfl rfl hl.1 rfl (lv_room (Nat.le_of_ble_eq_true rfl)) dX8_follow_6 ⟨Nat.le_of_ble_eq_true rfl, Nat.le_of_ble_eq_true rfl⟩ (fun H locs hP hD hS => ?_)
  have hP : va_P D vwCl [(a_t, .inr (8, [.ref a_t_ticks, .ref a_t_places, .int t_mats, .int t_least, .int t_greatest])), (a_t_places, .inl (cI, 12, .inl t_places)), (a_t_ticks, .inl (cI, 12, .inl t_ticks)), (a_p1, .inr (4, [.ref a_p1_way, .ref a_p1_guns, .ref a_p1_runners])), (a_p1_guns, .inr (2, [.ref a_p1_guns_ticks])), (a_p1_guns_ticks, .inl (cI, 6, .inl p1_guns_ticks)), (a_p1_runners_splits, .inl (cI, 720, .inl p1_runners_splits)), (a_p1_way, .inr (9, [.ref a_p1_way_places, .ref a_p1_way_bearings, .ref a_p1_way_cuts, .ref a_p1_way_deaths, .int p1_way_mats])), (a_p1_way_places, .inl (cI, 12, .inl p1_way_places)), (a_p1_runners, .inr (6, [.ref a_p1_runners_facts, .ref a_p1_runners_splits, .ref a_p1_runners_torn, .ref a_p1_runners_dropped, .ref a_p1_runners_waved, .ref a_p1_runners_struck, .ref a_p1_runners_strikingOrder, .int p1_runners_entered, .int p1_runners_strikings])), (a_p1_runners_facts, .inl (cI, 360, .inl p1_runners_facts))] H := hP
  have hD : va_D A [(a_t, .inr (8, [.ref a_t_ticks, .ref a_t_places, .int t_mats, .int t_least, .int t_greatest])), (a_t_places, .inl (cI, 12, .inl t_places)), (a_t_ticks, .inl (cI, 12, .inl t_ticks)), (a_p1, .inr (4, [.ref a_p1_way, .ref a_p1_guns, .ref a_p1_runners])), (a_p1_guns, .inr (2, [.ref a_p1_guns_ticks])), (a_p1_guns_ticks, .inl (cI, 6, .inl p1_guns_ticks)), (a_p1_runners_splits, .inl (cI, 720, .inl p1_runners_splits)), (a_p1_way, .inr (9, [.ref a_p1_way_places, .ref a_p1_way_bearings, .ref a_p1_way_cuts, .ref a_p1_way_deaths, .int p1_way_mats])), (a_p1_way_places, .inl (cI, 12, .inl p1_way_places)), (a_p1_runners, .inr (6, [.ref a_p1_runners_facts, .ref a_p1_runners_splits, .ref a_p1_runners_torn, .ref a_p1_runners_dropped, .ref a_p1_runners_waved, .ref a_p1_runners_struck, .ref a_p1_runners_strikingOrder, .int p1_runners_entered, .int p1_runners_strikings])), (a_p1_runners_facts, .inl (cI, 360, .inl p1_runners_facts))] := hD
  refine lv_istore_n (lv' := [(3, .int r1), (0, .ref a_t), (1, .ref a_p1), (2, .int x2)]) hx hb dX8_follow_9 rfl hl (by decide) rfl (fun ls hl => ?_)
  refine lv_aload_n hx hb dX8_follow_10 rfl (lv_at hl 1 rfl) ?_
  refine lv_iload_n hx hb dX8_follow_11 rfl (lv_at hl 0 rfl) ?_
  obtain ⟨r3, e4, h⟩ := zz_b h
  refine zNi (As := [.int r1]) (rest := [.ref a_t]) (host := "RunDesk") (wr := [(a_t, .inr (8, [.ref a_t_ticks, .ref a_t_places, .int t_mats, .int t_least, .int t_greatest])), (a_t_places, .inl (cI, 12, .inl t_places)), (a_t_ticks, .inl (cI, 12, .inl t_ticks)), (a_p1, .inr (4, [.ref a_p1_way, .ref a_p1_guns, .ref a_p1_runners])), (a_p1_guns, .inr (2, [.ref a_p1_guns_ticks])), (a_p1_guns_ticks, .inl (cI, 6, .inl p1_guns_ticks)), (a_p1_runners_splits, .inl (cI, 720, .inl p1_runners_splits)), (a_p1_way, .inr (9, [.ref a_p1_way_places, .ref a_p1_way_bearings, .ref a_p1_way_cuts, .ref a_p1_way_deaths, .int p1_way_mats])), (a_p1_way_places, .inl (cI, 12, .inl p1_way_places)), (a_p1_runners, .inr (6, [.ref a_p1_runners_facts, .ref a_p1_runners_splits, .ref a_p1_runners_torn, .ref a_p1_runners_dropped, .ref a_p1_runners_waved, .ref a_p1_runners_struck, .ref a_p1_runners_strikingOrder, .int p1_runners_entered, .int p1_runners_strikings])), (a_p1_runners_facts, .inl (cI, 360, .inl p1_runners_facts))]) [] [0, 1, 2, 3, 4, 5, 6, 7, 8, 9, 10] ⟨hx, hb, hml, hown, hts⟩ (mX10_leastLimit l D cB cI cZ H.size r1 r3 e4) ⟨va_cnB 1 hts gX8_follow_X10_leastLimit_n30 rfl rfl rfl (hN _ (List.mem_of_getElem? (i := 27) rfl)) (hts _ kX8_follow_1) (by decide +kernel) ⟨Nat.le_of_ble_eq_true rfl, Nat.le_of_ble_eq_true rfl⟩, (hts _ kX8_follow_2), trivial⟩ hK hN hZ hP hD hS hA rfl rfl rfl rfl rfl rfl hl.1 rfl (lv_room (Nat.le_of_ble_eq_true rfl)) dX8_follow_12 ⟨Nat.le_of_ble_eq_true rfl, Nat.le_of_ble_eq_true rfl⟩ (fun H locs hP hD hS => ?_)
  have hP : va_P D vwCl [(a_t, .inr (8, [.ref a_t_ticks, .ref a_t_places, .int t_mats, .int t_least, .int t_greatest])), (a_t_places, .inl (cI, 12, .inl t_places)), (a_t_ticks, .inl (cI, 12, .inl t_ticks)), (a_p1, .inr (4, [.ref a_p1_way, .ref a_p1_guns, .ref a_p1_runners])), (a_p1_guns, .inr (2, [.ref a_p1_guns_ticks])), (a_p1_guns_ticks, .inl (cI, 6, .inl p1_guns_ticks)), (a_p1_runners_splits, .inl (cI, 720, .inl p1_runners_splits)), (a_p1_way, .inr (9, [.ref a_p1_way_places, .ref a_p1_way_bearings, .ref a_p1_way_cuts, .ref a_p1_way_deaths, .int p1_way_mats])), (a_p1_way_places, .inl (cI, 12, .inl p1_way_places)), (a_p1_runners, .inr (6, [.ref a_p1_runners_facts, .ref a_p1_runners_splits, .ref a_p1_runners_torn, .ref a_p1_runners_dropped, .ref a_p1_runners_waved, .ref a_p1_runners_struck, .ref a_p1_runners_strikingOrder, .int p1_runners_entered, .int p1_runners_strikings])), (a_p1_runners_facts, .inl (cI, 360, .inl p1_runners_facts))] H := hP
  have hD : va_D A [(a_t, .inr (8, [.ref a_t_ticks, .ref a_t_places, .int t_mats, .int t_least, .int t_greatest])), (a_t_places, .inl (cI, 12, .inl t_places)), (a_t_ticks, .inl (cI, 12, .inl t_ticks)), (a_p1, .inr (4, [.ref a_p1_way, .ref a_p1_guns, .ref a_p1_runners])), (a_p1_guns, .inr (2, [.ref a_p1_guns_ticks])), (a_p1_guns_ticks, .inl (cI, 6, .inl p1_guns_ticks)), (a_p1_runners_splits, .inl (cI, 720, .inl p1_runners_splits)), (a_p1_way, .inr (9, [.ref a_p1_way_places, .ref a_p1_way_bearings, .ref a_p1_way_cuts, .ref a_p1_way_deaths, .int p1_way_mats])), (a_p1_way_places, .inl (cI, 12, .inl p1_way_places)), (a_p1_runners, .inr (6, [.ref a_p1_runners_facts, .ref a_p1_runners_splits, .ref a_p1_runners_torn, .ref a_p1_runners_dropped, .ref a_p1_runners_waved, .ref a_p1_runners_struck, .ref a_p1_runners_strikingOrder, .int p1_runners_entered, .int p1_runners_strikings])), (a_p1_runners_facts, .inl (cI, 360, .inl p1_runners_facts))] := hD
  refine va_put (D := D) (ci := 8) (ty := .int) (C := RX8) (T := TX8) (N := 5) hx hb hts qX8_follow_X8 tyX8 tyX8_ok nmX8 hown hK hP hD hS 0 rfl rfl 3 (by decide) (hts _ kX8_follow_3) (fun _ h9 => h9) rfl (by decide +kernel) rfl (by first | rfl | exact zz_fit) (Nat.le_of_ble_eq_true rfl) dX8_follow_15 (fun H locs hP hD hS => ?_)
  have hP : va_P D vwCl [(a_t, .inr (8, [.ref a_t_ticks, .ref a_t_places, .int t_mats, .int r3, .int t_greatest])), (a_t_places, .inl (cI, 12, .inl t_places)), (a_t_ticks, .inl (cI, 12, .inl t_ticks)), (a_p1, .inr (4, [.ref a_p1_way, .ref a_p1_guns, .ref a_p1_runners])), (a_p1_guns, .inr (2, [.ref a_p1_guns_ticks])), (a_p1_guns_ticks, .inl (cI, 6, .inl p1_guns_ticks)), (a_p1_runners_splits, .inl (cI, 720, .inl p1_runners_splits)), (a_p1_way, .inr (9, [.ref a_p1_way_places, .ref a_p1_way_bearings, .ref a_p1_way_cuts, .ref a_p1_way_deaths, .int p1_way_mats])), (a_p1_way_places, .inl (cI, 12, .inl p1_way_places)), (a_p1_runners, .inr (6, [.ref a_p1_runners_facts, .ref a_p1_runners_splits, .ref a_p1_runners_torn, .ref a_p1_runners_dropped, .ref a_p1_runners_waved, .ref a_p1_runners_struck, .ref a_p1_runners_strikingOrder, .int p1_runners_entered, .int p1_runners_strikings])), (a_p1_runners_facts, .inl (cI, 360, .inl p1_runners_facts))] H := hP
  have hD : va_D A [(a_t, .inr (8, [.ref a_t_ticks, .ref a_t_places, .int t_mats, .int r3, .int t_greatest])), (a_t_places, .inl (cI, 12, .inl t_places)), (a_t_ticks, .inl (cI, 12, .inl t_ticks)), (a_p1, .inr (4, [.ref a_p1_way, .ref a_p1_guns, .ref a_p1_runners])), (a_p1_guns, .inr (2, [.ref a_p1_guns_ticks])), (a_p1_guns_ticks, .inl (cI, 6, .inl p1_guns_ticks)), (a_p1_runners_splits, .inl (cI, 720, .inl p1_runners_splits)), (a_p1_way, .inr (9, [.ref a_p1_way_places, .ref a_p1_way_bearings, .ref a_p1_way_cuts, .ref a_p1_way_deaths, .int p1_way_mats])), (a_p1_way_places, .inl (cI, 12, .inl p1_way_places)), (a_p1_runners, .inr (6, [.ref a_p1_runners_facts, .ref a_p1_runners_splits, .ref a_p1_runners_torn, .ref a_p1_runners_dropped, .ref a_p1_runners_waved, .ref a_p1_runners_struck, .ref a_p1_runners_strikingOrder, .int p1_runners_entered, .int p1_runners_strikings])), (a_p1_runners_facts, .inl (cI, 360, .inl p1_runners_facts))] := hD
  refine lv_aload_n hx hb dX8_follow_18 rfl (lv_at hl 1 rfl) ?_
  refine lv_iload_n hx hb dX8_follow_19 rfl (lv_at hl 0 rfl) ?_
  obtain ⟨r5, e6, h⟩ := zz_b h
  refine zNi (As := [.int r1]) (rest := [.ref a_t]) (host := "RunDesk") (wr := [(a_t, .inr (8, [.ref a_t_ticks, .ref a_t_places, .int t_mats, .int r3, .int t_greatest])), (a_t_places, .inl (cI, 12, .inl t_places)), (a_t_ticks, .inl (cI, 12, .inl t_ticks)), (a_p1, .inr (4, [.ref a_p1_way, .ref a_p1_guns, .ref a_p1_runners])), (a_p1_guns, .inr (2, [.ref a_p1_guns_ticks])), (a_p1_guns_ticks, .inl (cI, 6, .inl p1_guns_ticks)), (a_p1_runners_splits, .inl (cI, 720, .inl p1_runners_splits)), (a_p1_way, .inr (9, [.ref a_p1_way_places, .ref a_p1_way_bearings, .ref a_p1_way_cuts, .ref a_p1_way_deaths, .int p1_way_mats])), (a_p1_way_places, .inl (cI, 12, .inl p1_way_places)), (a_p1_runners, .inr (6, [.ref a_p1_runners_facts, .ref a_p1_runners_splits, .ref a_p1_runners_torn, .ref a_p1_runners_dropped, .ref a_p1_runners_waved, .ref a_p1_runners_struck, .ref a_p1_runners_strikingOrder, .int p1_runners_entered, .int p1_runners_strikings])), (a_p1_runners_facts, .inl (cI, 360, .inl p1_runners_facts))]) [] [0, 1, 2, 3, 4, 5, 6, 7, 8, 9, 10] ⟨hx, hb, hml, hown, hts⟩ (mX10_greatestLimit l D cB cI cZ H.size r1 r5 e6) ⟨va_cnB 1 hts gX8_follow_X10_greatestLimit_n38 rfl rfl rfl (hN _ (List.mem_of_getElem? (i := 28) rfl)) (hts _ kX8_follow_1) (by decide +kernel) ⟨Nat.le_of_ble_eq_true rfl, Nat.le_of_ble_eq_true rfl⟩, (hts _ kX8_follow_5), trivial⟩ hK hN hZ hP hD hS hA rfl rfl rfl rfl rfl rfl hl.1 rfl (lv_room (Nat.le_of_ble_eq_true rfl)) dX8_follow_20 ⟨Nat.le_of_ble_eq_true rfl, Nat.le_of_ble_eq_true rfl⟩ (fun H locs hP hD hS => ?_)
  have hP : va_P D vwCl [(a_t, .inr (8, [.ref a_t_ticks, .ref a_t_places, .int t_mats, .int r3, .int t_greatest])), (a_t_places, .inl (cI, 12, .inl t_places)), (a_t_ticks, .inl (cI, 12, .inl t_ticks)), (a_p1, .inr (4, [.ref a_p1_way, .ref a_p1_guns, .ref a_p1_runners])), (a_p1_guns, .inr (2, [.ref a_p1_guns_ticks])), (a_p1_guns_ticks, .inl (cI, 6, .inl p1_guns_ticks)), (a_p1_runners_splits, .inl (cI, 720, .inl p1_runners_splits)), (a_p1_way, .inr (9, [.ref a_p1_way_places, .ref a_p1_way_bearings, .ref a_p1_way_cuts, .ref a_p1_way_deaths, .int p1_way_mats])), (a_p1_way_places, .inl (cI, 12, .inl p1_way_places)), (a_p1_runners, .inr (6, [.ref a_p1_runners_facts, .ref a_p1_runners_splits, .ref a_p1_runners_torn, .ref a_p1_runners_dropped, .ref a_p1_runners_waved, .ref a_p1_runners_struck, .ref a_p1_runners_strikingOrder, .int p1_runners_entered, .int p1_runners_strikings])), (a_p1_runners_facts, .inl (cI, 360, .inl p1_runners_facts))] H := hP
  have hD : va_D A [(a_t, .inr (8, [.ref a_t_ticks, .ref a_t_places, .int t_mats, .int r3, .int t_greatest])), (a_t_places, .inl (cI, 12, .inl t_places)), (a_t_ticks, .inl (cI, 12, .inl t_ticks)), (a_p1, .inr (4, [.ref a_p1_way, .ref a_p1_guns, .ref a_p1_runners])), (a_p1_guns, .inr (2, [.ref a_p1_guns_ticks])), (a_p1_guns_ticks, .inl (cI, 6, .inl p1_guns_ticks)), (a_p1_runners_splits, .inl (cI, 720, .inl p1_runners_splits)), (a_p1_way, .inr (9, [.ref a_p1_way_places, .ref a_p1_way_bearings, .ref a_p1_way_cuts, .ref a_p1_way_deaths, .int p1_way_mats])), (a_p1_way_places, .inl (cI, 12, .inl p1_way_places)), (a_p1_runners, .inr (6, [.ref a_p1_runners_facts, .ref a_p1_runners_splits, .ref a_p1_runners_torn, .ref a_p1_runners_dropped, .ref a_p1_runners_waved, .ref a_p1_runners_struck, .ref a_p1_runners_strikingOrder, .int p1_runners_entered, .int p1_runners_strikings])), (a_p1_runners_facts, .inl (cI, 360, .inl p1_runners_facts))] := hD
  refine va_put (D := D) (ci := 8) (ty := .int) (C := RX8) (T := TX8) (N := 5) hx hb hts qX8_follow_X8 tyX8 tyX8_ok nmX8 hown hK hP hD hS 0 rfl rfl 4 (by decide) (hts _ kX8_follow_6) (fun _ h9 => h9) rfl (by decide +kernel) rfl (by first | rfl | exact zz_fit) (Nat.le_of_ble_eq_true rfl) dX8_follow_23 (fun H locs hP hD hS => ?_)
  have hP : va_P D vwCl [(a_t, .inr (8, [.ref a_t_ticks, .ref a_t_places, .int t_mats, .int r3, .int r5])), (a_t_places, .inl (cI, 12, .inl t_places)), (a_t_ticks, .inl (cI, 12, .inl t_ticks)), (a_p1, .inr (4, [.ref a_p1_way, .ref a_p1_guns, .ref a_p1_runners])), (a_p1_guns, .inr (2, [.ref a_p1_guns_ticks])), (a_p1_guns_ticks, .inl (cI, 6, .inl p1_guns_ticks)), (a_p1_runners_splits, .inl (cI, 720, .inl p1_runners_splits)), (a_p1_way, .inr (9, [.ref a_p1_way_places, .ref a_p1_way_bearings, .ref a_p1_way_cuts, .ref a_p1_way_deaths, .int p1_way_mats])), (a_p1_way_places, .inl (cI, 12, .inl p1_way_places)), (a_p1_runners, .inr (6, [.ref a_p1_runners_facts, .ref a_p1_runners_splits, .ref a_p1_runners_torn, .ref a_p1_runners_dropped, .ref a_p1_runners_waved, .ref a_p1_runners_struck, .ref a_p1_runners_strikingOrder, .int p1_runners_entered, .int p1_runners_strikings])), (a_p1_runners_facts, .inl (cI, 360, .inl p1_runners_facts))] H := hP
  have hD : va_D A [(a_t, .inr (8, [.ref a_t_ticks, .ref a_t_places, .int t_mats, .int r3, .int r5])), (a_t_places, .inl (cI, 12, .inl t_places)), (a_t_ticks, .inl (cI, 12, .inl t_ticks)), (a_p1, .inr (4, [.ref a_p1_way, .ref a_p1_guns, .ref a_p1_runners])), (a_p1_guns, .inr (2, [.ref a_p1_guns_ticks])), (a_p1_guns_ticks, .inl (cI, 6, .inl p1_guns_ticks)), (a_p1_runners_splits, .inl (cI, 720, .inl p1_runners_splits)), (a_p1_way, .inr (9, [.ref a_p1_way_places, .ref a_p1_way_bearings, .ref a_p1_way_cuts, .ref a_p1_way_deaths, .int p1_way_mats])), (a_p1_way_places, .inl (cI, 12, .inl p1_way_places)), (a_p1_runners, .inr (6, [.ref a_p1_runners_facts, .ref a_p1_runners_splits, .ref a_p1_runners_torn, .ref a_p1_runners_dropped, .ref a_p1_runners_waved, .ref a_p1_runners_struck, .ref a_p1_runners_strikingOrder, .int p1_runners_entered, .int p1_runners_strikings])), (a_p1_runners_facts, .inl (cI, 360, .inl p1_runners_facts))] := hD
  refine lv_aload_n hx hb dX8_follow_26 rfl (lv_at hl 1 rfl) ?_
  refine lv_aload_n hx hb dX8_follow_27 rfl (lv_at hl 2 rfl) ?_
  refine va_getN (host := "RunDesk") (D := D) (ci := 4) (C := RX4) (T := TX4) (N := 3) hx hb hts qX8_follow_X4 hown hK hP 3 rfl rfl 0 (by decide) (va_Nw.use rfl (hN _ (List.mem_of_getElem? (i := 2) rfl))) (fun _ h9 => h9) rfl dX8_follow_28 ?_
  obtain ⟨r7, e8, h⟩ := zz_b h
  refine zVi (As := []) (rest := [.ref a_t]) (C := RX9) (wr := [(a_t, .inr (8, [.ref a_t_ticks, .ref a_t_places, .int t_mats, .int r3, .int r5])), (a_t_places, .inl (cI, 12, .inl t_places)), (a_t_ticks, .inl (cI, 12, .inl t_ticks)), (a_p1, .inr (4, [.ref a_p1_way, .ref a_p1_guns, .ref a_p1_runners])), (a_p1_guns, .inr (2, [.ref a_p1_guns_ticks])), (a_p1_guns_ticks, .inl (cI, 6, .inl p1_guns_ticks)), (a_p1_runners_splits, .inl (cI, 720, .inl p1_runners_splits)), (a_p1_way_places, .inl (cI, 12, .inl p1_way_places)), (a_p1_runners, .inr (6, [.ref a_p1_runners_facts, .ref a_p1_runners_splits, .ref a_p1_runners_torn, .ref a_p1_runners_dropped, .ref a_p1_runners_waved, .ref a_p1_runners_struck, .ref a_p1_runners_strikingOrder, .int p1_runners_entered, .int p1_runners_strikings])), (a_p1_runners_facts, .inl (cI, 360, .inl p1_runners_facts))]) [7] [0, 1, 2, 3, 4, 5, 6, 8, 9, 10] 0 ⟨hx, hb, hml, hown, hts⟩ (mX9_size l D cB cI cZ a_p1_way a_p1_way_places a_p1_way_bearings a_p1_way_cuts a_p1_way_deaths p1_way_mats H.size r7 e8) (cwV 0 hts gX8_follow_X9_size rfl rfl rfl (by decide +kernel) ⟨Nat.le_of_ble_eq_true rfl, Nat.le_of_ble_eq_true rfl⟩) hK hN hZ hP hD hS hA rfl rfl rfl rfl rfl rfl rfl rfl hl.1 rfl (lv_room (Nat.le_of_ble_eq_true rfl)) dX8_follow_31 ⟨Nat.le_of_ble_eq_true rfl, Nat.le_of_ble_eq_true rfl⟩ (fun H locs hP hD hS => ?_)
  have hP : va_P D vwCl [(a_t, .inr (8, [.ref a_t_ticks, .ref a_t_places, .int t_mats, .int r3, .int r5])), (a_t_places, .inl (cI, 12, .inl t_places)), (a_t_ticks, .inl (cI, 12, .inl t_ticks)), (a_p1, .inr (4, [.ref a_p1_way, .ref a_p1_guns, .ref a_p1_runners])), (a_p1_guns, .inr (2, [.ref a_p1_guns_ticks])), (a_p1_guns_ticks, .inl (cI, 6, .inl p1_guns_ticks)), (a_p1_runners_splits, .inl (cI, 720, .inl p1_runners_splits)), (a_p1_way_places, .inl (cI, 12, .inl p1_way_places)), (a_p1_runners, .inr (6, [.ref a_p1_runners_facts, .ref a_p1_runners_splits, .ref a_p1_runners_torn, .ref a_p1_runners_dropped, .ref a_p1_runners_waved, .ref a_p1_runners_struck, .ref a_p1_runners_strikingOrder, .int p1_runners_entered, .int p1_runners_strikings])), (a_p1_runners_facts, .inl (cI, 360, .inl p1_runners_facts)), (a_p1_way, .inr (9, [.ref a_p1_way_places, .ref a_p1_way_bearings, .ref a_p1_way_cuts, .ref a_p1_way_deaths, .int p1_way_mats]))] H := hP
  have hD : va_D A [(a_t, .inr (8, [.ref a_t_ticks, .ref a_t_places, .int t_mats, .int r3, .int r5])), (a_t_places, .inl (cI, 12, .inl t_places)), (a_t_ticks, .inl (cI, 12, .inl t_ticks)), (a_p1, .inr (4, [.ref a_p1_way, .ref a_p1_guns, .ref a_p1_runners])), (a_p1_guns, .inr (2, [.ref a_p1_guns_ticks])), (a_p1_guns_ticks, .inl (cI, 6, .inl p1_guns_ticks)), (a_p1_runners_splits, .inl (cI, 720, .inl p1_runners_splits)), (a_p1_way_places, .inl (cI, 12, .inl p1_way_places)), (a_p1_runners, .inr (6, [.ref a_p1_runners_facts, .ref a_p1_runners_splits, .ref a_p1_runners_torn, .ref a_p1_runners_dropped, .ref a_p1_runners_waved, .ref a_p1_runners_struck, .ref a_p1_runners_strikingOrder, .int p1_runners_entered, .int p1_runners_strikings])), (a_p1_runners_facts, .inl (cI, 360, .inl p1_runners_facts)), (a_p1_way, .inr (9, [.ref a_p1_way_places, .ref a_p1_way_bearings, .ref a_p1_way_cuts, .ref a_p1_way_deaths, .int p1_way_mats]))] := hD
  refine va_put (D := D) (ci := 8) (ty := .int) (C := RX8) (T := TX8) (N := 5) hx hb hts qX8_follow_X8 tyX8 tyX8_ok nmX8 hown hK hP hD hS 0 rfl rfl 2 (by decide) (hts _ kX8_follow_7) (fun _ h9 => h9) rfl (by decide +kernel) rfl (by first | rfl | exact zz_fit) (Nat.le_of_ble_eq_true rfl) dX8_follow_34 (fun H locs hP hD hS => ?_)
  have hP : va_P D vwCl [(a_t, .inr (8, [.ref a_t_ticks, .ref a_t_places, .int r7, .int r3, .int r5])), (a_t_places, .inl (cI, 12, .inl t_places)), (a_t_ticks, .inl (cI, 12, .inl t_ticks)), (a_p1, .inr (4, [.ref a_p1_way, .ref a_p1_guns, .ref a_p1_runners])), (a_p1_guns, .inr (2, [.ref a_p1_guns_ticks])), (a_p1_guns_ticks, .inl (cI, 6, .inl p1_guns_ticks)), (a_p1_runners_splits, .inl (cI, 720, .inl p1_runners_splits)), (a_p1_way_places, .inl (cI, 12, .inl p1_way_places)), (a_p1_runners, .inr (6, [.ref a_p1_runners_facts, .ref a_p1_runners_splits, .ref a_p1_runners_torn, .ref a_p1_runners_dropped, .ref a_p1_runners_waved, .ref a_p1_runners_struck, .ref a_p1_runners_strikingOrder, .int p1_runners_entered, .int p1_runners_strikings])), (a_p1_runners_facts, .inl (cI, 360, .inl p1_runners_facts)), (a_p1_way, .inr (9, [.ref a_p1_way_places, .ref a_p1_way_bearings, .ref a_p1_way_cuts, .ref a_p1_way_deaths, .int p1_way_mats]))] H := hP
  have hD : va_D A [(a_t, .inr (8, [.ref a_t_ticks, .ref a_t_places, .int r7, .int r3, .int r5])), (a_t_places, .inl (cI, 12, .inl t_places)), (a_t_ticks, .inl (cI, 12, .inl t_ticks)), (a_p1, .inr (4, [.ref a_p1_way, .ref a_p1_guns, .ref a_p1_runners])), (a_p1_guns, .inr (2, [.ref a_p1_guns_ticks])), (a_p1_guns_ticks, .inl (cI, 6, .inl p1_guns_ticks)), (a_p1_runners_splits, .inl (cI, 720, .inl p1_runners_splits)), (a_p1_way_places, .inl (cI, 12, .inl p1_way_places)), (a_p1_runners, .inr (6, [.ref a_p1_runners_facts, .ref a_p1_runners_splits, .ref a_p1_runners_torn, .ref a_p1_runners_dropped, .ref a_p1_runners_waved, .ref a_p1_runners_struck, .ref a_p1_runners_strikingOrder, .int p1_runners_entered, .int p1_runners_strikings])), (a_p1_runners_facts, .inl (cI, 360, .inl p1_runners_facts)), (a_p1_way, .inr (9, [.ref a_p1_way_places, .ref a_p1_way_bearings, .ref a_p1_way_cuts, .ref a_p1_way_deaths, .int p1_way_mats]))] := hD
  refine lv_iconst (v := (nI 0)) hx hb dX8_follow_37 rfl ?_
  refine lv_istore (lv' := [(4, .int (nI 0)), (3, .int r1), (0, .ref a_t), (1, .ref a_p1), (2, .int x2)]) hx hb dX8_follow_38 hl (by decide) rfl (fun ls hl => ?_)
  have X40_108 : ∀ (v4_40 : Int32) (t_places_l40 : Nat → Int32) (t_ticks_l40 : Nat → Int32) (H : Heap) (locs : List Loc) (ls : Array Slot), some (r5, r3, r7, t_places_l40, t_ticks_l40) = some (t_greatest', t_least', t_mats', t_places', t_ticks') → va_P D vwCl [(a_t, .inr (8, [.ref a_t_ticks, .ref a_t_places, .int r7, .int r3, .int r5])), (a_t_places, .inl (cI, 12, .inl t_places_l40)), (a_t_ticks, .inl (cI, 12, .inl t_ticks_l40)), (a_p1, .inr (4, [.ref a_p1_way, .ref a_p1_guns, .ref a_p1_runners])), (a_p1_guns, .inr (2, [.ref a_p1_guns_ticks])), (a_p1_guns_ticks, .inl (cI, 6, .inl p1_guns_ticks)), (a_p1_runners_splits, .inl (cI, 720, .inl p1_runners_splits)), (a_p1_way_places, .inl (cI, 12, .inl p1_way_places)), (a_p1_runners, .inr (6, [.ref a_p1_runners_facts, .ref a_p1_runners_splits, .ref a_p1_runners_torn, .ref a_p1_runners_dropped, .ref a_p1_runners_waved, .ref a_p1_runners_struck, .ref a_p1_runners_strikingOrder, .int p1_runners_entered, .int p1_runners_strikings])), (a_p1_runners_facts, .inl (cI, 360, .inl p1_runners_facts)), (a_p1_way, .inr (9, [.ref a_p1_way_places, .ref a_p1_way_bearings, .ref a_p1_way_cuts, .ref a_p1_way_deaths, .int p1_way_mats]))] H → va_D A [(a_t, .inr (8, [.ref a_t_ticks, .ref a_t_places, .int r7, .int r3, .int r5])), (a_t_places, .inl (cI, 12, .inl t_places_l40)), (a_t_ticks, .inl (cI, 12, .inl t_ticks_l40)), (a_p1, .inr (4, [.ref a_p1_way, .ref a_p1_guns, .ref a_p1_runners])), (a_p1_guns, .inr (2, [.ref a_p1_guns_ticks])), (a_p1_guns_ticks, .inl (cI, 6, .inl p1_guns_ticks)), (a_p1_runners_splits, .inl (cI, 720, .inl p1_runners_splits)), (a_p1_way_places, .inl (cI, 12, .inl p1_way_places)), (a_p1_runners, .inr (6, [.ref a_p1_runners_facts, .ref a_p1_runners_splits, .ref a_p1_runners_torn, .ref a_p1_runners_dropped, .ref a_p1_runners_waved, .ref a_p1_runners_struck, .ref a_p1_runners_strikingOrder, .int p1_runners_entered, .int p1_runners_strikings])), (a_p1_runners_facts, .inl (cI, 360, .inl p1_runners_facts)), (a_p1_way, .inr (9, [.ref a_p1_way_places, .ref a_p1_way_bearings, .ref a_p1_way_cuts, .ref a_p1_way_deaths, .int p1_way_mats]))] → va_S A s.heap H locs → lv_has ls 5 [(4, .int v4_40), (3, .int r1), (0, .ref a_t), (1, .ref a_p1), (2, .int x2)] → W p l e (headSpec wsX8_follow ({ frames := 3, cells := 0, slots := 0, locals := 65 } : Room)).room s m #[Value.ref a_t, Value.ref a_p1, Value.int x2] below meth c H locs 0 0 (MQ below (zQv D (zT cB cI cZ) [(a_t, .inr (8, [.ref a_t_ticks, .ref a_t_places, .int t_mats', .int t_least', .int t_greatest'])), (a_t_places, .inl (cI, 12, .inl t_places')), (a_t_ticks, .inl (cI, 12, .inl t_ticks')), (a_p1, .inr (4, [.ref a_p1_way, .ref a_p1_guns, .ref a_p1_runners])), (a_p1_guns, .inr (2, [.ref a_p1_guns_ticks])), (a_p1_guns_ticks, .inl (cI, 6, .inl p1_guns_ticks)), (a_p1_runners, .inr (6, [.ref a_p1_runners_facts, .ref a_p1_runners_splits, .ref a_p1_runners_torn, .ref a_p1_runners_dropped, .ref a_p1_runners_waved, .ref a_p1_runners_struck, .ref a_p1_runners_strikingOrder, .int p1_runners_entered, .int p1_runners_strikings])), (a_p1_runners_facts, .inl (cI, 360, .inl p1_runners_facts)), (a_p1_runners_splits, .inl (cI, 720, .inl p1_runners_splits)), (a_p1_way, .inr (9, [.ref a_p1_way_places, .ref a_p1_way_bearings, .ref a_p1_way_cuts, .ref a_p1_way_deaths, .int p1_way_mats])), (a_p1_way_places, .inl (cI, 12, .inl p1_way_places))] A) #[Value.ref a_t, Value.ref a_p1, Value.int x2] s 0 0 A) (F0 m 108 ls []) := by
    intro v4_40 t_places_l40 t_ticks_l40 H locs ls h hP hD hS hl
    obtain ⟨j0_, g_⟩ := Prod.mk.inj (Option.some.inj h)
    obtain ⟨j1_, g_⟩ := Prod.mk.inj g_
    obtain ⟨j2_, g_⟩ := Prod.mk.inj g_
    obtain ⟨j3_, g_⟩ := Prod.mk.inj g_
    have j4_ := g_
    subst j0_
    subst j1_
    subst j2_
    subst j3_
    subst j4_
    exact W.vret hx hb hr (fun t ht hW => ⟨⟨(), rfl, trivial, zPost.of hP hD hK ht hW [0, 1, 2, 3, 4, 5, 8, 9, 6, 10, 7] rfl rfl rfl⟩, hS.F ht⟩) hS.2.2 dX8_follow_108
  have L40 : ∀ (n : Nat) (v4_40 : Int32) (t_places_l40 : Nat → Int32) (t_ticks_l40 : Nat → Int32) (H : Heap) (locs : List Loc) (ls : Array Slot), fX8_follow_L40 p1_guns_ticks p1_runners_entered p1_runners_facts p1_runners_splits p1_way_mats p1_way_places x2 r7 (fun (v4_40 : Int32) (t_places_l40 : Nat → Int32) (t_ticks_l40 : Nat → Int32) => some (r5, r3, r7, t_places_l40, t_ticks_l40)) n v4_40 t_places_l40 t_ticks_l40 = some (t_greatest', t_least', t_mats', t_places', t_ticks') → va_P D vwCl [(a_t, .inr (8, [.ref a_t_ticks, .ref a_t_places, .int r7, .int r3, .int r5])), (a_t_places, .inl (cI, 12, .inl t_places_l40)), (a_t_ticks, .inl (cI, 12, .inl t_ticks_l40)), (a_p1, .inr (4, [.ref a_p1_way, .ref a_p1_guns, .ref a_p1_runners])), (a_p1_guns, .inr (2, [.ref a_p1_guns_ticks])), (a_p1_guns_ticks, .inl (cI, 6, .inl p1_guns_ticks)), (a_p1_runners_splits, .inl (cI, 720, .inl p1_runners_splits)), (a_p1_way_places, .inl (cI, 12, .inl p1_way_places)), (a_p1_runners, .inr (6, [.ref a_p1_runners_facts, .ref a_p1_runners_splits, .ref a_p1_runners_torn, .ref a_p1_runners_dropped, .ref a_p1_runners_waved, .ref a_p1_runners_struck, .ref a_p1_runners_strikingOrder, .int p1_runners_entered, .int p1_runners_strikings])), (a_p1_runners_facts, .inl (cI, 360, .inl p1_runners_facts)), (a_p1_way, .inr (9, [.ref a_p1_way_places, .ref a_p1_way_bearings, .ref a_p1_way_cuts, .ref a_p1_way_deaths, .int p1_way_mats]))] H → va_D A [(a_t, .inr (8, [.ref a_t_ticks, .ref a_t_places, .int r7, .int r3, .int r5])), (a_t_places, .inl (cI, 12, .inl t_places_l40)), (a_t_ticks, .inl (cI, 12, .inl t_ticks_l40)), (a_p1, .inr (4, [.ref a_p1_way, .ref a_p1_guns, .ref a_p1_runners])), (a_p1_guns, .inr (2, [.ref a_p1_guns_ticks])), (a_p1_guns_ticks, .inl (cI, 6, .inl p1_guns_ticks)), (a_p1_runners_splits, .inl (cI, 720, .inl p1_runners_splits)), (a_p1_way_places, .inl (cI, 12, .inl p1_way_places)), (a_p1_runners, .inr (6, [.ref a_p1_runners_facts, .ref a_p1_runners_splits, .ref a_p1_runners_torn, .ref a_p1_runners_dropped, .ref a_p1_runners_waved, .ref a_p1_runners_struck, .ref a_p1_runners_strikingOrder, .int p1_runners_entered, .int p1_runners_strikings])), (a_p1_runners_facts, .inl (cI, 360, .inl p1_runners_facts)), (a_p1_way, .inr (9, [.ref a_p1_way_places, .ref a_p1_way_bearings, .ref a_p1_way_cuts, .ref a_p1_way_deaths, .int p1_way_mats]))] → va_S A s.heap H locs → lv_has ls 5 [(4, .int v4_40), (3, .int r1), (0, .ref a_t), (1, .ref a_p1), (2, .int x2)] → W p l e (headSpec wsX8_follow ({ frames := 3, cells := 0, slots := 0, locals := 65 } : Room)).room s m #[Value.ref a_t, Value.ref a_p1, Value.int x2] below meth c H locs 0 0 (MQ below (zQv D (zT cB cI cZ) [(a_t, .inr (8, [.ref a_t_ticks, .ref a_t_places, .int t_mats', .int t_least', .int t_greatest'])), (a_t_places, .inl (cI, 12, .inl t_places')), (a_t_ticks, .inl (cI, 12, .inl t_ticks')), (a_p1, .inr (4, [.ref a_p1_way, .ref a_p1_guns, .ref a_p1_runners])), (a_p1_guns, .inr (2, [.ref a_p1_guns_ticks])), (a_p1_guns_ticks, .inl (cI, 6, .inl p1_guns_ticks)), (a_p1_runners, .inr (6, [.ref a_p1_runners_facts, .ref a_p1_runners_splits, .ref a_p1_runners_torn, .ref a_p1_runners_dropped, .ref a_p1_runners_waved, .ref a_p1_runners_struck, .ref a_p1_runners_strikingOrder, .int p1_runners_entered, .int p1_runners_strikings])), (a_p1_runners_facts, .inl (cI, 360, .inl p1_runners_facts)), (a_p1_runners_splits, .inl (cI, 720, .inl p1_runners_splits)), (a_p1_way, .inr (9, [.ref a_p1_way_places, .ref a_p1_way_bearings, .ref a_p1_way_cuts, .ref a_p1_way_deaths, .int p1_way_mats])), (a_p1_way_places, .inl (cI, 12, .inl p1_way_places))] A) #[Value.ref a_t, Value.ref a_p1, Value.int x2] s 0 0 A) (F0 m 40 ls []) := by
    intro n
    induction n with
    | zero => intro _ _ _ H locs ls h hP hD hS hl; cases h
    | succ n40 ih40 =>
      intro v4_40 t_places_l40 t_ticks_l40 H locs ls h hP hD hS hl
      rw [fX8_follow_L40.eq_2] at h
      refine lv_iload hx hb dX8_follow_40 (lv_at hl 0 rfl) ?_
      refine lv_aload_n hx hb dX8_follow_42 rfl (lv_at hl 2 rfl) ?_
      refine va_get (D := D) (ci := 8) (C := RX8) (T := TX8) (N := 5) hx hb hts qX8_follow_X8 hown hK hP 0 rfl rfl 2 (by decide) (hts _ kX8_follow_7) (fun _ h9 => h9) rfl dX8_follow_43 ?_
      refine lv_icmp_ge (tgt := 108) hx hb dX8_follow_46 (by decide) (fun c9 => ?_) (fun c9 => ?_)
      · have h := zz_t h c9
        exact X40_108 v4_40 t_places_l40 t_ticks_l40 _ _ _ h (hP.sub [0, 1, 2, 3, 4, 5, 6, 7, 8, 9, 10] rfl) (hD.sub [0, 1, 2, 3, 4, 5, 6, 7, 8, 9, 10] rfl rfl) hS (lv_sub hl [0, 1, 2, 3, 4] rfl)
      · have h := zz_f h c9
        refine lv_iload hx hb dX8_follow_49 (lv_at hl 0 rfl) ?_
        refine lv_bipush (v := (nI 12)) hx hb dX8_follow_51 rfl ?_
        refine lv_icmp_ge (tgt := 108) hx hb dX8_follow_53 (by decide) (fun c10 => ?_) (fun c10 => ?_)
        · have h := zz_t h c10
          exact X40_108 v4_40 t_places_l40 t_ticks_l40 _ _ _ h (hP.sub [0, 1, 2, 3, 4, 5, 6, 7, 8, 9, 10] rfl) (hD.sub [0, 1, 2, 3, 4, 5, 6, 7, 8, 9, 10] rfl rfl) hS (lv_sub hl [0, 1, 2, 3, 4] rfl)
        · have h := zz_f h c10
          refine lv_aload_n hx hb dX8_follow_56 rfl (lv_at hl 2 rfl) ?_
          refine va_get (D := D) (ci := 8) (C := RX8) (T := TX8) (N := 5) hx hb hts qX8_follow_X8 hown hK hP 0 rfl rfl 0 (by decide) (hts _ kX8_follow_8) (fun _ h9 => h9) rfl dX8_follow_57 ?_
          refine lv_iload hx hb dX8_follow_60 (lv_at hl 0 rfl) ?_
          refine lv_iload hx hb dX8_follow_62 (lv_at hl 0 rfl) ?_
          refine lv_if_ne (tgt := 75) hx hb dX8_follow_64 (by decide) (fun c11 => ?_) (fun c11 => ?_)
          · have h := zz_f h c11
            refine lv_aload_n hx hb dX8_follow_75 rfl (lv_at hl 3 rfl) ?_
            refine va_getN (host := "RunDesk") (D := D) (ci := 4) (C := RX4) (T := TX4) (N := 3) hx hb hts qX8_follow_X4 hown hK hP 3 rfl rfl 2 (by decide) (va_Nw.use rfl (hN _ (List.mem_of_getElem? (i := 6) rfl))) (fun _ h9 => h9) rfl dX8_follow_76 ?_
            refine lv_iload_n hx hb dX8_follow_79 rfl (lv_at hl 4 rfl) ?_
            refine lv_iload hx hb dX8_follow_80 (lv_at hl 0 rfl) ?_
            obtain ⟨r12, e13, h⟩ := zz_b h
            refine zVi (As := [.int x2, .int v4_40]) (rest := [.int v4_40, .ref a_t_ticks]) (C := RX6) (wr := [(a_t, .inr (8, [.ref a_t_ticks, .ref a_t_places, .int r7, .int r3, .int r5])), (a_t_places, .inl (cI, 12, .inl t_places_l40)), (a_t_ticks, .inl (cI, 12, .inl t_ticks_l40)), (a_p1, .inr (4, [.ref a_p1_way, .ref a_p1_guns, .ref a_p1_runners])), (a_p1_guns, .inr (2, [.ref a_p1_guns_ticks])), (a_p1_guns_ticks, .inl (cI, 6, .inl p1_guns_ticks)), (a_p1_way_places, .inl (cI, 12, .inl p1_way_places)), (a_p1_runners_facts, .inl (cI, 360, .inl p1_runners_facts)), (a_p1_way, .inr (9, [.ref a_p1_way_places, .ref a_p1_way_bearings, .ref a_p1_way_cuts, .ref a_p1_way_deaths, .int p1_way_mats]))]) [8, 6] [0, 1, 2, 3, 4, 5, 7, 9, 10] 0 ⟨hx, hb, hml, hown, hts⟩ (mX6_splitAt l D cB cI cZ a_p1_runners a_p1_runners_facts a_p1_runners_splits a_p1_runners_torn a_p1_runners_dropped a_p1_runners_waved a_p1_runners_struck a_p1_runners_strikingOrder p1_runners_entered p1_runners_strikings p1_runners_splits H.size x2 v4_40 r12 e13) (cwV 2 hts gX8_follow_X6_splitAt rfl rfl rfl (by decide +kernel) ⟨Nat.le_of_ble_eq_true rfl, Nat.le_of_ble_eq_true rfl⟩) hK hN hZ hP hD hS hA rfl rfl rfl rfl rfl rfl rfl rfl hl.1 rfl (lv_room (Nat.le_of_ble_eq_true rfl)) dX8_follow_82 ⟨Nat.le_of_ble_eq_true rfl, Nat.le_of_ble_eq_true rfl⟩ (fun H locs hP hD hS => ?_)
            have hP : va_P D vwCl [(a_t, .inr (8, [.ref a_t_ticks, .ref a_t_places, .int r7, .int r3, .int r5])), (a_t_places, .inl (cI, 12, .inl t_places_l40)), (a_t_ticks, .inl (cI, 12, .inl t_ticks_l40)), (a_p1, .inr (4, [.ref a_p1_way, .ref a_p1_guns, .ref a_p1_runners])), (a_p1_guns, .inr (2, [.ref a_p1_guns_ticks])), (a_p1_guns_ticks, .inl (cI, 6, .inl p1_guns_ticks)), (a_p1_way_places, .inl (cI, 12, .inl p1_way_places)), (a_p1_runners_facts, .inl (cI, 360, .inl p1_runners_facts)), (a_p1_way, .inr (9, [.ref a_p1_way_places, .ref a_p1_way_bearings, .ref a_p1_way_cuts, .ref a_p1_way_deaths, .int p1_way_mats])), (a_p1_runners, .inr (6, [.ref a_p1_runners_facts, .ref a_p1_runners_splits, .ref a_p1_runners_torn, .ref a_p1_runners_dropped, .ref a_p1_runners_waved, .ref a_p1_runners_struck, .ref a_p1_runners_strikingOrder, .int p1_runners_entered, .int p1_runners_strikings])), (a_p1_runners_splits, .inl (cI, 720, .inl p1_runners_splits))] H := hP
            have hD : va_D A [(a_t, .inr (8, [.ref a_t_ticks, .ref a_t_places, .int r7, .int r3, .int r5])), (a_t_places, .inl (cI, 12, .inl t_places_l40)), (a_t_ticks, .inl (cI, 12, .inl t_ticks_l40)), (a_p1, .inr (4, [.ref a_p1_way, .ref a_p1_guns, .ref a_p1_runners])), (a_p1_guns, .inr (2, [.ref a_p1_guns_ticks])), (a_p1_guns_ticks, .inl (cI, 6, .inl p1_guns_ticks)), (a_p1_way_places, .inl (cI, 12, .inl p1_way_places)), (a_p1_runners_facts, .inl (cI, 360, .inl p1_runners_facts)), (a_p1_way, .inr (9, [.ref a_p1_way_places, .ref a_p1_way_bearings, .ref a_p1_way_cuts, .ref a_p1_way_deaths, .int p1_way_mats])), (a_p1_runners, .inr (6, [.ref a_p1_runners_facts, .ref a_p1_runners_splits, .ref a_p1_runners_torn, .ref a_p1_runners_dropped, .ref a_p1_runners_waved, .ref a_p1_runners_struck, .ref a_p1_runners_strikingOrder, .int p1_runners_entered, .int p1_runners_strikings])), (a_p1_runners_splits, .inl (cI, 720, .inl p1_runners_splits))] := hD
            obtain ⟨i14, h⟩ := zz_i h
            refine va_iast hx hb hK hP hD hS 2 1 rfl rfl i14 dX8_follow_85 (fun H locs hP hD hS => ?_)
            have hP : va_P D vwCl [(a_t, .inr (8, [.ref a_t_ticks, .ref a_t_places, .int r7, .int r3, .int r5])), (a_t_places, .inl (cI, 12, .inl t_places_l40)), (a_t_ticks, .inl (cI, 12, .inl (upd t_ticks_l40 (v4_40).toNatClampNeg r12))), (a_p1, .inr (4, [.ref a_p1_way, .ref a_p1_guns, .ref a_p1_runners])), (a_p1_guns, .inr (2, [.ref a_p1_guns_ticks])), (a_p1_guns_ticks, .inl (cI, 6, .inl p1_guns_ticks)), (a_p1_way_places, .inl (cI, 12, .inl p1_way_places)), (a_p1_runners_facts, .inl (cI, 360, .inl p1_runners_facts)), (a_p1_way, .inr (9, [.ref a_p1_way_places, .ref a_p1_way_bearings, .ref a_p1_way_cuts, .ref a_p1_way_deaths, .int p1_way_mats])), (a_p1_runners, .inr (6, [.ref a_p1_runners_facts, .ref a_p1_runners_splits, .ref a_p1_runners_torn, .ref a_p1_runners_dropped, .ref a_p1_runners_waved, .ref a_p1_runners_struck, .ref a_p1_runners_strikingOrder, .int p1_runners_entered, .int p1_runners_strikings])), (a_p1_runners_splits, .inl (cI, 720, .inl p1_runners_splits))] H := hP
            have hD : va_D A [(a_t, .inr (8, [.ref a_t_ticks, .ref a_t_places, .int r7, .int r3, .int r5])), (a_t_places, .inl (cI, 12, .inl t_places_l40)), (a_t_ticks, .inl (cI, 12, .inl (upd t_ticks_l40 (v4_40).toNatClampNeg r12))), (a_p1, .inr (4, [.ref a_p1_way, .ref a_p1_guns, .ref a_p1_runners])), (a_p1_guns, .inr (2, [.ref a_p1_guns_ticks])), (a_p1_guns_ticks, .inl (cI, 6, .inl p1_guns_ticks)), (a_p1_way_places, .inl (cI, 12, .inl p1_way_places)), (a_p1_runners_facts, .inl (cI, 360, .inl p1_runners_facts)), (a_p1_way, .inr (9, [.ref a_p1_way_places, .ref a_p1_way_bearings, .ref a_p1_way_cuts, .ref a_p1_way_deaths, .int p1_way_mats])), (a_p1_runners, .inr (6, [.ref a_p1_runners_facts, .ref a_p1_runners_splits, .ref a_p1_runners_torn, .ref a_p1_runners_dropped, .ref a_p1_runners_waved, .ref a_p1_runners_struck, .ref a_p1_runners_strikingOrder, .int p1_runners_entered, .int p1_runners_strikings])), (a_p1_runners_splits, .inl (cI, 720, .inl p1_runners_splits))] := hD
            refine lv_aload_n hx hb dX8_follow_86 rfl (lv_at hl 2 rfl) ?_
            refine va_get (D := D) (ci := 8) (C := RX8) (T := TX8) (N := 5) hx hb hts qX8_follow_X8 hown hK hP 0 rfl rfl 1 (by decide) (hts _ kX8_follow_9) (fun _ h9 => h9) rfl dX8_follow_87 ?_
            refine lv_iload hx hb dX8_follow_90 (lv_at hl 0 rfl) ?_
            refine lv_aload_n hx hb dX8_follow_92 rfl (lv_at hl 3 rfl) ?_
            refine va_getN (host := "RunDesk") (D := D) (ci := 4) (C := RX4) (T := TX4) (N := 3) hx hb hts qX8_follow_X4 hown hK hP 3 rfl rfl 0 (by decide) (va_Nw.use rfl (hN _ (List.mem_of_getElem? (i := 2) rfl))) (fun _ h9 => h9) rfl dX8_follow_93 ?_
            refine lv_iload hx hb dX8_follow_96 (lv_at hl 0 rfl) ?_
            obtain ⟨r15, e16, h⟩ := zz_b h
            refine zVi (As := [.int v4_40]) (rest := [.int v4_40, .ref a_t_places]) (C := RX9) (wr := [(a_t, .inr (8, [.ref a_t_ticks, .ref a_t_places, .int r7, .int r3, .int r5])), (a_t_places, .inl (cI, 12, .inl t_places_l40)), (a_t_ticks, .inl (cI, 12, .inl (upd t_ticks_l40 (v4_40).toNatClampNeg r12))), (a_p1, .inr (4, [.ref a_p1_way, .ref a_p1_guns, .ref a_p1_runners])), (a_p1_guns, .inr (2, [.ref a_p1_guns_ticks])), (a_p1_guns_ticks, .inl (cI, 6, .inl p1_guns_ticks)), (a_p1_runners_facts, .inl (cI, 360, .inl p1_runners_facts)), (a_p1_runners, .inr (6, [.ref a_p1_runners_facts, .ref a_p1_runners_splits, .ref a_p1_runners_torn, .ref a_p1_runners_dropped, .ref a_p1_runners_waved, .ref a_p1_runners_struck, .ref a_p1_runners_strikingOrder, .int p1_runners_entered, .int p1_runners_strikings])), (a_p1_runners_splits, .inl (cI, 720, .inl p1_runners_splits))]) [8, 6] [0, 1, 2, 3, 4, 5, 7, 9, 10] 0 ⟨hx, hb, hml, hown, hts⟩ (mX9_placeAt l D cB cI cZ a_p1_way a_p1_way_places a_p1_way_bearings a_p1_way_cuts a_p1_way_deaths p1_way_mats p1_way_places H.size v4_40 r15 e16) (cwV 1 hts gX8_follow_X9_placeAt rfl rfl rfl (by decide +kernel) ⟨Nat.le_of_ble_eq_true rfl, Nat.le_of_ble_eq_true rfl⟩) hK hN hZ hP hD hS hA rfl rfl rfl rfl rfl rfl rfl rfl hl.1 rfl (lv_room (Nat.le_of_ble_eq_true rfl)) dX8_follow_98 ⟨Nat.le_of_ble_eq_true rfl, Nat.le_of_ble_eq_true rfl⟩ (fun H locs hP hD hS => ?_)
            have hP : va_P D vwCl [(a_t, .inr (8, [.ref a_t_ticks, .ref a_t_places, .int r7, .int r3, .int r5])), (a_t_places, .inl (cI, 12, .inl t_places_l40)), (a_t_ticks, .inl (cI, 12, .inl (upd t_ticks_l40 (v4_40).toNatClampNeg r12))), (a_p1, .inr (4, [.ref a_p1_way, .ref a_p1_guns, .ref a_p1_runners])), (a_p1_guns, .inr (2, [.ref a_p1_guns_ticks])), (a_p1_guns_ticks, .inl (cI, 6, .inl p1_guns_ticks)), (a_p1_runners_facts, .inl (cI, 360, .inl p1_runners_facts)), (a_p1_runners, .inr (6, [.ref a_p1_runners_facts, .ref a_p1_runners_splits, .ref a_p1_runners_torn, .ref a_p1_runners_dropped, .ref a_p1_runners_waved, .ref a_p1_runners_struck, .ref a_p1_runners_strikingOrder, .int p1_runners_entered, .int p1_runners_strikings])), (a_p1_runners_splits, .inl (cI, 720, .inl p1_runners_splits)), (a_p1_way, .inr (9, [.ref a_p1_way_places, .ref a_p1_way_bearings, .ref a_p1_way_cuts, .ref a_p1_way_deaths, .int p1_way_mats])), (a_p1_way_places, .inl (cI, 12, .inl p1_way_places))] H := hP
            have hD : va_D A [(a_t, .inr (8, [.ref a_t_ticks, .ref a_t_places, .int r7, .int r3, .int r5])), (a_t_places, .inl (cI, 12, .inl t_places_l40)), (a_t_ticks, .inl (cI, 12, .inl (upd t_ticks_l40 (v4_40).toNatClampNeg r12))), (a_p1, .inr (4, [.ref a_p1_way, .ref a_p1_guns, .ref a_p1_runners])), (a_p1_guns, .inr (2, [.ref a_p1_guns_ticks])), (a_p1_guns_ticks, .inl (cI, 6, .inl p1_guns_ticks)), (a_p1_runners_facts, .inl (cI, 360, .inl p1_runners_facts)), (a_p1_runners, .inr (6, [.ref a_p1_runners_facts, .ref a_p1_runners_splits, .ref a_p1_runners_torn, .ref a_p1_runners_dropped, .ref a_p1_runners_waved, .ref a_p1_runners_struck, .ref a_p1_runners_strikingOrder, .int p1_runners_entered, .int p1_runners_strikings])), (a_p1_runners_splits, .inl (cI, 720, .inl p1_runners_splits)), (a_p1_way, .inr (9, [.ref a_p1_way_places, .ref a_p1_way_bearings, .ref a_p1_way_cuts, .ref a_p1_way_deaths, .int p1_way_mats])), (a_p1_way_places, .inl (cI, 12, .inl p1_way_places))] := hD
            obtain ⟨i17, h⟩ := zz_i h
            refine va_iast hx hb hK hP hD hS 1 1 rfl rfl i17 dX8_follow_101 (fun H locs hP hD hS => ?_)
            have hP : va_P D vwCl [(a_t, .inr (8, [.ref a_t_ticks, .ref a_t_places, .int r7, .int r3, .int r5])), (a_t_places, .inl (cI, 12, .inl (upd t_places_l40 (v4_40).toNatClampNeg r15))), (a_t_ticks, .inl (cI, 12, .inl (upd t_ticks_l40 (v4_40).toNatClampNeg r12))), (a_p1, .inr (4, [.ref a_p1_way, .ref a_p1_guns, .ref a_p1_runners])), (a_p1_guns, .inr (2, [.ref a_p1_guns_ticks])), (a_p1_guns_ticks, .inl (cI, 6, .inl p1_guns_ticks)), (a_p1_runners_facts, .inl (cI, 360, .inl p1_runners_facts)), (a_p1_runners, .inr (6, [.ref a_p1_runners_facts, .ref a_p1_runners_splits, .ref a_p1_runners_torn, .ref a_p1_runners_dropped, .ref a_p1_runners_waved, .ref a_p1_runners_struck, .ref a_p1_runners_strikingOrder, .int p1_runners_entered, .int p1_runners_strikings])), (a_p1_runners_splits, .inl (cI, 720, .inl p1_runners_splits)), (a_p1_way, .inr (9, [.ref a_p1_way_places, .ref a_p1_way_bearings, .ref a_p1_way_cuts, .ref a_p1_way_deaths, .int p1_way_mats])), (a_p1_way_places, .inl (cI, 12, .inl p1_way_places))] H := hP
            have hD : va_D A [(a_t, .inr (8, [.ref a_t_ticks, .ref a_t_places, .int r7, .int r3, .int r5])), (a_t_places, .inl (cI, 12, .inl (upd t_places_l40 (v4_40).toNatClampNeg r15))), (a_t_ticks, .inl (cI, 12, .inl (upd t_ticks_l40 (v4_40).toNatClampNeg r12))), (a_p1, .inr (4, [.ref a_p1_way, .ref a_p1_guns, .ref a_p1_runners])), (a_p1_guns, .inr (2, [.ref a_p1_guns_ticks])), (a_p1_guns_ticks, .inl (cI, 6, .inl p1_guns_ticks)), (a_p1_runners_facts, .inl (cI, 360, .inl p1_runners_facts)), (a_p1_runners, .inr (6, [.ref a_p1_runners_facts, .ref a_p1_runners_splits, .ref a_p1_runners_torn, .ref a_p1_runners_dropped, .ref a_p1_runners_waved, .ref a_p1_runners_struck, .ref a_p1_runners_strikingOrder, .int p1_runners_entered, .int p1_runners_strikings])), (a_p1_runners_splits, .inl (cI, 720, .inl p1_runners_splits)), (a_p1_way, .inr (9, [.ref a_p1_way_places, .ref a_p1_way_bearings, .ref a_p1_way_cuts, .ref a_p1_way_deaths, .int p1_way_mats])), (a_p1_way_places, .inl (cI, 12, .inl p1_way_places))] := hD
            refine lv_iinc (v := (v4_40 + (nI 1))) (lv' := [(4, .int (v4_40 + (nI 1))), (3, .int r1), (0, .ref a_t), (1, .ref a_p1), (2, .int x2)]) hx hb dX8_follow_102 hl (k := 0) rfl rfl (by decide) rfl (fun ls hl => ?_)
            refine lv_goto (tgt := 40) hx hb dX8_follow_105 (by decide) ?_
            exact ih40 (v4_40 + (nI 1)) (upd t_places_l40 (v4_40).toNatClampNeg r15) (upd t_ticks_l40 (v4_40).toNatClampNeg r12) _ _ _ h (hP.sub [0, 1, 2, 3, 4, 5, 8, 10, 7, 6, 9] rfl) (hD.sub [0, 1, 2, 3, 4, 5, 8, 10, 7, 6, 9] rfl rfl) hS (lv_sub hl [0, 1, 2, 3, 4] rfl)
          · have h := zz_t h c11
            refine lv_aload_n hx hb dX8_follow_67 rfl (lv_at hl 3 rfl) ?_
            refine lv_iload_n hx hb dX8_follow_68 rfl (lv_at hl 4 rfl) ?_
            obtain ⟨r18, e19, h⟩ := zz_b h
            refine zVi (As := [.int x2]) (rest := [.int v4_40, .ref a_t_ticks]) (C := RX4) (wr := [(a_t, .inr (8, [.ref a_t_ticks, .ref a_t_places, .int r7, .int r3, .int r5])), (a_t_places, .inl (cI, 12, .inl t_places_l40)), (a_t_ticks, .inl (cI, 12, .inl t_ticks_l40)), (a_p1_way_places, .inl (cI, 12, .inl p1_way_places)), (a_p1_way, .inr (9, [.ref a_p1_way_places, .ref a_p1_way_bearings, .ref a_p1_way_cuts, .ref a_p1_way_deaths, .int p1_way_mats]))]) [3, 4, 5, 8, 9, 6] [0, 1, 2, 7, 10] 0 ⟨hx, hb, hml, hown, hts⟩ (mX4_startOf l D cB cI cZ a_p1 a_p1_way a_p1_guns a_p1_runners a_p1_guns_ticks a_p1_runners_facts a_p1_runners_splits a_p1_runners_torn a_p1_runners_dropped a_p1_runners_waved a_p1_runners_struck a_p1_runners_strikingOrder p1_guns_ticks p1_runners_entered p1_runners_strikings p1_runners_facts p1_runners_splits H.size x2 r18 e19) (cwV 1 hts gX8_follow_X4_startOf rfl rfl rfl (by decide +kernel) ⟨Nat.le_of_ble_eq_true rfl, Nat.le_of_ble_eq_true rfl⟩) hK hN hZ hP hD hS hA rfl rfl rfl rfl rfl rfl rfl rfl hl.1 rfl (lv_room (Nat.le_of_ble_eq_true rfl)) dX8_follow_69 ⟨Nat.le_of_ble_eq_true rfl, Nat.le_of_ble_eq_true rfl⟩ (fun H locs hP hD hS => ?_)
            have hP : va_P D vwCl [(a_t, .inr (8, [.ref a_t_ticks, .ref a_t_places, .int r7, .int r3, .int r5])), (a_t_places, .inl (cI, 12, .inl t_places_l40)), (a_t_ticks, .inl (cI, 12, .inl t_ticks_l40)), (a_p1_way_places, .inl (cI, 12, .inl p1_way_places)), (a_p1_way, .inr (9, [.ref a_p1_way_places, .ref a_p1_way_bearings, .ref a_p1_way_cuts, .ref a_p1_way_deaths, .int p1_way_mats])), (a_p1, .inr (4, [.ref a_p1_way, .ref a_p1_guns, .ref a_p1_runners])), (a_p1_guns, .inr (2, [.ref a_p1_guns_ticks])), (a_p1_guns_ticks, .inl (cI, 6, .inl p1_guns_ticks)), (a_p1_runners, .inr (6, [.ref a_p1_runners_facts, .ref a_p1_runners_splits, .ref a_p1_runners_torn, .ref a_p1_runners_dropped, .ref a_p1_runners_waved, .ref a_p1_runners_struck, .ref a_p1_runners_strikingOrder, .int p1_runners_entered, .int p1_runners_strikings])), (a_p1_runners_facts, .inl (cI, 360, .inl p1_runners_facts)), (a_p1_runners_splits, .inl (cI, 720, .inl p1_runners_splits))] H := hP
            have hD : va_D A [(a_t, .inr (8, [.ref a_t_ticks, .ref a_t_places, .int r7, .int r3, .int r5])), (a_t_places, .inl (cI, 12, .inl t_places_l40)), (a_t_ticks, .inl (cI, 12, .inl t_ticks_l40)), (a_p1_way_places, .inl (cI, 12, .inl p1_way_places)), (a_p1_way, .inr (9, [.ref a_p1_way_places, .ref a_p1_way_bearings, .ref a_p1_way_cuts, .ref a_p1_way_deaths, .int p1_way_mats])), (a_p1, .inr (4, [.ref a_p1_way, .ref a_p1_guns, .ref a_p1_runners])), (a_p1_guns, .inr (2, [.ref a_p1_guns_ticks])), (a_p1_guns_ticks, .inl (cI, 6, .inl p1_guns_ticks)), (a_p1_runners, .inr (6, [.ref a_p1_runners_facts, .ref a_p1_runners_splits, .ref a_p1_runners_torn, .ref a_p1_runners_dropped, .ref a_p1_runners_waved, .ref a_p1_runners_struck, .ref a_p1_runners_strikingOrder, .int p1_runners_entered, .int p1_runners_strikings])), (a_p1_runners_facts, .inl (cI, 360, .inl p1_runners_facts)), (a_p1_runners_splits, .inl (cI, 720, .inl p1_runners_splits))] := hD
            refine lv_goto (tgt := 85) hx hb dX8_follow_72 (by decide) ?_
            obtain ⟨i20, h⟩ := zz_i h
            refine va_iast hx hb hK hP hD hS 2 1 rfl rfl i20 dX8_follow_85 (fun H locs hP hD hS => ?_)
            have hP : va_P D vwCl [(a_t, .inr (8, [.ref a_t_ticks, .ref a_t_places, .int r7, .int r3, .int r5])), (a_t_places, .inl (cI, 12, .inl t_places_l40)), (a_t_ticks, .inl (cI, 12, .inl (upd t_ticks_l40 (v4_40).toNatClampNeg r18))), (a_p1_way_places, .inl (cI, 12, .inl p1_way_places)), (a_p1_way, .inr (9, [.ref a_p1_way_places, .ref a_p1_way_bearings, .ref a_p1_way_cuts, .ref a_p1_way_deaths, .int p1_way_mats])), (a_p1, .inr (4, [.ref a_p1_way, .ref a_p1_guns, .ref a_p1_runners])), (a_p1_guns, .inr (2, [.ref a_p1_guns_ticks])), (a_p1_guns_ticks, .inl (cI, 6, .inl p1_guns_ticks)), (a_p1_runners, .inr (6, [.ref a_p1_runners_facts, .ref a_p1_runners_splits, .ref a_p1_runners_torn, .ref a_p1_runners_dropped, .ref a_p1_runners_waved, .ref a_p1_runners_struck, .ref a_p1_runners_strikingOrder, .int p1_runners_entered, .int p1_runners_strikings])), (a_p1_runners_facts, .inl (cI, 360, .inl p1_runners_facts)), (a_p1_runners_splits, .inl (cI, 720, .inl p1_runners_splits))] H := hP
            have hD : va_D A [(a_t, .inr (8, [.ref a_t_ticks, .ref a_t_places, .int r7, .int r3, .int r5])), (a_t_places, .inl (cI, 12, .inl t_places_l40)), (a_t_ticks, .inl (cI, 12, .inl (upd t_ticks_l40 (v4_40).toNatClampNeg r18))), (a_p1_way_places, .inl (cI, 12, .inl p1_way_places)), (a_p1_way, .inr (9, [.ref a_p1_way_places, .ref a_p1_way_bearings, .ref a_p1_way_cuts, .ref a_p1_way_deaths, .int p1_way_mats])), (a_p1, .inr (4, [.ref a_p1_way, .ref a_p1_guns, .ref a_p1_runners])), (a_p1_guns, .inr (2, [.ref a_p1_guns_ticks])), (a_p1_guns_ticks, .inl (cI, 6, .inl p1_guns_ticks)), (a_p1_runners, .inr (6, [.ref a_p1_runners_facts, .ref a_p1_runners_splits, .ref a_p1_runners_torn, .ref a_p1_runners_dropped, .ref a_p1_runners_waved, .ref a_p1_runners_struck, .ref a_p1_runners_strikingOrder, .int p1_runners_entered, .int p1_runners_strikings])), (a_p1_runners_facts, .inl (cI, 360, .inl p1_runners_facts)), (a_p1_runners_splits, .inl (cI, 720, .inl p1_runners_splits))] := hD
            refine lv_aload_n hx hb dX8_follow_86 rfl (lv_at hl 2 rfl) ?_
            refine va_get (D := D) (ci := 8) (C := RX8) (T := TX8) (N := 5) hx hb hts qX8_follow_X8 hown hK hP 0 rfl rfl 1 (by decide) (hts _ kX8_follow_9) (fun _ h9 => h9) rfl dX8_follow_87 ?_
            refine lv_iload hx hb dX8_follow_90 (lv_at hl 0 rfl) ?_
            refine lv_aload_n hx hb dX8_follow_92 rfl (lv_at hl 3 rfl) ?_
            refine va_getN (host := "RunDesk") (D := D) (ci := 4) (C := RX4) (T := TX4) (N := 3) hx hb hts qX8_follow_X4 hown hK hP 5 rfl rfl 0 (by decide) (va_Nw.use rfl (hN _ (List.mem_of_getElem? (i := 2) rfl))) (fun _ h9 => h9) rfl dX8_follow_93 ?_
            refine lv_iload hx hb dX8_follow_96 (lv_at hl 0 rfl) ?_
            obtain ⟨r21, e22, h⟩ := zz_b h
            refine zVi (As := [.int v4_40]) (rest := [.int v4_40, .ref a_t_places]) (C := RX9) (wr := [(a_t, .inr (8, [.ref a_t_ticks, .ref a_t_places, .int r7, .int r3, .int r5])), (a_t_places, .inl (cI, 12, .inl t_places_l40)), (a_t_ticks, .inl (cI, 12, .inl (upd t_ticks_l40 (v4_40).toNatClampNeg r18))), (a_p1, .inr (4, [.ref a_p1_way, .ref a_p1_guns, .ref a_p1_runners])), (a_p1_guns, .inr (2, [.ref a_p1_guns_ticks])), (a_p1_guns_ticks, .inl (cI, 6, .inl p1_guns_ticks)), (a_p1_runners, .inr (6, [.ref a_p1_runners_facts, .ref a_p1_runners_splits, .ref a_p1_runners_torn, .ref a_p1_runners_dropped, .ref a_p1_runners_waved, .ref a_p1_runners_struck, .ref a_p1_runners_strikingOrder, .int p1_runners_entered, .int p1_runners_strikings])), (a_p1_runners_facts, .inl (cI, 360, .inl p1_runners_facts)), (a_p1_runners_splits, .inl (cI, 720, .inl p1_runners_splits))]) [4, 3] [0, 1, 2, 5, 6, 7, 8, 9, 10] 0 ⟨hx, hb, hml, hown, hts⟩ (mX9_placeAt l D cB cI cZ a_p1_way a_p1_way_places a_p1_way_bearings a_p1_way_cuts a_p1_way_deaths p1_way_mats p1_way_places H.size v4_40 r21 e22) (cwV 1 hts gX8_follow_X9_placeAt rfl rfl rfl (by decide +kernel) ⟨Nat.le_of_ble_eq_true rfl, Nat.le_of_ble_eq_true rfl⟩) hK hN hZ hP hD hS hA rfl rfl rfl rfl rfl rfl rfl rfl hl.1 rfl (lv_room (Nat.le_of_ble_eq_true rfl)) dX8_follow_98 ⟨Nat.le_of_ble_eq_true rfl, Nat.le_of_ble_eq_true rfl⟩ (fun H locs hP hD hS => ?_)
            have hP : va_P D vwCl [(a_t, .inr (8, [.ref a_t_ticks, .ref a_t_places, .int r7, .int r3, .int r5])), (a_t_places, .inl (cI, 12, .inl t_places_l40)), (a_t_ticks, .inl (cI, 12, .inl (upd t_ticks_l40 (v4_40).toNatClampNeg r18))), (a_p1, .inr (4, [.ref a_p1_way, .ref a_p1_guns, .ref a_p1_runners])), (a_p1_guns, .inr (2, [.ref a_p1_guns_ticks])), (a_p1_guns_ticks, .inl (cI, 6, .inl p1_guns_ticks)), (a_p1_runners, .inr (6, [.ref a_p1_runners_facts, .ref a_p1_runners_splits, .ref a_p1_runners_torn, .ref a_p1_runners_dropped, .ref a_p1_runners_waved, .ref a_p1_runners_struck, .ref a_p1_runners_strikingOrder, .int p1_runners_entered, .int p1_runners_strikings])), (a_p1_runners_facts, .inl (cI, 360, .inl p1_runners_facts)), (a_p1_runners_splits, .inl (cI, 720, .inl p1_runners_splits)), (a_p1_way, .inr (9, [.ref a_p1_way_places, .ref a_p1_way_bearings, .ref a_p1_way_cuts, .ref a_p1_way_deaths, .int p1_way_mats])), (a_p1_way_places, .inl (cI, 12, .inl p1_way_places))] H := hP
            have hD : va_D A [(a_t, .inr (8, [.ref a_t_ticks, .ref a_t_places, .int r7, .int r3, .int r5])), (a_t_places, .inl (cI, 12, .inl t_places_l40)), (a_t_ticks, .inl (cI, 12, .inl (upd t_ticks_l40 (v4_40).toNatClampNeg r18))), (a_p1, .inr (4, [.ref a_p1_way, .ref a_p1_guns, .ref a_p1_runners])), (a_p1_guns, .inr (2, [.ref a_p1_guns_ticks])), (a_p1_guns_ticks, .inl (cI, 6, .inl p1_guns_ticks)), (a_p1_runners, .inr (6, [.ref a_p1_runners_facts, .ref a_p1_runners_splits, .ref a_p1_runners_torn, .ref a_p1_runners_dropped, .ref a_p1_runners_waved, .ref a_p1_runners_struck, .ref a_p1_runners_strikingOrder, .int p1_runners_entered, .int p1_runners_strikings])), (a_p1_runners_facts, .inl (cI, 360, .inl p1_runners_facts)), (a_p1_runners_splits, .inl (cI, 720, .inl p1_runners_splits)), (a_p1_way, .inr (9, [.ref a_p1_way_places, .ref a_p1_way_bearings, .ref a_p1_way_cuts, .ref a_p1_way_deaths, .int p1_way_mats])), (a_p1_way_places, .inl (cI, 12, .inl p1_way_places))] := hD
            obtain ⟨i23, h⟩ := zz_i h
            refine va_iast hx hb hK hP hD hS 1 1 rfl rfl i23 dX8_follow_101 (fun H locs hP hD hS => ?_)
            have hP : va_P D vwCl [(a_t, .inr (8, [.ref a_t_ticks, .ref a_t_places, .int r7, .int r3, .int r5])), (a_t_places, .inl (cI, 12, .inl (upd t_places_l40 (v4_40).toNatClampNeg r21))), (a_t_ticks, .inl (cI, 12, .inl (upd t_ticks_l40 (v4_40).toNatClampNeg r18))), (a_p1, .inr (4, [.ref a_p1_way, .ref a_p1_guns, .ref a_p1_runners])), (a_p1_guns, .inr (2, [.ref a_p1_guns_ticks])), (a_p1_guns_ticks, .inl (cI, 6, .inl p1_guns_ticks)), (a_p1_runners, .inr (6, [.ref a_p1_runners_facts, .ref a_p1_runners_splits, .ref a_p1_runners_torn, .ref a_p1_runners_dropped, .ref a_p1_runners_waved, .ref a_p1_runners_struck, .ref a_p1_runners_strikingOrder, .int p1_runners_entered, .int p1_runners_strikings])), (a_p1_runners_facts, .inl (cI, 360, .inl p1_runners_facts)), (a_p1_runners_splits, .inl (cI, 720, .inl p1_runners_splits)), (a_p1_way, .inr (9, [.ref a_p1_way_places, .ref a_p1_way_bearings, .ref a_p1_way_cuts, .ref a_p1_way_deaths, .int p1_way_mats])), (a_p1_way_places, .inl (cI, 12, .inl p1_way_places))] H := hP
            have hD : va_D A [(a_t, .inr (8, [.ref a_t_ticks, .ref a_t_places, .int r7, .int r3, .int r5])), (a_t_places, .inl (cI, 12, .inl (upd t_places_l40 (v4_40).toNatClampNeg r21))), (a_t_ticks, .inl (cI, 12, .inl (upd t_ticks_l40 (v4_40).toNatClampNeg r18))), (a_p1, .inr (4, [.ref a_p1_way, .ref a_p1_guns, .ref a_p1_runners])), (a_p1_guns, .inr (2, [.ref a_p1_guns_ticks])), (a_p1_guns_ticks, .inl (cI, 6, .inl p1_guns_ticks)), (a_p1_runners, .inr (6, [.ref a_p1_runners_facts, .ref a_p1_runners_splits, .ref a_p1_runners_torn, .ref a_p1_runners_dropped, .ref a_p1_runners_waved, .ref a_p1_runners_struck, .ref a_p1_runners_strikingOrder, .int p1_runners_entered, .int p1_runners_strikings])), (a_p1_runners_facts, .inl (cI, 360, .inl p1_runners_facts)), (a_p1_runners_splits, .inl (cI, 720, .inl p1_runners_splits)), (a_p1_way, .inr (9, [.ref a_p1_way_places, .ref a_p1_way_bearings, .ref a_p1_way_cuts, .ref a_p1_way_deaths, .int p1_way_mats])), (a_p1_way_places, .inl (cI, 12, .inl p1_way_places))] := hD
            refine lv_iinc (v := (v4_40 + (nI 1))) (lv' := [(4, .int (v4_40 + (nI 1))), (3, .int r1), (0, .ref a_t), (1, .ref a_p1), (2, .int x2)]) hx hb dX8_follow_102 hl (k := 0) rfl rfl (by decide) rfl (fun ls hl => ?_)
            refine lv_goto (tgt := 40) hx hb dX8_follow_105 (by decide) ?_
            exact ih40 (v4_40 + (nI 1)) (upd t_places_l40 (v4_40).toNatClampNeg r21) (upd t_ticks_l40 (v4_40).toNatClampNeg r18) _ _ _ h (hP.sub [0, 1, 2, 3, 4, 5, 8, 10, 6, 7, 9] rfl) (hD.sub [0, 1, 2, 3, 4, 5, 8, 10, 6, 7, 9] rfl rfl) hS (lv_sub hl [0, 1, 2, 3, 4] rfl)
  exact L40 N (nI 0) t_places t_ticks _ _ _ h hP hD hS hl
/-! RunDesk$Trail.tickAt -/
theorem dX8_tickAt_0 : decode cX8_tickAt 0 = .ok (.iload_n 1, 1) := by decide +kernel
theorem dX8_tickAt_1 : decode cX8_tickAt 1 = .ok (.ifCond .lt 26, 3) := by decide +kernel
theorem dX8_tickAt_4 : decode cX8_tickAt 4 = .ok (.iload_n 1, 1) := by decide +kernel
theorem dX8_tickAt_5 : decode cX8_tickAt 5 = .ok (.aload_n 0, 1) := by decide +kernel
theorem dX8_tickAt_6 : decode cX8_tickAt 6 = .ok (.getfield 54, 3) := by decide +kernel
theorem dX8_tickAt_9 : decode cX8_tickAt 9 = .ok (.if_icmp .ge 18, 3) := by decide +kernel
theorem dX8_tickAt_12 : decode cX8_tickAt 12 = .ok (.iload_n 1, 1) := by decide +kernel
theorem dX8_tickAt_13 : decode cX8_tickAt 13 = .ok (.bipush 12, 2) := by decide +kernel
theorem dX8_tickAt_15 : decode cX8_tickAt 15 = .ok (.if_icmp .ge 12, 3) := by decide +kernel
theorem dX8_tickAt_18 : decode cX8_tickAt 18 = .ok (.aload_n 0, 1) := by decide +kernel
theorem dX8_tickAt_19 : decode cX8_tickAt 19 = .ok (.getfield 9, 3) := by decide +kernel
theorem dX8_tickAt_22 : decode cX8_tickAt 22 = .ok (.iload_n 1, 1) := by decide +kernel
theorem dX8_tickAt_23 : decode cX8_tickAt 23 = .ok (.iaload, 1) := by decide +kernel
theorem dX8_tickAt_24 : decode cX8_tickAt 24 = .ok (.goto 4, 3) := by decide +kernel
theorem dX8_tickAt_27 : decode cX8_tickAt 27 = .ok (.iconst (-1), 1) := by decide +kernel
theorem dX8_tickAt_28 : decode cX8_tickAt 28 = .ok (.ireturn, 1) := by decide +kernel
theorem kX8_tickAt_0 : (.fieldLink RX8 54 "RunDesk$Trail" "mats" "I" : Cond) ∈ wsX8_tickAt := List.mem_of_getElem? (i := 1) (by decide +kernel)
theorem qX8_tickAt_X8 : ∀ w ∈ wsX80, w ∈ wsX8_tickAt := fun _ h => List.mem_cons_of_mem _ (List.mem_append_right _ (h))
theorem kX8_tickAt_2 : (.fieldLink RX8 9 "RunDesk$Trail" "ticks" "[I" : Cond) ∈ wsX8_tickAt := List.mem_of_getElem? (i := 2) (by decide +kernel)
set_option maxHeartbeats 4000000 in
set_option maxRecDepth 100000 in
theorem mX8_tickAt (l : Launch) (D : va_G) (cB cI cZ : ClassId) (a_t : Nat) (a_t_ticks : Nat) (a_t_places : Nat) (t_mats : Int32) (t_least : Int32) (t_greatest : Int32) (t_ticks : Nat → Int32) (sz : Nat) (x1 : Int32) (r0 : Int32) (h : fX8_tickAt t_mats t_ticks x1 = some (r0)) : Met l yX8_tickAt wsX8_tickAt ({ frames := 0, cells := 0, slots := 0, locals := 0 } : Room) (va_Pc [.ref a_t, .int x1] (zPre D (zT cB cI cZ) [(a_t, .inr (8, [.ref a_t_ticks, .ref a_t_places, .int t_mats, .int t_least, .int t_greatest])), (a_t_ticks, .inl (cI, 12, .inl t_ticks))] sz)) (zQi r0 D (zT cB cI cZ) [(a_t, .inr (8, [.ref a_t_ticks, .ref a_t_places, .int t_mats, .int t_least, .int t_greatest])), (a_t_ticks, .inl (cI, 12, .inl t_ticks))] (va_A [(a_t, .inr (8, [.ref a_t_ticks, .ref a_t_places, .int t_mats, .int t_least, .int t_greatest])), (a_t_ticks, .inl (cI, 12, .inl t_ticks))] sz)) 0 0 (va_A [(a_t, .inr (8, [.ref a_t_ticks, .ref a_t_places, .int t_mats, .int t_least, .int t_greatest])), (a_t_ticks, .inl (cI, 12, .inl t_ticks))] sz) := by
  refine Met.ofW (cc := cX8_tickAt) (maxL := 2) (ret := (some .int)) (by decide) rfl ?_
  intro p e s m args below meth c s₁ B hml hv
  obtain ⟨rfl, hsz, hP, hK, hN, hZ, hD0⟩ := hv
  have hx := B.exec
  have hb := B.bytes
  have hr := B.returns
  have hts := atoms_spec (ws := wsX8_tickAt) B.pre
  have hown : s.vm.findClass RX8 = some m.cls := findClass_of_methodNamed B.named
  have hlocks := B.notSynchronized
  subst hsz
  have hD := hD0.self (sz := s.heap.size)
  generalize hAe : va_A [(a_t, .inr (8, [.ref a_t_ticks, .ref a_t_places, .int t_mats, .int t_least, .int t_greatest])), (a_t_ticks, .inl (cI, 12, .inl t_ticks))] s.heap.size = A at hD hZ ⊢
  have hA : ∀ q : Nat, s.heap.size ≤ q → A q := fun q h => by rw [← hAe]; exact Or.inr h
  have hS : va_S A s.heap s.heap [] := va_S.rf
  have hl := lv_entry ([.ref a_t, .int x1]) (n := 2) (Nat.le_of_ble_eq_true rfl)
  rw [lg_entry_eq]
  generalize (lg_sl ([.ref a_t, .int x1]) ++ List.replicate (2 - (lg_sl ([.ref a_t, .int x1])).length) Slot.unset).toArray = ls at hl ⊢
  have hl : lv_has ls 2 [(0, .ref a_t), (1, .int x1)] := hl
  unfold fX8_tickAt at h
  refine lv_iload_n hx hb dX8_tickAt_0 rfl (lv_at hl 1 rfl) ?_
  refine lv_if_lt (tgt := 27) hx hb dX8_tickAt_1 (by decide) (fun c1 => ?_) (fun c1 => ?_)
  · have h := zz_t h c1
    refine lv_iconst (v := (-1 : Int32)) hx hb dX8_tickAt_27 rfl ?_
    have j0_ := Option.some.inj h
    subst j0_
    exact W.iret (v := (-1 : Int32)) hx hb hr (fun t ht hW => ⟨⟨_, (), rfl, rfl, zPost.of hP hD hK ht hW [0, 1] rfl rfl rfl⟩, hS.F ht⟩) hS.2.2 dX8_tickAt_28
  · have h := zz_f h c1
    refine lv_iload_n hx hb dX8_tickAt_4 rfl (lv_at hl 1 rfl) ?_
    refine lv_aload_n hx hb dX8_tickAt_5 rfl (lv_at hl 0 rfl) ?_
    refine va_get (D := D) (ci := 8) (C := RX8) (T := TX8) (N := 5) hx hb hts qX8_tickAt_X8 hown hK hP 0 rfl rfl 2 (by decide) (hts _ kX8_tickAt_0) (fun _ h9 => h9) rfl dX8_tickAt_6 ?_
    refine lv_icmp_ge (tgt := 27) hx hb dX8_tickAt_9 (by decide) (fun c2 => ?_) (fun c2 => ?_)
    · have h := zz_t h c2
      refine lv_iconst (v := (-1 : Int32)) hx hb dX8_tickAt_27 rfl ?_
      have j0_ := Option.some.inj h
      subst j0_
      exact W.iret (v := (-1 : Int32)) hx hb hr (fun t ht hW => ⟨⟨_, (), rfl, rfl, zPost.of hP hD hK ht hW [0, 1] rfl rfl rfl⟩, hS.F ht⟩) hS.2.2 dX8_tickAt_28
    · have h := zz_f h c2
      refine lv_iload_n hx hb dX8_tickAt_12 rfl (lv_at hl 1 rfl) ?_
      refine lv_bipush (v := (nI 12)) hx hb dX8_tickAt_13 rfl ?_
      refine lv_icmp_ge (tgt := 27) hx hb dX8_tickAt_15 (by decide) (fun c3 => ?_) (fun c3 => ?_)
      · have h := zz_t h c3
        refine lv_iconst (v := (-1 : Int32)) hx hb dX8_tickAt_27 rfl ?_
        have j0_ := Option.some.inj h
        subst j0_
        exact W.iret (v := (-1 : Int32)) hx hb hr (fun t ht hW => ⟨⟨_, (), rfl, rfl, zPost.of hP hD hK ht hW [0, 1] rfl rfl rfl⟩, hS.F ht⟩) hS.2.2 dX8_tickAt_28
      · have h := zz_f h c3
        refine lv_aload_n hx hb dX8_tickAt_18 rfl (lv_at hl 0 rfl) ?_
        refine va_get (D := D) (ci := 8) (C := RX8) (T := TX8) (N := 5) hx hb hts qX8_tickAt_X8 hown hK hP 0 rfl rfl 0 (by decide) (hts _ kX8_tickAt_2) (fun _ h9 => h9) rfl dX8_tickAt_19 ?_
        refine lv_iload_n hx hb dX8_tickAt_22 rfl (lv_at hl 1 rfl) ?_
        obtain ⟨i4, h⟩ := zz_i h
        refine va_iald hx hb hK hP 1 1 rfl rfl i4 dX8_tickAt_23 ?_
        refine lv_goto (tgt := 28) hx hb dX8_tickAt_24 (by decide) ?_
        have j0_ := Option.some.inj h
        subst j0_
        exact W.iret (v := (t_ticks (x1).toNatClampNeg)) hx hb hr (fun t ht hW => ⟨⟨_, (), rfl, rfl, zPost.of hP hD hK ht hW [0, 1] rfl rfl rfl⟩, hS.F ht⟩) hS.2.2 dX8_tickAt_28
/-! RunDesk$Trail.isSeen -/
theorem dX8_isSeen_0 : decode cX8_isSeen 0 = .ok (.aload_n 0, 1) := by decide +kernel
theorem dX8_isSeen_1 : decode cX8_isSeen 1 = .ok (.iload_n 1, 1) := by decide +kernel
theorem dX8_isSeen_2 : decode cX8_isSeen 2 = .ok (.invokevirtual 66, 3) := by decide +kernel
theorem dX8_isSeen_5 : decode cX8_isSeen 5 = .ok (.iconst (-1), 1) := by decide +kernel
theorem dX8_isSeen_6 : decode cX8_isSeen 6 = .ok (.if_icmp .eq 7, 3) := by decide +kernel
theorem dX8_isSeen_9 : decode cX8_isSeen 9 = .ok (.iconst 1, 1) := by decide +kernel
theorem dX8_isSeen_10 : decode cX8_isSeen 10 = .ok (.goto 4, 3) := by decide +kernel
theorem dX8_isSeen_13 : decode cX8_isSeen 13 = .ok (.iconst 0, 1) := by decide +kernel
theorem dX8_isSeen_14 : decode cX8_isSeen 14 = .ok (.ireturn, 1) := by decide +kernel
set_option maxRecDepth 20000 in
theorem ggX8_isSeen_X8_tickAt : GoodIn wsX8_isSeen wsX8_tickAt := goodIn_sub (List.forall_mem_cons.mpr ⟨List.mem_cons_of_mem _ (List.mem_append_left _ (List.mem_of_getElem? (i := 4) rfl)), (List.forall_mem_append.mpr ⟨(List.forall_mem_cons.mpr ⟨List.mem_cons_of_mem _ (List.mem_append_left _ (List.mem_of_getElem? (i := 5) rfl)), (List.forall_mem_cons.mpr ⟨List.mem_cons_of_mem _ (List.mem_append_left _ (List.mem_of_getElem? (i := 6) rfl)), (fun _ h => nomatch h)⟩)⟩), (fun _ h => List.mem_cons_of_mem _ (List.mem_append_right _ (h)))⟩)⟩) (by decide +kernel)
set_option maxRecDepth 20000 in
theorem gX8_isSeen_X8_tickAt : GoodIn wsX8_isSeen (wsV RX8 66 RX8 yX8_tickAt wsX8_tickAt) := goodIn_app (goodIn_of _ (by decide +kernel)) ggX8_isSeen_X8_tickAt
set_option maxHeartbeats 4000000 in
set_option maxRecDepth 100000 in
theorem mX8_isSeen (l : Launch) (D : va_G) (cB cI cZ : ClassId) (a_t : Nat) (a_t_ticks : Nat) (a_t_places : Nat) (t_mats : Int32) (t_least : Int32) (t_greatest : Int32) (t_ticks : Nat → Int32) (sz : Nat) (x1 : Int32) (b0 : Bool) (h : fX8_isSeen t_mats t_ticks x1 = some (b0)) : Met l yX8_isSeen wsX8_isSeen ({ frames := 1, cells := 0, slots := 0, locals := 21 } : Room) (va_Pc [.ref a_t, .int x1] (zPre D (zT cB cI cZ) [(a_t, .inr (8, [.ref a_t_ticks, .ref a_t_places, .int t_mats, .int t_least, .int t_greatest])), (a_t_ticks, .inl (cI, 12, .inl t_ticks))] sz)) (zQi (zb b0) D (zT cB cI cZ) [(a_t, .inr (8, [.ref a_t_ticks, .ref a_t_places, .int t_mats, .int t_least, .int t_greatest])), (a_t_ticks, .inl (cI, 12, .inl t_ticks))] (va_A [(a_t, .inr (8, [.ref a_t_ticks, .ref a_t_places, .int t_mats, .int t_least, .int t_greatest])), (a_t_ticks, .inl (cI, 12, .inl t_ticks))] sz)) 0 0 (va_A [(a_t, .inr (8, [.ref a_t_ticks, .ref a_t_places, .int t_mats, .int t_least, .int t_greatest])), (a_t_ticks, .inl (cI, 12, .inl t_ticks))] sz) := by
  refine Met.ofW (cc := cX8_isSeen) (maxL := 2) (ret := (some .boolean)) (by decide) rfl ?_
  intro p e s m args below meth c s₁ B hml hv
  obtain ⟨rfl, hsz, hP, hK, hN, hZ, hD0⟩ := hv
  have hx := B.exec
  have hb := B.bytes
  have hr := B.returns
  have hts := atoms_spec (ws := wsX8_isSeen) B.pre
  have hown : s.vm.findClass RX8 = some m.cls := findClass_of_methodNamed B.named
  have hlocks := B.notSynchronized
  subst hsz
  have hD := hD0.self (sz := s.heap.size)
  generalize hAe : va_A [(a_t, .inr (8, [.ref a_t_ticks, .ref a_t_places, .int t_mats, .int t_least, .int t_greatest])), (a_t_ticks, .inl (cI, 12, .inl t_ticks))] s.heap.size = A at hD hZ ⊢
  have hA : ∀ q : Nat, s.heap.size ≤ q → A q := fun q h => by rw [← hAe]; exact Or.inr h
  have hS : va_S A s.heap s.heap [] := va_S.rf
  have hl := lv_entry ([.ref a_t, .int x1]) (n := 2) (Nat.le_of_ble_eq_true rfl)
  rw [lg_entry_eq]
  generalize (lg_sl ([.ref a_t, .int x1]) ++ List.replicate (2 - (lg_sl ([.ref a_t, .int x1])).length) Slot.unset).toArray = ls at hl ⊢
  have hl : lv_has ls 2 [(0, .ref a_t), (1, .int x1)] := hl
  unfold fX8_isSeen at h
  refine lv_aload_n hx hb dX8_isSeen_0 rfl (lv_at hl 0 rfl) ?_
  refine lv_iload_n hx hb dX8_isSeen_1 rfl (lv_at hl 1 rfl) ?_
  obtain ⟨r1, e2, h⟩ := zz_b h
  refine zVi (As := [.int x1]) (rest := []) (C := RX8) (wr := []) [0, 1] [] 0 ⟨hx, hb, hml, hown, hts⟩ (mX8_tickAt l D cB cI cZ a_t a_t_ticks a_t_places t_mats t_least t_greatest t_ticks s.heap.size x1 r1 e2) (cwV 1 hts gX8_isSeen_X8_tickAt rfl rfl rfl (by decide +kernel) ⟨Nat.le_of_ble_eq_true rfl, Nat.le_of_ble_eq_true rfl⟩) hK hN hZ hP hD hS hA rfl rfl rfl rfl rfl rfl rfl rfl hl.1 rfl (lv_room (Nat.le_of_ble_eq_true rfl)) dX8_isSeen_2 ⟨Nat.le_of_ble_eq_true rfl, Nat.le_of_ble_eq_true rfl⟩ (fun H locs hP hD hS => ?_)
  have hP : va_P D vwCl [(a_t, .inr (8, [.ref a_t_ticks, .ref a_t_places, .int t_mats, .int t_least, .int t_greatest])), (a_t_ticks, .inl (cI, 12, .inl t_ticks))] H := hP
  have hD : va_D A [(a_t, .inr (8, [.ref a_t_ticks, .ref a_t_places, .int t_mats, .int t_least, .int t_greatest])), (a_t_ticks, .inl (cI, 12, .inl t_ticks))] := hD
  refine lv_iconst (v := (-1 : Int32)) hx hb dX8_isSeen_5 rfl ?_
  refine lv_icmp_eq (tgt := 13) hx hb dX8_isSeen_6 (by decide) (fun c3 => ?_) (fun c3 => ?_)
  · have h := zz_t h c3
    refine lv_iconst (v := (nI 0)) hx hb dX8_isSeen_13 rfl ?_
    have j0_ := Option.some.inj h
    subst j0_
    exact W.zret (v := (nI 0)) hx hb hr rfl (fun t ht hW => ⟨⟨_, (), rfl, rfl, zPost.of hP hD hK ht hW [0, 1] rfl rfl rfl⟩, hS.F ht⟩) hS.2.2 dX8_isSeen_14
  · have h := zz_f h c3
    refine lv_iconst (v := (nI 1)) hx hb dX8_isSeen_9 rfl ?_
    refine lv_goto (tgt := 14) hx hb dX8_isSeen_10 (by decide) ?_
    have j0_ := Option.some.inj h
    subst j0_
    exact W.zret (v := (nI 1)) hx hb hr rfl (fun t ht hW => ⟨⟨_, (), rfl, rfl, zPost.of hP hD hK ht hW [0, 1] rfl rfl rfl⟩, hS.F ht⟩) hS.2.2 dX8_isSeen_14
/-! RunDesk$Trail.seenBehind -/
theorem dX8_seenBehind_0 : decode cX8_seenBehind 0 = .ok (.iload_n 1, 1) := by decide +kernel
theorem dX8_seenBehind_1 : decode cX8_seenBehind 1 = .ok (.iconst 1, 1) := by decide +kernel
theorem dX8_seenBehind_2 : decode cX8_seenBehind 2 = .ok (.iadd, 1) := by decide +kernel
theorem dX8_seenBehind_3 : decode cX8_seenBehind 3 = .ok (.istore_n 2, 1) := by decide +kernel
theorem dX8_seenBehind_4 : decode cX8_seenBehind 4 = .ok (.iload_n 2, 1) := by decide +kernel
theorem dX8_seenBehind_5 : decode cX8_seenBehind 5 = .ok (.aload_n 0, 1) := by decide +kernel
theorem dX8_seenBehind_6 : decode cX8_seenBehind 6 = .ok (.getfield 54, 3) := by decide +kernel
theorem dX8_seenBehind_9 : decode cX8_seenBehind 9 = .ok (.if_icmp .ge 19, 3) := by decide +kernel
theorem dX8_seenBehind_12 : decode cX8_seenBehind 12 = .ok (.aload_n 0, 1) := by decide +kernel
theorem dX8_seenBehind_13 : decode cX8_seenBehind 13 = .ok (.iload_n 2, 1) := by decide +kernel
theorem dX8_seenBehind_14 : decode cX8_seenBehind 14 = .ok (.invokevirtual 69, 3) := by decide +kernel
theorem dX8_seenBehind_17 : decode cX8_seenBehind 17 = .ok (.ifCond .eq 5, 3) := by decide +kernel
theorem dX8_seenBehind_20 : decode cX8_seenBehind 20 = .ok (.iload_n 2, 1) := by decide +kernel
theorem dX8_seenBehind_21 : decode cX8_seenBehind 21 = .ok (.ireturn, 1) := by decide +kernel
theorem dX8_seenBehind_22 : decode cX8_seenBehind 22 = .ok (.iinc 2 1, 3) := by decide +kernel
theorem dX8_seenBehind_25 : decode cX8_seenBehind 25 = .ok (.goto (-21), 3) := by decide +kernel
theorem dX8_seenBehind_28 : decode cX8_seenBehind 28 = .ok (.iconst (-1), 1) := by decide +kernel
theorem dX8_seenBehind_29 : decode cX8_seenBehind 29 = .ok (.ireturn, 1) := by decide +kernel
set_option maxRecDepth 20000 in
theorem ggX8_seenBehind_X8_isSeen : GoodIn wsX8_seenBehind wsX8_isSeen := goodIn_sub (List.forall_mem_cons.mpr ⟨List.mem_cons_of_mem _ (List.mem_append_left _ (List.mem_of_getElem? (i := 5) rfl)), (List.forall_mem_append.mpr ⟨(List.forall_mem_cons.mpr ⟨List.mem_cons_of_mem _ (List.mem_append_left _ (List.mem_of_getElem? (i := 6) rfl)), (List.forall_mem_cons.mpr ⟨List.mem_cons_of_mem _ (List.mem_append_left _ (List.mem_of_getElem? (i := 7) rfl)), (List.forall_mem_cons.mpr ⟨List.mem_cons_of_mem _ (List.mem_append_left _ (List.mem_of_getElem? (i := 8) rfl)), (List.forall_mem_cons.mpr ⟨List.mem_cons_of_mem _ (List.mem_append_left _ (List.mem_of_getElem? (i := 4) rfl)), (List.forall_mem_cons.mpr ⟨List.mem_cons_of_mem _ (List.mem_append_left _ (List.mem_of_getElem? (i := 9) rfl)), (List.forall_mem_cons.mpr ⟨List.mem_cons_of_mem _ (List.mem_append_left _ (List.mem_of_getElem? (i := 0) rfl)), (List.forall_mem_cons.mpr ⟨List.mem_cons_of_mem _ (List.mem_append_left _ (List.mem_of_getElem? (i := 10) rfl)), (fun _ h => nomatch h)⟩)⟩)⟩)⟩)⟩)⟩)⟩), (fun _ h => List.mem_cons_of_mem _ (List.mem_append_right _ (h)))⟩)⟩) (by decide +kernel)
set_option maxRecDepth 20000 in
theorem gX8_seenBehind_X8_isSeen : GoodIn wsX8_seenBehind (wsV RX8 69 RX8 yX8_isSeen wsX8_isSeen) := goodIn_app (goodIn_of _ (by decide +kernel)) ggX8_seenBehind_X8_isSeen
theorem kX8_seenBehind_0 : (.fieldLink RX8 54 "RunDesk$Trail" "mats" "I" : Cond) ∈ wsX8_seenBehind := List.mem_of_getElem? (i := 1) (by decide +kernel)
theorem qX8_seenBehind_X8 : ∀ w ∈ wsX80, w ∈ wsX8_seenBehind := fun _ h => List.mem_cons_of_mem _ (List.mem_append_right _ (h))
set_option maxHeartbeats 4000000 in
set_option maxRecDepth 100000 in
theorem mX8_seenBehind (l : Launch) (D : va_G) (cB cI cZ : ClassId) (a_t : Nat) (a_t_ticks : Nat) (a_t_places : Nat) (t_mats : Int32) (t_least : Int32) (t_greatest : Int32) (t_ticks : Nat → Int32) (sz : Nat) (x1 : Int32) (N : Nat) (r0 : Int32) (h : fX8_seenBehind N t_mats t_ticks x1 = some (r0)) : Met l yX8_seenBehind wsX8_seenBehind ({ frames := 2, cells := 0, slots := 0, locals := 42 } : Room) (va_Pc [.ref a_t, .int x1] (zPre D (zT cB cI cZ) [(a_t, .inr (8, [.ref a_t_ticks, .ref a_t_places, .int t_mats, .int t_least, .int t_greatest])), (a_t_ticks, .inl (cI, 12, .inl t_ticks))] sz)) (zQi r0 D (zT cB cI cZ) [(a_t, .inr (8, [.ref a_t_ticks, .ref a_t_places, .int t_mats, .int t_least, .int t_greatest])), (a_t_ticks, .inl (cI, 12, .inl t_ticks))] (va_A [(a_t, .inr (8, [.ref a_t_ticks, .ref a_t_places, .int t_mats, .int t_least, .int t_greatest])), (a_t_ticks, .inl (cI, 12, .inl t_ticks))] sz)) 0 0 (va_A [(a_t, .inr (8, [.ref a_t_ticks, .ref a_t_places, .int t_mats, .int t_least, .int t_greatest])), (a_t_ticks, .inl (cI, 12, .inl t_ticks))] sz) := by
  refine Met.ofW (cc := cX8_seenBehind) (maxL := 3) (ret := (some .int)) (by decide) rfl ?_
  intro p e s m args below meth c s₁ B hml hv
  obtain ⟨rfl, hsz, hP, hK, hN, hZ, hD0⟩ := hv
  have hx := B.exec
  have hb := B.bytes
  have hr := B.returns
  have hts := atoms_spec (ws := wsX8_seenBehind) B.pre
  have hown : s.vm.findClass RX8 = some m.cls := findClass_of_methodNamed B.named
  have hlocks := B.notSynchronized
  subst hsz
  have hD := hD0.self (sz := s.heap.size)
  generalize hAe : va_A [(a_t, .inr (8, [.ref a_t_ticks, .ref a_t_places, .int t_mats, .int t_least, .int t_greatest])), (a_t_ticks, .inl (cI, 12, .inl t_ticks))] s.heap.size = A at hD hZ ⊢
  have hA : ∀ q : Nat, s.heap.size ≤ q → A q := fun q h => by rw [← hAe]; exact Or.inr h
  have hS : va_S A s.heap s.heap [] := va_S.rf
  have hl := lv_entry ([.ref a_t, .int x1]) (n := 3) (Nat.le_of_ble_eq_true rfl)
  rw [lg_entry_eq]
  generalize (lg_sl ([.ref a_t, .int x1]) ++ List.replicate (3 - (lg_sl ([.ref a_t, .int x1])).length) Slot.unset).toArray = ls at hl ⊢
  have hl : lv_has ls 3 [(0, .ref a_t), (1, .int x1)] := hl
  unfold fX8_seenBehind at h
  refine lv_iload_n hx hb dX8_seenBehind_0 rfl (lv_at hl 1 rfl) ?_
  refine lv_iconst (v := (nI 1)) hx hb dX8_seenBehind_1 rfl ?_
  refine lv_iadd hx hb dX8_seenBehind_2 ?_
  refine lv_istore_n (lv' := [(2, .int (x1 + (nI 1))), (0, .ref a_t), (1, .int x1)]) hx hb dX8_seenBehind_3 rfl hl (by decide) rfl (fun ls hl => ?_)
  have X4_28 : ∀ (v2_4 : Int32) (H : Heap) (locs : List Loc) (ls : Array Slot), some ((-1 : Int32)) = some (r0) → va_P D vwCl [(a_t, .inr (8, [.ref a_t_ticks, .ref a_t_places, .int t_mats, .int t_least, .int t_greatest])), (a_t_ticks, .inl (cI, 12, .inl t_ticks))] H → va_D A [(a_t, .inr (8, [.ref a_t_ticks, .ref a_t_places, .int t_mats, .int t_least, .int t_greatest])), (a_t_ticks, .inl (cI, 12, .inl t_ticks))] → va_S A s.heap H locs → lv_has ls 3 [(2, .int v2_4), (0, .ref a_t), (1, .int x1)] → W p l e (headSpec wsX8_seenBehind ({ frames := 2, cells := 0, slots := 0, locals := 42 } : Room)).room s m #[Value.ref a_t, Value.int x1] below meth c H locs 0 0 (MQ below (zQi r0 D (zT cB cI cZ) [(a_t, .inr (8, [.ref a_t_ticks, .ref a_t_places, .int t_mats, .int t_least, .int t_greatest])), (a_t_ticks, .inl (cI, 12, .inl t_ticks))] A) #[Value.ref a_t, Value.int x1] s 0 0 A) (F0 m 28 ls []) := by
    intro v2_4 H locs ls h hP hD hS hl
    refine lv_iconst (v := (-1 : Int32)) hx hb dX8_seenBehind_28 rfl ?_
    have j0_ := Option.some.inj h
    subst j0_
    exact W.iret (v := (-1 : Int32)) hx hb hr (fun t ht hW => ⟨⟨_, (), rfl, rfl, zPost.of hP hD hK ht hW [0, 1] rfl rfl rfl⟩, hS.F ht⟩) hS.2.2 dX8_seenBehind_29
  have L4 : ∀ (n : Nat) (v2_4 : Int32) (H : Heap) (locs : List Loc) (ls : Array Slot), fX8_seenBehind_L4 t_mats t_ticks (fun (v2_4 : Int32) => some ((-1 : Int32))) n v2_4 = some (r0) → va_P D vwCl [(a_t, .inr (8, [.ref a_t_ticks, .ref a_t_places, .int t_mats, .int t_least, .int t_greatest])), (a_t_ticks, .inl (cI, 12, .inl t_ticks))] H → va_D A [(a_t, .inr (8, [.ref a_t_ticks, .ref a_t_places, .int t_mats, .int t_least, .int t_greatest])), (a_t_ticks, .inl (cI, 12, .inl t_ticks))] → va_S A s.heap H locs → lv_has ls 3 [(2, .int v2_4), (0, .ref a_t), (1, .int x1)] → W p l e (headSpec wsX8_seenBehind ({ frames := 2, cells := 0, slots := 0, locals := 42 } : Room)).room s m #[Value.ref a_t, Value.int x1] below meth c H locs 0 0 (MQ below (zQi r0 D (zT cB cI cZ) [(a_t, .inr (8, [.ref a_t_ticks, .ref a_t_places, .int t_mats, .int t_least, .int t_greatest])), (a_t_ticks, .inl (cI, 12, .inl t_ticks))] A) #[Value.ref a_t, Value.int x1] s 0 0 A) (F0 m 4 ls []) := by
    intro n
    induction n with
    | zero => intro _ H locs ls h hP hD hS hl; cases h
    | succ n4 ih4 =>
      intro v2_4 H locs ls h hP hD hS hl
      rw [fX8_seenBehind_L4.eq_2] at h
      refine lv_iload_n hx hb dX8_seenBehind_4 rfl (lv_at hl 0 rfl) ?_
      refine lv_aload_n hx hb dX8_seenBehind_5 rfl (lv_at hl 1 rfl) ?_
      refine va_get (D := D) (ci := 8) (C := RX8) (T := TX8) (N := 5) hx hb hts qX8_seenBehind_X8 hown hK hP 0 rfl rfl 2 (by decide) (hts _ kX8_seenBehind_0) (fun _ h9 => h9) rfl dX8_seenBehind_6 ?_
      refine lv_icmp_ge (tgt := 28) hx hb dX8_seenBehind_9 (by decide) (fun c1 => ?_) (fun c1 => ?_)
      · have h := zz_t h c1
        exact X4_28 v2_4 _ _ _ h (hP.sub [0, 1] rfl) (hD.sub [0, 1] rfl rfl) hS (lv_sub hl [0, 1, 2] rfl)
      · have h := zz_f h c1
        refine lv_aload_n hx hb dX8_seenBehind_12 rfl (lv_at hl 1 rfl) ?_
        refine lv_iload_n hx hb dX8_seenBehind_13 rfl (lv_at hl 0 rfl) ?_
        obtain ⟨b2, e3, h⟩ := zz_b h
        refine zVi (As := [.int v2_4]) (rest := []) (C := RX8) (wr := []) [0, 1] [] 0 ⟨hx, hb, hml, hown, hts⟩ (mX8_isSeen l D cB cI cZ a_t a_t_ticks a_t_places t_mats t_least t_greatest t_ticks H.size v2_4 b2 e3) (cwV 1 hts gX8_seenBehind_X8_isSeen rfl rfl rfl (by decide +kernel) ⟨Nat.le_of_ble_eq_true rfl, Nat.le_of_ble_eq_true rfl⟩) hK hN hZ hP hD hS hA rfl rfl rfl rfl rfl rfl rfl rfl hl.1 rfl (lv_room (Nat.le_of_ble_eq_true rfl)) dX8_seenBehind_14 ⟨Nat.le_of_ble_eq_true rfl, Nat.le_of_ble_eq_true rfl⟩ (fun H locs hP hD hS => ?_)
        have hP : va_P D vwCl [(a_t, .inr (8, [.ref a_t_ticks, .ref a_t_places, .int t_mats, .int t_least, .int t_greatest])), (a_t_ticks, .inl (cI, 12, .inl t_ticks))] H := hP
        have hD : va_D A [(a_t, .inr (8, [.ref a_t_ticks, .ref a_t_places, .int t_mats, .int t_least, .int t_greatest])), (a_t_ticks, .inl (cI, 12, .inl t_ticks))] := hD
        refine lv_if_eq (tgt := 22) hx hb dX8_seenBehind_17 (by decide) (fun c4 => ?_) (fun c4 => ?_)
        · have h := zz_t h c4
          refine lv_iinc (v := (v2_4 + (nI 1))) (lv' := [(2, .int (v2_4 + (nI 1))), (0, .ref a_t), (1, .int x1)]) hx hb dX8_seenBehind_22 hl (k := 0) rfl rfl (by decide) rfl (fun ls hl => ?_)
          refine lv_goto (tgt := 4) hx hb dX8_seenBehind_25 (by decide) ?_
          exact ih4 (v2_4 + (nI 1)) _ _ _ h (hP.sub [0, 1] rfl) (hD.sub [0, 1] rfl rfl) hS (lv_sub hl [0, 1, 2] rfl)
        · have h := zz_f h c4
          refine lv_iload_n hx hb dX8_seenBehind_20 rfl (lv_at hl 0 rfl) ?_
          have j0_ := Option.some.inj h
          subst j0_
          exact W.iret (v := v2_4) hx hb hr (fun t ht hW => ⟨⟨_, (), rfl, rfl, zPost.of hP hD hK ht hW [0, 1] rfl rfl rfl⟩, hS.F ht⟩) hS.2.2 dX8_seenBehind_21
  exact L4 N (x1 + (nI 1)) _ _ _ h hP hD hS hl
/-! RunDesk$Doubts.add -/
theorem dX0_add_0 : decode cX0_add 0 = .ok (.aload_n 0, 1) := by decide +kernel
theorem dX0_add_1 : decode cX0_add 1 = .ok (.getfield 15, 3) := by decide +kernel
theorem dX0_add_4 : decode cX0_add 4 = .ok (.ifCond .lt 46, 3) := by decide +kernel
theorem dX0_add_7 : decode cX0_add 7 = .ok (.aload_n 0, 1) := by decide +kernel
theorem dX0_add_8 : decode cX0_add 8 = .ok (.getfield 15, 3) := by decide +kernel
theorem dX0_add_11 : decode cX0_add 11 = .ok (.aload_n 0, 1) := by decide +kernel
theorem dX0_add_12 : decode cX0_add 12 = .ok (.getfield 11, 3) := by decide +kernel
theorem dX0_add_15 : decode cX0_add 15 = .ok (.arraylength, 1) := by decide +kernel
theorem dX0_add_16 : decode cX0_add 16 = .ok (.if_icmp .ge 34, 3) := by decide +kernel
theorem dX0_add_19 : decode cX0_add 19 = .ok (.aload_n 0, 1) := by decide +kernel
theorem dX0_add_20 : decode cX0_add 20 = .ok (.getfield 11, 3) := by decide +kernel
theorem dX0_add_23 : decode cX0_add 23 = .ok (.aload_n 0, 1) := by decide +kernel
theorem dX0_add_24 : decode cX0_add 24 = .ok (.getfield 15, 3) := by decide +kernel
theorem dX0_add_27 : decode cX0_add 27 = .ok (.iload_n 1, 1) := by decide +kernel
theorem dX0_add_28 : decode cX0_add 28 = .ok (.bipush 12, 2) := by decide +kernel
theorem dX0_add_30 : decode cX0_add 30 = .ok (.imul, 1) := by decide +kernel
theorem dX0_add_31 : decode cX0_add 31 = .ok (.iload_n 2, 1) := by decide +kernel
theorem dX0_add_32 : decode cX0_add 32 = .ok (.iadd, 1) := by decide +kernel
theorem dX0_add_33 : decode cX0_add 33 = .ok (.iconst 3, 1) := by decide +kernel
theorem dX0_add_34 : decode cX0_add 34 = .ok (.imul, 1) := by decide +kernel
theorem dX0_add_35 : decode cX0_add 35 = .ok (.iload_n 3, 1) := by decide +kernel
theorem dX0_add_36 : decode cX0_add 36 = .ok (.iadd, 1) := by decide +kernel
theorem dX0_add_37 : decode cX0_add 37 = .ok (.iconst 1, 1) := by decide +kernel
theorem dX0_add_38 : decode cX0_add 38 = .ok (.isub, 1) := by decide +kernel
theorem dX0_add_39 : decode cX0_add 39 = .ok (.iastore, 1) := by decide +kernel
theorem dX0_add_40 : decode cX0_add 40 = .ok (.aload_n 0, 1) := by decide +kernel
theorem dX0_add_41 : decode cX0_add 41 = .ok (.dup, 1) := by decide +kernel
theorem dX0_add_42 : decode cX0_add 42 = .ok (.getfield 15, 3) := by decide +kernel
theorem dX0_add_45 : decode cX0_add 45 = .ok (.iconst 1, 1) := by decide +kernel
theorem dX0_add_46 : decode cX0_add 46 = .ok (.iadd, 1) := by decide +kernel
theorem dX0_add_47 : decode cX0_add 47 = .ok (.putfield 15, 3) := by decide +kernel
theorem dX0_add_50 : decode cX0_add 50 = .ok (.return_, 1) := by decide +kernel
theorem kX0_add_0 : (.fieldLink RX0 15 "RunDesk$Doubts" "doubts" "I" : Cond) ∈ wsX0_add := List.mem_of_getElem? (i := 1) (by decide +kernel)
theorem qX0_add_X0 : ∀ w ∈ wsX00, w ∈ wsX0_add := fun _ h => List.mem_cons_of_mem _ (List.mem_append_right _ (h))
theorem kX0_add_2 : (.fieldLink RX0 11 "RunDesk$Doubts" "codes" "[I" : Cond) ∈ wsX0_add := List.mem_of_getElem? (i := 2) (by decide +kernel)
set_option maxHeartbeats 4000000 in
set_option maxRecDepth 100000 in
theorem mX0_add (l : Launch) (D : va_G) (cB cI cZ : ClassId) (a_t : Nat) (a_t_codes : Nat) (t_doubts : Int32) (t_codes : Nat → Int32) (sz : Nat) (x1 : Int32) (x2 : Int32) (x3 : Int32) (t_doubts' : Int32) (t_codes' : Nat → Int32) (h : fX0_add t_doubts t_codes x1 x2 x3 = some (t_doubts', t_codes')) : Met l yX0_add wsX0_add ({ frames := 0, cells := 0, slots := 0, locals := 0 } : Room) (va_Pc [.ref a_t, .int x1, .int x2, .int x3] (zPre D (zT cB cI cZ) [(a_t, .inr (0, [.ref a_t_codes, .int t_doubts])), (a_t_codes, .inl (cI, 2160, .inl t_codes))] sz)) (zQv D (zT cB cI cZ) [(a_t, .inr (0, [.ref a_t_codes, .int t_doubts'])), (a_t_codes, .inl (cI, 2160, .inl t_codes'))] (va_A [(a_t, .inr (0, [.ref a_t_codes, .int t_doubts])), (a_t_codes, .inl (cI, 2160, .inl t_codes))] sz)) 0 0 (va_A [(a_t, .inr (0, [.ref a_t_codes, .int t_doubts])), (a_t_codes, .inl (cI, 2160, .inl t_codes))] sz) := by
  refine Met.ofW (cc := cX0_add) (maxL := 4) (ret := none) (by decide) rfl ?_
  intro p e s m args below meth c s₁ B hml hv
  obtain ⟨rfl, hsz, hP, hK, hN, hZ, hD0⟩ := hv
  have hx := B.exec
  have hb := B.bytes
  have hr := B.returns
  have hts := atoms_spec (ws := wsX0_add) B.pre
  have hown : s.vm.findClass RX0 = some m.cls := findClass_of_methodNamed B.named
  have hlocks := B.notSynchronized
  subst hsz
  have hD := hD0.self (sz := s.heap.size)
  generalize hAe : va_A [(a_t, .inr (0, [.ref a_t_codes, .int t_doubts])), (a_t_codes, .inl (cI, 2160, .inl t_codes))] s.heap.size = A at hD hZ ⊢
  have hA : ∀ q : Nat, s.heap.size ≤ q → A q := fun q h => by rw [← hAe]; exact Or.inr h
  have hS : va_S A s.heap s.heap [] := va_S.rf
  have hl := lv_entry ([.ref a_t, .int x1, .int x2, .int x3]) (n := 4) (Nat.le_of_ble_eq_true rfl)
  rw [lg_entry_eq]
  generalize (lg_sl ([.ref a_t, .int x1, .int x2, .int x3]) ++ List.replicate (4 - (lg_sl ([.ref a_t, .int x1, .int x2, .int x3])).length) Slot.unset).toArray = ls at hl ⊢
  have hl : lv_has ls 4 [(0, .ref a_t), (1, .int x1), (2, .int x2), (3, .int x3)] := hl
  unfold fX0_add at h
  refine lv_aload_n hx hb dX0_add_0 rfl (lv_at hl 0 rfl) ?_
  refine va_get (D := D) (ci := 0) (C := RX0) (T := TX0) (N := 2) hx hb hts qX0_add_X0 hown hK hP 0 rfl rfl 1 (by decide) (hts _ kX0_add_0) (fun _ h9 => h9) rfl dX0_add_1 ?_
  refine lv_if_lt (tgt := 50) hx hb dX0_add_4 (by decide) (fun c1 => ?_) (fun c1 => ?_)
  · have h := zz_t h c1
    obtain ⟨j0_, g_⟩ := Prod.mk.inj (Option.some.inj h)
    have j1_ := g_
    subst j0_
    subst j1_
    exact W.vret hx hb hr (fun t ht hW => ⟨⟨(), rfl, trivial, zPost.of hP hD hK ht hW [0, 1] rfl rfl rfl⟩, hS.F ht⟩) hS.2.2 dX0_add_50
  · have h := zz_f h c1
    refine lv_aload_n hx hb dX0_add_7 rfl (lv_at hl 0 rfl) ?_
    refine va_get (D := D) (ci := 0) (C := RX0) (T := TX0) (N := 2) hx hb hts qX0_add_X0 hown hK hP 0 rfl rfl 1 (by decide) (hts _ kX0_add_0) (fun _ h9 => h9) rfl dX0_add_8 ?_
    refine lv_aload_n hx hb dX0_add_11 rfl (lv_at hl 0 rfl) ?_
    refine va_get (D := D) (ci := 0) (C := RX0) (T := TX0) (N := 2) hx hb hts qX0_add_X0 hown hK hP 0 rfl rfl 0 (by decide) (hts _ kX0_add_2) (fun _ h9 => h9) rfl dX0_add_12 ?_
    refine va_alen (v := (nI 2160)) hx hb hK hP 1 1 rfl rfl rfl dX0_add_15 ?_
    refine lv_icmp_ge (tgt := 50) hx hb dX0_add_16 (by decide) (fun c2 => ?_) (fun c2 => ?_)
    · have h := zz_t h c2
      obtain ⟨j0_, g_⟩ := Prod.mk.inj (Option.some.inj h)
      have j1_ := g_
      subst j0_
      subst j1_
      exact W.vret hx hb hr (fun t ht hW => ⟨⟨(), rfl, trivial, zPost.of hP hD hK ht hW [0, 1] rfl rfl rfl⟩, hS.F ht⟩) hS.2.2 dX0_add_50
    · have h := zz_f h c2
      refine lv_aload_n hx hb dX0_add_19 rfl (lv_at hl 0 rfl) ?_
      refine va_get (D := D) (ci := 0) (C := RX0) (T := TX0) (N := 2) hx hb hts qX0_add_X0 hown hK hP 0 rfl rfl 0 (by decide) (hts _ kX0_add_2) (fun _ h9 => h9) rfl dX0_add_20 ?_
      refine lv_aload_n hx hb dX0_add_23 rfl (lv_at hl 0 rfl) ?_
      refine va_get (D := D) (ci := 0) (C := RX0) (T := TX0) (N := 2) hx hb hts qX0_add_X0 hown hK hP 0 rfl rfl 1 (by decide) (hts _ kX0_add_0) (fun _ h9 => h9) rfl dX0_add_24 ?_
      refine lv_iload_n hx hb dX0_add_27 rfl (lv_at hl 1 rfl) ?_
      refine lv_bipush (v := (nI 12)) hx hb dX0_add_28 rfl ?_
      refine lv_imul hx hb dX0_add_30 ?_
      refine lv_iload_n hx hb dX0_add_31 rfl (lv_at hl 2 rfl) ?_
      refine lv_iadd hx hb dX0_add_32 ?_
      refine lv_iconst (v := (nI 3)) hx hb dX0_add_33 rfl ?_
      refine lv_imul hx hb dX0_add_34 ?_
      refine lv_iload_n hx hb dX0_add_35 rfl (lv_at hl 3 rfl) ?_
      refine lv_iadd hx hb dX0_add_36 ?_
      refine lv_iconst (v := (nI 1)) hx hb dX0_add_37 rfl ?_
      refine lv_isub hx hb dX0_add_38 ?_
      obtain ⟨i3, h⟩ := zz_i h
      refine va_iast hx hb hK hP hD hS 1 1 rfl rfl i3 dX0_add_39 (fun H locs hP hD hS => ?_)
      have hP : va_P D vwCl [(a_t, .inr (0, [.ref a_t_codes, .int t_doubts])), (a_t_codes, .inl (cI, 2160, .inl (upd t_codes (t_doubts).toNatClampNeg (((((x1 * (nI 12)) + x2) * (nI 3)) + x3) - (nI 1)))))] H := hP
      have hD : va_D A [(a_t, .inr (0, [.ref a_t_codes, .int t_doubts])), (a_t_codes, .inl (cI, 2160, .inl (upd t_codes (t_doubts).toNatClampNeg (((((x1 * (nI 12)) + x2) * (nI 3)) + x3) - (nI 1)))))] := hD
      refine lv_aload_n hx hb dX0_add_40 rfl (lv_at hl 0 rfl) ?_
      refine lv_dup hx hb dX0_add_41 rfl ?_
      refine va_get (D := D) (ci := 0) (C := RX0) (T := TX0) (N := 2) hx hb hts qX0_add_X0 hown hK hP 0 rfl rfl 1 (by decide) (hts _ kX0_add_0) (fun _ h9 => h9) rfl dX0_add_42 ?_
      refine lv_iconst (v := (nI 1)) hx hb dX0_add_45 rfl ?_
      refine lv_iadd hx hb dX0_add_46 ?_
      refine va_put (D := D) (ci := 0) (ty := .int) (C := RX0) (T := TX0) (N := 2) hx hb hts qX0_add_X0 tyX0 tyX0_ok nmX0 hown hK hP hD hS 0 rfl rfl 1 (by decide) (hts _ kX0_add_0) (fun _ h9 => h9) rfl (by decide +kernel) rfl (by first | rfl | exact zz_fit) (Nat.le_of_ble_eq_true rfl) dX0_add_47 (fun H locs hP hD hS => ?_)
      have hP : va_P D vwCl [(a_t, .inr (0, [.ref a_t_codes, .int (t_doubts + (nI 1))])), (a_t_codes, .inl (cI, 2160, .inl (upd t_codes (t_doubts).toNatClampNeg (((((x1 * (nI 12)) + x2) * (nI 3)) + x3) - (nI 1)))))] H := hP
      have hD : va_D A [(a_t, .inr (0, [.ref a_t_codes, .int (t_doubts + (nI 1))])), (a_t_codes, .inl (cI, 2160, .inl (upd t_codes (t_doubts).toNatClampNeg (((((x1 * (nI 12)) + x2) * (nI 3)) + x3) - (nI 1)))))] := hD
      obtain ⟨j0_, g_⟩ := Prod.mk.inj (Option.some.inj h)
      have j1_ := g_
      subst j0_
      subst j1_
      exact W.vret hx hb hr (fun t ht hW => ⟨⟨(), rfl, trivial, zPost.of hP hD hK ht hW [0, 1] rfl rfl rfl⟩, hS.F ht⟩) hS.2.2 dX0_add_50
/-! RunDesk$Trail.seenAhead -/
theorem dX8_seenAhead_0 : decode cX8_seenAhead 0 = .ok (.iload_n 1, 1) := by decide +kernel
theorem dX8_seenAhead_1 : decode cX8_seenAhead 1 = .ok (.iconst 1, 1) := by decide +kernel
theorem dX8_seenAhead_2 : decode cX8_seenAhead 2 = .ok (.isub, 1) := by decide +kernel
theorem dX8_seenAhead_3 : decode cX8_seenAhead 3 = .ok (.istore_n 2, 1) := by decide +kernel
theorem dX8_seenAhead_4 : decode cX8_seenAhead 4 = .ok (.iload_n 2, 1) := by decide +kernel
theorem dX8_seenAhead_5 : decode cX8_seenAhead 5 = .ok (.ifCond .lt 19, 3) := by decide +kernel
theorem dX8_seenAhead_8 : decode cX8_seenAhead 8 = .ok (.aload_n 0, 1) := by decide +kernel
theorem dX8_seenAhead_9 : decode cX8_seenAhead 9 = .ok (.iload_n 2, 1) := by decide +kernel
theorem dX8_seenAhead_10 : decode cX8_seenAhead 10 = .ok (.invokevirtual 69, 3) := by decide +kernel
theorem dX8_seenAhead_13 : decode cX8_seenAhead 13 = .ok (.ifCond .eq 5, 3) := by decide +kernel
theorem dX8_seenAhead_16 : decode cX8_seenAhead 16 = .ok (.iload_n 2, 1) := by decide +kernel
theorem dX8_seenAhead_17 : decode cX8_seenAhead 17 = .ok (.ireturn, 1) := by decide +kernel
theorem dX8_seenAhead_18 : decode cX8_seenAhead 18 = .ok (.iinc 2 (-1), 3) := by decide +kernel
theorem dX8_seenAhead_21 : decode cX8_seenAhead 21 = .ok (.goto (-17), 3) := by decide +kernel
theorem dX8_seenAhead_24 : decode cX8_seenAhead 24 = .ok (.iconst (-1), 1) := by decide +kernel
theorem dX8_seenAhead_25 : decode cX8_seenAhead 25 = .ok (.ireturn, 1) := by decide +kernel
set_option maxRecDepth 20000 in
theorem ggX8_seenAhead_X8_isSeen : GoodIn wsX8_seenAhead wsX8_isSeen := goodIn_sub (List.forall_mem_cons.mpr ⟨List.mem_cons_of_mem _ (List.mem_append_left _ (List.mem_of_getElem? (i := 4) rfl)), (List.forall_mem_append.mpr ⟨(List.forall_mem_cons.mpr ⟨List.mem_cons_of_mem _ (List.mem_append_left _ (List.mem_of_getElem? (i := 5) rfl)), (List.forall_mem_cons.mpr ⟨List.mem_cons_of_mem _ (List.mem_append_left _ (List.mem_of_getElem? (i := 6) rfl)), (List.forall_mem_cons.mpr ⟨List.mem_cons_of_mem _ (List.mem_append_left _ (List.mem_of_getElem? (i := 7) rfl)), (List.forall_mem_cons.mpr ⟨List.mem_cons_of_mem _ (List.mem_append_left _ (List.mem_of_getElem? (i := 3) rfl)), (List.forall_mem_cons.mpr ⟨List.mem_cons_of_mem _ (List.mem_append_left _ (List.mem_of_getElem? (i := 8) rfl)), (List.forall_mem_cons.mpr ⟨List.mem_cons_of_mem _ (List.mem_append_left _ (List.mem_of_getElem? (i := 9) rfl)), (List.forall_mem_cons.mpr ⟨List.mem_cons_of_mem _ (List.mem_append_left _ (List.mem_of_getElem? (i := 10) rfl)), (fun _ h => nomatch h)⟩)⟩)⟩)⟩)⟩)⟩)⟩), (fun _ h => List.mem_cons_of_mem _ (List.mem_append_right _ (h)))⟩)⟩) (by decide +kernel)
set_option maxRecDepth 20000 in
theorem gX8_seenAhead_X8_isSeen : GoodIn wsX8_seenAhead (wsV RX8 69 RX8 yX8_isSeen wsX8_isSeen) := goodIn_app (goodIn_of _ (by decide +kernel)) ggX8_seenAhead_X8_isSeen
set_option maxHeartbeats 4000000 in
set_option maxRecDepth 100000 in
theorem mX8_seenAhead (l : Launch) (D : va_G) (cB cI cZ : ClassId) (a_t : Nat) (a_t_ticks : Nat) (a_t_places : Nat) (t_mats : Int32) (t_least : Int32) (t_greatest : Int32) (t_ticks : Nat → Int32) (sz : Nat) (x1 : Int32) (N : Nat) (r0 : Int32) (h : fX8_seenAhead N t_mats t_ticks x1 = some (r0)) : Met l yX8_seenAhead wsX8_seenAhead ({ frames := 2, cells := 0, slots := 0, locals := 42 } : Room) (va_Pc [.ref a_t, .int x1] (zPre D (zT cB cI cZ) [(a_t, .inr (8, [.ref a_t_ticks, .ref a_t_places, .int t_mats, .int t_least, .int t_greatest])), (a_t_ticks, .inl (cI, 12, .inl t_ticks))] sz)) (zQi r0 D (zT cB cI cZ) [(a_t, .inr (8, [.ref a_t_ticks, .ref a_t_places, .int t_mats, .int t_least, .int t_greatest])), (a_t_ticks, .inl (cI, 12, .inl t_ticks))] (va_A [(a_t, .inr (8, [.ref a_t_ticks, .ref a_t_places, .int t_mats, .int t_least, .int t_greatest])), (a_t_ticks, .inl (cI, 12, .inl t_ticks))] sz)) 0 0 (va_A [(a_t, .inr (8, [.ref a_t_ticks, .ref a_t_places, .int t_mats, .int t_least, .int t_greatest])), (a_t_ticks, .inl (cI, 12, .inl t_ticks))] sz) := by
  refine Met.ofW (cc := cX8_seenAhead) (maxL := 3) (ret := (some .int)) (by decide) rfl ?_
  intro p e s m args below meth c s₁ B hml hv
  obtain ⟨rfl, hsz, hP, hK, hN, hZ, hD0⟩ := hv
  have hx := B.exec
  have hb := B.bytes
  have hr := B.returns
  have hts := atoms_spec (ws := wsX8_seenAhead) B.pre
  have hown : s.vm.findClass RX8 = some m.cls := findClass_of_methodNamed B.named
  have hlocks := B.notSynchronized
  subst hsz
  have hD := hD0.self (sz := s.heap.size)
  generalize hAe : va_A [(a_t, .inr (8, [.ref a_t_ticks, .ref a_t_places, .int t_mats, .int t_least, .int t_greatest])), (a_t_ticks, .inl (cI, 12, .inl t_ticks))] s.heap.size = A at hD hZ ⊢
  have hA : ∀ q : Nat, s.heap.size ≤ q → A q := fun q h => by rw [← hAe]; exact Or.inr h
  have hS : va_S A s.heap s.heap [] := va_S.rf
  have hl := lv_entry ([.ref a_t, .int x1]) (n := 3) (Nat.le_of_ble_eq_true rfl)
  rw [lg_entry_eq]
  generalize (lg_sl ([.ref a_t, .int x1]) ++ List.replicate (3 - (lg_sl ([.ref a_t, .int x1])).length) Slot.unset).toArray = ls at hl ⊢
  have hl : lv_has ls 3 [(0, .ref a_t), (1, .int x1)] := hl
  unfold fX8_seenAhead at h
  refine lv_iload_n hx hb dX8_seenAhead_0 rfl (lv_at hl 1 rfl) ?_
  refine lv_iconst (v := (nI 1)) hx hb dX8_seenAhead_1 rfl ?_
  refine lv_isub hx hb dX8_seenAhead_2 ?_
  refine lv_istore_n (lv' := [(2, .int (x1 - (nI 1))), (0, .ref a_t), (1, .int x1)]) hx hb dX8_seenAhead_3 rfl hl (by decide) rfl (fun ls hl => ?_)
  have X4_24 : ∀ (v2_4 : Int32) (H : Heap) (locs : List Loc) (ls : Array Slot), some ((-1 : Int32)) = some (r0) → va_P D vwCl [(a_t, .inr (8, [.ref a_t_ticks, .ref a_t_places, .int t_mats, .int t_least, .int t_greatest])), (a_t_ticks, .inl (cI, 12, .inl t_ticks))] H → va_D A [(a_t, .inr (8, [.ref a_t_ticks, .ref a_t_places, .int t_mats, .int t_least, .int t_greatest])), (a_t_ticks, .inl (cI, 12, .inl t_ticks))] → va_S A s.heap H locs → lv_has ls 3 [(2, .int v2_4), (0, .ref a_t), (1, .int x1)] → W p l e (headSpec wsX8_seenAhead ({ frames := 2, cells := 0, slots := 0, locals := 42 } : Room)).room s m #[Value.ref a_t, Value.int x1] below meth c H locs 0 0 (MQ below (zQi r0 D (zT cB cI cZ) [(a_t, .inr (8, [.ref a_t_ticks, .ref a_t_places, .int t_mats, .int t_least, .int t_greatest])), (a_t_ticks, .inl (cI, 12, .inl t_ticks))] A) #[Value.ref a_t, Value.int x1] s 0 0 A) (F0 m 24 ls []) := by
    intro v2_4 H locs ls h hP hD hS hl
    refine lv_iconst (v := (-1 : Int32)) hx hb dX8_seenAhead_24 rfl ?_
    have j0_ := Option.some.inj h
    subst j0_
    exact W.iret (v := (-1 : Int32)) hx hb hr (fun t ht hW => ⟨⟨_, (), rfl, rfl, zPost.of hP hD hK ht hW [0, 1] rfl rfl rfl⟩, hS.F ht⟩) hS.2.2 dX8_seenAhead_25
  have L4 : ∀ (n : Nat) (v2_4 : Int32) (H : Heap) (locs : List Loc) (ls : Array Slot), fX8_seenAhead_L4 t_mats t_ticks (fun (v2_4 : Int32) => some ((-1 : Int32))) n v2_4 = some (r0) → va_P D vwCl [(a_t, .inr (8, [.ref a_t_ticks, .ref a_t_places, .int t_mats, .int t_least, .int t_greatest])), (a_t_ticks, .inl (cI, 12, .inl t_ticks))] H → va_D A [(a_t, .inr (8, [.ref a_t_ticks, .ref a_t_places, .int t_mats, .int t_least, .int t_greatest])), (a_t_ticks, .inl (cI, 12, .inl t_ticks))] → va_S A s.heap H locs → lv_has ls 3 [(2, .int v2_4), (0, .ref a_t), (1, .int x1)] → W p l e (headSpec wsX8_seenAhead ({ frames := 2, cells := 0, slots := 0, locals := 42 } : Room)).room s m #[Value.ref a_t, Value.int x1] below meth c H locs 0 0 (MQ below (zQi r0 D (zT cB cI cZ) [(a_t, .inr (8, [.ref a_t_ticks, .ref a_t_places, .int t_mats, .int t_least, .int t_greatest])), (a_t_ticks, .inl (cI, 12, .inl t_ticks))] A) #[Value.ref a_t, Value.int x1] s 0 0 A) (F0 m 4 ls []) := by
    intro n
    induction n with
    | zero => intro _ H locs ls h hP hD hS hl; cases h
    | succ n4 ih4 =>
      intro v2_4 H locs ls h hP hD hS hl
      rw [fX8_seenAhead_L4.eq_2] at h
      refine lv_iload_n hx hb dX8_seenAhead_4 rfl (lv_at hl 0 rfl) ?_
      refine lv_if_lt (tgt := 24) hx hb dX8_seenAhead_5 (by decide) (fun c1 => ?_) (fun c1 => ?_)
      · have h := zz_t h c1
        exact X4_24 v2_4 _ _ _ h (hP.sub [0, 1] rfl) (hD.sub [0, 1] rfl rfl) hS (lv_sub hl [0, 1, 2] rfl)
      · have h := zz_f h c1
        refine lv_aload_n hx hb dX8_seenAhead_8 rfl (lv_at hl 1 rfl) ?_
        refine lv_iload_n hx hb dX8_seenAhead_9 rfl (lv_at hl 0 rfl) ?_
        obtain ⟨b2, e3, h⟩ := zz_b h
        refine zVi (As := [.int v2_4]) (rest := []) (C := RX8) (wr := []) [0, 1] [] 0 ⟨hx, hb, hml, hown, hts⟩ (mX8_isSeen l D cB cI cZ a_t a_t_ticks a_t_places t_mats t_least t_greatest t_ticks H.size v2_4 b2 e3) (cwV 1 hts gX8_seenAhead_X8_isSeen rfl rfl rfl (by decide +kernel) ⟨Nat.le_of_ble_eq_true rfl, Nat.le_of_ble_eq_true rfl⟩) hK hN hZ hP hD hS hA rfl rfl rfl rfl rfl rfl rfl rfl hl.1 rfl (lv_room (Nat.le_of_ble_eq_true rfl)) dX8_seenAhead_10 ⟨Nat.le_of_ble_eq_true rfl, Nat.le_of_ble_eq_true rfl⟩ (fun H locs hP hD hS => ?_)
        have hP : va_P D vwCl [(a_t, .inr (8, [.ref a_t_ticks, .ref a_t_places, .int t_mats, .int t_least, .int t_greatest])), (a_t_ticks, .inl (cI, 12, .inl t_ticks))] H := hP
        have hD : va_D A [(a_t, .inr (8, [.ref a_t_ticks, .ref a_t_places, .int t_mats, .int t_least, .int t_greatest])), (a_t_ticks, .inl (cI, 12, .inl t_ticks))] := hD
        refine lv_if_eq (tgt := 18) hx hb dX8_seenAhead_13 (by decide) (fun c4 => ?_) (fun c4 => ?_)
        · have h := zz_t h c4
          refine lv_iinc (v := (v2_4 + (-1 : Int32))) (lv' := [(2, .int (v2_4 + (-1 : Int32))), (0, .ref a_t), (1, .int x1)]) hx hb dX8_seenAhead_18 hl (k := 0) rfl rfl (by decide) rfl (fun ls hl => ?_)
          refine lv_goto (tgt := 4) hx hb dX8_seenAhead_21 (by decide) ?_
          exact ih4 (v2_4 + (-1 : Int32)) _ _ _ h (hP.sub [0, 1] rfl) (hD.sub [0, 1] rfl rfl) hS (lv_sub hl [0, 1, 2] rfl)
        · have h := zz_f h c4
          refine lv_iload_n hx hb dX8_seenAhead_16 rfl (lv_at hl 0 rfl) ?_
          have j0_ := Option.some.inj h
          subst j0_
          exact W.iret (v := v2_4) hx hb hr (fun t ht hW => ⟨⟨_, (), rfl, rfl, zPost.of hP hD hK ht hW [0, 1] rfl rfl rfl⟩, hS.F ht⟩) hS.2.2 dX8_seenAhead_17
  exact L4 N (x1 - (nI 1)) _ _ _ h hP hD hS hl
/-! RunDesk$Trail.placeAt -/
theorem dX8_placeAt_0 : decode cX8_placeAt 0 = .ok (.iload_n 1, 1) := by decide +kernel
theorem dX8_placeAt_1 : decode cX8_placeAt 1 = .ok (.ifCond .lt 26, 3) := by decide +kernel
theorem dX8_placeAt_4 : decode cX8_placeAt 4 = .ok (.iload_n 1, 1) := by decide +kernel
theorem dX8_placeAt_5 : decode cX8_placeAt 5 = .ok (.aload_n 0, 1) := by decide +kernel
theorem dX8_placeAt_6 : decode cX8_placeAt 6 = .ok (.getfield 54, 3) := by decide +kernel
theorem dX8_placeAt_9 : decode cX8_placeAt 9 = .ok (.if_icmp .ge 18, 3) := by decide +kernel
theorem dX8_placeAt_12 : decode cX8_placeAt 12 = .ok (.iload_n 1, 1) := by decide +kernel
theorem dX8_placeAt_13 : decode cX8_placeAt 13 = .ok (.bipush 12, 2) := by decide +kernel
theorem dX8_placeAt_15 : decode cX8_placeAt 15 = .ok (.if_icmp .ge 12, 3) := by decide +kernel
theorem dX8_placeAt_18 : decode cX8_placeAt 18 = .ok (.aload_n 0, 1) := by decide +kernel
theorem dX8_placeAt_19 : decode cX8_placeAt 19 = .ok (.getfield 15, 3) := by decide +kernel
theorem dX8_placeAt_22 : decode cX8_placeAt 22 = .ok (.iload_n 1, 1) := by decide +kernel
theorem dX8_placeAt_23 : decode cX8_placeAt 23 = .ok (.iaload, 1) := by decide +kernel
theorem dX8_placeAt_24 : decode cX8_placeAt 24 = .ok (.goto 4, 3) := by decide +kernel
theorem dX8_placeAt_27 : decode cX8_placeAt 27 = .ok (.iconst (-1), 1) := by decide +kernel
theorem dX8_placeAt_28 : decode cX8_placeAt 28 = .ok (.ireturn, 1) := by decide +kernel
theorem kX8_placeAt_0 : (.fieldLink RX8 54 "RunDesk$Trail" "mats" "I" : Cond) ∈ wsX8_placeAt := List.mem_of_getElem? (i := 1) (by decide +kernel)
theorem qX8_placeAt_X8 : ∀ w ∈ wsX80, w ∈ wsX8_placeAt := fun _ h => List.mem_cons_of_mem _ (List.mem_append_right _ (h))
theorem kX8_placeAt_2 : (.fieldLink RX8 15 "RunDesk$Trail" "places" "[I" : Cond) ∈ wsX8_placeAt := List.mem_of_getElem? (i := 2) (by decide +kernel)
set_option maxHeartbeats 4000000 in
set_option maxRecDepth 100000 in
theorem mX8_placeAt (l : Launch) (D : va_G) (cB cI cZ : ClassId) (a_t : Nat) (a_t_ticks : Nat) (a_t_places : Nat) (t_mats : Int32) (t_least : Int32) (t_greatest : Int32) (t_places : Nat → Int32) (sz : Nat) (x1 : Int32) (r0 : Int32) (h : fX8_placeAt t_mats t_places x1 = some (r0)) : Met l yX8_placeAt wsX8_placeAt ({ frames := 0, cells := 0, slots := 0, locals := 0 } : Room) (va_Pc [.ref a_t, .int x1] (zPre D (zT cB cI cZ) [(a_t, .inr (8, [.ref a_t_ticks, .ref a_t_places, .int t_mats, .int t_least, .int t_greatest])), (a_t_places, .inl (cI, 12, .inl t_places))] sz)) (zQi r0 D (zT cB cI cZ) [(a_t, .inr (8, [.ref a_t_ticks, .ref a_t_places, .int t_mats, .int t_least, .int t_greatest])), (a_t_places, .inl (cI, 12, .inl t_places))] (va_A [(a_t, .inr (8, [.ref a_t_ticks, .ref a_t_places, .int t_mats, .int t_least, .int t_greatest])), (a_t_places, .inl (cI, 12, .inl t_places))] sz)) 0 0 (va_A [(a_t, .inr (8, [.ref a_t_ticks, .ref a_t_places, .int t_mats, .int t_least, .int t_greatest])), (a_t_places, .inl (cI, 12, .inl t_places))] sz) := by
  refine Met.ofW (cc := cX8_placeAt) (maxL := 2) (ret := (some .int)) (by decide) rfl ?_
  intro p e s m args below meth c s₁ B hml hv
  obtain ⟨rfl, hsz, hP, hK, hN, hZ, hD0⟩ := hv
  have hx := B.exec
  have hb := B.bytes
  have hr := B.returns
  have hts := atoms_spec (ws := wsX8_placeAt) B.pre
  have hown : s.vm.findClass RX8 = some m.cls := findClass_of_methodNamed B.named
  have hlocks := B.notSynchronized
  subst hsz
  have hD := hD0.self (sz := s.heap.size)
  generalize hAe : va_A [(a_t, .inr (8, [.ref a_t_ticks, .ref a_t_places, .int t_mats, .int t_least, .int t_greatest])), (a_t_places, .inl (cI, 12, .inl t_places))] s.heap.size = A at hD hZ ⊢
  have hA : ∀ q : Nat, s.heap.size ≤ q → A q := fun q h => by rw [← hAe]; exact Or.inr h
  have hS : va_S A s.heap s.heap [] := va_S.rf
  have hl := lv_entry ([.ref a_t, .int x1]) (n := 2) (Nat.le_of_ble_eq_true rfl)
  rw [lg_entry_eq]
  generalize (lg_sl ([.ref a_t, .int x1]) ++ List.replicate (2 - (lg_sl ([.ref a_t, .int x1])).length) Slot.unset).toArray = ls at hl ⊢
  have hl : lv_has ls 2 [(0, .ref a_t), (1, .int x1)] := hl
  unfold fX8_placeAt at h
  refine lv_iload_n hx hb dX8_placeAt_0 rfl (lv_at hl 1 rfl) ?_
  refine lv_if_lt (tgt := 27) hx hb dX8_placeAt_1 (by decide) (fun c1 => ?_) (fun c1 => ?_)
  · have h := zz_t h c1
    refine lv_iconst (v := (-1 : Int32)) hx hb dX8_placeAt_27 rfl ?_
    have j0_ := Option.some.inj h
    subst j0_
    exact W.iret (v := (-1 : Int32)) hx hb hr (fun t ht hW => ⟨⟨_, (), rfl, rfl, zPost.of hP hD hK ht hW [0, 1] rfl rfl rfl⟩, hS.F ht⟩) hS.2.2 dX8_placeAt_28
  · have h := zz_f h c1
    refine lv_iload_n hx hb dX8_placeAt_4 rfl (lv_at hl 1 rfl) ?_
    refine lv_aload_n hx hb dX8_placeAt_5 rfl (lv_at hl 0 rfl) ?_
    refine va_get (D := D) (ci := 8) (C := RX8) (T := TX8) (N := 5) hx hb hts qX8_placeAt_X8 hown hK hP 0 rfl rfl 2 (by decide) (hts _ kX8_placeAt_0) (fun _ h9 => h9) rfl dX8_placeAt_6 ?_
    refine lv_icmp_ge (tgt := 27) hx hb dX8_placeAt_9 (by decide) (fun c2 => ?_) (fun c2 => ?_)
    · have h := zz_t h c2
      refine lv_iconst (v := (-1 : Int32)) hx hb dX8_placeAt_27 rfl ?_
      have j0_ := Option.some.inj h
      subst j0_
      exact W.iret (v := (-1 : Int32)) hx hb hr (fun t ht hW => ⟨⟨_, (), rfl, rfl, zPost.of hP hD hK ht hW [0, 1] rfl rfl rfl⟩, hS.F ht⟩) hS.2.2 dX8_placeAt_28
    · have h := zz_f h c2
      refine lv_iload_n hx hb dX8_placeAt_12 rfl (lv_at hl 1 rfl) ?_
      refine lv_bipush (v := (nI 12)) hx hb dX8_placeAt_13 rfl ?_
      refine lv_icmp_ge (tgt := 27) hx hb dX8_placeAt_15 (by decide) (fun c3 => ?_) (fun c3 => ?_)
      · have h := zz_t h c3
        refine lv_iconst (v := (-1 : Int32)) hx hb dX8_placeAt_27 rfl ?_
        have j0_ := Option.some.inj h
        subst j0_
        exact W.iret (v := (-1 : Int32)) hx hb hr (fun t ht hW => ⟨⟨_, (), rfl, rfl, zPost.of hP hD hK ht hW [0, 1] rfl rfl rfl⟩, hS.F ht⟩) hS.2.2 dX8_placeAt_28
      · have h := zz_f h c3
        refine lv_aload_n hx hb dX8_placeAt_18 rfl (lv_at hl 0 rfl) ?_
        refine va_get (D := D) (ci := 8) (C := RX8) (T := TX8) (N := 5) hx hb hts qX8_placeAt_X8 hown hK hP 0 rfl rfl 1 (by decide) (hts _ kX8_placeAt_2) (fun _ h9 => h9) rfl dX8_placeAt_19 ?_
        refine lv_iload_n hx hb dX8_placeAt_22 rfl (lv_at hl 1 rfl) ?_
        obtain ⟨i4, h⟩ := zz_i h
        refine va_iald hx hb hK hP 1 1 rfl rfl i4 dX8_placeAt_23 ?_
        refine lv_goto (tgt := 28) hx hb dX8_placeAt_24 (by decide) ?_
        have j0_ := Option.some.inj h
        subst j0_
        exact W.iret (v := (t_places (x1).toNatClampNeg)) hx hb hr (fun t ht hW => ⟨⟨_, (), rfl, rfl, zPost.of hP hD hK ht hW [0, 1] rfl rfl rfl⟩, hS.F ht⟩) hS.2.2 dX8_placeAt_28
/-! RunDesk.secondsUp -/
theorem dX10_secondsUp_0 : decode cX10_secondsUp 0 = .ok (.iload_n 0, 1) := by decide +kernel
theorem dX10_secondsUp_1 : decode cX10_secondsUp 1 = .ok (.iload_n 1, 1) := by decide +kernel
theorem dX10_secondsUp_2 : decode cX10_secondsUp 2 = .ok (.imul, 1) := by decide +kernel
theorem dX10_secondsUp_3 : decode cX10_secondsUp 3 = .ok (.sipush 999, 3) := by decide +kernel
theorem dX10_secondsUp_6 : decode cX10_secondsUp 6 = .ok (.iadd, 1) := by decide +kernel
theorem dX10_secondsUp_7 : decode cX10_secondsUp 7 = .ok (.sipush 1000, 3) := by decide +kernel
theorem dX10_secondsUp_10 : decode cX10_secondsUp 10 = .ok (.idiv, 1) := by decide +kernel
theorem dX10_secondsUp_11 : decode cX10_secondsUp 11 = .ok (.ireturn, 1) := by decide +kernel
set_option maxHeartbeats 4000000 in
set_option maxRecDepth 100000 in
theorem mX10_secondsUp (l : Launch) (D : va_G) (cB cI cZ : ClassId) (sz : Nat) (x1 : Int32) (x2 : Int32) (r0 : Int32) (h : fX10_secondsUp x1 x2 = some (r0)) : Met l yX10_secondsUp wsX10_secondsUp ({ frames := 0, cells := 0, slots := 0, locals := 0 } : Room) (va_Pc [.int x1, .int x2] (zPre D (zT cB cI cZ) [] sz)) (zQi r0 D (zT cB cI cZ) [] (va_A [] sz)) 0 0 (va_A [] sz) := by
  refine Met.ofW (cc := cX10_secondsUp) (maxL := 2) (ret := (some .int)) (by decide) rfl ?_
  intro p e s m args below meth c s₁ B hml hv
  obtain ⟨rfl, hsz, hP, hK, hN, hZ, hD0⟩ := hv
  have hx := B.exec
  have hb := B.bytes
  have hr := B.returns
  have hts := atoms_spec (ws := wsX10_secondsUp) B.pre
  have hown : s.vm.findClass RX10 = some m.cls := findClass_of_methodNamed B.named
  have hlocks := B.notSynchronized
  subst hsz
  have hD := hD0.self (sz := s.heap.size)
  generalize hAe : va_A [] s.heap.size = A at hD hZ ⊢
  have hA : ∀ q : Nat, s.heap.size ≤ q → A q := fun q h => by rw [← hAe]; exact Or.inr h
  have hS : va_S A s.heap s.heap [] := va_S.rf
  have hl := lv_entry ([.int x1, .int x2]) (n := 2) (Nat.le_of_ble_eq_true rfl)
  rw [lg_entry_eq]
  generalize (lg_sl ([.int x1, .int x2]) ++ List.replicate (2 - (lg_sl ([.int x1, .int x2])).length) Slot.unset).toArray = ls at hl ⊢
  have hl : lv_has ls 2 [(0, .int x1), (1, .int x2)] := hl
  unfold fX10_secondsUp at h
  refine lv_iload_n hx hb dX10_secondsUp_0 rfl (lv_at hl 0 rfl) ?_
  refine lv_iload_n hx hb dX10_secondsUp_1 rfl (lv_at hl 1 rfl) ?_
  refine lv_imul hx hb dX10_secondsUp_2 ?_
  refine lv_sipush (v := (nI 999)) hx hb dX10_secondsUp_3 rfl ?_
  refine lv_iadd hx hb dX10_secondsUp_6 ?_
  refine lv_sipush (v := (nI 1000)) hx hb dX10_secondsUp_7 rfl ?_
  refine lv_idiv hx hb dX10_secondsUp_10 (by decide) ?_
  have j0_ := Option.some.inj h
  subst j0_
  exact W.iret (v := (((x1 * x2) + (nI 999)) / (nI 1000))) hx hb hr (fun t ht hW => ⟨⟨_, (), rfl, rfl, zPost.of hP hD hK ht hW [] rfl rfl rfl⟩, hS.F ht⟩) hS.2.2 dX10_secondsUp_11
/-! RunDesk$Trail.quickest -/
theorem dX8_quickest_0 : decode cX8_quickest 0 = .ok (.aload_n 0, 1) := by decide +kernel
theorem dX8_quickest_1 : decode cX8_quickest 1 = .ok (.iload_n 2, 1) := by decide +kernel
theorem dX8_quickest_2 : decode cX8_quickest 2 = .ok (.invokevirtual 73, 3) := by decide +kernel
theorem dX8_quickest_5 : decode cX8_quickest 5 = .ok (.aload_n 0, 1) := by decide +kernel
theorem dX8_quickest_6 : decode cX8_quickest 6 = .ok (.iload_n 1, 1) := by decide +kernel
theorem dX8_quickest_7 : decode cX8_quickest 7 = .ok (.invokevirtual 73, 3) := by decide +kernel
theorem dX8_quickest_10 : decode cX8_quickest 10 = .ok (.isub, 1) := by decide +kernel
theorem dX8_quickest_11 : decode cX8_quickest 11 = .ok (.aload_n 0, 1) := by decide +kernel
theorem dX8_quickest_12 : decode cX8_quickest 12 = .ok (.getfield 34, 3) := by decide +kernel
theorem dX8_quickest_15 : decode cX8_quickest 15 = .ok (.invokestatic 74, 3) := by decide +kernel
theorem dX8_quickest_18 : decode cX8_quickest 18 = .ok (.ireturn, 1) := by decide +kernel
set_option maxRecDepth 20000 in
theorem ggX8_quickest_X8_placeAt : GoodIn wsX8_quickest wsX8_placeAt := goodIn_sub (List.forall_mem_cons.mpr ⟨List.mem_cons_of_mem _ (List.mem_append_left _ (List.mem_of_getElem? (i := 5) rfl)), (List.forall_mem_append.mpr ⟨(List.forall_mem_cons.mpr ⟨List.mem_cons_of_mem _ (List.mem_append_left _ (List.mem_of_getElem? (i := 6) rfl)), (List.forall_mem_cons.mpr ⟨List.mem_cons_of_mem _ (List.mem_append_left _ (List.mem_of_getElem? (i := 7) rfl)), (fun _ h => nomatch h)⟩)⟩), (fun _ h => List.mem_cons_of_mem _ (List.mem_append_right _ (h)))⟩)⟩) (by decide +kernel)
set_option maxRecDepth 20000 in
theorem gX8_quickest_X8_placeAt : GoodIn wsX8_quickest (wsV RX8 73 RX8 yX8_placeAt wsX8_placeAt) := goodIn_app (goodIn_of _ (by decide +kernel)) ggX8_quickest_X8_placeAt
set_option maxRecDepth 20000 in
theorem ggX8_quickest_X10_secondsUp : GoodIn wsX8_quickest wsX10_secondsUp := goodIn_sub (List.forall_mem_cons.mpr ⟨List.mem_cons_of_mem _ (List.mem_append_left _ (List.mem_of_getElem? (i := 10) rfl)), (fun _ h => nomatch h)⟩) (by decide +kernel)
set_option maxRecDepth 20000 in
theorem gX8_quickest_X10_secondsUp_n74 : GoodIn wsX8_quickest (wsX10_secondsUp) := ggX8_quickest_X10_secondsUp
theorem kX8_quickest_0 : (.fieldLink RX8 34 "RunDesk$Trail" "least" "I" : Cond) ∈ wsX8_quickest := List.mem_of_getElem? (i := 1) (by decide +kernel)
theorem qX8_quickest_X8 : ∀ w ∈ wsX80, w ∈ wsX8_quickest := fun _ h => List.mem_cons_of_mem _ (List.mem_append_right _ (h))
theorem kX8_quickest_2 : (.initialized RX10 : Cond) ∈ wsX8_quickest := List.mem_of_getElem? (i := 10) (by decide +kernel)
theorem kX8_quickest_3 : (.static yX10_secondsUp : Cond) ∈ wsX8_quickest := List.mem_of_getElem? (i := 9) (by decide +kernel)
set_option maxHeartbeats 4000000 in
set_option maxRecDepth 100000 in
theorem mX8_quickest (l : Launch) (D : va_G) (cB cI cZ : ClassId) (a_t : Nat) (a_t_ticks : Nat) (a_t_places : Nat) (t_mats : Int32) (t_least : Int32) (t_greatest : Int32) (t_places : Nat → Int32) (sz : Nat) (x1 : Int32) (x2 : Int32) (r0 : Int32) (h : fX8_quickest t_least t_mats t_places x1 x2 = some (r0)) : Met l yX8_quickest wsX8_quickest ({ frames := 1, cells := 0, slots := 0, locals := 21 } : Room) (va_Pc [.ref a_t, .int x1, .int x2] (zPre D (zT cB cI cZ) [(a_t, .inr (8, [.ref a_t_ticks, .ref a_t_places, .int t_mats, .int t_least, .int t_greatest])), (a_t_places, .inl (cI, 12, .inl t_places))] sz)) (zQi r0 D (zT cB cI cZ) [(a_t, .inr (8, [.ref a_t_ticks, .ref a_t_places, .int t_mats, .int t_least, .int t_greatest])), (a_t_places, .inl (cI, 12, .inl t_places))] (va_A [(a_t, .inr (8, [.ref a_t_ticks, .ref a_t_places, .int t_mats, .int t_least, .int t_greatest])), (a_t_places, .inl (cI, 12, .inl t_places))] sz)) 0 0 (va_A [(a_t, .inr (8, [.ref a_t_ticks, .ref a_t_places, .int t_mats, .int t_least, .int t_greatest])), (a_t_places, .inl (cI, 12, .inl t_places))] sz) := by
  refine Met.ofW (cc := cX8_quickest) (maxL := 3) (ret := (some .int)) (by decide) rfl ?_
  intro p e s m args below meth c s₁ B hml hv
  obtain ⟨rfl, hsz, hP, hK, hN, hZ, hD0⟩ := hv
  have hx := B.exec
  have hb := B.bytes
  have hr := B.returns
  have hts := atoms_spec (ws := wsX8_quickest) B.pre
  have hown : s.vm.findClass RX8 = some m.cls := findClass_of_methodNamed B.named
  have hlocks := B.notSynchronized
  subst hsz
  have hD := hD0.self (sz := s.heap.size)
  generalize hAe : va_A [(a_t, .inr (8, [.ref a_t_ticks, .ref a_t_places, .int t_mats, .int t_least, .int t_greatest])), (a_t_places, .inl (cI, 12, .inl t_places))] s.heap.size = A at hD hZ ⊢
  have hA : ∀ q : Nat, s.heap.size ≤ q → A q := fun q h => by rw [← hAe]; exact Or.inr h
  have hS : va_S A s.heap s.heap [] := va_S.rf
  have hl := lv_entry ([.ref a_t, .int x1, .int x2]) (n := 3) (Nat.le_of_ble_eq_true rfl)
  rw [lg_entry_eq]
  generalize (lg_sl ([.ref a_t, .int x1, .int x2]) ++ List.replicate (3 - (lg_sl ([.ref a_t, .int x1, .int x2])).length) Slot.unset).toArray = ls at hl ⊢
  have hl : lv_has ls 3 [(0, .ref a_t), (1, .int x1), (2, .int x2)] := hl
  unfold fX8_quickest at h
  refine lv_aload_n hx hb dX8_quickest_0 rfl (lv_at hl 0 rfl) ?_
  refine lv_iload_n hx hb dX8_quickest_1 rfl (lv_at hl 2 rfl) ?_
  obtain ⟨r1, e2, h⟩ := zz_b h
  refine zVi (As := [.int x2]) (rest := []) (C := RX8) (wr := []) [0, 1] [] 0 ⟨hx, hb, hml, hown, hts⟩ (mX8_placeAt l D cB cI cZ a_t a_t_ticks a_t_places t_mats t_least t_greatest t_places s.heap.size x2 r1 e2) (cwV 1 hts gX8_quickest_X8_placeAt rfl rfl rfl (by decide +kernel) ⟨Nat.le_of_ble_eq_true rfl, Nat.le_of_ble_eq_true rfl⟩) hK hN hZ hP hD hS hA rfl rfl rfl rfl rfl rfl rfl rfl hl.1 rfl (lv_room (Nat.le_of_ble_eq_true rfl)) dX8_quickest_2 ⟨Nat.le_of_ble_eq_true rfl, Nat.le_of_ble_eq_true rfl⟩ (fun H locs hP hD hS => ?_)
  have hP : va_P D vwCl [(a_t, .inr (8, [.ref a_t_ticks, .ref a_t_places, .int t_mats, .int t_least, .int t_greatest])), (a_t_places, .inl (cI, 12, .inl t_places))] H := hP
  have hD : va_D A [(a_t, .inr (8, [.ref a_t_ticks, .ref a_t_places, .int t_mats, .int t_least, .int t_greatest])), (a_t_places, .inl (cI, 12, .inl t_places))] := hD
  refine lv_aload_n hx hb dX8_quickest_5 rfl (lv_at hl 0 rfl) ?_
  refine lv_iload_n hx hb dX8_quickest_6 rfl (lv_at hl 1 rfl) ?_
  obtain ⟨r3, e4, h⟩ := zz_b h
  refine zVi (As := [.int x1]) (rest := [.int r1]) (C := RX8) (wr := []) [0, 1] [] 0 ⟨hx, hb, hml, hown, hts⟩ (mX8_placeAt l D cB cI cZ a_t a_t_ticks a_t_places t_mats t_least t_greatest t_places H.size x1 r3 e4) (cwV 1 hts gX8_quickest_X8_placeAt rfl rfl rfl (by decide +kernel) ⟨Nat.le_of_ble_eq_true rfl, Nat.le_of_ble_eq_true rfl⟩) hK hN hZ hP hD hS hA rfl rfl rfl rfl rfl rfl rfl rfl hl.1 rfl (lv_room (Nat.le_of_ble_eq_true rfl)) dX8_quickest_7 ⟨Nat.le_of_ble_eq_true rfl, Nat.le_of_ble_eq_true rfl⟩ (fun H locs hP hD hS => ?_)
  have hP : va_P D vwCl [(a_t, .inr (8, [.ref a_t_ticks, .ref a_t_places, .int t_mats, .int t_least, .int t_greatest])), (a_t_places, .inl (cI, 12, .inl t_places))] H := hP
  have hD : va_D A [(a_t, .inr (8, [.ref a_t_ticks, .ref a_t_places, .int t_mats, .int t_least, .int t_greatest])), (a_t_places, .inl (cI, 12, .inl t_places))] := hD
  refine lv_isub hx hb dX8_quickest_10 ?_
  refine lv_aload_n hx hb dX8_quickest_11 rfl (lv_at hl 0 rfl) ?_
  refine va_get (D := D) (ci := 8) (C := RX8) (T := TX8) (N := 5) hx hb hts qX8_quickest_X8 hown hK hP 0 rfl rfl 3 (by decide) (hts _ kX8_quickest_0) (fun _ h9 => h9) rfl dX8_quickest_12 ?_
  obtain ⟨r5, e6, h⟩ := zz_b h
  refine zNi (As := [.int (r1 - r3), .int t_least]) (rest := []) (host := "RunDesk") (wr := [(a_t, .inr (8, [.ref a_t_ticks, .ref a_t_places, .int t_mats, .int t_least, .int t_greatest])), (a_t_places, .inl (cI, 12, .inl t_places))]) [] [0, 1] ⟨hx, hb, hml, hown, hts⟩ (mX10_secondsUp l D cB cI cZ H.size (r1 - r3) t_least r5 e6) ⟨va_cnB 2 hts gX8_quickest_X10_secondsUp_n74 rfl rfl rfl (hN _ (List.mem_of_getElem? (i := 30) rfl)) (hts _ kX8_quickest_2) (by decide +kernel) ⟨Nat.le_of_ble_eq_true rfl, Nat.le_of_ble_eq_true rfl⟩, (hts _ kX8_quickest_3), trivial⟩ hK hN hZ hP hD hS hA rfl rfl rfl rfl rfl rfl hl.1 rfl (lv_room (Nat.le_of_ble_eq_true rfl)) dX8_quickest_15 ⟨Nat.le_of_ble_eq_true rfl, Nat.le_of_ble_eq_true rfl⟩ (fun H locs hP hD hS => ?_)
  have hP : va_P D vwCl [(a_t, .inr (8, [.ref a_t_ticks, .ref a_t_places, .int t_mats, .int t_least, .int t_greatest])), (a_t_places, .inl (cI, 12, .inl t_places))] H := hP
  have hD : va_D A [(a_t, .inr (8, [.ref a_t_ticks, .ref a_t_places, .int t_mats, .int t_least, .int t_greatest])), (a_t_places, .inl (cI, 12, .inl t_places))] := hD
  have j0_ := Option.some.inj h
  subst j0_
  exact W.iret (v := r5) hx hb hr (fun t ht hW => ⟨⟨_, (), rfl, rfl, zPost.of hP hD hK ht hW [0, 1] rfl rfl rfl⟩, hS.F ht⟩) hS.2.2 dX8_quickest_18
/-! RunDesk$Trail.isTooQuick -/
theorem dX8_isTooQuick_0 : decode cX8_isTooQuick 0 = .ok (.aload_n 0, 1) := by decide +kernel
theorem dX8_isTooQuick_1 : decode cX8_isTooQuick 1 = .ok (.iload_n 1, 1) := by decide +kernel
theorem dX8_isTooQuick_2 : decode cX8_isTooQuick 2 = .ok (.invokevirtual 80, 3) := by decide +kernel
theorem dX8_isTooQuick_5 : decode cX8_isTooQuick 5 = .ok (.istore_n 2, 1) := by decide +kernel
theorem dX8_isTooQuick_6 : decode cX8_isTooQuick 6 = .ok (.iload_n 2, 1) := by decide +kernel
theorem dX8_isTooQuick_7 : decode cX8_isTooQuick 7 = .ok (.iconst (-1), 1) := by decide +kernel
theorem dX8_isTooQuick_8 : decode cX8_isTooQuick 8 = .ok (.if_icmp .eq 11, 3) := by decide +kernel
theorem dX8_isTooQuick_11 : decode cX8_isTooQuick 11 = .ok (.aload_n 0, 1) := by decide +kernel
theorem dX8_isTooQuick_12 : decode cX8_isTooQuick 12 = .ok (.iload_n 1, 1) := by decide +kernel
theorem dX8_isTooQuick_13 : decode cX8_isTooQuick 13 = .ok (.invokevirtual 69, 3) := by decide +kernel
theorem dX8_isTooQuick_16 : decode cX8_isTooQuick 16 = .ok (.ifCond .ne 5, 3) := by decide +kernel
theorem dX8_isTooQuick_19 : decode cX8_isTooQuick 19 = .ok (.iconst 0, 1) := by decide +kernel
theorem dX8_isTooQuick_20 : decode cX8_isTooQuick 20 = .ok (.ireturn, 1) := by decide +kernel
theorem dX8_isTooQuick_21 : decode cX8_isTooQuick 21 = .ok (.aload_n 0, 1) := by decide +kernel
theorem dX8_isTooQuick_22 : decode cX8_isTooQuick 22 = .ok (.iload_n 1, 1) := by decide +kernel
theorem dX8_isTooQuick_23 : decode cX8_isTooQuick 23 = .ok (.invokevirtual 66, 3) := by decide +kernel
theorem dX8_isTooQuick_26 : decode cX8_isTooQuick 26 = .ok (.aload_n 0, 1) := by decide +kernel
theorem dX8_isTooQuick_27 : decode cX8_isTooQuick 27 = .ok (.iload_n 2, 1) := by decide +kernel
theorem dX8_isTooQuick_28 : decode cX8_isTooQuick 28 = .ok (.invokevirtual 66, 3) := by decide +kernel
theorem dX8_isTooQuick_31 : decode cX8_isTooQuick 31 = .ok (.isub, 1) := by decide +kernel
theorem dX8_isTooQuick_32 : decode cX8_isTooQuick 32 = .ok (.aload_n 0, 1) := by decide +kernel
theorem dX8_isTooQuick_33 : decode cX8_isTooQuick 33 = .ok (.iload_n 2, 1) := by decide +kernel
theorem dX8_isTooQuick_34 : decode cX8_isTooQuick 34 = .ok (.iload_n 1, 1) := by decide +kernel
theorem dX8_isTooQuick_35 : decode cX8_isTooQuick 35 = .ok (.invokevirtual 83, 3) := by decide +kernel
theorem dX8_isTooQuick_38 : decode cX8_isTooQuick 38 = .ok (.if_icmp .ge 7, 3) := by decide +kernel
theorem dX8_isTooQuick_41 : decode cX8_isTooQuick 41 = .ok (.iconst 1, 1) := by decide +kernel
theorem dX8_isTooQuick_42 : decode cX8_isTooQuick 42 = .ok (.goto 4, 3) := by decide +kernel
theorem dX8_isTooQuick_45 : decode cX8_isTooQuick 45 = .ok (.iconst 0, 1) := by decide +kernel
theorem dX8_isTooQuick_46 : decode cX8_isTooQuick 46 = .ok (.ireturn, 1) := by decide +kernel
set_option maxRecDepth 20000 in
theorem ggX8_isTooQuick_X8_seenAhead : GoodIn wsX8_isTooQuick wsX8_seenAhead := goodIn_sub (List.forall_mem_cons.mpr ⟨List.mem_cons_of_mem _ (List.mem_append_left _ (List.mem_append_left _ (List.mem_of_getElem? (l := wsX8_isTooQuick_r1) (i := 4) rfl))), (List.forall_mem_append.mpr ⟨(List.forall_mem_cons.mpr ⟨List.mem_cons_of_mem _ (List.mem_append_left _ (List.mem_append_left _ (List.mem_of_getElem? (l := wsX8_isTooQuick_r1) (i := 5) rfl))), (List.forall_mem_cons.mpr ⟨List.mem_cons_of_mem _ (List.mem_append_left _ (List.mem_append_left _ (List.mem_of_getElem? (l := wsX8_isTooQuick_r1) (i := 6) rfl))), (List.forall_mem_cons.mpr ⟨List.mem_cons_of_mem _ (List.mem_append_left _ (List.mem_append_left _ (List.mem_of_getElem? (l := wsX8_isTooQuick_r1) (i := 7) rfl))), (List.forall_mem_cons.mpr ⟨List.mem_cons_of_mem _ (List.mem_append_left _ (List.mem_append_left _ (List.mem_of_getElem? (l := wsX8_isTooQuick_r1) (i := 3) rfl))), (List.forall_mem_cons.mpr ⟨List.mem_cons_of_mem _ (List.mem_append_left _ (List.mem_append_left _ (List.mem_of_getElem? (l := wsX8_isTooQuick_r1) (i := 8) rfl))), (List.forall_mem_cons.mpr ⟨List.mem_cons_of_mem _ (List.mem_append_left _ (List.mem_append_left _ (List.mem_of_getElem? (l := wsX8_isTooQuick_r1) (i := 9) rfl))), (List.forall_mem_cons.mpr ⟨List.mem_cons_of_mem _ (List.mem_append_left _ (List.mem_append_left _ (List.mem_of_getElem? (l := wsX8_isTooQuick_r1) (i := 10) rfl))), (List.forall_mem_cons.mpr ⟨List.mem_cons_of_mem _ (List.mem_append_left _ (List.mem_append_left _ (List.mem_of_getElem? (l := wsX8_isTooQuick_r1) (i := 11) rfl))), (List.forall_mem_cons.mpr ⟨List.mem_cons_of_mem _ (List.mem_append_left _ (List.mem_append_left _ (List.mem_of_getElem? (l := wsX8_isTooQuick_r1) (i := 12) rfl))), (List.forall_mem_cons.mpr ⟨List.mem_cons_of_mem _ (List.mem_append_left _ (List.mem_append_left _ (List.mem_of_getElem? (l := wsX8_isTooQuick_r1) (i := 13) rfl))), (List.forall_mem_cons.mpr ⟨List.mem_cons_of_mem _ (List.mem_append_left _ (List.mem_append_left _ (List.mem_of_getElem? (l := wsX8_isTooQuick_r1) (i := 14) rfl))), (fun _ h => nomatch h)⟩)⟩)⟩)⟩)⟩)⟩)⟩)⟩)⟩)⟩)⟩), (fun _ h => List.mem_cons_of_mem _ (List.mem_append_right _ (h)))⟩)⟩) (by decide +kernel)
set_option maxRecDepth 20000 in
theorem gX8_isTooQuick_X8_seenAhead : GoodIn wsX8_isTooQuick (wsV RX8 80 RX8 yX8_seenAhead wsX8_seenAhead) := goodIn_app (goodIn_of _ (by decide +kernel)) ggX8_isTooQuick_X8_seenAhead
set_option maxRecDepth 20000 in
theorem ggX8_isTooQuick_X8_isSeen : GoodIn wsX8_isTooQuick wsX8_isSeen := goodIn_sub (List.forall_mem_cons.mpr ⟨List.mem_cons_of_mem _ (List.mem_append_left _ (List.mem_append_left _ (List.mem_of_getElem? (l := wsX8_isTooQuick_r1) (i := 8) rfl))), (List.forall_mem_append.mpr ⟨(List.forall_mem_cons.mpr ⟨List.mem_cons_of_mem _ (List.mem_append_left _ (List.mem_append_left _ (List.mem_of_getElem? (l := wsX8_isTooQuick_r1) (i := 9) rfl))), (List.forall_mem_cons.mpr ⟨List.mem_cons_of_mem _ (List.mem_append_left _ (List.mem_append_left _ (List.mem_of_getElem? (l := wsX8_isTooQuick_r1) (i := 10) rfl))), (List.forall_mem_cons.mpr ⟨List.mem_cons_of_mem _ (List.mem_append_left _ (List.mem_append_left _ (List.mem_of_getElem? (l := wsX8_isTooQuick_r1) (i := 11) rfl))), (List.forall_mem_cons.mpr ⟨List.mem_cons_of_mem _ (List.mem_append_left _ (List.mem_append_left _ (List.mem_of_getElem? (l := wsX8_isTooQuick_r1) (i := 3) rfl))), (List.forall_mem_cons.mpr ⟨List.mem_cons_of_mem _ (List.mem_append_left _ (List.mem_append_left _ (List.mem_of_getElem? (l := wsX8_isTooQuick_r1) (i := 12) rfl))), (List.forall_mem_cons.mpr ⟨List.mem_cons_of_mem _ (List.mem_append_left _ (List.mem_append_left _ (List.mem_of_getElem? (l := wsX8_isTooQuick_r1) (i := 13) rfl))), (List.forall_mem_cons.mpr ⟨List.mem_cons_of_mem _ (List.mem_append_left _ (List.mem_append_left _ (List.mem_of_getElem? (l := wsX8_isTooQuick_r1) (i := 14) rfl))), (fun _ h => nomatch h)⟩)⟩)⟩)⟩)⟩)⟩)⟩), (fun _ h => List.mem_cons_of_mem _ (List.mem_append_right _ (h)))⟩)⟩) (by decide +kernel)
set_option maxRecDepth 20000 in
theorem gX8_isTooQuick_X8_isSeen : GoodIn wsX8_isTooQuick (wsV RX8 69 RX8 yX8_isSeen wsX8_isSeen) := goodIn_app (goodIn_of _ (by decide +kernel)) ggX8_isTooQuick_X8_isSeen
set_option maxRecDepth 20000 in
theorem ggX8_isTooQuick_X8_tickAt : GoodIn wsX8_isTooQuick wsX8_tickAt := goodIn_sub (List.forall_mem_cons.mpr ⟨List.mem_cons_of_mem _ (List.mem_append_left _ (List.mem_append_left _ (List.mem_of_getElem? (l := wsX8_isTooQuick_r1) (i := 12) rfl))), (List.forall_mem_append.mpr ⟨(List.forall_mem_cons.mpr ⟨List.mem_cons_of_mem _ (List.mem_append_left _ (List.mem_append_left _ (List.mem_of_getElem? (l := wsX8_isTooQuick_r1) (i := 13) rfl))), (List.forall_mem_cons.mpr ⟨List.mem_cons_of_mem _ (List.mem_append_left _ (List.mem_append_left _ (List.mem_of_getElem? (l := wsX8_isTooQuick_r1) (i := 14) rfl))), (fun _ h => nomatch h)⟩)⟩), (fun _ h => List.mem_cons_of_mem _ (List.mem_append_right _ (h)))⟩)⟩) (by decide +kernel)
set_option maxRecDepth 20000 in
theorem gX8_isTooQuick_X8_tickAt : GoodIn wsX8_isTooQuick (wsV RX8 66 RX8 yX8_tickAt wsX8_tickAt) := goodIn_app (goodIn_of _ (by decide +kernel)) ggX8_isTooQuick_X8_tickAt
set_option maxRecDepth 20000 in
theorem ggX8_isTooQuick_X8_quickest : GoodIn wsX8_isTooQuick wsX8_quickest := goodIn_sub (List.forall_mem_cons.mpr ⟨List.mem_cons_of_mem _ (List.mem_append_left _ (List.mem_append_left _ (List.mem_of_getElem? (l := wsX8_isTooQuick_r1) (i := 18) rfl))), (List.forall_mem_append.mpr ⟨(List.forall_mem_cons.mpr ⟨List.mem_cons_of_mem _ (List.mem_append_left _ (List.mem_append_left _ (List.mem_of_getElem? (l := wsX8_isTooQuick_r1) (i := 19) rfl))), (List.forall_mem_cons.mpr ⟨List.mem_cons_of_mem _ (List.mem_append_left _ (List.mem_append_left _ (List.mem_of_getElem? (l := wsX8_isTooQuick_r1) (i := 20) rfl))), (List.forall_mem_cons.mpr ⟨List.mem_cons_of_mem _ (List.mem_append_left _ (List.mem_append_left _ (List.mem_of_getElem? (l := wsX8_isTooQuick_r1) (i := 21) rfl))), (List.forall_mem_cons.mpr ⟨List.mem_cons_of_mem _ (List.mem_append_left _ (List.mem_append_left _ (List.mem_of_getElem? (l := wsX8_isTooQuick_r1) (i := 22) rfl))), (List.forall_mem_cons.mpr ⟨List.mem_cons_of_mem _ (List.mem_append_left _ (List.mem_append_left _ (List.mem_of_getElem? (l := wsX8_isTooQuick_r1) (i := 3) rfl))), (List.forall_mem_cons.mpr ⟨List.mem_cons_of_mem _ (List.mem_append_left _ (List.mem_append_left _ (List.mem_of_getElem? (l := wsX8_isTooQuick_r1) (i := 23) rfl))), (List.forall_mem_cons.mpr ⟨List.mem_cons_of_mem _ (List.mem_append_left _ (List.mem_append_left _ (List.mem_of_getElem? (l := wsX8_isTooQuick_r1) (i := 13) rfl))), (List.forall_mem_cons.mpr ⟨List.mem_cons_of_mem _ (List.mem_append_left _ (List.mem_append_right _ (List.mem_of_getElem? (l := wsX8_isTooQuick_r2) (i := 0) rfl))), (List.forall_mem_cons.mpr ⟨List.mem_cons_of_mem _ (List.mem_append_left _ (List.mem_append_right _ (List.mem_of_getElem? (l := wsX8_isTooQuick_r2) (i := 1) rfl))), (List.forall_mem_cons.mpr ⟨List.mem_cons_of_mem _ (List.mem_append_left _ (List.mem_append_right _ (List.mem_of_getElem? (l := wsX8_isTooQuick_r2) (i := 2) rfl))), (List.forall_mem_cons.mpr ⟨List.mem_cons_of_mem _ (List.mem_append_left _ (List.mem_append_right _ (List.mem_of_getElem? (l := wsX8_isTooQuick_r2) (i := 3) rfl))), (fun _ h => nomatch h)⟩)⟩)⟩)⟩)⟩)⟩)⟩)⟩)⟩)⟩)⟩), (fun _ h => List.mem_cons_of_mem _ (List.mem_append_right _ (h)))⟩)⟩) (by decide +kernel)
set_option maxRecDepth 20000 in
theorem gX8_isTooQuick_X8_quickest : GoodIn wsX8_isTooQuick (wsV RX8 83 RX8 yX8_quickest wsX8_quickest) := goodIn_app (goodIn_of _ (by decide +kernel)) ggX8_isTooQuick_X8_quickest
set_option maxHeartbeats 4000000 in
set_option maxRecDepth 100000 in
theorem mX8_isTooQuick (l : Launch) (D : va_G) (cB cI cZ : ClassId) (a_t : Nat) (a_t_ticks : Nat) (a_t_places : Nat) (t_mats : Int32) (t_least : Int32) (t_greatest : Int32) (t_places : Nat → Int32) (t_ticks : Nat → Int32) (sz : Nat) (x1 : Int32) (N : Nat) (b0 : Bool) (h : fX8_isTooQuick N t_least t_mats t_places t_ticks x1 = some (b0)) : Met l yX8_isTooQuick wsX8_isTooQuick ({ frames := 3, cells := 0, slots := 0, locals := 64 } : Room) (va_Pc [.ref a_t, .int x1] (zPre D (zT cB cI cZ) [(a_t, .inr (8, [.ref a_t_ticks, .ref a_t_places, .int t_mats, .int t_least, .int t_greatest])), (a_t_places, .inl (cI, 12, .inl t_places)), (a_t_ticks, .inl (cI, 12, .inl t_ticks))] sz)) (zQi (zb b0) D (zT cB cI cZ) [(a_t, .inr (8, [.ref a_t_ticks, .ref a_t_places, .int t_mats, .int t_least, .int t_greatest])), (a_t_places, .inl (cI, 12, .inl t_places)), (a_t_ticks, .inl (cI, 12, .inl t_ticks))] (va_A [(a_t, .inr (8, [.ref a_t_ticks, .ref a_t_places, .int t_mats, .int t_least, .int t_greatest])), (a_t_places, .inl (cI, 12, .inl t_places)), (a_t_ticks, .inl (cI, 12, .inl t_ticks))] sz)) 0 0 (va_A [(a_t, .inr (8, [.ref a_t_ticks, .ref a_t_places, .int t_mats, .int t_least, .int t_greatest])), (a_t_places, .inl (cI, 12, .inl t_places)), (a_t_ticks, .inl (cI, 12, .inl t_ticks))] sz) := by
  refine Met.ofW (cc := cX8_isTooQuick) (maxL := 3) (ret := (some .boolean)) (by decide) rfl ?_
  intro p e s m args below meth c s₁ B hml hv
  obtain ⟨rfl, hsz, hP, hK, hN, hZ, hD0⟩ := hv
  have hx := B.exec
  have hb := B.bytes
  have hr := B.returns
  have hts := atoms_spec (ws := wsX8_isTooQuick) B.pre
  have hown : s.vm.findClass RX8 = some m.cls := findClass_of_methodNamed B.named
  have hlocks := B.notSynchronized
  subst hsz
  have hD := hD0.self (sz := s.heap.size)
  generalize hAe : va_A [(a_t, .inr (8, [.ref a_t_ticks, .ref a_t_places, .int t_mats, .int t_least, .int t_greatest])), (a_t_places, .inl (cI, 12, .inl t_places)), (a_t_ticks, .inl (cI, 12, .inl t_ticks))] s.heap.size = A at hD hZ ⊢
  have hA : ∀ q : Nat, s.heap.size ≤ q → A q := fun q h => by rw [← hAe]; exact Or.inr h
  have hS : va_S A s.heap s.heap [] := va_S.rf
  have hl := lv_entry ([.ref a_t, .int x1]) (n := 3) (Nat.le_of_ble_eq_true rfl)
  rw [lg_entry_eq]
  generalize (lg_sl ([.ref a_t, .int x1]) ++ List.replicate (3 - (lg_sl ([.ref a_t, .int x1])).length) Slot.unset).toArray = ls at hl ⊢
  have hl : lv_has ls 3 [(0, .ref a_t), (1, .int x1)] := hl
  unfold fX8_isTooQuick at h
  refine lv_aload_n hx hb dX8_isTooQuick_0 rfl (lv_at hl 0 rfl) ?_
  refine lv_iload_n hx hb dX8_isTooQuick_1 rfl (lv_at hl 1 rfl) ?_
  obtain ⟨r1, e2, h⟩ := zz_b h
  refine zVi (As := [.int x1]) (rest := []) (C := RX8) (wr := [(a_t_places, .inl (cI, 12, .inl t_places))]) [0, 2] [1] 0 ⟨hx, hb, hml, hown, hts⟩ (mX8_seenAhead l D cB cI cZ a_t a_t_ticks a_t_places t_mats t_least t_greatest t_ticks s.heap.size x1 N r1 e2) (cwV 1 hts gX8_isTooQuick_X8_seenAhead rfl rfl rfl (by decide +kernel) ⟨Nat.le_of_ble_eq_true rfl, Nat.le_of_ble_eq_true rfl⟩) hK hN hZ hP hD hS hA rfl rfl rfl rfl rfl rfl rfl rfl hl.1 rfl (lv_room (Nat.le_of_ble_eq_true rfl)) dX8_isTooQuick_2 ⟨Nat.le_of_ble_eq_true rfl, Nat.le_of_ble_eq_true rfl⟩ (fun H locs hP hD hS => ?_)
  have hP : va_P D vwCl [(a_t_places, .inl (cI, 12, .inl t_places)), (a_t, .inr (8, [.ref a_t_ticks, .ref a_t_places, .int t_mats, .int t_least, .int t_greatest])), (a_t_ticks, .inl (cI, 12, .inl t_ticks))] H := hP
  have hD : va_D A [(a_t_places, .inl (cI, 12, .inl t_places)), (a_t, .inr (8, [.ref a_t_ticks, .ref a_t_places, .int t_mats, .int t_least, .int t_greatest])), (a_t_ticks, .inl (cI, 12, .inl t_ticks))] := hD
  refine lv_istore_n (lv' := [(2, .int r1), (0, .ref a_t), (1, .int x1)]) hx hb dX8_isTooQuick_5 rfl hl (by decide) rfl (fun ls hl => ?_)
  refine lv_iload_n hx hb dX8_isTooQuick_6 rfl (lv_at hl 0 rfl) ?_
  refine lv_iconst (v := (-1 : Int32)) hx hb dX8_isTooQuick_7 rfl ?_
  refine lv_icmp_eq (tgt := 19) hx hb dX8_isTooQuick_8 (by decide) (fun c3 => ?_) (fun c3 => ?_)
  · have h := zz_t h c3
    refine lv_iconst (v := (nI 0)) hx hb dX8_isTooQuick_19 rfl ?_
    have j0_ := Option.some.inj h
    subst j0_
    exact W.zret (v := (nI 0)) hx hb hr rfl (fun t ht hW => ⟨⟨_, (), rfl, rfl, zPost.of hP hD hK ht hW [1, 0, 2] rfl rfl rfl⟩, hS.F ht⟩) hS.2.2 dX8_isTooQuick_20
  · have h := zz_f h c3
    refine lv_aload_n hx hb dX8_isTooQuick_11 rfl (lv_at hl 1 rfl) ?_
    refine lv_iload_n hx hb dX8_isTooQuick_12 rfl (lv_at hl 2 rfl) ?_
    obtain ⟨b4, e5, h⟩ := zz_b h
    refine zVi (As := [.int x1]) (rest := []) (C := RX8) (wr := [(a_t_places, .inl (cI, 12, .inl t_places))]) [1, 2] [0] 0 ⟨hx, hb, hml, hown, hts⟩ (mX8_isSeen l D cB cI cZ a_t a_t_ticks a_t_places t_mats t_least t_greatest t_ticks H.size x1 b4 e5) (cwV 1 hts gX8_isTooQuick_X8_isSeen rfl rfl rfl (by decide +kernel) ⟨Nat.le_of_ble_eq_true rfl, Nat.le_of_ble_eq_true rfl⟩) hK hN hZ hP hD hS hA rfl rfl rfl rfl rfl rfl rfl rfl hl.1 rfl (lv_room (Nat.le_of_ble_eq_true rfl)) dX8_isTooQuick_13 ⟨Nat.le_of_ble_eq_true rfl, Nat.le_of_ble_eq_true rfl⟩ (fun H locs hP hD hS => ?_)
    have hP : va_P D vwCl [(a_t_places, .inl (cI, 12, .inl t_places)), (a_t, .inr (8, [.ref a_t_ticks, .ref a_t_places, .int t_mats, .int t_least, .int t_greatest])), (a_t_ticks, .inl (cI, 12, .inl t_ticks))] H := hP
    have hD : va_D A [(a_t_places, .inl (cI, 12, .inl t_places)), (a_t, .inr (8, [.ref a_t_ticks, .ref a_t_places, .int t_mats, .int t_least, .int t_greatest])), (a_t_ticks, .inl (cI, 12, .inl t_ticks))] := hD
    refine lv_if_ne (tgt := 21) hx hb dX8_isTooQuick_16 (by decide) (fun c6 => ?_) (fun c6 => ?_)
    · have h := zz_f h c6
      refine lv_aload_n hx hb dX8_isTooQuick_21 rfl (lv_at hl 1 rfl) ?_
      refine lv_iload_n hx hb dX8_isTooQuick_22 rfl (lv_at hl 2 rfl) ?_
      obtain ⟨r7, e8, h⟩ := zz_b h
      refine zVi (As := [.int x1]) (rest := []) (C := RX8) (wr := [(a_t_places, .inl (cI, 12, .inl t_places))]) [1, 2] [0] 0 ⟨hx, hb, hml, hown, hts⟩ (mX8_tickAt l D cB cI cZ a_t a_t_ticks a_t_places t_mats t_least t_greatest t_ticks H.size x1 r7 e8) (cwV 1 hts gX8_isTooQuick_X8_tickAt rfl rfl rfl (by decide +kernel) ⟨Nat.le_of_ble_eq_true rfl, Nat.le_of_ble_eq_true rfl⟩) hK hN hZ hP hD hS hA rfl rfl rfl rfl rfl rfl rfl rfl hl.1 rfl (lv_room (Nat.le_of_ble_eq_true rfl)) dX8_isTooQuick_23 ⟨Nat.le_of_ble_eq_true rfl, Nat.le_of_ble_eq_true rfl⟩ (fun H locs hP hD hS => ?_)
      have hP : va_P D vwCl [(a_t_places, .inl (cI, 12, .inl t_places)), (a_t, .inr (8, [.ref a_t_ticks, .ref a_t_places, .int t_mats, .int t_least, .int t_greatest])), (a_t_ticks, .inl (cI, 12, .inl t_ticks))] H := hP
      have hD : va_D A [(a_t_places, .inl (cI, 12, .inl t_places)), (a_t, .inr (8, [.ref a_t_ticks, .ref a_t_places, .int t_mats, .int t_least, .int t_greatest])), (a_t_ticks, .inl (cI, 12, .inl t_ticks))] := hD
      refine lv_aload_n hx hb dX8_isTooQuick_26 rfl (lv_at hl 1 rfl) ?_
      refine lv_iload_n hx hb dX8_isTooQuick_27 rfl (lv_at hl 0 rfl) ?_
      obtain ⟨r9, e10, h⟩ := zz_b h
      refine zVi (As := [.int r1]) (rest := [.int r7]) (C := RX8) (wr := [(a_t_places, .inl (cI, 12, .inl t_places))]) [1, 2] [0] 0 ⟨hx, hb, hml, hown, hts⟩ (mX8_tickAt l D cB cI cZ a_t a_t_ticks a_t_places t_mats t_least t_greatest t_ticks H.size r1 r9 e10) (cwV 1 hts gX8_isTooQuick_X8_tickAt rfl rfl rfl (by decide +kernel) ⟨Nat.le_of_ble_eq_true rfl, Nat.le_of_ble_eq_true rfl⟩) hK hN hZ hP hD hS hA rfl rfl rfl rfl rfl rfl rfl rfl hl.1 rfl (lv_room (Nat.le_of_ble_eq_true rfl)) dX8_isTooQuick_28 ⟨Nat.le_of_ble_eq_true rfl, Nat.le_of_ble_eq_true rfl⟩ (fun H locs hP hD hS => ?_)
      have hP : va_P D vwCl [(a_t_places, .inl (cI, 12, .inl t_places)), (a_t, .inr (8, [.ref a_t_ticks, .ref a_t_places, .int t_mats, .int t_least, .int t_greatest])), (a_t_ticks, .inl (cI, 12, .inl t_ticks))] H := hP
      have hD : va_D A [(a_t_places, .inl (cI, 12, .inl t_places)), (a_t, .inr (8, [.ref a_t_ticks, .ref a_t_places, .int t_mats, .int t_least, .int t_greatest])), (a_t_ticks, .inl (cI, 12, .inl t_ticks))] := hD
      refine lv_isub hx hb dX8_isTooQuick_31 ?_
      refine lv_aload_n hx hb dX8_isTooQuick_32 rfl (lv_at hl 1 rfl) ?_
      refine lv_iload_n hx hb dX8_isTooQuick_33 rfl (lv_at hl 0 rfl) ?_
      refine lv_iload_n hx hb dX8_isTooQuick_34 rfl (lv_at hl 2 rfl) ?_
      obtain ⟨r11, e12, h⟩ := zz_b h
      refine zVi (As := [.int r1, .int x1]) (rest := [.int (r7 - r9)]) (C := RX8) (wr := [(a_t_ticks, .inl (cI, 12, .inl t_ticks))]) [1, 0] [2] 0 ⟨hx, hb, hml, hown, hts⟩ (mX8_quickest l D cB cI cZ a_t a_t_ticks a_t_places t_mats t_least t_greatest t_places H.size r1 x1 r11 e12) (cwV 2 hts gX8_isTooQuick_X8_quickest rfl rfl rfl (by decide +kernel) ⟨Nat.le_of_ble_eq_true rfl, Nat.le_of_ble_eq_true rfl⟩) hK hN hZ hP hD hS hA rfl rfl rfl rfl rfl rfl rfl rfl hl.1 rfl (lv_room (Nat.le_of_ble_eq_true rfl)) dX8_isTooQuick_35 ⟨Nat.le_of_ble_eq_true rfl, Nat.le_of_ble_eq_true rfl⟩ (fun H locs hP hD hS => ?_)
      have hP : va_P D vwCl [(a_t_ticks, .inl (cI, 12, .inl t_ticks)), (a_t, .inr (8, [.ref a_t_ticks, .ref a_t_places, .int t_mats, .int t_least, .int t_greatest])), (a_t_places, .inl (cI, 12, .inl t_places))] H := hP
      have hD : va_D A [(a_t_ticks, .inl (cI, 12, .inl t_ticks)), (a_t, .inr (8, [.ref a_t_ticks, .ref a_t_places, .int t_mats, .int t_least, .int t_greatest])), (a_t_places, .inl (cI, 12, .inl t_places))] := hD
      refine lv_icmp_ge (tgt := 45) hx hb dX8_isTooQuick_38 (by decide) (fun c13 => ?_) (fun c13 => ?_)
      · have h := zz_t h c13
        refine lv_iconst (v := (nI 0)) hx hb dX8_isTooQuick_45 rfl ?_
        have j0_ := Option.some.inj h
        subst j0_
        exact W.zret (v := (nI 0)) hx hb hr rfl (fun t ht hW => ⟨⟨_, (), rfl, rfl, zPost.of hP hD hK ht hW [1, 2, 0] rfl rfl rfl⟩, hS.F ht⟩) hS.2.2 dX8_isTooQuick_46
      · have h := zz_f h c13
        refine lv_iconst (v := (nI 1)) hx hb dX8_isTooQuick_41 rfl ?_
        refine lv_goto (tgt := 46) hx hb dX8_isTooQuick_42 (by decide) ?_
        have j0_ := Option.some.inj h
        subst j0_
        exact W.zret (v := (nI 1)) hx hb hr rfl (fun t ht hW => ⟨⟨_, (), rfl, rfl, zPost.of hP hD hK ht hW [1, 2, 0] rfl rfl rfl⟩, hS.F ht⟩) hS.2.2 dX8_isTooQuick_46
    · have h := zz_t h c6
      refine lv_iconst (v := (nI 0)) hx hb dX8_isTooQuick_19 rfl ?_
      have j0_ := Option.some.inj h
      subst j0_
      exact W.zret (v := (nI 0)) hx hb hr rfl (fun t ht hW => ⟨⟨_, (), rfl, rfl, zPost.of hP hD hK ht hW [1, 0, 2] rfl rfl rfl⟩, hS.F ht⟩) hS.2.2 dX8_isTooQuick_20
/-! RunDesk.secondsCut -/
theorem dX10_secondsCut_0 : decode cX10_secondsCut 0 = .ok (.iload_n 0, 1) := by decide +kernel
theorem dX10_secondsCut_1 : decode cX10_secondsCut 1 = .ok (.iload_n 1, 1) := by decide +kernel
theorem dX10_secondsCut_2 : decode cX10_secondsCut 2 = .ok (.imul, 1) := by decide +kernel
theorem dX10_secondsCut_3 : decode cX10_secondsCut 3 = .ok (.sipush 1000, 3) := by decide +kernel
theorem dX10_secondsCut_6 : decode cX10_secondsCut 6 = .ok (.idiv, 1) := by decide +kernel
theorem dX10_secondsCut_7 : decode cX10_secondsCut 7 = .ok (.ireturn, 1) := by decide +kernel
set_option maxHeartbeats 4000000 in
set_option maxRecDepth 100000 in
theorem mX10_secondsCut (l : Launch) (D : va_G) (cB cI cZ : ClassId) (sz : Nat) (x1 : Int32) (x2 : Int32) (r0 : Int32) (h : fX10_secondsCut x1 x2 = some (r0)) : Met l yX10_secondsCut wsX10_secondsCut ({ frames := 0, cells := 0, slots := 0, locals := 0 } : Room) (va_Pc [.int x1, .int x2] (zPre D (zT cB cI cZ) [] sz)) (zQi r0 D (zT cB cI cZ) [] (va_A [] sz)) 0 0 (va_A [] sz) := by
  refine Met.ofW (cc := cX10_secondsCut) (maxL := 2) (ret := (some .int)) (by decide) rfl ?_
  intro p e s m args below meth c s₁ B hml hv
  obtain ⟨rfl, hsz, hP, hK, hN, hZ, hD0⟩ := hv
  have hx := B.exec
  have hb := B.bytes
  have hr := B.returns
  have hts := atoms_spec (ws := wsX10_secondsCut) B.pre
  have hown : s.vm.findClass RX10 = some m.cls := findClass_of_methodNamed B.named
  have hlocks := B.notSynchronized
  subst hsz
  have hD := hD0.self (sz := s.heap.size)
  generalize hAe : va_A [] s.heap.size = A at hD hZ ⊢
  have hA : ∀ q : Nat, s.heap.size ≤ q → A q := fun q h => by rw [← hAe]; exact Or.inr h
  have hS : va_S A s.heap s.heap [] := va_S.rf
  have hl := lv_entry ([.int x1, .int x2]) (n := 2) (Nat.le_of_ble_eq_true rfl)
  rw [lg_entry_eq]
  generalize (lg_sl ([.int x1, .int x2]) ++ List.replicate (2 - (lg_sl ([.int x1, .int x2])).length) Slot.unset).toArray = ls at hl ⊢
  have hl : lv_has ls 2 [(0, .int x1), (1, .int x2)] := hl
  unfold fX10_secondsCut at h
  refine lv_iload_n hx hb dX10_secondsCut_0 rfl (lv_at hl 0 rfl) ?_
  refine lv_iload_n hx hb dX10_secondsCut_1 rfl (lv_at hl 1 rfl) ?_
  refine lv_imul hx hb dX10_secondsCut_2 ?_
  refine lv_sipush (v := (nI 1000)) hx hb dX10_secondsCut_3 rfl ?_
  refine lv_idiv hx hb dX10_secondsCut_6 (by decide) ?_
  have j0_ := Option.some.inj h
  subst j0_
  exact W.iret (v := ((x1 * x2) / (nI 1000))) hx hb hr (fun t ht hW => ⟨⟨_, (), rfl, rfl, zPost.of hP hD hK ht hW [] rfl rfl rfl⟩, hS.F ht⟩) hS.2.2 dX10_secondsCut_7
/-! RunDesk$Trail.slowest -/
theorem dX8_slowest_0 : decode cX8_slowest 0 = .ok (.aload_n 0, 1) := by decide +kernel
theorem dX8_slowest_1 : decode cX8_slowest 1 = .ok (.iload_n 2, 1) := by decide +kernel
theorem dX8_slowest_2 : decode cX8_slowest 2 = .ok (.invokevirtual 73, 3) := by decide +kernel
theorem dX8_slowest_5 : decode cX8_slowest 5 = .ok (.aload_n 0, 1) := by decide +kernel
theorem dX8_slowest_6 : decode cX8_slowest 6 = .ok (.iload_n 1, 1) := by decide +kernel
theorem dX8_slowest_7 : decode cX8_slowest 7 = .ok (.invokevirtual 73, 3) := by decide +kernel
theorem dX8_slowest_10 : decode cX8_slowest 10 = .ok (.isub, 1) := by decide +kernel
theorem dX8_slowest_11 : decode cX8_slowest 11 = .ok (.aload_n 0, 1) := by decide +kernel
theorem dX8_slowest_12 : decode cX8_slowest 12 = .ok (.getfield 41, 3) := by decide +kernel
theorem dX8_slowest_15 : decode cX8_slowest 15 = .ok (.invokestatic 77, 3) := by decide +kernel
theorem dX8_slowest_18 : decode cX8_slowest 18 = .ok (.ireturn, 1) := by decide +kernel
set_option maxRecDepth 20000 in
theorem ggX8_slowest_X8_placeAt : GoodIn wsX8_slowest wsX8_placeAt := goodIn_sub (List.forall_mem_cons.mpr ⟨List.mem_cons_of_mem _ (List.mem_append_left _ (List.mem_of_getElem? (i := 5) rfl)), (List.forall_mem_append.mpr ⟨(List.forall_mem_cons.mpr ⟨List.mem_cons_of_mem _ (List.mem_append_left _ (List.mem_of_getElem? (i := 6) rfl)), (List.forall_mem_cons.mpr ⟨List.mem_cons_of_mem _ (List.mem_append_left _ (List.mem_of_getElem? (i := 7) rfl)), (fun _ h => nomatch h)⟩)⟩), (fun _ h => List.mem_cons_of_mem _ (List.mem_append_right _ (h)))⟩)⟩) (by decide +kernel)
set_option maxRecDepth 20000 in
theorem gX8_slowest_X8_placeAt : GoodIn wsX8_slowest (wsV RX8 73 RX8 yX8_placeAt wsX8_placeAt) := goodIn_app (goodIn_of _ (by decide +kernel)) ggX8_slowest_X8_placeAt
set_option maxRecDepth 20000 in
theorem ggX8_slowest_X10_secondsCut : GoodIn wsX8_slowest wsX10_secondsCut := goodIn_sub (List.forall_mem_cons.mpr ⟨List.mem_cons_of_mem _ (List.mem_append_left _ (List.mem_of_getElem? (i := 10) rfl)), (fun _ h => nomatch h)⟩) (by decide +kernel)
set_option maxRecDepth 20000 in
theorem gX8_slowest_X10_secondsCut_n77 : GoodIn wsX8_slowest (wsX10_secondsCut) := ggX8_slowest_X10_secondsCut
theorem kX8_slowest_0 : (.fieldLink RX8 41 "RunDesk$Trail" "greatest" "I" : Cond) ∈ wsX8_slowest := List.mem_of_getElem? (i := 1) (by decide +kernel)
theorem qX8_slowest_X8 : ∀ w ∈ wsX80, w ∈ wsX8_slowest := fun _ h => List.mem_cons_of_mem _ (List.mem_append_right _ (h))
theorem kX8_slowest_2 : (.initialized RX10 : Cond) ∈ wsX8_slowest := List.mem_of_getElem? (i := 10) (by decide +kernel)
theorem kX8_slowest_3 : (.static yX10_secondsCut : Cond) ∈ wsX8_slowest := List.mem_of_getElem? (i := 9) (by decide +kernel)
set_option maxHeartbeats 4000000 in
set_option maxRecDepth 100000 in
theorem mX8_slowest (l : Launch) (D : va_G) (cB cI cZ : ClassId) (a_t : Nat) (a_t_ticks : Nat) (a_t_places : Nat) (t_mats : Int32) (t_least : Int32) (t_greatest : Int32) (t_places : Nat → Int32) (sz : Nat) (x1 : Int32) (x2 : Int32) (r0 : Int32) (h : fX8_slowest t_greatest t_mats t_places x1 x2 = some (r0)) : Met l yX8_slowest wsX8_slowest ({ frames := 1, cells := 0, slots := 0, locals := 21 } : Room) (va_Pc [.ref a_t, .int x1, .int x2] (zPre D (zT cB cI cZ) [(a_t, .inr (8, [.ref a_t_ticks, .ref a_t_places, .int t_mats, .int t_least, .int t_greatest])), (a_t_places, .inl (cI, 12, .inl t_places))] sz)) (zQi r0 D (zT cB cI cZ) [(a_t, .inr (8, [.ref a_t_ticks, .ref a_t_places, .int t_mats, .int t_least, .int t_greatest])), (a_t_places, .inl (cI, 12, .inl t_places))] (va_A [(a_t, .inr (8, [.ref a_t_ticks, .ref a_t_places, .int t_mats, .int t_least, .int t_greatest])), (a_t_places, .inl (cI, 12, .inl t_places))] sz)) 0 0 (va_A [(a_t, .inr (8, [.ref a_t_ticks, .ref a_t_places, .int t_mats, .int t_least, .int t_greatest])), (a_t_places, .inl (cI, 12, .inl t_places))] sz) := by
  refine Met.ofW (cc := cX8_slowest) (maxL := 3) (ret := (some .int)) (by decide) rfl ?_
  intro p e s m args below meth c s₁ B hml hv
  obtain ⟨rfl, hsz, hP, hK, hN, hZ, hD0⟩ := hv
  have hx := B.exec
  have hb := B.bytes
  have hr := B.returns
  have hts := atoms_spec (ws := wsX8_slowest) B.pre
  have hown : s.vm.findClass RX8 = some m.cls := findClass_of_methodNamed B.named
  have hlocks := B.notSynchronized
  subst hsz
  have hD := hD0.self (sz := s.heap.size)
  generalize hAe : va_A [(a_t, .inr (8, [.ref a_t_ticks, .ref a_t_places, .int t_mats, .int t_least, .int t_greatest])), (a_t_places, .inl (cI, 12, .inl t_places))] s.heap.size = A at hD hZ ⊢
  have hA : ∀ q : Nat, s.heap.size ≤ q → A q := fun q h => by rw [← hAe]; exact Or.inr h
  have hS : va_S A s.heap s.heap [] := va_S.rf
  have hl := lv_entry ([.ref a_t, .int x1, .int x2]) (n := 3) (Nat.le_of_ble_eq_true rfl)
  rw [lg_entry_eq]
  generalize (lg_sl ([.ref a_t, .int x1, .int x2]) ++ List.replicate (3 - (lg_sl ([.ref a_t, .int x1, .int x2])).length) Slot.unset).toArray = ls at hl ⊢
  have hl : lv_has ls 3 [(0, .ref a_t), (1, .int x1), (2, .int x2)] := hl
  unfold fX8_slowest at h
  refine lv_aload_n hx hb dX8_slowest_0 rfl (lv_at hl 0 rfl) ?_
  refine lv_iload_n hx hb dX8_slowest_1 rfl (lv_at hl 2 rfl) ?_
  obtain ⟨r1, e2, h⟩ := zz_b h
  refine zVi (As := [.int x2]) (rest := []) (C := RX8) (wr := []) [0, 1] [] 0 ⟨hx, hb, hml, hown, hts⟩ (mX8_placeAt l D cB cI cZ a_t a_t_ticks a_t_places t_mats t_least t_greatest t_places s.heap.size x2 r1 e2) (cwV 1 hts gX8_slowest_X8_placeAt rfl rfl rfl (by decide +kernel) ⟨Nat.le_of_ble_eq_true rfl, Nat.le_of_ble_eq_true rfl⟩) hK hN hZ hP hD hS hA rfl rfl rfl rfl rfl rfl rfl rfl hl.1 rfl (lv_room (Nat.le_of_ble_eq_true rfl)) dX8_slowest_2 ⟨Nat.le_of_ble_eq_true rfl, Nat.le_of_ble_eq_true rfl⟩ (fun H locs hP hD hS => ?_)
  have hP : va_P D vwCl [(a_t, .inr (8, [.ref a_t_ticks, .ref a_t_places, .int t_mats, .int t_least, .int t_greatest])), (a_t_places, .inl (cI, 12, .inl t_places))] H := hP
  have hD : va_D A [(a_t, .inr (8, [.ref a_t_ticks, .ref a_t_places, .int t_mats, .int t_least, .int t_greatest])), (a_t_places, .inl (cI, 12, .inl t_places))] := hD
  refine lv_aload_n hx hb dX8_slowest_5 rfl (lv_at hl 0 rfl) ?_
  refine lv_iload_n hx hb dX8_slowest_6 rfl (lv_at hl 1 rfl) ?_
  obtain ⟨r3, e4, h⟩ := zz_b h
  refine zVi (As := [.int x1]) (rest := [.int r1]) (C := RX8) (wr := []) [0, 1] [] 0 ⟨hx, hb, hml, hown, hts⟩ (mX8_placeAt l D cB cI cZ a_t a_t_ticks a_t_places t_mats t_least t_greatest t_places H.size x1 r3 e4) (cwV 1 hts gX8_slowest_X8_placeAt rfl rfl rfl (by decide +kernel) ⟨Nat.le_of_ble_eq_true rfl, Nat.le_of_ble_eq_true rfl⟩) hK hN hZ hP hD hS hA rfl rfl rfl rfl rfl rfl rfl rfl hl.1 rfl (lv_room (Nat.le_of_ble_eq_true rfl)) dX8_slowest_7 ⟨Nat.le_of_ble_eq_true rfl, Nat.le_of_ble_eq_true rfl⟩ (fun H locs hP hD hS => ?_)
  have hP : va_P D vwCl [(a_t, .inr (8, [.ref a_t_ticks, .ref a_t_places, .int t_mats, .int t_least, .int t_greatest])), (a_t_places, .inl (cI, 12, .inl t_places))] H := hP
  have hD : va_D A [(a_t, .inr (8, [.ref a_t_ticks, .ref a_t_places, .int t_mats, .int t_least, .int t_greatest])), (a_t_places, .inl (cI, 12, .inl t_places))] := hD
  refine lv_isub hx hb dX8_slowest_10 ?_
  refine lv_aload_n hx hb dX8_slowest_11 rfl (lv_at hl 0 rfl) ?_
  refine va_get (D := D) (ci := 8) (C := RX8) (T := TX8) (N := 5) hx hb hts qX8_slowest_X8 hown hK hP 0 rfl rfl 4 (by decide) (hts _ kX8_slowest_0) (fun _ h9 => h9) rfl dX8_slowest_12 ?_
  obtain ⟨r5, e6, h⟩ := zz_b h
  refine zNi (As := [.int (r1 - r3), .int t_greatest]) (rest := []) (host := "RunDesk") (wr := [(a_t, .inr (8, [.ref a_t_ticks, .ref a_t_places, .int t_mats, .int t_least, .int t_greatest])), (a_t_places, .inl (cI, 12, .inl t_places))]) [] [0, 1] ⟨hx, hb, hml, hown, hts⟩ (mX10_secondsCut l D cB cI cZ H.size (r1 - r3) t_greatest r5 e6) ⟨va_cnB 2 hts gX8_slowest_X10_secondsCut_n77 rfl rfl rfl (hN _ (List.mem_of_getElem? (i := 29) rfl)) (hts _ kX8_slowest_2) (by decide +kernel) ⟨Nat.le_of_ble_eq_true rfl, Nat.le_of_ble_eq_true rfl⟩, (hts _ kX8_slowest_3), trivial⟩ hK hN hZ hP hD hS hA rfl rfl rfl rfl rfl rfl hl.1 rfl (lv_room (Nat.le_of_ble_eq_true rfl)) dX8_slowest_15 ⟨Nat.le_of_ble_eq_true rfl, Nat.le_of_ble_eq_true rfl⟩ (fun H locs hP hD hS => ?_)
  have hP : va_P D vwCl [(a_t, .inr (8, [.ref a_t_ticks, .ref a_t_places, .int t_mats, .int t_least, .int t_greatest])), (a_t_places, .inl (cI, 12, .inl t_places))] H := hP
  have hD : va_D A [(a_t, .inr (8, [.ref a_t_ticks, .ref a_t_places, .int t_mats, .int t_least, .int t_greatest])), (a_t_places, .inl (cI, 12, .inl t_places))] := hD
  have j0_ := Option.some.inj h
  subst j0_
  exact W.iret (v := r5) hx hb hr (fun t ht hW => ⟨⟨_, (), rfl, rfl, zPost.of hP hD hK ht hW [0, 1] rfl rfl rfl⟩, hS.F ht⟩) hS.2.2 dX8_slowest_18
/-! RunDesk$Trail.leastGuess -/
theorem dX8_leastGuess_0 : decode cX8_leastGuess 0 = .ok (.aload_n 0, 1) := by decide +kernel
theorem dX8_leastGuess_1 : decode cX8_leastGuess 1 = .ok (.iload_n 1, 1) := by decide +kernel
theorem dX8_leastGuess_2 : decode cX8_leastGuess 2 = .ok (.invokevirtual 80, 3) := by decide +kernel
theorem dX8_leastGuess_5 : decode cX8_leastGuess 5 = .ok (.istore_n 2, 1) := by decide +kernel
theorem dX8_leastGuess_6 : decode cX8_leastGuess 6 = .ok (.aload_n 0, 1) := by decide +kernel
theorem dX8_leastGuess_7 : decode cX8_leastGuess 7 = .ok (.iload_n 1, 1) := by decide +kernel
theorem dX8_leastGuess_8 : decode cX8_leastGuess 8 = .ok (.invokevirtual 69, 3) := by decide +kernel
theorem dX8_leastGuess_11 : decode cX8_leastGuess 11 = .ok (.ifCond .ne 8, 3) := by decide +kernel
theorem dX8_leastGuess_14 : decode cX8_leastGuess 14 = .ok (.iload_n 2, 1) := by decide +kernel
theorem dX8_leastGuess_15 : decode cX8_leastGuess 15 = .ok (.iconst (-1), 1) := by decide +kernel
theorem dX8_leastGuess_16 : decode cX8_leastGuess 16 = .ok (.if_icmp .ne 9, 3) := by decide +kernel
theorem dX8_leastGuess_19 : decode cX8_leastGuess 19 = .ok (.aload_n 0, 1) := by decide +kernel
theorem dX8_leastGuess_20 : decode cX8_leastGuess 20 = .ok (.iload_n 1, 1) := by decide +kernel
theorem dX8_leastGuess_21 : decode cX8_leastGuess 21 = .ok (.invokevirtual 66, 3) := by decide +kernel
theorem dX8_leastGuess_24 : decode cX8_leastGuess 24 = .ok (.ireturn, 1) := by decide +kernel
theorem dX8_leastGuess_25 : decode cX8_leastGuess 25 = .ok (.aload_n 0, 1) := by decide +kernel
theorem dX8_leastGuess_26 : decode cX8_leastGuess 26 = .ok (.iload_n 2, 1) := by decide +kernel
theorem dX8_leastGuess_27 : decode cX8_leastGuess 27 = .ok (.invokevirtual 66, 3) := by decide +kernel
theorem dX8_leastGuess_30 : decode cX8_leastGuess 30 = .ok (.aload_n 0, 1) := by decide +kernel
theorem dX8_leastGuess_31 : decode cX8_leastGuess 31 = .ok (.iload_n 2, 1) := by decide +kernel
theorem dX8_leastGuess_32 : decode cX8_leastGuess 32 = .ok (.iload_n 1, 1) := by decide +kernel
theorem dX8_leastGuess_33 : decode cX8_leastGuess 33 = .ok (.invokevirtual 83, 3) := by decide +kernel
theorem dX8_leastGuess_36 : decode cX8_leastGuess 36 = .ok (.iadd, 1) := by decide +kernel
theorem dX8_leastGuess_37 : decode cX8_leastGuess 37 = .ok (.istore_n 3, 1) := by decide +kernel
theorem dX8_leastGuess_38 : decode cX8_leastGuess 38 = .ok (.aload_n 0, 1) := by decide +kernel
theorem dX8_leastGuess_39 : decode cX8_leastGuess 39 = .ok (.iload_n 1, 1) := by decide +kernel
theorem dX8_leastGuess_40 : decode cX8_leastGuess 40 = .ok (.invokevirtual 86, 3) := by decide +kernel
theorem dX8_leastGuess_43 : decode cX8_leastGuess 43 = .ok (.istore 4, 2) := by decide +kernel
theorem dX8_leastGuess_45 : decode cX8_leastGuess 45 = .ok (.iload 4, 2) := by decide +kernel
theorem dX8_leastGuess_47 : decode cX8_leastGuess 47 = .ok (.iconst (-1), 1) := by decide +kernel
theorem dX8_leastGuess_48 : decode cX8_leastGuess 48 = .ok (.if_icmp .eq 22, 3) := by decide +kernel
theorem dX8_leastGuess_51 : decode cX8_leastGuess 51 = .ok (.iload_n 3, 1) := by decide +kernel
theorem dX8_leastGuess_52 : decode cX8_leastGuess 52 = .ok (.aload_n 0, 1) := by decide +kernel
theorem dX8_leastGuess_53 : decode cX8_leastGuess 53 = .ok (.iload 4, 2) := by decide +kernel
theorem dX8_leastGuess_55 : decode cX8_leastGuess 55 = .ok (.invokevirtual 66, 3) := by decide +kernel
theorem dX8_leastGuess_58 : decode cX8_leastGuess 58 = .ok (.aload_n 0, 1) := by decide +kernel
theorem dX8_leastGuess_59 : decode cX8_leastGuess 59 = .ok (.iload_n 1, 1) := by decide +kernel
theorem dX8_leastGuess_60 : decode cX8_leastGuess 60 = .ok (.iload 4, 2) := by decide +kernel
theorem dX8_leastGuess_62 : decode cX8_leastGuess 62 = .ok (.invokevirtual 89, 3) := by decide +kernel
theorem dX8_leastGuess_65 : decode cX8_leastGuess 65 = .ok (.isub, 1) := by decide +kernel
theorem dX8_leastGuess_66 : decode cX8_leastGuess 66 = .ok (.invokestatic 92, 3) := by decide +kernel
theorem dX8_leastGuess_69 : decode cX8_leastGuess 69 = .ok (.istore_n 3, 1) := by decide +kernel
theorem dX8_leastGuess_70 : decode cX8_leastGuess 70 = .ok (.iload_n 3, 1) := by decide +kernel
theorem dX8_leastGuess_71 : decode cX8_leastGuess 71 = .ok (.iconst 0, 1) := by decide +kernel
theorem dX8_leastGuess_72 : decode cX8_leastGuess 72 = .ok (.invokestatic 92, 3) := by decide +kernel
theorem dX8_leastGuess_75 : decode cX8_leastGuess 75 = .ok (.ireturn, 1) := by decide +kernel
set_option maxRecDepth 20000 in
theorem ggX8_leastGuess_X8_seenAhead : GoodIn wsX8_leastGuess wsX8_seenAhead := goodIn_sub (List.forall_mem_cons.mpr ⟨List.mem_cons_of_mem _ (List.mem_append_left _ (List.mem_append_left _ (List.mem_of_getElem? (l := wsX8_leastGuess_r1) (i := 8) rfl))), (List.forall_mem_append.mpr ⟨(List.forall_mem_cons.mpr ⟨List.mem_cons_of_mem _ (List.mem_append_left _ (List.mem_append_left _ (List.mem_of_getElem? (l := wsX8_leastGuess_r1) (i := 9) rfl))), (List.forall_mem_cons.mpr ⟨List.mem_cons_of_mem _ (List.mem_append_left _ (List.mem_append_left _ (List.mem_of_getElem? (l := wsX8_leastGuess_r1) (i := 10) rfl))), (List.forall_mem_cons.mpr ⟨List.mem_cons_of_mem _ (List.mem_append_left _ (List.mem_append_left _ (List.mem_of_getElem? (l := wsX8_leastGuess_r1) (i := 11) rfl))), (List.forall_mem_cons.mpr ⟨List.mem_cons_of_mem _ (List.mem_append_left _ (List.mem_append_left _ (List.mem_of_getElem? (l := wsX8_leastGuess_r1) (i := 7) rfl))), (List.forall_mem_cons.mpr ⟨List.mem_cons_of_mem _ (List.mem_append_left _ (List.mem_append_left _ (List.mem_of_getElem? (l := wsX8_leastGuess_r1) (i := 12) rfl))), (List.forall_mem_cons.mpr ⟨List.mem_cons_of_mem _ (List.mem_append_left _ (List.mem_append_left _ (List.mem_of_getElem? (l := wsX8_leastGuess_r1) (i := 13) rfl))), (List.forall_mem_cons.mpr ⟨List.mem_cons_of_mem _ (List.mem_append_left _ (List.mem_append_left _ (List.mem_of_getElem? (l := wsX8_leastGuess_r1) (i := 14) rfl))), (List.forall_mem_cons.mpr ⟨List.mem_cons_of_mem _ (List.mem_append_left _ (List.mem_append_left _ (List.mem_of_getElem? (l := wsX8_leastGuess_r1) (i := 15) rfl))), (List.forall_mem_cons.mpr ⟨List.mem_cons_of_mem _ (List.mem_append_left _ (List.mem_append_left _ (List.mem_of_getElem? (l := wsX8_leastGuess_r1) (i := 16) rfl))), (List.forall_mem_cons.mpr ⟨List.mem_cons_of_mem _ (List.mem_append_left _ (List.mem_append_left _ (List.mem_of_getElem? (l := wsX8_leastGuess_r1) (i := 17) rfl))), (List.forall_mem_cons.mpr ⟨List.mem_cons_of_mem _ (List.mem_append_left _ (List.mem_append_left _ (List.mem_of_getElem? (l := wsX8_leastGuess_r1) (i := 18) rfl))), (fun _ h => nomatch h)⟩)⟩)⟩)⟩)⟩)⟩)⟩)⟩)⟩)⟩)⟩), (fun _ h => List.mem_cons_of_mem _ (List.mem_append_right _ (h)))⟩)⟩) (by decide +kernel)
set_option maxRecDepth 20000 in
theorem gX8_leastGuess_X8_seenAhead : GoodIn wsX8_leastGuess (wsV RX8 80 RX8 yX8_seenAhead wsX8_seenAhead) := goodIn_app (goodIn_of _ (by decide +kernel)) ggX8_leastGuess_X8_seenAhead
set_option maxRecDepth 20000 in
theorem ggX8_leastGuess_X8_isSeen : GoodIn wsX8_leastGuess wsX8_isSeen := goodIn_sub (List.forall_mem_cons.mpr ⟨List.mem_cons_of_mem _ (List.mem_append_left _ (List.mem_append_left _ (List.mem_of_getElem? (l := wsX8_leastGuess_r1) (i := 12) rfl))), (List.forall_mem_append.mpr ⟨(List.forall_mem_cons.mpr ⟨List.mem_cons_of_mem _ (List.mem_append_left _ (List.mem_append_left _ (List.mem_of_getElem? (l := wsX8_leastGuess_r1) (i := 13) rfl))), (List.forall_mem_cons.mpr ⟨List.mem_cons_of_mem _ (List.mem_append_left _ (List.mem_append_left _ (List.mem_of_getElem? (l := wsX8_leastGuess_r1) (i := 14) rfl))), (List.forall_mem_cons.mpr ⟨List.mem_cons_of_mem _ (List.mem_append_left _ (List.mem_append_left _ (List.mem_of_getElem? (l := wsX8_leastGuess_r1) (i := 15) rfl))), (List.forall_mem_cons.mpr ⟨List.mem_cons_of_mem _ (List.mem_append_left _ (List.mem_append_left _ (List.mem_of_getElem? (l := wsX8_leastGuess_r1) (i := 7) rfl))), (List.forall_mem_cons.mpr ⟨List.mem_cons_of_mem _ (List.mem_append_left _ (List.mem_append_left _ (List.mem_of_getElem? (l := wsX8_leastGuess_r1) (i := 16) rfl))), (List.forall_mem_cons.mpr ⟨List.mem_cons_of_mem _ (List.mem_append_left _ (List.mem_append_left _ (List.mem_of_getElem? (l := wsX8_leastGuess_r1) (i := 17) rfl))), (List.forall_mem_cons.mpr ⟨List.mem_cons_of_mem _ (List.mem_append_left _ (List.mem_append_left _ (List.mem_of_getElem? (l := wsX8_leastGuess_r1) (i := 18) rfl))), (fun _ h => nomatch h)⟩)⟩)⟩)⟩)⟩)⟩)⟩), (fun _ h => List.mem_cons_of_mem _ (List.mem_append_right _ (h)))⟩)⟩) (by decide +kernel)
set_option maxRecDepth 20000 in
theorem gX8_leastGuess_X8_isSeen : GoodIn wsX8_leastGuess (wsV RX8 69 RX8 yX8_isSeen wsX8_isSeen) := goodIn_app (goodIn_of _ (by decide +kernel)) ggX8_leastGuess_X8_isSeen
set_option maxRecDepth 20000 in
theorem ggX8_leastGuess_X8_tickAt : GoodIn wsX8_leastGuess wsX8_tickAt := goodIn_sub (List.forall_mem_cons.mpr ⟨List.mem_cons_of_mem _ (List.mem_append_left _ (List.mem_append_left _ (List.mem_of_getElem? (l := wsX8_leastGuess_r1) (i := 16) rfl))), (List.forall_mem_append.mpr ⟨(List.forall_mem_cons.mpr ⟨List.mem_cons_of_mem _ (List.mem_append_left _ (List.mem_append_left _ (List.mem_of_getElem? (l := wsX8_leastGuess_r1) (i := 17) rfl))), (List.forall_mem_cons.mpr ⟨List.mem_cons_of_mem _ (List.mem_append_left _ (List.mem_append_left _ (List.mem_of_getElem? (l := wsX8_leastGuess_r1) (i := 18) rfl))), (fun _ h => nomatch h)⟩)⟩), (fun _ h => List.mem_cons_of_mem _ (List.mem_append_right _ (h)))⟩)⟩) (by decide +kernel)
set_option maxRecDepth 20000 in
theorem gX8_leastGuess_X8_tickAt : GoodIn wsX8_leastGuess (wsV RX8 66 RX8 yX8_tickAt wsX8_tickAt) := goodIn_app (goodIn_of _ (by decide +kernel)) ggX8_leastGuess_X8_tickAt
set_option maxRecDepth 20000 in
theorem ggX8_leastGuess_X8_quickest : GoodIn wsX8_leastGuess wsX8_quickest := goodIn_sub (List.forall_mem_cons.mpr ⟨List.mem_cons_of_mem _ (List.mem_append_left _ (List.mem_append_left _ (List.mem_of_getElem? (l := wsX8_leastGuess_r1) (i := 22) rfl))), (List.forall_mem_append.mpr ⟨(List.forall_mem_cons.mpr ⟨List.mem_cons_of_mem _ (List.mem_append_left _ (List.mem_append_left _ (List.mem_of_getElem? (l := wsX8_leastGuess_r1) (i := 23) rfl))), (List.forall_mem_cons.mpr ⟨List.mem_cons_of_mem _ (List.mem_append_left _ (List.mem_append_right _ (List.mem_of_getElem? (l := wsX8_leastGuess_r2) (i := 0) rfl))), (List.forall_mem_cons.mpr ⟨List.mem_cons_of_mem _ (List.mem_append_left _ (List.mem_append_right _ (List.mem_of_getElem? (l := wsX8_leastGuess_r2) (i := 1) rfl))), (List.forall_mem_cons.mpr ⟨List.mem_cons_of_mem _ (List.mem_append_left _ (List.mem_append_right _ (List.mem_of_getElem? (l := wsX8_leastGuess_r2) (i := 2) rfl))), (List.forall_mem_cons.mpr ⟨List.mem_cons_of_mem _ (List.mem_append_left _ (List.mem_append_left _ (List.mem_of_getElem? (l := wsX8_leastGuess_r1) (i := 7) rfl))), (List.forall_mem_cons.mpr ⟨List.mem_cons_of_mem _ (List.mem_append_left _ (List.mem_append_right _ (List.mem_of_getElem? (l := wsX8_leastGuess_r2) (i := 3) rfl))), (List.forall_mem_cons.mpr ⟨List.mem_cons_of_mem _ (List.mem_append_left _ (List.mem_append_left _ (List.mem_of_getElem? (l := wsX8_leastGuess_r1) (i := 17) rfl))), (List.forall_mem_cons.mpr ⟨List.mem_cons_of_mem _ (List.mem_append_left _ (List.mem_append_right _ (List.mem_of_getElem? (l := wsX8_leastGuess_r2) (i := 4) rfl))), (List.forall_mem_cons.mpr ⟨List.mem_cons_of_mem _ (List.mem_append_left _ (List.mem_append_right _ (List.mem_of_getElem? (l := wsX8_leastGuess_r2) (i := 5) rfl))), (List.forall_mem_cons.mpr ⟨List.mem_cons_of_mem _ (List.mem_append_left _ (List.mem_append_right _ (List.mem_of_getElem? (l := wsX8_leastGuess_r2) (i := 6) rfl))), (List.forall_mem_cons.mpr ⟨List.mem_cons_of_mem _ (List.mem_append_left _ (List.mem_append_right _ (List.mem_of_getElem? (l := wsX8_leastGuess_r2) (i := 7) rfl))), (fun _ h => nomatch h)⟩)⟩)⟩)⟩)⟩)⟩)⟩)⟩)⟩)⟩)⟩), (fun _ h => List.mem_cons_of_mem _ (List.mem_append_right _ (h)))⟩)⟩) (by decide +kernel)
set_option maxRecDepth 20000 in
theorem gX8_leastGuess_X8_quickest : GoodIn wsX8_leastGuess (wsV RX8 83 RX8 yX8_quickest wsX8_quickest) := goodIn_app (goodIn_of _ (by decide +kernel)) ggX8_leastGuess_X8_quickest
set_option maxRecDepth 20000 in
theorem ggX8_leastGuess_X8_seenBehind : GoodIn wsX8_leastGuess wsX8_seenBehind := goodIn_sub (List.forall_mem_cons.mpr ⟨List.mem_cons_of_mem _ (List.mem_append_left _ (List.mem_append_right _ (List.mem_of_getElem? (l := wsX8_leastGuess_r2) (i := 11) rfl))), (List.forall_mem_append.mpr ⟨(List.forall_mem_cons.mpr ⟨List.mem_cons_of_mem _ (List.mem_append_left _ (List.mem_append_left _ (List.mem_of_getElem? (l := wsX8_leastGuess_r1) (i := 17) rfl))), (List.forall_mem_cons.mpr ⟨List.mem_cons_of_mem _ (List.mem_append_left _ (List.mem_append_left _ (List.mem_of_getElem? (l := wsX8_leastGuess_r1) (i := 9) rfl))), (List.forall_mem_cons.mpr ⟨List.mem_cons_of_mem _ (List.mem_append_left _ (List.mem_append_left _ (List.mem_of_getElem? (l := wsX8_leastGuess_r1) (i := 10) rfl))), (List.forall_mem_cons.mpr ⟨List.mem_cons_of_mem _ (List.mem_append_left _ (List.mem_append_left _ (List.mem_of_getElem? (l := wsX8_leastGuess_r1) (i := 11) rfl))), (List.forall_mem_cons.mpr ⟨List.mem_cons_of_mem _ (List.mem_append_left _ (List.mem_append_left _ (List.mem_of_getElem? (l := wsX8_leastGuess_r1) (i := 7) rfl))), (List.forall_mem_cons.mpr ⟨List.mem_cons_of_mem _ (List.mem_append_left _ (List.mem_append_left _ (List.mem_of_getElem? (l := wsX8_leastGuess_r1) (i := 12) rfl))), (List.forall_mem_cons.mpr ⟨List.mem_cons_of_mem _ (List.mem_append_left _ (List.mem_append_left _ (List.mem_of_getElem? (l := wsX8_leastGuess_r1) (i := 13) rfl))), (List.forall_mem_cons.mpr ⟨List.mem_cons_of_mem _ (List.mem_append_left _ (List.mem_append_left _ (List.mem_of_getElem? (l := wsX8_leastGuess_r1) (i := 14) rfl))), (List.forall_mem_cons.mpr ⟨List.mem_cons_of_mem _ (List.mem_append_left _ (List.mem_append_left _ (List.mem_of_getElem? (l := wsX8_leastGuess_r1) (i := 15) rfl))), (List.forall_mem_cons.mpr ⟨List.mem_cons_of_mem _ (List.mem_append_left _ (List.mem_append_left _ (List.mem_of_getElem? (l := wsX8_leastGuess_r1) (i := 16) rfl))), (List.forall_mem_cons.mpr ⟨List.mem_cons_of_mem _ (List.mem_append_left _ (List.mem_append_left _ (List.mem_of_getElem? (l := wsX8_leastGuess_r1) (i := 18) rfl))), (fun _ h => nomatch h)⟩)⟩)⟩)⟩)⟩)⟩)⟩)⟩)⟩)⟩)⟩), (fun _ h => List.mem_cons_of_mem _ (List.mem_append_right _ (h)))⟩)⟩) (by decide +kernel)
set_option maxRecDepth 20000 in
theorem gX8_leastGuess_X8_seenBehind : GoodIn wsX8_leastGuess (wsV RX8 86 RX8 yX8_seenBehind wsX8_seenBehind) := goodIn_app (goodIn_of _ (by decide +kernel)) ggX8_leastGuess_X8_seenBehind
set_option maxRecDepth 20000 in
theorem ggX8_leastGuess_X8_slowest : GoodIn wsX8_leastGuess wsX8_slowest := goodIn_sub (List.forall_mem_cons.mpr ⟨List.mem_cons_of_mem _ (List.mem_append_left _ (List.mem_append_right _ (List.mem_of_getElem? (l := wsX8_leastGuess_r2) (i := 15) rfl))), (List.forall_mem_append.mpr ⟨(List.forall_mem_cons.mpr ⟨List.mem_cons_of_mem _ (List.mem_append_left _ (List.mem_append_right _ (List.mem_of_getElem? (l := wsX8_leastGuess_r2) (i := 16) rfl))), (List.forall_mem_cons.mpr ⟨List.mem_cons_of_mem _ (List.mem_append_left _ (List.mem_append_right _ (List.mem_of_getElem? (l := wsX8_leastGuess_r2) (i := 0) rfl))), (List.forall_mem_cons.mpr ⟨List.mem_cons_of_mem _ (List.mem_append_left _ (List.mem_append_right _ (List.mem_of_getElem? (l := wsX8_leastGuess_r2) (i := 1) rfl))), (List.forall_mem_cons.mpr ⟨List.mem_cons_of_mem _ (List.mem_append_left _ (List.mem_append_right _ (List.mem_of_getElem? (l := wsX8_leastGuess_r2) (i := 2) rfl))), (List.forall_mem_cons.mpr ⟨List.mem_cons_of_mem _ (List.mem_append_left _ (List.mem_append_left _ (List.mem_of_getElem? (l := wsX8_leastGuess_r1) (i := 7) rfl))), (List.forall_mem_cons.mpr ⟨List.mem_cons_of_mem _ (List.mem_append_left _ (List.mem_append_right _ (List.mem_of_getElem? (l := wsX8_leastGuess_r2) (i := 3) rfl))), (List.forall_mem_cons.mpr ⟨List.mem_cons_of_mem _ (List.mem_append_left _ (List.mem_append_left _ (List.mem_of_getElem? (l := wsX8_leastGuess_r1) (i := 17) rfl))), (List.forall_mem_cons.mpr ⟨List.mem_cons_of_mem _ (List.mem_append_left _ (List.mem_append_right _ (List.mem_of_getElem? (l := wsX8_leastGuess_r2) (i := 4) rfl))), (List.forall_mem_cons.mpr ⟨List.mem_cons_of_mem _ (List.mem_append_left _ (List.mem_append_right _ (List.mem_of_getElem? (l := wsX8_leastGuess_r2) (i := 17) rfl))), (List.forall_mem_cons.mpr ⟨List.mem_cons_of_mem _ (List.mem_append_left _ (List.mem_append_right _ (List.mem_of_getElem? (l := wsX8_leastGuess_r2) (i := 6) rfl))), (List.forall_mem_cons.mpr ⟨List.mem_cons_of_mem _ (List.mem_append_left _ (List.mem_append_right _ (List.mem_of_getElem? (l := wsX8_leastGuess_r2) (i := 18) rfl))), (fun _ h => nomatch h)⟩)⟩)⟩)⟩)⟩)⟩)⟩)⟩)⟩)⟩)⟩), (fun _ h => List.mem_cons_of_mem _ (List.mem_append_right _ (h)))⟩)⟩) (by decide +kernel)
set_option maxRecDepth 20000 in
theorem gX8_leastGuess_X8_slowest : GoodIn wsX8_leastGuess (wsV RX8 89 RX8 yX8_slowest wsX8_slowest) := goodIn_app (goodIn_of _ (by decide +kernel)) ggX8_leastGuess_X8_slowest
theorem kX8_leastGuess_0 : (.methodLink RX8 92 Lib.Math.max.name : Cond) ∈ wsX8_leastGuess := List.mem_of_getElem? (i := 1) (by decide +kernel)
theorem kX8_leastGuess_1 : (.static Lib.Math.max.name : Cond) ∈ wsX8_leastGuess := List.mem_of_getElem? (i := 2) (by decide +kernel)
theorem kX8_leastGuess_2 : (.initialized "java/lang/Math" : Cond) ∈ wsX8_leastGuess := List.mem_of_getElem? (i := 3) (by decide +kernel)
theorem kX8_leastGuess_3 : (.code Lib.Math.max.name Lib.Math.max.code 2 (some .int) : Cond) ∈ wsX8_leastGuess := List.mem_of_getElem? (i := 4) (by decide +kernel)
set_option maxHeartbeats 4000000 in
set_option maxRecDepth 100000 in
theorem mX8_leastGuess (l : Launch) (D : va_G) (cB cI cZ : ClassId) (a_t : Nat) (a_t_ticks : Nat) (a_t_places : Nat) (t_mats : Int32) (t_least : Int32) (t_greatest : Int32) (t_places : Nat → Int32) (t_ticks : Nat → Int32) (sz : Nat) (x1 : Int32) (N : Nat) (r0 : Int32) (h : fX8_leastGuess N t_greatest t_least t_mats t_places t_ticks x1 = some (r0)) : Met l yX8_leastGuess wsX8_leastGuess ({ frames := 3, cells := 0, slots := 0, locals := 64 } : Room) (va_Pc [.ref a_t, .int x1] (zPre D (zT cB cI cZ) [(a_t, .inr (8, [.ref a_t_ticks, .ref a_t_places, .int t_mats, .int t_least, .int t_greatest])), (a_t_places, .inl (cI, 12, .inl t_places)), (a_t_ticks, .inl (cI, 12, .inl t_ticks))] sz)) (zQi r0 D (zT cB cI cZ) [(a_t, .inr (8, [.ref a_t_ticks, .ref a_t_places, .int t_mats, .int t_least, .int t_greatest])), (a_t_places, .inl (cI, 12, .inl t_places)), (a_t_ticks, .inl (cI, 12, .inl t_ticks))] (va_A [(a_t, .inr (8, [.ref a_t_ticks, .ref a_t_places, .int t_mats, .int t_least, .int t_greatest])), (a_t_places, .inl (cI, 12, .inl t_places)), (a_t_ticks, .inl (cI, 12, .inl t_ticks))] sz)) 0 0 (va_A [(a_t, .inr (8, [.ref a_t_ticks, .ref a_t_places, .int t_mats, .int t_least, .int t_greatest])), (a_t_places, .inl (cI, 12, .inl t_places)), (a_t_ticks, .inl (cI, 12, .inl t_ticks))] sz) := by
  refine Met.ofW (cc := cX8_leastGuess) (maxL := 5) (ret := (some .int)) (by decide) rfl ?_
  intro p e s m args below meth c s₁ B hml hv
  obtain ⟨rfl, hsz, hP, hK, hN, hZ, hD0⟩ := hv
  have hx := B.exec
  have hb := B.bytes
  have hr := B.returns
  have hts := atoms_spec (ws := wsX8_leastGuess) B.pre
  have hown : s.vm.findClass RX8 = some m.cls := findClass_of_methodNamed B.named
  have hlocks := B.notSynchronized
  subst hsz
  have hD := hD0.self (sz := s.heap.size)
  generalize hAe : va_A [(a_t, .inr (8, [.ref a_t_ticks, .ref a_t_places, .int t_mats, .int t_least, .int t_greatest])), (a_t_places, .inl (cI, 12, .inl t_places)), (a_t_ticks, .inl (cI, 12, .inl t_ticks))] s.heap.size = A at hD hZ ⊢
  have hA : ∀ q : Nat, s.heap.size ≤ q → A q := fun q h => by rw [← hAe]; exact Or.inr h
  have hS : va_S A s.heap s.heap [] := va_S.rf
  have hl := lv_entry ([.ref a_t, .int x1]) (n := 5) (Nat.le_of_ble_eq_true rfl)
  rw [lg_entry_eq]
  generalize (lg_sl ([.ref a_t, .int x1]) ++ List.replicate (5 - (lg_sl ([.ref a_t, .int x1])).length) Slot.unset).toArray = ls at hl ⊢
  have hl : lv_has ls 5 [(0, .ref a_t), (1, .int x1)] := hl
  unfold fX8_leastGuess at h
  refine lv_aload_n hx hb dX8_leastGuess_0 rfl (lv_at hl 0 rfl) ?_
  refine lv_iload_n hx hb dX8_leastGuess_1 rfl (lv_at hl 1 rfl) ?_
  obtain ⟨r1, e2, h⟩ := zz_b h
  refine zVi (As := [.int x1]) (rest := []) (C := RX8) (wr := [(a_t_places, .inl (cI, 12, .inl t_places))]) [0, 2] [1] 0 ⟨hx, hb, hml, hown, hts⟩ (mX8_seenAhead l D cB cI cZ a_t a_t_ticks a_t_places t_mats t_least t_greatest t_ticks s.heap.size x1 N r1 e2) (cwV 1 hts gX8_leastGuess_X8_seenAhead rfl rfl rfl (by decide +kernel) ⟨Nat.le_of_ble_eq_true rfl, Nat.le_of_ble_eq_true rfl⟩) hK hN hZ hP hD hS hA rfl rfl rfl rfl rfl rfl rfl rfl hl.1 rfl (lv_room (Nat.le_of_ble_eq_true rfl)) dX8_leastGuess_2 ⟨Nat.le_of_ble_eq_true rfl, Nat.le_of_ble_eq_true rfl⟩ (fun H locs hP hD hS => ?_)
  have hP : va_P D vwCl [(a_t_places, .inl (cI, 12, .inl t_places)), (a_t, .inr (8, [.ref a_t_ticks, .ref a_t_places, .int t_mats, .int t_least, .int t_greatest])), (a_t_ticks, .inl (cI, 12, .inl t_ticks))] H := hP
  have hD : va_D A [(a_t_places, .inl (cI, 12, .inl t_places)), (a_t, .inr (8, [.ref a_t_ticks, .ref a_t_places, .int t_mats, .int t_least, .int t_greatest])), (a_t_ticks, .inl (cI, 12, .inl t_ticks))] := hD
  refine lv_istore_n (lv' := [(2, .int r1), (0, .ref a_t), (1, .int x1)]) hx hb dX8_leastGuess_5 rfl hl (by decide) rfl (fun ls hl => ?_)
  refine lv_aload_n hx hb dX8_leastGuess_6 rfl (lv_at hl 1 rfl) ?_
  refine lv_iload_n hx hb dX8_leastGuess_7 rfl (lv_at hl 2 rfl) ?_
  obtain ⟨b3, e4, h⟩ := zz_b h
  refine zVi (As := [.int x1]) (rest := []) (C := RX8) (wr := [(a_t_places, .inl (cI, 12, .inl t_places))]) [1, 2] [0] 0 ⟨hx, hb, hml, hown, hts⟩ (mX8_isSeen l D cB cI cZ a_t a_t_ticks a_t_places t_mats t_least t_greatest t_ticks H.size x1 b3 e4) (cwV 1 hts gX8_leastGuess_X8_isSeen rfl rfl rfl (by decide +kernel) ⟨Nat.le_of_ble_eq_true rfl, Nat.le_of_ble_eq_true rfl⟩) hK hN hZ hP hD hS hA rfl rfl rfl rfl rfl rfl rfl rfl hl.1 rfl (lv_room (Nat.le_of_ble_eq_true rfl)) dX8_leastGuess_8 ⟨Nat.le_of_ble_eq_true rfl, Nat.le_of_ble_eq_true rfl⟩ (fun H locs hP hD hS => ?_)
  have hP : va_P D vwCl [(a_t_places, .inl (cI, 12, .inl t_places)), (a_t, .inr (8, [.ref a_t_ticks, .ref a_t_places, .int t_mats, .int t_least, .int t_greatest])), (a_t_ticks, .inl (cI, 12, .inl t_ticks))] H := hP
  have hD : va_D A [(a_t_places, .inl (cI, 12, .inl t_places)), (a_t, .inr (8, [.ref a_t_ticks, .ref a_t_places, .int t_mats, .int t_least, .int t_greatest])), (a_t_ticks, .inl (cI, 12, .inl t_ticks))] := hD
  refine lv_if_ne (tgt := 19) hx hb dX8_leastGuess_11 (by decide) (fun c5 => ?_) (fun c5 => ?_)
  · have h := zz_f h c5
    refine lv_aload_n hx hb dX8_leastGuess_19 rfl (lv_at hl 1 rfl) ?_
    refine lv_iload_n hx hb dX8_leastGuess_20 rfl (lv_at hl 2 rfl) ?_
    obtain ⟨r6, e7, h⟩ := zz_b h
    refine zVi (As := [.int x1]) (rest := []) (C := RX8) (wr := [(a_t_places, .inl (cI, 12, .inl t_places))]) [1, 2] [0] 0 ⟨hx, hb, hml, hown, hts⟩ (mX8_tickAt l D cB cI cZ a_t a_t_ticks a_t_places t_mats t_least t_greatest t_ticks H.size x1 r6 e7) (cwV 1 hts gX8_leastGuess_X8_tickAt rfl rfl rfl (by decide +kernel) ⟨Nat.le_of_ble_eq_true rfl, Nat.le_of_ble_eq_true rfl⟩) hK hN hZ hP hD hS hA rfl rfl rfl rfl rfl rfl rfl rfl hl.1 rfl (lv_room (Nat.le_of_ble_eq_true rfl)) dX8_leastGuess_21 ⟨Nat.le_of_ble_eq_true rfl, Nat.le_of_ble_eq_true rfl⟩ (fun H locs hP hD hS => ?_)
    have hP : va_P D vwCl [(a_t_places, .inl (cI, 12, .inl t_places)), (a_t, .inr (8, [.ref a_t_ticks, .ref a_t_places, .int t_mats, .int t_least, .int t_greatest])), (a_t_ticks, .inl (cI, 12, .inl t_ticks))] H := hP
    have hD : va_D A [(a_t_places, .inl (cI, 12, .inl t_places)), (a_t, .inr (8, [.ref a_t_ticks, .ref a_t_places, .int t_mats, .int t_least, .int t_greatest])), (a_t_ticks, .inl (cI, 12, .inl t_ticks))] := hD
    have j0_ := Option.some.inj h
    subst j0_
    exact W.iret (v := r6) hx hb hr (fun t ht hW => ⟨⟨_, (), rfl, rfl, zPost.of hP hD hK ht hW [1, 0, 2] rfl rfl rfl⟩, hS.F ht⟩) hS.2.2 dX8_leastGuess_24
  · have h := zz_t h c5
    refine lv_iload_n hx hb dX8_leastGuess_14 rfl (lv_at hl 0 rfl) ?_
    refine lv_iconst (v := (-1 : Int32)) hx hb dX8_leastGuess_15 rfl ?_
    refine lv_icmp_ne (tgt := 25) hx hb dX8_leastGuess_16 (by decide) (fun c8 => ?_) (fun c8 => ?_)
    · have h := zz_f h c8
      refine lv_aload_n hx hb dX8_leastGuess_25 rfl (lv_at hl 1 rfl) ?_
      refine lv_iload_n hx hb dX8_leastGuess_26 rfl (lv_at hl 0 rfl) ?_
      obtain ⟨r9, e10, h⟩ := zz_b h
      refine zVi (As := [.int r1]) (rest := []) (C := RX8) (wr := [(a_t_places, .inl (cI, 12, .inl t_places))]) [1, 2] [0] 0 ⟨hx, hb, hml, hown, hts⟩ (mX8_tickAt l D cB cI cZ a_t a_t_ticks a_t_places t_mats t_least t_greatest t_ticks H.size r1 r9 e10) (cwV 1 hts gX8_leastGuess_X8_tickAt rfl rfl rfl (by decide +kernel) ⟨Nat.le_of_ble_eq_true rfl, Nat.le_of_ble_eq_true rfl⟩) hK hN hZ hP hD hS hA rfl rfl rfl rfl rfl rfl rfl rfl hl.1 rfl (lv_room (Nat.le_of_ble_eq_true rfl)) dX8_leastGuess_27 ⟨Nat.le_of_ble_eq_true rfl, Nat.le_of_ble_eq_true rfl⟩ (fun H locs hP hD hS => ?_)
      have hP : va_P D vwCl [(a_t_places, .inl (cI, 12, .inl t_places)), (a_t, .inr (8, [.ref a_t_ticks, .ref a_t_places, .int t_mats, .int t_least, .int t_greatest])), (a_t_ticks, .inl (cI, 12, .inl t_ticks))] H := hP
      have hD : va_D A [(a_t_places, .inl (cI, 12, .inl t_places)), (a_t, .inr (8, [.ref a_t_ticks, .ref a_t_places, .int t_mats, .int t_least, .int t_greatest])), (a_t_ticks, .inl (cI, 12, .inl t_ticks))] := hD
      refine lv_aload_n hx hb dX8_leastGuess_30 rfl (lv_at hl 1 rfl) ?_
      refine lv_iload_n hx hb dX8_leastGuess_31 rfl (lv_at hl 0 rfl) ?_
      refine lv_iload_n hx hb dX8_leastGuess_32 rfl (lv_at hl 2 rfl) ?_
      obtain ⟨r11, e12, h⟩ := zz_b h
      refine zVi (As := [.int r1, .int x1]) (rest := [.int r9]) (C := RX8) (wr := [(a_t_ticks, .inl (cI, 12, .inl t_ticks))]) [1, 0] [2] 0 ⟨hx, hb, hml, hown, hts⟩ (mX8_quickest l D cB cI cZ a_t a_t_ticks a_t_places t_mats t_least t_greatest t_places H.size r1 x1 r11 e12) (cwV 2 hts gX8_leastGuess_X8_quickest rfl rfl rfl (by decide +kernel) ⟨Nat.le_of_ble_eq_true rfl, Nat.le_of_ble_eq_true rfl⟩) hK hN hZ hP hD hS hA rfl rfl rfl rfl rfl rfl rfl rfl hl.1 rfl (lv_room (Nat.le_of_ble_eq_true rfl)) dX8_leastGuess_33 ⟨Nat.le_of_ble_eq_true rfl, Nat.le_of_ble_eq_true rfl⟩ (fun H locs hP hD hS => ?_)
      have hP : va_P D vwCl [(a_t_ticks, .inl (cI, 12, .inl t_ticks)), (a_t, .inr (8, [.ref a_t_ticks, .ref a_t_places, .int t_mats, .int t_least, .int t_greatest])), (a_t_places, .inl (cI, 12, .inl t_places))] H := hP
      have hD : va_D A [(a_t_ticks, .inl (cI, 12, .inl t_ticks)), (a_t, .inr (8, [.ref a_t_ticks, .ref a_t_places, .int t_mats, .int t_least, .int t_greatest])), (a_t_places, .inl (cI, 12, .inl t_places))] := hD
      refine lv_iadd hx hb dX8_leastGuess_36 ?_
      refine lv_istore_n (lv' := [(3, .int (r9 + r11)), (2, .int r1), (0, .ref a_t), (1, .int x1)]) hx hb dX8_leastGuess_37 rfl hl (by decide) rfl (fun ls hl => ?_)
      refine lv_aload_n hx hb dX8_leastGuess_38 rfl (lv_at hl 2 rfl) ?_
      refine lv_iload_n hx hb dX8_leastGuess_39 rfl (lv_at hl 3 rfl) ?_
      obtain ⟨r13, e14, h⟩ := zz_b h
      refine zVi (As := [.int x1]) (rest := []) (C := RX8) (wr := [(a_t_places, .inl (cI, 12, .inl t_places))]) [1, 0] [2] 0 ⟨hx, hb, hml, hown, hts⟩ (mX8_seenBehind l D cB cI cZ a_t a_t_ticks a_t_places t_mats t_least t_greatest t_ticks H.size x1 N r13 e14) (cwV 1 hts gX8_leastGuess_X8_seenBehind rfl rfl rfl (by decide +kernel) ⟨Nat.le_of_ble_eq_true rfl, Nat.le_of_ble_eq_true rfl⟩) hK hN hZ hP hD hS hA rfl rfl rfl rfl rfl rfl rfl rfl hl.1 rfl (lv_room (Nat.le_of_ble_eq_true rfl)) dX8_leastGuess_40 ⟨Nat.le_of_ble_eq_true rfl, Nat.le_of_ble_eq_true rfl⟩ (fun H locs hP hD hS => ?_)
      have hP : va_P D vwCl [(a_t_places, .inl (cI, 12, .inl t_places)), (a_t, .inr (8, [.ref a_t_ticks, .ref a_t_places, .int t_mats, .int t_least, .int t_greatest])), (a_t_ticks, .inl (cI, 12, .inl t_ticks))] H := hP
      have hD : va_D A [(a_t_places, .inl (cI, 12, .inl t_places)), (a_t, .inr (8, [.ref a_t_ticks, .ref a_t_places, .int t_mats, .int t_least, .int t_greatest])), (a_t_ticks, .inl (cI, 12, .inl t_ticks))] := hD
      refine lv_istore (lv' := [(4, .int r13), (3, .int (r9 + r11)), (2, .int r1), (0, .ref a_t), (1, .int x1)]) hx hb dX8_leastGuess_43 hl (by decide) rfl (fun ls hl => ?_)
      refine lv_iload hx hb dX8_leastGuess_45 (lv_at hl 0 rfl) ?_
      refine lv_iconst (v := (-1 : Int32)) hx hb dX8_leastGuess_47 rfl ?_
      refine lv_icmp_eq (tgt := 70) hx hb dX8_leastGuess_48 (by decide) (fun c15 => ?_) (fun c15 => ?_)
      · have h := zz_t h c15
        refine lv_iload_n hx hb dX8_leastGuess_70 rfl (lv_at hl 1 rfl) ?_
        refine lv_iconst (v := (nI 0)) hx hb dX8_leastGuess_71 rfl ?_
        refine va_mmax hx hb (hml.trans hl.1.symm) hown (hts _ kX8_leastGuess_0) (hts _ kX8_leastGuess_1) (hts _ kX8_leastGuess_2) (hts _ kX8_leastGuess_3) (Nat.le_of_ble_eq_true rfl) (Nat.le_of_ble_eq_true rfl) (Nat.le_of_ble_eq_true rfl) (Nat.le_of_ble_eq_true rfl) dX8_leastGuess_72 ?_
        have j0_ := Option.some.inj h
        subst j0_
        exact W.iret (v := (if (r9 + r11) < (nI 0) then (nI 0) else (r9 + r11))) hx hb hr (fun t ht hW => ⟨⟨_, (), rfl, rfl, zPost.of hP hD hK ht hW [1, 0, 2] rfl rfl rfl⟩, hS.F ht⟩) hS.2.2 dX8_leastGuess_75
      · have h := zz_f h c15
        refine lv_iload_n hx hb dX8_leastGuess_51 rfl (lv_at hl 1 rfl) ?_
        refine lv_aload_n hx hb dX8_leastGuess_52 rfl (lv_at hl 3 rfl) ?_
        refine lv_iload hx hb dX8_leastGuess_53 (lv_at hl 0 rfl) ?_
        obtain ⟨r16, e17, h⟩ := zz_b h
        refine zVi (As := [.int r13]) (rest := [.int (r9 + r11)]) (C := RX8) (wr := [(a_t_places, .inl (cI, 12, .inl t_places))]) [1, 2] [0] 0 ⟨hx, hb, hml, hown, hts⟩ (mX8_tickAt l D cB cI cZ a_t a_t_ticks a_t_places t_mats t_least t_greatest t_ticks H.size r13 r16 e17) (cwV 1 hts gX8_leastGuess_X8_tickAt rfl rfl rfl (by decide +kernel) ⟨Nat.le_of_ble_eq_true rfl, Nat.le_of_ble_eq_true rfl⟩) hK hN hZ hP hD hS hA rfl rfl rfl rfl rfl rfl rfl rfl hl.1 rfl (lv_room (Nat.le_of_ble_eq_true rfl)) dX8_leastGuess_55 ⟨Nat.le_of_ble_eq_true rfl, Nat.le_of_ble_eq_true rfl⟩ (fun H locs hP hD hS => ?_)
        have hP : va_P D vwCl [(a_t_places, .inl (cI, 12, .inl t_places)), (a_t, .inr (8, [.ref a_t_ticks, .ref a_t_places, .int t_mats, .int t_least, .int t_greatest])), (a_t_ticks, .inl (cI, 12, .inl t_ticks))] H := hP
        have hD : va_D A [(a_t_places, .inl (cI, 12, .inl t_places)), (a_t, .inr (8, [.ref a_t_ticks, .ref a_t_places, .int t_mats, .int t_least, .int t_greatest])), (a_t_ticks, .inl (cI, 12, .inl t_ticks))] := hD
        refine lv_aload_n hx hb dX8_leastGuess_58 rfl (lv_at hl 3 rfl) ?_
        refine lv_iload_n hx hb dX8_leastGuess_59 rfl (lv_at hl 4 rfl) ?_
        refine lv_iload hx hb dX8_leastGuess_60 (lv_at hl 0 rfl) ?_
        obtain ⟨r18, e19, h⟩ := zz_b h
        refine zVi (As := [.int x1, .int r13]) (rest := [.int r16, .int (r9 + r11)]) (C := RX8) (wr := [(a_t_ticks, .inl (cI, 12, .inl t_ticks))]) [1, 0] [2] 0 ⟨hx, hb, hml, hown, hts⟩ (mX8_slowest l D cB cI cZ a_t a_t_ticks a_t_places t_mats t_least t_greatest t_places H.size x1 r13 r18 e19) (cwV 2 hts gX8_leastGuess_X8_slowest rfl rfl rfl (by decide +kernel) ⟨Nat.le_of_ble_eq_true rfl, Nat.le_of_ble_eq_true rfl⟩) hK hN hZ hP hD hS hA rfl rfl rfl rfl rfl rfl rfl rfl hl.1 rfl (lv_room (Nat.le_of_ble_eq_true rfl)) dX8_leastGuess_62 ⟨Nat.le_of_ble_eq_true rfl, Nat.le_of_ble_eq_true rfl⟩ (fun H locs hP hD hS => ?_)
        have hP : va_P D vwCl [(a_t_ticks, .inl (cI, 12, .inl t_ticks)), (a_t, .inr (8, [.ref a_t_ticks, .ref a_t_places, .int t_mats, .int t_least, .int t_greatest])), (a_t_places, .inl (cI, 12, .inl t_places))] H := hP
        have hD : va_D A [(a_t_ticks, .inl (cI, 12, .inl t_ticks)), (a_t, .inr (8, [.ref a_t_ticks, .ref a_t_places, .int t_mats, .int t_least, .int t_greatest])), (a_t_places, .inl (cI, 12, .inl t_places))] := hD
        refine lv_isub hx hb dX8_leastGuess_65 ?_
        refine va_mmax hx hb (hml.trans hl.1.symm) hown (hts _ kX8_leastGuess_0) (hts _ kX8_leastGuess_1) (hts _ kX8_leastGuess_2) (hts _ kX8_leastGuess_3) (Nat.le_of_ble_eq_true rfl) (Nat.le_of_ble_eq_true rfl) (Nat.le_of_ble_eq_true rfl) (Nat.le_of_ble_eq_true rfl) dX8_leastGuess_66 ?_
        refine lv_istore_n (lv' := [(3, .int (if (r9 + r11) < (r16 - r18) then (r16 - r18) else (r9 + r11))), (4, .int r13), (2, .int r1), (0, .ref a_t), (1, .int x1)]) hx hb dX8_leastGuess_69 rfl hl (by decide) rfl (fun ls hl => ?_)
        refine lv_iload_n hx hb dX8_leastGuess_70 rfl (lv_at hl 0 rfl) ?_
        refine lv_iconst (v := (nI 0)) hx hb dX8_leastGuess_71 rfl ?_
        refine va_mmax hx hb (hml.trans hl.1.symm) hown (hts _ kX8_leastGuess_0) (hts _ kX8_leastGuess_1) (hts _ kX8_leastGuess_2) (hts _ kX8_leastGuess_3) (Nat.le_of_ble_eq_true rfl) (Nat.le_of_ble_eq_true rfl) (Nat.le_of_ble_eq_true rfl) (Nat.le_of_ble_eq_true rfl) dX8_leastGuess_72 ?_
        have j0_ := Option.some.inj h
        subst j0_
        exact W.iret (v := (if (if (r9 + r11) < (r16 - r18) then (r16 - r18) else (r9 + r11)) < (nI 0) then (nI 0) else (if (r9 + r11) < (r16 - r18) then (r16 - r18) else (r9 + r11)))) hx hb hr (fun t ht hW => ⟨⟨_, (), rfl, rfl, zPost.of hP hD hK ht hW [1, 2, 0] rfl rfl rfl⟩, hS.F ht⟩) hS.2.2 dX8_leastGuess_75
    · have h := zz_t h c8
      refine lv_aload_n hx hb dX8_leastGuess_19 rfl (lv_at hl 1 rfl) ?_
      refine lv_iload_n hx hb dX8_leastGuess_20 rfl (lv_at hl 2 rfl) ?_
      obtain ⟨r20, e21, h⟩ := zz_b h
      refine zVi (As := [.int x1]) (rest := []) (C := RX8) (wr := [(a_t_places, .inl (cI, 12, .inl t_places))]) [1, 2] [0] 0 ⟨hx, hb, hml, hown, hts⟩ (mX8_tickAt l D cB cI cZ a_t a_t_ticks a_t_places t_mats t_least t_greatest t_ticks H.size x1 r20 e21) (cwV 1 hts gX8_leastGuess_X8_tickAt rfl rfl rfl (by decide +kernel) ⟨Nat.le_of_ble_eq_true rfl, Nat.le_of_ble_eq_true rfl⟩) hK hN hZ hP hD hS hA rfl rfl rfl rfl rfl rfl rfl rfl hl.1 rfl (lv_room (Nat.le_of_ble_eq_true rfl)) dX8_leastGuess_21 ⟨Nat.le_of_ble_eq_true rfl, Nat.le_of_ble_eq_true rfl⟩ (fun H locs hP hD hS => ?_)
      have hP : va_P D vwCl [(a_t_places, .inl (cI, 12, .inl t_places)), (a_t, .inr (8, [.ref a_t_ticks, .ref a_t_places, .int t_mats, .int t_least, .int t_greatest])), (a_t_ticks, .inl (cI, 12, .inl t_ticks))] H := hP
      have hD : va_D A [(a_t_places, .inl (cI, 12, .inl t_places)), (a_t, .inr (8, [.ref a_t_ticks, .ref a_t_places, .int t_mats, .int t_least, .int t_greatest])), (a_t_ticks, .inl (cI, 12, .inl t_ticks))] := hD
      have j0_ := Option.some.inj h
      subst j0_
      exact W.iret (v := r20) hx hb hr (fun t ht hW => ⟨⟨_, (), rfl, rfl, zPost.of hP hD hK ht hW [1, 0, 2] rfl rfl rfl⟩, hS.F ht⟩) hS.2.2 dX8_leastGuess_24
/-! RunDesk$Trail.greatestGuess -/
theorem dX8_greatestGuess_0 : decode cX8_greatestGuess 0 = .ok (.aload_n 0, 1) := by decide +kernel
theorem dX8_greatestGuess_1 : decode cX8_greatestGuess 1 = .ok (.iload_n 1, 1) := by decide +kernel
theorem dX8_greatestGuess_2 : decode cX8_greatestGuess 2 = .ok (.invokevirtual 80, 3) := by decide +kernel
theorem dX8_greatestGuess_5 : decode cX8_greatestGuess 5 = .ok (.istore_n 2, 1) := by decide +kernel
theorem dX8_greatestGuess_6 : decode cX8_greatestGuess 6 = .ok (.aload_n 0, 1) := by decide +kernel
theorem dX8_greatestGuess_7 : decode cX8_greatestGuess 7 = .ok (.iload_n 1, 1) := by decide +kernel
theorem dX8_greatestGuess_8 : decode cX8_greatestGuess 8 = .ok (.invokevirtual 69, 3) := by decide +kernel
theorem dX8_greatestGuess_11 : decode cX8_greatestGuess 11 = .ok (.ifCond .ne 8, 3) := by decide +kernel
theorem dX8_greatestGuess_14 : decode cX8_greatestGuess 14 = .ok (.iload_n 2, 1) := by decide +kernel
theorem dX8_greatestGuess_15 : decode cX8_greatestGuess 15 = .ok (.iconst (-1), 1) := by decide +kernel
theorem dX8_greatestGuess_16 : decode cX8_greatestGuess 16 = .ok (.if_icmp .ne 9, 3) := by decide +kernel
theorem dX8_greatestGuess_19 : decode cX8_greatestGuess 19 = .ok (.aload_n 0, 1) := by decide +kernel
theorem dX8_greatestGuess_20 : decode cX8_greatestGuess 20 = .ok (.iload_n 1, 1) := by decide +kernel
theorem dX8_greatestGuess_21 : decode cX8_greatestGuess 21 = .ok (.invokevirtual 66, 3) := by decide +kernel
theorem dX8_greatestGuess_24 : decode cX8_greatestGuess 24 = .ok (.ireturn, 1) := by decide +kernel
theorem dX8_greatestGuess_25 : decode cX8_greatestGuess 25 = .ok (.aload_n 0, 1) := by decide +kernel
theorem dX8_greatestGuess_26 : decode cX8_greatestGuess 26 = .ok (.iload_n 2, 1) := by decide +kernel
theorem dX8_greatestGuess_27 : decode cX8_greatestGuess 27 = .ok (.invokevirtual 66, 3) := by decide +kernel
theorem dX8_greatestGuess_30 : decode cX8_greatestGuess 30 = .ok (.aload_n 0, 1) := by decide +kernel
theorem dX8_greatestGuess_31 : decode cX8_greatestGuess 31 = .ok (.iload_n 2, 1) := by decide +kernel
theorem dX8_greatestGuess_32 : decode cX8_greatestGuess 32 = .ok (.iload_n 1, 1) := by decide +kernel
theorem dX8_greatestGuess_33 : decode cX8_greatestGuess 33 = .ok (.invokevirtual 89, 3) := by decide +kernel
theorem dX8_greatestGuess_36 : decode cX8_greatestGuess 36 = .ok (.iadd, 1) := by decide +kernel
theorem dX8_greatestGuess_37 : decode cX8_greatestGuess 37 = .ok (.istore_n 3, 1) := by decide +kernel
theorem dX8_greatestGuess_38 : decode cX8_greatestGuess 38 = .ok (.aload_n 0, 1) := by decide +kernel
theorem dX8_greatestGuess_39 : decode cX8_greatestGuess 39 = .ok (.iload_n 1, 1) := by decide +kernel
theorem dX8_greatestGuess_40 : decode cX8_greatestGuess 40 = .ok (.invokevirtual 86, 3) := by decide +kernel
theorem dX8_greatestGuess_43 : decode cX8_greatestGuess 43 = .ok (.istore 4, 2) := by decide +kernel
theorem dX8_greatestGuess_45 : decode cX8_greatestGuess 45 = .ok (.iload 4, 2) := by decide +kernel
theorem dX8_greatestGuess_47 : decode cX8_greatestGuess 47 = .ok (.iconst (-1), 1) := by decide +kernel
theorem dX8_greatestGuess_48 : decode cX8_greatestGuess 48 = .ok (.if_icmp .eq 22, 3) := by decide +kernel
theorem dX8_greatestGuess_51 : decode cX8_greatestGuess 51 = .ok (.iload_n 3, 1) := by decide +kernel
theorem dX8_greatestGuess_52 : decode cX8_greatestGuess 52 = .ok (.aload_n 0, 1) := by decide +kernel
theorem dX8_greatestGuess_53 : decode cX8_greatestGuess 53 = .ok (.iload 4, 2) := by decide +kernel
theorem dX8_greatestGuess_55 : decode cX8_greatestGuess 55 = .ok (.invokevirtual 66, 3) := by decide +kernel
theorem dX8_greatestGuess_58 : decode cX8_greatestGuess 58 = .ok (.aload_n 0, 1) := by decide +kernel
theorem dX8_greatestGuess_59 : decode cX8_greatestGuess 59 = .ok (.iload_n 1, 1) := by decide +kernel
theorem dX8_greatestGuess_60 : decode cX8_greatestGuess 60 = .ok (.iload 4, 2) := by decide +kernel
theorem dX8_greatestGuess_62 : decode cX8_greatestGuess 62 = .ok (.invokevirtual 83, 3) := by decide +kernel
theorem dX8_greatestGuess_65 : decode cX8_greatestGuess 65 = .ok (.isub, 1) := by decide +kernel
theorem dX8_greatestGuess_66 : decode cX8_greatestGuess 66 = .ok (.invokestatic 97, 3) := by decide +kernel
theorem dX8_greatestGuess_69 : decode cX8_greatestGuess 69 = .ok (.istore_n 3, 1) := by decide +kernel
theorem dX8_greatestGuess_70 : decode cX8_greatestGuess 70 = .ok (.iload_n 3, 1) := by decide +kernel
theorem dX8_greatestGuess_71 : decode cX8_greatestGuess 71 = .ok (.iconst 0, 1) := by decide +kernel
theorem dX8_greatestGuess_72 : decode cX8_greatestGuess 72 = .ok (.invokestatic 92, 3) := by decide +kernel
theorem dX8_greatestGuess_75 : decode cX8_greatestGuess 75 = .ok (.ireturn, 1) := by decide +kernel
set_option maxRecDepth 20000 in
theorem ggX8_greatestGuess_X8_seenAhead : GoodIn wsX8_greatestGuess wsX8_seenAhead := goodIn_sub (List.forall_mem_cons.mpr ⟨List.mem_cons_of_mem _ (List.mem_append_left _ (List.mem_append_left _ (List.mem_of_getElem? (l := wsX8_greatestGuess_r1) (i := 11) rfl))), (List.forall_mem_append.mpr ⟨(List.forall_mem_cons.mpr ⟨List.mem_cons_of_mem _ (List.mem_append_left _ (List.mem_append_left _ (List.mem_of_getElem? (l := wsX8_greatestGuess_r1) (i := 12) rfl))), (List.forall_mem_cons.mpr ⟨List.mem_cons_of_mem _ (List.mem_append_left _ (List.mem_append_left _ (List.mem_of_getElem? (l := wsX8_greatestGuess_r1) (i := 13) rfl))), (List.forall_mem_cons.mpr ⟨List.mem_cons_of_mem _ (List.mem_append_left _ (List.mem_append_left _ (List.mem_of_getElem? (l := wsX8_greatestGuess_r1) (i := 14) rfl))), (List.forall_mem_cons.mpr ⟨List.mem_cons_of_mem _ (List.mem_append_left _ (List.mem_append_left _ (List.mem_of_getElem? (l := wsX8_greatestGuess_r1) (i := 10) rfl))), (List.forall_mem_cons.mpr ⟨List.mem_cons_of_mem _ (List.mem_append_left _ (List.mem_append_left _ (List.mem_of_getElem? (l := wsX8_greatestGuess_r1) (i := 15) rfl))), (List.forall_mem_cons.mpr ⟨List.mem_cons_of_mem _ (List.mem_append_left _ (List.mem_append_left _ (List.mem_of_getElem? (l := wsX8_greatestGuess_r1) (i := 16) rfl))), (List.forall_mem_cons.mpr ⟨List.mem_cons_of_mem _ (List.mem_append_left _ (List.mem_append_left _ (List.mem_of_getElem? (l := wsX8_greatestGuess_r1) (i := 17) rfl))), (List.forall_mem_cons.mpr ⟨List.mem_cons_of_mem _ (List.mem_append_left _ (List.mem_append_left _ (List.mem_of_getElem? (l := wsX8_greatestGuess_r1) (i := 18) rfl))), (List.forall_mem_cons.mpr ⟨List.mem_cons_of_mem _ (List.mem_append_left _ (List.mem_append_left _ (List.mem_of_getElem? (l := wsX8_greatestGuess_r1) (i := 19) rfl))), (List.forall_mem_cons.mpr ⟨List.mem_cons_of_mem _ (List.mem_append_left _ (List.mem_append_left _ (List.mem_of_getElem? (l := wsX8_greatestGuess_r1) (i := 20) rfl))), (List.forall_mem_cons.mpr ⟨List.mem_cons_of_mem _ (List.mem_append_left _ (List.mem_append_left _ (List.mem_of_getElem? (l := wsX8_greatestGuess_r1) (i := 21) rfl))), (fun _ h => nomatch h)⟩)⟩)⟩)⟩)⟩)⟩)⟩)⟩)⟩)⟩)⟩), (fun _ h => List.mem_cons_of_mem _ (List.mem_append_right _ (h)))⟩)⟩) (by decide +kernel)
set_option maxRecDepth 20000 in
theorem gX8_greatestGuess_X8_seenAhead : GoodIn wsX8_greatestGuess (wsV RX8 80 RX8 yX8_seenAhead wsX8_seenAhead) := goodIn_app (goodIn_of _ (by decide +kernel)) ggX8_greatestGuess_X8_seenAhead
set_option maxRecDepth 20000 in
theorem ggX8_greatestGuess_X8_isSeen : GoodIn wsX8_greatestGuess wsX8_isSeen := goodIn_sub (List.forall_mem_cons.mpr ⟨List.mem_cons_of_mem _ (List.mem_append_left _ (List.mem_append_left _ (List.mem_of_getElem? (l := wsX8_greatestGuess_r1) (i := 15) rfl))), (List.forall_mem_append.mpr ⟨(List.forall_mem_cons.mpr ⟨List.mem_cons_of_mem _ (List.mem_append_left _ (List.mem_append_left _ (List.mem_of_getElem? (l := wsX8_greatestGuess_r1) (i := 16) rfl))), (List.forall_mem_cons.mpr ⟨List.mem_cons_of_mem _ (List.mem_append_left _ (List.mem_append_left _ (List.mem_of_getElem? (l := wsX8_greatestGuess_r1) (i := 17) rfl))), (List.forall_mem_cons.mpr ⟨List.mem_cons_of_mem _ (List.mem_append_left _ (List.mem_append_left _ (List.mem_of_getElem? (l := wsX8_greatestGuess_r1) (i := 18) rfl))), (List.forall_mem_cons.mpr ⟨List.mem_cons_of_mem _ (List.mem_append_left _ (List.mem_append_left _ (List.mem_of_getElem? (l := wsX8_greatestGuess_r1) (i := 10) rfl))), (List.forall_mem_cons.mpr ⟨List.mem_cons_of_mem _ (List.mem_append_left _ (List.mem_append_left _ (List.mem_of_getElem? (l := wsX8_greatestGuess_r1) (i := 19) rfl))), (List.forall_mem_cons.mpr ⟨List.mem_cons_of_mem _ (List.mem_append_left _ (List.mem_append_left _ (List.mem_of_getElem? (l := wsX8_greatestGuess_r1) (i := 20) rfl))), (List.forall_mem_cons.mpr ⟨List.mem_cons_of_mem _ (List.mem_append_left _ (List.mem_append_left _ (List.mem_of_getElem? (l := wsX8_greatestGuess_r1) (i := 21) rfl))), (fun _ h => nomatch h)⟩)⟩)⟩)⟩)⟩)⟩)⟩), (fun _ h => List.mem_cons_of_mem _ (List.mem_append_right _ (h)))⟩)⟩) (by decide +kernel)
set_option maxRecDepth 20000 in
theorem gX8_greatestGuess_X8_isSeen : GoodIn wsX8_greatestGuess (wsV RX8 69 RX8 yX8_isSeen wsX8_isSeen) := goodIn_app (goodIn_of _ (by decide +kernel)) ggX8_greatestGuess_X8_isSeen
set_option maxRecDepth 20000 in
theorem ggX8_greatestGuess_X8_tickAt : GoodIn wsX8_greatestGuess wsX8_tickAt := goodIn_sub (List.forall_mem_cons.mpr ⟨List.mem_cons_of_mem _ (List.mem_append_left _ (List.mem_append_left _ (List.mem_of_getElem? (l := wsX8_greatestGuess_r1) (i := 19) rfl))), (List.forall_mem_append.mpr ⟨(List.forall_mem_cons.mpr ⟨List.mem_cons_of_mem _ (List.mem_append_left _ (List.mem_append_left _ (List.mem_of_getElem? (l := wsX8_greatestGuess_r1) (i := 20) rfl))), (List.forall_mem_cons.mpr ⟨List.mem_cons_of_mem _ (List.mem_append_left _ (List.mem_append_left _ (List.mem_of_getElem? (l := wsX8_greatestGuess_r1) (i := 21) rfl))), (fun _ h => nomatch h)⟩)⟩), (fun _ h => List.mem_cons_of_mem _ (List.mem_append_right _ (h)))⟩)⟩) (by decide +kernel)
set_option maxRecDepth 20000 in
theorem gX8_greatestGuess_X8_tickAt : GoodIn wsX8_greatestGuess (wsV RX8 66 RX8 yX8_tickAt wsX8_tickAt) := goodIn_app (goodIn_of _ (by decide +kernel)) ggX8_greatestGuess_X8_tickAt
set_option maxRecDepth 20000 in
theorem ggX8_greatestGuess_X8_slowest : GoodIn wsX8_greatestGuess wsX8_slowest := goodIn_sub (List.forall_mem_cons.mpr ⟨List.mem_cons_of_mem _ (List.mem_append_left _ (List.mem_append_right _ (List.mem_of_getElem? (l := wsX8_greatestGuess_r2) (i := 1) rfl))), (List.forall_mem_append.mpr ⟨(List.forall_mem_cons.mpr ⟨List.mem_cons_of_mem _ (List.mem_append_left _ (List.mem_append_right _ (List.mem_of_getElem? (l := wsX8_greatestGuess_r2) (i := 2) rfl))), (List.forall_mem_cons.mpr ⟨List.mem_cons_of_mem _ (List.mem_append_left _ (List.mem_append_right _ (List.mem_of_getElem? (l := wsX8_greatestGuess_r2) (i := 3) rfl))), (List.forall_mem_cons.mpr ⟨List.mem_cons_of_mem _ (List.mem_append_left _ (List.mem_append_right _ (List.mem_of_getElem? (l := wsX8_greatestGuess_r2) (i := 4) rfl))), (List.forall_mem_cons.mpr ⟨List.mem_cons_of_mem _ (List.mem_append_left _ (List.mem_append_right _ (List.mem_of_getElem? (l := wsX8_greatestGuess_r2) (i := 5) rfl))), (List.forall_mem_cons.mpr ⟨List.mem_cons_of_mem _ (List.mem_append_left _ (List.mem_append_left _ (List.mem_of_getElem? (l := wsX8_greatestGuess_r1) (i := 10) rfl))), (List.forall_mem_cons.mpr ⟨List.mem_cons_of_mem _ (List.mem_append_left _ (List.mem_append_right _ (List.mem_of_getElem? (l := wsX8_greatestGuess_r2) (i := 6) rfl))), (List.forall_mem_cons.mpr ⟨List.mem_cons_of_mem _ (List.mem_append_left _ (List.mem_append_left _ (List.mem_of_getElem? (l := wsX8_greatestGuess_r1) (i := 20) rfl))), (List.forall_mem_cons.mpr ⟨List.mem_cons_of_mem _ (List.mem_append_left _ (List.mem_append_right _ (List.mem_of_getElem? (l := wsX8_greatestGuess_r2) (i := 7) rfl))), (List.forall_mem_cons.mpr ⟨List.mem_cons_of_mem _ (List.mem_append_left _ (List.mem_append_right _ (List.mem_of_getElem? (l := wsX8_greatestGuess_r2) (i := 8) rfl))), (List.forall_mem_cons.mpr ⟨List.mem_cons_of_mem _ (List.mem_append_left _ (List.mem_append_right _ (List.mem_of_getElem? (l := wsX8_greatestGuess_r2) (i := 9) rfl))), (List.forall_mem_cons.mpr ⟨List.mem_cons_of_mem _ (List.mem_append_left _ (List.mem_append_right _ (List.mem_of_getElem? (l := wsX8_greatestGuess_r2) (i := 10) rfl))), (fun _ h => nomatch h)⟩)⟩)⟩)⟩)⟩)⟩)⟩)⟩)⟩)⟩)⟩), (fun _ h => List.mem_cons_of_mem _ (List.mem_append_right _ (h)))⟩)⟩) (by decide +kernel)
set_option maxRecDepth 20000 in
theorem gX8_greatestGuess_X8_slowest : GoodIn wsX8_greatestGuess (wsV RX8 89 RX8 yX8_slowest wsX8_slowest) := goodIn_app (goodIn_of _ (by decide +kernel)) ggX8_greatestGuess_X8_slowest
set_option maxRecDepth 20000 in
theorem ggX8_greatestGuess_X8_seenBehind : GoodIn wsX8_greatestGuess wsX8_seenBehind := goodIn_sub (List.forall_mem_cons.mpr ⟨List.mem_cons_of_mem _ (List.mem_append_left _ (List.mem_append_right _ (List.mem_of_getElem? (l := wsX8_greatestGuess_r2) (i := 14) rfl))), (List.forall_mem_append.mpr ⟨(List.forall_mem_cons.mpr ⟨List.mem_cons_of_mem _ (List.mem_append_left _ (List.mem_append_left _ (List.mem_of_getElem? (l := wsX8_greatestGuess_r1) (i := 20) rfl))), (List.forall_mem_cons.mpr ⟨List.mem_cons_of_mem _ (List.mem_append_left _ (List.mem_append_left _ (List.mem_of_getElem? (l := wsX8_greatestGuess_r1) (i := 12) rfl))), (List.forall_mem_cons.mpr ⟨List.mem_cons_of_mem _ (List.mem_append_left _ (List.mem_append_left _ (List.mem_of_getElem? (l := wsX8_greatestGuess_r1) (i := 13) rfl))), (List.forall_mem_cons.mpr ⟨List.mem_cons_of_mem _ (List.mem_append_left _ (List.mem_append_left _ (List.mem_of_getElem? (l := wsX8_greatestGuess_r1) (i := 14) rfl))), (List.forall_mem_cons.mpr ⟨List.mem_cons_of_mem _ (List.mem_append_left _ (List.mem_append_left _ (List.mem_of_getElem? (l := wsX8_greatestGuess_r1) (i := 10) rfl))), (List.forall_mem_cons.mpr ⟨List.mem_cons_of_mem _ (List.mem_append_left _ (List.mem_append_left _ (List.mem_of_getElem? (l := wsX8_greatestGuess_r1) (i := 15) rfl))), (List.forall_mem_cons.mpr ⟨List.mem_cons_of_mem _ (List.mem_append_left _ (List.mem_append_left _ (List.mem_of_getElem? (l := wsX8_greatestGuess_r1) (i := 16) rfl))), (List.forall_mem_cons.mpr ⟨List.mem_cons_of_mem _ (List.mem_append_left _ (List.mem_append_left _ (List.mem_of_getElem? (l := wsX8_greatestGuess_r1) (i := 17) rfl))), (List.forall_mem_cons.mpr ⟨List.mem_cons_of_mem _ (List.mem_append_left _ (List.mem_append_left _ (List.mem_of_getElem? (l := wsX8_greatestGuess_r1) (i := 18) rfl))), (List.forall_mem_cons.mpr ⟨List.mem_cons_of_mem _ (List.mem_append_left _ (List.mem_append_left _ (List.mem_of_getElem? (l := wsX8_greatestGuess_r1) (i := 19) rfl))), (List.forall_mem_cons.mpr ⟨List.mem_cons_of_mem _ (List.mem_append_left _ (List.mem_append_left _ (List.mem_of_getElem? (l := wsX8_greatestGuess_r1) (i := 21) rfl))), (fun _ h => nomatch h)⟩)⟩)⟩)⟩)⟩)⟩)⟩)⟩)⟩)⟩)⟩), (fun _ h => List.mem_cons_of_mem _ (List.mem_append_right _ (h)))⟩)⟩) (by decide +kernel)
set_option maxRecDepth 20000 in
theorem gX8_greatestGuess_X8_seenBehind : GoodIn wsX8_greatestGuess (wsV RX8 86 RX8 yX8_seenBehind wsX8_seenBehind) := goodIn_app (goodIn_of _ (by decide +kernel)) ggX8_greatestGuess_X8_seenBehind
set_option maxRecDepth 20000 in
theorem ggX8_greatestGuess_X8_quickest : GoodIn wsX8_greatestGuess wsX8_quickest := goodIn_sub (List.forall_mem_cons.mpr ⟨List.mem_cons_of_mem _ (List.mem_append_left _ (List.mem_append_right _ (List.mem_of_getElem? (l := wsX8_greatestGuess_r2) (i := 18) rfl))), (List.forall_mem_append.mpr ⟨(List.forall_mem_cons.mpr ⟨List.mem_cons_of_mem _ (List.mem_append_left _ (List.mem_append_right _ (List.mem_of_getElem? (l := wsX8_greatestGuess_r2) (i := 19) rfl))), (List.forall_mem_cons.mpr ⟨List.mem_cons_of_mem _ (List.mem_append_left _ (List.mem_append_right _ (List.mem_of_getElem? (l := wsX8_greatestGuess_r2) (i := 3) rfl))), (List.forall_mem_cons.mpr ⟨List.mem_cons_of_mem _ (List.mem_append_left _ (List.mem_append_right _ (List.mem_of_getElem? (l := wsX8_greatestGuess_r2) (i := 4) rfl))), (List.forall_mem_cons.mpr ⟨List.mem_cons_of_mem _ (List.mem_append_left _ (List.mem_append_right _ (List.mem_of_getElem? (l := wsX8_greatestGuess_r2) (i := 5) rfl))), (List.forall_mem_cons.mpr ⟨List.mem_cons_of_mem _ (List.mem_append_left _ (List.mem_append_left _ (List.mem_of_getElem? (l := wsX8_greatestGuess_r1) (i := 10) rfl))), (List.forall_mem_cons.mpr ⟨List.mem_cons_of_mem _ (List.mem_append_left _ (List.mem_append_right _ (List.mem_of_getElem? (l := wsX8_greatestGuess_r2) (i := 6) rfl))), (List.forall_mem_cons.mpr ⟨List.mem_cons_of_mem _ (List.mem_append_left _ (List.mem_append_left _ (List.mem_of_getElem? (l := wsX8_greatestGuess_r1) (i := 20) rfl))), (List.forall_mem_cons.mpr ⟨List.mem_cons_of_mem _ (List.mem_append_left _ (List.mem_append_right _ (List.mem_of_getElem? (l := wsX8_greatestGuess_r2) (i := 7) rfl))), (List.forall_mem_cons.mpr ⟨List.mem_cons_of_mem _ (List.mem_append_left _ (List.mem_append_right _ (List.mem_of_getElem? (l := wsX8_greatestGuess_r2) (i := 20) rfl))), (List.forall_mem_cons.mpr ⟨List.mem_cons_of_mem _ (List.mem_append_left _ (List.mem_append_right _ (List.mem_of_getElem? (l := wsX8_greatestGuess_r2) (i := 9) rfl))), (List.forall_mem_cons.mpr ⟨List.mem_cons_of_mem _ (List.mem_append_left _ (List.mem_append_right _ (List.mem_of_getElem? (l := wsX8_greatestGuess_r2) (i := 21) rfl))), (fun _ h => nomatch h)⟩)⟩)⟩)⟩)⟩)⟩)⟩)⟩)⟩)⟩)⟩), (fun _ h => List.mem_cons_of_mem _ (List.mem_append_right _ (h)))⟩)⟩) (by decide +kernel)
set_option maxRecDepth 20000 in
theorem gX8_greatestGuess_X8_quickest : GoodIn wsX8_greatestGuess (wsV RX8 83 RX8 yX8_quickest wsX8_quickest) := goodIn_app (goodIn_of _ (by decide +kernel)) ggX8_greatestGuess_X8_quickest
theorem kX8_greatestGuess_0 : (.methodLink RX8 97 Lib.Math.min.name : Cond) ∈ wsX8_greatestGuess := List.mem_of_getElem? (i := 1) (by decide +kernel)
theorem kX8_greatestGuess_1 : (.static Lib.Math.min.name : Cond) ∈ wsX8_greatestGuess := List.mem_of_getElem? (i := 2) (by decide +kernel)
theorem kX8_greatestGuess_2 : (.initialized "java/lang/Math" : Cond) ∈ wsX8_greatestGuess := List.mem_of_getElem? (i := 3) (by decide +kernel)
theorem kX8_greatestGuess_3 : (.code Lib.Math.min.name Lib.Math.min.code 2 (some .int) : Cond) ∈ wsX8_greatestGuess := List.mem_of_getElem? (i := 4) (by decide +kernel)
theorem kX8_greatestGuess_4 : (.methodLink RX8 92 Lib.Math.max.name : Cond) ∈ wsX8_greatestGuess := List.mem_of_getElem? (i := 5) (by decide +kernel)
theorem kX8_greatestGuess_5 : (.static Lib.Math.max.name : Cond) ∈ wsX8_greatestGuess := List.mem_of_getElem? (i := 6) (by decide +kernel)
theorem kX8_greatestGuess_6 : (.code Lib.Math.max.name Lib.Math.max.code 2 (some .int) : Cond) ∈ wsX8_greatestGuess := List.mem_of_getElem? (i := 7) (by decide +kernel)
set_option maxHeartbeats 4000000 in
set_option maxRecDepth 100000 in
theorem mX8_greatestGuess (l : Launch) (D : va_G) (cB cI cZ : ClassId) (a_t : Nat) (a_t_ticks : Nat) (a_t_places : Nat) (t_mats : Int32) (t_least : Int32) (t_greatest : Int32) (t_places : Nat → Int32) (t_ticks : Nat → Int32) (sz : Nat) (x1 : Int32) (N : Nat) (r0 : Int32) (h : fX8_greatestGuess N t_greatest t_least t_mats t_places t_ticks x1 = some (r0)) : Met l yX8_greatestGuess wsX8_greatestGuess ({ frames := 3, cells := 0, slots := 0, locals := 64 } : Room) (va_Pc [.ref a_t, .int x1] (zPre D (zT cB cI cZ) [(a_t, .inr (8, [.ref a_t_ticks, .ref a_t_places, .int t_mats, .int t_least, .int t_greatest])), (a_t_places, .inl (cI, 12, .inl t_places)), (a_t_ticks, .inl (cI, 12, .inl t_ticks))] sz)) (zQi r0 D (zT cB cI cZ) [(a_t, .inr (8, [.ref a_t_ticks, .ref a_t_places, .int t_mats, .int t_least, .int t_greatest])), (a_t_places, .inl (cI, 12, .inl t_places)), (a_t_ticks, .inl (cI, 12, .inl t_ticks))] (va_A [(a_t, .inr (8, [.ref a_t_ticks, .ref a_t_places, .int t_mats, .int t_least, .int t_greatest])), (a_t_places, .inl (cI, 12, .inl t_places)), (a_t_ticks, .inl (cI, 12, .inl t_ticks))] sz)) 0 0 (va_A [(a_t, .inr (8, [.ref a_t_ticks, .ref a_t_places, .int t_mats, .int t_least, .int t_greatest])), (a_t_places, .inl (cI, 12, .inl t_places)), (a_t_ticks, .inl (cI, 12, .inl t_ticks))] sz) := by
  refine Met.ofW (cc := cX8_greatestGuess) (maxL := 5) (ret := (some .int)) (by decide) rfl ?_
  intro p e s m args below meth c s₁ B hml hv
  obtain ⟨rfl, hsz, hP, hK, hN, hZ, hD0⟩ := hv
  have hx := B.exec
  have hb := B.bytes
  have hr := B.returns
  have hts := atoms_spec (ws := wsX8_greatestGuess) B.pre
  have hown : s.vm.findClass RX8 = some m.cls := findClass_of_methodNamed B.named
  have hlocks := B.notSynchronized
  subst hsz
  have hD := hD0.self (sz := s.heap.size)
  generalize hAe : va_A [(a_t, .inr (8, [.ref a_t_ticks, .ref a_t_places, .int t_mats, .int t_least, .int t_greatest])), (a_t_places, .inl (cI, 12, .inl t_places)), (a_t_ticks, .inl (cI, 12, .inl t_ticks))] s.heap.size = A at hD hZ ⊢
  have hA : ∀ q : Nat, s.heap.size ≤ q → A q := fun q h => by rw [← hAe]; exact Or.inr h
  have hS : va_S A s.heap s.heap [] := va_S.rf
  have hl := lv_entry ([.ref a_t, .int x1]) (n := 5) (Nat.le_of_ble_eq_true rfl)
  rw [lg_entry_eq]
  generalize (lg_sl ([.ref a_t, .int x1]) ++ List.replicate (5 - (lg_sl ([.ref a_t, .int x1])).length) Slot.unset).toArray = ls at hl ⊢
  have hl : lv_has ls 5 [(0, .ref a_t), (1, .int x1)] := hl
  unfold fX8_greatestGuess at h
  refine lv_aload_n hx hb dX8_greatestGuess_0 rfl (lv_at hl 0 rfl) ?_
  refine lv_iload_n hx hb dX8_greatestGuess_1 rfl (lv_at hl 1 rfl) ?_
  obtain ⟨r1, e2, h⟩ := zz_b h
  refine zVi (As := [.int x1]) (rest := []) (C := RX8) (wr := [(a_t_places, .inl (cI, 12, .inl t_places))]) [0, 2] [1] 0 ⟨hx, hb, hml, hown, hts⟩ (mX8_seenAhead l D cB cI cZ a_t a_t_ticks a_t_places t_mats t_least t_greatest t_ticks s.heap.size x1 N r1 e2) (cwV 1 hts gX8_greatestGuess_X8_seenAhead rfl rfl rfl (by decide +kernel) ⟨Nat.le_of_ble_eq_true rfl, Nat.le_of_ble_eq_true rfl⟩) hK hN hZ hP hD hS hA rfl rfl rfl rfl rfl rfl rfl rfl hl.1 rfl (lv_room (Nat.le_of_ble_eq_true rfl)) dX8_greatestGuess_2 ⟨Nat.le_of_ble_eq_true rfl, Nat.le_of_ble_eq_true rfl⟩ (fun H locs hP hD hS => ?_)
  have hP : va_P D vwCl [(a_t_places, .inl (cI, 12, .inl t_places)), (a_t, .inr (8, [.ref a_t_ticks, .ref a_t_places, .int t_mats, .int t_least, .int t_greatest])), (a_t_ticks, .inl (cI, 12, .inl t_ticks))] H := hP
  have hD : va_D A [(a_t_places, .inl (cI, 12, .inl t_places)), (a_t, .inr (8, [.ref a_t_ticks, .ref a_t_places, .int t_mats, .int t_least, .int t_greatest])), (a_t_ticks, .inl (cI, 12, .inl t_ticks))] := hD
  refine lv_istore_n (lv' := [(2, .int r1), (0, .ref a_t), (1, .int x1)]) hx hb dX8_greatestGuess_5 rfl hl (by decide) rfl (fun ls hl => ?_)
  refine lv_aload_n hx hb dX8_greatestGuess_6 rfl (lv_at hl 1 rfl) ?_
  refine lv_iload_n hx hb dX8_greatestGuess_7 rfl (lv_at hl 2 rfl) ?_
  obtain ⟨b3, e4, h⟩ := zz_b h
  refine zVi (As := [.int x1]) (rest := []) (C := RX8) (wr := [(a_t_places, .inl (cI, 12, .inl t_places))]) [1, 2] [0] 0 ⟨hx, hb, hml, hown, hts⟩ (mX8_isSeen l D cB cI cZ a_t a_t_ticks a_t_places t_mats t_least t_greatest t_ticks H.size x1 b3 e4) (cwV 1 hts gX8_greatestGuess_X8_isSeen rfl rfl rfl (by decide +kernel) ⟨Nat.le_of_ble_eq_true rfl, Nat.le_of_ble_eq_true rfl⟩) hK hN hZ hP hD hS hA rfl rfl rfl rfl rfl rfl rfl rfl hl.1 rfl (lv_room (Nat.le_of_ble_eq_true rfl)) dX8_greatestGuess_8 ⟨Nat.le_of_ble_eq_true rfl, Nat.le_of_ble_eq_true rfl⟩ (fun H locs hP hD hS => ?_)
  have hP : va_P D vwCl [(a_t_places, .inl (cI, 12, .inl t_places)), (a_t, .inr (8, [.ref a_t_ticks, .ref a_t_places, .int t_mats, .int t_least, .int t_greatest])), (a_t_ticks, .inl (cI, 12, .inl t_ticks))] H := hP
  have hD : va_D A [(a_t_places, .inl (cI, 12, .inl t_places)), (a_t, .inr (8, [.ref a_t_ticks, .ref a_t_places, .int t_mats, .int t_least, .int t_greatest])), (a_t_ticks, .inl (cI, 12, .inl t_ticks))] := hD
  refine lv_if_ne (tgt := 19) hx hb dX8_greatestGuess_11 (by decide) (fun c5 => ?_) (fun c5 => ?_)
  · have h := zz_f h c5
    refine lv_aload_n hx hb dX8_greatestGuess_19 rfl (lv_at hl 1 rfl) ?_
    refine lv_iload_n hx hb dX8_greatestGuess_20 rfl (lv_at hl 2 rfl) ?_
    obtain ⟨r6, e7, h⟩ := zz_b h
    refine zVi (As := [.int x1]) (rest := []) (C := RX8) (wr := [(a_t_places, .inl (cI, 12, .inl t_places))]) [1, 2] [0] 0 ⟨hx, hb, hml, hown, hts⟩ (mX8_tickAt l D cB cI cZ a_t a_t_ticks a_t_places t_mats t_least t_greatest t_ticks H.size x1 r6 e7) (cwV 1 hts gX8_greatestGuess_X8_tickAt rfl rfl rfl (by decide +kernel) ⟨Nat.le_of_ble_eq_true rfl, Nat.le_of_ble_eq_true rfl⟩) hK hN hZ hP hD hS hA rfl rfl rfl rfl rfl rfl rfl rfl hl.1 rfl (lv_room (Nat.le_of_ble_eq_true rfl)) dX8_greatestGuess_21 ⟨Nat.le_of_ble_eq_true rfl, Nat.le_of_ble_eq_true rfl⟩ (fun H locs hP hD hS => ?_)
    have hP : va_P D vwCl [(a_t_places, .inl (cI, 12, .inl t_places)), (a_t, .inr (8, [.ref a_t_ticks, .ref a_t_places, .int t_mats, .int t_least, .int t_greatest])), (a_t_ticks, .inl (cI, 12, .inl t_ticks))] H := hP
    have hD : va_D A [(a_t_places, .inl (cI, 12, .inl t_places)), (a_t, .inr (8, [.ref a_t_ticks, .ref a_t_places, .int t_mats, .int t_least, .int t_greatest])), (a_t_ticks, .inl (cI, 12, .inl t_ticks))] := hD
    have j0_ := Option.some.inj h
    subst j0_
    exact W.iret (v := r6) hx hb hr (fun t ht hW => ⟨⟨_, (), rfl, rfl, zPost.of hP hD hK ht hW [1, 0, 2] rfl rfl rfl⟩, hS.F ht⟩) hS.2.2 dX8_greatestGuess_24
  · have h := zz_t h c5
    refine lv_iload_n hx hb dX8_greatestGuess_14 rfl (lv_at hl 0 rfl) ?_
    refine lv_iconst (v := (-1 : Int32)) hx hb dX8_greatestGuess_15 rfl ?_
    refine lv_icmp_ne (tgt := 25) hx hb dX8_greatestGuess_16 (by decide) (fun c8 => ?_) (fun c8 => ?_)
    · have h := zz_f h c8
      refine lv_aload_n hx hb dX8_greatestGuess_25 rfl (lv_at hl 1 rfl) ?_
      refine lv_iload_n hx hb dX8_greatestGuess_26 rfl (lv_at hl 0 rfl) ?_
      obtain ⟨r9, e10, h⟩ := zz_b h
      refine zVi (As := [.int r1]) (rest := []) (C := RX8) (wr := [(a_t_places, .inl (cI, 12, .inl t_places))]) [1, 2] [0] 0 ⟨hx, hb, hml, hown, hts⟩ (mX8_tickAt l D cB cI cZ a_t a_t_ticks a_t_places t_mats t_least t_greatest t_ticks H.size r1 r9 e10) (cwV 1 hts gX8_greatestGuess_X8_tickAt rfl rfl rfl (by decide +kernel) ⟨Nat.le_of_ble_eq_true rfl, Nat.le_of_ble_eq_true rfl⟩) hK hN hZ hP hD hS hA rfl rfl rfl rfl rfl rfl rfl rfl hl.1 rfl (lv_room (Nat.le_of_ble_eq_true rfl)) dX8_greatestGuess_27 ⟨Nat.le_of_ble_eq_true rfl, Nat.le_of_ble_eq_true rfl⟩ (fun H locs hP hD hS => ?_)
      have hP : va_P D vwCl [(a_t_places, .inl (cI, 12, .inl t_places)), (a_t, .inr (8, [.ref a_t_ticks, .ref a_t_places, .int t_mats, .int t_least, .int t_greatest])), (a_t_ticks, .inl (cI, 12, .inl t_ticks))] H := hP
      have hD : va_D A [(a_t_places, .inl (cI, 12, .inl t_places)), (a_t, .inr (8, [.ref a_t_ticks, .ref a_t_places, .int t_mats, .int t_least, .int t_greatest])), (a_t_ticks, .inl (cI, 12, .inl t_ticks))] := hD
      refine lv_aload_n hx hb dX8_greatestGuess_30 rfl (lv_at hl 1 rfl) ?_
      refine lv_iload_n hx hb dX8_greatestGuess_31 rfl (lv_at hl 0 rfl) ?_
      refine lv_iload_n hx hb dX8_greatestGuess_32 rfl (lv_at hl 2 rfl) ?_
      obtain ⟨r11, e12, h⟩ := zz_b h
      refine zVi (As := [.int r1, .int x1]) (rest := [.int r9]) (C := RX8) (wr := [(a_t_ticks, .inl (cI, 12, .inl t_ticks))]) [1, 0] [2] 0 ⟨hx, hb, hml, hown, hts⟩ (mX8_slowest l D cB cI cZ a_t a_t_ticks a_t_places t_mats t_least t_greatest t_places H.size r1 x1 r11 e12) (cwV 2 hts gX8_greatestGuess_X8_slowest rfl rfl rfl (by decide +kernel) ⟨Nat.le_of_ble_eq_true rfl, Nat.le_of_ble_eq_true rfl⟩) hK hN hZ hP hD hS hA rfl rfl rfl rfl rfl rfl rfl rfl hl.1 rfl (lv_room (Nat.le_of_ble_eq_true rfl)) dX8_greatestGuess_33 ⟨Nat.le_of_ble_eq_true rfl, Nat.le_of_ble_eq_true rfl⟩ (fun H locs hP hD hS => ?_)
      have hP : va_P D vwCl [(a_t_ticks, .inl (cI, 12, .inl t_ticks)), (a_t, .inr (8, [.ref a_t_ticks, .ref a_t_places, .int t_mats, .int t_least, .int t_greatest])), (a_t_places, .inl (cI, 12, .inl t_places))] H := hP
      have hD : va_D A [(a_t_ticks, .inl (cI, 12, .inl t_ticks)), (a_t, .inr (8, [.ref a_t_ticks, .ref a_t_places, .int t_mats, .int t_least, .int t_greatest])), (a_t_places, .inl (cI, 12, .inl t_places))] := hD
      refine lv_iadd hx hb dX8_greatestGuess_36 ?_
      refine lv_istore_n (lv' := [(3, .int (r9 + r11)), (2, .int r1), (0, .ref a_t), (1, .int x1)]) hx hb dX8_greatestGuess_37 rfl hl (by decide) rfl (fun ls hl => ?_)
      refine lv_aload_n hx hb dX8_greatestGuess_38 rfl (lv_at hl 2 rfl) ?_
      refine lv_iload_n hx hb dX8_greatestGuess_39 rfl (lv_at hl 3 rfl) ?_
      obtain ⟨r13, e14, h⟩ := zz_b h
      refine zVi (As := [.int x1]) (rest := []) (C := RX8) (wr := [(a_t_places, .inl (cI, 12, .inl t_places))]) [1, 0] [2] 0 ⟨hx, hb, hml, hown, hts⟩ (mX8_seenBehind l D cB cI cZ a_t a_t_ticks a_t_places t_mats t_least t_greatest t_ticks H.size x1 N r13 e14) (cwV 1 hts gX8_greatestGuess_X8_seenBehind rfl rfl rfl (by decide +kernel) ⟨Nat.le_of_ble_eq_true rfl, Nat.le_of_ble_eq_true rfl⟩) hK hN hZ hP hD hS hA rfl rfl rfl rfl rfl rfl rfl rfl hl.1 rfl (lv_room (Nat.le_of_ble_eq_true rfl)) dX8_greatestGuess_40 ⟨Nat.le_of_ble_eq_true rfl, Nat.le_of_ble_eq_true rfl⟩ (fun H locs hP hD hS => ?_)
      have hP : va_P D vwCl [(a_t_places, .inl (cI, 12, .inl t_places)), (a_t, .inr (8, [.ref a_t_ticks, .ref a_t_places, .int t_mats, .int t_least, .int t_greatest])), (a_t_ticks, .inl (cI, 12, .inl t_ticks))] H := hP
      have hD : va_D A [(a_t_places, .inl (cI, 12, .inl t_places)), (a_t, .inr (8, [.ref a_t_ticks, .ref a_t_places, .int t_mats, .int t_least, .int t_greatest])), (a_t_ticks, .inl (cI, 12, .inl t_ticks))] := hD
      refine lv_istore (lv' := [(4, .int r13), (3, .int (r9 + r11)), (2, .int r1), (0, .ref a_t), (1, .int x1)]) hx hb dX8_greatestGuess_43 hl (by decide) rfl (fun ls hl => ?_)
      refine lv_iload hx hb dX8_greatestGuess_45 (lv_at hl 0 rfl) ?_
      refine lv_iconst (v := (-1 : Int32)) hx hb dX8_greatestGuess_47 rfl ?_
      refine lv_icmp_eq (tgt := 70) hx hb dX8_greatestGuess_48 (by decide) (fun c15 => ?_) (fun c15 => ?_)
      · have h := zz_t h c15
        refine lv_iload_n hx hb dX8_greatestGuess_70 rfl (lv_at hl 1 rfl) ?_
        refine lv_iconst (v := (nI 0)) hx hb dX8_greatestGuess_71 rfl ?_
        refine va_mmax hx hb (hml.trans hl.1.symm) hown (hts _ kX8_greatestGuess_4) (hts _ kX8_greatestGuess_5) (hts _ kX8_greatestGuess_2) (hts _ kX8_greatestGuess_6) (Nat.le_of_ble_eq_true rfl) (Nat.le_of_ble_eq_true rfl) (Nat.le_of_ble_eq_true rfl) (Nat.le_of_ble_eq_true rfl) dX8_greatestGuess_72 ?_
        have j0_ := Option.some.inj h
        subst j0_
        exact W.iret (v := (if (r9 + r11) < (nI 0) then (nI 0) else (r9 + r11))) hx hb hr (fun t ht hW => ⟨⟨_, (), rfl, rfl, zPost.of hP hD hK ht hW [1, 0, 2] rfl rfl rfl⟩, hS.F ht⟩) hS.2.2 dX8_greatestGuess_75
      · have h := zz_f h c15
        refine lv_iload_n hx hb dX8_greatestGuess_51 rfl (lv_at hl 1 rfl) ?_
        refine lv_aload_n hx hb dX8_greatestGuess_52 rfl (lv_at hl 3 rfl) ?_
        refine lv_iload hx hb dX8_greatestGuess_53 (lv_at hl 0 rfl) ?_
        obtain ⟨r16, e17, h⟩ := zz_b h
        refine zVi (As := [.int r13]) (rest := [.int (r9 + r11)]) (C := RX8) (wr := [(a_t_places, .inl (cI, 12, .inl t_places))]) [1, 2] [0] 0 ⟨hx, hb, hml, hown, hts⟩ (mX8_tickAt l D cB cI cZ a_t a_t_ticks a_t_places t_mats t_least t_greatest t_ticks H.size r13 r16 e17) (cwV 1 hts gX8_greatestGuess_X8_tickAt rfl rfl rfl (by decide +kernel) ⟨Nat.le_of_ble_eq_true rfl, Nat.le_of_ble_eq_true rfl⟩) hK hN hZ hP hD hS hA rfl rfl rfl rfl rfl rfl rfl rfl hl.1 rfl (lv_room (Nat.le_of_ble_eq_true rfl)) dX8_greatestGuess_55 ⟨Nat.le_of_ble_eq_true rfl, Nat.le_of_ble_eq_true rfl⟩ (fun H locs hP hD hS => ?_)
        have hP : va_P D vwCl [(a_t_places, .inl (cI, 12, .inl t_places)), (a_t, .inr (8, [.ref a_t_ticks, .ref a_t_places, .int t_mats, .int t_least, .int t_greatest])), (a_t_ticks, .inl (cI, 12, .inl t_ticks))] H := hP
        have hD : va_D A [(a_t_places, .inl (cI, 12, .inl t_places)), (a_t, .inr (8, [.ref a_t_ticks, .ref a_t_places, .int t_mats, .int t_least, .int t_greatest])), (a_t_ticks, .inl (cI, 12, .inl t_ticks))] := hD
        refine lv_aload_n hx hb dX8_greatestGuess_58 rfl (lv_at hl 3 rfl) ?_
        refine lv_iload_n hx hb dX8_greatestGuess_59 rfl (lv_at hl 4 rfl) ?_
        refine lv_iload hx hb dX8_greatestGuess_60 (lv_at hl 0 rfl) ?_
        obtain ⟨r18, e19, h⟩ := zz_b h
        refine zVi (As := [.int x1, .int r13]) (rest := [.int r16, .int (r9 + r11)]) (C := RX8) (wr := [(a_t_ticks, .inl (cI, 12, .inl t_ticks))]) [1, 0] [2] 0 ⟨hx, hb, hml, hown, hts⟩ (mX8_quickest l D cB cI cZ a_t a_t_ticks a_t_places t_mats t_least t_greatest t_places H.size x1 r13 r18 e19) (cwV 2 hts gX8_greatestGuess_X8_quickest rfl rfl rfl (by decide +kernel) ⟨Nat.le_of_ble_eq_true rfl, Nat.le_of_ble_eq_true rfl⟩) hK hN hZ hP hD hS hA rfl rfl rfl rfl rfl rfl rfl rfl hl.1 rfl (lv_room (Nat.le_of_ble_eq_true rfl)) dX8_greatestGuess_62 ⟨Nat.le_of_ble_eq_true rfl, Nat.le_of_ble_eq_true rfl⟩ (fun H locs hP hD hS => ?_)
        have hP : va_P D vwCl [(a_t_ticks, .inl (cI, 12, .inl t_ticks)), (a_t, .inr (8, [.ref a_t_ticks, .ref a_t_places, .int t_mats, .int t_least, .int t_greatest])), (a_t_places, .inl (cI, 12, .inl t_places))] H := hP
        have hD : va_D A [(a_t_ticks, .inl (cI, 12, .inl t_ticks)), (a_t, .inr (8, [.ref a_t_ticks, .ref a_t_places, .int t_mats, .int t_least, .int t_greatest])), (a_t_places, .inl (cI, 12, .inl t_places))] := hD
        refine lv_isub hx hb dX8_greatestGuess_65 ?_
        refine va_mmin hx hb (hml.trans hl.1.symm) hown (hts _ kX8_greatestGuess_0) (hts _ kX8_greatestGuess_1) (hts _ kX8_greatestGuess_2) (hts _ kX8_greatestGuess_3) (Nat.le_of_ble_eq_true rfl) (Nat.le_of_ble_eq_true rfl) (Nat.le_of_ble_eq_true rfl) (Nat.le_of_ble_eq_true rfl) dX8_greatestGuess_66 ?_
        refine lv_istore_n (lv' := [(3, .int (if (r16 - r18) < (r9 + r11) then (r16 - r18) else (r9 + r11))), (4, .int r13), (2, .int r1), (0, .ref a_t), (1, .int x1)]) hx hb dX8_greatestGuess_69 rfl hl (by decide) rfl (fun ls hl => ?_)
        refine lv_iload_n hx hb dX8_greatestGuess_70 rfl (lv_at hl 0 rfl) ?_
        refine lv_iconst (v := (nI 0)) hx hb dX8_greatestGuess_71 rfl ?_
        refine va_mmax hx hb (hml.trans hl.1.symm) hown (hts _ kX8_greatestGuess_4) (hts _ kX8_greatestGuess_5) (hts _ kX8_greatestGuess_2) (hts _ kX8_greatestGuess_6) (Nat.le_of_ble_eq_true rfl) (Nat.le_of_ble_eq_true rfl) (Nat.le_of_ble_eq_true rfl) (Nat.le_of_ble_eq_true rfl) dX8_greatestGuess_72 ?_
        have j0_ := Option.some.inj h
        subst j0_
        exact W.iret (v := (if (if (r16 - r18) < (r9 + r11) then (r16 - r18) else (r9 + r11)) < (nI 0) then (nI 0) else (if (r16 - r18) < (r9 + r11) then (r16 - r18) else (r9 + r11)))) hx hb hr (fun t ht hW => ⟨⟨_, (), rfl, rfl, zPost.of hP hD hK ht hW [1, 2, 0] rfl rfl rfl⟩, hS.F ht⟩) hS.2.2 dX8_greatestGuess_75
    · have h := zz_t h c8
      refine lv_aload_n hx hb dX8_greatestGuess_19 rfl (lv_at hl 1 rfl) ?_
      refine lv_iload_n hx hb dX8_greatestGuess_20 rfl (lv_at hl 2 rfl) ?_
      obtain ⟨r20, e21, h⟩ := zz_b h
      refine zVi (As := [.int x1]) (rest := []) (C := RX8) (wr := [(a_t_places, .inl (cI, 12, .inl t_places))]) [1, 2] [0] 0 ⟨hx, hb, hml, hown, hts⟩ (mX8_tickAt l D cB cI cZ a_t a_t_ticks a_t_places t_mats t_least t_greatest t_ticks H.size x1 r20 e21) (cwV 1 hts gX8_greatestGuess_X8_tickAt rfl rfl rfl (by decide +kernel) ⟨Nat.le_of_ble_eq_true rfl, Nat.le_of_ble_eq_true rfl⟩) hK hN hZ hP hD hS hA rfl rfl rfl rfl rfl rfl rfl rfl hl.1 rfl (lv_room (Nat.le_of_ble_eq_true rfl)) dX8_greatestGuess_21 ⟨Nat.le_of_ble_eq_true rfl, Nat.le_of_ble_eq_true rfl⟩ (fun H locs hP hD hS => ?_)
      have hP : va_P D vwCl [(a_t_places, .inl (cI, 12, .inl t_places)), (a_t, .inr (8, [.ref a_t_ticks, .ref a_t_places, .int t_mats, .int t_least, .int t_greatest])), (a_t_ticks, .inl (cI, 12, .inl t_ticks))] H := hP
      have hD : va_D A [(a_t_places, .inl (cI, 12, .inl t_places)), (a_t, .inr (8, [.ref a_t_ticks, .ref a_t_places, .int t_mats, .int t_least, .int t_greatest])), (a_t_ticks, .inl (cI, 12, .inl t_ticks))] := hD
      have j0_ := Option.some.inj h
      subst j0_
      exact W.iret (v := r20) hx hb hr (fun t ht hW => ⟨⟨_, (), rfl, rfl, zPost.of hP hD hK ht hW [1, 0, 2] rfl rfl rfl⟩, hS.F ht⟩) hS.2.2 dX8_greatestGuess_24
/-! RunDesk$Doubts.gatherAt -/
theorem dX0_gatherAt_0 : decode cX0_gatherAt 0 = .ok (.aload_n 1, 1) := by decide +kernel
theorem dX0_gatherAt_1 : decode cX0_gatherAt 1 = .ok (.iload_n 3, 1) := by decide +kernel
theorem dX0_gatherAt_2 : decode cX0_gatherAt 2 = .ok (.invokevirtual 48, 3) := by decide +kernel
theorem dX0_gatherAt_5 : decode cX0_gatherAt 5 = .ok (.istore 4, 2) := by decide +kernel
theorem dX0_gatherAt_7 : decode cX0_gatherAt 7 = .ok (.iload 4, 2) := by decide +kernel
theorem dX0_gatherAt_9 : decode cX0_gatherAt 9 = .ok (.ifCond .ne 19, 3) := by decide +kernel
theorem dX0_gatherAt_12 : decode cX0_gatherAt 12 = .ok (.aload_n 1, 1) := by decide +kernel
theorem dX0_gatherAt_13 : decode cX0_gatherAt 13 = .ok (.iload_n 3, 1) := by decide +kernel
theorem dX0_gatherAt_14 : decode cX0_gatherAt 14 = .ok (.invokevirtual 52, 3) := by decide +kernel
theorem dX0_gatherAt_17 : decode cX0_gatherAt 17 = .ok (.iconst (-1), 1) := by decide +kernel
theorem dX0_gatherAt_18 : decode cX0_gatherAt 18 = .ok (.if_icmp .eq 10, 3) := by decide +kernel
theorem dX0_gatherAt_21 : decode cX0_gatherAt 21 = .ok (.aload_n 0, 1) := by decide +kernel
theorem dX0_gatherAt_22 : decode cX0_gatherAt 22 = .ok (.iload_n 2, 1) := by decide +kernel
theorem dX0_gatherAt_23 : decode cX0_gatherAt 23 = .ok (.iload_n 3, 1) := by decide +kernel
theorem dX0_gatherAt_24 : decode cX0_gatherAt 24 = .ok (.iconst 1, 1) := by decide +kernel
theorem dX0_gatherAt_25 : decode cX0_gatherAt 25 = .ok (.invokevirtual 56, 3) := by decide +kernel
theorem dX0_gatherAt_28 : decode cX0_gatherAt 28 = .ok (.aload_n 1, 1) := by decide +kernel
theorem dX0_gatherAt_29 : decode cX0_gatherAt 29 = .ok (.iload_n 3, 1) := by decide +kernel
theorem dX0_gatherAt_30 : decode cX0_gatherAt 30 = .ok (.invokevirtual 60, 3) := by decide +kernel
theorem dX0_gatherAt_33 : decode cX0_gatherAt 33 = .ok (.ifCond .eq 10, 3) := by decide +kernel
theorem dX0_gatherAt_36 : decode cX0_gatherAt 36 = .ok (.aload_n 0, 1) := by decide +kernel
theorem dX0_gatherAt_37 : decode cX0_gatherAt 37 = .ok (.iload_n 2, 1) := by decide +kernel
theorem dX0_gatherAt_38 : decode cX0_gatherAt 38 = .ok (.iload_n 3, 1) := by decide +kernel
theorem dX0_gatherAt_39 : decode cX0_gatherAt 39 = .ok (.iconst 2, 1) := by decide +kernel
theorem dX0_gatherAt_40 : decode cX0_gatherAt 40 = .ok (.invokevirtual 56, 3) := by decide +kernel
theorem dX0_gatherAt_43 : decode cX0_gatherAt 43 = .ok (.iload 4, 2) := by decide +kernel
theorem dX0_gatherAt_45 : decode cX0_gatherAt 45 = .ok (.ifCond .ne 23, 3) := by decide +kernel
theorem dX0_gatherAt_48 : decode cX0_gatherAt 48 = .ok (.aload_n 1, 1) := by decide +kernel
theorem dX0_gatherAt_49 : decode cX0_gatherAt 49 = .ok (.iload_n 3, 1) := by decide +kernel
theorem dX0_gatherAt_50 : decode cX0_gatherAt 50 = .ok (.invokevirtual 63, 3) := by decide +kernel
theorem dX0_gatherAt_53 : decode cX0_gatherAt 53 = .ok (.aload_n 1, 1) := by decide +kernel
theorem dX0_gatherAt_54 : decode cX0_gatherAt 54 = .ok (.iload_n 3, 1) := by decide +kernel
theorem dX0_gatherAt_55 : decode cX0_gatherAt 55 = .ok (.invokevirtual 66, 3) := by decide +kernel
theorem dX0_gatherAt_58 : decode cX0_gatherAt 58 = .ok (.if_icmp .le 10, 3) := by decide +kernel
theorem dX0_gatherAt_61 : decode cX0_gatherAt 61 = .ok (.aload_n 0, 1) := by decide +kernel
theorem dX0_gatherAt_62 : decode cX0_gatherAt 62 = .ok (.iload_n 2, 1) := by decide +kernel
theorem dX0_gatherAt_63 : decode cX0_gatherAt 63 = .ok (.iload_n 3, 1) := by decide +kernel
theorem dX0_gatherAt_64 : decode cX0_gatherAt 64 = .ok (.iconst 3, 1) := by decide +kernel
theorem dX0_gatherAt_65 : decode cX0_gatherAt 65 = .ok (.invokevirtual 56, 3) := by decide +kernel
theorem dX0_gatherAt_68 : decode cX0_gatherAt 68 = .ok (.return_, 1) := by decide +kernel
set_option maxRecDepth 20000 in
theorem ggX0_gatherAt_X8_isSeen : GoodIn wsX0_gatherAt wsX8_isSeen := goodIn_sub (List.forall_mem_cons.mpr ⟨List.mem_cons_of_mem _ (List.mem_append_left _ (List.mem_append_left _ (List.mem_append_left _ (List.mem_of_getElem? (l := wsX0_gatherAt_r1) (i := 4) rfl)))), (List.forall_mem_append.mpr ⟨(List.forall_mem_cons.mpr ⟨List.mem_cons_of_mem _ (List.mem_append_left _ (List.mem_append_left _ (List.mem_append_left _ (List.mem_of_getElem? (l := wsX0_gatherAt_r1) (i := 5) rfl)))), (List.forall_mem_cons.mpr ⟨List.mem_cons_of_mem _ (List.mem_append_left _ (List.mem_append_left _ (List.mem_append_left _ (List.mem_of_getElem? (l := wsX0_gatherAt_r1) (i := 6) rfl)))), (List.forall_mem_cons.mpr ⟨List.mem_cons_of_mem _ (List.mem_append_left _ (List.mem_append_left _ (List.mem_append_left _ (List.mem_of_getElem? (l := wsX0_gatherAt_r1) (i := 7) rfl)))), (List.forall_mem_cons.mpr ⟨List.mem_cons_of_mem _ (List.mem_append_left _ (List.mem_append_left _ (List.mem_append_left _ (List.mem_of_getElem? (l := wsX0_gatherAt_r1) (i := 3) rfl)))), (List.forall_mem_cons.mpr ⟨List.mem_cons_of_mem _ (List.mem_append_left _ (List.mem_append_left _ (List.mem_append_left _ (List.mem_of_getElem? (l := wsX0_gatherAt_r1) (i := 8) rfl)))), (List.forall_mem_cons.mpr ⟨List.mem_cons_of_mem _ (List.mem_append_left _ (List.mem_append_left _ (List.mem_append_left _ (List.mem_of_getElem? (l := wsX0_gatherAt_r1) (i := 9) rfl)))), (List.forall_mem_cons.mpr ⟨List.mem_cons_of_mem _ (List.mem_append_left _ (List.mem_append_left _ (List.mem_append_left _ (List.mem_of_getElem? (l := wsX0_gatherAt_r1) (i := 10) rfl)))), (fun _ h => nomatch h)⟩)⟩)⟩)⟩)⟩)⟩)⟩), (fun _ h => List.mem_cons_of_mem _ (List.mem_append_left _ (List.mem_append_right _ (h))))⟩)⟩) (by decide +kernel)
set_option maxRecDepth 20000 in
theorem gX0_gatherAt_X8_isSeen : GoodIn wsX0_gatherAt (wsV RX0 48 RX8 yX8_isSeen wsX8_isSeen) := goodIn_app (goodIn_of _ (by decide +kernel)) ggX0_gatherAt_X8_isSeen
set_option maxRecDepth 20000 in
theorem ggX0_gatherAt_X8_seenBehind : GoodIn wsX0_gatherAt wsX8_seenBehind := goodIn_sub (List.forall_mem_cons.mpr ⟨List.mem_cons_of_mem _ (List.mem_append_left _ (List.mem_append_left _ (List.mem_append_left _ (List.mem_of_getElem? (l := wsX0_gatherAt_r1) (i := 14) rfl)))), (List.forall_mem_append.mpr ⟨(List.forall_mem_cons.mpr ⟨List.mem_cons_of_mem _ (List.mem_append_left _ (List.mem_append_left _ (List.mem_append_left _ (List.mem_of_getElem? (l := wsX0_gatherAt_r1) (i := 9) rfl)))), (List.forall_mem_cons.mpr ⟨List.mem_cons_of_mem _ (List.mem_append_left _ (List.mem_append_left _ (List.mem_append_left _ (List.mem_of_getElem? (l := wsX0_gatherAt_r1) (i := 15) rfl)))), (List.forall_mem_cons.mpr ⟨List.mem_cons_of_mem _ (List.mem_append_left _ (List.mem_append_left _ (List.mem_append_left _ (List.mem_of_getElem? (l := wsX0_gatherAt_r1) (i := 1) rfl)))), (List.forall_mem_cons.mpr ⟨List.mem_cons_of_mem _ (List.mem_append_left _ (List.mem_append_left _ (List.mem_append_left _ (List.mem_of_getElem? (l := wsX0_gatherAt_r1) (i := 2) rfl)))), (List.forall_mem_cons.mpr ⟨List.mem_cons_of_mem _ (List.mem_append_left _ (List.mem_append_left _ (List.mem_append_left _ (List.mem_of_getElem? (l := wsX0_gatherAt_r1) (i := 3) rfl)))), (List.forall_mem_cons.mpr ⟨List.mem_cons_of_mem _ (List.mem_append_left _ (List.mem_append_left _ (List.mem_append_left _ (List.mem_of_getElem? (l := wsX0_gatherAt_r1) (i := 4) rfl)))), (List.forall_mem_cons.mpr ⟨List.mem_cons_of_mem _ (List.mem_append_left _ (List.mem_append_left _ (List.mem_append_left _ (List.mem_of_getElem? (l := wsX0_gatherAt_r1) (i := 5) rfl)))), (List.forall_mem_cons.mpr ⟨List.mem_cons_of_mem _ (List.mem_append_left _ (List.mem_append_left _ (List.mem_append_left _ (List.mem_of_getElem? (l := wsX0_gatherAt_r1) (i := 6) rfl)))), (List.forall_mem_cons.mpr ⟨List.mem_cons_of_mem _ (List.mem_append_left _ (List.mem_append_left _ (List.mem_append_left _ (List.mem_of_getElem? (l := wsX0_gatherAt_r1) (i := 7) rfl)))), (List.forall_mem_cons.mpr ⟨List.mem_cons_of_mem _ (List.mem_append_left _ (List.mem_append_left _ (List.mem_append_left _ (List.mem_of_getElem? (l := wsX0_gatherAt_r1) (i := 8) rfl)))), (List.forall_mem_cons.mpr ⟨List.mem_cons_of_mem _ (List.mem_append_left _ (List.mem_append_left _ (List.mem_append_left _ (List.mem_of_getElem? (l := wsX0_gatherAt_r1) (i := 10) rfl)))), (fun _ h => nomatch h)⟩)⟩)⟩)⟩)⟩)⟩)⟩)⟩)⟩)⟩)⟩), (fun _ h => List.mem_cons_of_mem _ (List.mem_append_left _ (List.mem_append_right _ (h))))⟩)⟩) (by decide +kernel)
set_option maxRecDepth 20000 in
theorem gX0_gatherAt_X8_seenBehind : GoodIn wsX0_gatherAt (wsV RX0 52 RX8 yX8_seenBehind wsX8_seenBehind) := goodIn_app (goodIn_of _ (by decide +kernel)) ggX0_gatherAt_X8_seenBehind
set_option maxRecDepth 20000 in
theorem ggX0_gatherAt_X0_add : GoodIn wsX0_gatherAt wsX0_add := goodIn_sub (List.forall_mem_cons.mpr ⟨List.mem_cons_of_mem _ (List.mem_append_left _ (List.mem_append_left _ (List.mem_append_left _ (List.mem_of_getElem? (l := wsX0_gatherAt_r1) (i := 20) rfl)))), (List.forall_mem_append.mpr ⟨(List.forall_mem_cons.mpr ⟨List.mem_cons_of_mem _ (List.mem_append_left _ (List.mem_append_left _ (List.mem_append_left _ (List.mem_of_getElem? (l := wsX0_gatherAt_r1) (i := 21) rfl)))), (List.forall_mem_cons.mpr ⟨List.mem_cons_of_mem _ (List.mem_append_left _ (List.mem_append_left _ (List.mem_append_left _ (List.mem_of_getElem? (l := wsX0_gatherAt_r1) (i := 22) rfl)))), (fun _ h => nomatch h)⟩)⟩), (fun _ h => List.mem_cons_of_mem _ (List.mem_append_right _ (h)))⟩)⟩) (by decide +kernel)
set_option maxRecDepth 20000 in
theorem gX0_gatherAt_X0_add : GoodIn wsX0_gatherAt (wsV RX0 56 RX0 yX0_add wsX0_add) := goodIn_app (goodIn_of _ (by decide +kernel)) ggX0_gatherAt_X0_add
set_option maxRecDepth 20000 in
theorem ggX0_gatherAt_X8_isTooQuick : GoodIn wsX0_gatherAt wsX8_isTooQuick := goodIn_sub (List.forall_mem_cons.mpr ⟨List.mem_cons_of_mem _ (List.mem_append_left _ (List.mem_append_left _ (List.mem_append_right _ (List.mem_append_left _ (List.mem_of_getElem? (l := wsX0_gatherAt_r2) (i := 2) rfl))))), (List.forall_mem_append.mpr ⟨(List.forall_mem_append.mpr ⟨(List.forall_mem_cons.mpr ⟨List.mem_cons_of_mem _ (List.mem_append_left _ (List.mem_append_left _ (List.mem_append_right _ (List.mem_append_left _ (List.mem_of_getElem? (l := wsX0_gatherAt_r2) (i := 3) rfl))))), (List.forall_mem_cons.mpr ⟨List.mem_cons_of_mem _ (List.mem_append_left _ (List.mem_append_left _ (List.mem_append_right _ (List.mem_append_left _ (List.mem_of_getElem? (l := wsX0_gatherAt_r2) (i := 4) rfl))))), (List.forall_mem_cons.mpr ⟨List.mem_cons_of_mem _ (List.mem_append_left _ (List.mem_append_left _ (List.mem_append_right _ (List.mem_append_left _ (List.mem_of_getElem? (l := wsX0_gatherAt_r2) (i := 5) rfl))))), (List.forall_mem_cons.mpr ⟨List.mem_cons_of_mem _ (List.mem_append_left _ (List.mem_append_left _ (List.mem_append_left _ (List.mem_of_getElem? (l := wsX0_gatherAt_r1) (i := 3) rfl)))), (List.forall_mem_cons.mpr ⟨List.mem_cons_of_mem _ (List.mem_append_left _ (List.mem_append_left _ (List.mem_append_right _ (List.mem_append_left _ (List.mem_of_getElem? (l := wsX0_gatherAt_r2) (i := 6) rfl))))), (List.forall_mem_cons.mpr ⟨List.mem_cons_of_mem _ (List.mem_append_left _ (List.mem_append_left _ (List.mem_append_left _ (List.mem_of_getElem? (l := wsX0_gatherAt_r1) (i := 15) rfl)))), (List.forall_mem_cons.mpr ⟨List.mem_cons_of_mem _ (List.mem_append_left _ (List.mem_append_left _ (List.mem_append_left _ (List.mem_of_getElem? (l := wsX0_gatherAt_r1) (i := 1) rfl)))), (List.forall_mem_cons.mpr ⟨List.mem_cons_of_mem _ (List.mem_append_left _ (List.mem_append_left _ (List.mem_append_left _ (List.mem_of_getElem? (l := wsX0_gatherAt_r1) (i := 2) rfl)))), (List.forall_mem_cons.mpr ⟨List.mem_cons_of_mem _ (List.mem_append_left _ (List.mem_append_left _ (List.mem_append_left _ (List.mem_of_getElem? (l := wsX0_gatherAt_r1) (i := 4) rfl)))), (List.forall_mem_cons.mpr ⟨List.mem_cons_of_mem _ (List.mem_append_left _ (List.mem_append_left _ (List.mem_append_left _ (List.mem_of_getElem? (l := wsX0_gatherAt_r1) (i := 5) rfl)))), (List.forall_mem_cons.mpr ⟨List.mem_cons_of_mem _ (List.mem_append_left _ (List.mem_append_left _ (List.mem_append_left _ (List.mem_of_getElem? (l := wsX0_gatherAt_r1) (i := 6) rfl)))), (List.forall_mem_cons.mpr ⟨List.mem_cons_of_mem _ (List.mem_append_left _ (List.mem_append_left _ (List.mem_append_left _ (List.mem_of_getElem? (l := wsX0_gatherAt_r1) (i := 7) rfl)))), (List.forall_mem_cons.mpr ⟨List.mem_cons_of_mem _ (List.mem_append_left _ (List.mem_append_left _ (List.mem_append_left _ (List.mem_of_getElem? (l := wsX0_gatherAt_r1) (i := 8) rfl)))), (List.forall_mem_cons.mpr ⟨List.mem_cons_of_mem _ (List.mem_append_left _ (List.mem_append_left _ (List.mem_append_left _ (List.mem_of_getElem? (l := wsX0_gatherAt_r1) (i := 9) rfl)))), (List.forall_mem_cons.mpr ⟨List.mem_cons_of_mem _ (List.mem_append_left _ (List.mem_append_left _ (List.mem_append_left _ (List.mem_of_getElem? (l := wsX0_gatherAt_r1) (i := 10) rfl)))), (List.forall_mem_cons.mpr ⟨List.mem_cons_of_mem _ (List.mem_append_left _ (List.mem_append_left _ (List.mem_append_right _ (List.mem_append_left _ (List.mem_of_getElem? (l := wsX0_gatherAt_r2) (i := 7) rfl))))), (List.forall_mem_cons.mpr ⟨List.mem_cons_of_mem _ (List.mem_append_left _ (List.mem_append_left _ (List.mem_append_right _ (List.mem_append_left _ (List.mem_of_getElem? (l := wsX0_gatherAt_r2) (i := 8) rfl))))), (List.forall_mem_cons.mpr ⟨List.mem_cons_of_mem _ (List.mem_append_left _ (List.mem_append_left _ (List.mem_append_right _ (List.mem_append_left _ (List.mem_of_getElem? (l := wsX0_gatherAt_r2) (i := 9) rfl))))), (List.forall_mem_cons.mpr ⟨List.mem_cons_of_mem _ (List.mem_append_left _ (List.mem_append_left _ (List.mem_append_right _ (List.mem_append_left _ (List.mem_of_getElem? (l := wsX0_gatherAt_r2) (i := 10) rfl))))), (List.forall_mem_cons.mpr ⟨List.mem_cons_of_mem _ (List.mem_append_left _ (List.mem_append_left _ (List.mem_append_right _ (List.mem_append_left _ (List.mem_of_getElem? (l := wsX0_gatherAt_r2) (i := 11) rfl))))), (List.forall_mem_cons.mpr ⟨List.mem_cons_of_mem _ (List.mem_append_left _ (List.mem_append_left _ (List.mem_append_right _ (List.mem_append_left _ (List.mem_of_getElem? (l := wsX0_gatherAt_r2) (i := 12) rfl))))), (List.forall_mem_cons.mpr ⟨List.mem_cons_of_mem _ (List.mem_append_left _ (List.mem_append_left _ (List.mem_append_right _ (List.mem_append_left _ (List.mem_of_getElem? (l := wsX0_gatherAt_r2) (i := 13) rfl))))), (List.forall_mem_cons.mpr ⟨List.mem_cons_of_mem _ (List.mem_append_left _ (List.mem_append_left _ (List.mem_append_right _ (List.mem_append_left _ (List.mem_of_getElem? (l := wsX0_gatherAt_r2) (i := 14) rfl))))), (List.forall_mem_cons.mpr ⟨List.mem_cons_of_mem _ (List.mem_append_left _ (List.mem_append_left _ (List.mem_append_right _ (List.mem_append_left _ (List.mem_of_getElem? (l := wsX0_gatherAt_r2) (i := 15) rfl))))), (fun _ h => nomatch h)⟩)⟩)⟩)⟩)⟩)⟩)⟩)⟩)⟩)⟩)⟩)⟩)⟩)⟩)⟩)⟩)⟩)⟩)⟩)⟩)⟩)⟩)⟩)⟩), (List.forall_mem_cons.mpr ⟨List.mem_cons_of_mem _ (List.mem_append_left _ (List.mem_append_left _ (List.mem_append_right _ (List.mem_append_left _ (List.mem_of_getElem? (l := wsX0_gatherAt_r2) (i := 16) rfl))))), (List.forall_mem_cons.mpr ⟨List.mem_cons_of_mem _ (List.mem_append_left _ (List.mem_append_left _ (List.mem_append_right _ (List.mem_append_left _ (List.mem_of_getElem? (l := wsX0_gatherAt_r2) (i := 17) rfl))))), (List.forall_mem_cons.mpr ⟨List.mem_cons_of_mem _ (List.mem_append_left _ (List.mem_append_left _ (List.mem_append_right _ (List.mem_append_left _ (List.mem_of_getElem? (l := wsX0_gatherAt_r2) (i := 18) rfl))))), (List.forall_mem_cons.mpr ⟨List.mem_cons_of_mem _ (List.mem_append_left _ (List.mem_append_left _ (List.mem_append_right _ (List.mem_append_left _ (List.mem_of_getElem? (l := wsX0_gatherAt_r2) (i := 19) rfl))))), (fun _ h => nomatch h)⟩)⟩)⟩)⟩)⟩), (fun _ h => List.mem_cons_of_mem _ (List.mem_append_left _ (List.mem_append_right _ (h))))⟩)⟩) (by decide +kernel)
set_option maxRecDepth 20000 in
theorem gX0_gatherAt_X8_isTooQuick : GoodIn wsX0_gatherAt (wsV RX0 60 RX8 yX8_isTooQuick wsX8_isTooQuick) := goodIn_app (goodIn_of _ (by decide +kernel)) ggX0_gatherAt_X8_isTooQuick
set_option maxRecDepth 20000 in
theorem ggX0_gatherAt_X8_leastGuess : GoodIn wsX0_gatherAt wsX8_leastGuess := goodIn_sub (List.forall_mem_cons.mpr ⟨List.mem_cons_of_mem _ (List.mem_append_left _ (List.mem_append_left _ (List.mem_append_right _ (List.mem_append_left _ (List.mem_of_getElem? (l := wsX0_gatherAt_r2) (i := 23) rfl))))), (List.forall_mem_append.mpr ⟨(List.forall_mem_append.mpr ⟨(List.forall_mem_cons.mpr ⟨List.mem_cons_of_mem _ (List.mem_append_left _ (List.mem_append_left _ (List.mem_append_right _ (List.mem_append_right _ (List.mem_of_getElem? (l := wsX0_gatherAt_r3) (i := 0) rfl))))), (List.forall_mem_cons.mpr ⟨List.mem_cons_of_mem _ (List.mem_append_left _ (List.mem_append_left _ (List.mem_append_right _ (List.mem_append_right _ (List.mem_of_getElem? (l := wsX0_gatherAt_r3) (i := 1) rfl))))), (List.forall_mem_cons.mpr ⟨List.mem_cons_of_mem _ (List.mem_append_left _ (List.mem_append_left _ (List.mem_append_right _ (List.mem_append_right _ (List.mem_of_getElem? (l := wsX0_gatherAt_r3) (i := 2) rfl))))), (List.forall_mem_cons.mpr ⟨List.mem_cons_of_mem _ (List.mem_append_left _ (List.mem_append_left _ (List.mem_append_right _ (List.mem_append_right _ (List.mem_of_getElem? (l := wsX0_gatherAt_r3) (i := 3) rfl))))), (List.forall_mem_cons.mpr ⟨List.mem_cons_of_mem _ (List.mem_append_left _ (List.mem_append_left _ (List.mem_append_right _ (List.mem_append_left _ (List.mem_of_getElem? (l := wsX0_gatherAt_r2) (i := 3) rfl))))), (List.forall_mem_cons.mpr ⟨List.mem_cons_of_mem _ (List.mem_append_left _ (List.mem_append_left _ (List.mem_append_right _ (List.mem_append_left _ (List.mem_of_getElem? (l := wsX0_gatherAt_r2) (i := 4) rfl))))), (List.forall_mem_cons.mpr ⟨List.mem_cons_of_mem _ (List.mem_append_left _ (List.mem_append_left _ (List.mem_append_right _ (List.mem_append_left _ (List.mem_of_getElem? (l := wsX0_gatherAt_r2) (i := 5) rfl))))), (List.forall_mem_cons.mpr ⟨List.mem_cons_of_mem _ (List.mem_append_left _ (List.mem_append_left _ (List.mem_append_left _ (List.mem_of_getElem? (l := wsX0_gatherAt_r1) (i := 3) rfl)))), (List.forall_mem_cons.mpr ⟨List.mem_cons_of_mem _ (List.mem_append_left _ (List.mem_append_left _ (List.mem_append_right _ (List.mem_append_left _ (List.mem_of_getElem? (l := wsX0_gatherAt_r2) (i := 6) rfl))))), (List.forall_mem_cons.mpr ⟨List.mem_cons_of_mem _ (List.mem_append_left _ (List.mem_append_left _ (List.mem_append_left _ (List.mem_of_getElem? (l := wsX0_gatherAt_r1) (i := 15) rfl)))), (List.forall_mem_cons.mpr ⟨List.mem_cons_of_mem _ (List.mem_append_left _ (List.mem_append_left _ (List.mem_append_left _ (List.mem_of_getElem? (l := wsX0_gatherAt_r1) (i := 1) rfl)))), (List.forall_mem_cons.mpr ⟨List.mem_cons_of_mem _ (List.mem_append_left _ (List.mem_append_left _ (List.mem_append_left _ (List.mem_of_getElem? (l := wsX0_gatherAt_r1) (i := 2) rfl)))), (List.forall_mem_cons.mpr ⟨List.mem_cons_of_mem _ (List.mem_append_left _ (List.mem_append_left _ (List.mem_append_left _ (List.mem_of_getElem? (l := wsX0_gatherAt_r1) (i := 4) rfl)))), (List.forall_mem_cons.mpr ⟨List.mem_cons_of_mem _ (List.mem_append_left _ (List.mem_append_left _ (List.mem_append_left _ (List.mem_of_getElem? (l := wsX0_gatherAt_r1) (i := 5) rfl)))), (List.forall_mem_cons.mpr ⟨List.mem_cons_of_mem _ (List.mem_append_left _ (List.mem_append_left _ (List.mem_append_left _ (List.mem_of_getElem? (l := wsX0_gatherAt_r1) (i := 6) rfl)))), (List.forall_mem_cons.mpr ⟨List.mem_cons_of_mem _ (List.mem_append_left _ (List.mem_append_left _ (List.mem_append_left _ (List.mem_of_getElem? (l := wsX0_gatherAt_r1) (i := 7) rfl)))), (List.forall_mem_cons.mpr ⟨List.mem_cons_of_mem _ (List.mem_append_left _ (List.mem_append_left _ (List.mem_append_left _ (List.mem_of_getElem? (l := wsX0_gatherAt_r1) (i := 8) rfl)))), (List.forall_mem_cons.mpr ⟨List.mem_cons_of_mem _ (List.mem_append_left _ (List.mem_append_left _ (List.mem_append_left _ (List.mem_of_getElem? (l := wsX0_gatherAt_r1) (i := 9) rfl)))), (List.forall_mem_cons.mpr ⟨List.mem_cons_of_mem _ (List.mem_append_left _ (List.mem_append_left _ (List.mem_append_left _ (List.mem_of_getElem? (l := wsX0_gatherAt_r1) (i := 10) rfl)))), (List.forall_mem_cons.mpr ⟨List.mem_cons_of_mem _ (List.mem_append_left _ (List.mem_append_left _ (List.mem_append_right _ (List.mem_append_left _ (List.mem_of_getElem? (l := wsX0_gatherAt_r2) (i := 7) rfl))))), (List.forall_mem_cons.mpr ⟨List.mem_cons_of_mem _ (List.mem_append_left _ (List.mem_append_left _ (List.mem_append_right _ (List.mem_append_left _ (List.mem_of_getElem? (l := wsX0_gatherAt_r2) (i := 8) rfl))))), (List.forall_mem_cons.mpr ⟨List.mem_cons_of_mem _ (List.mem_append_left _ (List.mem_append_left _ (List.mem_append_right _ (List.mem_append_left _ (List.mem_of_getElem? (l := wsX0_gatherAt_r2) (i := 9) rfl))))), (List.forall_mem_cons.mpr ⟨List.mem_cons_of_mem _ (List.mem_append_left _ (List.mem_append_left _ (List.mem_append_right _ (List.mem_append_left _ (List.mem_of_getElem? (l := wsX0_gatherAt_r2) (i := 10) rfl))))), (List.forall_mem_cons.mpr ⟨List.mem_cons_of_mem _ (List.mem_append_left _ (List.mem_append_left _ (List.mem_append_right _ (List.mem_append_left _ (List.mem_of_getElem? (l := wsX0_gatherAt_r2) (i := 11) rfl))))), (fun _ h => nomatch h)⟩)⟩)⟩)⟩)⟩)⟩)⟩)⟩)⟩)⟩)⟩)⟩)⟩)⟩)⟩)⟩)⟩)⟩)⟩)⟩)⟩)⟩)⟩)⟩), (List.forall_mem_cons.mpr ⟨List.mem_cons_of_mem _ (List.mem_append_left _ (List.mem_append_left _ (List.mem_append_right _ (List.mem_append_left _ (List.mem_of_getElem? (l := wsX0_gatherAt_r2) (i := 12) rfl))))), (List.forall_mem_cons.mpr ⟨List.mem_cons_of_mem _ (List.mem_append_left _ (List.mem_append_left _ (List.mem_append_right _ (List.mem_append_left _ (List.mem_of_getElem? (l := wsX0_gatherAt_r2) (i := 13) rfl))))), (List.forall_mem_cons.mpr ⟨List.mem_cons_of_mem _ (List.mem_append_left _ (List.mem_append_left _ (List.mem_append_right _ (List.mem_append_left _ (List.mem_of_getElem? (l := wsX0_gatherAt_r2) (i := 14) rfl))))), (List.forall_mem_cons.mpr ⟨List.mem_cons_of_mem _ (List.mem_append_left _ (List.mem_append_left _ (List.mem_append_right _ (List.mem_append_left _ (List.mem_of_getElem? (l := wsX0_gatherAt_r2) (i := 15) rfl))))), (List.forall_mem_cons.mpr ⟨List.mem_cons_of_mem _ (List.mem_append_left _ (List.mem_append_left _ (List.mem_append_right _ (List.mem_append_left _ (List.mem_of_getElem? (l := wsX0_gatherAt_r2) (i := 16) rfl))))), (List.forall_mem_cons.mpr ⟨List.mem_cons_of_mem _ (List.mem_append_left _ (List.mem_append_left _ (List.mem_append_right _ (List.mem_append_left _ (List.mem_of_getElem? (l := wsX0_gatherAt_r2) (i := 17) rfl))))), (List.forall_mem_cons.mpr ⟨List.mem_cons_of_mem _ (List.mem_append_left _ (List.mem_append_left _ (List.mem_append_right _ (List.mem_append_left _ (List.mem_of_getElem? (l := wsX0_gatherAt_r2) (i := 18) rfl))))), (List.forall_mem_cons.mpr ⟨List.mem_cons_of_mem _ (List.mem_append_left _ (List.mem_append_left _ (List.mem_append_right _ (List.mem_append_left _ (List.mem_of_getElem? (l := wsX0_gatherAt_r2) (i := 19) rfl))))), (List.forall_mem_cons.mpr ⟨List.mem_cons_of_mem _ (List.mem_append_left _ (List.mem_append_left _ (List.mem_append_right _ (List.mem_append_right _ (List.mem_of_getElem? (l := wsX0_gatherAt_r3) (i := 4) rfl))))), (List.forall_mem_cons.mpr ⟨List.mem_cons_of_mem _ (List.mem_append_left _ (List.mem_append_left _ (List.mem_append_left _ (List.mem_of_getElem? (l := wsX0_gatherAt_r1) (i := 12) rfl)))), (List.forall_mem_cons.mpr ⟨List.mem_cons_of_mem _ (List.mem_append_left _ (List.mem_append_left _ (List.mem_append_left _ (List.mem_of_getElem? (l := wsX0_gatherAt_r1) (i := 13) rfl)))), (List.forall_mem_cons.mpr ⟨List.mem_cons_of_mem _ (List.mem_append_left _ (List.mem_append_left _ (List.mem_append_left _ (List.mem_of_getElem? (l := wsX0_gatherAt_r1) (i := 14) rfl)))), (List.forall_mem_cons.mpr ⟨List.mem_cons_of_mem _ (List.mem_append_left _ (List.mem_append_left _ (List.mem_append_right _ (List.mem_append_right _ (List.mem_of_getElem? (l := wsX0_gatherAt_r3) (i := 5) rfl))))), (List.forall_mem_cons.mpr ⟨List.mem_cons_of_mem _ (List.mem_append_left _ (List.mem_append_left _ (List.mem_append_right _ (List.mem_append_right _ (List.mem_of_getElem? (l := wsX0_gatherAt_r3) (i := 6) rfl))))), (List.forall_mem_cons.mpr ⟨List.mem_cons_of_mem _ (List.mem_append_left _ (List.mem_append_left _ (List.mem_append_right _ (List.mem_append_right _ (List.mem_of_getElem? (l := wsX0_gatherAt_r3) (i := 7) rfl))))), (List.forall_mem_cons.mpr ⟨List.mem_cons_of_mem _ (List.mem_append_left _ (List.mem_append_left _ (List.mem_append_right _ (List.mem_append_right _ (List.mem_of_getElem? (l := wsX0_gatherAt_r3) (i := 8) rfl))))), (List.forall_mem_cons.mpr ⟨List.mem_cons_of_mem _ (List.mem_append_left _ (List.mem_append_left _ (List.mem_append_right _ (List.mem_append_right _ (List.mem_of_getElem? (l := wsX0_gatherAt_r3) (i := 9) rfl))))), (List.forall_mem_cons.mpr ⟨List.mem_cons_of_mem _ (List.mem_append_left _ (List.mem_append_left _ (List.mem_append_right _ (List.mem_append_right _ (List.mem_of_getElem? (l := wsX0_gatherAt_r3) (i := 10) rfl))))), (List.forall_mem_cons.mpr ⟨List.mem_cons_of_mem _ (List.mem_append_left _ (List.mem_append_left _ (List.mem_append_right _ (List.mem_append_right _ (List.mem_of_getElem? (l := wsX0_gatherAt_r3) (i := 11) rfl))))), (fun _ h => nomatch h)⟩)⟩)⟩)⟩)⟩)⟩)⟩)⟩)⟩)⟩)⟩)⟩)⟩)⟩)⟩)⟩)⟩)⟩)⟩)⟩), (fun _ h => List.mem_cons_of_mem _ (List.mem_append_left _ (List.mem_append_right _ (h))))⟩)⟩) (by decide +kernel)
set_option maxRecDepth 20000 in
theorem gX0_gatherAt_X8_leastGuess : GoodIn wsX0_gatherAt (wsV RX0 63 RX8 yX8_leastGuess wsX8_leastGuess) := goodIn_app (goodIn_of _ (by decide +kernel)) ggX0_gatherAt_X8_leastGuess
set_option maxRecDepth 20000 in
theorem ggX0_gatherAt_X8_greatestGuess : GoodIn wsX0_gatherAt wsX8_greatestGuess := goodIn_sub (List.forall_mem_cons.mpr ⟨List.mem_cons_of_mem _ (List.mem_append_left _ (List.mem_append_left _ (List.mem_append_right _ (List.mem_append_right _ (List.mem_of_getElem? (l := wsX0_gatherAt_r3) (i := 15) rfl))))), (List.forall_mem_append.mpr ⟨(List.forall_mem_append.mpr ⟨(List.forall_mem_cons.mpr ⟨List.mem_cons_of_mem _ (List.mem_append_left _ (List.mem_append_left _ (List.mem_append_right _ (List.mem_append_right _ (List.mem_of_getElem? (l := wsX0_gatherAt_r3) (i := 16) rfl))))), (List.forall_mem_cons.mpr ⟨List.mem_cons_of_mem _ (List.mem_append_left _ (List.mem_append_left _ (List.mem_append_right _ (List.mem_append_right _ (List.mem_of_getElem? (l := wsX0_gatherAt_r3) (i := 17) rfl))))), (List.forall_mem_cons.mpr ⟨List.mem_cons_of_mem _ (List.mem_append_left _ (List.mem_append_left _ (List.mem_append_right _ (List.mem_append_right _ (List.mem_of_getElem? (l := wsX0_gatherAt_r3) (i := 2) rfl))))), (List.forall_mem_cons.mpr ⟨List.mem_cons_of_mem _ (List.mem_append_left _ (List.mem_append_left _ (List.mem_append_right _ (List.mem_append_right _ (List.mem_of_getElem? (l := wsX0_gatherAt_r3) (i := 18) rfl))))), (List.forall_mem_cons.mpr ⟨List.mem_cons_of_mem _ (List.mem_append_left _ (List.mem_append_left _ (List.mem_append_right _ (List.mem_append_right _ (List.mem_of_getElem? (l := wsX0_gatherAt_r3) (i := 0) rfl))))), (List.forall_mem_cons.mpr ⟨List.mem_cons_of_mem _ (List.mem_append_left _ (List.mem_append_left _ (List.mem_append_right _ (List.mem_append_right _ (List.mem_of_getElem? (l := wsX0_gatherAt_r3) (i := 1) rfl))))), (List.forall_mem_cons.mpr ⟨List.mem_cons_of_mem _ (List.mem_append_left _ (List.mem_append_left _ (List.mem_append_right _ (List.mem_append_right _ (List.mem_of_getElem? (l := wsX0_gatherAt_r3) (i := 3) rfl))))), (List.forall_mem_cons.mpr ⟨List.mem_cons_of_mem _ (List.mem_append_left _ (List.mem_append_left _ (List.mem_append_right _ (List.mem_append_left _ (List.mem_of_getElem? (l := wsX0_gatherAt_r2) (i := 3) rfl))))), (List.forall_mem_cons.mpr ⟨List.mem_cons_of_mem _ (List.mem_append_left _ (List.mem_append_left _ (List.mem_append_right _ (List.mem_append_left _ (List.mem_of_getElem? (l := wsX0_gatherAt_r2) (i := 4) rfl))))), (List.forall_mem_cons.mpr ⟨List.mem_cons_of_mem _ (List.mem_append_left _ (List.mem_append_left _ (List.mem_append_right _ (List.mem_append_left _ (List.mem_of_getElem? (l := wsX0_gatherAt_r2) (i := 5) rfl))))), (List.forall_mem_cons.mpr ⟨List.mem_cons_of_mem _ (List.mem_append_left _ (List.mem_append_left _ (List.mem_append_left _ (List.mem_of_getElem? (l := wsX0_gatherAt_r1) (i := 3) rfl)))), (List.forall_mem_cons.mpr ⟨List.mem_cons_of_mem _ (List.mem_append_left _ (List.mem_append_left _ (List.mem_append_right _ (List.mem_append_left _ (List.mem_of_getElem? (l := wsX0_gatherAt_r2) (i := 6) rfl))))), (List.forall_mem_cons.mpr ⟨List.mem_cons_of_mem _ (List.mem_append_left _ (List.mem_append_left _ (List.mem_append_left _ (List.mem_of_getElem? (l := wsX0_gatherAt_r1) (i := 15) rfl)))), (List.forall_mem_cons.mpr ⟨List.mem_cons_of_mem _ (List.mem_append_left _ (List.mem_append_left _ (List.mem_append_left _ (List.mem_of_getElem? (l := wsX0_gatherAt_r1) (i := 1) rfl)))), (List.forall_mem_cons.mpr ⟨List.mem_cons_of_mem _ (List.mem_append_left _ (List.mem_append_left _ (List.mem_append_left _ (List.mem_of_getElem? (l := wsX0_gatherAt_r1) (i := 2) rfl)))), (List.forall_mem_cons.mpr ⟨List.mem_cons_of_mem _ (List.mem_append_left _ (List.mem_append_left _ (List.mem_append_left _ (List.mem_of_getElem? (l := wsX0_gatherAt_r1) (i := 4) rfl)))), (List.forall_mem_cons.mpr ⟨List.mem_cons_of_mem _ (List.mem_append_left _ (List.mem_append_left _ (List.mem_append_left _ (List.mem_of_getElem? (l := wsX0_gatherAt_r1) (i := 5) rfl)))), (List.forall_mem_cons.mpr ⟨List.mem_cons_of_mem _ (List.mem_append_left _ (List.mem_append_left _ (List.mem_append_left _ (List.mem_of_getElem? (l := wsX0_gatherAt_r1) (i := 6) rfl)))), (List.forall_mem_cons.mpr ⟨List.mem_cons_of_mem _ (List.mem_append_left _ (List.mem_append_left _ (List.mem_append_left _ (List.mem_of_getElem? (l := wsX0_gatherAt_r1) (i := 7) rfl)))), (List.forall_mem_cons.mpr ⟨List.mem_cons_of_mem _ (List.mem_append_left _ (List.mem_append_left _ (List.mem_append_left _ (List.mem_of_getElem? (l := wsX0_gatherAt_r1) (i := 8) rfl)))), (List.forall_mem_cons.mpr ⟨List.mem_cons_of_mem _ (List.mem_append_left _ (List.mem_append_left _ (List.mem_append_left _ (List.mem_of_getElem? (l := wsX0_gatherAt_r1) (i := 9) rfl)))), (List.forall_mem_cons.mpr ⟨List.mem_cons_of_mem _ (List.mem_append_left _ (List.mem_append_left _ (List.mem_append_left _ (List.mem_of_getElem? (l := wsX0_gatherAt_r1) (i := 10) rfl)))), (List.forall_mem_cons.mpr ⟨List.mem_cons_of_mem _ (List.mem_append_left _ (List.mem_append_left _ (List.mem_append_right _ (List.mem_append_right _ (List.mem_of_getElem? (l := wsX0_gatherAt_r3) (i := 5) rfl))))), (List.forall_mem_cons.mpr ⟨List.mem_cons_of_mem _ (List.mem_append_left _ (List.mem_append_left _ (List.mem_append_right _ (List.mem_append_right _ (List.mem_of_getElem? (l := wsX0_gatherAt_r3) (i := 6) rfl))))), (fun _ h => nomatch h)⟩)⟩)⟩)⟩)⟩)⟩)⟩)⟩)⟩)⟩)⟩)⟩)⟩)⟩)⟩)⟩)⟩)⟩)⟩)⟩)⟩)⟩)⟩)⟩), (List.forall_mem_cons.mpr ⟨List.mem_cons_of_mem _ (List.mem_append_left _ (List.mem_append_left _ (List.mem_append_right _ (List.mem_append_right _ (List.mem_of_getElem? (l := wsX0_gatherAt_r3) (i := 7) rfl))))), (List.forall_mem_cons.mpr ⟨List.mem_cons_of_mem _ (List.mem_append_left _ (List.mem_append_left _ (List.mem_append_right _ (List.mem_append_right _ (List.mem_of_getElem? (l := wsX0_gatherAt_r3) (i := 8) rfl))))), (List.forall_mem_cons.mpr ⟨List.mem_cons_of_mem _ (List.mem_append_left _ (List.mem_append_left _ (List.mem_append_right _ (List.mem_append_right _ (List.mem_of_getElem? (l := wsX0_gatherAt_r3) (i := 9) rfl))))), (List.forall_mem_cons.mpr ⟨List.mem_cons_of_mem _ (List.mem_append_left _ (List.mem_append_left _ (List.mem_append_right _ (List.mem_append_left _ (List.mem_of_getElem? (l := wsX0_gatherAt_r2) (i := 12) rfl))))), (List.forall_mem_cons.mpr ⟨List.mem_cons_of_mem _ (List.mem_append_left _ (List.mem_append_left _ (List.mem_append_right _ (List.mem_append_left _ (List.mem_of_getElem? (l := wsX0_gatherAt_r2) (i := 13) rfl))))), (List.forall_mem_cons.mpr ⟨List.mem_cons_of_mem _ (List.mem_append_left _ (List.mem_append_left _ (List.mem_append_right _ (List.mem_append_left _ (List.mem_of_getElem? (l := wsX0_gatherAt_r2) (i := 14) rfl))))), (List.forall_mem_cons.mpr ⟨List.mem_cons_of_mem _ (List.mem_append_left _ (List.mem_append_left _ (List.mem_append_right _ (List.mem_append_left _ (List.mem_of_getElem? (l := wsX0_gatherAt_r2) (i := 15) rfl))))), (List.forall_mem_cons.mpr ⟨List.mem_cons_of_mem _ (List.mem_append_left _ (List.mem_append_left _ (List.mem_append_right _ (List.mem_append_left _ (List.mem_of_getElem? (l := wsX0_gatherAt_r2) (i := 16) rfl))))), (List.forall_mem_cons.mpr ⟨List.mem_cons_of_mem _ (List.mem_append_left _ (List.mem_append_left _ (List.mem_append_right _ (List.mem_append_right _ (List.mem_of_getElem? (l := wsX0_gatherAt_r3) (i := 10) rfl))))), (List.forall_mem_cons.mpr ⟨List.mem_cons_of_mem _ (List.mem_append_left _ (List.mem_append_left _ (List.mem_append_right _ (List.mem_append_left _ (List.mem_of_getElem? (l := wsX0_gatherAt_r2) (i := 18) rfl))))), (List.forall_mem_cons.mpr ⟨List.mem_cons_of_mem _ (List.mem_append_left _ (List.mem_append_left _ (List.mem_append_right _ (List.mem_append_right _ (List.mem_of_getElem? (l := wsX0_gatherAt_r3) (i := 11) rfl))))), (List.forall_mem_cons.mpr ⟨List.mem_cons_of_mem _ (List.mem_append_left _ (List.mem_append_left _ (List.mem_append_right _ (List.mem_append_right _ (List.mem_of_getElem? (l := wsX0_gatherAt_r3) (i := 4) rfl))))), (List.forall_mem_cons.mpr ⟨List.mem_cons_of_mem _ (List.mem_append_left _ (List.mem_append_left _ (List.mem_append_left _ (List.mem_of_getElem? (l := wsX0_gatherAt_r1) (i := 12) rfl)))), (List.forall_mem_cons.mpr ⟨List.mem_cons_of_mem _ (List.mem_append_left _ (List.mem_append_left _ (List.mem_append_left _ (List.mem_of_getElem? (l := wsX0_gatherAt_r1) (i := 13) rfl)))), (List.forall_mem_cons.mpr ⟨List.mem_cons_of_mem _ (List.mem_append_left _ (List.mem_append_left _ (List.mem_append_left _ (List.mem_of_getElem? (l := wsX0_gatherAt_r1) (i := 14) rfl)))), (List.forall_mem_cons.mpr ⟨List.mem_cons_of_mem _ (List.mem_append_left _ (List.mem_append_left _ (List.mem_append_right _ (List.mem_append_left _ (List.mem_of_getElem? (l := wsX0_gatherAt_r2) (i := 7) rfl))))), (List.forall_mem_cons.mpr ⟨List.mem_cons_of_mem _ (List.mem_append_left _ (List.mem_append_left _ (List.mem_append_right _ (List.mem_append_left _ (List.mem_of_getElem? (l := wsX0_gatherAt_r2) (i := 8) rfl))))), (List.forall_mem_cons.mpr ⟨List.mem_cons_of_mem _ (List.mem_append_left _ (List.mem_append_left _ (List.mem_append_right _ (List.mem_append_left _ (List.mem_of_getElem? (l := wsX0_gatherAt_r2) (i := 9) rfl))))), (List.forall_mem_cons.mpr ⟨List.mem_cons_of_mem _ (List.mem_append_left _ (List.mem_append_left _ (List.mem_append_right _ (List.mem_append_left _ (List.mem_of_getElem? (l := wsX0_gatherAt_r2) (i := 10) rfl))))), (List.forall_mem_cons.mpr ⟨List.mem_cons_of_mem _ (List.mem_append_left _ (List.mem_append_left _ (List.mem_append_right _ (List.mem_append_left _ (List.mem_of_getElem? (l := wsX0_gatherAt_r2) (i := 11) rfl))))), (List.forall_mem_cons.mpr ⟨List.mem_cons_of_mem _ (List.mem_append_left _ (List.mem_append_left _ (List.mem_append_right _ (List.mem_append_left _ (List.mem_of_getElem? (l := wsX0_gatherAt_r2) (i := 17) rfl))))), (List.forall_mem_cons.mpr ⟨List.mem_cons_of_mem _ (List.mem_append_left _ (List.mem_append_left _ (List.mem_append_right _ (List.mem_append_left _ (List.mem_of_getElem? (l := wsX0_gatherAt_r2) (i := 19) rfl))))), (fun _ h => nomatch h)⟩)⟩)⟩)⟩)⟩)⟩)⟩)⟩)⟩)⟩)⟩)⟩)⟩)⟩)⟩)⟩)⟩)⟩)⟩)⟩)⟩)⟩)⟩), (fun _ h => List.mem_cons_of_mem _ (List.mem_append_left _ (List.mem_append_right _ (h))))⟩)⟩) (by decide +kernel)
set_option maxRecDepth 20000 in
theorem gX0_gatherAt_X8_greatestGuess : GoodIn wsX0_gatherAt (wsV RX0 66 RX8 yX8_greatestGuess wsX8_greatestGuess) := goodIn_app (goodIn_of _ (by decide +kernel)) ggX0_gatherAt_X8_greatestGuess
set_option maxHeartbeats 4000000 in
set_option maxRecDepth 100000 in
theorem mX0_gatherAt (l : Launch) (D : va_G) (cB cI cZ : ClassId) (a_t : Nat) (a_p1 : Nat) (a_t_codes : Nat) (a_p1_ticks : Nat) (a_p1_places : Nat) (t_doubts : Int32) (t_codes : Nat → Int32) (p1_mats : Int32) (p1_least : Int32) (p1_greatest : Int32) (p1_places : Nat → Int32) (p1_ticks : Nat → Int32) (sz : Nat) (x2 : Int32) (x3 : Int32) (N : Nat) (t_doubts' : Int32) (t_codes' : Nat → Int32) (h : fX0_gatherAt N t_doubts t_codes p1_greatest p1_least p1_mats p1_places p1_ticks x2 x3 = some (t_doubts', t_codes')) : Met l yX0_gatherAt wsX0_gatherAt ({ frames := 4, cells := 0, slots := 0, locals := 88 } : Room) (va_Pc [.ref a_t, .ref a_p1, .int x2, .int x3] (zPre D (zT cB cI cZ) [(a_t, .inr (0, [.ref a_t_codes, .int t_doubts])), (a_t_codes, .inl (cI, 2160, .inl t_codes)), (a_p1, .inr (8, [.ref a_p1_ticks, .ref a_p1_places, .int p1_mats, .int p1_least, .int p1_greatest])), (a_p1_places, .inl (cI, 12, .inl p1_places)), (a_p1_ticks, .inl (cI, 12, .inl p1_ticks))] sz)) (zQv D (zT cB cI cZ) [(a_t, .inr (0, [.ref a_t_codes, .int t_doubts'])), (a_t_codes, .inl (cI, 2160, .inl t_codes')), (a_p1, .inr (8, [.ref a_p1_ticks, .ref a_p1_places, .int p1_mats, .int p1_least, .int p1_greatest])), (a_p1_places, .inl (cI, 12, .inl p1_places)), (a_p1_ticks, .inl (cI, 12, .inl p1_ticks))] (va_A [(a_t, .inr (0, [.ref a_t_codes, .int t_doubts])), (a_t_codes, .inl (cI, 2160, .inl t_codes)), (a_p1, .inr (8, [.ref a_p1_ticks, .ref a_p1_places, .int p1_mats, .int p1_least, .int p1_greatest])), (a_p1_places, .inl (cI, 12, .inl p1_places)), (a_p1_ticks, .inl (cI, 12, .inl p1_ticks))] sz)) 0 0 (va_A [(a_t, .inr (0, [.ref a_t_codes, .int t_doubts])), (a_t_codes, .inl (cI, 2160, .inl t_codes)), (a_p1, .inr (8, [.ref a_p1_ticks, .ref a_p1_places, .int p1_mats, .int p1_least, .int p1_greatest])), (a_p1_places, .inl (cI, 12, .inl p1_places)), (a_p1_ticks, .inl (cI, 12, .inl p1_ticks))] sz) := by
  refine Met.ofW (cc := cX0_gatherAt) (maxL := 5) (ret := none) (by decide) rfl ?_
  intro p e s m args below meth c s₁ B hml hv
  obtain ⟨rfl, hsz, hP, hK, hN, hZ, hD0⟩ := hv
  have hx := B.exec
  have hb := B.bytes
  have hr := B.returns
  have hts := atoms_spec (ws := wsX0_gatherAt) B.pre
  have hown : s.vm.findClass RX0 = some m.cls := findClass_of_methodNamed B.named
  have hlocks := B.notSynchronized
  subst hsz
  have hD := hD0.self (sz := s.heap.size)
  generalize hAe : va_A [(a_t, .inr (0, [.ref a_t_codes, .int t_doubts])), (a_t_codes, .inl (cI, 2160, .inl t_codes)), (a_p1, .inr (8, [.ref a_p1_ticks, .ref a_p1_places, .int p1_mats, .int p1_least, .int p1_greatest])), (a_p1_places, .inl (cI, 12, .inl p1_places)), (a_p1_ticks, .inl (cI, 12, .inl p1_ticks))] s.heap.size = A at hD hZ ⊢
  have hA : ∀ q : Nat, s.heap.size ≤ q → A q := fun q h => by rw [← hAe]; exact Or.inr h
  have hS : va_S A s.heap s.heap [] := va_S.rf
  have hl := lv_entry ([.ref a_t, .ref a_p1, .int x2, .int x3]) (n := 5) (Nat.le_of_ble_eq_true rfl)
  rw [lg_entry_eq]
  generalize (lg_sl ([.ref a_t, .ref a_p1, .int x2, .int x3]) ++ List.replicate (5 - (lg_sl ([.ref a_t, .ref a_p1, .int x2, .int x3])).length) Slot.unset).toArray = ls at hl ⊢
  have hl : lv_has ls 5 [(0, .ref a_t), (1, .ref a_p1), (2, .int x2), (3, .int x3)] := hl
  unfold fX0_gatherAt at h
  refine lv_aload_n hx hb dX0_gatherAt_0 rfl (lv_at hl 1 rfl) ?_
  refine lv_iload_n hx hb dX0_gatherAt_1 rfl (lv_at hl 3 rfl) ?_
  obtain ⟨b1, e2, h⟩ := zz_b h
  refine zVi (As := [.int x3]) (rest := []) (C := RX8) (wr := [(a_t, .inr (0, [.ref a_t_codes, .int t_doubts])), (a_t_codes, .inl (cI, 2160, .inl t_codes)), (a_p1_places, .inl (cI, 12, .inl p1_places))]) [2, 4] [0, 1, 3] 0 ⟨hx, hb, hml, hown, hts⟩ (mX8_isSeen l D cB cI cZ a_p1 a_p1_ticks a_p1_places p1_mats p1_least p1_greatest p1_ticks s.heap.size x3 b1 e2) (cwV 1 hts gX0_gatherAt_X8_isSeen rfl rfl rfl (by decide +kernel) ⟨Nat.le_of_ble_eq_true rfl, Nat.le_of_ble_eq_true rfl⟩) hK hN hZ hP hD hS hA rfl rfl rfl rfl rfl rfl rfl rfl hl.1 rfl (lv_room (Nat.le_of_ble_eq_true rfl)) dX0_gatherAt_2 ⟨Nat.le_of_ble_eq_true rfl, Nat.le_of_ble_eq_true rfl⟩ (fun H locs hP hD hS => ?_)
  have hP : va_P D vwCl [(a_t, .inr (0, [.ref a_t_codes, .int t_doubts])), (a_t_codes, .inl (cI, 2160, .inl t_codes)), (a_p1_places, .inl (cI, 12, .inl p1_places)), (a_p1, .inr (8, [.ref a_p1_ticks, .ref a_p1_places, .int p1_mats, .int p1_least, .int p1_greatest])), (a_p1_ticks, .inl (cI, 12, .inl p1_ticks))] H := hP
  have hD : va_D A [(a_t, .inr (0, [.ref a_t_codes, .int t_doubts])), (a_t_codes, .inl (cI, 2160, .inl t_codes)), (a_p1_places, .inl (cI, 12, .inl p1_places)), (a_p1, .inr (8, [.ref a_p1_ticks, .ref a_p1_places, .int p1_mats, .int p1_least, .int p1_greatest])), (a_p1_ticks, .inl (cI, 12, .inl p1_ticks))] := hD
  refine lv_istore (lv' := [(4, .int (zb b1)), (0, .ref a_t), (1, .ref a_p1), (2, .int x2), (3, .int x3)]) hx hb dX0_gatherAt_5 hl (by decide) rfl (fun ls hl => ?_)
  refine lv_iload hx hb dX0_gatherAt_7 (lv_at hl 0 rfl) ?_
  have J28 : ∀ (t_doubts_j28 : Int32) (t_codes_j28 : Nat → Int32) (H : Heap) (locs : List Loc) (ls : Array Slot), fX0_gatherAt_J28 N p1_mats p1_least p1_greatest p1_places p1_ticks x2 x3 b1 t_doubts_j28 t_codes_j28 = some (t_doubts', t_codes') → va_P D vwCl [(a_t, .inr (0, [.ref a_t_codes, .int t_doubts_j28])), (a_t_codes, .inl (cI, 2160, .inl t_codes_j28)), (a_p1_places, .inl (cI, 12, .inl p1_places)), (a_p1, .inr (8, [.ref a_p1_ticks, .ref a_p1_places, .int p1_mats, .int p1_least, .int p1_greatest])), (a_p1_ticks, .inl (cI, 12, .inl p1_ticks))] H → va_D A [(a_t, .inr (0, [.ref a_t_codes, .int t_doubts_j28])), (a_t_codes, .inl (cI, 2160, .inl t_codes_j28)), (a_p1_places, .inl (cI, 12, .inl p1_places)), (a_p1, .inr (8, [.ref a_p1_ticks, .ref a_p1_places, .int p1_mats, .int p1_least, .int p1_greatest])), (a_p1_ticks, .inl (cI, 12, .inl p1_ticks))] → va_S A s.heap H locs → lv_has ls 5 [(4, .int (zb b1)), (0, .ref a_t), (1, .ref a_p1), (2, .int x2), (3, .int x3)] → W p l e (headSpec wsX0_gatherAt ({ frames := 4, cells := 0, slots := 0, locals := 88 } : Room)).room s m #[Value.ref a_t, Value.ref a_p1, Value.int x2, Value.int x3] below meth c H locs 0 0 (MQ below (zQv D (zT cB cI cZ) [(a_t, .inr (0, [.ref a_t_codes, .int t_doubts'])), (a_t_codes, .inl (cI, 2160, .inl t_codes')), (a_p1, .inr (8, [.ref a_p1_ticks, .ref a_p1_places, .int p1_mats, .int p1_least, .int p1_greatest])), (a_p1_places, .inl (cI, 12, .inl p1_places)), (a_p1_ticks, .inl (cI, 12, .inl p1_ticks))] A) #[Value.ref a_t, Value.ref a_p1, Value.int x2, Value.int x3] s 0 0 A) (F0 m 28 ls []) := by
    intro t_doubts_j28 t_codes_j28 H locs ls h hP hD hS hl
    unfold fX0_gatherAt_J28 at h
    refine lv_aload_n hx hb dX0_gatherAt_28 rfl (lv_at hl 2 rfl) ?_
    refine lv_iload_n hx hb dX0_gatherAt_29 rfl (lv_at hl 4 rfl) ?_
    obtain ⟨b3, e4, h⟩ := zz_b h
    refine zVi (As := [.int x3]) (rest := []) (C := RX8) (wr := [(a_t, .inr (0, [.ref a_t_codes, .int t_doubts_j28])), (a_t_codes, .inl (cI, 2160, .inl t_codes_j28))]) [3, 2, 4] [0, 1] 0 ⟨hx, hb, hml, hown, hts⟩ (mX8_isTooQuick l D cB cI cZ a_p1 a_p1_ticks a_p1_places p1_mats p1_least p1_greatest p1_places p1_ticks H.size x3 N b3 e4) (cwV 1 hts gX0_gatherAt_X8_isTooQuick rfl rfl rfl (by decide +kernel) ⟨Nat.le_of_ble_eq_true rfl, Nat.le_of_ble_eq_true rfl⟩) hK hN hZ hP hD hS hA rfl rfl rfl rfl rfl rfl rfl rfl hl.1 rfl (lv_room (Nat.le_of_ble_eq_true rfl)) dX0_gatherAt_30 ⟨Nat.le_of_ble_eq_true rfl, Nat.le_of_ble_eq_true rfl⟩ (fun H locs hP hD hS => ?_)
    have hP : va_P D vwCl [(a_t, .inr (0, [.ref a_t_codes, .int t_doubts_j28])), (a_t_codes, .inl (cI, 2160, .inl t_codes_j28)), (a_p1, .inr (8, [.ref a_p1_ticks, .ref a_p1_places, .int p1_mats, .int p1_least, .int p1_greatest])), (a_p1_places, .inl (cI, 12, .inl p1_places)), (a_p1_ticks, .inl (cI, 12, .inl p1_ticks))] H := hP
    have hD : va_D A [(a_t, .inr (0, [.ref a_t_codes, .int t_doubts_j28])), (a_t_codes, .inl (cI, 2160, .inl t_codes_j28)), (a_p1, .inr (8, [.ref a_p1_ticks, .ref a_p1_places, .int p1_mats, .int p1_least, .int p1_greatest])), (a_p1_places, .inl (cI, 12, .inl p1_places)), (a_p1_ticks, .inl (cI, 12, .inl p1_ticks))] := hD
    refine lv_if_eq (tgt := 43) hx hb dX0_gatherAt_33 (by decide) (fun c5 => ?_) (fun c5 => ?_)
    · have h := zz_t h c5
      refine lv_iload hx hb dX0_gatherAt_43 (lv_at hl 0 rfl) ?_
      refine lv_if_ne (tgt := 68) hx hb dX0_gatherAt_45 (by decide) (fun c6 => ?_) (fun c6 => ?_)
      · have h := zz_f h c6
        obtain ⟨j0_, g_⟩ := Prod.mk.inj (Option.some.inj h)
        have j1_ := g_
        subst j0_
        subst j1_
        exact W.vret hx hb hr (fun t ht hW => ⟨⟨(), rfl, trivial, zPost.of hP hD hK ht hW [0, 1, 2, 3, 4] rfl rfl rfl⟩, hS.F ht⟩) hS.2.2 dX0_gatherAt_68
      · have h := zz_t h c6
        refine lv_aload_n hx hb dX0_gatherAt_48 rfl (lv_at hl 2 rfl) ?_
        refine lv_iload_n hx hb dX0_gatherAt_49 rfl (lv_at hl 4 rfl) ?_
        obtain ⟨r7, e8, h⟩ := zz_b h
        refine zVi (As := [.int x3]) (rest := []) (C := RX8) (wr := [(a_t, .inr (0, [.ref a_t_codes, .int t_doubts_j28])), (a_t_codes, .inl (cI, 2160, .inl t_codes_j28))]) [2, 3, 4] [0, 1] 0 ⟨hx, hb, hml, hown, hts⟩ (mX8_leastGuess l D cB cI cZ a_p1 a_p1_ticks a_p1_places p1_mats p1_least p1_greatest p1_places p1_ticks H.size x3 N r7 e8) (cwV 1 hts gX0_gatherAt_X8_leastGuess rfl rfl rfl (by decide +kernel) ⟨Nat.le_of_ble_eq_true rfl, Nat.le_of_ble_eq_true rfl⟩) hK hN hZ hP hD hS hA rfl rfl rfl rfl rfl rfl rfl rfl hl.1 rfl (lv_room (Nat.le_of_ble_eq_true rfl)) dX0_gatherAt_50 ⟨Nat.le_of_ble_eq_true rfl, Nat.le_of_ble_eq_true rfl⟩ (fun H locs hP hD hS => ?_)
        have hP : va_P D vwCl [(a_t, .inr (0, [.ref a_t_codes, .int t_doubts_j28])), (a_t_codes, .inl (cI, 2160, .inl t_codes_j28)), (a_p1, .inr (8, [.ref a_p1_ticks, .ref a_p1_places, .int p1_mats, .int p1_least, .int p1_greatest])), (a_p1_places, .inl (cI, 12, .inl p1_places)), (a_p1_ticks, .inl (cI, 12, .inl p1_ticks))] H := hP
        have hD : va_D A [(a_t, .inr (0, [.ref a_t_codes, .int t_doubts_j28])), (a_t_codes, .inl (cI, 2160, .inl t_codes_j28)), (a_p1, .inr (8, [.ref a_p1_ticks, .ref a_p1_places, .int p1_mats, .int p1_least, .int p1_greatest])), (a_p1_places, .inl (cI, 12, .inl p1_places)), (a_p1_ticks, .inl (cI, 12, .inl p1_ticks))] := hD
        refine lv_aload_n hx hb dX0_gatherAt_53 rfl (lv_at hl 2 rfl) ?_
        refine lv_iload_n hx hb dX0_gatherAt_54 rfl (lv_at hl 4 rfl) ?_
        obtain ⟨r9, e10, h⟩ := zz_b h
        refine zVi (As := [.int x3]) (rest := [.int r7]) (C := RX8) (wr := [(a_t, .inr (0, [.ref a_t_codes, .int t_doubts_j28])), (a_t_codes, .inl (cI, 2160, .inl t_codes_j28))]) [2, 3, 4] [0, 1] 0 ⟨hx, hb, hml, hown, hts⟩ (mX8_greatestGuess l D cB cI cZ a_p1 a_p1_ticks a_p1_places p1_mats p1_least p1_greatest p1_places p1_ticks H.size x3 N r9 e10) (cwV 1 hts gX0_gatherAt_X8_greatestGuess rfl rfl rfl (by decide +kernel) ⟨Nat.le_of_ble_eq_true rfl, Nat.le_of_ble_eq_true rfl⟩) hK hN hZ hP hD hS hA rfl rfl rfl rfl rfl rfl rfl rfl hl.1 rfl (lv_room (Nat.le_of_ble_eq_true rfl)) dX0_gatherAt_55 ⟨Nat.le_of_ble_eq_true rfl, Nat.le_of_ble_eq_true rfl⟩ (fun H locs hP hD hS => ?_)
        have hP : va_P D vwCl [(a_t, .inr (0, [.ref a_t_codes, .int t_doubts_j28])), (a_t_codes, .inl (cI, 2160, .inl t_codes_j28)), (a_p1, .inr (8, [.ref a_p1_ticks, .ref a_p1_places, .int p1_mats, .int p1_least, .int p1_greatest])), (a_p1_places, .inl (cI, 12, .inl p1_places)), (a_p1_ticks, .inl (cI, 12, .inl p1_ticks))] H := hP
        have hD : va_D A [(a_t, .inr (0, [.ref a_t_codes, .int t_doubts_j28])), (a_t_codes, .inl (cI, 2160, .inl t_codes_j28)), (a_p1, .inr (8, [.ref a_p1_ticks, .ref a_p1_places, .int p1_mats, .int p1_least, .int p1_greatest])), (a_p1_places, .inl (cI, 12, .inl p1_places)), (a_p1_ticks, .inl (cI, 12, .inl p1_ticks))] := hD
        refine lv_icmp_le (tgt := 68) hx hb dX0_gatherAt_58 (by decide) (fun c11 => ?_) (fun c11 => ?_)
        · have h := zz_t h c11
          obtain ⟨j0_, g_⟩ := Prod.mk.inj (Option.some.inj h)
          have j1_ := g_
          subst j0_
          subst j1_
          exact W.vret hx hb hr (fun t ht hW => ⟨⟨(), rfl, trivial, zPost.of hP hD hK ht hW [0, 1, 2, 3, 4] rfl rfl rfl⟩, hS.F ht⟩) hS.2.2 dX0_gatherAt_68
        · have h := zz_f h c11
          refine lv_aload_n hx hb dX0_gatherAt_61 rfl (lv_at hl 1 rfl) ?_
          refine lv_iload_n hx hb dX0_gatherAt_62 rfl (lv_at hl 3 rfl) ?_
          refine lv_iload_n hx hb dX0_gatherAt_63 rfl (lv_at hl 4 rfl) ?_
          refine lv_iconst (v := (nI 3)) hx hb dX0_gatherAt_64 rfl ?_
          obtain ⟨⟨t_doubts_r12, t_codes_r13⟩, e14, h⟩ := zz_b h
          dsimp only at h
          refine zVv (As := [.int x2, .int x3, .int (nI 3)]) (rest := []) (C := RX0) (wr := [(a_p1, .inr (8, [.ref a_p1_ticks, .ref a_p1_places, .int p1_mats, .int p1_least, .int p1_greatest])), (a_p1_places, .inl (cI, 12, .inl p1_places)), (a_p1_ticks, .inl (cI, 12, .inl p1_ticks))]) [0, 1] [2, 3, 4] 0 ⟨hx, hb, hml, hown, hts⟩ (mX0_add l D cB cI cZ a_t a_t_codes t_doubts_j28 t_codes_j28 H.size x2 x3 (nI 3) t_doubts_r12 t_codes_r13 e14) (cwV 3 hts gX0_gatherAt_X0_add rfl rfl rfl (by decide +kernel) ⟨Nat.le_of_ble_eq_true rfl, Nat.le_of_ble_eq_true rfl⟩) hK hN hZ hP hD hS hA rfl rfl rfl rfl rfl rfl rfl rfl hl.1 rfl (lv_room (Nat.le_of_ble_eq_true rfl)) dX0_gatherAt_65 ⟨Nat.le_of_ble_eq_true rfl, Nat.le_of_ble_eq_true rfl⟩ (fun H locs hP hD hS => ?_)
          have hP : va_P D vwCl [(a_p1, .inr (8, [.ref a_p1_ticks, .ref a_p1_places, .int p1_mats, .int p1_least, .int p1_greatest])), (a_p1_places, .inl (cI, 12, .inl p1_places)), (a_p1_ticks, .inl (cI, 12, .inl p1_ticks)), (a_t, .inr (0, [.ref a_t_codes, .int t_doubts_r12])), (a_t_codes, .inl (cI, 2160, .inl t_codes_r13))] H := hP
          have hD : va_D A [(a_p1, .inr (8, [.ref a_p1_ticks, .ref a_p1_places, .int p1_mats, .int p1_least, .int p1_greatest])), (a_p1_places, .inl (cI, 12, .inl p1_places)), (a_p1_ticks, .inl (cI, 12, .inl p1_ticks)), (a_t, .inr (0, [.ref a_t_codes, .int t_doubts_r12])), (a_t_codes, .inl (cI, 2160, .inl t_codes_r13))] := hD
          obtain ⟨j0_, g_⟩ := Prod.mk.inj (Option.some.inj h)
          have j1_ := g_
          subst j0_
          subst j1_
          exact W.vret hx hb hr (fun t ht hW => ⟨⟨(), rfl, trivial, zPost.of hP hD hK ht hW [3, 4, 0, 1, 2] rfl rfl rfl⟩, hS.F ht⟩) hS.2.2 dX0_gatherAt_68
    · have h := zz_f h c5
      refine lv_aload_n hx hb dX0_gatherAt_36 rfl (lv_at hl 1 rfl) ?_
      refine lv_iload_n hx hb dX0_gatherAt_37 rfl (lv_at hl 3 rfl) ?_
      refine lv_iload_n hx hb dX0_gatherAt_38 rfl (lv_at hl 4 rfl) ?_
      refine lv_iconst (v := (nI 2)) hx hb dX0_gatherAt_39 rfl ?_
      obtain ⟨⟨t_doubts_r15, t_codes_r16⟩, e17, h⟩ := zz_b h
      dsimp only at h
      refine zVv (As := [.int x2, .int x3, .int (nI 2)]) (rest := []) (C := RX0) (wr := [(a_p1, .inr (8, [.ref a_p1_ticks, .ref a_p1_places, .int p1_mats, .int p1_least, .int p1_greatest])), (a_p1_places, .inl (cI, 12, .inl p1_places)), (a_p1_ticks, .inl (cI, 12, .inl p1_ticks))]) [0, 1] [2, 3, 4] 0 ⟨hx, hb, hml, hown, hts⟩ (mX0_add l D cB cI cZ a_t a_t_codes t_doubts_j28 t_codes_j28 H.size x2 x3 (nI 2) t_doubts_r15 t_codes_r16 e17) (cwV 3 hts gX0_gatherAt_X0_add rfl rfl rfl (by decide +kernel) ⟨Nat.le_of_ble_eq_true rfl, Nat.le_of_ble_eq_true rfl⟩) hK hN hZ hP hD hS hA rfl rfl rfl rfl rfl rfl rfl rfl hl.1 rfl (lv_room (Nat.le_of_ble_eq_true rfl)) dX0_gatherAt_40 ⟨Nat.le_of_ble_eq_true rfl, Nat.le_of_ble_eq_true rfl⟩ (fun H locs hP hD hS => ?_)
      have hP : va_P D vwCl [(a_p1, .inr (8, [.ref a_p1_ticks, .ref a_p1_places, .int p1_mats, .int p1_least, .int p1_greatest])), (a_p1_places, .inl (cI, 12, .inl p1_places)), (a_p1_ticks, .inl (cI, 12, .inl p1_ticks)), (a_t, .inr (0, [.ref a_t_codes, .int t_doubts_r15])), (a_t_codes, .inl (cI, 2160, .inl t_codes_r16))] H := hP
      have hD : va_D A [(a_p1, .inr (8, [.ref a_p1_ticks, .ref a_p1_places, .int p1_mats, .int p1_least, .int p1_greatest])), (a_p1_places, .inl (cI, 12, .inl p1_places)), (a_p1_ticks, .inl (cI, 12, .inl p1_ticks)), (a_t, .inr (0, [.ref a_t_codes, .int t_doubts_r15])), (a_t_codes, .inl (cI, 2160, .inl t_codes_r16))] := hD
      refine lv_iload hx hb dX0_gatherAt_43 (lv_at hl 0 rfl) ?_
      refine lv_if_ne (tgt := 68) hx hb dX0_gatherAt_45 (by decide) (fun c18 => ?_) (fun c18 => ?_)
      · have h := zz_f h c18
        obtain ⟨j0_, g_⟩ := Prod.mk.inj (Option.some.inj h)
        have j1_ := g_
        subst j0_
        subst j1_
        exact W.vret hx hb hr (fun t ht hW => ⟨⟨(), rfl, trivial, zPost.of hP hD hK ht hW [3, 4, 0, 1, 2] rfl rfl rfl⟩, hS.F ht⟩) hS.2.2 dX0_gatherAt_68
      · have h := zz_t h c18
        refine lv_aload_n hx hb dX0_gatherAt_48 rfl (lv_at hl 2 rfl) ?_
        refine lv_iload_n hx hb dX0_gatherAt_49 rfl (lv_at hl 4 rfl) ?_
        obtain ⟨r19, e20, h⟩ := zz_b h
        refine zVi (As := [.int x3]) (rest := []) (C := RX8) (wr := [(a_t, .inr (0, [.ref a_t_codes, .int t_doubts_r15])), (a_t_codes, .inl (cI, 2160, .inl t_codes_r16))]) [0, 1, 2] [3, 4] 0 ⟨hx, hb, hml, hown, hts⟩ (mX8_leastGuess l D cB cI cZ a_p1 a_p1_ticks a_p1_places p1_mats p1_least p1_greatest p1_places p1_ticks H.size x3 N r19 e20) (cwV 1 hts gX0_gatherAt_X8_leastGuess rfl rfl rfl (by decide +kernel) ⟨Nat.le_of_ble_eq_true rfl, Nat.le_of_ble_eq_true rfl⟩) hK hN hZ hP hD hS hA rfl rfl rfl rfl rfl rfl rfl rfl hl.1 rfl (lv_room (Nat.le_of_ble_eq_true rfl)) dX0_gatherAt_50 ⟨Nat.le_of_ble_eq_true rfl, Nat.le_of_ble_eq_true rfl⟩ (fun H locs hP hD hS => ?_)
        have hP : va_P D vwCl [(a_t, .inr (0, [.ref a_t_codes, .int t_doubts_r15])), (a_t_codes, .inl (cI, 2160, .inl t_codes_r16)), (a_p1, .inr (8, [.ref a_p1_ticks, .ref a_p1_places, .int p1_mats, .int p1_least, .int p1_greatest])), (a_p1_places, .inl (cI, 12, .inl p1_places)), (a_p1_ticks, .inl (cI, 12, .inl p1_ticks))] H := hP
        have hD : va_D A [(a_t, .inr (0, [.ref a_t_codes, .int t_doubts_r15])), (a_t_codes, .inl (cI, 2160, .inl t_codes_r16)), (a_p1, .inr (8, [.ref a_p1_ticks, .ref a_p1_places, .int p1_mats, .int p1_least, .int p1_greatest])), (a_p1_places, .inl (cI, 12, .inl p1_places)), (a_p1_ticks, .inl (cI, 12, .inl p1_ticks))] := hD
        refine lv_aload_n hx hb dX0_gatherAt_53 rfl (lv_at hl 2 rfl) ?_
        refine lv_iload_n hx hb dX0_gatherAt_54 rfl (lv_at hl 4 rfl) ?_
        obtain ⟨r21, e22, h⟩ := zz_b h
        refine zVi (As := [.int x3]) (rest := [.int r19]) (C := RX8) (wr := [(a_t, .inr (0, [.ref a_t_codes, .int t_doubts_r15])), (a_t_codes, .inl (cI, 2160, .inl t_codes_r16))]) [2, 3, 4] [0, 1] 0 ⟨hx, hb, hml, hown, hts⟩ (mX8_greatestGuess l D cB cI cZ a_p1 a_p1_ticks a_p1_places p1_mats p1_least p1_greatest p1_places p1_ticks H.size x3 N r21 e22) (cwV 1 hts gX0_gatherAt_X8_greatestGuess rfl rfl rfl (by decide +kernel) ⟨Nat.le_of_ble_eq_true rfl, Nat.le_of_ble_eq_true rfl⟩) hK hN hZ hP hD hS hA rfl rfl rfl rfl rfl rfl rfl rfl hl.1 rfl (lv_room (Nat.le_of_ble_eq_true rfl)) dX0_gatherAt_55 ⟨Nat.le_of_ble_eq_true rfl, Nat.le_of_ble_eq_true rfl⟩ (fun H locs hP hD hS => ?_)
        have hP : va_P D vwCl [(a_t, .inr (0, [.ref a_t_codes, .int t_doubts_r15])), (a_t_codes, .inl (cI, 2160, .inl t_codes_r16)), (a_p1, .inr (8, [.ref a_p1_ticks, .ref a_p1_places, .int p1_mats, .int p1_least, .int p1_greatest])), (a_p1_places, .inl (cI, 12, .inl p1_places)), (a_p1_ticks, .inl (cI, 12, .inl p1_ticks))] H := hP
        have hD : va_D A [(a_t, .inr (0, [.ref a_t_codes, .int t_doubts_r15])), (a_t_codes, .inl (cI, 2160, .inl t_codes_r16)), (a_p1, .inr (8, [.ref a_p1_ticks, .ref a_p1_places, .int p1_mats, .int p1_least, .int p1_greatest])), (a_p1_places, .inl (cI, 12, .inl p1_places)), (a_p1_ticks, .inl (cI, 12, .inl p1_ticks))] := hD
        refine lv_icmp_le (tgt := 68) hx hb dX0_gatherAt_58 (by decide) (fun c23 => ?_) (fun c23 => ?_)
        · have h := zz_t h c23
          obtain ⟨j0_, g_⟩ := Prod.mk.inj (Option.some.inj h)
          have j1_ := g_
          subst j0_
          subst j1_
          exact W.vret hx hb hr (fun t ht hW => ⟨⟨(), rfl, trivial, zPost.of hP hD hK ht hW [0, 1, 2, 3, 4] rfl rfl rfl⟩, hS.F ht⟩) hS.2.2 dX0_gatherAt_68
        · have h := zz_f h c23
          refine lv_aload_n hx hb dX0_gatherAt_61 rfl (lv_at hl 1 rfl) ?_
          refine lv_iload_n hx hb dX0_gatherAt_62 rfl (lv_at hl 3 rfl) ?_
          refine lv_iload_n hx hb dX0_gatherAt_63 rfl (lv_at hl 4 rfl) ?_
          refine lv_iconst (v := (nI 3)) hx hb dX0_gatherAt_64 rfl ?_
          obtain ⟨⟨t_doubts_r24, t_codes_r25⟩, e26, h⟩ := zz_b h
          dsimp only at h
          refine zVv (As := [.int x2, .int x3, .int (nI 3)]) (rest := []) (C := RX0) (wr := [(a_p1, .inr (8, [.ref a_p1_ticks, .ref a_p1_places, .int p1_mats, .int p1_least, .int p1_greatest])), (a_p1_places, .inl (cI, 12, .inl p1_places)), (a_p1_ticks, .inl (cI, 12, .inl p1_ticks))]) [0, 1] [2, 3, 4] 0 ⟨hx, hb, hml, hown, hts⟩ (mX0_add l D cB cI cZ a_t a_t_codes t_doubts_r15 t_codes_r16 H.size x2 x3 (nI 3) t_doubts_r24 t_codes_r25 e26) (cwV 3 hts gX0_gatherAt_X0_add rfl rfl rfl (by decide +kernel) ⟨Nat.le_of_ble_eq_true rfl, Nat.le_of_ble_eq_true rfl⟩) hK hN hZ hP hD hS hA rfl rfl rfl rfl rfl rfl rfl rfl hl.1 rfl (lv_room (Nat.le_of_ble_eq_true rfl)) dX0_gatherAt_65 ⟨Nat.le_of_ble_eq_true rfl, Nat.le_of_ble_eq_true rfl⟩ (fun H locs hP hD hS => ?_)
          have hP : va_P D vwCl [(a_p1, .inr (8, [.ref a_p1_ticks, .ref a_p1_places, .int p1_mats, .int p1_least, .int p1_greatest])), (a_p1_places, .inl (cI, 12, .inl p1_places)), (a_p1_ticks, .inl (cI, 12, .inl p1_ticks)), (a_t, .inr (0, [.ref a_t_codes, .int t_doubts_r24])), (a_t_codes, .inl (cI, 2160, .inl t_codes_r25))] H := hP
          have hD : va_D A [(a_p1, .inr (8, [.ref a_p1_ticks, .ref a_p1_places, .int p1_mats, .int p1_least, .int p1_greatest])), (a_p1_places, .inl (cI, 12, .inl p1_places)), (a_p1_ticks, .inl (cI, 12, .inl p1_ticks)), (a_t, .inr (0, [.ref a_t_codes, .int t_doubts_r24])), (a_t_codes, .inl (cI, 2160, .inl t_codes_r25))] := hD
          obtain ⟨j0_, g_⟩ := Prod.mk.inj (Option.some.inj h)
          have j1_ := g_
          subst j0_
          subst j1_
          exact W.vret hx hb hr (fun t ht hW => ⟨⟨(), rfl, trivial, zPost.of hP hD hK ht hW [3, 4, 0, 1, 2] rfl rfl rfl⟩, hS.F ht⟩) hS.2.2 dX0_gatherAt_68
  refine lv_if_ne (tgt := 28) hx hb dX0_gatherAt_9 (by decide) (fun c27 => ?_) (fun c27 => ?_)
  · have h := zz_f h c27
    exact J28 t_doubts t_codes _ _ _ h (hP.sub [0, 1, 2, 3, 4] rfl) (hD.sub [0, 1, 2, 3, 4] rfl rfl) hS (lv_sub hl [0, 1, 2, 3, 4] rfl)
  · have h := zz_t h c27
    refine lv_aload_n hx hb dX0_gatherAt_12 rfl (lv_at hl 2 rfl) ?_
    refine lv_iload_n hx hb dX0_gatherAt_13 rfl (lv_at hl 4 rfl) ?_
    obtain ⟨r28, e29, h⟩ := zz_b h
    refine zVi (As := [.int x3]) (rest := []) (C := RX8) (wr := [(a_t, .inr (0, [.ref a_t_codes, .int t_doubts])), (a_t_codes, .inl (cI, 2160, .inl t_codes)), (a_p1_places, .inl (cI, 12, .inl p1_places))]) [3, 4] [0, 1, 2] 0 ⟨hx, hb, hml, hown, hts⟩ (mX8_seenBehind l D cB cI cZ a_p1 a_p1_ticks a_p1_places p1_mats p1_least p1_greatest p1_ticks H.size x3 N r28 e29) (cwV 1 hts gX0_gatherAt_X8_seenBehind rfl rfl rfl (by decide +kernel) ⟨Nat.le_of_ble_eq_true rfl, Nat.le_of_ble_eq_true rfl⟩) hK hN hZ hP hD hS hA rfl rfl rfl rfl rfl rfl rfl rfl hl.1 rfl (lv_room (Nat.le_of_ble_eq_true rfl)) dX0_gatherAt_14 ⟨Nat.le_of_ble_eq_true rfl, Nat.le_of_ble_eq_true rfl⟩ (fun H locs hP hD hS => ?_)
    have hP : va_P D vwCl [(a_t, .inr (0, [.ref a_t_codes, .int t_doubts])), (a_t_codes, .inl (cI, 2160, .inl t_codes)), (a_p1_places, .inl (cI, 12, .inl p1_places)), (a_p1, .inr (8, [.ref a_p1_ticks, .ref a_p1_places, .int p1_mats, .int p1_least, .int p1_greatest])), (a_p1_ticks, .inl (cI, 12, .inl p1_ticks))] H := hP
    have hD : va_D A [(a_t, .inr (0, [.ref a_t_codes, .int t_doubts])), (a_t_codes, .inl (cI, 2160, .inl t_codes)), (a_p1_places, .inl (cI, 12, .inl p1_places)), (a_p1, .inr (8, [.ref a_p1_ticks, .ref a_p1_places, .int p1_mats, .int p1_least, .int p1_greatest])), (a_p1_ticks, .inl (cI, 12, .inl p1_ticks))] := hD
    refine lv_iconst (v := (-1 : Int32)) hx hb dX0_gatherAt_17 rfl ?_
    refine lv_icmp_eq (tgt := 28) hx hb dX0_gatherAt_18 (by decide) (fun c30 => ?_) (fun c30 => ?_)
    · have h := zz_t h c30
      exact J28 t_doubts t_codes _ _ _ h (hP.sub [0, 1, 2, 3, 4] rfl) (hD.sub [0, 1, 2, 3, 4] rfl rfl) hS (lv_sub hl [0, 1, 2, 3, 4] rfl)
    · have h := zz_f h c30
      refine lv_aload_n hx hb dX0_gatherAt_21 rfl (lv_at hl 1 rfl) ?_
      refine lv_iload_n hx hb dX0_gatherAt_22 rfl (lv_at hl 3 rfl) ?_
      refine lv_iload_n hx hb dX0_gatherAt_23 rfl (lv_at hl 4 rfl) ?_
      refine lv_iconst (v := (nI 1)) hx hb dX0_gatherAt_24 rfl ?_
      obtain ⟨⟨t_doubts_r31, t_codes_r32⟩, e33, h⟩ := zz_b h
      dsimp only at h
      refine zVv (As := [.int x2, .int x3, .int (nI 1)]) (rest := []) (C := RX0) (wr := [(a_p1_places, .inl (cI, 12, .inl p1_places)), (a_p1, .inr (8, [.ref a_p1_ticks, .ref a_p1_places, .int p1_mats, .int p1_least, .int p1_greatest])), (a_p1_ticks, .inl (cI, 12, .inl p1_ticks))]) [0, 1] [2, 3, 4] 0 ⟨hx, hb, hml, hown, hts⟩ (mX0_add l D cB cI cZ a_t a_t_codes t_doubts t_codes H.size x2 x3 (nI 1) t_doubts_r31 t_codes_r32 e33) (cwV 3 hts gX0_gatherAt_X0_add rfl rfl rfl (by decide +kernel) ⟨Nat.le_of_ble_eq_true rfl, Nat.le_of_ble_eq_true rfl⟩) hK hN hZ hP hD hS hA rfl rfl rfl rfl rfl rfl rfl rfl hl.1 rfl (lv_room (Nat.le_of_ble_eq_true rfl)) dX0_gatherAt_25 ⟨Nat.le_of_ble_eq_true rfl, Nat.le_of_ble_eq_true rfl⟩ (fun H locs hP hD hS => ?_)
      have hP : va_P D vwCl [(a_p1_places, .inl (cI, 12, .inl p1_places)), (a_p1, .inr (8, [.ref a_p1_ticks, .ref a_p1_places, .int p1_mats, .int p1_least, .int p1_greatest])), (a_p1_ticks, .inl (cI, 12, .inl p1_ticks)), (a_t, .inr (0, [.ref a_t_codes, .int t_doubts_r31])), (a_t_codes, .inl (cI, 2160, .inl t_codes_r32))] H := hP
      have hD : va_D A [(a_p1_places, .inl (cI, 12, .inl p1_places)), (a_p1, .inr (8, [.ref a_p1_ticks, .ref a_p1_places, .int p1_mats, .int p1_least, .int p1_greatest])), (a_p1_ticks, .inl (cI, 12, .inl p1_ticks)), (a_t, .inr (0, [.ref a_t_codes, .int t_doubts_r31])), (a_t_codes, .inl (cI, 2160, .inl t_codes_r32))] := hD
      exact J28 t_doubts_r31 t_codes_r32 _ _ _ h (hP.sub [3, 4, 0, 1, 2] rfl) (hD.sub [3, 4, 0, 1, 2] rfl rfl) hS (lv_sub hl [0, 1, 2, 3, 4] rfl)
/-! RunDesk$Doubts.gather -/
theorem dX0_gather_0 : decode cX0_gather 0 = .ok (.aload_n 0, 1) := by decide +kernel
theorem dX0_gather_1 : decode cX0_gather 1 = .ok (.iconst 0, 1) := by decide +kernel
theorem dX0_gather_2 : decode cX0_gather 2 = .ok (.putfield 15, 3) := by decide +kernel
theorem dX0_gather_5 : decode cX0_gather 5 = .ok (.iconst 0, 1) := by decide +kernel
theorem dX0_gather_6 : decode cX0_gather 6 = .ok (.istore_n 3, 1) := by decide +kernel
theorem dX0_gather_7 : decode cX0_gather 7 = .ok (.iload_n 3, 1) := by decide +kernel
theorem dX0_gather_8 : decode cX0_gather 8 = .ok (.aload_n 1, 1) := by decide +kernel
theorem dX0_gather_9 : decode cX0_gather 9 = .ok (.getfield 19, 3) := by decide +kernel
theorem dX0_gather_12 : decode cX0_gather 12 = .ok (.invokevirtual 25, 3) := by decide +kernel
theorem dX0_gather_15 : decode cX0_gather 15 = .ok (.if_icmp .ge 44, 3) := by decide +kernel
theorem dX0_gather_18 : decode cX0_gather 18 = .ok (.aload_n 2, 1) := by decide +kernel
theorem dX0_gather_19 : decode cX0_gather 19 = .ok (.aload_n 1, 1) := by decide +kernel
theorem dX0_gather_20 : decode cX0_gather 20 = .ok (.iload_n 3, 1) := by decide +kernel
theorem dX0_gather_21 : decode cX0_gather 21 = .ok (.invokevirtual 31, 3) := by decide +kernel
theorem dX0_gather_24 : decode cX0_gather 24 = .ok (.iconst 0, 1) := by decide +kernel
theorem dX0_gather_25 : decode cX0_gather 25 = .ok (.istore 4, 2) := by decide +kernel
theorem dX0_gather_27 : decode cX0_gather 27 = .ok (.iload 4, 2) := by decide +kernel
theorem dX0_gather_29 : decode cX0_gather 29 = .ok (.aload_n 1, 1) := by decide +kernel
theorem dX0_gather_30 : decode cX0_gather 30 = .ok (.getfield 37, 3) := by decide +kernel
theorem dX0_gather_33 : decode cX0_gather 33 = .ok (.invokevirtual 41, 3) := by decide +kernel
theorem dX0_gather_36 : decode cX0_gather 36 = .ok (.if_icmp .ge 17, 3) := by decide +kernel
theorem dX0_gather_39 : decode cX0_gather 39 = .ok (.aload_n 0, 1) := by decide +kernel
theorem dX0_gather_40 : decode cX0_gather 40 = .ok (.aload_n 2, 1) := by decide +kernel
theorem dX0_gather_41 : decode cX0_gather 41 = .ok (.iload_n 3, 1) := by decide +kernel
theorem dX0_gather_42 : decode cX0_gather 42 = .ok (.iload 4, 2) := by decide +kernel
theorem dX0_gather_44 : decode cX0_gather 44 = .ok (.invokevirtual 44, 3) := by decide +kernel
theorem dX0_gather_47 : decode cX0_gather 47 = .ok (.iinc 4 1, 3) := by decide +kernel
theorem dX0_gather_50 : decode cX0_gather 50 = .ok (.goto (-23), 3) := by decide +kernel
theorem dX0_gather_53 : decode cX0_gather 53 = .ok (.iinc 3 1, 3) := by decide +kernel
theorem dX0_gather_56 : decode cX0_gather 56 = .ok (.goto (-49), 3) := by decide +kernel
theorem dX0_gather_59 : decode cX0_gather 59 = .ok (.aload_n 0, 1) := by decide +kernel
theorem dX0_gather_60 : decode cX0_gather 60 = .ok (.getfield 15, 3) := by decide +kernel
theorem dX0_gather_63 : decode cX0_gather 63 = .ok (.ireturn, 1) := by decide +kernel
set_option maxRecDepth 20000 in
theorem ggX0_gather_X6_size : GoodIn wsX0_gather wsX6_size := goodIn_sub (List.forall_mem_cons.mpr ⟨List.mem_cons_of_mem _ (List.mem_append_left _ (List.mem_append_left _ (List.mem_append_left _ (List.mem_append_left _ (List.mem_append_left _ (List.mem_append_left _ (List.mem_append_left _ (List.mem_of_getElem? (l := wsX0_gather_r1) (i := 5) rfl)))))))), (List.forall_mem_append.mpr ⟨(List.forall_mem_cons.mpr ⟨List.mem_cons_of_mem _ (List.mem_append_left _ (List.mem_append_left _ (List.mem_append_left _ (List.mem_append_left _ (List.mem_append_left _ (List.mem_append_left _ (List.mem_append_left _ (List.mem_of_getElem? (l := wsX0_gather_r1) (i := 6) rfl)))))))), (fun _ h => nomatch h)⟩), (fun _ h => List.mem_cons_of_mem _ (List.mem_append_left _ (List.mem_append_left _ (List.mem_append_left _ (List.mem_append_right _ (h))))))⟩)⟩) (by decide +kernel)
set_option maxRecDepth 20000 in
theorem gX0_gather_X6_size : GoodIn wsX0_gather (wsV RX0 25 RX6 yX6_size wsX6_size) := goodIn_app (goodIn_of _ (by decide +kernel)) ggX0_gather_X6_size
set_option maxRecDepth 20000 in
theorem ggX0_gather_X8_follow : GoodIn wsX0_gather wsX8_follow := goodIn_sub (List.forall_mem_cons.mpr ⟨List.mem_cons_of_mem _ (List.mem_append_left _ (List.mem_append_left _ (List.mem_append_left _ (List.mem_append_left _ (List.mem_append_left _ (List.mem_append_left _ (List.mem_append_left _ (List.mem_of_getElem? (l := wsX0_gather_r1) (i := 11) rfl)))))))), (List.forall_mem_append.mpr ⟨(List.forall_mem_append.mpr ⟨(List.forall_mem_append.mpr ⟨(List.forall_mem_append.mpr ⟨(List.forall_mem_append.mpr ⟨(List.forall_mem_append.mpr ⟨(List.forall_mem_cons.mpr ⟨List.mem_cons_of_mem _ (List.mem_append_left _ (List.mem_append_left _ (List.mem_append_left _ (List.mem_append_left _ (List.mem_append_left _ (List.mem_append_left _ (List.mem_append_left _ (List.mem_of_getElem? (l := wsX0_gather_r1) (i := 12) rfl)))))))), (List.forall_mem_cons.mpr ⟨List.mem_cons_of_mem _ (List.mem_append_left _ (List.mem_append_left _ (List.mem_append_left _ (List.mem_append_left _ (List.mem_append_left _ (List.mem_append_left _ (List.mem_append_left _ (List.mem_of_getElem? (l := wsX0_gather_r1) (i := 13) rfl)))))))), (List.forall_mem_cons.mpr ⟨List.mem_cons_of_mem _ (List.mem_append_left _ (List.mem_append_left _ (List.mem_append_left _ (List.mem_append_left _ (List.mem_append_left _ (List.mem_append_left _ (List.mem_append_left _ (List.mem_of_getElem? (l := wsX0_gather_r1) (i := 14) rfl)))))))), (List.forall_mem_cons.mpr ⟨List.mem_cons_of_mem _ (List.mem_append_left _ (List.mem_append_left _ (List.mem_append_left _ (List.mem_append_left _ (List.mem_append_left _ (List.mem_append_left _ (List.mem_append_left _ (List.mem_of_getElem? (l := wsX0_gather_r1) (i := 15) rfl)))))))), (List.forall_mem_cons.mpr ⟨List.mem_cons_of_mem _ (List.mem_append_left _ (List.mem_append_left _ (List.mem_append_left _ (List.mem_append_left _ (List.mem_append_left _ (List.mem_append_left _ (List.mem_append_left _ (List.mem_of_getElem? (l := wsX0_gather_r1) (i := 16) rfl)))))))), (List.forall_mem_cons.mpr ⟨List.mem_cons_of_mem _ (List.mem_append_left _ (List.mem_append_left _ (List.mem_append_left _ (List.mem_append_left _ (List.mem_append_left _ (List.mem_append_left _ (List.mem_append_left _ (List.mem_of_getElem? (l := wsX0_gather_r1) (i := 17) rfl)))))))), (List.forall_mem_cons.mpr ⟨List.mem_cons_of_mem _ (List.mem_append_left _ (List.mem_append_left _ (List.mem_append_left _ (List.mem_append_left _ (List.mem_append_left _ (List.mem_append_left _ (List.mem_append_left _ (List.mem_of_getElem? (l := wsX0_gather_r1) (i := 18) rfl)))))))), (List.forall_mem_cons.mpr ⟨List.mem_cons_of_mem _ (List.mem_append_left _ (List.mem_append_left _ (List.mem_append_left _ (List.mem_append_left _ (List.mem_append_left _ (List.mem_append_left _ (List.mem_append_left _ (List.mem_of_getElem? (l := wsX0_gather_r1) (i := 19) rfl)))))))), (List.forall_mem_cons.mpr ⟨List.mem_cons_of_mem _ (List.mem_append_left _ (List.mem_append_left _ (List.mem_append_left _ (List.mem_append_left _ (List.mem_append_left _ (List.mem_append_left _ (List.mem_append_left _ (List.mem_of_getElem? (l := wsX0_gather_r1) (i := 4) rfl)))))))), (List.forall_mem_cons.mpr ⟨List.mem_cons_of_mem _ (List.mem_append_left _ (List.mem_append_left _ (List.mem_append_left _ (List.mem_append_left _ (List.mem_append_left _ (List.mem_append_left _ (List.mem_append_left _ (List.mem_of_getElem? (l := wsX0_gather_r1) (i := 20) rfl)))))))), (List.forall_mem_cons.mpr ⟨List.mem_cons_of_mem _ (List.mem_append_left _ (List.mem_append_left _ (List.mem_append_left _ (List.mem_append_left _ (List.mem_append_left _ (List.mem_append_left _ (List.mem_append_left _ (List.mem_of_getElem? (l := wsX0_gather_r1) (i := 6) rfl)))))))), (List.forall_mem_cons.mpr ⟨List.mem_cons_of_mem _ (List.mem_append_left _ (List.mem_append_left _ (List.mem_append_left _ (List.mem_append_left _ (List.mem_append_left _ (List.mem_append_left _ (List.mem_append_left _ (List.mem_of_getElem? (l := wsX0_gather_r1) (i := 21) rfl)))))))), (List.forall_mem_cons.mpr ⟨List.mem_cons_of_mem _ (List.mem_append_left _ (List.mem_append_left _ (List.mem_append_left _ (List.mem_append_left _ (List.mem_append_left _ (List.mem_append_left _ (List.mem_append_left _ (List.mem_of_getElem? (l := wsX0_gather_r1) (i := 22) rfl)))))))), (List.forall_mem_cons.mpr ⟨List.mem_cons_of_mem _ (List.mem_append_left _ (List.mem_append_left _ (List.mem_append_left _ (List.mem_append_left _ (List.mem_append_left _ (List.mem_append_left _ (List.mem_append_left _ (List.mem_of_getElem? (l := wsX0_gather_r1) (i := 23) rfl)))))))), (List.forall_mem_cons.mpr ⟨List.mem_cons_of_mem _ (List.mem_append_left _ (List.mem_append_left _ (List.mem_append_left _ (List.mem_append_left _ (List.mem_append_left _ (List.mem_append_left _ (List.mem_append_right _ (List.mem_append_left _ (List.mem_of_getElem? (l := wsX0_gather_r2) (i := 0) rfl))))))))), (List.forall_mem_cons.mpr ⟨List.mem_cons_of_mem _ (List.mem_append_left _ (List.mem_append_left _ (List.mem_append_left _ (List.mem_append_left _ (List.mem_append_left _ (List.mem_append_left _ (List.mem_append_right _ (List.mem_append_left _ (List.mem_of_getElem? (l := wsX0_gather_r2) (i := 1) rfl))))))))), (List.forall_mem_cons.mpr ⟨List.mem_cons_of_mem _ (List.mem_append_left _ (List.mem_append_left _ (List.mem_append_left _ (List.mem_append_left _ (List.mem_append_left _ (List.mem_append_left _ (List.mem_append_right _ (List.mem_append_left _ (List.mem_of_getElem? (l := wsX0_gather_r2) (i := 2) rfl))))))))), (List.forall_mem_cons.mpr ⟨List.mem_cons_of_mem _ (List.mem_append_left _ (List.mem_append_left _ (List.mem_append_left _ (List.mem_append_left _ (List.mem_append_left _ (List.mem_append_left _ (List.mem_append_right _ (List.mem_append_left _ (List.mem_of_getElem? (l := wsX0_gather_r2) (i := 3) rfl))))))))), (List.forall_mem_cons.mpr ⟨List.mem_cons_of_mem _ (List.mem_append_left _ (List.mem_append_left _ (List.mem_append_left _ (List.mem_append_left _ (List.mem_append_left _ (List.mem_append_left _ (List.mem_append_right _ (List.mem_append_left _ (List.mem_of_getElem? (l := wsX0_gather_r2) (i := 4) rfl))))))))), (List.forall_mem_cons.mpr ⟨List.mem_cons_of_mem _ (List.mem_append_left _ (List.mem_append_left _ (List.mem_append_left _ (List.mem_append_left _ (List.mem_append_left _ (List.mem_append_left _ (List.mem_append_right _ (List.mem_append_left _ (List.mem_of_getElem? (l := wsX0_gather_r2) (i := 5) rfl))))))))), (List.forall_mem_cons.mpr ⟨List.mem_cons_of_mem _ (List.mem_append_left _ (List.mem_append_left _ (List.mem_append_left _ (List.mem_append_left _ (List.mem_append_left _ (List.mem_append_left _ (List.mem_append_right _ (List.mem_append_left _ (List.mem_of_getElem? (l := wsX0_gather_r2) (i := 6) rfl))))))))), (List.forall_mem_cons.mpr ⟨List.mem_cons_of_mem _ (List.mem_append_left _ (List.mem_append_left _ (List.mem_append_left _ (List.mem_append_left _ (List.mem_append_left _ (List.mem_append_left _ (List.mem_append_right _ (List.mem_append_left _ (List.mem_of_getElem? (l := wsX0_gather_r2) (i := 7) rfl))))))))), (List.forall_mem_cons.mpr ⟨List.mem_cons_of_mem _ (List.mem_append_left _ (List.mem_append_left _ (List.mem_append_left _ (List.mem_append_left _ (List.mem_append_left _ (List.mem_append_left _ (List.mem_append_right _ (List.mem_append_left _ (List.mem_of_getElem? (l := wsX0_gather_r2) (i := 8) rfl))))))))), (List.forall_mem_cons.mpr ⟨List.mem_cons_of_mem _ (List.mem_append_left _ (List.mem_append_left _ (List.mem_append_left _ (List.mem_append_left _ (List.mem_append_left _ (List.mem_append_left _ (List.mem_append_right _ (List.mem_append_left _ (List.mem_of_getElem? (l := wsX0_gather_r2) (i := 9) rfl))))))))), (fun _ h => nomatch h)⟩)⟩)⟩)⟩)⟩)⟩)⟩)⟩)⟩)⟩)⟩)⟩)⟩)⟩)⟩)⟩)⟩)⟩)⟩)⟩)⟩)⟩)⟩)⟩), (List.forall_mem_append.mpr ⟨(List.forall_mem_cons.mpr ⟨List.mem_cons_of_mem _ (List.mem_append_left _ (List.mem_append_left _ (List.mem_append_left _ (List.mem_append_left _ (List.mem_append_left _ (List.mem_append_left _ (List.mem_append_right _ (List.mem_append_left _ (List.mem_of_getElem? (l := wsX0_gather_r2) (i := 10) rfl))))))))), (List.forall_mem_cons.mpr ⟨List.mem_cons_of_mem _ (List.mem_append_left _ (List.mem_append_left _ (List.mem_append_left _ (List.mem_append_left _ (List.mem_append_left _ (List.mem_append_left _ (List.mem_append_right _ (List.mem_append_left _ (List.mem_of_getElem? (l := wsX0_gather_r2) (i := 11) rfl))))))))), (List.forall_mem_cons.mpr ⟨List.mem_cons_of_mem _ (List.mem_append_left _ (List.mem_append_left _ (List.mem_append_left _ (List.mem_append_left _ (List.mem_append_left _ (List.mem_append_left _ (List.mem_append_right _ (List.mem_append_left _ (List.mem_of_getElem? (l := wsX0_gather_r2) (i := 12) rfl))))))))), (List.forall_mem_cons.mpr ⟨List.mem_cons_of_mem _ (List.mem_append_left _ (List.mem_append_left _ (List.mem_append_left _ (List.mem_append_left _ (List.mem_append_left _ (List.mem_append_left _ (List.mem_append_right _ (List.mem_append_left _ (List.mem_of_getElem? (l := wsX0_gather_r2) (i := 13) rfl))))))))), (List.forall_mem_cons.mpr ⟨List.mem_cons_of_mem _ (List.mem_append_left _ (List.mem_append_left _ (List.mem_append_left _ (List.mem_append_left _ (List.mem_append_left _ (List.mem_append_left _ (List.mem_append_right _ (List.mem_append_left _ (List.mem_of_getElem? (l := wsX0_gather_r2) (i := 14) rfl))))))))), (List.forall_mem_cons.mpr ⟨List.mem_cons_of_mem _ (List.mem_append_left _ (List.mem_append_left _ (List.mem_append_left _ (List.mem_append_left _ (List.mem_append_left _ (List.mem_append_left _ (List.mem_append_right _ (List.mem_append_left _ (List.mem_of_getElem? (l := wsX0_gather_r2) (i := 15) rfl))))))))), (List.forall_mem_cons.mpr ⟨List.mem_cons_of_mem _ (List.mem_append_left _ (List.mem_append_left _ (List.mem_append_left _ (List.mem_append_left _ (List.mem_append_left _ (List.mem_append_left _ (List.mem_append_right _ (List.mem_append_left _ (List.mem_of_getElem? (l := wsX0_gather_r2) (i := 16) rfl))))))))), (List.forall_mem_cons.mpr ⟨List.mem_cons_of_mem _ (List.mem_append_left _ (List.mem_append_left _ (List.mem_append_left _ (List.mem_append_left _ (List.mem_append_left _ (List.mem_append_left _ (List.mem_append_right _ (List.mem_append_left _ (List.mem_of_getElem? (l := wsX0_gather_r2) (i := 17) rfl))))))))), (List.forall_mem_cons.mpr ⟨List.mem_cons_of_mem _ (List.mem_append_left _ (List.mem_append_left _ (List.mem_append_left _ (List.mem_append_left _ (List.mem_append_left _ (List.mem_append_left _ (List.mem_append_right _ (List.mem_append_left _ (List.mem_of_getElem? (l := wsX0_gather_r2) (i := 18) rfl))))))))), (List.forall_mem_cons.mpr ⟨List.mem_cons_of_mem _ (List.mem_append_left _ (List.mem_append_left _ (List.mem_append_left _ (List.mem_append_left _ (List.mem_append_left _ (List.mem_append_left _ (List.mem_append_right _ (List.mem_append_left _ (List.mem_of_getElem? (l := wsX0_gather_r2) (i := 19) rfl))))))))), (List.forall_mem_cons.mpr ⟨List.mem_cons_of_mem _ (List.mem_append_left _ (List.mem_append_left _ (List.mem_append_left _ (List.mem_append_left _ (List.mem_append_left _ (List.mem_append_left _ (List.mem_append_right _ (List.mem_append_left _ (List.mem_of_getElem? (l := wsX0_gather_r2) (i := 20) rfl))))))))), (List.forall_mem_cons.mpr ⟨List.mem_cons_of_mem _ (List.mem_append_left _ (List.mem_append_left _ (List.mem_append_left _ (List.mem_append_left _ (List.mem_append_left _ (List.mem_append_left _ (List.mem_append_right _ (List.mem_append_left _ (List.mem_of_getElem? (l := wsX0_gather_r2) (i := 21) rfl))))))))), (List.forall_mem_cons.mpr ⟨List.mem_cons_of_mem _ (List.mem_append_left _ (List.mem_append_left _ (List.mem_append_left _ (List.mem_append_left _ (List.mem_append_left _ (List.mem_append_left _ (List.mem_append_right _ (List.mem_append_left _ (List.mem_of_getElem? (l := wsX0_gather_r2) (i := 22) rfl))))))))), (List.forall_mem_cons.mpr ⟨List.mem_cons_of_mem _ (List.mem_append_left _ (List.mem_append_left _ (List.mem_append_left _ (List.mem_append_left _ (List.mem_append_left _ (List.mem_append_left _ (List.mem_append_right _ (List.mem_append_left _ (List.mem_of_getElem? (l := wsX0_gather_r2) (i := 23) rfl))))))))), (List.forall_mem_cons.mpr ⟨List.mem_cons_of_mem _ (List.mem_append_left _ (List.mem_append_left _ (List.mem_append_left _ (List.mem_append_left _ (List.mem_append_left _ (List.mem_append_left _ (List.mem_append_right _ (List.mem_append_right _ (List.mem_append_left _ (List.mem_of_getElem? (l := wsX0_gather_r3) (i := 0) rfl)))))))))), (List.forall_mem_cons.mpr ⟨List.mem_cons_of_mem _ (List.mem_append_left _ (List.mem_append_left _ (List.mem_append_left _ (List.mem_append_left _ (List.mem_append_left _ (List.mem_append_left _ (List.mem_append_right _ (List.mem_append_right _ (List.mem_append_left _ (List.mem_of_getElem? (l := wsX0_gather_r3) (i := 1) rfl)))))))))), (List.forall_mem_cons.mpr ⟨List.mem_cons_of_mem _ (List.mem_append_left _ (List.mem_append_left _ (List.mem_append_left _ (List.mem_append_left _ (List.mem_append_left _ (List.mem_append_left _ (List.mem_append_right _ (List.mem_append_right _ (List.mem_append_left _ (List.mem_of_getElem? (l := wsX0_gather_r3) (i := 2) rfl)))))))))), (List.forall_mem_cons.mpr ⟨List.mem_cons_of_mem _ (List.mem_append_left _ (List.mem_append_left _ (List.mem_append_left _ (List.mem_append_left _ (List.mem_append_left _ (List.mem_append_left _ (List.mem_append_right _ (List.mem_append_right _ (List.mem_append_left _ (List.mem_of_getElem? (l := wsX0_gather_r3) (i := 3) rfl)))))))))), (List.forall_mem_cons.mpr ⟨List.mem_cons_of_mem _ (List.mem_append_left _ (List.mem_append_left _ (List.mem_append_left _ (List.mem_append_left _ (List.mem_append_left _ (List.mem_append_left _ (List.mem_append_right _ (List.mem_append_right _ (List.mem_append_left _ (List.mem_of_getElem? (l := wsX0_gather_r3) (i := 4) rfl)))))))))), (List.forall_mem_cons.mpr ⟨List.mem_cons_of_mem _ (List.mem_append_left _ (List.mem_append_left _ (List.mem_append_left _ (List.mem_append_left _ (List.mem_append_left _ (List.mem_append_left _ (List.mem_append_right _ (List.mem_append_right _ (List.mem_append_left _ (List.mem_of_getElem? (l := wsX0_gather_r3) (i := 5) rfl)))))))))), (List.forall_mem_cons.mpr ⟨List.mem_cons_of_mem _ (List.mem_append_left _ (List.mem_append_left _ (List.mem_append_left _ (List.mem_append_left _ (List.mem_append_left _ (List.mem_append_left _ (List.mem_append_right _ (List.mem_append_right _ (List.mem_append_left _ (List.mem_of_getElem? (l := wsX0_gather_r3) (i := 6) rfl)))))))))), (List.forall_mem_cons.mpr ⟨List.mem_cons_of_mem _ (List.mem_append_left _ (List.mem_append_left _ (List.mem_append_left _ (List.mem_append_left _ (List.mem_append_left _ (List.mem_append_left _ (List.mem_append_right _ (List.mem_append_right _ (List.mem_append_left _ (List.mem_of_getElem? (l := wsX0_gather_r3) (i := 7) rfl)))))))))), (List.forall_mem_cons.mpr ⟨List.mem_cons_of_mem _ (List.mem_append_left _ (List.mem_append_left _ (List.mem_append_left _ (List.mem_append_left _ (List.mem_append_left _ (List.mem_append_left _ (List.mem_append_right _ (List.mem_append_right _ (List.mem_append_left _ (List.mem_of_getElem? (l := wsX0_gather_r3) (i := 8) rfl)))))))))), (List.forall_mem_cons.mpr ⟨List.mem_cons_of_mem _ (List.mem_append_left _ (List.mem_append_left _ (List.mem_append_left _ (List.mem_append_left _ (List.mem_append_left _ (List.mem_append_left _ (List.mem_append_right _ (List.mem_append_right _ (List.mem_append_left _ (List.mem_of_getElem? (l := wsX0_gather_r3) (i := 9) rfl)))))))))), (fun _ h => nomatch h)⟩)⟩)⟩)⟩)⟩)⟩)⟩)⟩)⟩)⟩)⟩)⟩)⟩)⟩)⟩)⟩)⟩)⟩)⟩)⟩)⟩)⟩)⟩)⟩), (List.forall_mem_cons.mpr ⟨List.mem_cons_of_mem _ (List.mem_append_left _ (List.mem_append_left _ (List.mem_append_left _ (List.mem_append_left _ (List.mem_append_left _ (List.mem_append_left _ (List.mem_append_right _ (List.mem_append_right _ (List.mem_append_left _ (List.mem_of_getElem? (l := wsX0_gather_r3) (i := 10) rfl)))))))))), (List.forall_mem_cons.mpr ⟨List.mem_cons_of_mem _ (List.mem_append_left _ (List.mem_append_left _ (List.mem_append_left _ (List.mem_append_left _ (List.mem_append_left _ (List.mem_append_left _ (List.mem_append_right _ (List.mem_append_right _ (List.mem_append_left _ (List.mem_of_getElem? (l := wsX0_gather_r3) (i := 11) rfl)))))))))), (List.forall_mem_cons.mpr ⟨List.mem_cons_of_mem _ (List.mem_append_left _ (List.mem_append_left _ (List.mem_append_left _ (List.mem_append_left _ (List.mem_append_left _ (List.mem_append_left _ (List.mem_append_right _ (List.mem_append_right _ (List.mem_append_left _ (List.mem_of_getElem? (l := wsX0_gather_r3) (i := 12) rfl)))))))))), (List.forall_mem_cons.mpr ⟨List.mem_cons_of_mem _ (List.mem_append_left _ (List.mem_append_left _ (List.mem_append_left _ (List.mem_append_left _ (List.mem_append_left _ (List.mem_append_left _ (List.mem_append_right _ (List.mem_append_right _ (List.mem_append_left _ (List.mem_of_getElem? (l := wsX0_gather_r3) (i := 13) rfl)))))))))), (List.forall_mem_cons.mpr ⟨List.mem_cons_of_mem _ (List.mem_append_left _ (List.mem_append_left _ (List.mem_append_left _ (List.mem_append_left _ (List.mem_append_left _ (List.mem_append_left _ (List.mem_append_right _ (List.mem_append_right _ (List.mem_append_left _ (List.mem_of_getElem? (l := wsX0_gather_r3) (i := 14) rfl)))))))))), (List.forall_mem_cons.mpr ⟨List.mem_cons_of_mem _ (List.mem_append_left _ (List.mem_append_left _ (List.mem_append_left _ (List.mem_append_left _ (List.mem_append_left _ (List.mem_append_left _ (List.mem_append_right _ (List.mem_append_right _ (List.mem_append_left _ (List.mem_of_getElem? (l := wsX0_gather_r3) (i := 15) rfl)))))))))), (List.forall_mem_cons.mpr ⟨List.mem_cons_of_mem _ (List.mem_append_left _ (List.mem_append_left _ (List.mem_append_left _ (List.mem_append_left _ (List.mem_append_left _ (List.mem_append_left _ (List.mem_append_right _ (List.mem_append_right _ (List.mem_append_left _ (List.mem_of_getElem? (l := wsX0_gather_r3) (i := 16) rfl)))))))))), (List.forall_mem_cons.mpr ⟨List.mem_cons_of_mem _ (List.mem_append_left _ (List.mem_append_left _ (List.mem_append_left _ (List.mem_append_left _ (List.mem_append_left _ (List.mem_append_left _ (List.mem_append_right _ (List.mem_append_right _ (List.mem_append_left _ (List.mem_of_getElem? (l := wsX0_gather_r3) (i := 17) rfl)))))))))), (List.forall_mem_cons.mpr ⟨List.mem_cons_of_mem _ (List.mem_append_left _ (List.mem_append_left _ (List.mem_append_left _ (List.mem_append_left _ (List.mem_append_left _ (List.mem_append_left _ (List.mem_append_right _ (List.mem_append_right _ (List.mem_append_left _ (List.mem_of_getElem? (l := wsX0_gather_r3) (i := 18) rfl)))))))))), (List.forall_mem_cons.mpr ⟨List.mem_cons_of_mem _ (List.mem_append_left _ (List.mem_append_left _ (List.mem_append_left _ (List.mem_append_left _ (List.mem_append_left _ (List.mem_append_left _ (List.mem_append_right _ (List.mem_append_right _ (List.mem_append_left _ (List.mem_of_getElem? (l := wsX0_gather_r3) (i := 19) rfl)))))))))), (List.forall_mem_cons.mpr ⟨List.mem_cons_of_mem _ (List.mem_append_left _ (List.mem_append_left _ (List.mem_append_left _ (List.mem_append_left _ (List.mem_append_left _ (List.mem_append_left _ (List.mem_append_right _ (List.mem_append_right _ (List.mem_append_left _ (List.mem_of_getElem? (l := wsX0_gather_r3) (i := 20) rfl)))))))))), (List.forall_mem_cons.mpr ⟨List.mem_cons_of_mem _ (List.mem_append_left _ (List.mem_append_left _ (List.mem_append_left _ (List.mem_append_left _ (List.mem_append_left _ (List.mem_append_left _ (List.mem_append_right _ (List.mem_append_right _ (List.mem_append_left _ (List.mem_of_getElem? (l := wsX0_gather_r3) (i := 21) rfl)))))))))), (fun _ h => nomatch h)⟩)⟩)⟩)⟩)⟩)⟩)⟩)⟩)⟩)⟩)⟩)⟩)⟩)⟩), (fun _ h => List.mem_cons_of_mem _ (List.mem_append_left _ (List.mem_append_left _ (List.mem_append_left _ (List.mem_append_left _ (List.mem_append_right _ (h)))))))⟩), (fun _ h => List.mem_cons_of_mem _ (List.mem_append_left _ (List.mem_append_left _ (List.mem_append_right _ (h)))))⟩), (fun _ h => List.mem_cons_of_mem _ (List.mem_append_left _ (List.mem_append_left _ (List.mem_append_left _ (List.mem_append_right _ (h))))))⟩), (fun _ h => List.mem_cons_of_mem _ (List.mem_append_left _ (List.mem_append_right _ (h))))⟩), (fun _ h => List.mem_cons_of_mem _ (List.mem_append_right _ (h)))⟩)⟩) (by decide +kernel)
set_option maxRecDepth 20000 in
theorem gX0_gather_X8_follow : GoodIn wsX0_gather (wsV RX0 31 RX8 yX8_follow wsX8_follow) := goodIn_app (goodIn_of _ (by decide +kernel)) ggX0_gather_X8_follow
set_option maxRecDepth 20000 in
theorem ggX0_gather_X9_size : GoodIn wsX0_gather wsX9_size := goodIn_sub (List.forall_mem_cons.mpr ⟨List.mem_cons_of_mem _ (List.mem_append_left _ (List.mem_append_left _ (List.mem_append_left _ (List.mem_append_left _ (List.mem_append_left _ (List.mem_append_left _ (List.mem_append_right _ (List.mem_append_left _ (List.mem_of_getElem? (l := wsX0_gather_r2) (i := 7) rfl))))))))), (List.forall_mem_append.mpr ⟨(List.forall_mem_cons.mpr ⟨List.mem_cons_of_mem _ (List.mem_append_left _ (List.mem_append_left _ (List.mem_append_left _ (List.mem_append_left _ (List.mem_append_left _ (List.mem_append_left _ (List.mem_append_right _ (List.mem_append_left _ (List.mem_of_getElem? (l := wsX0_gather_r2) (i := 8) rfl))))))))), (fun _ h => nomatch h)⟩), (fun _ h => List.mem_cons_of_mem _ (List.mem_append_left _ (List.mem_append_right _ (h))))⟩)⟩) (by decide +kernel)
set_option maxRecDepth 20000 in
theorem gX0_gather_X9_size : GoodIn wsX0_gather (wsV RX0 41 RX9 yX9_size wsX9_size) := goodIn_app (goodIn_of _ (by decide +kernel)) ggX0_gather_X9_size
set_option maxRecDepth 20000 in
theorem ggX0_gather_X0_gatherAt : GoodIn wsX0_gather wsX0_gatherAt := goodIn_sub (List.forall_mem_cons.mpr ⟨List.mem_cons_of_mem _ (List.mem_append_left _ (List.mem_append_left _ (List.mem_append_left _ (List.mem_append_left _ (List.mem_append_left _ (List.mem_append_left _ (List.mem_append_right _ (List.mem_append_right _ (List.mem_append_right _ (List.mem_append_left _ (List.mem_of_getElem? (l := wsX0_gather_r4) (i := 3) rfl))))))))))), (List.forall_mem_append.mpr ⟨(List.forall_mem_append.mpr ⟨(List.forall_mem_append.mpr ⟨(List.forall_mem_cons.mpr ⟨List.mem_cons_of_mem _ (List.mem_append_left _ (List.mem_append_left _ (List.mem_append_left _ (List.mem_append_left _ (List.mem_append_left _ (List.mem_append_left _ (List.mem_append_right _ (List.mem_append_right _ (List.mem_append_right _ (List.mem_append_left _ (List.mem_of_getElem? (l := wsX0_gather_r4) (i := 4) rfl))))))))))), (List.forall_mem_cons.mpr ⟨List.mem_cons_of_mem _ (List.mem_append_left _ (List.mem_append_left _ (List.mem_append_left _ (List.mem_append_left _ (List.mem_append_left _ (List.mem_append_left _ (List.mem_append_right _ (List.mem_append_right _ (List.mem_append_right _ (List.mem_append_left _ (List.mem_of_getElem? (l := wsX0_gather_r4) (i := 5) rfl))))))))))), (List.forall_mem_cons.mpr ⟨List.mem_cons_of_mem _ (List.mem_append_left _ (List.mem_append_left _ (List.mem_append_left _ (List.mem_append_left _ (List.mem_append_left _ (List.mem_append_left _ (List.mem_append_right _ (List.mem_append_right _ (List.mem_append_right _ (List.mem_append_left _ (List.mem_of_getElem? (l := wsX0_gather_r4) (i := 6) rfl))))))))))), (List.forall_mem_cons.mpr ⟨List.mem_cons_of_mem _ (List.mem_append_left _ (List.mem_append_left _ (List.mem_append_left _ (List.mem_append_left _ (List.mem_append_left _ (List.mem_append_left _ (List.mem_append_left _ (List.mem_of_getElem? (l := wsX0_gather_r1) (i := 10) rfl)))))))), (List.forall_mem_cons.mpr ⟨List.mem_cons_of_mem _ (List.mem_append_left _ (List.mem_append_left _ (List.mem_append_left _ (List.mem_append_left _ (List.mem_append_left _ (List.mem_append_left _ (List.mem_append_right _ (List.mem_append_right _ (List.mem_append_right _ (List.mem_append_left _ (List.mem_of_getElem? (l := wsX0_gather_r4) (i := 7) rfl))))))))))), (List.forall_mem_cons.mpr ⟨List.mem_cons_of_mem _ (List.mem_append_left _ (List.mem_append_left _ (List.mem_append_left _ (List.mem_append_left _ (List.mem_append_left _ (List.mem_append_left _ (List.mem_append_right _ (List.mem_append_right _ (List.mem_append_right _ (List.mem_append_left _ (List.mem_of_getElem? (l := wsX0_gather_r4) (i := 8) rfl))))))))))), (List.forall_mem_cons.mpr ⟨List.mem_cons_of_mem _ (List.mem_append_left _ (List.mem_append_left _ (List.mem_append_left _ (List.mem_append_left _ (List.mem_append_left _ (List.mem_append_left _ (List.mem_append_right _ (List.mem_append_right _ (List.mem_append_right _ (List.mem_append_left _ (List.mem_of_getElem? (l := wsX0_gather_r4) (i := 9) rfl))))))))))), (List.forall_mem_cons.mpr ⟨List.mem_cons_of_mem _ (List.mem_append_left _ (List.mem_append_left _ (List.mem_append_left _ (List.mem_append_left _ (List.mem_append_left _ (List.mem_append_left _ (List.mem_append_right _ (List.mem_append_right _ (List.mem_append_right _ (List.mem_append_left _ (List.mem_of_getElem? (l := wsX0_gather_r4) (i := 10) rfl))))))))))), (List.forall_mem_cons.mpr ⟨List.mem_cons_of_mem _ (List.mem_append_left _ (List.mem_append_left _ (List.mem_append_left _ (List.mem_append_left _ (List.mem_append_left _ (List.mem_append_left _ (List.mem_append_right _ (List.mem_append_right _ (List.mem_append_right _ (List.mem_append_left _ (List.mem_of_getElem? (l := wsX0_gather_r4) (i := 11) rfl))))))))))), (List.forall_mem_cons.mpr ⟨List.mem_cons_of_mem _ (List.mem_append_left _ (List.mem_append_left _ (List.mem_append_left _ (List.mem_append_left _ (List.mem_append_left _ (List.mem_append_left _ (List.mem_append_left _ (List.mem_of_getElem? (l := wsX0_gather_r1) (i := 14) rfl)))))))), (List.forall_mem_cons.mpr ⟨List.mem_cons_of_mem _ (List.mem_append_left _ (List.mem_append_left _ (List.mem_append_left _ (List.mem_append_left _ (List.mem_append_left _ (List.mem_append_left _ (List.mem_append_left _ (List.mem_of_getElem? (l := wsX0_gather_r1) (i := 15) rfl)))))))), (List.forall_mem_cons.mpr ⟨List.mem_cons_of_mem _ (List.mem_append_left _ (List.mem_append_left _ (List.mem_append_left _ (List.mem_append_left _ (List.mem_append_left _ (List.mem_append_left _ (List.mem_append_right _ (List.mem_append_right _ (List.mem_append_right _ (List.mem_append_left _ (List.mem_of_getElem? (l := wsX0_gather_r4) (i := 12) rfl))))))))))), (List.forall_mem_cons.mpr ⟨List.mem_cons_of_mem _ (List.mem_append_left _ (List.mem_append_left _ (List.mem_append_left _ (List.mem_append_left _ (List.mem_append_left _ (List.mem_append_left _ (List.mem_append_right _ (List.mem_append_right _ (List.mem_append_right _ (List.mem_append_left _ (List.mem_of_getElem? (l := wsX0_gather_r4) (i := 13) rfl))))))))))), (List.forall_mem_cons.mpr ⟨List.mem_cons_of_mem _ (List.mem_append_left _ (List.mem_append_left _ (List.mem_append_left _ (List.mem_append_left _ (List.mem_append_left _ (List.mem_append_left _ (List.mem_append_right _ (List.mem_append_right _ (List.mem_append_right _ (List.mem_append_left _ (List.mem_of_getElem? (l := wsX0_gather_r4) (i := 14) rfl))))))))))), (List.forall_mem_cons.mpr ⟨List.mem_cons_of_mem _ (List.mem_append_left _ (List.mem_append_left _ (List.mem_append_left _ (List.mem_append_left _ (List.mem_append_left _ (List.mem_append_left _ (List.mem_append_right _ (List.mem_append_right _ (List.mem_append_right _ (List.mem_append_left _ (List.mem_of_getElem? (l := wsX0_gather_r4) (i := 15) rfl))))))))))), (List.forall_mem_cons.mpr ⟨List.mem_cons_of_mem _ (List.mem_append_left _ (List.mem_append_left _ (List.mem_append_left _ (List.mem_append_left _ (List.mem_append_left _ (List.mem_append_left _ (List.mem_append_right _ (List.mem_append_right _ (List.mem_append_right _ (List.mem_append_left _ (List.mem_of_getElem? (l := wsX0_gather_r4) (i := 16) rfl))))))))))), (List.forall_mem_cons.mpr ⟨List.mem_cons_of_mem _ (List.mem_append_left _ (List.mem_append_left _ (List.mem_append_left _ (List.mem_append_left _ (List.mem_append_left _ (List.mem_append_left _ (List.mem_append_right _ (List.mem_append_right _ (List.mem_append_right _ (List.mem_append_left _ (List.mem_of_getElem? (l := wsX0_gather_r4) (i := 17) rfl))))))))))), (List.forall_mem_cons.mpr ⟨List.mem_cons_of_mem _ (List.mem_append_left _ (List.mem_append_left _ (List.mem_append_left _ (List.mem_append_left _ (List.mem_append_left _ (List.mem_append_left _ (List.mem_append_right _ (List.mem_append_right _ (List.mem_append_right _ (List.mem_append_left _ (List.mem_of_getElem? (l := wsX0_gather_r4) (i := 18) rfl))))))))))), (List.forall_mem_cons.mpr ⟨List.mem_cons_of_mem _ (List.mem_append_left _ (List.mem_append_left _ (List.mem_append_left _ (List.mem_append_left _ (List.mem_append_left _ (List.mem_append_left _ (List.mem_append_right _ (List.mem_append_right _ (List.mem_append_right _ (List.mem_append_left _ (List.mem_of_getElem? (l := wsX0_gather_r4) (i := 19) rfl))))))))))), (List.forall_mem_cons.mpr ⟨List.mem_cons_of_mem _ (List.mem_append_left _ (List.mem_append_left _ (List.mem_append_left _ (List.mem_append_left _ (List.mem_append_left _ (List.mem_append_left _ (List.mem_append_right _ (List.mem_append_right _ (List.mem_append_right _ (List.mem_append_left _ (List.mem_of_getElem? (l := wsX0_gather_r4) (i := 2) rfl))))))))))), (List.forall_mem_cons.mpr ⟨List.mem_cons_of_mem _ (List.mem_append_left _ (List.mem_append_left _ (List.mem_append_left _ (List.mem_append_left _ (List.mem_append_left _ (List.mem_append_left _ (List.mem_append_right _ (List.mem_append_right _ (List.mem_append_right _ (List.mem_append_left _ (List.mem_of_getElem? (l := wsX0_gather_r4) (i := 20) rfl))))))))))), (List.forall_mem_cons.mpr ⟨List.mem_cons_of_mem _ (List.mem_append_left _ (List.mem_append_left _ (List.mem_append_left _ (List.mem_append_left _ (List.mem_append_left _ (List.mem_append_left _ (List.mem_append_left _ (List.mem_of_getElem? (l := wsX0_gather_r1) (i := 0) rfl)))))))), (List.forall_mem_cons.mpr ⟨List.mem_cons_of_mem _ (List.mem_append_left _ (List.mem_append_left _ (List.mem_append_left _ (List.mem_append_left _ (List.mem_append_left _ (List.mem_append_left _ (List.mem_append_right _ (List.mem_append_right _ (List.mem_append_right _ (List.mem_append_left _ (List.mem_of_getElem? (l := wsX0_gather_r4) (i := 21) rfl))))))))))), (List.forall_mem_cons.mpr ⟨List.mem_cons_of_mem _ (List.mem_append_left _ (List.mem_append_left _ (List.mem_append_left _ (List.mem_append_left _ (List.mem_append_left _ (List.mem_append_left _ (List.mem_append_right _ (List.mem_append_right _ (List.mem_append_right _ (List.mem_append_left _ (List.mem_of_getElem? (l := wsX0_gather_r4) (i := 22) rfl))))))))))), (fun _ h => nomatch h)⟩)⟩)⟩)⟩)⟩)⟩)⟩)⟩)⟩)⟩)⟩)⟩)⟩)⟩)⟩)⟩)⟩)⟩)⟩)⟩)⟩)⟩)⟩)⟩), (List.forall_mem_append.mpr ⟨(List.forall_mem_cons.mpr ⟨List.mem_cons_of_mem _ (List.mem_append_left _ (List.mem_append_left _ (List.mem_append_left _ (List.mem_append_left _ (List.mem_append_left _ (List.mem_append_left _ (List.mem_append_right _ (List.mem_append_right _ (List.mem_append_right _ (List.mem_append_left _ (List.mem_of_getElem? (l := wsX0_gather_r4) (i := 23) rfl))))))))))), (List.forall_mem_cons.mpr ⟨List.mem_cons_of_mem _ (List.mem_append_left _ (List.mem_append_left _ (List.mem_append_left _ (List.mem_append_left _ (List.mem_append_left _ (List.mem_append_left _ (List.mem_append_right _ (List.mem_append_right _ (List.mem_append_right _ (List.mem_append_right _ (List.mem_append_left _ (List.mem_of_getElem? (l := wsX0_gather_r5) (i := 0) rfl)))))))))))), (List.forall_mem_cons.mpr ⟨List.mem_cons_of_mem _ (List.mem_append_left _ (List.mem_append_left _ (List.mem_append_left _ (List.mem_append_left _ (List.mem_append_left _ (List.mem_append_left _ (List.mem_append_right _ (List.mem_append_right _ (List.mem_append_right _ (List.mem_append_right _ (List.mem_append_left _ (List.mem_of_getElem? (l := wsX0_gather_r5) (i := 1) rfl)))))))))))), (List.forall_mem_cons.mpr ⟨List.mem_cons_of_mem _ (List.mem_append_left _ (List.mem_append_left _ (List.mem_append_left _ (List.mem_append_left _ (List.mem_append_left _ (List.mem_append_left _ (List.mem_append_right _ (List.mem_append_right _ (List.mem_append_right _ (List.mem_append_right _ (List.mem_append_left _ (List.mem_of_getElem? (l := wsX0_gather_r5) (i := 2) rfl)))))))))))), (List.forall_mem_cons.mpr ⟨List.mem_cons_of_mem _ (List.mem_append_left _ (List.mem_append_left _ (List.mem_append_left _ (List.mem_append_left _ (List.mem_append_left _ (List.mem_append_left _ (List.mem_append_right _ (List.mem_append_right _ (List.mem_append_right _ (List.mem_append_right _ (List.mem_append_left _ (List.mem_of_getElem? (l := wsX0_gather_r5) (i := 3) rfl)))))))))))), (List.forall_mem_cons.mpr ⟨List.mem_cons_of_mem _ (List.mem_append_left _ (List.mem_append_left _ (List.mem_append_left _ (List.mem_append_left _ (List.mem_append_left _ (List.mem_append_left _ (List.mem_append_right _ (List.mem_append_right _ (List.mem_append_right _ (List.mem_append_right _ (List.mem_append_left _ (List.mem_of_getElem? (l := wsX0_gather_r5) (i := 4) rfl)))))))))))), (List.forall_mem_cons.mpr ⟨List.mem_cons_of_mem _ (List.mem_append_left _ (List.mem_append_left _ (List.mem_append_left _ (List.mem_append_left _ (List.mem_append_left _ (List.mem_append_left _ (List.mem_append_right _ (List.mem_append_right _ (List.mem_append_right _ (List.mem_append_right _ (List.mem_append_left _ (List.mem_of_getElem? (l := wsX0_gather_r5) (i := 5) rfl)))))))))))), (List.forall_mem_cons.mpr ⟨List.mem_cons_of_mem _ (List.mem_append_left _ (List.mem_append_left _ (List.mem_append_left _ (List.mem_append_left _ (List.mem_append_left _ (List.mem_append_left _ (List.mem_append_right _ (List.mem_append_right _ (List.mem_append_right _ (List.mem_append_right _ (List.mem_append_left _ (List.mem_of_getElem? (l := wsX0_gather_r5) (i := 6) rfl)))))))))))), (List.forall_mem_cons.mpr ⟨List.mem_cons_of_mem _ (List.mem_append_left _ (List.mem_append_left _ (List.mem_append_left _ (List.mem_append_left _ (List.mem_append_left _ (List.mem_append_left _ (List.mem_append_right _ (List.mem_append_right _ (List.mem_append_right _ (List.mem_append_right _ (List.mem_append_left _ (List.mem_of_getElem? (l := wsX0_gather_r5) (i := 7) rfl)))))))))))), (List.forall_mem_cons.mpr ⟨List.mem_cons_of_mem _ (List.mem_append_left _ (List.mem_append_left _ (List.mem_append_left _ (List.mem_append_left _ (List.mem_append_left _ (List.mem_append_left _ (List.mem_append_right _ (List.mem_append_right _ (List.mem_append_right _ (List.mem_append_right _ (List.mem_append_left _ (List.mem_of_getElem? (l := wsX0_gather_r5) (i := 8) rfl)))))))))))), (List.forall_mem_cons.mpr ⟨List.mem_cons_of_mem _ (List.mem_append_left _ (List.mem_append_left _ (List.mem_append_left _ (List.mem_append_left _ (List.mem_append_left _ (List.mem_append_left _ (List.mem_append_right _ (List.mem_append_right _ (List.mem_append_right _ (List.mem_append_right _ (List.mem_append_left _ (List.mem_of_getElem? (l := wsX0_gather_r5) (i := 9) rfl)))))))))))), (List.forall_mem_cons.mpr ⟨List.mem_cons_of_mem _ (List.mem_append_left _ (List.mem_append_left _ (List.mem_append_left _ (List.mem_append_left _ (List.mem_append_left _ (List.mem_append_left _ (List.mem_append_left _ (List.mem_of_getElem? (l := wsX0_gather_r1) (i := 12) rfl)))))))), (List.forall_mem_cons.mpr ⟨List.mem_cons_of_mem _ (List.mem_append_left _ (List.mem_append_left _ (List.mem_append_left _ (List.mem_append_left _ (List.mem_append_left _ (List.mem_append_left _ (List.mem_append_right _ (List.mem_append_right _ (List.mem_append_right _ (List.mem_append_right _ (List.mem_append_left _ (List.mem_of_getElem? (l := wsX0_gather_r5) (i := 10) rfl)))))))))))), (List.forall_mem_cons.mpr ⟨List.mem_cons_of_mem _ (List.mem_append_left _ (List.mem_append_left _ (List.mem_append_left _ (List.mem_append_left _ (List.mem_append_left _ (List.mem_append_left _ (List.mem_append_right _ (List.mem_append_right _ (List.mem_append_right _ (List.mem_append_right _ (List.mem_append_left _ (List.mem_of_getElem? (l := wsX0_gather_r5) (i := 11) rfl)))))))))))), (List.forall_mem_cons.mpr ⟨List.mem_cons_of_mem _ (List.mem_append_left _ (List.mem_append_left _ (List.mem_append_left _ (List.mem_append_left _ (List.mem_append_left _ (List.mem_append_left _ (List.mem_append_right _ (List.mem_append_right _ (List.mem_append_right _ (List.mem_append_right _ (List.mem_append_left _ (List.mem_of_getElem? (l := wsX0_gather_r5) (i := 12) rfl)))))))))))), (List.forall_mem_cons.mpr ⟨List.mem_cons_of_mem _ (List.mem_append_left _ (List.mem_append_left _ (List.mem_append_left _ (List.mem_append_left _ (List.mem_append_left _ (List.mem_append_left _ (List.mem_append_right _ (List.mem_append_right _ (List.mem_append_right _ (List.mem_append_right _ (List.mem_append_left _ (List.mem_of_getElem? (l := wsX0_gather_r5) (i := 13) rfl)))))))))))), (List.forall_mem_cons.mpr ⟨List.mem_cons_of_mem _ (List.mem_append_left _ (List.mem_append_left _ (List.mem_append_left _ (List.mem_append_left _ (List.mem_append_left _ (List.mem_append_left _ (List.mem_append_left _ (List.mem_of_getElem? (l := wsX0_gather_r1) (i := 16) rfl)))))))), (List.forall_mem_cons.mpr ⟨List.mem_cons_of_mem _ (List.mem_append_left _ (List.mem_append_left _ (List.mem_append_left _ (List.mem_append_left _ (List.mem_append_left _ (List.mem_append_left _ (List.mem_append_right _ (List.mem_append_right _ (List.mem_append_right _ (List.mem_append_right _ (List.mem_append_left _ (List.mem_of_getElem? (l := wsX0_gather_r5) (i := 14) rfl)))))))))))), (List.forall_mem_cons.mpr ⟨List.mem_cons_of_mem _ (List.mem_append_left _ (List.mem_append_left _ (List.mem_append_left _ (List.mem_append_left _ (List.mem_append_left _ (List.mem_append_left _ (List.mem_append_left _ (List.mem_of_getElem? (l := wsX0_gather_r1) (i := 23) rfl)))))))), (List.forall_mem_cons.mpr ⟨List.mem_cons_of_mem _ (List.mem_append_left _ (List.mem_append_left _ (List.mem_append_left _ (List.mem_append_left _ (List.mem_append_left _ (List.mem_append_left _ (List.mem_append_right _ (List.mem_append_right _ (List.mem_append_right _ (List.mem_append_right _ (List.mem_append_left _ (List.mem_of_getElem? (l := wsX0_gather_r5) (i := 15) rfl)))))))))))), (List.forall_mem_cons.mpr ⟨List.mem_cons_of_mem _ (List.mem_append_left _ (List.mem_append_left _ (List.mem_append_left _ (List.mem_append_left _ (List.mem_append_left _ (List.mem_append_left _ (List.mem_append_right _ (List.mem_append_right _ (List.mem_append_right _ (List.mem_append_right _ (List.mem_append_left _ (List.mem_of_getElem? (l := wsX0_gather_r5) (i := 16) rfl)))))))))))), (List.forall_mem_cons.mpr ⟨List.mem_cons_of_mem _ (List.mem_append_left _ (List.mem_append_left _ (List.mem_append_left _ (List.mem_append_left _ (List.mem_append_left _ (List.mem_append_left _ (List.mem_append_right _ (List.mem_append_right _ (List.mem_append_right _ (List.mem_append_right _ (List.mem_append_left _ (List.mem_of_getElem? (l := wsX0_gather_r5) (i := 17) rfl)))))))))))), (List.forall_mem_cons.mpr ⟨List.mem_cons_of_mem _ (List.mem_append_left _ (List.mem_append_left _ (List.mem_append_left _ (List.mem_append_left _ (List.mem_append_left _ (List.mem_append_left _ (List.mem_append_right _ (List.mem_append_right _ (List.mem_append_right _ (List.mem_append_right _ (List.mem_append_left _ (List.mem_of_getElem? (l := wsX0_gather_r5) (i := 18) rfl)))))))))))), (List.forall_mem_cons.mpr ⟨List.mem_cons_of_mem _ (List.mem_append_left _ (List.mem_append_left _ (List.mem_append_left _ (List.mem_append_left _ (List.mem_append_left _ (List.mem_append_left _ (List.mem_append_right _ (List.mem_append_right _ (List.mem_append_right _ (List.mem_append_right _ (List.mem_append_left _ (List.mem_of_getElem? (l := wsX0_gather_r5) (i := 19) rfl)))))))))))), (fun _ h => nomatch h)⟩)⟩)⟩)⟩)⟩)⟩)⟩)⟩)⟩)⟩)⟩)⟩)⟩)⟩)⟩)⟩)⟩)⟩)⟩)⟩)⟩)⟩)⟩)⟩), (List.forall_mem_cons.mpr ⟨List.mem_cons_of_mem _ (List.mem_append_left _ (List.mem_append_left _ (List.mem_append_left _ (List.mem_append_left _ (List.mem_append_left _ (List.mem_append_left _ (List.mem_append_right _ (List.mem_append_right _ (List.mem_append_right _ (List.mem_append_right _ (List.mem_append_left _ (List.mem_of_getElem? (l := wsX0_gather_r5) (i := 20) rfl)))))))))))), (List.forall_mem_cons.mpr ⟨List.mem_cons_of_mem _ (List.mem_append_left _ (List.mem_append_left _ (List.mem_append_left _ (List.mem_append_left _ (List.mem_append_left _ (List.mem_append_left _ (List.mem_append_right _ (List.mem_append_right _ (List.mem_append_right _ (List.mem_append_right _ (List.mem_append_left _ (List.mem_of_getElem? (l := wsX0_gather_r5) (i := 21) rfl)))))))))))), (List.forall_mem_cons.mpr ⟨List.mem_cons_of_mem _ (List.mem_append_left _ (List.mem_append_left _ (List.mem_append_left _ (List.mem_append_left _ (List.mem_append_left _ (List.mem_append_left _ (List.mem_append_right _ (List.mem_append_right _ (List.mem_append_right _ (List.mem_append_right _ (List.mem_append_left _ (List.mem_of_getElem? (l := wsX0_gather_r5) (i := 22) rfl)))))))))))), (List.forall_mem_cons.mpr ⟨List.mem_cons_of_mem _ (List.mem_append_left _ (List.mem_append_left _ (List.mem_append_left _ (List.mem_append_left _ (List.mem_append_left _ (List.mem_append_left _ (List.mem_append_right _ (List.mem_append_right _ (List.mem_append_right _ (List.mem_append_right _ (List.mem_append_left _ (List.mem_of_getElem? (l := wsX0_gather_r5) (i := 23) rfl)))))))))))), (List.forall_mem_cons.mpr ⟨List.mem_cons_of_mem _ (List.mem_append_left _ (List.mem_append_left _ (List.mem_append_left _ (List.mem_append_left _ (List.mem_append_left _ (List.mem_append_left _ (List.mem_append_right _ (List.mem_append_right _ (List.mem_append_right _ (List.mem_append_right _ (List.mem_append_right _ (List.mem_of_getElem? (l := wsX0_gather_r6) (i := 0) rfl)))))))))))), (List.forall_mem_cons.mpr ⟨List.mem_cons_of_mem _ (List.mem_append_left _ (List.mem_append_left _ (List.mem_append_left _ (List.mem_append_left _ (List.mem_append_left _ (List.mem_append_left _ (List.mem_append_right _ (List.mem_append_right _ (List.mem_append_right _ (List.mem_append_right _ (List.mem_append_right _ (List.mem_of_getElem? (l := wsX0_gather_r6) (i := 1) rfl)))))))))))), (List.forall_mem_cons.mpr ⟨List.mem_cons_of_mem _ (List.mem_append_left _ (List.mem_append_left _ (List.mem_append_left _ (List.mem_append_left _ (List.mem_append_left _ (List.mem_append_left _ (List.mem_append_right _ (List.mem_append_right _ (List.mem_append_right _ (List.mem_append_right _ (List.mem_append_right _ (List.mem_of_getElem? (l := wsX0_gather_r6) (i := 2) rfl)))))))))))), (List.forall_mem_cons.mpr ⟨List.mem_cons_of_mem _ (List.mem_append_left _ (List.mem_append_left _ (List.mem_append_left _ (List.mem_append_left _ (List.mem_append_left _ (List.mem_append_left _ (List.mem_append_right _ (List.mem_append_right _ (List.mem_append_right _ (List.mem_append_right _ (List.mem_append_right _ (List.mem_of_getElem? (l := wsX0_gather_r6) (i := 3) rfl)))))))))))), (List.forall_mem_cons.mpr ⟨List.mem_cons_of_mem _ (List.mem_append_left _ (List.mem_append_left _ (List.mem_append_left _ (List.mem_append_left _ (List.mem_append_left _ (List.mem_append_left _ (List.mem_append_right _ (List.mem_append_right _ (List.mem_append_right _ (List.mem_append_right _ (List.mem_append_right _ (List.mem_of_getElem? (l := wsX0_gather_r6) (i := 4) rfl)))))))))))), (List.forall_mem_cons.mpr ⟨List.mem_cons_of_mem _ (List.mem_append_left _ (List.mem_append_left _ (List.mem_append_left _ (List.mem_append_left _ (List.mem_append_left _ (List.mem_append_left _ (List.mem_append_left _ (List.mem_of_getElem? (l := wsX0_gather_r1) (i := 13) rfl)))))))), (List.forall_mem_cons.mpr ⟨List.mem_cons_of_mem _ (List.mem_append_left _ (List.mem_append_left _ (List.mem_append_left _ (List.mem_append_left _ (List.mem_append_left _ (List.mem_append_left _ (List.mem_append_right _ (List.mem_append_right _ (List.mem_append_right _ (List.mem_append_right _ (List.mem_append_right _ (List.mem_of_getElem? (l := wsX0_gather_r6) (i := 5) rfl)))))))))))), (List.forall_mem_cons.mpr ⟨List.mem_cons_of_mem _ (List.mem_append_left _ (List.mem_append_left _ (List.mem_append_left _ (List.mem_append_left _ (List.mem_append_left _ (List.mem_append_left _ (List.mem_append_right _ (List.mem_append_right _ (List.mem_append_right _ (List.mem_append_right _ (List.mem_append_right _ (List.mem_of_getElem? (l := wsX0_gather_r6) (i := 6) rfl)))))))))))), (List.forall_mem_cons.mpr ⟨List.mem_cons_of_mem _ (List.mem_append_left _ (List.mem_append_left _ (List.mem_append_left _ (List.mem_append_left _ (List.mem_append_left _ (List.mem_append_left _ (List.mem_append_right _ (List.mem_append_right _ (List.mem_append_right _ (List.mem_append_right _ (List.mem_append_right _ (List.mem_of_getElem? (l := wsX0_gather_r6) (i := 7) rfl)))))))))))), (List.forall_mem_cons.mpr ⟨List.mem_cons_of_mem _ (List.mem_append_left _ (List.mem_append_left _ (List.mem_append_left _ (List.mem_append_left _ (List.mem_append_left _ (List.mem_append_left _ (List.mem_append_right _ (List.mem_append_right _ (List.mem_append_right _ (List.mem_append_right _ (List.mem_append_right _ (List.mem_of_getElem? (l := wsX0_gather_r6) (i := 8) rfl)))))))))))), (List.forall_mem_cons.mpr ⟨List.mem_cons_of_mem _ (List.mem_append_left _ (List.mem_append_left _ (List.mem_append_left _ (List.mem_append_left _ (List.mem_append_left _ (List.mem_append_left _ (List.mem_append_right _ (List.mem_append_right _ (List.mem_append_right _ (List.mem_append_right _ (List.mem_append_right _ (List.mem_of_getElem? (l := wsX0_gather_r6) (i := 9) rfl)))))))))))), (List.forall_mem_cons.mpr ⟨List.mem_cons_of_mem _ (List.mem_append_left _ (List.mem_append_left _ (List.mem_append_left _ (List.mem_append_left _ (List.mem_append_left _ (List.mem_append_left _ (List.mem_append_right _ (List.mem_append_right _ (List.mem_append_right _ (List.mem_append_right _ (List.mem_append_right _ (List.mem_of_getElem? (l := wsX0_gather_r6) (i := 10) rfl)))))))))))), (List.forall_mem_cons.mpr ⟨List.mem_cons_of_mem _ (List.mem_append_left _ (List.mem_append_left _ (List.mem_append_left _ (List.mem_append_left _ (List.mem_append_left _ (List.mem_append_left _ (List.mem_append_right _ (List.mem_append_right _ (List.mem_append_right _ (List.mem_append_right _ (List.mem_append_right _ (List.mem_of_getElem? (l := wsX0_gather_r6) (i := 11) rfl)))))))))))), (List.forall_mem_cons.mpr ⟨List.mem_cons_of_mem _ (List.mem_append_left _ (List.mem_append_left _ (List.mem_append_left _ (List.mem_append_left _ (List.mem_append_left _ (List.mem_append_left _ (List.mem_append_right _ (List.mem_append_right _ (List.mem_append_right _ (List.mem_append_right _ (List.mem_append_right _ (List.mem_of_getElem? (l := wsX0_gather_r6) (i := 12) rfl)))))))))))), (List.forall_mem_cons.mpr ⟨List.mem_cons_of_mem _ (List.mem_append_left _ (List.mem_append_left _ (List.mem_append_left _ (List.mem_append_left _ (List.mem_append_left _ (List.mem_append_left _ (List.mem_append_right _ (List.mem_append_right _ (List.mem_append_right _ (List.mem_append_right _ (List.mem_append_right _ (List.mem_of_getElem? (l := wsX0_gather_r6) (i := 13) rfl)))))))))))), (fun _ h => nomatch h)⟩)⟩)⟩)⟩)⟩)⟩)⟩)⟩)⟩)⟩)⟩)⟩)⟩)⟩)⟩)⟩)⟩)⟩)⟩)⟩)⟩), (fun _ h => List.mem_cons_of_mem _ (List.mem_append_left _ (List.mem_append_left _ (List.mem_append_right _ (h)))))⟩), (fun _ h => List.mem_cons_of_mem _ (List.mem_append_left _ (List.mem_append_left _ (List.mem_append_left _ (List.mem_append_left _ (List.mem_append_left _ (List.mem_append_right _ (h))))))))⟩)⟩) (by decide +kernel)
set_option maxRecDepth 20000 in
theorem gX0_gather_X0_gatherAt : GoodIn wsX0_gather (wsV RX0 44 RX0 yX0_gatherAt wsX0_gatherAt) := goodIn_app (goodIn_of _ (by decide +kernel)) ggX0_gather_X0_gatherAt
theorem kX0_gather_0 : (.fieldLink RX0 15 "RunDesk$Doubts" "doubts" "I" : Cond) ∈ wsX0_gather := List.mem_of_getElem? (i := 1) (by decide +kernel)
theorem qX0_gather_X0 : ∀ w ∈ wsX00, w ∈ wsX0_gather := fun _ h => List.mem_cons_of_mem _ (List.mem_append_left _ (List.mem_append_left _ (List.mem_append_left _ (List.mem_append_left _ (List.mem_append_left _ (List.mem_append_right _ (h)))))))
theorem qX0_gather_X4 : ∀ w ∈ wsX40, w ∈ wsX0_gather := fun _ h => List.mem_cons_of_mem _ (List.mem_append_left _ (List.mem_append_left _ (List.mem_append_left _ (List.mem_append_left _ (List.mem_append_right _ (h))))))
set_option maxHeartbeats 4000000 in
set_option maxRecDepth 100000 in
theorem mX0_gather (l : Launch) (D : va_G) (cB cI cZ : ClassId) (a_t : Nat) (a_p1 : Nat) (a_p2 : Nat) (a_t_codes : Nat) (a_p1_way : Nat) (a_p1_guns : Nat) (a_p1_runners : Nat) (a_p1_guns_ticks : Nat) (a_p1_runners_facts : Nat) (a_p1_runners_splits : Nat) (a_p1_runners_torn : Nat) (a_p1_runners_dropped : Nat) (a_p1_runners_waved : Nat) (a_p1_runners_struck : Nat) (a_p1_runners_strikingOrder : Nat) (a_p1_way_places : Nat) (a_p1_way_bearings : Nat) (a_p1_way_cuts : Nat) (a_p1_way_deaths : Nat) (a_p2_ticks : Nat) (a_p2_places : Nat) (t_doubts : Int32) (t_codes : Nat → Int32) (p1_guns_ticks : Nat → Int32) (p1_runners_entered : Int32) (p1_runners_strikings : Int32) (p1_runners_facts : Nat → Int32) (p1_runners_splits : Nat → Int32) (p1_way_mats : Int32) (p1_way_places : Nat → Int32) (p2_mats : Int32) (p2_least : Int32) (p2_greatest : Int32) (p2_places : Nat → Int32) (p2_ticks : Nat → Int32) (sz : Nat) (N : Nat) (r0 : Int32) (t_doubts' : Int32) (t_codes' : Nat → Int32) (p2_greatest' : Int32) (p2_least' : Int32) (p2_mats' : Int32) (p2_places' : Nat → Int32) (p2_ticks' : Nat → Int32) (h : fX0_gather N t_doubts t_codes p1_guns_ticks p1_runners_entered p1_runners_facts p1_runners_splits p1_way_mats p1_way_places p2_greatest p2_least p2_mats p2_places p2_ticks = some (r0, t_doubts', t_codes', p2_greatest', p2_least', p2_mats', p2_places', p2_ticks')) : Met l yX0_gather wsX0_gather ({ frames := 5, cells := 0, slots := 0, locals := 112 } : Room) (va_Pc [.ref a_t, .ref a_p1, .ref a_p2] (zPre D (zT cB cI cZ) [(a_t, .inr (0, [.ref a_t_codes, .int t_doubts])), (a_t_codes, .inl (cI, 2160, .inl t_codes)), (a_p1, .inr (4, [.ref a_p1_way, .ref a_p1_guns, .ref a_p1_runners])), (a_p1_guns, .inr (2, [.ref a_p1_guns_ticks])), (a_p1_guns_ticks, .inl (cI, 6, .inl p1_guns_ticks)), (a_p1_runners, .inr (6, [.ref a_p1_runners_facts, .ref a_p1_runners_splits, .ref a_p1_runners_torn, .ref a_p1_runners_dropped, .ref a_p1_runners_waved, .ref a_p1_runners_struck, .ref a_p1_runners_strikingOrder, .int p1_runners_entered, .int p1_runners_strikings])), (a_p1_runners_facts, .inl (cI, 360, .inl p1_runners_facts)), (a_p1_runners_splits, .inl (cI, 720, .inl p1_runners_splits)), (a_p1_way, .inr (9, [.ref a_p1_way_places, .ref a_p1_way_bearings, .ref a_p1_way_cuts, .ref a_p1_way_deaths, .int p1_way_mats])), (a_p1_way_places, .inl (cI, 12, .inl p1_way_places)), (a_p2, .inr (8, [.ref a_p2_ticks, .ref a_p2_places, .int p2_mats, .int p2_least, .int p2_greatest])), (a_p2_places, .inl (cI, 12, .inl p2_places)), (a_p2_ticks, .inl (cI, 12, .inl p2_ticks))] sz)) (zQi r0 D (zT cB cI cZ) [(a_t, .inr (0, [.ref a_t_codes, .int t_doubts'])), (a_t_codes, .inl (cI, 2160, .inl t_codes')), (a_p1, .inr (4, [.ref a_p1_way, .ref a_p1_guns, .ref a_p1_runners])), (a_p1_guns, .inr (2, [.ref a_p1_guns_ticks])), (a_p1_guns_ticks, .inl (cI, 6, .inl p1_guns_ticks)), (a_p1_runners, .inr (6, [.ref a_p1_runners_facts, .ref a_p1_runners_splits, .ref a_p1_runners_torn, .ref a_p1_runners_dropped, .ref a_p1_runners_waved, .ref a_p1_runners_struck, .ref a_p1_runners_strikingOrder, .int p1_runners_entered, .int p1_runners_strikings])), (a_p1_runners_facts, .inl (cI, 360, .inl p1_runners_facts)), (a_p1_runners_splits, .inl (cI, 720, .inl p1_runners_splits)), (a_p1_way, .inr (9, [.ref a_p1_way_places, .ref a_p1_way_bearings, .ref a_p1_way_cuts, .ref a_p1_way_deaths, .int p1_way_mats])), (a_p1_way_places, .inl (cI, 12, .inl p1_way_places)), (a_p2, .inr (8, [.ref a_p2_ticks, .ref a_p2_places, .int p2_mats', .int p2_least', .int p2_greatest'])), (a_p2_places, .inl (cI, 12, .inl p2_places')), (a_p2_ticks, .inl (cI, 12, .inl p2_ticks'))] (va_A [(a_t, .inr (0, [.ref a_t_codes, .int t_doubts])), (a_t_codes, .inl (cI, 2160, .inl t_codes)), (a_p1, .inr (4, [.ref a_p1_way, .ref a_p1_guns, .ref a_p1_runners])), (a_p1_guns, .inr (2, [.ref a_p1_guns_ticks])), (a_p1_guns_ticks, .inl (cI, 6, .inl p1_guns_ticks)), (a_p1_runners, .inr (6, [.ref a_p1_runners_facts, .ref a_p1_runners_splits, .ref a_p1_runners_torn, .ref a_p1_runners_dropped, .ref a_p1_runners_waved, .ref a_p1_runners_struck, .ref a_p1_runners_strikingOrder, .int p1_runners_entered, .int p1_runners_strikings])), (a_p1_runners_facts, .inl (cI, 360, .inl p1_runners_facts)), (a_p1_runners_splits, .inl (cI, 720, .inl p1_runners_splits)), (a_p1_way, .inr (9, [.ref a_p1_way_places, .ref a_p1_way_bearings, .ref a_p1_way_cuts, .ref a_p1_way_deaths, .int p1_way_mats])), (a_p1_way_places, .inl (cI, 12, .inl p1_way_places)), (a_p2, .inr (8, [.ref a_p2_ticks, .ref a_p2_places, .int p2_mats, .int p2_least, .int p2_greatest])), (a_p2_places, .inl (cI, 12, .inl p2_places)), (a_p2_ticks, .inl (cI, 12, .inl p2_ticks))] sz)) 0 0 (va_A [(a_t, .inr (0, [.ref a_t_codes, .int t_doubts])), (a_t_codes, .inl (cI, 2160, .inl t_codes)), (a_p1, .inr (4, [.ref a_p1_way, .ref a_p1_guns, .ref a_p1_runners])), (a_p1_guns, .inr (2, [.ref a_p1_guns_ticks])), (a_p1_guns_ticks, .inl (cI, 6, .inl p1_guns_ticks)), (a_p1_runners, .inr (6, [.ref a_p1_runners_facts, .ref a_p1_runners_splits, .ref a_p1_runners_torn, .ref a_p1_runners_dropped, .ref a_p1_runners_waved, .ref a_p1_runners_struck, .ref a_p1_runners_strikingOrder, .int p1_runners_entered, .int p1_runners_strikings])), (a_p1_runners_facts, .inl (cI, 360, .inl p1_runners_facts)), (a_p1_runners_splits, .inl (cI, 720, .inl p1_runners_splits)), (a_p1_way, .inr (9, [.ref a_p1_way_places, .ref a_p1_way_bearings, .ref a_p1_way_cuts, .ref a_p1_way_deaths, .int p1_way_mats])), (a_p1_way_places, .inl (cI, 12, .inl p1_way_places)), (a_p2, .inr (8, [.ref a_p2_ticks, .ref a_p2_places, .int p2_mats, .int p2_least, .int p2_greatest])), (a_p2_places, .inl (cI, 12, .inl p2_places)), (a_p2_ticks, .inl (cI, 12, .inl p2_ticks))] sz) := by
  refine Met.ofW (cc := cX0_gather) (maxL := 5) (ret := (some .int)) (by decide) rfl ?_
  intro p e s m args below meth c s₁ B hml hv
  obtain ⟨rfl, hsz, hP, hK, hN, hZ, hD0⟩ := hv
  have hx := B.exec
  have hb := B.bytes
  have hr := B.returns
  have hts := atoms_spec (ws := wsX0_gather) B.pre
  have hown : s.vm.findClass RX0 = some m.cls := findClass_of_methodNamed B.named
  have hlocks := B.notSynchronized
  subst hsz
  have hD := hD0.self (sz := s.heap.size)
  generalize hAe : va_A [(a_t, .inr (0, [.ref a_t_codes, .int t_doubts])), (a_t_codes, .inl (cI, 2160, .inl t_codes)), (a_p1, .inr (4, [.ref a_p1_way, .ref a_p1_guns, .ref a_p1_runners])), (a_p1_guns, .inr (2, [.ref a_p1_guns_ticks])), (a_p1_guns_ticks, .inl (cI, 6, .inl p1_guns_ticks)), (a_p1_runners, .inr (6, [.ref a_p1_runners_facts, .ref a_p1_runners_splits, .ref a_p1_runners_torn, .ref a_p1_runners_dropped, .ref a_p1_runners_waved, .ref a_p1_runners_struck, .ref a_p1_runners_strikingOrder, .int p1_runners_entered, .int p1_runners_strikings])), (a_p1_runners_facts, .inl (cI, 360, .inl p1_runners_facts)), (a_p1_runners_splits, .inl (cI, 720, .inl p1_runners_splits)), (a_p1_way, .inr (9, [.ref a_p1_way_places, .ref a_p1_way_bearings, .ref a_p1_way_cuts, .ref a_p1_way_deaths, .int p1_way_mats])), (a_p1_way_places, .inl (cI, 12, .inl p1_way_places)), (a_p2, .inr (8, [.ref a_p2_ticks, .ref a_p2_places, .int p2_mats, .int p2_least, .int p2_greatest])), (a_p2_places, .inl (cI, 12, .inl p2_places)), (a_p2_ticks, .inl (cI, 12, .inl p2_ticks))] s.heap.size = A at hD hZ ⊢
  have hA : ∀ q : Nat, s.heap.size ≤ q → A q := fun q h => by rw [← hAe]; exact Or.inr h
  have hS : va_S A s.heap s.heap [] := va_S.rf
  have hl := lv_entry ([.ref a_t, .ref a_p1, .ref a_p2]) (n := 5) (Nat.le_of_ble_eq_true rfl)
  rw [lg_entry_eq]
  generalize (lg_sl ([.ref a_t, .ref a_p1, .ref a_p2]) ++ List.replicate (5 - (lg_sl ([.ref a_t, .ref a_p1, .ref a_p2])).length) Slot.unset).toArray = ls at hl ⊢
  have hl : lv_has ls 5 [(0, .ref a_t), (1, .ref a_p1), (2, .ref a_p2)] := hl
  unfold fX0_gather at h
  refine lv_aload_n hx hb dX0_gather_0 rfl (lv_at hl 0 rfl) ?_
  refine lv_iconst (v := (nI 0)) hx hb dX0_gather_1 rfl ?_
  refine va_put (D := D) (ci := 0) (ty := .int) (C := RX0) (T := TX0) (N := 2) hx hb hts qX0_gather_X0 tyX0 tyX0_ok nmX0 hown hK hP hD hS 0 rfl rfl 1 (by decide) (hts _ kX0_gather_0) (fun _ h9 => h9) rfl (by decide +kernel) rfl (by first | rfl | exact zz_fit) (Nat.le_of_ble_eq_true rfl) dX0_gather_2 (fun H locs hP hD hS => ?_)
  have hP : va_P D vwCl [(a_t, .inr (0, [.ref a_t_codes, .int (nI 0)])), (a_t_codes, .inl (cI, 2160, .inl t_codes)), (a_p1, .inr (4, [.ref a_p1_way, .ref a_p1_guns, .ref a_p1_runners])), (a_p1_guns, .inr (2, [.ref a_p1_guns_ticks])), (a_p1_guns_ticks, .inl (cI, 6, .inl p1_guns_ticks)), (a_p1_runners, .inr (6, [.ref a_p1_runners_facts, .ref a_p1_runners_splits, .ref a_p1_runners_torn, .ref a_p1_runners_dropped, .ref a_p1_runners_waved, .ref a_p1_runners_struck, .ref a_p1_runners_strikingOrder, .int p1_runners_entered, .int p1_runners_strikings])), (a_p1_runners_facts, .inl (cI, 360, .inl p1_runners_facts)), (a_p1_runners_splits, .inl (cI, 720, .inl p1_runners_splits)), (a_p1_way, .inr (9, [.ref a_p1_way_places, .ref a_p1_way_bearings, .ref a_p1_way_cuts, .ref a_p1_way_deaths, .int p1_way_mats])), (a_p1_way_places, .inl (cI, 12, .inl p1_way_places)), (a_p2, .inr (8, [.ref a_p2_ticks, .ref a_p2_places, .int p2_mats, .int p2_least, .int p2_greatest])), (a_p2_places, .inl (cI, 12, .inl p2_places)), (a_p2_ticks, .inl (cI, 12, .inl p2_ticks))] H := hP
  have hD : va_D A [(a_t, .inr (0, [.ref a_t_codes, .int (nI 0)])), (a_t_codes, .inl (cI, 2160, .inl t_codes)), (a_p1, .inr (4, [.ref a_p1_way, .ref a_p1_guns, .ref a_p1_runners])), (a_p1_guns, .inr (2, [.ref a_p1_guns_ticks])), (a_p1_guns_ticks, .inl (cI, 6, .inl p1_guns_ticks)), (a_p1_runners, .inr (6, [.ref a_p1_runners_facts, .ref a_p1_runners_splits, .ref a_p1_runners_torn, .ref a_p1_runners_dropped, .ref a_p1_runners_waved, .ref a_p1_runners_struck, .ref a_p1_runners_strikingOrder, .int p1_runners_entered, .int p1_runners_strikings])), (a_p1_runners_facts, .inl (cI, 360, .inl p1_runners_facts)), (a_p1_runners_splits, .inl (cI, 720, .inl p1_runners_splits)), (a_p1_way, .inr (9, [.ref a_p1_way_places, .ref a_p1_way_bearings, .ref a_p1_way_cuts, .ref a_p1_way_deaths, .int p1_way_mats])), (a_p1_way_places, .inl (cI, 12, .inl p1_way_places)), (a_p2, .inr (8, [.ref a_p2_ticks, .ref a_p2_places, .int p2_mats, .int p2_least, .int p2_greatest])), (a_p2_places, .inl (cI, 12, .inl p2_places)), (a_p2_ticks, .inl (cI, 12, .inl p2_ticks))] := hD
  refine lv_iconst (v := (nI 0)) hx hb dX0_gather_5 rfl ?_
  refine lv_istore_n (lv' := [(3, .int (nI 0)), (0, .ref a_t), (1, .ref a_p1), (2, .ref a_p2)]) hx hb dX0_gather_6 rfl hl (by decide) rfl (fun ls hl => ?_)
  have X7_59 : ∀ (v3_7 : Int32) (t_doubts_l7 : Int32) (t_codes_l7 : Nat → Int32) (p2_mats_l7 : Int32) (p2_least_l7 : Int32) (p2_greatest_l7 : Int32) (p2_places_l7 : Nat → Int32) (p2_ticks_l7 : Nat → Int32) (H : Heap) (locs : List Loc) (ls : Array Slot), some (t_doubts_l7, t_doubts_l7, t_codes_l7, p2_greatest_l7, p2_least_l7, p2_mats_l7, p2_places_l7, p2_ticks_l7) = some (r0, t_doubts', t_codes', p2_greatest', p2_least', p2_mats', p2_places', p2_ticks') → va_P D vwCl [(a_t, .inr (0, [.ref a_t_codes, .int t_doubts_l7])), (a_t_codes, .inl (cI, 2160, .inl t_codes_l7)), (a_p1, .inr (4, [.ref a_p1_way, .ref a_p1_guns, .ref a_p1_runners])), (a_p1_guns, .inr (2, [.ref a_p1_guns_ticks])), (a_p1_guns_ticks, .inl (cI, 6, .inl p1_guns_ticks)), (a_p1_runners, .inr (6, [.ref a_p1_runners_facts, .ref a_p1_runners_splits, .ref a_p1_runners_torn, .ref a_p1_runners_dropped, .ref a_p1_runners_waved, .ref a_p1_runners_struck, .ref a_p1_runners_strikingOrder, .int p1_runners_entered, .int p1_runners_strikings])), (a_p1_runners_facts, .inl (cI, 360, .inl p1_runners_facts)), (a_p1_runners_splits, .inl (cI, 720, .inl p1_runners_splits)), (a_p1_way, .inr (9, [.ref a_p1_way_places, .ref a_p1_way_bearings, .ref a_p1_way_cuts, .ref a_p1_way_deaths, .int p1_way_mats])), (a_p1_way_places, .inl (cI, 12, .inl p1_way_places)), (a_p2, .inr (8, [.ref a_p2_ticks, .ref a_p2_places, .int p2_mats_l7, .int p2_least_l7, .int p2_greatest_l7])), (a_p2_places, .inl (cI, 12, .inl p2_places_l7)), (a_p2_ticks, .inl (cI, 12, .inl p2_ticks_l7))] H → va_D A [(a_t, .inr (0, [.ref a_t_codes, .int t_doubts_l7])), (a_t_codes, .inl (cI, 2160, .inl t_codes_l7)), (a_p1, .inr (4, [.ref a_p1_way, .ref a_p1_guns, .ref a_p1_runners])), (a_p1_guns, .inr (2, [.ref a_p1_guns_ticks])), (a_p1_guns_ticks, .inl (cI, 6, .inl p1_guns_ticks)), (a_p1_runners, .inr (6, [.ref a_p1_runners_facts, .ref a_p1_runners_splits, .ref a_p1_runners_torn, .ref a_p1_runners_dropped, .ref a_p1_runners_waved, .ref a_p1_runners_struck, .ref a_p1_runners_strikingOrder, .int p1_runners_entered, .int p1_runners_strikings])), (a_p1_runners_facts, .inl (cI, 360, .inl p1_runners_facts)), (a_p1_runners_splits, .inl (cI, 720, .inl p1_runners_splits)), (a_p1_way, .inr (9, [.ref a_p1_way_places, .ref a_p1_way_bearings, .ref a_p1_way_cuts, .ref a_p1_way_deaths, .int p1_way_mats])), (a_p1_way_places, .inl (cI, 12, .inl p1_way_places)), (a_p2, .inr (8, [.ref a_p2_ticks, .ref a_p2_places, .int p2_mats_l7, .int p2_least_l7, .int p2_greatest_l7])), (a_p2_places, .inl (cI, 12, .inl p2_places_l7)), (a_p2_ticks, .inl (cI, 12, .inl p2_ticks_l7))] → va_S A s.heap H locs → lv_has ls 5 [(3, .int v3_7), (0, .ref a_t), (1, .ref a_p1), (2, .ref a_p2)] → W p l e (headSpec wsX0_gather ({ frames := 5, cells := 0, slots := 0, locals := 112 } : Room)).room s m #[Value.ref a_t, Value.ref a_p1, Value.ref a_p2] below meth c H locs 0 0 (MQ below (zQi r0 D (zT cB cI cZ) [(a_t, .inr (0, [.ref a_t_codes, .int t_doubts'])), (a_t_codes, .inl (cI, 2160, .inl t_codes')), (a_p1, .inr (4, [.ref a_p1_way, .ref a_p1_guns, .ref a_p1_runners])), (a_p1_guns, .inr (2, [.ref a_p1_guns_ticks])), (a_p1_guns_ticks, .inl (cI, 6, .inl p1_guns_ticks)), (a_p1_runners, .inr (6, [.ref a_p1_runners_facts, .ref a_p1_runners_splits, .ref a_p1_runners_torn, .ref a_p1_runners_dropped, .ref a_p1_runners_waved, .ref a_p1_runners_struck, .ref a_p1_runners_strikingOrder, .int p1_runners_entered, .int p1_runners_strikings])), (a_p1_runners_facts, .inl (cI, 360, .inl p1_runners_facts)), (a_p1_runners_splits, .inl (cI, 720, .inl p1_runners_splits)), (a_p1_way, .inr (9, [.ref a_p1_way_places, .ref a_p1_way_bearings, .ref a_p1_way_cuts, .ref a_p1_way_deaths, .int p1_way_mats])), (a_p1_way_places, .inl (cI, 12, .inl p1_way_places)), (a_p2, .inr (8, [.ref a_p2_ticks, .ref a_p2_places, .int p2_mats', .int p2_least', .int p2_greatest'])), (a_p2_places, .inl (cI, 12, .inl p2_places')), (a_p2_ticks, .inl (cI, 12, .inl p2_ticks'))] A) #[Value.ref a_t, Value.ref a_p1, Value.ref a_p2] s 0 0 A) (F0 m 59 ls []) := by
    intro v3_7 t_doubts_l7 t_codes_l7 p2_mats_l7 p2_least_l7 p2_greatest_l7 p2_places_l7 p2_ticks_l7 H locs ls h hP hD hS hl
    refine lv_aload_n hx hb dX0_gather_59 rfl (lv_at hl 1 rfl) ?_
    refine va_get (D := D) (ci := 0) (C := RX0) (T := TX0) (N := 2) hx hb hts qX0_gather_X0 hown hK hP 0 rfl rfl 1 (by decide) (hts _ kX0_gather_0) (fun _ h9 => h9) rfl dX0_gather_60 ?_
    obtain ⟨j0_, g_⟩ := Prod.mk.inj (Option.some.inj h)
    obtain ⟨j1_, g_⟩ := Prod.mk.inj g_
    obtain ⟨j2_, g_⟩ := Prod.mk.inj g_
    obtain ⟨j3_, g_⟩ := Prod.mk.inj g_
    obtain ⟨j4_, g_⟩ := Prod.mk.inj g_
    obtain ⟨j5_, g_⟩ := Prod.mk.inj g_
    obtain ⟨j6_, g_⟩ := Prod.mk.inj g_
    have j7_ := g_
    subst j0_
    subst j1_
    subst j2_
    subst j3_
    subst j4_
    subst j5_
    subst j6_
    subst j7_
    exact W.iret (v := t_doubts_l7) hx hb hr (fun t ht hW => ⟨⟨_, (), rfl, rfl, zPost.of hP hD hK ht hW [0, 1, 2, 3, 4, 5, 6, 7, 8, 9, 10, 11, 12] rfl rfl rfl⟩, hS.F ht⟩) hS.2.2 dX0_gather_63
  have L7 : ∀ (n : Nat) (v3_7 : Int32) (t_doubts_l7 : Int32) (t_codes_l7 : Nat → Int32) (p2_mats_l7 : Int32) (p2_least_l7 : Int32) (p2_greatest_l7 : Int32) (p2_places_l7 : Nat → Int32) (p2_ticks_l7 : Nat → Int32) (H : Heap) (locs : List Loc) (ls : Array Slot), fX0_gather_L7 N p1_guns_ticks p1_runners_entered p1_runners_facts p1_runners_splits p1_way_mats p1_way_places (fun (v3_7 : Int32) (t_doubts_l7 : Int32) (t_codes_l7 : Nat → Int32) (p2_mats_l7 : Int32) (p2_least_l7 : Int32) (p2_greatest_l7 : Int32) (p2_places_l7 : Nat → Int32) (p2_ticks_l7 : Nat → Int32) => some (t_doubts_l7, t_doubts_l7, t_codes_l7, p2_greatest_l7, p2_least_l7, p2_mats_l7, p2_places_l7, p2_ticks_l7)) n v3_7 t_doubts_l7 t_codes_l7 p2_mats_l7 p2_least_l7 p2_greatest_l7 p2_places_l7 p2_ticks_l7 = some (r0, t_doubts', t_codes', p2_greatest', p2_least', p2_mats', p2_places', p2_ticks') → va_P D vwCl [(a_t, .inr (0, [.ref a_t_codes, .int t_doubts_l7])), (a_t_codes, .inl (cI, 2160, .inl t_codes_l7)), (a_p1, .inr (4, [.ref a_p1_way, .ref a_p1_guns, .ref a_p1_runners])), (a_p1_guns, .inr (2, [.ref a_p1_guns_ticks])), (a_p1_guns_ticks, .inl (cI, 6, .inl p1_guns_ticks)), (a_p1_runners, .inr (6, [.ref a_p1_runners_facts, .ref a_p1_runners_splits, .ref a_p1_runners_torn, .ref a_p1_runners_dropped, .ref a_p1_runners_waved, .ref a_p1_runners_struck, .ref a_p1_runners_strikingOrder, .int p1_runners_entered, .int p1_runners_strikings])), (a_p1_runners_facts, .inl (cI, 360, .inl p1_runners_facts)), (a_p1_runners_splits, .inl (cI, 720, .inl p1_runners_splits)), (a_p1_way, .inr (9, [.ref a_p1_way_places, .ref a_p1_way_bearings, .ref a_p1_way_cuts, .ref a_p1_way_deaths, .int p1_way_mats])), (a_p1_way_places, .inl (cI, 12, .inl p1_way_places)), (a_p2, .inr (8, [.ref a_p2_ticks, .ref a_p2_places, .int p2_mats_l7, .int p2_least_l7, .int p2_greatest_l7])), (a_p2_places, .inl (cI, 12, .inl p2_places_l7)), (a_p2_ticks, .inl (cI, 12, .inl p2_ticks_l7))] H → va_D A [(a_t, .inr (0, [.ref a_t_codes, .int t_doubts_l7])), (a_t_codes, .inl (cI, 2160, .inl t_codes_l7)), (a_p1, .inr (4, [.ref a_p1_way, .ref a_p1_guns, .ref a_p1_runners])), (a_p1_guns, .inr (2, [.ref a_p1_guns_ticks])), (a_p1_guns_ticks, .inl (cI, 6, .inl p1_guns_ticks)), (a_p1_runners, .inr (6, [.ref a_p1_runners_facts, .ref a_p1_runners_splits, .ref a_p1_runners_torn, .ref a_p1_runners_dropped, .ref a_p1_runners_waved, .ref a_p1_runners_struck, .ref a_p1_runners_strikingOrder, .int p1_runners_entered, .int p1_runners_strikings])), (a_p1_runners_facts, .inl (cI, 360, .inl p1_runners_facts)), (a_p1_runners_splits, .inl (cI, 720, .inl p1_runners_splits)), (a_p1_way, .inr (9, [.ref a_p1_way_places, .ref a_p1_way_bearings, .ref a_p1_way_cuts, .ref a_p1_way_deaths, .int p1_way_mats])), (a_p1_way_places, .inl (cI, 12, .inl p1_way_places)), (a_p2, .inr (8, [.ref a_p2_ticks, .ref a_p2_places, .int p2_mats_l7, .int p2_least_l7, .int p2_greatest_l7])), (a_p2_places, .inl (cI, 12, .inl p2_places_l7)), (a_p2_ticks, .inl (cI, 12, .inl p2_ticks_l7))] → va_S A s.heap H locs → lv_has ls 5 [(3, .int v3_7), (0, .ref a_t), (1, .ref a_p1), (2, .ref a_p2)] → W p l e (headSpec wsX0_gather ({ frames := 5, cells := 0, slots := 0, locals := 112 } : Room)).room s m #[Value.ref a_t, Value.ref a_p1, Value.ref a_p2] below meth c H locs 0 0 (MQ below (zQi r0 D (zT cB cI cZ) [(a_t, .inr (0, [.ref a_t_codes, .int t_doubts'])), (a_t_codes, .inl (cI, 2160, .inl t_codes')), (a_p1, .inr (4, [.ref a_p1_way, .ref a_p1_guns, .ref a_p1_runners])), (a_p1_guns, .inr (2, [.ref a_p1_guns_ticks])), (a_p1_guns_ticks, .inl (cI, 6, .inl p1_guns_ticks)), (a_p1_runners, .inr (6, [.ref a_p1_runners_facts, .ref a_p1_runners_splits, .ref a_p1_runners_torn, .ref a_p1_runners_dropped, .ref a_p1_runners_waved, .ref a_p1_runners_struck, .ref a_p1_runners_strikingOrder, .int p1_runners_entered, .int p1_runners_strikings])), (a_p1_runners_facts, .inl (cI, 360, .inl p1_runners_facts)), (a_p1_runners_splits, .inl (cI, 720, .inl p1_runners_splits)), (a_p1_way, .inr (9, [.ref a_p1_way_places, .ref a_p1_way_bearings, .ref a_p1_way_cuts, .ref a_p1_way_deaths, .int p1_way_mats])), (a_p1_way_places, .inl (cI, 12, .inl p1_way_places)), (a_p2, .inr (8, [.ref a_p2_ticks, .ref a_p2_places, .int p2_mats', .int p2_least', .int p2_greatest'])), (a_p2_places, .inl (cI, 12, .inl p2_places')), (a_p2_ticks, .inl (cI, 12, .inl p2_ticks'))] A) #[Value.ref a_t, Value.ref a_p1, Value.ref a_p2] s 0 0 A) (F0 m 7 ls []) := by
    intro n
    induction n with
    | zero => intro _ _ _ _ _ _ _ _ H locs ls h hP hD hS hl; cases h
    | succ n7 ih7 =>
      intro v3_7 t_doubts_l7 t_codes_l7 p2_mats_l7 p2_least_l7 p2_greatest_l7 p2_places_l7 p2_ticks_l7 H locs ls h hP hD hS hl
      rw [fX0_gather_L7.eq_2] at h
      refine lv_iload_n hx hb dX0_gather_7 rfl (lv_at hl 0 rfl) ?_
      refine lv_aload_n hx hb dX0_gather_8 rfl (lv_at hl 2 rfl) ?_
      refine va_getN (host := "RunDesk") (D := D) (ci := 4) (C := RX4) (T := TX4) (N := 3) hx hb hts qX0_gather_X4 hown hK hP 2 rfl rfl 2 (by decide) (va_Nw.use rfl (hN _ (List.mem_of_getElem? (i := 7) rfl))) (fun _ h9 => h9) rfl dX0_gather_9 ?_
      obtain ⟨r1, e2, h⟩ := zz_b h
      refine zVi (As := []) (rest := [.int v3_7]) (C := RX6) (wr := [(a_t, .inr (0, [.ref a_t_codes, .int t_doubts_l7])), (a_t_codes, .inl (cI, 2160, .inl t_codes_l7)), (a_p1, .inr (4, [.ref a_p1_way, .ref a_p1_guns, .ref a_p1_runners])), (a_p1_guns, .inr (2, [.ref a_p1_guns_ticks])), (a_p1_guns_ticks, .inl (cI, 6, .inl p1_guns_ticks)), (a_p1_runners_facts, .inl (cI, 360, .inl p1_runners_facts)), (a_p1_runners_splits, .inl (cI, 720, .inl p1_runners_splits)), (a_p1_way, .inr (9, [.ref a_p1_way_places, .ref a_p1_way_bearings, .ref a_p1_way_cuts, .ref a_p1_way_deaths, .int p1_way_mats])), (a_p1_way_places, .inl (cI, 12, .inl p1_way_places)), (a_p2, .inr (8, [.ref a_p2_ticks, .ref a_p2_places, .int p2_mats_l7, .int p2_least_l7, .int p2_greatest_l7])), (a_p2_places, .inl (cI, 12, .inl p2_places_l7)), (a_p2_ticks, .inl (cI, 12, .inl p2_ticks_l7))]) [5] [0, 1, 2, 3, 4, 6, 7, 8, 9, 10, 11, 12] 0 ⟨hx, hb, hml, hown, hts⟩ (mX6_size l D cB cI cZ a_p1_runners a_p1_runners_facts a_p1_runners_splits a_p1_runners_torn a_p1_runners_dropped a_p1_runners_waved a_p1_runners_struck a_p1_runners_strikingOrder p1_runners_entered p1_runners_strikings H.size r1 e2) (cwV 0 hts gX0_gather_X6_size rfl rfl rfl (by decide +kernel) ⟨Nat.le_of_ble_eq_true rfl, Nat.le_of_ble_eq_true rfl⟩) hK hN hZ hP hD hS hA rfl rfl rfl rfl rfl rfl rfl rfl hl.1 rfl (lv_room (Nat.le_of_ble_eq_true rfl)) dX0_gather_12 ⟨Nat.le_of_ble_eq_true rfl, Nat.le_of_ble_eq_true rfl⟩ (fun H locs hP hD hS => ?_)
      have hP : va_P D vwCl [(a_t, .inr (0, [.ref a_t_codes, .int t_doubts_l7])), (a_t_codes, .inl (cI, 2160, .inl t_codes_l7)), (a_p1, .inr (4, [.ref a_p1_way, .ref a_p1_guns, .ref a_p1_runners])), (a_p1_guns, .inr (2, [.ref a_p1_guns_ticks])), (a_p1_guns_ticks, .inl (cI, 6, .inl p1_guns_ticks)), (a_p1_runners_facts, .inl (cI, 360, .inl p1_runners_facts)), (a_p1_runners_splits, .inl (cI, 720, .inl p1_runners_splits)), (a_p1_way, .inr (9, [.ref a_p1_way_places, .ref a_p1_way_bearings, .ref a_p1_way_cuts, .ref a_p1_way_deaths, .int p1_way_mats])), (a_p1_way_places, .inl (cI, 12, .inl p1_way_places)), (a_p2, .inr (8, [.ref a_p2_ticks, .ref a_p2_places, .int p2_mats_l7, .int p2_least_l7, .int p2_greatest_l7])), (a_p2_places, .inl (cI, 12, .inl p2_places_l7)), (a_p2_ticks, .inl (cI, 12, .inl p2_ticks_l7)), (a_p1_runners, .inr (6, [.ref a_p1_runners_facts, .ref a_p1_runners_splits, .ref a_p1_runners_torn, .ref a_p1_runners_dropped, .ref a_p1_runners_waved, .ref a_p1_runners_struck, .ref a_p1_runners_strikingOrder, .int p1_runners_entered, .int p1_runners_strikings]))] H := hP
      have hD : va_D A [(a_t, .inr (0, [.ref a_t_codes, .int t_doubts_l7])), (a_t_codes, .inl (cI, 2160, .inl t_codes_l7)), (a_p1, .inr (4, [.ref a_p1_way, .ref a_p1_guns, .ref a_p1_runners])), (a_p1_guns, .inr (2, [.ref a_p1_guns_ticks])), (a_p1_guns_ticks, .inl (cI, 6, .inl p1_guns_ticks)), (a_p1_runners_facts, .inl (cI, 360, .inl p1_runners_facts)), (a_p1_runners_splits, .inl (cI, 720, .inl p1_runners_splits)), (a_p1_way, .inr (9, [.ref a_p1_way_places, .ref a_p1_way_bearings, .ref a_p1_way_cuts, .ref a_p1_way_deaths, .int p1_way_mats])), (a_p1_way_places, .inl (cI, 12, .inl p1_way_places)), (a_p2, .inr (8, [.ref a_p2_ticks, .ref a_p2_places, .int p2_mats_l7, .int p2_least_l7, .int p2_greatest_l7])), (a_p2_places, .inl (cI, 12, .inl p2_places_l7)), (a_p2_ticks, .inl (cI, 12, .inl p2_ticks_l7)), (a_p1_runners, .inr (6, [.ref a_p1_runners_facts, .ref a_p1_runners_splits, .ref a_p1_runners_torn, .ref a_p1_runners_dropped, .ref a_p1_runners_waved, .ref a_p1_runners_struck, .ref a_p1_runners_strikingOrder, .int p1_runners_entered, .int p1_runners_strikings]))] := hD
      refine lv_icmp_ge (tgt := 59) hx hb dX0_gather_15 (by decide) (fun c3 => ?_) (fun c3 => ?_)
      · have h := zz_t h c3
        exact X7_59 v3_7 t_doubts_l7 t_codes_l7 p2_mats_l7 p2_least_l7 p2_greatest_l7 p2_places_l7 p2_ticks_l7 _ _ _ h (hP.sub [0, 1, 2, 3, 4, 12, 5, 6, 7, 8, 9, 10, 11] rfl) (hD.sub [0, 1, 2, 3, 4, 12, 5, 6, 7, 8, 9, 10, 11] rfl rfl) hS (lv_sub hl [0, 1, 2, 3] rfl)
      · have h := zz_f h c3
        refine lv_aload_n hx hb dX0_gather_18 rfl (lv_at hl 3 rfl) ?_
        refine lv_aload_n hx hb dX0_gather_19 rfl (lv_at hl 2 rfl) ?_
        refine lv_iload_n hx hb dX0_gather_20 rfl (lv_at hl 0 rfl) ?_
        obtain ⟨⟨p2_greatest_r4, p2_least_r5, p2_mats_r6, p2_places_r7, p2_ticks_r8⟩, e9, h⟩ := zz_b h
        dsimp only at h
        refine zVv (As := [.ref a_p1, .int v3_7]) (rest := []) (C := RX8) (wr := [(a_t, .inr (0, [.ref a_t_codes, .int t_doubts_l7])), (a_t_codes, .inl (cI, 2160, .inl t_codes_l7))]) [9, 10, 11, 2, 3, 4, 12, 5, 6, 7, 8] [0, 1] 0 ⟨hx, hb, hml, hown, hts⟩ (mX8_follow l D cB cI cZ a_p2 a_p1 a_p2_ticks a_p2_places a_p1_way a_p1_guns a_p1_runners a_p1_guns_ticks a_p1_runners_facts a_p1_runners_splits a_p1_runners_torn a_p1_runners_dropped a_p1_runners_waved a_p1_runners_struck a_p1_runners_strikingOrder a_p1_way_places a_p1_way_bearings a_p1_way_cuts a_p1_way_deaths p2_mats_l7 p2_least_l7 p2_greatest_l7 p2_places_l7 p2_ticks_l7 p1_guns_ticks p1_runners_entered p1_runners_strikings p1_runners_facts p1_runners_splits p1_way_mats p1_way_places H.size v3_7 N p2_greatest_r4 p2_least_r5 p2_mats_r6 p2_places_r7 p2_ticks_r8 e9) (cwV 2 hts gX0_gather_X8_follow rfl rfl rfl (by decide +kernel) ⟨Nat.le_of_ble_eq_true rfl, Nat.le_of_ble_eq_true rfl⟩) hK hN hZ hP hD hS hA rfl rfl rfl rfl rfl rfl rfl rfl hl.1 rfl (lv_room (Nat.le_of_ble_eq_true rfl)) dX0_gather_21 ⟨Nat.le_of_ble_eq_true rfl, Nat.le_of_ble_eq_true rfl⟩ (fun H locs hP hD hS => ?_)
        have hP : va_P D vwCl [(a_t, .inr (0, [.ref a_t_codes, .int t_doubts_l7])), (a_t_codes, .inl (cI, 2160, .inl t_codes_l7)), (a_p2, .inr (8, [.ref a_p2_ticks, .ref a_p2_places, .int p2_mats_r6, .int p2_least_r5, .int p2_greatest_r4])), (a_p2_places, .inl (cI, 12, .inl p2_places_r7)), (a_p2_ticks, .inl (cI, 12, .inl p2_ticks_r8)), (a_p1, .inr (4, [.ref a_p1_way, .ref a_p1_guns, .ref a_p1_runners])), (a_p1_guns, .inr (2, [.ref a_p1_guns_ticks])), (a_p1_guns_ticks, .inl (cI, 6, .inl p1_guns_ticks)), (a_p1_runners, .inr (6, [.ref a_p1_runners_facts, .ref a_p1_runners_splits, .ref a_p1_runners_torn, .ref a_p1_runners_dropped, .ref a_p1_runners_waved, .ref a_p1_runners_struck, .ref a_p1_runners_strikingOrder, .int p1_runners_entered, .int p1_runners_strikings])), (a_p1_runners_facts, .inl (cI, 360, .inl p1_runners_facts)), (a_p1_runners_splits, .inl (cI, 720, .inl p1_runners_splits)), (a_p1_way, .inr (9, [.ref a_p1_way_places, .ref a_p1_way_bearings, .ref a_p1_way_cuts, .ref a_p1_way_deaths, .int p1_way_mats])), (a_p1_way_places, .inl (cI, 12, .inl p1_way_places))] H := hP
        have hD : va_D A [(a_t, .inr (0, [.ref a_t_codes, .int t_doubts_l7])), (a_t_codes, .inl (cI, 2160, .inl t_codes_l7)), (a_p2, .inr (8, [.ref a_p2_ticks, .ref a_p2_places, .int p2_mats_r6, .int p2_least_r5, .int p2_greatest_r4])), (a_p2_places, .inl (cI, 12, .inl p2_places_r7)), (a_p2_ticks, .inl (cI, 12, .inl p2_ticks_r8)), (a_p1, .inr (4, [.ref a_p1_way, .ref a_p1_guns, .ref a_p1_runners])), (a_p1_guns, .inr (2, [.ref a_p1_guns_ticks])), (a_p1_guns_ticks, .inl (cI, 6, .inl p1_guns_ticks)), (a_p1_runners, .inr (6, [.ref a_p1_runners_facts, .ref a_p1_runners_splits, .ref a_p1_runners_torn, .ref a_p1_runners_dropped, .ref a_p1_runners_waved, .ref a_p1_runners_struck, .ref a_p1_runners_strikingOrder, .int p1_runners_entered, .int p1_runners_strikings])), (a_p1_runners_facts, .inl (cI, 360, .inl p1_runners_facts)), (a_p1_runners_splits, .inl (cI, 720, .inl p1_runners_splits)), (a_p1_way, .inr (9, [.ref a_p1_way_places, .ref a_p1_way_bearings, .ref a_p1_way_cuts, .ref a_p1_way_deaths, .int p1_way_mats])), (a_p1_way_places, .inl (cI, 12, .inl p1_way_places))] := hD
        refine lv_iconst (v := (nI 0)) hx hb dX0_gather_24 rfl ?_
        refine lv_istore (lv' := [(4, .int (nI 0)), (3, .int v3_7), (0, .ref a_t), (1, .ref a_p1), (2, .ref a_p2)]) hx hb dX0_gather_25 hl (by decide) rfl (fun ls hl => ?_)
        have X27_53 : ∀ (v4_27 : Int32) (t_doubts_l27 : Int32) (t_codes_l27 : Nat → Int32) (H : Heap) (locs : List Loc) (ls : Array Slot), (fX0_gather_L7 N p1_guns_ticks p1_runners_entered p1_runners_facts p1_runners_splits p1_way_mats p1_way_places (fun (v3_7 : Int32) (t_doubts_l7 : Int32) (t_codes_l7 : Nat → Int32) (p2_mats_l7 : Int32) (p2_least_l7 : Int32) (p2_greatest_l7 : Int32) (p2_places_l7 : Nat → Int32) (p2_ticks_l7 : Nat → Int32) => some (t_doubts_l7, t_doubts_l7, t_codes_l7, p2_greatest_l7, p2_least_l7, p2_mats_l7, p2_places_l7, p2_ticks_l7)) n7 (v3_7 + (nI 1)) t_doubts_l27 t_codes_l27 p2_mats_r6 p2_least_r5 p2_greatest_r4 p2_places_r7 p2_ticks_r8) = some (r0, t_doubts', t_codes', p2_greatest', p2_least', p2_mats', p2_places', p2_ticks') → va_P D vwCl [(a_t, .inr (0, [.ref a_t_codes, .int t_doubts_l27])), (a_t_codes, .inl (cI, 2160, .inl t_codes_l27)), (a_p2, .inr (8, [.ref a_p2_ticks, .ref a_p2_places, .int p2_mats_r6, .int p2_least_r5, .int p2_greatest_r4])), (a_p2_places, .inl (cI, 12, .inl p2_places_r7)), (a_p2_ticks, .inl (cI, 12, .inl p2_ticks_r8)), (a_p1, .inr (4, [.ref a_p1_way, .ref a_p1_guns, .ref a_p1_runners])), (a_p1_guns, .inr (2, [.ref a_p1_guns_ticks])), (a_p1_guns_ticks, .inl (cI, 6, .inl p1_guns_ticks)), (a_p1_runners, .inr (6, [.ref a_p1_runners_facts, .ref a_p1_runners_splits, .ref a_p1_runners_torn, .ref a_p1_runners_dropped, .ref a_p1_runners_waved, .ref a_p1_runners_struck, .ref a_p1_runners_strikingOrder, .int p1_runners_entered, .int p1_runners_strikings])), (a_p1_runners_facts, .inl (cI, 360, .inl p1_runners_facts)), (a_p1_runners_splits, .inl (cI, 720, .inl p1_runners_splits)), (a_p1_way, .inr (9, [.ref a_p1_way_places, .ref a_p1_way_bearings, .ref a_p1_way_cuts, .ref a_p1_way_deaths, .int p1_way_mats])), (a_p1_way_places, .inl (cI, 12, .inl p1_way_places))] H → va_D A [(a_t, .inr (0, [.ref a_t_codes, .int t_doubts_l27])), (a_t_codes, .inl (cI, 2160, .inl t_codes_l27)), (a_p2, .inr (8, [.ref a_p2_ticks, .ref a_p2_places, .int p2_mats_r6, .int p2_least_r5, .int p2_greatest_r4])), (a_p2_places, .inl (cI, 12, .inl p2_places_r7)), (a_p2_ticks, .inl (cI, 12, .inl p2_ticks_r8)), (a_p1, .inr (4, [.ref a_p1_way, .ref a_p1_guns, .ref a_p1_runners])), (a_p1_guns, .inr (2, [.ref a_p1_guns_ticks])), (a_p1_guns_ticks, .inl (cI, 6, .inl p1_guns_ticks)), (a_p1_runners, .inr (6, [.ref a_p1_runners_facts, .ref a_p1_runners_splits, .ref a_p1_runners_torn, .ref a_p1_runners_dropped, .ref a_p1_runners_waved, .ref a_p1_runners_struck, .ref a_p1_runners_strikingOrder, .int p1_runners_entered, .int p1_runners_strikings])), (a_p1_runners_facts, .inl (cI, 360, .inl p1_runners_facts)), (a_p1_runners_splits, .inl (cI, 720, .inl p1_runners_splits)), (a_p1_way, .inr (9, [.ref a_p1_way_places, .ref a_p1_way_bearings, .ref a_p1_way_cuts, .ref a_p1_way_deaths, .int p1_way_mats])), (a_p1_way_places, .inl (cI, 12, .inl p1_way_places))] → va_S A s.heap H locs → lv_has ls 5 [(4, .int v4_27), (3, .int v3_7), (0, .ref a_t), (1, .ref a_p1), (2, .ref a_p2)] → W p l e (headSpec wsX0_gather ({ frames := 5, cells := 0, slots := 0, locals := 112 } : Room)).room s m #[Value.ref a_t, Value.ref a_p1, Value.ref a_p2] below meth c H locs 0 0 (MQ below (zQi r0 D (zT cB cI cZ) [(a_t, .inr (0, [.ref a_t_codes, .int t_doubts'])), (a_t_codes, .inl (cI, 2160, .inl t_codes')), (a_p1, .inr (4, [.ref a_p1_way, .ref a_p1_guns, .ref a_p1_runners])), (a_p1_guns, .inr (2, [.ref a_p1_guns_ticks])), (a_p1_guns_ticks, .inl (cI, 6, .inl p1_guns_ticks)), (a_p1_runners, .inr (6, [.ref a_p1_runners_facts, .ref a_p1_runners_splits, .ref a_p1_runners_torn, .ref a_p1_runners_dropped, .ref a_p1_runners_waved, .ref a_p1_runners_struck, .ref a_p1_runners_strikingOrder, .int p1_runners_entered, .int p1_runners_strikings])), (a_p1_runners_facts, .inl (cI, 360, .inl p1_runners_facts)), (a_p1_runners_splits, .inl (cI, 720, .inl p1_runners_splits)), (a_p1_way, .inr (9, [.ref a_p1_way_places, .ref a_p1_way_bearings, .ref a_p1_way_cuts, .ref a_p1_way_deaths, .int p1_way_mats])), (a_p1_way_places, .inl (cI, 12, .inl p1_way_places)), (a_p2, .inr (8, [.ref a_p2_ticks, .ref a_p2_places, .int p2_mats', .int p2_least', .int p2_greatest'])), (a_p2_places, .inl (cI, 12, .inl p2_places')), (a_p2_ticks, .inl (cI, 12, .inl p2_ticks'))] A) #[Value.ref a_t, Value.ref a_p1, Value.ref a_p2] s 0 0 A) (F0 m 53 ls []) := by
          intro v4_27 t_doubts_l27 t_codes_l27 H locs ls h hP hD hS hl
          refine lv_iinc (v := (v3_7 + (nI 1))) (lv' := [(3, .int (v3_7 + (nI 1))), (4, .int v4_27), (0, .ref a_t), (1, .ref a_p1), (2, .ref a_p2)]) hx hb dX0_gather_53 hl (k := 1) rfl rfl (by decide) rfl (fun ls hl => ?_)
          refine lv_goto (tgt := 7) hx hb dX0_gather_56 (by decide) ?_
          exact ih7 (v3_7 + (nI 1)) t_doubts_l27 t_codes_l27 p2_mats_r6 p2_least_r5 p2_greatest_r4 p2_places_r7 p2_ticks_r8 _ _ _ h (hP.sub [0, 1, 5, 6, 7, 8, 9, 10, 11, 12, 2, 3, 4] rfl) (hD.sub [0, 1, 5, 6, 7, 8, 9, 10, 11, 12, 2, 3, 4] rfl rfl) hS (lv_sub hl [0, 2, 3, 4] rfl)
        have L27 : ∀ (n : Nat) (v4_27 : Int32) (t_doubts_l27 : Int32) (t_codes_l27 : Nat → Int32) (H : Heap) (locs : List Loc) (ls : Array Slot), fX0_gather_L27 N p1_way_mats v3_7 p2_greatest_r4 p2_least_r5 p2_mats_r6 p2_places_r7 p2_ticks_r8 (fun (v4_27 : Int32) (t_doubts_l27 : Int32) (t_codes_l27 : Nat → Int32) => (fX0_gather_L7 N p1_guns_ticks p1_runners_entered p1_runners_facts p1_runners_splits p1_way_mats p1_way_places (fun (v3_7 : Int32) (t_doubts_l7 : Int32) (t_codes_l7 : Nat → Int32) (p2_mats_l7 : Int32) (p2_least_l7 : Int32) (p2_greatest_l7 : Int32) (p2_places_l7 : Nat → Int32) (p2_ticks_l7 : Nat → Int32) => some (t_doubts_l7, t_doubts_l7, t_codes_l7, p2_greatest_l7, p2_least_l7, p2_mats_l7, p2_places_l7, p2_ticks_l7)) n7 (v3_7 + (nI 1)) t_doubts_l27 t_codes_l27 p2_mats_r6 p2_least_r5 p2_greatest_r4 p2_places_r7 p2_ticks_r8)) n v4_27 t_doubts_l27 t_codes_l27 = some (r0, t_doubts', t_codes', p2_greatest', p2_least', p2_mats', p2_places', p2_ticks') → va_P D vwCl [(a_t, .inr (0, [.ref a_t_codes, .int t_doubts_l27])), (a_t_codes, .inl (cI, 2160, .inl t_codes_l27)), (a_p2, .inr (8, [.ref a_p2_ticks, .ref a_p2_places, .int p2_mats_r6, .int p2_least_r5, .int p2_greatest_r4])), (a_p2_places, .inl (cI, 12, .inl p2_places_r7)), (a_p2_ticks, .inl (cI, 12, .inl p2_ticks_r8)), (a_p1, .inr (4, [.ref a_p1_way, .ref a_p1_guns, .ref a_p1_runners])), (a_p1_guns, .inr (2, [.ref a_p1_guns_ticks])), (a_p1_guns_ticks, .inl (cI, 6, .inl p1_guns_ticks)), (a_p1_runners, .inr (6, [.ref a_p1_runners_facts, .ref a_p1_runners_splits, .ref a_p1_runners_torn, .ref a_p1_runners_dropped, .ref a_p1_runners_waved, .ref a_p1_runners_struck, .ref a_p1_runners_strikingOrder, .int p1_runners_entered, .int p1_runners_strikings])), (a_p1_runners_facts, .inl (cI, 360, .inl p1_runners_facts)), (a_p1_runners_splits, .inl (cI, 720, .inl p1_runners_splits)), (a_p1_way, .inr (9, [.ref a_p1_way_places, .ref a_p1_way_bearings, .ref a_p1_way_cuts, .ref a_p1_way_deaths, .int p1_way_mats])), (a_p1_way_places, .inl (cI, 12, .inl p1_way_places))] H → va_D A [(a_t, .inr (0, [.ref a_t_codes, .int t_doubts_l27])), (a_t_codes, .inl (cI, 2160, .inl t_codes_l27)), (a_p2, .inr (8, [.ref a_p2_ticks, .ref a_p2_places, .int p2_mats_r6, .int p2_least_r5, .int p2_greatest_r4])), (a_p2_places, .inl (cI, 12, .inl p2_places_r7)), (a_p2_ticks, .inl (cI, 12, .inl p2_ticks_r8)), (a_p1, .inr (4, [.ref a_p1_way, .ref a_p1_guns, .ref a_p1_runners])), (a_p1_guns, .inr (2, [.ref a_p1_guns_ticks])), (a_p1_guns_ticks, .inl (cI, 6, .inl p1_guns_ticks)), (a_p1_runners, .inr (6, [.ref a_p1_runners_facts, .ref a_p1_runners_splits, .ref a_p1_runners_torn, .ref a_p1_runners_dropped, .ref a_p1_runners_waved, .ref a_p1_runners_struck, .ref a_p1_runners_strikingOrder, .int p1_runners_entered, .int p1_runners_strikings])), (a_p1_runners_facts, .inl (cI, 360, .inl p1_runners_facts)), (a_p1_runners_splits, .inl (cI, 720, .inl p1_runners_splits)), (a_p1_way, .inr (9, [.ref a_p1_way_places, .ref a_p1_way_bearings, .ref a_p1_way_cuts, .ref a_p1_way_deaths, .int p1_way_mats])), (a_p1_way_places, .inl (cI, 12, .inl p1_way_places))] → va_S A s.heap H locs → lv_has ls 5 [(4, .int v4_27), (3, .int v3_7), (0, .ref a_t), (1, .ref a_p1), (2, .ref a_p2)] → W p l e (headSpec wsX0_gather ({ frames := 5, cells := 0, slots := 0, locals := 112 } : Room)).room s m #[Value.ref a_t, Value.ref a_p1, Value.ref a_p2] below meth c H locs 0 0 (MQ below (zQi r0 D (zT cB cI cZ) [(a_t, .inr (0, [.ref a_t_codes, .int t_doubts'])), (a_t_codes, .inl (cI, 2160, .inl t_codes')), (a_p1, .inr (4, [.ref a_p1_way, .ref a_p1_guns, .ref a_p1_runners])), (a_p1_guns, .inr (2, [.ref a_p1_guns_ticks])), (a_p1_guns_ticks, .inl (cI, 6, .inl p1_guns_ticks)), (a_p1_runners, .inr (6, [.ref a_p1_runners_facts, .ref a_p1_runners_splits, .ref a_p1_runners_torn, .ref a_p1_runners_dropped, .ref a_p1_runners_waved, .ref a_p1_runners_struck, .ref a_p1_runners_strikingOrder, .int p1_runners_entered, .int p1_runners_strikings])), (a_p1_runners_facts, .inl (cI, 360, .inl p1_runners_facts)), (a_p1_runners_splits, .inl (cI, 720, .inl p1_runners_splits)), (a_p1_way, .inr (9, [.ref a_p1_way_places, .ref a_p1_way_bearings, .ref a_p1_way_cuts, .ref a_p1_way_deaths, .int p1_way_mats])), (a_p1_way_places, .inl (cI, 12, .inl p1_way_places)), (a_p2, .inr (8, [.ref a_p2_ticks, .ref a_p2_places, .int p2_mats', .int p2_least', .int p2_greatest'])), (a_p2_places, .inl (cI, 12, .inl p2_places')), (a_p2_ticks, .inl (cI, 12, .inl p2_ticks'))] A) #[Value.ref a_t, Value.ref a_p1, Value.ref a_p2] s 0 0 A) (F0 m 27 ls []) := by
          intro n
          induction n with
          | zero => intro _ _ _ H locs ls h hP hD hS hl; cases h
          | succ n27 ih27 =>
            intro v4_27 t_doubts_l27 t_codes_l27 H locs ls h hP hD hS hl
            rw [fX0_gather_L27.eq_2] at h
            refine lv_iload hx hb dX0_gather_27 (lv_at hl 0 rfl) ?_
            refine lv_aload_n hx hb dX0_gather_29 rfl (lv_at hl 3 rfl) ?_
            refine va_getN (host := "RunDesk") (D := D) (ci := 4) (C := RX4) (T := TX4) (N := 3) hx hb hts qX0_gather_X4 hown hK hP 5 rfl rfl 0 (by decide) (va_Nw.use rfl (hN _ (List.mem_of_getElem? (i := 3) rfl))) (fun _ h9 => h9) rfl dX0_gather_30 ?_
            obtain ⟨r10, e11, h⟩ := zz_b h
            refine zVi (As := []) (rest := [.int v4_27]) (C := RX9) (wr := [(a_t, .inr (0, [.ref a_t_codes, .int t_doubts_l27])), (a_t_codes, .inl (cI, 2160, .inl t_codes_l27)), (a_p2, .inr (8, [.ref a_p2_ticks, .ref a_p2_places, .int p2_mats_r6, .int p2_least_r5, .int p2_greatest_r4])), (a_p2_places, .inl (cI, 12, .inl p2_places_r7)), (a_p2_ticks, .inl (cI, 12, .inl p2_ticks_r8)), (a_p1, .inr (4, [.ref a_p1_way, .ref a_p1_guns, .ref a_p1_runners])), (a_p1_guns, .inr (2, [.ref a_p1_guns_ticks])), (a_p1_guns_ticks, .inl (cI, 6, .inl p1_guns_ticks)), (a_p1_runners, .inr (6, [.ref a_p1_runners_facts, .ref a_p1_runners_splits, .ref a_p1_runners_torn, .ref a_p1_runners_dropped, .ref a_p1_runners_waved, .ref a_p1_runners_struck, .ref a_p1_runners_strikingOrder, .int p1_runners_entered, .int p1_runners_strikings])), (a_p1_runners_facts, .inl (cI, 360, .inl p1_runners_facts)), (a_p1_runners_splits, .inl (cI, 720, .inl p1_runners_splits)), (a_p1_way_places, .inl (cI, 12, .inl p1_way_places))]) [11] [0, 1, 2, 3, 4, 5, 6, 7, 8, 9, 10, 12] 0 ⟨hx, hb, hml, hown, hts⟩ (mX9_size l D cB cI cZ a_p1_way a_p1_way_places a_p1_way_bearings a_p1_way_cuts a_p1_way_deaths p1_way_mats H.size r10 e11) (cwV 0 hts gX0_gather_X9_size rfl rfl rfl (by decide +kernel) ⟨Nat.le_of_ble_eq_true rfl, Nat.le_of_ble_eq_true rfl⟩) hK hN hZ hP hD hS hA rfl rfl rfl rfl rfl rfl rfl rfl hl.1 rfl (lv_room (Nat.le_of_ble_eq_true rfl)) dX0_gather_33 ⟨Nat.le_of_ble_eq_true rfl, Nat.le_of_ble_eq_true rfl⟩ (fun H locs hP hD hS => ?_)
            have hP : va_P D vwCl [(a_t, .inr (0, [.ref a_t_codes, .int t_doubts_l27])), (a_t_codes, .inl (cI, 2160, .inl t_codes_l27)), (a_p2, .inr (8, [.ref a_p2_ticks, .ref a_p2_places, .int p2_mats_r6, .int p2_least_r5, .int p2_greatest_r4])), (a_p2_places, .inl (cI, 12, .inl p2_places_r7)), (a_p2_ticks, .inl (cI, 12, .inl p2_ticks_r8)), (a_p1, .inr (4, [.ref a_p1_way, .ref a_p1_guns, .ref a_p1_runners])), (a_p1_guns, .inr (2, [.ref a_p1_guns_ticks])), (a_p1_guns_ticks, .inl (cI, 6, .inl p1_guns_ticks)), (a_p1_runners, .inr (6, [.ref a_p1_runners_facts, .ref a_p1_runners_splits, .ref a_p1_runners_torn, .ref a_p1_runners_dropped, .ref a_p1_runners_waved, .ref a_p1_runners_struck, .ref a_p1_runners_strikingOrder, .int p1_runners_entered, .int p1_runners_strikings])), (a_p1_runners_facts, .inl (cI, 360, .inl p1_runners_facts)), (a_p1_runners_splits, .inl (cI, 720, .inl p1_runners_splits)), (a_p1_way_places, .inl (cI, 12, .inl p1_way_places)), (a_p1_way, .inr (9, [.ref a_p1_way_places, .ref a_p1_way_bearings, .ref a_p1_way_cuts, .ref a_p1_way_deaths, .int p1_way_mats]))] H := hP
            have hD : va_D A [(a_t, .inr (0, [.ref a_t_codes, .int t_doubts_l27])), (a_t_codes, .inl (cI, 2160, .inl t_codes_l27)), (a_p2, .inr (8, [.ref a_p2_ticks, .ref a_p2_places, .int p2_mats_r6, .int p2_least_r5, .int p2_greatest_r4])), (a_p2_places, .inl (cI, 12, .inl p2_places_r7)), (a_p2_ticks, .inl (cI, 12, .inl p2_ticks_r8)), (a_p1, .inr (4, [.ref a_p1_way, .ref a_p1_guns, .ref a_p1_runners])), (a_p1_guns, .inr (2, [.ref a_p1_guns_ticks])), (a_p1_guns_ticks, .inl (cI, 6, .inl p1_guns_ticks)), (a_p1_runners, .inr (6, [.ref a_p1_runners_facts, .ref a_p1_runners_splits, .ref a_p1_runners_torn, .ref a_p1_runners_dropped, .ref a_p1_runners_waved, .ref a_p1_runners_struck, .ref a_p1_runners_strikingOrder, .int p1_runners_entered, .int p1_runners_strikings])), (a_p1_runners_facts, .inl (cI, 360, .inl p1_runners_facts)), (a_p1_runners_splits, .inl (cI, 720, .inl p1_runners_splits)), (a_p1_way_places, .inl (cI, 12, .inl p1_way_places)), (a_p1_way, .inr (9, [.ref a_p1_way_places, .ref a_p1_way_bearings, .ref a_p1_way_cuts, .ref a_p1_way_deaths, .int p1_way_mats]))] := hD
            refine lv_icmp_ge (tgt := 53) hx hb dX0_gather_36 (by decide) (fun c12 => ?_) (fun c12 => ?_)
            · have h := zz_t h c12
              exact X27_53 v4_27 t_doubts_l27 t_codes_l27 _ _ _ h (hP.sub [0, 1, 2, 3, 4, 5, 6, 7, 8, 9, 10, 12, 11] rfl) (hD.sub [0, 1, 2, 3, 4, 5, 6, 7, 8, 9, 10, 12, 11] rfl rfl) hS (lv_sub hl [0, 1, 2, 3, 4] rfl)
            · have h := zz_f h c12
              refine lv_aload_n hx hb dX0_gather_39 rfl (lv_at hl 2 rfl) ?_
              refine lv_aload_n hx hb dX0_gather_40 rfl (lv_at hl 4 rfl) ?_
              refine lv_iload_n hx hb dX0_gather_41 rfl (lv_at hl 1 rfl) ?_
              refine lv_iload hx hb dX0_gather_42 (lv_at hl 0 rfl) ?_
              obtain ⟨⟨t_doubts_r13, t_codes_r14⟩, e15, h⟩ := zz_b h
              dsimp only at h
              refine zVv (As := [.ref a_p2, .int v3_7, .int v4_27]) (rest := []) (C := RX0) (wr := [(a_p1, .inr (4, [.ref a_p1_way, .ref a_p1_guns, .ref a_p1_runners])), (a_p1_guns, .inr (2, [.ref a_p1_guns_ticks])), (a_p1_guns_ticks, .inl (cI, 6, .inl p1_guns_ticks)), (a_p1_runners, .inr (6, [.ref a_p1_runners_facts, .ref a_p1_runners_splits, .ref a_p1_runners_torn, .ref a_p1_runners_dropped, .ref a_p1_runners_waved, .ref a_p1_runners_struck, .ref a_p1_runners_strikingOrder, .int p1_runners_entered, .int p1_runners_strikings])), (a_p1_runners_facts, .inl (cI, 360, .inl p1_runners_facts)), (a_p1_runners_splits, .inl (cI, 720, .inl p1_runners_splits)), (a_p1_way_places, .inl (cI, 12, .inl p1_way_places)), (a_p1_way, .inr (9, [.ref a_p1_way_places, .ref a_p1_way_bearings, .ref a_p1_way_cuts, .ref a_p1_way_deaths, .int p1_way_mats]))]) [0, 1, 2, 3, 4] [5, 6, 7, 8, 9, 10, 11, 12] 0 ⟨hx, hb, hml, hown, hts⟩ (mX0_gatherAt l D cB cI cZ a_t a_p2 a_t_codes a_p2_ticks a_p2_places t_doubts_l27 t_codes_l27 p2_mats_r6 p2_least_r5 p2_greatest_r4 p2_places_r7 p2_ticks_r8 H.size v3_7 v4_27 N t_doubts_r13 t_codes_r14 e15) (cwV 3 hts gX0_gather_X0_gatherAt rfl rfl rfl (by decide +kernel) ⟨Nat.le_of_ble_eq_true rfl, Nat.le_of_ble_eq_true rfl⟩) hK hN hZ hP hD hS hA rfl rfl rfl rfl rfl rfl rfl rfl hl.1 rfl (lv_room (Nat.le_of_ble_eq_true rfl)) dX0_gather_44 ⟨Nat.le_of_ble_eq_true rfl, Nat.le_of_ble_eq_true rfl⟩ (fun H locs hP hD hS => ?_)
              have hP : va_P D vwCl [(a_p1, .inr (4, [.ref a_p1_way, .ref a_p1_guns, .ref a_p1_runners])), (a_p1_guns, .inr (2, [.ref a_p1_guns_ticks])), (a_p1_guns_ticks, .inl (cI, 6, .inl p1_guns_ticks)), (a_p1_runners, .inr (6, [.ref a_p1_runners_facts, .ref a_p1_runners_splits, .ref a_p1_runners_torn, .ref a_p1_runners_dropped, .ref a_p1_runners_waved, .ref a_p1_runners_struck, .ref a_p1_runners_strikingOrder, .int p1_runners_entered, .int p1_runners_strikings])), (a_p1_runners_facts, .inl (cI, 360, .inl p1_runners_facts)), (a_p1_runners_splits, .inl (cI, 720, .inl p1_runners_splits)), (a_p1_way_places, .inl (cI, 12, .inl p1_way_places)), (a_p1_way, .inr (9, [.ref a_p1_way_places, .ref a_p1_way_bearings, .ref a_p1_way_cuts, .ref a_p1_way_deaths, .int p1_way_mats])), (a_t, .inr (0, [.ref a_t_codes, .int t_doubts_r13])), (a_t_codes, .inl (cI, 2160, .inl t_codes_r14)), (a_p2, .inr (8, [.ref a_p2_ticks, .ref a_p2_places, .int p2_mats_r6, .int p2_least_r5, .int p2_greatest_r4])), (a_p2_places, .inl (cI, 12, .inl p2_places_r7)), (a_p2_ticks, .inl (cI, 12, .inl p2_ticks_r8))] H := hP
              have hD : va_D A [(a_p1, .inr (4, [.ref a_p1_way, .ref a_p1_guns, .ref a_p1_runners])), (a_p1_guns, .inr (2, [.ref a_p1_guns_ticks])), (a_p1_guns_ticks, .inl (cI, 6, .inl p1_guns_ticks)), (a_p1_runners, .inr (6, [.ref a_p1_runners_facts, .ref a_p1_runners_splits, .ref a_p1_runners_torn, .ref a_p1_runners_dropped, .ref a_p1_runners_waved, .ref a_p1_runners_struck, .ref a_p1_runners_strikingOrder, .int p1_runners_entered, .int p1_runners_strikings])), (a_p1_runners_facts, .inl (cI, 360, .inl p1_runners_facts)), (a_p1_runners_splits, .inl (cI, 720, .inl p1_runners_splits)), (a_p1_way_places, .inl (cI, 12, .inl p1_way_places)), (a_p1_way, .inr (9, [.ref a_p1_way_places, .ref a_p1_way_bearings, .ref a_p1_way_cuts, .ref a_p1_way_deaths, .int p1_way_mats])), (a_t, .inr (0, [.ref a_t_codes, .int t_doubts_r13])), (a_t_codes, .inl (cI, 2160, .inl t_codes_r14)), (a_p2, .inr (8, [.ref a_p2_ticks, .ref a_p2_places, .int p2_mats_r6, .int p2_least_r5, .int p2_greatest_r4])), (a_p2_places, .inl (cI, 12, .inl p2_places_r7)), (a_p2_ticks, .inl (cI, 12, .inl p2_ticks_r8))] := hD
              refine lv_iinc (v := (v4_27 + (nI 1))) (lv' := [(4, .int (v4_27 + (nI 1))), (3, .int v3_7), (0, .ref a_t), (1, .ref a_p1), (2, .ref a_p2)]) hx hb dX0_gather_47 hl (k := 0) rfl rfl (by decide) rfl (fun ls hl => ?_)
              refine lv_goto (tgt := 27) hx hb dX0_gather_50 (by decide) ?_
              exact ih27 (v4_27 + (nI 1)) t_doubts_r13 t_codes_r14 _ _ _ h (hP.sub [8, 9, 10, 11, 12, 0, 1, 2, 3, 4, 5, 7, 6] rfl) (hD.sub [8, 9, 10, 11, 12, 0, 1, 2, 3, 4, 5, 7, 6] rfl rfl) hS (lv_sub hl [0, 1, 2, 3, 4] rfl)
        exact L27 N (nI 0) t_doubts_l7 t_codes_l7 _ _ _ h hP hD hS hl
  exact L7 N (nI 0) (nI 0) t_codes p2_mats p2_least p2_greatest p2_places p2_ticks _ _ _ h hP hD hS hl
/-! RunDesk$Doubts.tell -/
theorem dX0_tell_0 : decode cX0_tell 0 = .ok (.iload_n 1, 1) := by decide +kernel
theorem dX0_tell_1 : decode cX0_tell 1 = .ok (.ifCond .lt 20, 3) := by decide +kernel
theorem dX0_tell_4 : decode cX0_tell 4 = .ok (.iload_n 1, 1) := by decide +kernel
theorem dX0_tell_5 : decode cX0_tell 5 = .ok (.aload_n 0, 1) := by decide +kernel
theorem dX0_tell_6 : decode cX0_tell 6 = .ok (.getfield 15, 3) := by decide +kernel
theorem dX0_tell_9 : decode cX0_tell 9 = .ok (.if_icmp .ge 12, 3) := by decide +kernel
theorem dX0_tell_12 : decode cX0_tell 12 = .ok (.iload_n 1, 1) := by decide +kernel
theorem dX0_tell_13 : decode cX0_tell 13 = .ok (.aload_n 0, 1) := by decide +kernel
theorem dX0_tell_14 : decode cX0_tell 14 = .ok (.getfield 11, 3) := by decide +kernel
theorem dX0_tell_17 : decode cX0_tell 17 = .ok (.arraylength, 1) := by decide +kernel
theorem dX0_tell_18 : decode cX0_tell 18 = .ok (.if_icmp .lt 5, 3) := by decide +kernel
theorem dX0_tell_21 : decode cX0_tell 21 = .ok (.iconst (-1), 1) := by decide +kernel
theorem dX0_tell_22 : decode cX0_tell 22 = .ok (.ireturn, 1) := by decide +kernel
theorem dX0_tell_23 : decode cX0_tell 23 = .ok (.aload_n 0, 1) := by decide +kernel
theorem dX0_tell_24 : decode cX0_tell 24 = .ok (.getfield 11, 3) := by decide +kernel
theorem dX0_tell_27 : decode cX0_tell 27 = .ok (.iload_n 1, 1) := by decide +kernel
theorem dX0_tell_28 : decode cX0_tell 28 = .ok (.iaload, 1) := by decide +kernel
theorem dX0_tell_29 : decode cX0_tell 29 = .ok (.istore_n 3, 1) := by decide +kernel
theorem dX0_tell_30 : decode cX0_tell 30 = .ok (.iload_n 2, 1) := by decide +kernel
theorem dX0_tell_31 : decode cX0_tell 31 = .ok (.tableswitch 45 0 2 #[25, 32, 39], 25) := by decide +kernel
theorem dX0_tell_56 : decode cX0_tell 56 = .ok (.iload_n 3, 1) := by decide +kernel
theorem dX0_tell_57 : decode cX0_tell 57 = .ok (.iconst 3, 1) := by decide +kernel
theorem dX0_tell_58 : decode cX0_tell 58 = .ok (.idiv, 1) := by decide +kernel
theorem dX0_tell_59 : decode cX0_tell 59 = .ok (.bipush 12, 2) := by decide +kernel
theorem dX0_tell_61 : decode cX0_tell 61 = .ok (.idiv, 1) := by decide +kernel
theorem dX0_tell_62 : decode cX0_tell 62 = .ok (.ireturn, 1) := by decide +kernel
theorem dX0_tell_63 : decode cX0_tell 63 = .ok (.iload_n 3, 1) := by decide +kernel
theorem dX0_tell_64 : decode cX0_tell 64 = .ok (.iconst 3, 1) := by decide +kernel
theorem dX0_tell_65 : decode cX0_tell 65 = .ok (.idiv, 1) := by decide +kernel
theorem dX0_tell_66 : decode cX0_tell 66 = .ok (.bipush 12, 2) := by decide +kernel
theorem dX0_tell_68 : decode cX0_tell 68 = .ok (.irem, 1) := by decide +kernel
theorem dX0_tell_69 : decode cX0_tell 69 = .ok (.ireturn, 1) := by decide +kernel
theorem dX0_tell_70 : decode cX0_tell 70 = .ok (.iload_n 3, 1) := by decide +kernel
theorem dX0_tell_71 : decode cX0_tell 71 = .ok (.iconst 3, 1) := by decide +kernel
theorem dX0_tell_72 : decode cX0_tell 72 = .ok (.irem, 1) := by decide +kernel
theorem dX0_tell_73 : decode cX0_tell 73 = .ok (.iconst 1, 1) := by decide +kernel
theorem dX0_tell_74 : decode cX0_tell 74 = .ok (.iadd, 1) := by decide +kernel
theorem dX0_tell_75 : decode cX0_tell 75 = .ok (.ireturn, 1) := by decide +kernel
theorem dX0_tell_76 : decode cX0_tell 76 = .ok (.iconst (-1), 1) := by decide +kernel
theorem dX0_tell_77 : decode cX0_tell 77 = .ok (.ireturn, 1) := by decide +kernel
theorem kX0_tell_0 : (.fieldLink RX0 15 "RunDesk$Doubts" "doubts" "I" : Cond) ∈ wsX0_tell := List.mem_of_getElem? (i := 1) (by decide +kernel)
theorem qX0_tell_X0 : ∀ w ∈ wsX00, w ∈ wsX0_tell := fun _ h => List.mem_cons_of_mem _ (List.mem_append_right _ (h))
theorem kX0_tell_2 : (.fieldLink RX0 11 "RunDesk$Doubts" "codes" "[I" : Cond) ∈ wsX0_tell := List.mem_of_getElem? (i := 2) (by decide +kernel)
set_option maxHeartbeats 4000000 in
set_option maxRecDepth 100000 in
theorem mX0_tell (l : Launch) (D : va_G) (cB cI cZ : ClassId) (a_t : Nat) (a_t_codes : Nat) (t_doubts : Int32) (t_codes : Nat → Int32) (sz : Nat) (x1 : Int32) (x2 : Int32) (r0 : Int32) (h : fX0_tell t_doubts t_codes x1 x2 = some (r0)) : Met l yX0_tell wsX0_tell ({ frames := 0, cells := 0, slots := 0, locals := 0 } : Room) (va_Pc [.ref a_t, .int x1, .int x2] (zPre D (zT cB cI cZ) [(a_t, .inr (0, [.ref a_t_codes, .int t_doubts])), (a_t_codes, .inl (cI, 2160, .inl t_codes))] sz)) (zQi r0 D (zT cB cI cZ) [(a_t, .inr (0, [.ref a_t_codes, .int t_doubts])), (a_t_codes, .inl (cI, 2160, .inl t_codes))] (va_A [(a_t, .inr (0, [.ref a_t_codes, .int t_doubts])), (a_t_codes, .inl (cI, 2160, .inl t_codes))] sz)) 0 0 (va_A [(a_t, .inr (0, [.ref a_t_codes, .int t_doubts])), (a_t_codes, .inl (cI, 2160, .inl t_codes))] sz) := by
  refine Met.ofW (cc := cX0_tell) (maxL := 4) (ret := (some .int)) (by decide) rfl ?_
  intro p e s m args below meth c s₁ B hml hv
  obtain ⟨rfl, hsz, hP, hK, hN, hZ, hD0⟩ := hv
  have hx := B.exec
  have hb := B.bytes
  have hr := B.returns
  have hts := atoms_spec (ws := wsX0_tell) B.pre
  have hown : s.vm.findClass RX0 = some m.cls := findClass_of_methodNamed B.named
  have hlocks := B.notSynchronized
  subst hsz
  have hD := hD0.self (sz := s.heap.size)
  generalize hAe : va_A [(a_t, .inr (0, [.ref a_t_codes, .int t_doubts])), (a_t_codes, .inl (cI, 2160, .inl t_codes))] s.heap.size = A at hD hZ ⊢
  have hA : ∀ q : Nat, s.heap.size ≤ q → A q := fun q h => by rw [← hAe]; exact Or.inr h
  have hS : va_S A s.heap s.heap [] := va_S.rf
  have hl := lv_entry ([.ref a_t, .int x1, .int x2]) (n := 4) (Nat.le_of_ble_eq_true rfl)
  rw [lg_entry_eq]
  generalize (lg_sl ([.ref a_t, .int x1, .int x2]) ++ List.replicate (4 - (lg_sl ([.ref a_t, .int x1, .int x2])).length) Slot.unset).toArray = ls at hl ⊢
  have hl : lv_has ls 4 [(0, .ref a_t), (1, .int x1), (2, .int x2)] := hl
  unfold fX0_tell at h
  refine lv_iload_n hx hb dX0_tell_0 rfl (lv_at hl 1 rfl) ?_
  refine lv_if_lt (tgt := 21) hx hb dX0_tell_1 (by decide) (fun c1 => ?_) (fun c1 => ?_)
  · have h := zz_t h c1
    refine lv_iconst (v := (-1 : Int32)) hx hb dX0_tell_21 rfl ?_
    have j0_ := Option.some.inj h
    subst j0_
    exact W.iret (v := (-1 : Int32)) hx hb hr (fun t ht hW => ⟨⟨_, (), rfl, rfl, zPost.of hP hD hK ht hW [0, 1] rfl rfl rfl⟩, hS.F ht⟩) hS.2.2 dX0_tell_22
  · have h := zz_f h c1
    refine lv_iload_n hx hb dX0_tell_4 rfl (lv_at hl 1 rfl) ?_
    refine lv_aload_n hx hb dX0_tell_5 rfl (lv_at hl 0 rfl) ?_
    refine va_get (D := D) (ci := 0) (C := RX0) (T := TX0) (N := 2) hx hb hts qX0_tell_X0 hown hK hP 0 rfl rfl 1 (by decide) (hts _ kX0_tell_0) (fun _ h9 => h9) rfl dX0_tell_6 ?_
    refine lv_icmp_ge (tgt := 21) hx hb dX0_tell_9 (by decide) (fun c2 => ?_) (fun c2 => ?_)
    · have h := zz_t h c2
      refine lv_iconst (v := (-1 : Int32)) hx hb dX0_tell_21 rfl ?_
      have j0_ := Option.some.inj h
      subst j0_
      exact W.iret (v := (-1 : Int32)) hx hb hr (fun t ht hW => ⟨⟨_, (), rfl, rfl, zPost.of hP hD hK ht hW [0, 1] rfl rfl rfl⟩, hS.F ht⟩) hS.2.2 dX0_tell_22
    · have h := zz_f h c2
      refine lv_iload_n hx hb dX0_tell_12 rfl (lv_at hl 1 rfl) ?_
      refine lv_aload_n hx hb dX0_tell_13 rfl (lv_at hl 0 rfl) ?_
      refine va_get (D := D) (ci := 0) (C := RX0) (T := TX0) (N := 2) hx hb hts qX0_tell_X0 hown hK hP 0 rfl rfl 0 (by decide) (hts _ kX0_tell_2) (fun _ h9 => h9) rfl dX0_tell_14 ?_
      refine va_alen (v := (nI 2160)) hx hb hK hP 1 1 rfl rfl rfl dX0_tell_17 ?_
      refine lv_icmp_lt (tgt := 23) hx hb dX0_tell_18 (by decide) (fun c3 => ?_) (fun c3 => ?_)
      · have h := zz_t h c3
        refine lv_aload_n hx hb dX0_tell_23 rfl (lv_at hl 0 rfl) ?_
        refine va_get (D := D) (ci := 0) (C := RX0) (T := TX0) (N := 2) hx hb hts qX0_tell_X0 hown hK hP 0 rfl rfl 0 (by decide) (hts _ kX0_tell_2) (fun _ h9 => h9) rfl dX0_tell_24 ?_
        refine lv_iload_n hx hb dX0_tell_27 rfl (lv_at hl 1 rfl) ?_
        obtain ⟨i4, h⟩ := zz_i h
        refine va_iald hx hb hK hP 1 1 rfl rfl i4 dX0_tell_28 ?_
        refine lv_istore_n (lv' := [(3, .int (t_codes (x1).toNatClampNeg)), (0, .ref a_t), (1, .int x1), (2, .int x2)]) hx hb dX0_tell_29 rfl hl (by decide) rfl (fun ls hl => ?_)
        refine lv_iload_n hx hb dX0_tell_30 rfl (lv_at hl 3 rfl) ?_
        by_cases c5 : x2 = (nI 0)
        · have h := zz_t h c5
          refine lv_tableIn (off := 25) (tgt := 56) hx hb dX0_tell_31 (by rw [c5]; decide) (by rw [c5]; decide) (by rw [c5]; rfl) (by decide) ?_
          refine lv_iload_n hx hb dX0_tell_56 rfl (lv_at hl 0 rfl) ?_
          refine lv_iconst (v := (nI 3)) hx hb dX0_tell_57 rfl ?_
          refine lv_idiv hx hb dX0_tell_58 (by decide) ?_
          refine lv_bipush (v := (nI 12)) hx hb dX0_tell_59 rfl ?_
          refine lv_idiv hx hb dX0_tell_61 (by decide) ?_
          have j0_ := Option.some.inj h
          subst j0_
          exact W.iret (v := (((t_codes (x1).toNatClampNeg) / (nI 3)) / (nI 12))) hx hb hr (fun t ht hW => ⟨⟨_, (), rfl, rfl, zPost.of hP hD hK ht hW [0, 1] rfl rfl rfl⟩, hS.F ht⟩) hS.2.2 dX0_tell_62
        · have h := zz_f h c5
          by_cases c6 : x2 = (nI 1)
          · have h := zz_t h c6
            refine lv_tableIn (off := 32) (tgt := 63) hx hb dX0_tell_31 (by rw [c6]; decide) (by rw [c6]; decide) (by rw [c6]; rfl) (by decide) ?_
            refine lv_iload_n hx hb dX0_tell_63 rfl (lv_at hl 0 rfl) ?_
            refine lv_iconst (v := (nI 3)) hx hb dX0_tell_64 rfl ?_
            refine lv_idiv hx hb dX0_tell_65 (by decide) ?_
            refine lv_bipush (v := (nI 12)) hx hb dX0_tell_66 rfl ?_
            refine lv_irem hx hb dX0_tell_68 (by decide) ?_
            have j0_ := Option.some.inj h
            subst j0_
            exact W.iret (v := (((t_codes (x1).toNatClampNeg) / (nI 3)) - ((t_codes (x1).toNatClampNeg) / (nI 3)) / (nI 12) * (nI 12))) hx hb hr (fun t ht hW => ⟨⟨_, (), rfl, rfl, zPost.of hP hD hK ht hW [0, 1] rfl rfl rfl⟩, hS.F ht⟩) hS.2.2 dX0_tell_69
          · have h := zz_f h c6
            by_cases c7 : x2 = (nI 2)
            · have h := zz_t h c7
              refine lv_tableIn (off := 39) (tgt := 70) hx hb dX0_tell_31 (by rw [c7]; decide) (by rw [c7]; decide) (by rw [c7]; rfl) (by decide) ?_
              refine lv_iload_n hx hb dX0_tell_70 rfl (lv_at hl 0 rfl) ?_
              refine lv_iconst (v := (nI 3)) hx hb dX0_tell_71 rfl ?_
              refine lv_irem hx hb dX0_tell_72 (by decide) ?_
              refine lv_iconst (v := (nI 1)) hx hb dX0_tell_73 rfl ?_
              refine lv_iadd hx hb dX0_tell_74 ?_
              have j0_ := Option.some.inj h
              subst j0_
              exact W.iret (v := (((t_codes (x1).toNatClampNeg) - (t_codes (x1).toNatClampNeg) / (nI 3) * (nI 3)) + (nI 1))) hx hb hr (fun t ht hW => ⟨⟨_, (), rfl, rfl, zPost.of hP hD hK ht hW [0, 1] rfl rfl rfl⟩, hS.F ht⟩) hS.2.2 dX0_tell_75
            · have h := zz_f h c7
              refine lv_tableOut (tgt := 76) hx hb dX0_tell_31 (by have n0_ := lv_neT c5 (a := 0) rfl; have n1_ := lv_neT c6 (a := 1) rfl; have n2_ := lv_neT c7 (a := 2) rfl; omega) (by decide) ?_
              refine lv_iconst (v := (-1 : Int32)) hx hb dX0_tell_76 rfl ?_
              have j0_ := Option.some.inj h
              subst j0_
              exact W.iret (v := (-1 : Int32)) hx hb hr (fun t ht hW => ⟨⟨_, (), rfl, rfl, zPost.of hP hD hK ht hW [0, 1] rfl rfl rfl⟩, hS.F ht⟩) hS.2.2 dX0_tell_77
      · have h := zz_f h c3
        refine lv_iconst (v := (-1 : Int32)) hx hb dX0_tell_21 rfl ?_
        have j0_ := Option.some.inj h
        subst j0_
        exact W.iret (v := (-1 : Int32)) hx hb hr (fun t ht hW => ⟨⟨_, (), rfl, rfl, zPost.of hP hD hK ht hW [0, 1] rfl rfl rfl⟩, hS.F ht⟩) hS.2.2 dX0_tell_22
