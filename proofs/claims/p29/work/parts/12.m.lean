/-! RunDesk$Reading.takeDigit -/
theorem dX5_takeDigit_0 : decode cX5_takeDigit 0 = .ok (.aload_n 0, 1) := by decide +kernel
theorem dX5_takeDigit_1 : decode cX5_takeDigit 1 = .ok (.iconst 3, 1) := by decide +kernel
theorem dX5_takeDigit_2 : decode cX5_takeDigit 2 = .ok (.putfield 25, 3) := by decide +kernel
theorem dX5_takeDigit_5 : decode cX5_takeDigit 5 = .ok (.aload_n 0, 1) := by decide +kernel
theorem dX5_takeDigit_6 : decode cX5_takeDigit 6 = .ok (.dup, 1) := by decide +kernel
theorem dX5_takeDigit_7 : decode cX5_takeDigit 7 = .ok (.getfield 31, 3) := by decide +kernel
theorem dX5_takeDigit_10 : decode cX5_takeDigit 10 = .ok (.iconst 1, 1) := by decide +kernel
theorem dX5_takeDigit_11 : decode cX5_takeDigit 11 = .ok (.iadd, 1) := by decide +kernel
theorem dX5_takeDigit_12 : decode cX5_takeDigit 12 = .ok (.putfield 31, 3) := by decide +kernel
theorem dX5_takeDigit_15 : decode cX5_takeDigit 15 = .ok (.iload_n 1, 1) := by decide +kernel
theorem dX5_takeDigit_16 : decode cX5_takeDigit 16 = .ok (.invokestatic 66, 3) := by decide +kernel
theorem dX5_takeDigit_19 : decode cX5_takeDigit 19 = .ok (.ifCond .eq 11, 3) := by decide +kernel
theorem dX5_takeDigit_22 : decode cX5_takeDigit 22 = .ok (.aload_n 0, 1) := by decide +kernel
theorem dX5_takeDigit_23 : decode cX5_takeDigit 23 = .ok (.getfield 31, 3) := by decide +kernel
theorem dX5_takeDigit_26 : decode cX5_takeDigit 26 = .ok (.iconst 5, 1) := by decide +kernel
theorem dX5_takeDigit_27 : decode cX5_takeDigit 27 = .ok (.if_icmp .le 5, 3) := by decide +kernel
theorem dX5_takeDigit_30 : decode cX5_takeDigit 30 = .ok (.iconst 0, 1) := by decide +kernel
theorem dX5_takeDigit_31 : decode cX5_takeDigit 31 = .ok (.ireturn, 1) := by decide +kernel
theorem dX5_takeDigit_32 : decode cX5_takeDigit 32 = .ok (.aload_n 0, 1) := by decide +kernel
theorem dX5_takeDigit_33 : decode cX5_takeDigit 33 = .ok (.getfield 21, 3) := by decide +kernel
theorem dX5_takeDigit_36 : decode cX5_takeDigit 36 = .ok (.iconst 1, 1) := by decide +kernel
theorem dX5_takeDigit_37 : decode cX5_takeDigit 37 = .ok (.sipush 200, 3) := by decide +kernel
theorem dX5_takeDigit_40 : decode cX5_takeDigit 40 = .ok (.invokestatic 85, 3) := by decide +kernel
theorem dX5_takeDigit_43 : decode cX5_takeDigit 43 = .ok (.ifCond .eq 33, 3) := by decide +kernel
theorem dX5_takeDigit_46 : decode cX5_takeDigit 46 = .ok (.aload_n 0, 1) := by decide +kernel
theorem dX5_takeDigit_47 : decode cX5_takeDigit 47 = .ok (.getfield 18, 3) := by decide +kernel
theorem dX5_takeDigit_50 : decode cX5_takeDigit 50 = .ok (.aload_n 0, 1) := by decide +kernel
theorem dX5_takeDigit_51 : decode cX5_takeDigit 51 = .ok (.getfield 21, 3) := by decide +kernel
theorem dX5_takeDigit_54 : decode cX5_takeDigit 54 = .ok (.iconst 1, 1) := by decide +kernel
theorem dX5_takeDigit_55 : decode cX5_takeDigit 55 = .ok (.isub, 1) := by decide +kernel
theorem dX5_takeDigit_56 : decode cX5_takeDigit 56 = .ok (.aload_n 0, 1) := by decide +kernel
theorem dX5_takeDigit_57 : decode cX5_takeDigit 57 = .ok (.getfield 18, 3) := by decide +kernel
theorem dX5_takeDigit_60 : decode cX5_takeDigit 60 = .ok (.aload_n 0, 1) := by decide +kernel
theorem dX5_takeDigit_61 : decode cX5_takeDigit 61 = .ok (.getfield 21, 3) := by decide +kernel
theorem dX5_takeDigit_64 : decode cX5_takeDigit 64 = .ok (.iconst 1, 1) := by decide +kernel
theorem dX5_takeDigit_65 : decode cX5_takeDigit 65 = .ok (.isub, 1) := by decide +kernel
theorem dX5_takeDigit_66 : decode cX5_takeDigit 66 = .ok (.iaload, 1) := by decide +kernel
theorem dX5_takeDigit_67 : decode cX5_takeDigit 67 = .ok (.bipush 10, 2) := by decide +kernel
theorem dX5_takeDigit_69 : decode cX5_takeDigit 69 = .ok (.imul, 1) := by decide +kernel
theorem dX5_takeDigit_70 : decode cX5_takeDigit 70 = .ok (.iload_n 1, 1) := by decide +kernel
theorem dX5_takeDigit_71 : decode cX5_takeDigit 71 = .ok (.iadd, 1) := by decide +kernel
theorem dX5_takeDigit_72 : decode cX5_takeDigit 72 = .ok (.bipush 48, 2) := by decide +kernel
theorem dX5_takeDigit_74 : decode cX5_takeDigit 74 = .ok (.isub, 1) := by decide +kernel
theorem dX5_takeDigit_75 : decode cX5_takeDigit 75 = .ok (.iastore, 1) := by decide +kernel
theorem dX5_takeDigit_76 : decode cX5_takeDigit 76 = .ok (.iconst 1, 1) := by decide +kernel
theorem dX5_takeDigit_77 : decode cX5_takeDigit 77 = .ok (.ireturn, 1) := by decide +kernel
set_option maxRecDepth 20000 in
theorem ggX5_takeDigit_X5_isDigit : GoodIn wsX5_takeDigit wsX5_isDigit := goodIn_sub (List.forall_mem_cons.mpr ⟨List.mem_cons_of_mem _ (List.mem_append_left _ (List.mem_of_getElem? (i := 7) rfl)), (List.forall_mem_cons.mpr ⟨List.mem_cons_of_mem _ (List.mem_append_left _ (List.mem_of_getElem? (i := 8) rfl)), (List.forall_mem_cons.mpr ⟨List.mem_cons_of_mem _ (List.mem_append_left _ (List.mem_of_getElem? (i := 9) rfl)), (List.forall_mem_cons.mpr ⟨List.mem_cons_of_mem _ (List.mem_append_left _ (List.mem_of_getElem? (i := 10) rfl)), (fun _ h => nomatch h)⟩)⟩)⟩)⟩) (by decide +kernel)
set_option maxRecDepth 20000 in
theorem gX5_takeDigit_X5_isDigit : GoodIn wsX5_takeDigit (va_wsS RX5 66 yX5_isDigit wsX5_isDigit) := goodIn_app (goodIn_of _ (by decide +kernel)) ggX5_takeDigit_X5_isDigit
set_option maxRecDepth 20000 in
theorem ggX5_takeDigit_X10_within : GoodIn wsX5_takeDigit wsX10_within := goodIn_sub (List.forall_mem_cons.mpr ⟨List.mem_cons_of_mem _ (List.mem_append_left _ (List.mem_of_getElem? (i := 10) rfl)), (fun _ h => nomatch h)⟩) (by decide +kernel)
set_option maxRecDepth 20000 in
theorem gX5_takeDigit_X10_within_n85 : GoodIn wsX5_takeDigit (wsX10_within) := ggX5_takeDigit_X10_within
theorem kX5_takeDigit_0 : (.fieldLink RX5 25 "RunDesk$Reading" "stage" "I" : Cond) ∈ wsX5_takeDigit := List.mem_of_getElem? (i := 1) (by decide +kernel)
theorem qX5_takeDigit_X5 : ∀ w ∈ wsX50, w ∈ wsX5_takeDigit := fun _ h => List.mem_cons_of_mem _ (List.mem_append_right _ (h))
theorem kX5_takeDigit_2 : (.fieldLink RX5 31 "RunDesk$Reading" "digits" "I" : Cond) ∈ wsX5_takeDigit := List.mem_of_getElem? (i := 2) (by decide +kernel)
theorem kX5_takeDigit_3 : (.fieldLink RX5 21 "RunDesk$Reading" "laid" "I" : Cond) ∈ wsX5_takeDigit := List.mem_of_getElem? (i := 3) (by decide +kernel)
theorem kX5_takeDigit_4 : (.initialized RX10 : Cond) ∈ wsX5_takeDigit := List.mem_of_getElem? (i := 10) (by decide +kernel)
theorem kX5_takeDigit_5 : (.static yX10_within : Cond) ∈ wsX5_takeDigit := List.mem_of_getElem? (i := 9) (by decide +kernel)
theorem kX5_takeDigit_6 : (.fieldLink RX5 18 "RunDesk$Reading" "numbers" "[I" : Cond) ∈ wsX5_takeDigit := List.mem_of_getElem? (i := 4) (by decide +kernel)
set_option maxHeartbeats 4000000 in
set_option maxRecDepth 100000 in
theorem mX5_takeDigit (l : Launch) (D : va_G) (cB cI cZ : ClassId) (a_t : Nat) (a_t_parts : Nat) (a_t_signs : Nat) (a_t_numbers : Nat) (t_laid : Int32) (t_stage : Int32) (t_open : Int32) (t_digits : Int32) (t_order : Int32) (t_prizes : Int32) (t_numbers : Nat → Int32) (sz : Nat) (x1 : Int32) (b0 : Bool) (t_digits' : Int32) (t_stage' : Int32) (t_numbers' : Nat → Int32) (h : fX5_takeDigit t_digits t_laid t_stage t_numbers x1 = some (b0, t_digits', t_stage', t_numbers')) : Met l yX5_takeDigit wsX5_takeDigit ({ frames := 2, cells := 0, slots := 0, locals := 42 } : Room) (va_Pc [.ref a_t, .int x1] (zPre D (zT cB cI cZ) [(a_t, .inr (5, [.ref a_t_parts, .ref a_t_signs, .ref a_t_numbers, .int t_laid, .int t_stage, .int t_open, .int t_digits, .int t_order, .int t_prizes])), (a_t_numbers, .inl (cI, 200, .inl t_numbers))] sz)) (zQi (zb b0) D (zT cB cI cZ) [(a_t, .inr (5, [.ref a_t_parts, .ref a_t_signs, .ref a_t_numbers, .int t_laid, .int t_stage', .int t_open, .int t_digits', .int t_order, .int t_prizes])), (a_t_numbers, .inl (cI, 200, .inl t_numbers'))] (va_A [(a_t, .inr (5, [.ref a_t_parts, .ref a_t_signs, .ref a_t_numbers, .int t_laid, .int t_stage, .int t_open, .int t_digits, .int t_order, .int t_prizes])), (a_t_numbers, .inl (cI, 200, .inl t_numbers))] sz)) 0 0 (va_A [(a_t, .inr (5, [.ref a_t_parts, .ref a_t_signs, .ref a_t_numbers, .int t_laid, .int t_stage, .int t_open, .int t_digits, .int t_order, .int t_prizes])), (a_t_numbers, .inl (cI, 200, .inl t_numbers))] sz) := by
  refine Met.ofW (cc := cX5_takeDigit) (maxL := 2) (ret := (some .boolean)) (by decide) rfl ?_
  intro p e s m args below meth c s₁ B hml hv
  obtain ⟨rfl, hsz, hP, hK, hN, hZ, hD0⟩ := hv
  have hx := B.exec
  have hb := B.bytes
  have hr := B.returns
  have hts := atoms_spec (ws := wsX5_takeDigit) B.pre
  have hown : s.vm.findClass RX5 = some m.cls := findClass_of_methodNamed B.named
  have hlocks := B.notSynchronized
  subst hsz
  have hD := hD0.self (sz := s.heap.size)
  generalize hAe : va_A [(a_t, .inr (5, [.ref a_t_parts, .ref a_t_signs, .ref a_t_numbers, .int t_laid, .int t_stage, .int t_open, .int t_digits, .int t_order, .int t_prizes])), (a_t_numbers, .inl (cI, 200, .inl t_numbers))] s.heap.size = A at hD hZ ⊢
  have hA : ∀ q : Nat, s.heap.size ≤ q → A q := fun q h => by rw [← hAe]; exact Or.inr h
  have hS : va_S A s.heap s.heap [] := va_S.rf
  have hl := lv_entry ([.ref a_t, .int x1]) (n := 2) (Nat.le_of_ble_eq_true rfl)
  rw [lg_entry_eq]
  generalize (lg_sl ([.ref a_t, .int x1]) ++ List.replicate (2 - (lg_sl ([.ref a_t, .int x1])).length) Slot.unset).toArray = ls at hl ⊢
  have hl : lv_has ls 2 [(0, .ref a_t), (1, .int x1)] := hl
  unfold fX5_takeDigit at h
  refine lv_aload_n hx hb dX5_takeDigit_0 rfl (lv_at hl 0 rfl) ?_
  refine lv_iconst (v := (nI 3)) hx hb dX5_takeDigit_1 rfl ?_
  refine va_put (D := D) (ci := 5) (ty := .int) (C := RX5) (T := TX5) (N := 9) hx hb hts qX5_takeDigit_X5 tyX5 tyX5_ok nmX5 hown hK hP hD hS 0 rfl rfl 4 (by decide) (hts _ kX5_takeDigit_0) (fun _ h9 => h9) rfl (by decide +kernel) rfl (by first | rfl | exact zz_fit) (Nat.le_of_ble_eq_true rfl) dX5_takeDigit_2 (fun H locs hP hD hS => ?_)
  have hP : va_P D vwCl [(a_t, .inr (5, [.ref a_t_parts, .ref a_t_signs, .ref a_t_numbers, .int t_laid, .int (nI 3), .int t_open, .int t_digits, .int t_order, .int t_prizes])), (a_t_numbers, .inl (cI, 200, .inl t_numbers))] H := hP
  have hD : va_D A [(a_t, .inr (5, [.ref a_t_parts, .ref a_t_signs, .ref a_t_numbers, .int t_laid, .int (nI 3), .int t_open, .int t_digits, .int t_order, .int t_prizes])), (a_t_numbers, .inl (cI, 200, .inl t_numbers))] := hD
  refine lv_aload_n hx hb dX5_takeDigit_5 rfl (lv_at hl 0 rfl) ?_
  refine lv_dup hx hb dX5_takeDigit_6 rfl ?_
  refine va_get (D := D) (ci := 5) (C := RX5) (T := TX5) (N := 9) hx hb hts qX5_takeDigit_X5 hown hK hP 0 rfl rfl 6 (by decide) (hts _ kX5_takeDigit_2) (fun _ h9 => h9) rfl dX5_takeDigit_7 ?_
  refine lv_iconst (v := (nI 1)) hx hb dX5_takeDigit_10 rfl ?_
  refine lv_iadd hx hb dX5_takeDigit_11 ?_
  refine va_put (D := D) (ci := 5) (ty := .int) (C := RX5) (T := TX5) (N := 9) hx hb hts qX5_takeDigit_X5 tyX5 tyX5_ok nmX5 hown hK hP hD hS 0 rfl rfl 6 (by decide) (hts _ kX5_takeDigit_2) (fun _ h9 => h9) rfl (by decide +kernel) rfl (by first | rfl | exact zz_fit) (Nat.le_of_ble_eq_true rfl) dX5_takeDigit_12 (fun H locs hP hD hS => ?_)
  have hP : va_P D vwCl [(a_t, .inr (5, [.ref a_t_parts, .ref a_t_signs, .ref a_t_numbers, .int t_laid, .int (nI 3), .int t_open, .int (t_digits + (nI 1)), .int t_order, .int t_prizes])), (a_t_numbers, .inl (cI, 200, .inl t_numbers))] H := hP
  have hD : va_D A [(a_t, .inr (5, [.ref a_t_parts, .ref a_t_signs, .ref a_t_numbers, .int t_laid, .int (nI 3), .int t_open, .int (t_digits + (nI 1)), .int t_order, .int t_prizes])), (a_t_numbers, .inl (cI, 200, .inl t_numbers))] := hD
  refine lv_iload_n hx hb dX5_takeDigit_15 rfl (lv_at hl 1 rfl) ?_
  obtain ⟨b1, e2, h⟩ := zz_b h
  refine zSi (As := [.int x1]) (rest := []) (wr := [(a_t, .inr (5, [.ref a_t_parts, .ref a_t_signs, .ref a_t_numbers, .int t_laid, .int (nI 3), .int t_open, .int (t_digits + (nI 1)), .int t_order, .int t_prizes])), (a_t_numbers, .inl (cI, 200, .inl t_numbers))]) [] [0, 1] ⟨hx, hb, hml, hown, hts⟩ (mX5_isDigit l D cB cI cZ H.size x1 b1 e2) (va_cwS 1 hts gX5_takeDigit_X5_isDigit rfl rfl rfl (by decide +kernel) ⟨Nat.le_of_ble_eq_true rfl, Nat.le_of_ble_eq_true rfl⟩) hK hN hZ hP hD hS hA rfl rfl rfl rfl rfl rfl hl.1 rfl (lv_room (Nat.le_of_ble_eq_true rfl)) dX5_takeDigit_16 ⟨Nat.le_of_ble_eq_true rfl, Nat.le_of_ble_eq_true rfl⟩ (fun H locs hP hD hS => ?_)
  have hP : va_P D vwCl [(a_t, .inr (5, [.ref a_t_parts, .ref a_t_signs, .ref a_t_numbers, .int t_laid, .int (nI 3), .int t_open, .int (t_digits + (nI 1)), .int t_order, .int t_prizes])), (a_t_numbers, .inl (cI, 200, .inl t_numbers))] H := hP
  have hD : va_D A [(a_t, .inr (5, [.ref a_t_parts, .ref a_t_signs, .ref a_t_numbers, .int t_laid, .int (nI 3), .int t_open, .int (t_digits + (nI 1)), .int t_order, .int t_prizes])), (a_t_numbers, .inl (cI, 200, .inl t_numbers))] := hD
  refine lv_if_eq (tgt := 30) hx hb dX5_takeDigit_19 (by decide) (fun c3 => ?_) (fun c3 => ?_)
  · have h := zz_t h c3
    refine lv_iconst (v := (nI 0)) hx hb dX5_takeDigit_30 rfl ?_
    obtain ⟨j0_, g_⟩ := Prod.mk.inj (Option.some.inj h)
    obtain ⟨j1_, g_⟩ := Prod.mk.inj g_
    obtain ⟨j2_, g_⟩ := Prod.mk.inj g_
    have j3_ := g_
    subst j0_
    subst j1_
    subst j2_
    subst j3_
    exact W.zret (v := (nI 0)) hx hb hr rfl (fun t ht hW => ⟨⟨_, (), rfl, rfl, zPost.of hP hD hK ht hW [0, 1] rfl rfl rfl⟩, hS.F ht⟩) hS.2.2 dX5_takeDigit_31
  · have h := zz_f h c3
    refine lv_aload_n hx hb dX5_takeDigit_22 rfl (lv_at hl 0 rfl) ?_
    refine va_get (D := D) (ci := 5) (C := RX5) (T := TX5) (N := 9) hx hb hts qX5_takeDigit_X5 hown hK hP 0 rfl rfl 6 (by decide) (hts _ kX5_takeDigit_2) (fun _ h9 => h9) rfl dX5_takeDigit_23 ?_
    refine lv_iconst (v := (nI 5)) hx hb dX5_takeDigit_26 rfl ?_
    refine lv_icmp_le (tgt := 32) hx hb dX5_takeDigit_27 (by decide) (fun c4 => ?_) (fun c4 => ?_)
    · have h := zz_t h c4
      refine lv_aload_n hx hb dX5_takeDigit_32 rfl (lv_at hl 0 rfl) ?_
      refine va_get (D := D) (ci := 5) (C := RX5) (T := TX5) (N := 9) hx hb hts qX5_takeDigit_X5 hown hK hP 0 rfl rfl 3 (by decide) (hts _ kX5_takeDigit_3) (fun _ h9 => h9) rfl dX5_takeDigit_33 ?_
      refine lv_iconst (v := (nI 1)) hx hb dX5_takeDigit_36 rfl ?_
      refine lv_sipush (v := (nI 200)) hx hb dX5_takeDigit_37 rfl ?_
      obtain ⟨b5, e6, h⟩ := zz_b h
      refine zNi (As := [.int t_laid, .int (nI 1), .int (nI 200)]) (rest := []) (host := "RunDesk") (wr := [(a_t, .inr (5, [.ref a_t_parts, .ref a_t_signs, .ref a_t_numbers, .int t_laid, .int (nI 3), .int t_open, .int (t_digits + (nI 1)), .int t_order, .int t_prizes])), (a_t_numbers, .inl (cI, 200, .inl t_numbers))]) [] [0, 1] ⟨hx, hb, hml, hown, hts⟩ (mX10_within l D cB cI cZ H.size t_laid (nI 1) (nI 200) b5 e6) ⟨va_cnB 3 hts gX5_takeDigit_X10_within_n85 rfl rfl rfl (hN _ (List.mem_of_getElem? (i := 33) rfl)) (hts _ kX5_takeDigit_4) (by decide +kernel) ⟨Nat.le_of_ble_eq_true rfl, Nat.le_of_ble_eq_true rfl⟩, (hts _ kX5_takeDigit_5), trivial⟩ hK hN hZ hP hD hS hA rfl rfl rfl rfl rfl rfl hl.1 rfl (lv_room (Nat.le_of_ble_eq_true rfl)) dX5_takeDigit_40 ⟨Nat.le_of_ble_eq_true rfl, Nat.le_of_ble_eq_true rfl⟩ (fun H locs hP hD hS => ?_)
      have hP : va_P D vwCl [(a_t, .inr (5, [.ref a_t_parts, .ref a_t_signs, .ref a_t_numbers, .int t_laid, .int (nI 3), .int t_open, .int (t_digits + (nI 1)), .int t_order, .int t_prizes])), (a_t_numbers, .inl (cI, 200, .inl t_numbers))] H := hP
      have hD : va_D A [(a_t, .inr (5, [.ref a_t_parts, .ref a_t_signs, .ref a_t_numbers, .int t_laid, .int (nI 3), .int t_open, .int (t_digits + (nI 1)), .int t_order, .int t_prizes])), (a_t_numbers, .inl (cI, 200, .inl t_numbers))] := hD
      refine lv_if_eq (tgt := 76) hx hb dX5_takeDigit_43 (by decide) (fun c7 => ?_) (fun c7 => ?_)
      · have h := zz_t h c7
        refine lv_iconst (v := (nI 1)) hx hb dX5_takeDigit_76 rfl ?_
        obtain ⟨j0_, g_⟩ := Prod.mk.inj (Option.some.inj h)
        obtain ⟨j1_, g_⟩ := Prod.mk.inj g_
        obtain ⟨j2_, g_⟩ := Prod.mk.inj g_
        have j3_ := g_
        subst j0_
        subst j1_
        subst j2_
        subst j3_
        exact W.zret (v := (nI 1)) hx hb hr rfl (fun t ht hW => ⟨⟨_, (), rfl, rfl, zPost.of hP hD hK ht hW [0, 1] rfl rfl rfl⟩, hS.F ht⟩) hS.2.2 dX5_takeDigit_77
      · have h := zz_f h c7
        refine lv_aload_n hx hb dX5_takeDigit_46 rfl (lv_at hl 0 rfl) ?_
        refine va_get (D := D) (ci := 5) (C := RX5) (T := TX5) (N := 9) hx hb hts qX5_takeDigit_X5 hown hK hP 0 rfl rfl 2 (by decide) (hts _ kX5_takeDigit_6) (fun _ h9 => h9) rfl dX5_takeDigit_47 ?_
        refine lv_aload_n hx hb dX5_takeDigit_50 rfl (lv_at hl 0 rfl) ?_
        refine va_get (D := D) (ci := 5) (C := RX5) (T := TX5) (N := 9) hx hb hts qX5_takeDigit_X5 hown hK hP 0 rfl rfl 3 (by decide) (hts _ kX5_takeDigit_3) (fun _ h9 => h9) rfl dX5_takeDigit_51 ?_
        refine lv_iconst (v := (nI 1)) hx hb dX5_takeDigit_54 rfl ?_
        refine lv_isub hx hb dX5_takeDigit_55 ?_
        refine lv_aload_n hx hb dX5_takeDigit_56 rfl (lv_at hl 0 rfl) ?_
        refine va_get (D := D) (ci := 5) (C := RX5) (T := TX5) (N := 9) hx hb hts qX5_takeDigit_X5 hown hK hP 0 rfl rfl 2 (by decide) (hts _ kX5_takeDigit_6) (fun _ h9 => h9) rfl dX5_takeDigit_57 ?_
        refine lv_aload_n hx hb dX5_takeDigit_60 rfl (lv_at hl 0 rfl) ?_
        refine va_get (D := D) (ci := 5) (C := RX5) (T := TX5) (N := 9) hx hb hts qX5_takeDigit_X5 hown hK hP 0 rfl rfl 3 (by decide) (hts _ kX5_takeDigit_3) (fun _ h9 => h9) rfl dX5_takeDigit_61 ?_
        refine lv_iconst (v := (nI 1)) hx hb dX5_takeDigit_64 rfl ?_
        refine lv_isub hx hb dX5_takeDigit_65 ?_
        obtain ⟨i8, h⟩ := zz_i h
        refine va_iald hx hb hK hP 1 1 rfl rfl i8 dX5_takeDigit_66 ?_
        refine lv_bipush (v := (nI 10)) hx hb dX5_takeDigit_67 rfl ?_
        refine lv_imul hx hb dX5_takeDigit_69 ?_
        refine lv_iload_n hx hb dX5_takeDigit_70 rfl (lv_at hl 1 rfl) ?_
        refine lv_iadd hx hb dX5_takeDigit_71 ?_
        refine lv_bipush (v := (nI 48)) hx hb dX5_takeDigit_72 rfl ?_
        refine lv_isub hx hb dX5_takeDigit_74 ?_
        obtain ⟨i9, h⟩ := zz_i h
        refine va_iast hx hb hK hP hD hS 1 1 rfl rfl i9 dX5_takeDigit_75 (fun H locs hP hD hS => ?_)
        have hP : va_P D vwCl [(a_t, .inr (5, [.ref a_t_parts, .ref a_t_signs, .ref a_t_numbers, .int t_laid, .int (nI 3), .int t_open, .int (t_digits + (nI 1)), .int t_order, .int t_prizes])), (a_t_numbers, .inl (cI, 200, .inl (upd t_numbers ((t_laid - (nI 1))).toNatClampNeg ((((t_numbers ((t_laid - (nI 1))).toNatClampNeg) * (nI 10)) + x1) - (nI 48)))))] H := hP
        have hD : va_D A [(a_t, .inr (5, [.ref a_t_parts, .ref a_t_signs, .ref a_t_numbers, .int t_laid, .int (nI 3), .int t_open, .int (t_digits + (nI 1)), .int t_order, .int t_prizes])), (a_t_numbers, .inl (cI, 200, .inl (upd t_numbers ((t_laid - (nI 1))).toNatClampNeg ((((t_numbers ((t_laid - (nI 1))).toNatClampNeg) * (nI 10)) + x1) - (nI 48)))))] := hD
        refine lv_iconst (v := (nI 1)) hx hb dX5_takeDigit_76 rfl ?_
        obtain ⟨j0_, g_⟩ := Prod.mk.inj (Option.some.inj h)
        obtain ⟨j1_, g_⟩ := Prod.mk.inj g_
        obtain ⟨j2_, g_⟩ := Prod.mk.inj g_
        have j3_ := g_
        subst j0_
        subst j1_
        subst j2_
        subst j3_
        exact W.zret (v := (nI 1)) hx hb hr rfl (fun t ht hW => ⟨⟨_, (), rfl, rfl, zPost.of hP hD hK ht hW [0, 1] rfl rfl rfl⟩, hS.F ht⟩) hS.2.2 dX5_takeDigit_77
    · have h := zz_f h c4
      refine lv_iconst (v := (nI 0)) hx hb dX5_takeDigit_30 rfl ?_
      obtain ⟨j0_, g_⟩ := Prod.mk.inj (Option.some.inj h)
      obtain ⟨j1_, g_⟩ := Prod.mk.inj g_
      obtain ⟨j2_, g_⟩ := Prod.mk.inj g_
      have j3_ := g_
      subst j0_
      subst j1_
      subst j2_
      subst j3_
      exact W.zret (v := (nI 0)) hx hb hr rfl (fun t ht hW => ⟨⟨_, (), rfl, rfl, zPost.of hP hD hK ht hW [0, 1] rfl rfl rfl⟩, hS.F ht⟩) hS.2.2 dX5_takeDigit_31
/-! RunDesk$Reading.takeJoint -/
theorem dX5_takeJoint_0 : decode cX5_takeJoint 0 = .ok (.iload_n 1, 1) := by decide +kernel
theorem dX5_takeJoint_1 : decode cX5_takeJoint 1 = .ok (.lookupswitch 113 #[(38, 43), (41, 62), (59, 95), (124, 50)], 43) := by decide +kernel
theorem dX5_takeJoint_44 : decode cX5_takeJoint 44 = .ok (.aload_n 0, 1) := by decide +kernel
theorem dX5_takeJoint_45 : decode cX5_takeJoint 45 = .ok (.iconst 0, 1) := by decide +kernel
theorem dX5_takeJoint_46 : decode cX5_takeJoint 46 = .ok (.putfield 25, 3) := by decide +kernel
theorem dX5_takeJoint_49 : decode cX5_takeJoint 49 = .ok (.iconst 1, 1) := by decide +kernel
theorem dX5_takeJoint_50 : decode cX5_takeJoint 50 = .ok (.ireturn, 1) := by decide +kernel
theorem dX5_takeJoint_51 : decode cX5_takeJoint 51 = .ok (.aload_n 0, 1) := by decide +kernel
theorem dX5_takeJoint_52 : decode cX5_takeJoint 52 = .ok (.iconst 0, 1) := by decide +kernel
theorem dX5_takeJoint_53 : decode cX5_takeJoint 53 = .ok (.putfield 25, 3) := by decide +kernel
theorem dX5_takeJoint_56 : decode cX5_takeJoint 56 = .ok (.aload_n 0, 1) := by decide +kernel
theorem dX5_takeJoint_57 : decode cX5_takeJoint 57 = .ok (.iload_n 1, 1) := by decide +kernel
theorem dX5_takeJoint_58 : decode cX5_takeJoint 58 = .ok (.invokevirtual 78, 3) := by decide +kernel
theorem dX5_takeJoint_61 : decode cX5_takeJoint 61 = .ok (.iconst 1, 1) := by decide +kernel
theorem dX5_takeJoint_62 : decode cX5_takeJoint 62 = .ok (.ireturn, 1) := by decide +kernel
theorem dX5_takeJoint_63 : decode cX5_takeJoint 63 = .ok (.aload_n 0, 1) := by decide +kernel
theorem dX5_takeJoint_64 : decode cX5_takeJoint 64 = .ok (.iconst 4, 1) := by decide +kernel
theorem dX5_takeJoint_65 : decode cX5_takeJoint 65 = .ok (.putfield 25, 3) := by decide +kernel
theorem dX5_takeJoint_68 : decode cX5_takeJoint 68 = .ok (.aload_n 0, 1) := by decide +kernel
theorem dX5_takeJoint_69 : decode cX5_takeJoint 69 = .ok (.dup, 1) := by decide +kernel
theorem dX5_takeJoint_70 : decode cX5_takeJoint 70 = .ok (.getfield 28, 3) := by decide +kernel
theorem dX5_takeJoint_73 : decode cX5_takeJoint 73 = .ok (.iconst 1, 1) := by decide +kernel
theorem dX5_takeJoint_74 : decode cX5_takeJoint 74 = .ok (.isub, 1) := by decide +kernel
theorem dX5_takeJoint_75 : decode cX5_takeJoint 75 = .ok (.putfield 28, 3) := by decide +kernel
theorem dX5_takeJoint_78 : decode cX5_takeJoint 78 = .ok (.aload_n 0, 1) := by decide +kernel
theorem dX5_takeJoint_79 : decode cX5_takeJoint 79 = .ok (.iload_n 1, 1) := by decide +kernel
theorem dX5_takeJoint_80 : decode cX5_takeJoint 80 = .ok (.invokevirtual 78, 3) := by decide +kernel
theorem dX5_takeJoint_83 : decode cX5_takeJoint 83 = .ok (.aload_n 0, 1) := by decide +kernel
theorem dX5_takeJoint_84 : decode cX5_takeJoint 84 = .ok (.getfield 28, 3) := by decide +kernel
theorem dX5_takeJoint_87 : decode cX5_takeJoint 87 = .ok (.ifCond .lt 7, 3) := by decide +kernel
theorem dX5_takeJoint_90 : decode cX5_takeJoint 90 = .ok (.iconst 1, 1) := by decide +kernel
theorem dX5_takeJoint_91 : decode cX5_takeJoint 91 = .ok (.goto 4, 3) := by decide +kernel
theorem dX5_takeJoint_94 : decode cX5_takeJoint 94 = .ok (.iconst 0, 1) := by decide +kernel
theorem dX5_takeJoint_95 : decode cX5_takeJoint 95 = .ok (.ireturn, 1) := by decide +kernel
theorem dX5_takeJoint_96 : decode cX5_takeJoint 96 = .ok (.aload_n 0, 1) := by decide +kernel
theorem dX5_takeJoint_97 : decode cX5_takeJoint 97 = .ok (.iconst 5, 1) := by decide +kernel
theorem dX5_takeJoint_98 : decode cX5_takeJoint 98 = .ok (.putfield 25, 3) := by decide +kernel
theorem dX5_takeJoint_101 : decode cX5_takeJoint 101 = .ok (.aload_n 0, 1) := by decide +kernel
theorem dX5_takeJoint_102 : decode cX5_takeJoint 102 = .ok (.getfield 28, 3) := by decide +kernel
theorem dX5_takeJoint_105 : decode cX5_takeJoint 105 = .ok (.ifCond .ne 7, 3) := by decide +kernel
theorem dX5_takeJoint_108 : decode cX5_takeJoint 108 = .ok (.iconst 1, 1) := by decide +kernel
theorem dX5_takeJoint_109 : decode cX5_takeJoint 109 = .ok (.goto 4, 3) := by decide +kernel
theorem dX5_takeJoint_112 : decode cX5_takeJoint 112 = .ok (.iconst 0, 1) := by decide +kernel
theorem dX5_takeJoint_113 : decode cX5_takeJoint 113 = .ok (.ireturn, 1) := by decide +kernel
theorem dX5_takeJoint_114 : decode cX5_takeJoint 114 = .ok (.iconst 0, 1) := by decide +kernel
theorem dX5_takeJoint_115 : decode cX5_takeJoint 115 = .ok (.ireturn, 1) := by decide +kernel
set_option maxRecDepth 20000 in
theorem ggX5_takeJoint_X5_lay : GoodIn wsX5_takeJoint wsX5_lay := goodIn_sub (List.forall_mem_cons.mpr ⟨List.mem_cons_of_mem _ (List.mem_append_left _ (List.mem_of_getElem? (i := 6) rfl)), (List.forall_mem_append.mpr ⟨(List.forall_mem_cons.mpr ⟨List.mem_cons_of_mem _ (List.mem_append_left _ (List.mem_of_getElem? (i := 7) rfl)), (List.forall_mem_cons.mpr ⟨List.mem_cons_of_mem _ (List.mem_append_left _ (List.mem_of_getElem? (i := 8) rfl)), (List.forall_mem_cons.mpr ⟨List.mem_cons_of_mem _ (List.mem_append_left _ (List.mem_of_getElem? (i := 9) rfl)), (List.forall_mem_cons.mpr ⟨List.mem_cons_of_mem _ (List.mem_append_left _ (List.mem_of_getElem? (i := 10) rfl)), (List.forall_mem_cons.mpr ⟨List.mem_cons_of_mem _ (List.mem_append_left _ (List.mem_of_getElem? (i := 11) rfl)), (List.forall_mem_cons.mpr ⟨List.mem_cons_of_mem _ (List.mem_append_left _ (List.mem_of_getElem? (i := 12) rfl)), (List.forall_mem_cons.mpr ⟨List.mem_cons_of_mem _ (List.mem_append_left _ (List.mem_of_getElem? (i := 13) rfl)), (fun _ h => nomatch h)⟩)⟩)⟩)⟩)⟩)⟩)⟩), (fun _ h => List.mem_cons_of_mem _ (List.mem_append_right _ (h)))⟩)⟩) (by decide +kernel)
set_option maxRecDepth 20000 in
theorem gX5_takeJoint_X5_lay : GoodIn wsX5_takeJoint (wsV RX5 78 RX5 yX5_lay wsX5_lay) := goodIn_app (goodIn_of _ (by decide +kernel)) ggX5_takeJoint_X5_lay
theorem kX5_takeJoint_0 : (.fieldLink RX5 25 "RunDesk$Reading" "stage" "I" : Cond) ∈ wsX5_takeJoint := List.mem_of_getElem? (i := 1) (by decide +kernel)
theorem qX5_takeJoint_X5 : ∀ w ∈ wsX50, w ∈ wsX5_takeJoint := fun _ h => List.mem_cons_of_mem _ (List.mem_append_right _ (h))
theorem kX5_takeJoint_2 : (.fieldLink RX5 28 "RunDesk$Reading" "open" "I" : Cond) ∈ wsX5_takeJoint := List.mem_of_getElem? (i := 2) (by decide +kernel)
set_option maxHeartbeats 4000000 in
set_option maxRecDepth 100000 in
theorem mX5_takeJoint (l : Launch) (D : va_G) (cB cI cZ : ClassId) (a_t : Nat) (a_t_parts : Nat) (a_t_signs : Nat) (a_t_numbers : Nat) (t_laid : Int32) (t_stage : Int32) (t_open : Int32) (t_digits : Int32) (t_order : Int32) (t_prizes : Int32) (t_numbers : Nat → Int32) (t_parts : Nat → Int32) (t_signs : Nat → Int32) (sz : Nat) (x1 : Int32) (b0 : Bool) (t_laid' : Int32) (t_open' : Int32) (t_stage' : Int32) (t_numbers' : Nat → Int32) (t_parts' : Nat → Int32) (t_signs' : Nat → Int32) (h : fX5_takeJoint t_laid t_open t_stage t_numbers t_parts t_signs x1 = some (b0, t_laid', t_open', t_stage', t_numbers', t_parts', t_signs')) : Met l yX5_takeJoint wsX5_takeJoint ({ frames := 2, cells := 0, slots := 0, locals := 43 } : Room) (va_Pc [.ref a_t, .int x1] (zPre D (zT cB cI cZ) [(a_t, .inr (5, [.ref a_t_parts, .ref a_t_signs, .ref a_t_numbers, .int t_laid, .int t_stage, .int t_open, .int t_digits, .int t_order, .int t_prizes])), (a_t_numbers, .inl (cI, 200, .inl t_numbers)), (a_t_parts, .inl (cI, 200, .inl t_parts)), (a_t_signs, .inl (cI, 200, .inl t_signs))] sz)) (zQi (zb b0) D (zT cB cI cZ) [(a_t, .inr (5, [.ref a_t_parts, .ref a_t_signs, .ref a_t_numbers, .int t_laid', .int t_stage', .int t_open', .int t_digits, .int t_order, .int t_prizes])), (a_t_numbers, .inl (cI, 200, .inl t_numbers')), (a_t_parts, .inl (cI, 200, .inl t_parts')), (a_t_signs, .inl (cI, 200, .inl t_signs'))] (va_A [(a_t, .inr (5, [.ref a_t_parts, .ref a_t_signs, .ref a_t_numbers, .int t_laid, .int t_stage, .int t_open, .int t_digits, .int t_order, .int t_prizes])), (a_t_numbers, .inl (cI, 200, .inl t_numbers)), (a_t_parts, .inl (cI, 200, .inl t_parts)), (a_t_signs, .inl (cI, 200, .inl t_signs))] sz)) 0 0 (va_A [(a_t, .inr (5, [.ref a_t_parts, .ref a_t_signs, .ref a_t_numbers, .int t_laid, .int t_stage, .int t_open, .int t_digits, .int t_order, .int t_prizes])), (a_t_numbers, .inl (cI, 200, .inl t_numbers)), (a_t_parts, .inl (cI, 200, .inl t_parts)), (a_t_signs, .inl (cI, 200, .inl t_signs))] sz) := by
  refine Met.ofW (cc := cX5_takeJoint) (maxL := 2) (ret := (some .boolean)) (by decide) rfl ?_
  intro p e s m args below meth c s₁ B hml hv
  obtain ⟨rfl, hsz, hP, hK, hN, hZ, hD0⟩ := hv
  have hx := B.exec
  have hb := B.bytes
  have hr := B.returns
  have hts := atoms_spec (ws := wsX5_takeJoint) B.pre
  have hown : s.vm.findClass RX5 = some m.cls := findClass_of_methodNamed B.named
  have hlocks := B.notSynchronized
  subst hsz
  have hD := hD0.self (sz := s.heap.size)
  generalize hAe : va_A [(a_t, .inr (5, [.ref a_t_parts, .ref a_t_signs, .ref a_t_numbers, .int t_laid, .int t_stage, .int t_open, .int t_digits, .int t_order, .int t_prizes])), (a_t_numbers, .inl (cI, 200, .inl t_numbers)), (a_t_parts, .inl (cI, 200, .inl t_parts)), (a_t_signs, .inl (cI, 200, .inl t_signs))] s.heap.size = A at hD hZ ⊢
  have hA : ∀ q : Nat, s.heap.size ≤ q → A q := fun q h => by rw [← hAe]; exact Or.inr h
  have hS : va_S A s.heap s.heap [] := va_S.rf
  have hl := lv_entry ([.ref a_t, .int x1]) (n := 2) (Nat.le_of_ble_eq_true rfl)
  rw [lg_entry_eq]
  generalize (lg_sl ([.ref a_t, .int x1]) ++ List.replicate (2 - (lg_sl ([.ref a_t, .int x1])).length) Slot.unset).toArray = ls at hl ⊢
  have hl : lv_has ls 2 [(0, .ref a_t), (1, .int x1)] := hl
  unfold fX5_takeJoint at h
  refine lv_iload_n hx hb dX5_takeJoint_0 rfl (lv_at hl 1 rfl) ?_
  by_cases c1 : x1 = (nI 38)
  · have h := zz_t h c1
    refine lv_lookup (off := 43) (tgt := 44) hx hb dX5_takeJoint_1 (by decide) (by rw [c1]; decide) (by decide) ?_
    refine lv_aload_n hx hb dX5_takeJoint_44 rfl (lv_at hl 0 rfl) ?_
    refine lv_iconst (v := (nI 0)) hx hb dX5_takeJoint_45 rfl ?_
    refine va_put (D := D) (ci := 5) (ty := .int) (C := RX5) (T := TX5) (N := 9) hx hb hts qX5_takeJoint_X5 tyX5 tyX5_ok nmX5 hown hK hP hD hS 0 rfl rfl 4 (by decide) (hts _ kX5_takeJoint_0) (fun _ h9 => h9) rfl (by decide +kernel) rfl (by first | rfl | exact zz_fit) (Nat.le_of_ble_eq_true rfl) dX5_takeJoint_46 (fun H locs hP hD hS => ?_)
    have hP : va_P D vwCl [(a_t, .inr (5, [.ref a_t_parts, .ref a_t_signs, .ref a_t_numbers, .int t_laid, .int (nI 0), .int t_open, .int t_digits, .int t_order, .int t_prizes])), (a_t_numbers, .inl (cI, 200, .inl t_numbers)), (a_t_parts, .inl (cI, 200, .inl t_parts)), (a_t_signs, .inl (cI, 200, .inl t_signs))] H := hP
    have hD : va_D A [(a_t, .inr (5, [.ref a_t_parts, .ref a_t_signs, .ref a_t_numbers, .int t_laid, .int (nI 0), .int t_open, .int t_digits, .int t_order, .int t_prizes])), (a_t_numbers, .inl (cI, 200, .inl t_numbers)), (a_t_parts, .inl (cI, 200, .inl t_parts)), (a_t_signs, .inl (cI, 200, .inl t_signs))] := hD
    refine lv_iconst (v := (nI 1)) hx hb dX5_takeJoint_49 rfl ?_
    obtain ⟨j0_, g_⟩ := Prod.mk.inj (Option.some.inj h)
    obtain ⟨j1_, g_⟩ := Prod.mk.inj g_
    obtain ⟨j2_, g_⟩ := Prod.mk.inj g_
    obtain ⟨j3_, g_⟩ := Prod.mk.inj g_
    obtain ⟨j4_, g_⟩ := Prod.mk.inj g_
    obtain ⟨j5_, g_⟩ := Prod.mk.inj g_
    have j6_ := g_
    subst j0_
    subst j1_
    subst j2_
    subst j3_
    subst j4_
    subst j5_
    subst j6_
    exact W.zret (v := (nI 1)) hx hb hr rfl (fun t ht hW => ⟨⟨_, (), rfl, rfl, zPost.of hP hD hK ht hW [0, 1, 2, 3] rfl rfl rfl⟩, hS.F ht⟩) hS.2.2 dX5_takeJoint_50
  · have h := zz_f h c1
    by_cases c2 : x1 = (nI 41)
    · have h := zz_t h c2
      refine lv_lookup (off := 62) (tgt := 63) hx hb dX5_takeJoint_1 (by decide) (by rw [c2]; decide) (by decide) ?_
      refine lv_aload_n hx hb dX5_takeJoint_63 rfl (lv_at hl 0 rfl) ?_
      refine lv_iconst (v := (nI 4)) hx hb dX5_takeJoint_64 rfl ?_
      refine va_put (D := D) (ci := 5) (ty := .int) (C := RX5) (T := TX5) (N := 9) hx hb hts qX5_takeJoint_X5 tyX5 tyX5_ok nmX5 hown hK hP hD hS 0 rfl rfl 4 (by decide) (hts _ kX5_takeJoint_0) (fun _ h9 => h9) rfl (by decide +kernel) rfl (by first | rfl | exact zz_fit) (Nat.le_of_ble_eq_true rfl) dX5_takeJoint_65 (fun H locs hP hD hS => ?_)
      have hP : va_P D vwCl [(a_t, .inr (5, [.ref a_t_parts, .ref a_t_signs, .ref a_t_numbers, .int t_laid, .int (nI 4), .int t_open, .int t_digits, .int t_order, .int t_prizes])), (a_t_numbers, .inl (cI, 200, .inl t_numbers)), (a_t_parts, .inl (cI, 200, .inl t_parts)), (a_t_signs, .inl (cI, 200, .inl t_signs))] H := hP
      have hD : va_D A [(a_t, .inr (5, [.ref a_t_parts, .ref a_t_signs, .ref a_t_numbers, .int t_laid, .int (nI 4), .int t_open, .int t_digits, .int t_order, .int t_prizes])), (a_t_numbers, .inl (cI, 200, .inl t_numbers)), (a_t_parts, .inl (cI, 200, .inl t_parts)), (a_t_signs, .inl (cI, 200, .inl t_signs))] := hD
      refine lv_aload_n hx hb dX5_takeJoint_68 rfl (lv_at hl 0 rfl) ?_
      refine lv_dup hx hb dX5_takeJoint_69 rfl ?_
      refine va_get (D := D) (ci := 5) (C := RX5) (T := TX5) (N := 9) hx hb hts qX5_takeJoint_X5 hown hK hP 0 rfl rfl 5 (by decide) (hts _ kX5_takeJoint_2) (fun _ h9 => h9) rfl dX5_takeJoint_70 ?_
      refine lv_iconst (v := (nI 1)) hx hb dX5_takeJoint_73 rfl ?_
      refine lv_isub hx hb dX5_takeJoint_74 ?_
      refine va_put (D := D) (ci := 5) (ty := .int) (C := RX5) (T := TX5) (N := 9) hx hb hts qX5_takeJoint_X5 tyX5 tyX5_ok nmX5 hown hK hP hD hS 0 rfl rfl 5 (by decide) (hts _ kX5_takeJoint_2) (fun _ h9 => h9) rfl (by decide +kernel) rfl (by first | rfl | exact zz_fit) (Nat.le_of_ble_eq_true rfl) dX5_takeJoint_75 (fun H locs hP hD hS => ?_)
      have hP : va_P D vwCl [(a_t, .inr (5, [.ref a_t_parts, .ref a_t_signs, .ref a_t_numbers, .int t_laid, .int (nI 4), .int (t_open - (nI 1)), .int t_digits, .int t_order, .int t_prizes])), (a_t_numbers, .inl (cI, 200, .inl t_numbers)), (a_t_parts, .inl (cI, 200, .inl t_parts)), (a_t_signs, .inl (cI, 200, .inl t_signs))] H := hP
      have hD : va_D A [(a_t, .inr (5, [.ref a_t_parts, .ref a_t_signs, .ref a_t_numbers, .int t_laid, .int (nI 4), .int (t_open - (nI 1)), .int t_digits, .int t_order, .int t_prizes])), (a_t_numbers, .inl (cI, 200, .inl t_numbers)), (a_t_parts, .inl (cI, 200, .inl t_parts)), (a_t_signs, .inl (cI, 200, .inl t_signs))] := hD
      refine lv_aload_n hx hb dX5_takeJoint_78 rfl (lv_at hl 0 rfl) ?_
      refine lv_iload_n hx hb dX5_takeJoint_79 rfl (lv_at hl 1 rfl) ?_
      obtain ⟨⟨t_laid_r3, t_numbers_r4, t_parts_r5, t_signs_r6⟩, e7, h⟩ := zz_b h
      dsimp only at h
      refine zVv (As := [.int x1]) (rest := []) (C := RX5) (wr := []) [0, 1, 2, 3] [] 0 ⟨hx, hb, hml, hown, hts⟩ (mX5_lay l D cB cI cZ a_t a_t_parts a_t_signs a_t_numbers t_laid (nI 4) (t_open - (nI 1)) t_digits t_order t_prizes t_numbers t_parts t_signs H.size x1 t_laid_r3 t_numbers_r4 t_parts_r5 t_signs_r6 e7) (cwV 1 hts gX5_takeJoint_X5_lay rfl rfl rfl (by decide +kernel) ⟨Nat.le_of_ble_eq_true rfl, Nat.le_of_ble_eq_true rfl⟩) hK hN hZ hP hD hS hA rfl rfl rfl rfl rfl rfl rfl rfl hl.1 rfl (lv_room (Nat.le_of_ble_eq_true rfl)) dX5_takeJoint_80 ⟨Nat.le_of_ble_eq_true rfl, Nat.le_of_ble_eq_true rfl⟩ (fun H locs hP hD hS => ?_)
      have hP : va_P D vwCl [(a_t, .inr (5, [.ref a_t_parts, .ref a_t_signs, .ref a_t_numbers, .int t_laid_r3, .int (nI 4), .int (t_open - (nI 1)), .int t_digits, .int t_order, .int t_prizes])), (a_t_numbers, .inl (cI, 200, .inl t_numbers_r4)), (a_t_parts, .inl (cI, 200, .inl t_parts_r5)), (a_t_signs, .inl (cI, 200, .inl t_signs_r6))] H := hP
      have hD : va_D A [(a_t, .inr (5, [.ref a_t_parts, .ref a_t_signs, .ref a_t_numbers, .int t_laid_r3, .int (nI 4), .int (t_open - (nI 1)), .int t_digits, .int t_order, .int t_prizes])), (a_t_numbers, .inl (cI, 200, .inl t_numbers_r4)), (a_t_parts, .inl (cI, 200, .inl t_parts_r5)), (a_t_signs, .inl (cI, 200, .inl t_signs_r6))] := hD
      refine lv_aload_n hx hb dX5_takeJoint_83 rfl (lv_at hl 0 rfl) ?_
      refine va_get (D := D) (ci := 5) (C := RX5) (T := TX5) (N := 9) hx hb hts qX5_takeJoint_X5 hown hK hP 0 rfl rfl 5 (by decide) (hts _ kX5_takeJoint_2) (fun _ h9 => h9) rfl dX5_takeJoint_84 ?_
      refine lv_if_lt (tgt := 94) hx hb dX5_takeJoint_87 (by decide) (fun c8 => ?_) (fun c8 => ?_)
      · have h := zz_t h c8
        refine lv_iconst (v := (nI 0)) hx hb dX5_takeJoint_94 rfl ?_
        obtain ⟨j0_, g_⟩ := Prod.mk.inj (Option.some.inj h)
        obtain ⟨j1_, g_⟩ := Prod.mk.inj g_
        obtain ⟨j2_, g_⟩ := Prod.mk.inj g_
        obtain ⟨j3_, g_⟩ := Prod.mk.inj g_
        obtain ⟨j4_, g_⟩ := Prod.mk.inj g_
        obtain ⟨j5_, g_⟩ := Prod.mk.inj g_
        have j6_ := g_
        subst j0_
        subst j1_
        subst j2_
        subst j3_
        subst j4_
        subst j5_
        subst j6_
        exact W.zret (v := (nI 0)) hx hb hr rfl (fun t ht hW => ⟨⟨_, (), rfl, rfl, zPost.of hP hD hK ht hW [0, 1, 2, 3] rfl rfl rfl⟩, hS.F ht⟩) hS.2.2 dX5_takeJoint_95
      · have h := zz_f h c8
        refine lv_iconst (v := (nI 1)) hx hb dX5_takeJoint_90 rfl ?_
        refine lv_goto (tgt := 95) hx hb dX5_takeJoint_91 (by decide) ?_
        obtain ⟨j0_, g_⟩ := Prod.mk.inj (Option.some.inj h)
        obtain ⟨j1_, g_⟩ := Prod.mk.inj g_
        obtain ⟨j2_, g_⟩ := Prod.mk.inj g_
        obtain ⟨j3_, g_⟩ := Prod.mk.inj g_
        obtain ⟨j4_, g_⟩ := Prod.mk.inj g_
        obtain ⟨j5_, g_⟩ := Prod.mk.inj g_
        have j6_ := g_
        subst j0_
        subst j1_
        subst j2_
        subst j3_
        subst j4_
        subst j5_
        subst j6_
        exact W.zret (v := (nI 1)) hx hb hr rfl (fun t ht hW => ⟨⟨_, (), rfl, rfl, zPost.of hP hD hK ht hW [0, 1, 2, 3] rfl rfl rfl⟩, hS.F ht⟩) hS.2.2 dX5_takeJoint_95
    · have h := zz_f h c2
      by_cases c9 : x1 = (nI 59)
      · have h := zz_t h c9
        refine lv_lookup (off := 95) (tgt := 96) hx hb dX5_takeJoint_1 (by decide) (by rw [c9]; decide) (by decide) ?_
        refine lv_aload_n hx hb dX5_takeJoint_96 rfl (lv_at hl 0 rfl) ?_
        refine lv_iconst (v := (nI 5)) hx hb dX5_takeJoint_97 rfl ?_
        refine va_put (D := D) (ci := 5) (ty := .int) (C := RX5) (T := TX5) (N := 9) hx hb hts qX5_takeJoint_X5 tyX5 tyX5_ok nmX5 hown hK hP hD hS 0 rfl rfl 4 (by decide) (hts _ kX5_takeJoint_0) (fun _ h9 => h9) rfl (by decide +kernel) rfl (by first | rfl | exact zz_fit) (Nat.le_of_ble_eq_true rfl) dX5_takeJoint_98 (fun H locs hP hD hS => ?_)
        have hP : va_P D vwCl [(a_t, .inr (5, [.ref a_t_parts, .ref a_t_signs, .ref a_t_numbers, .int t_laid, .int (nI 5), .int t_open, .int t_digits, .int t_order, .int t_prizes])), (a_t_numbers, .inl (cI, 200, .inl t_numbers)), (a_t_parts, .inl (cI, 200, .inl t_parts)), (a_t_signs, .inl (cI, 200, .inl t_signs))] H := hP
        have hD : va_D A [(a_t, .inr (5, [.ref a_t_parts, .ref a_t_signs, .ref a_t_numbers, .int t_laid, .int (nI 5), .int t_open, .int t_digits, .int t_order, .int t_prizes])), (a_t_numbers, .inl (cI, 200, .inl t_numbers)), (a_t_parts, .inl (cI, 200, .inl t_parts)), (a_t_signs, .inl (cI, 200, .inl t_signs))] := hD
        refine lv_aload_n hx hb dX5_takeJoint_101 rfl (lv_at hl 0 rfl) ?_
        refine va_get (D := D) (ci := 5) (C := RX5) (T := TX5) (N := 9) hx hb hts qX5_takeJoint_X5 hown hK hP 0 rfl rfl 5 (by decide) (hts _ kX5_takeJoint_2) (fun _ h9 => h9) rfl dX5_takeJoint_102 ?_
        refine lv_if_ne (tgt := 112) hx hb dX5_takeJoint_105 (by decide) (fun c10 => ?_) (fun c10 => ?_)
        · have h := zz_f h c10
          refine lv_iconst (v := (nI 0)) hx hb dX5_takeJoint_112 rfl ?_
          obtain ⟨j0_, g_⟩ := Prod.mk.inj (Option.some.inj h)
          obtain ⟨j1_, g_⟩ := Prod.mk.inj g_
          obtain ⟨j2_, g_⟩ := Prod.mk.inj g_
          obtain ⟨j3_, g_⟩ := Prod.mk.inj g_
          obtain ⟨j4_, g_⟩ := Prod.mk.inj g_
          obtain ⟨j5_, g_⟩ := Prod.mk.inj g_
          have j6_ := g_
          subst j0_
          subst j1_
          subst j2_
          subst j3_
          subst j4_
          subst j5_
          subst j6_
          exact W.zret (v := (nI 0)) hx hb hr rfl (fun t ht hW => ⟨⟨_, (), rfl, rfl, zPost.of hP hD hK ht hW [0, 1, 2, 3] rfl rfl rfl⟩, hS.F ht⟩) hS.2.2 dX5_takeJoint_113
        · have h := zz_t h c10
          refine lv_iconst (v := (nI 1)) hx hb dX5_takeJoint_108 rfl ?_
          refine lv_goto (tgt := 113) hx hb dX5_takeJoint_109 (by decide) ?_
          obtain ⟨j0_, g_⟩ := Prod.mk.inj (Option.some.inj h)
          obtain ⟨j1_, g_⟩ := Prod.mk.inj g_
          obtain ⟨j2_, g_⟩ := Prod.mk.inj g_
          obtain ⟨j3_, g_⟩ := Prod.mk.inj g_
          obtain ⟨j4_, g_⟩ := Prod.mk.inj g_
          obtain ⟨j5_, g_⟩ := Prod.mk.inj g_
          have j6_ := g_
          subst j0_
          subst j1_
          subst j2_
          subst j3_
          subst j4_
          subst j5_
          subst j6_
          exact W.zret (v := (nI 1)) hx hb hr rfl (fun t ht hW => ⟨⟨_, (), rfl, rfl, zPost.of hP hD hK ht hW [0, 1, 2, 3] rfl rfl rfl⟩, hS.F ht⟩) hS.2.2 dX5_takeJoint_113
      · have h := zz_f h c9
        by_cases c11 : x1 = (nI 124)
        · have h := zz_t h c11
          refine lv_lookup (off := 50) (tgt := 51) hx hb dX5_takeJoint_1 (by decide) (by rw [c11]; decide) (by decide) ?_
          refine lv_aload_n hx hb dX5_takeJoint_51 rfl (lv_at hl 0 rfl) ?_
          refine lv_iconst (v := (nI 0)) hx hb dX5_takeJoint_52 rfl ?_
          refine va_put (D := D) (ci := 5) (ty := .int) (C := RX5) (T := TX5) (N := 9) hx hb hts qX5_takeJoint_X5 tyX5 tyX5_ok nmX5 hown hK hP hD hS 0 rfl rfl 4 (by decide) (hts _ kX5_takeJoint_0) (fun _ h9 => h9) rfl (by decide +kernel) rfl (by first | rfl | exact zz_fit) (Nat.le_of_ble_eq_true rfl) dX5_takeJoint_53 (fun H locs hP hD hS => ?_)
          have hP : va_P D vwCl [(a_t, .inr (5, [.ref a_t_parts, .ref a_t_signs, .ref a_t_numbers, .int t_laid, .int (nI 0), .int t_open, .int t_digits, .int t_order, .int t_prizes])), (a_t_numbers, .inl (cI, 200, .inl t_numbers)), (a_t_parts, .inl (cI, 200, .inl t_parts)), (a_t_signs, .inl (cI, 200, .inl t_signs))] H := hP
          have hD : va_D A [(a_t, .inr (5, [.ref a_t_parts, .ref a_t_signs, .ref a_t_numbers, .int t_laid, .int (nI 0), .int t_open, .int t_digits, .int t_order, .int t_prizes])), (a_t_numbers, .inl (cI, 200, .inl t_numbers)), (a_t_parts, .inl (cI, 200, .inl t_parts)), (a_t_signs, .inl (cI, 200, .inl t_signs))] := hD
          refine lv_aload_n hx hb dX5_takeJoint_56 rfl (lv_at hl 0 rfl) ?_
          refine lv_iload_n hx hb dX5_takeJoint_57 rfl (lv_at hl 1 rfl) ?_
          obtain ⟨⟨t_laid_r12, t_numbers_r13, t_parts_r14, t_signs_r15⟩, e16, h⟩ := zz_b h
          dsimp only at h
          refine zVv (As := [.int x1]) (rest := []) (C := RX5) (wr := []) [0, 1, 2, 3] [] 0 ⟨hx, hb, hml, hown, hts⟩ (mX5_lay l D cB cI cZ a_t a_t_parts a_t_signs a_t_numbers t_laid (nI 0) t_open t_digits t_order t_prizes t_numbers t_parts t_signs H.size x1 t_laid_r12 t_numbers_r13 t_parts_r14 t_signs_r15 e16) (cwV 1 hts gX5_takeJoint_X5_lay rfl rfl rfl (by decide +kernel) ⟨Nat.le_of_ble_eq_true rfl, Nat.le_of_ble_eq_true rfl⟩) hK hN hZ hP hD hS hA rfl rfl rfl rfl rfl rfl rfl rfl hl.1 rfl (lv_room (Nat.le_of_ble_eq_true rfl)) dX5_takeJoint_58 ⟨Nat.le_of_ble_eq_true rfl, Nat.le_of_ble_eq_true rfl⟩ (fun H locs hP hD hS => ?_)
          have hP : va_P D vwCl [(a_t, .inr (5, [.ref a_t_parts, .ref a_t_signs, .ref a_t_numbers, .int t_laid_r12, .int (nI 0), .int t_open, .int t_digits, .int t_order, .int t_prizes])), (a_t_numbers, .inl (cI, 200, .inl t_numbers_r13)), (a_t_parts, .inl (cI, 200, .inl t_parts_r14)), (a_t_signs, .inl (cI, 200, .inl t_signs_r15))] H := hP
          have hD : va_D A [(a_t, .inr (5, [.ref a_t_parts, .ref a_t_signs, .ref a_t_numbers, .int t_laid_r12, .int (nI 0), .int t_open, .int t_digits, .int t_order, .int t_prizes])), (a_t_numbers, .inl (cI, 200, .inl t_numbers_r13)), (a_t_parts, .inl (cI, 200, .inl t_parts_r14)), (a_t_signs, .inl (cI, 200, .inl t_signs_r15))] := hD
          refine lv_iconst (v := (nI 1)) hx hb dX5_takeJoint_61 rfl ?_
          obtain ⟨j0_, g_⟩ := Prod.mk.inj (Option.some.inj h)
          obtain ⟨j1_, g_⟩ := Prod.mk.inj g_
          obtain ⟨j2_, g_⟩ := Prod.mk.inj g_
          obtain ⟨j3_, g_⟩ := Prod.mk.inj g_
          obtain ⟨j4_, g_⟩ := Prod.mk.inj g_
          obtain ⟨j5_, g_⟩ := Prod.mk.inj g_
          have j6_ := g_
          subst j0_
          subst j1_
          subst j2_
          subst j3_
          subst j4_
          subst j5_
          subst j6_
          exact W.zret (v := (nI 1)) hx hb hr rfl (fun t ht hW => ⟨⟨_, (), rfl, rfl, zPost.of hP hD hK ht hW [0, 1, 2, 3] rfl rfl rfl⟩, hS.F ht⟩) hS.2.2 dX5_takeJoint_62
        · have h := zz_f h c11
          refine lv_lookup (off := 113) (tgt := 114) hx hb dX5_takeJoint_1 (by decide) ((lv_osw c1 (by decide)).trans ((lv_osw c2 (by decide)).trans ((lv_osw c9 (by decide)).trans ((lv_osw c11 (by decide)).trans rfl)))) (by decide) ?_
          refine lv_iconst (v := (nI 0)) hx hb dX5_takeJoint_114 rfl ?_
          obtain ⟨j0_, g_⟩ := Prod.mk.inj (Option.some.inj h)
          obtain ⟨j1_, g_⟩ := Prod.mk.inj g_
          obtain ⟨j2_, g_⟩ := Prod.mk.inj g_
          obtain ⟨j3_, g_⟩ := Prod.mk.inj g_
          obtain ⟨j4_, g_⟩ := Prod.mk.inj g_
          obtain ⟨j5_, g_⟩ := Prod.mk.inj g_
          have j6_ := g_
          subst j0_
          subst j1_
          subst j2_
          subst j3_
          subst j4_
          subst j5_
          subst j6_
          exact W.zret (v := (nI 0)) hx hb hr rfl (fun t ht hW => ⟨⟨_, (), rfl, rfl, zPost.of hP hD hK ht hW [0, 1, 2, 3] rfl rfl rfl⟩, hS.F ht⟩) hS.2.2 dX5_takeJoint_115
/-! RunDesk$Reading.takeOrder -/
theorem dX5_takeOrder_0 : decode cX5_takeOrder 0 = .ok (.aload_n 0, 1) := by decide +kernel
theorem dX5_takeOrder_1 : decode cX5_takeOrder 1 = .ok (.bipush 6, 2) := by decide +kernel
theorem dX5_takeOrder_3 : decode cX5_takeOrder 3 = .ok (.putfield 25, 3) := by decide +kernel
theorem dX5_takeOrder_6 : decode cX5_takeOrder 6 = .ok (.aload_n 0, 1) := by decide +kernel
theorem dX5_takeOrder_7 : decode cX5_takeOrder 7 = .ok (.iload_n 1, 1) := by decide +kernel
theorem dX5_takeOrder_8 : decode cX5_takeOrder 8 = .ok (.putfield 34, 3) := by decide +kernel
theorem dX5_takeOrder_11 : decode cX5_takeOrder 11 = .ok (.aload_n 0, 1) := by decide +kernel
theorem dX5_takeOrder_12 : decode cX5_takeOrder 12 = .ok (.iconst 0, 1) := by decide +kernel
theorem dX5_takeOrder_13 : decode cX5_takeOrder 13 = .ok (.putfield 31, 3) := by decide +kernel
theorem dX5_takeOrder_16 : decode cX5_takeOrder 16 = .ok (.iload_n 1, 1) := by decide +kernel
theorem dX5_takeOrder_17 : decode cX5_takeOrder 17 = .ok (.bipush 110, 2) := by decide +kernel
theorem dX5_takeOrder_19 : decode cX5_takeOrder 19 = .ok (.if_icmp .eq 9, 3) := by decide +kernel
theorem dX5_takeOrder_22 : decode cX5_takeOrder 22 = .ok (.iload_n 1, 1) := by decide +kernel
theorem dX5_takeOrder_23 : decode cX5_takeOrder 23 = .ok (.bipush 103, 2) := by decide +kernel
theorem dX5_takeOrder_25 : decode cX5_takeOrder 25 = .ok (.if_icmp .ne 7, 3) := by decide +kernel
theorem dX5_takeOrder_28 : decode cX5_takeOrder 28 = .ok (.iconst 1, 1) := by decide +kernel
theorem dX5_takeOrder_29 : decode cX5_takeOrder 29 = .ok (.goto 4, 3) := by decide +kernel
theorem dX5_takeOrder_32 : decode cX5_takeOrder 32 = .ok (.iconst 0, 1) := by decide +kernel
theorem dX5_takeOrder_33 : decode cX5_takeOrder 33 = .ok (.ireturn, 1) := by decide +kernel
theorem kX5_takeOrder_0 : (.fieldLink RX5 25 "RunDesk$Reading" "stage" "I" : Cond) ∈ wsX5_takeOrder := List.mem_of_getElem? (i := 1) (by decide +kernel)
theorem qX5_takeOrder_X5 : ∀ w ∈ wsX50, w ∈ wsX5_takeOrder := fun _ h => List.mem_cons_of_mem _ (List.mem_append_right _ (h))
theorem kX5_takeOrder_2 : (.fieldLink RX5 34 "RunDesk$Reading" "order" "I" : Cond) ∈ wsX5_takeOrder := List.mem_of_getElem? (i := 2) (by decide +kernel)
theorem kX5_takeOrder_3 : (.fieldLink RX5 31 "RunDesk$Reading" "digits" "I" : Cond) ∈ wsX5_takeOrder := List.mem_of_getElem? (i := 3) (by decide +kernel)
set_option maxHeartbeats 4000000 in
set_option maxRecDepth 100000 in
theorem mX5_takeOrder (l : Launch) (D : va_G) (cB cI cZ : ClassId) (a_t : Nat) (a_t_parts : Nat) (a_t_signs : Nat) (a_t_numbers : Nat) (t_laid : Int32) (t_stage : Int32) (t_open : Int32) (t_digits : Int32) (t_order : Int32) (t_prizes : Int32) (sz : Nat) (x1 : Int32) (b0 : Bool) (t_digits' : Int32) (t_order' : Int32) (t_stage' : Int32) (h : fX5_takeOrder t_digits t_order t_stage x1 = some (b0, t_digits', t_order', t_stage')) : Met l yX5_takeOrder wsX5_takeOrder ({ frames := 0, cells := 0, slots := 0, locals := 0 } : Room) (va_Pc [.ref a_t, .int x1] (zPre D (zT cB cI cZ) [(a_t, .inr (5, [.ref a_t_parts, .ref a_t_signs, .ref a_t_numbers, .int t_laid, .int t_stage, .int t_open, .int t_digits, .int t_order, .int t_prizes]))] sz)) (zQi (zb b0) D (zT cB cI cZ) [(a_t, .inr (5, [.ref a_t_parts, .ref a_t_signs, .ref a_t_numbers, .int t_laid, .int t_stage', .int t_open, .int t_digits', .int t_order', .int t_prizes]))] (va_A [(a_t, .inr (5, [.ref a_t_parts, .ref a_t_signs, .ref a_t_numbers, .int t_laid, .int t_stage, .int t_open, .int t_digits, .int t_order, .int t_prizes]))] sz)) 0 0 (va_A [(a_t, .inr (5, [.ref a_t_parts, .ref a_t_signs, .ref a_t_numbers, .int t_laid, .int t_stage, .int t_open, .int t_digits, .int t_order, .int t_prizes]))] sz) := by
  refine Met.ofW (cc := cX5_takeOrder) (maxL := 2) (ret := (some .boolean)) (by decide) rfl ?_
  intro p e s m args below meth c s₁ B hml hv
  obtain ⟨rfl, hsz, hP, hK, hN, hZ, hD0⟩ := hv
  have hx := B.exec
  have hb := B.bytes
  have hr := B.returns
  have hts := atoms_spec (ws := wsX5_takeOrder) B.pre
  have hown : s.vm.findClass RX5 = some m.cls := findClass_of_methodNamed B.named
  have hlocks := B.notSynchronized
  subst hsz
  have hD := hD0.self (sz := s.heap.size)
  generalize hAe : va_A [(a_t, .inr (5, [.ref a_t_parts, .ref a_t_signs, .ref a_t_numbers, .int t_laid, .int t_stage, .int t_open, .int t_digits, .int t_order, .int t_prizes]))] s.heap.size = A at hD hZ ⊢
  have hA : ∀ q : Nat, s.heap.size ≤ q → A q := fun q h => by rw [← hAe]; exact Or.inr h
  have hS : va_S A s.heap s.heap [] := va_S.rf
  have hl := lv_entry ([.ref a_t, .int x1]) (n := 2) (Nat.le_of_ble_eq_true rfl)
  rw [lg_entry_eq]
  generalize (lg_sl ([.ref a_t, .int x1]) ++ List.replicate (2 - (lg_sl ([.ref a_t, .int x1])).length) Slot.unset).toArray = ls at hl ⊢
  have hl : lv_has ls 2 [(0, .ref a_t), (1, .int x1)] := hl
  unfold fX5_takeOrder at h
  refine lv_aload_n hx hb dX5_takeOrder_0 rfl (lv_at hl 0 rfl) ?_
  refine lv_bipush (v := (nI 6)) hx hb dX5_takeOrder_1 rfl ?_
  refine va_put (D := D) (ci := 5) (ty := .int) (C := RX5) (T := TX5) (N := 9) hx hb hts qX5_takeOrder_X5 tyX5 tyX5_ok nmX5 hown hK hP hD hS 0 rfl rfl 4 (by decide) (hts _ kX5_takeOrder_0) (fun _ h9 => h9) rfl (by decide +kernel) rfl (by first | rfl | exact zz_fit) (Nat.le_of_ble_eq_true rfl) dX5_takeOrder_3 (fun H locs hP hD hS => ?_)
  have hP : va_P D vwCl [(a_t, .inr (5, [.ref a_t_parts, .ref a_t_signs, .ref a_t_numbers, .int t_laid, .int (nI 6), .int t_open, .int t_digits, .int t_order, .int t_prizes]))] H := hP
  have hD : va_D A [(a_t, .inr (5, [.ref a_t_parts, .ref a_t_signs, .ref a_t_numbers, .int t_laid, .int (nI 6), .int t_open, .int t_digits, .int t_order, .int t_prizes]))] := hD
  refine lv_aload_n hx hb dX5_takeOrder_6 rfl (lv_at hl 0 rfl) ?_
  refine lv_iload_n hx hb dX5_takeOrder_7 rfl (lv_at hl 1 rfl) ?_
  refine va_put (D := D) (ci := 5) (ty := .int) (C := RX5) (T := TX5) (N := 9) hx hb hts qX5_takeOrder_X5 tyX5 tyX5_ok nmX5 hown hK hP hD hS 0 rfl rfl 7 (by decide) (hts _ kX5_takeOrder_2) (fun _ h9 => h9) rfl (by decide +kernel) rfl (by first | rfl | exact zz_fit) (Nat.le_of_ble_eq_true rfl) dX5_takeOrder_8 (fun H locs hP hD hS => ?_)
  have hP : va_P D vwCl [(a_t, .inr (5, [.ref a_t_parts, .ref a_t_signs, .ref a_t_numbers, .int t_laid, .int (nI 6), .int t_open, .int t_digits, .int x1, .int t_prizes]))] H := hP
  have hD : va_D A [(a_t, .inr (5, [.ref a_t_parts, .ref a_t_signs, .ref a_t_numbers, .int t_laid, .int (nI 6), .int t_open, .int t_digits, .int x1, .int t_prizes]))] := hD
  refine lv_aload_n hx hb dX5_takeOrder_11 rfl (lv_at hl 0 rfl) ?_
  refine lv_iconst (v := (nI 0)) hx hb dX5_takeOrder_12 rfl ?_
  refine va_put (D := D) (ci := 5) (ty := .int) (C := RX5) (T := TX5) (N := 9) hx hb hts qX5_takeOrder_X5 tyX5 tyX5_ok nmX5 hown hK hP hD hS 0 rfl rfl 6 (by decide) (hts _ kX5_takeOrder_3) (fun _ h9 => h9) rfl (by decide +kernel) rfl (by first | rfl | exact zz_fit) (Nat.le_of_ble_eq_true rfl) dX5_takeOrder_13 (fun H locs hP hD hS => ?_)
  have hP : va_P D vwCl [(a_t, .inr (5, [.ref a_t_parts, .ref a_t_signs, .ref a_t_numbers, .int t_laid, .int (nI 6), .int t_open, .int (nI 0), .int x1, .int t_prizes]))] H := hP
  have hD : va_D A [(a_t, .inr (5, [.ref a_t_parts, .ref a_t_signs, .ref a_t_numbers, .int t_laid, .int (nI 6), .int t_open, .int (nI 0), .int x1, .int t_prizes]))] := hD
  refine lv_iload_n hx hb dX5_takeOrder_16 rfl (lv_at hl 1 rfl) ?_
  refine lv_bipush (v := (nI 110)) hx hb dX5_takeOrder_17 rfl ?_
  refine lv_icmp_eq (tgt := 28) hx hb dX5_takeOrder_19 (by decide) (fun c1 => ?_) (fun c1 => ?_)
  · have h := zz_t h c1
    refine lv_iconst (v := (nI 1)) hx hb dX5_takeOrder_28 rfl ?_
    refine lv_goto (tgt := 33) hx hb dX5_takeOrder_29 (by decide) ?_
    obtain ⟨j0_, g_⟩ := Prod.mk.inj (Option.some.inj h)
    obtain ⟨j1_, g_⟩ := Prod.mk.inj g_
    obtain ⟨j2_, g_⟩ := Prod.mk.inj g_
    have j3_ := g_
    subst j0_
    subst j1_
    subst j2_
    subst j3_
    exact W.zret (v := (nI 1)) hx hb hr rfl (fun t ht hW => ⟨⟨_, (), rfl, rfl, zPost.of hP hD hK ht hW [0] rfl rfl rfl⟩, hS.F ht⟩) hS.2.2 dX5_takeOrder_33
  · have h := zz_f h c1
    refine lv_iload_n hx hb dX5_takeOrder_22 rfl (lv_at hl 1 rfl) ?_
    refine lv_bipush (v := (nI 103)) hx hb dX5_takeOrder_23 rfl ?_
    refine lv_icmp_ne (tgt := 32) hx hb dX5_takeOrder_25 (by decide) (fun c2 => ?_) (fun c2 => ?_)
    · have h := zz_f h c2
      refine lv_iconst (v := (nI 0)) hx hb dX5_takeOrder_32 rfl ?_
      obtain ⟨j0_, g_⟩ := Prod.mk.inj (Option.some.inj h)
      obtain ⟨j1_, g_⟩ := Prod.mk.inj g_
      obtain ⟨j2_, g_⟩ := Prod.mk.inj g_
      have j3_ := g_
      subst j0_
      subst j1_
      subst j2_
      subst j3_
      exact W.zret (v := (nI 0)) hx hb hr rfl (fun t ht hW => ⟨⟨_, (), rfl, rfl, zPost.of hP hD hK ht hW [0] rfl rfl rfl⟩, hS.F ht⟩) hS.2.2 dX5_takeOrder_33
    · have h := zz_t h c2
      refine lv_iconst (v := (nI 1)) hx hb dX5_takeOrder_28 rfl ?_
      refine lv_goto (tgt := 33) hx hb dX5_takeOrder_29 (by decide) ?_
      obtain ⟨j0_, g_⟩ := Prod.mk.inj (Option.some.inj h)
      obtain ⟨j1_, g_⟩ := Prod.mk.inj g_
      obtain ⟨j2_, g_⟩ := Prod.mk.inj g_
      have j3_ := g_
      subst j0_
      subst j1_
      subst j2_
      subst j3_
      exact W.zret (v := (nI 1)) hx hb hr rfl (fun t ht hW => ⟨⟨_, (), rfl, rfl, zPost.of hP hD hK ht hW [0] rfl rfl rfl⟩, hS.F ht⟩) hS.2.2 dX5_takeOrder_33
/-! RunDesk$Reading.takePrizeDigit -/
theorem dX5_takePrizeDigit_0 : decode cX5_takePrizeDigit 0 = .ok (.aload_n 0, 1) := by decide +kernel
theorem dX5_takePrizeDigit_1 : decode cX5_takePrizeDigit 1 = .ok (.bipush 8, 2) := by decide +kernel
theorem dX5_takePrizeDigit_3 : decode cX5_takePrizeDigit 3 = .ok (.putfield 25, 3) := by decide +kernel
theorem dX5_takePrizeDigit_6 : decode cX5_takePrizeDigit 6 = .ok (.aload_n 0, 1) := by decide +kernel
theorem dX5_takePrizeDigit_7 : decode cX5_takePrizeDigit 7 = .ok (.dup, 1) := by decide +kernel
theorem dX5_takePrizeDigit_8 : decode cX5_takePrizeDigit 8 = .ok (.getfield 31, 3) := by decide +kernel
theorem dX5_takePrizeDigit_11 : decode cX5_takePrizeDigit 11 = .ok (.iconst 1, 1) := by decide +kernel
theorem dX5_takePrizeDigit_12 : decode cX5_takePrizeDigit 12 = .ok (.iadd, 1) := by decide +kernel
theorem dX5_takePrizeDigit_13 : decode cX5_takePrizeDigit 13 = .ok (.putfield 31, 3) := by decide +kernel
theorem dX5_takePrizeDigit_16 : decode cX5_takePrizeDigit 16 = .ok (.iload_n 1, 1) := by decide +kernel
theorem dX5_takePrizeDigit_17 : decode cX5_takePrizeDigit 17 = .ok (.invokestatic 66, 3) := by decide +kernel
theorem dX5_takePrizeDigit_20 : decode cX5_takePrizeDigit 20 = .ok (.ifCond .eq 11, 3) := by decide +kernel
theorem dX5_takePrizeDigit_23 : decode cX5_takePrizeDigit 23 = .ok (.aload_n 0, 1) := by decide +kernel
theorem dX5_takePrizeDigit_24 : decode cX5_takePrizeDigit 24 = .ok (.getfield 31, 3) := by decide +kernel
theorem dX5_takePrizeDigit_27 : decode cX5_takePrizeDigit 27 = .ok (.iconst 5, 1) := by decide +kernel
theorem dX5_takePrizeDigit_28 : decode cX5_takePrizeDigit 28 = .ok (.if_icmp .le 5, 3) := by decide +kernel
theorem dX5_takePrizeDigit_31 : decode cX5_takePrizeDigit 31 = .ok (.iconst 0, 1) := by decide +kernel
theorem dX5_takePrizeDigit_32 : decode cX5_takePrizeDigit 32 = .ok (.ireturn, 1) := by decide +kernel
theorem dX5_takePrizeDigit_33 : decode cX5_takePrizeDigit 33 = .ok (.aload_n 0, 1) := by decide +kernel
theorem dX5_takePrizeDigit_34 : decode cX5_takePrizeDigit 34 = .ok (.aload_n 0, 1) := by decide +kernel
theorem dX5_takePrizeDigit_35 : decode cX5_takePrizeDigit 35 = .ok (.getfield 37, 3) := by decide +kernel
theorem dX5_takePrizeDigit_38 : decode cX5_takePrizeDigit 38 = .ok (.bipush 10, 2) := by decide +kernel
theorem dX5_takePrizeDigit_40 : decode cX5_takePrizeDigit 40 = .ok (.imul, 1) := by decide +kernel
theorem dX5_takePrizeDigit_41 : decode cX5_takePrizeDigit 41 = .ok (.iload_n 1, 1) := by decide +kernel
theorem dX5_takePrizeDigit_42 : decode cX5_takePrizeDigit 42 = .ok (.iadd, 1) := by decide +kernel
theorem dX5_takePrizeDigit_43 : decode cX5_takePrizeDigit 43 = .ok (.bipush 48, 2) := by decide +kernel
theorem dX5_takePrizeDigit_45 : decode cX5_takePrizeDigit 45 = .ok (.isub, 1) := by decide +kernel
theorem dX5_takePrizeDigit_46 : decode cX5_takePrizeDigit 46 = .ok (.putfield 37, 3) := by decide +kernel
theorem dX5_takePrizeDigit_49 : decode cX5_takePrizeDigit 49 = .ok (.iconst 1, 1) := by decide +kernel
theorem dX5_takePrizeDigit_50 : decode cX5_takePrizeDigit 50 = .ok (.ireturn, 1) := by decide +kernel
set_option maxRecDepth 20000 in
theorem ggX5_takePrizeDigit_X5_isDigit : GoodIn wsX5_takePrizeDigit wsX5_isDigit := goodIn_sub (List.forall_mem_cons.mpr ⟨List.mem_cons_of_mem _ (List.mem_append_left _ (List.mem_of_getElem? (i := 6) rfl)), (List.forall_mem_cons.mpr ⟨List.mem_cons_of_mem _ (List.mem_append_left _ (List.mem_of_getElem? (i := 7) rfl)), (List.forall_mem_cons.mpr ⟨List.mem_cons_of_mem _ (List.mem_append_left _ (List.mem_of_getElem? (i := 8) rfl)), (List.forall_mem_cons.mpr ⟨List.mem_cons_of_mem _ (List.mem_append_left _ (List.mem_of_getElem? (i := 9) rfl)), (fun _ h => nomatch h)⟩)⟩)⟩)⟩) (by decide +kernel)
set_option maxRecDepth 20000 in
theorem gX5_takePrizeDigit_X5_isDigit : GoodIn wsX5_takePrizeDigit (va_wsS RX5 66 yX5_isDigit wsX5_isDigit) := goodIn_app (goodIn_of _ (by decide +kernel)) ggX5_takePrizeDigit_X5_isDigit
theorem kX5_takePrizeDigit_0 : (.fieldLink RX5 25 "RunDesk$Reading" "stage" "I" : Cond) ∈ wsX5_takePrizeDigit := List.mem_of_getElem? (i := 1) (by decide +kernel)
theorem qX5_takePrizeDigit_X5 : ∀ w ∈ wsX50, w ∈ wsX5_takePrizeDigit := fun _ h => List.mem_cons_of_mem _ (List.mem_append_right _ (h))
theorem kX5_takePrizeDigit_2 : (.fieldLink RX5 31 "RunDesk$Reading" "digits" "I" : Cond) ∈ wsX5_takePrizeDigit := List.mem_of_getElem? (i := 2) (by decide +kernel)
theorem kX5_takePrizeDigit_3 : (.fieldLink RX5 37 "RunDesk$Reading" "prizes" "I" : Cond) ∈ wsX5_takePrizeDigit := List.mem_of_getElem? (i := 3) (by decide +kernel)
set_option maxHeartbeats 4000000 in
set_option maxRecDepth 100000 in
theorem mX5_takePrizeDigit (l : Launch) (D : va_G) (cB cI cZ : ClassId) (a_t : Nat) (a_t_parts : Nat) (a_t_signs : Nat) (a_t_numbers : Nat) (t_laid : Int32) (t_stage : Int32) (t_open : Int32) (t_digits : Int32) (t_order : Int32) (t_prizes : Int32) (sz : Nat) (x1 : Int32) (b0 : Bool) (t_digits' : Int32) (t_prizes' : Int32) (t_stage' : Int32) (h : fX5_takePrizeDigit t_digits t_prizes t_stage x1 = some (b0, t_digits', t_prizes', t_stage')) : Met l yX5_takePrizeDigit wsX5_takePrizeDigit ({ frames := 2, cells := 0, slots := 0, locals := 42 } : Room) (va_Pc [.ref a_t, .int x1] (zPre D (zT cB cI cZ) [(a_t, .inr (5, [.ref a_t_parts, .ref a_t_signs, .ref a_t_numbers, .int t_laid, .int t_stage, .int t_open, .int t_digits, .int t_order, .int t_prizes]))] sz)) (zQi (zb b0) D (zT cB cI cZ) [(a_t, .inr (5, [.ref a_t_parts, .ref a_t_signs, .ref a_t_numbers, .int t_laid, .int t_stage', .int t_open, .int t_digits', .int t_order, .int t_prizes']))] (va_A [(a_t, .inr (5, [.ref a_t_parts, .ref a_t_signs, .ref a_t_numbers, .int t_laid, .int t_stage, .int t_open, .int t_digits, .int t_order, .int t_prizes]))] sz)) 0 0 (va_A [(a_t, .inr (5, [.ref a_t_parts, .ref a_t_signs, .ref a_t_numbers, .int t_laid, .int t_stage, .int t_open, .int t_digits, .int t_order, .int t_prizes]))] sz) := by
  refine Met.ofW (cc := cX5_takePrizeDigit) (maxL := 2) (ret := (some .boolean)) (by decide) rfl ?_
  intro p e s m args below meth c s₁ B hml hv
  obtain ⟨rfl, hsz, hP, hK, hN, hZ, hD0⟩ := hv
  have hx := B.exec
  have hb := B.bytes
  have hr := B.returns
  have hts := atoms_spec (ws := wsX5_takePrizeDigit) B.pre
  have hown : s.vm.findClass RX5 = some m.cls := findClass_of_methodNamed B.named
  have hlocks := B.notSynchronized
  subst hsz
  have hD := hD0.self (sz := s.heap.size)
  generalize hAe : va_A [(a_t, .inr (5, [.ref a_t_parts, .ref a_t_signs, .ref a_t_numbers, .int t_laid, .int t_stage, .int t_open, .int t_digits, .int t_order, .int t_prizes]))] s.heap.size = A at hD hZ ⊢
  have hA : ∀ q : Nat, s.heap.size ≤ q → A q := fun q h => by rw [← hAe]; exact Or.inr h
  have hS : va_S A s.heap s.heap [] := va_S.rf
  have hl := lv_entry ([.ref a_t, .int x1]) (n := 2) (Nat.le_of_ble_eq_true rfl)
  rw [lg_entry_eq]
  generalize (lg_sl ([.ref a_t, .int x1]) ++ List.replicate (2 - (lg_sl ([.ref a_t, .int x1])).length) Slot.unset).toArray = ls at hl ⊢
  have hl : lv_has ls 2 [(0, .ref a_t), (1, .int x1)] := hl
  unfold fX5_takePrizeDigit at h
  refine lv_aload_n hx hb dX5_takePrizeDigit_0 rfl (lv_at hl 0 rfl) ?_
  refine lv_bipush (v := (nI 8)) hx hb dX5_takePrizeDigit_1 rfl ?_
  refine va_put (D := D) (ci := 5) (ty := .int) (C := RX5) (T := TX5) (N := 9) hx hb hts qX5_takePrizeDigit_X5 tyX5 tyX5_ok nmX5 hown hK hP hD hS 0 rfl rfl 4 (by decide) (hts _ kX5_takePrizeDigit_0) (fun _ h9 => h9) rfl (by decide +kernel) rfl (by first | rfl | exact zz_fit) (Nat.le_of_ble_eq_true rfl) dX5_takePrizeDigit_3 (fun H locs hP hD hS => ?_)
  have hP : va_P D vwCl [(a_t, .inr (5, [.ref a_t_parts, .ref a_t_signs, .ref a_t_numbers, .int t_laid, .int (nI 8), .int t_open, .int t_digits, .int t_order, .int t_prizes]))] H := hP
  have hD : va_D A [(a_t, .inr (5, [.ref a_t_parts, .ref a_t_signs, .ref a_t_numbers, .int t_laid, .int (nI 8), .int t_open, .int t_digits, .int t_order, .int t_prizes]))] := hD
  refine lv_aload_n hx hb dX5_takePrizeDigit_6 rfl (lv_at hl 0 rfl) ?_
  refine lv_dup hx hb dX5_takePrizeDigit_7 rfl ?_
  refine va_get (D := D) (ci := 5) (C := RX5) (T := TX5) (N := 9) hx hb hts qX5_takePrizeDigit_X5 hown hK hP 0 rfl rfl 6 (by decide) (hts _ kX5_takePrizeDigit_2) (fun _ h9 => h9) rfl dX5_takePrizeDigit_8 ?_
  refine lv_iconst (v := (nI 1)) hx hb dX5_takePrizeDigit_11 rfl ?_
  refine lv_iadd hx hb dX5_takePrizeDigit_12 ?_
  refine va_put (D := D) (ci := 5) (ty := .int) (C := RX5) (T := TX5) (N := 9) hx hb hts qX5_takePrizeDigit_X5 tyX5 tyX5_ok nmX5 hown hK hP hD hS 0 rfl rfl 6 (by decide) (hts _ kX5_takePrizeDigit_2) (fun _ h9 => h9) rfl (by decide +kernel) rfl (by first | rfl | exact zz_fit) (Nat.le_of_ble_eq_true rfl) dX5_takePrizeDigit_13 (fun H locs hP hD hS => ?_)
  have hP : va_P D vwCl [(a_t, .inr (5, [.ref a_t_parts, .ref a_t_signs, .ref a_t_numbers, .int t_laid, .int (nI 8), .int t_open, .int (t_digits + (nI 1)), .int t_order, .int t_prizes]))] H := hP
  have hD : va_D A [(a_t, .inr (5, [.ref a_t_parts, .ref a_t_signs, .ref a_t_numbers, .int t_laid, .int (nI 8), .int t_open, .int (t_digits + (nI 1)), .int t_order, .int t_prizes]))] := hD
  refine lv_iload_n hx hb dX5_takePrizeDigit_16 rfl (lv_at hl 1 rfl) ?_
  obtain ⟨b1, e2, h⟩ := zz_b h
  refine zSi (As := [.int x1]) (rest := []) (wr := [(a_t, .inr (5, [.ref a_t_parts, .ref a_t_signs, .ref a_t_numbers, .int t_laid, .int (nI 8), .int t_open, .int (t_digits + (nI 1)), .int t_order, .int t_prizes]))]) [] [0] ⟨hx, hb, hml, hown, hts⟩ (mX5_isDigit l D cB cI cZ H.size x1 b1 e2) (va_cwS 1 hts gX5_takePrizeDigit_X5_isDigit rfl rfl rfl (by decide +kernel) ⟨Nat.le_of_ble_eq_true rfl, Nat.le_of_ble_eq_true rfl⟩) hK hN hZ hP hD hS hA rfl rfl rfl rfl rfl rfl hl.1 rfl (lv_room (Nat.le_of_ble_eq_true rfl)) dX5_takePrizeDigit_17 ⟨Nat.le_of_ble_eq_true rfl, Nat.le_of_ble_eq_true rfl⟩ (fun H locs hP hD hS => ?_)
  have hP : va_P D vwCl [(a_t, .inr (5, [.ref a_t_parts, .ref a_t_signs, .ref a_t_numbers, .int t_laid, .int (nI 8), .int t_open, .int (t_digits + (nI 1)), .int t_order, .int t_prizes]))] H := hP
  have hD : va_D A [(a_t, .inr (5, [.ref a_t_parts, .ref a_t_signs, .ref a_t_numbers, .int t_laid, .int (nI 8), .int t_open, .int (t_digits + (nI 1)), .int t_order, .int t_prizes]))] := hD
  refine lv_if_eq (tgt := 31) hx hb dX5_takePrizeDigit_20 (by decide) (fun c3 => ?_) (fun c3 => ?_)
  · have h := zz_t h c3
    refine lv_iconst (v := (nI 0)) hx hb dX5_takePrizeDigit_31 rfl ?_
    obtain ⟨j0_, g_⟩ := Prod.mk.inj (Option.some.inj h)
    obtain ⟨j1_, g_⟩ := Prod.mk.inj g_
    obtain ⟨j2_, g_⟩ := Prod.mk.inj g_
    have j3_ := g_
    subst j0_
    subst j1_
    subst j2_
    subst j3_
    exact W.zret (v := (nI 0)) hx hb hr rfl (fun t ht hW => ⟨⟨_, (), rfl, rfl, zPost.of hP hD hK ht hW [0] rfl rfl rfl⟩, hS.F ht⟩) hS.2.2 dX5_takePrizeDigit_32
  · have h := zz_f h c3
    refine lv_aload_n hx hb dX5_takePrizeDigit_23 rfl (lv_at hl 0 rfl) ?_
    refine va_get (D := D) (ci := 5) (C := RX5) (T := TX5) (N := 9) hx hb hts qX5_takePrizeDigit_X5 hown hK hP 0 rfl rfl 6 (by decide) (hts _ kX5_takePrizeDigit_2) (fun _ h9 => h9) rfl dX5_takePrizeDigit_24 ?_
    refine lv_iconst (v := (nI 5)) hx hb dX5_takePrizeDigit_27 rfl ?_
    refine lv_icmp_le (tgt := 33) hx hb dX5_takePrizeDigit_28 (by decide) (fun c4 => ?_) (fun c4 => ?_)
    · have h := zz_t h c4
      refine lv_aload_n hx hb dX5_takePrizeDigit_33 rfl (lv_at hl 0 rfl) ?_
      refine lv_aload_n hx hb dX5_takePrizeDigit_34 rfl (lv_at hl 0 rfl) ?_
      refine va_get (D := D) (ci := 5) (C := RX5) (T := TX5) (N := 9) hx hb hts qX5_takePrizeDigit_X5 hown hK hP 0 rfl rfl 8 (by decide) (hts _ kX5_takePrizeDigit_3) (fun _ h9 => h9) rfl dX5_takePrizeDigit_35 ?_
      refine lv_bipush (v := (nI 10)) hx hb dX5_takePrizeDigit_38 rfl ?_
      refine lv_imul hx hb dX5_takePrizeDigit_40 ?_
      refine lv_iload_n hx hb dX5_takePrizeDigit_41 rfl (lv_at hl 1 rfl) ?_
      refine lv_iadd hx hb dX5_takePrizeDigit_42 ?_
      refine lv_bipush (v := (nI 48)) hx hb dX5_takePrizeDigit_43 rfl ?_
      refine lv_isub hx hb dX5_takePrizeDigit_45 ?_
      refine va_put (D := D) (ci := 5) (ty := .int) (C := RX5) (T := TX5) (N := 9) hx hb hts qX5_takePrizeDigit_X5 tyX5 tyX5_ok nmX5 hown hK hP hD hS 0 rfl rfl 8 (by decide) (hts _ kX5_takePrizeDigit_3) (fun _ h9 => h9) rfl (by decide +kernel) rfl (by first | rfl | exact zz_fit) (Nat.le_of_ble_eq_true rfl) dX5_takePrizeDigit_46 (fun H locs hP hD hS => ?_)
      have hP : va_P D vwCl [(a_t, .inr (5, [.ref a_t_parts, .ref a_t_signs, .ref a_t_numbers, .int t_laid, .int (nI 8), .int t_open, .int (t_digits + (nI 1)), .int t_order, .int (((t_prizes * (nI 10)) + x1) - (nI 48))]))] H := hP
      have hD : va_D A [(a_t, .inr (5, [.ref a_t_parts, .ref a_t_signs, .ref a_t_numbers, .int t_laid, .int (nI 8), .int t_open, .int (t_digits + (nI 1)), .int t_order, .int (((t_prizes * (nI 10)) + x1) - (nI 48))]))] := hD
      refine lv_iconst (v := (nI 1)) hx hb dX5_takePrizeDigit_49 rfl ?_
      obtain ⟨j0_, g_⟩ := Prod.mk.inj (Option.some.inj h)
      obtain ⟨j1_, g_⟩ := Prod.mk.inj g_
      obtain ⟨j2_, g_⟩ := Prod.mk.inj g_
      have j3_ := g_
      subst j0_
      subst j1_
      subst j2_
      subst j3_
      exact W.zret (v := (nI 1)) hx hb hr rfl (fun t ht hW => ⟨⟨_, (), rfl, rfl, zPost.of hP hD hK ht hW [0] rfl rfl rfl⟩, hS.F ht⟩) hS.2.2 dX5_takePrizeDigit_50
    · have h := zz_f h c4
      refine lv_iconst (v := (nI 0)) hx hb dX5_takePrizeDigit_31 rfl ?_
      obtain ⟨j0_, g_⟩ := Prod.mk.inj (Option.some.inj h)
      obtain ⟨j1_, g_⟩ := Prod.mk.inj g_
      obtain ⟨j2_, g_⟩ := Prod.mk.inj g_
      have j3_ := g_
      subst j0_
      subst j1_
      subst j2_
      subst j3_
      exact W.zret (v := (nI 0)) hx hb hr rfl (fun t ht hW => ⟨⟨_, (), rfl, rfl, zPost.of hP hD hK ht hW [0] rfl rfl rfl⟩, hS.F ht⟩) hS.2.2 dX5_takePrizeDigit_32
/-! RunDesk$Reading.take -/
theorem dX5_take_0 : decode cX5_take 0 = .ok (.iload_n 1, 1) := by decide +kernel
theorem dX5_take_1 : decode cX5_take 1 = .ok (.bipush 32, 2) := by decide +kernel
theorem dX5_take_3 : decode cX5_take 3 = .ok (.if_icmp .ne 9, 3) := by decide +kernel
theorem dX5_take_6 : decode cX5_take 6 = .ok (.aload_n 0, 1) := by decide +kernel
theorem dX5_take_7 : decode cX5_take 7 = .ok (.invokevirtual 54, 3) := by decide +kernel
theorem dX5_take_10 : decode cX5_take 10 = .ok (.iconst 1, 1) := by decide +kernel
theorem dX5_take_11 : decode cX5_take 11 = .ok (.ireturn, 1) := by decide +kernel
theorem dX5_take_12 : decode cX5_take 12 = .ok (.aload_n 0, 1) := by decide +kernel
theorem dX5_take_13 : decode cX5_take 13 = .ok (.getfield 25, 3) := by decide +kernel
theorem dX5_take_16 : decode cX5_take 16 = .ok (.tableswitch 127 0 8 #[52, 58, 64, 70, 91, 97, 103, 121, 121], 52) := by decide +kernel
theorem dX5_take_68 : decode cX5_take 68 = .ok (.aload_n 0, 1) := by decide +kernel
theorem dX5_take_69 : decode cX5_take 69 = .ok (.iload_n 1, 1) := by decide +kernel
theorem dX5_take_70 : decode cX5_take 70 = .ok (.invokevirtual 57, 3) := by decide +kernel
theorem dX5_take_73 : decode cX5_take 73 = .ok (.ireturn, 1) := by decide +kernel
theorem dX5_take_74 : decode cX5_take 74 = .ok (.aload_n 0, 1) := by decide +kernel
theorem dX5_take_75 : decode cX5_take 75 = .ok (.iload_n 1, 1) := by decide +kernel
theorem dX5_take_76 : decode cX5_take 76 = .ok (.invokevirtual 60, 3) := by decide +kernel
theorem dX5_take_79 : decode cX5_take 79 = .ok (.ireturn, 1) := by decide +kernel
theorem dX5_take_80 : decode cX5_take 80 = .ok (.aload_n 0, 1) := by decide +kernel
theorem dX5_take_81 : decode cX5_take 81 = .ok (.iload_n 1, 1) := by decide +kernel
theorem dX5_take_82 : decode cX5_take 82 = .ok (.invokevirtual 63, 3) := by decide +kernel
theorem dX5_take_85 : decode cX5_take 85 = .ok (.ireturn, 1) := by decide +kernel
theorem dX5_take_86 : decode cX5_take 86 = .ok (.iload_n 1, 1) := by decide +kernel
theorem dX5_take_87 : decode cX5_take 87 = .ok (.invokestatic 66, 3) := by decide +kernel
theorem dX5_take_90 : decode cX5_take 90 = .ok (.ifCond .eq 11, 3) := by decide +kernel
theorem dX5_take_93 : decode cX5_take 93 = .ok (.aload_n 0, 1) := by decide +kernel
theorem dX5_take_94 : decode cX5_take 94 = .ok (.iload_n 1, 1) := by decide +kernel
theorem dX5_take_95 : decode cX5_take 95 = .ok (.invokevirtual 63, 3) := by decide +kernel
theorem dX5_take_98 : decode cX5_take 98 = .ok (.goto 8, 3) := by decide +kernel
theorem dX5_take_101 : decode cX5_take 101 = .ok (.aload_n 0, 1) := by decide +kernel
theorem dX5_take_102 : decode cX5_take 102 = .ok (.iload_n 1, 1) := by decide +kernel
theorem dX5_take_103 : decode cX5_take 103 = .ok (.invokevirtual 69, 3) := by decide +kernel
theorem dX5_take_106 : decode cX5_take 106 = .ok (.ireturn, 1) := by decide +kernel
theorem dX5_take_107 : decode cX5_take 107 = .ok (.aload_n 0, 1) := by decide +kernel
theorem dX5_take_108 : decode cX5_take 108 = .ok (.iload_n 1, 1) := by decide +kernel
theorem dX5_take_109 : decode cX5_take 109 = .ok (.invokevirtual 69, 3) := by decide +kernel
theorem dX5_take_112 : decode cX5_take 112 = .ok (.ireturn, 1) := by decide +kernel
theorem dX5_take_113 : decode cX5_take 113 = .ok (.aload_n 0, 1) := by decide +kernel
theorem dX5_take_114 : decode cX5_take 114 = .ok (.iload_n 1, 1) := by decide +kernel
theorem dX5_take_115 : decode cX5_take 115 = .ok (.invokevirtual 72, 3) := by decide +kernel
theorem dX5_take_118 : decode cX5_take 118 = .ok (.ireturn, 1) := by decide +kernel
theorem dX5_take_119 : decode cX5_take 119 = .ok (.aload_n 0, 1) := by decide +kernel
theorem dX5_take_120 : decode cX5_take 120 = .ok (.bipush 7, 2) := by decide +kernel
theorem dX5_take_122 : decode cX5_take 122 = .ok (.putfield 25, 3) := by decide +kernel
theorem dX5_take_125 : decode cX5_take 125 = .ok (.iload_n 1, 1) := by decide +kernel
theorem dX5_take_126 : decode cX5_take 126 = .ok (.bipush 59, 2) := by decide +kernel
theorem dX5_take_128 : decode cX5_take 128 = .ok (.if_icmp .ne 7, 3) := by decide +kernel
theorem dX5_take_131 : decode cX5_take 131 = .ok (.iconst 1, 1) := by decide +kernel
theorem dX5_take_132 : decode cX5_take 132 = .ok (.goto 4, 3) := by decide +kernel
theorem dX5_take_135 : decode cX5_take 135 = .ok (.iconst 0, 1) := by decide +kernel
theorem dX5_take_136 : decode cX5_take 136 = .ok (.ireturn, 1) := by decide +kernel
theorem dX5_take_137 : decode cX5_take 137 = .ok (.aload_n 0, 1) := by decide +kernel
theorem dX5_take_138 : decode cX5_take 138 = .ok (.iload_n 1, 1) := by decide +kernel
theorem dX5_take_139 : decode cX5_take 139 = .ok (.invokevirtual 75, 3) := by decide +kernel
theorem dX5_take_142 : decode cX5_take 142 = .ok (.ireturn, 1) := by decide +kernel
theorem dX5_take_143 : decode cX5_take 143 = .ok (.iconst 0, 1) := by decide +kernel
theorem dX5_take_144 : decode cX5_take 144 = .ok (.ireturn, 1) := by decide +kernel
set_option maxRecDepth 20000 in
theorem ggX5_take_X5_endNumber : GoodIn wsX5_take wsX5_endNumber := goodIn_sub (List.forall_mem_cons.mpr ⟨List.mem_cons_of_mem _ (List.mem_append_left _ (List.mem_append_left _ (List.mem_of_getElem? (l := wsX5_take_r1) (i := 5) rfl))), (List.forall_mem_append.mpr ⟨(List.forall_mem_cons.mpr ⟨List.mem_cons_of_mem _ (List.mem_append_left _ (List.mem_append_left _ (List.mem_of_getElem? (l := wsX5_take_r1) (i := 0) rfl))), (fun _ h => nomatch h)⟩), (fun _ h => List.mem_cons_of_mem _ (List.mem_append_right _ (h)))⟩)⟩) (by decide +kernel)
set_option maxRecDepth 20000 in
theorem gX5_take_X5_endNumber : GoodIn wsX5_take (wsV RX5 54 RX5 yX5_endNumber wsX5_endNumber) := goodIn_app (goodIn_of _ (by decide +kernel)) ggX5_take_X5_endNumber
set_option maxRecDepth 20000 in
theorem ggX5_take_X5_takeUnit : GoodIn wsX5_take wsX5_takeUnit := goodIn_sub (List.forall_mem_cons.mpr ⟨List.mem_cons_of_mem _ (List.mem_append_left _ (List.mem_append_left _ (List.mem_of_getElem? (l := wsX5_take_r1) (i := 9) rfl))), (List.forall_mem_append.mpr ⟨(List.forall_mem_cons.mpr ⟨List.mem_cons_of_mem _ (List.mem_append_left _ (List.mem_append_left _ (List.mem_of_getElem? (l := wsX5_take_r1) (i := 10) rfl))), (List.forall_mem_cons.mpr ⟨List.mem_cons_of_mem _ (List.mem_append_left _ (List.mem_append_left _ (List.mem_of_getElem? (l := wsX5_take_r1) (i := 0) rfl))), (List.forall_mem_cons.mpr ⟨List.mem_cons_of_mem _ (List.mem_append_left _ (List.mem_append_left _ (List.mem_of_getElem? (l := wsX5_take_r1) (i := 11) rfl))), (List.forall_mem_cons.mpr ⟨List.mem_cons_of_mem _ (List.mem_append_left _ (List.mem_append_left _ (List.mem_of_getElem? (l := wsX5_take_r1) (i := 12) rfl))), (List.forall_mem_cons.mpr ⟨List.mem_cons_of_mem _ (List.mem_append_left _ (List.mem_append_left _ (List.mem_of_getElem? (l := wsX5_take_r1) (i := 13) rfl))), (List.forall_mem_cons.mpr ⟨List.mem_cons_of_mem _ (List.mem_append_left _ (List.mem_append_left _ (List.mem_of_getElem? (l := wsX5_take_r1) (i := 4) rfl))), (List.forall_mem_cons.mpr ⟨List.mem_cons_of_mem _ (List.mem_append_left _ (List.mem_append_left _ (List.mem_of_getElem? (l := wsX5_take_r1) (i := 14) rfl))), (List.forall_mem_cons.mpr ⟨List.mem_cons_of_mem _ (List.mem_append_left _ (List.mem_append_left _ (List.mem_of_getElem? (l := wsX5_take_r1) (i := 15) rfl))), (List.forall_mem_cons.mpr ⟨List.mem_cons_of_mem _ (List.mem_append_left _ (List.mem_append_left _ (List.mem_of_getElem? (l := wsX5_take_r1) (i := 16) rfl))), (List.forall_mem_cons.mpr ⟨List.mem_cons_of_mem _ (List.mem_append_left _ (List.mem_append_left _ (List.mem_of_getElem? (l := wsX5_take_r1) (i := 17) rfl))), (List.forall_mem_cons.mpr ⟨List.mem_cons_of_mem _ (List.mem_append_left _ (List.mem_append_left _ (List.mem_of_getElem? (l := wsX5_take_r1) (i := 18) rfl))), (List.forall_mem_cons.mpr ⟨List.mem_cons_of_mem _ (List.mem_append_left _ (List.mem_append_left _ (List.mem_of_getElem? (l := wsX5_take_r1) (i := 19) rfl))), (List.forall_mem_cons.mpr ⟨List.mem_cons_of_mem _ (List.mem_append_left _ (List.mem_append_left _ (List.mem_of_getElem? (l := wsX5_take_r1) (i := 20) rfl))), (List.forall_mem_cons.mpr ⟨List.mem_cons_of_mem _ (List.mem_append_left _ (List.mem_append_left _ (List.mem_of_getElem? (l := wsX5_take_r1) (i := 21) rfl))), (List.forall_mem_cons.mpr ⟨List.mem_cons_of_mem _ (List.mem_append_left _ (List.mem_append_left _ (List.mem_of_getElem? (l := wsX5_take_r1) (i := 22) rfl))), (List.forall_mem_cons.mpr ⟨List.mem_cons_of_mem _ (List.mem_append_left _ (List.mem_append_left _ (List.mem_of_getElem? (l := wsX5_take_r1) (i := 23) rfl))), (List.forall_mem_cons.mpr ⟨List.mem_cons_of_mem _ (List.mem_append_left _ (List.mem_append_right _ (List.mem_append_left _ (List.mem_of_getElem? (l := wsX5_take_r2) (i := 0) rfl)))), (fun _ h => nomatch h)⟩)⟩)⟩)⟩)⟩)⟩)⟩)⟩)⟩)⟩)⟩)⟩)⟩)⟩)⟩)⟩)⟩), (fun _ h => List.mem_cons_of_mem _ (List.mem_append_right _ (h)))⟩)⟩) (by decide +kernel)
set_option maxRecDepth 20000 in
theorem gX5_take_X5_takeUnit : GoodIn wsX5_take (wsV RX5 57 RX5 yX5_takeUnit wsX5_takeUnit) := goodIn_app (goodIn_of _ (by decide +kernel)) ggX5_take_X5_takeUnit
set_option maxRecDepth 20000 in
theorem ggX5_take_X5_takeSign : GoodIn wsX5_take wsX5_takeSign := goodIn_sub (List.forall_mem_cons.mpr ⟨List.mem_cons_of_mem _ (List.mem_append_left _ (List.mem_append_right _ (List.mem_append_left _ (List.mem_of_getElem? (l := wsX5_take_r2) (i := 4) rfl)))), (List.forall_mem_append.mpr ⟨(List.forall_mem_cons.mpr ⟨List.mem_cons_of_mem _ (List.mem_append_left _ (List.mem_append_left _ (List.mem_of_getElem? (l := wsX5_take_r1) (i := 0) rfl))), (List.forall_mem_cons.mpr ⟨List.mem_cons_of_mem _ (List.mem_append_left _ (List.mem_append_right _ (List.mem_append_left _ (List.mem_of_getElem? (l := wsX5_take_r2) (i := 5) rfl)))), (List.forall_mem_cons.mpr ⟨List.mem_cons_of_mem _ (List.mem_append_left _ (List.mem_append_left _ (List.mem_of_getElem? (l := wsX5_take_r1) (i := 15) rfl))), (List.forall_mem_cons.mpr ⟨List.mem_cons_of_mem _ (List.mem_append_left _ (List.mem_append_left _ (List.mem_of_getElem? (l := wsX5_take_r1) (i := 17) rfl))), (List.forall_mem_cons.mpr ⟨List.mem_cons_of_mem _ (List.mem_append_left _ (List.mem_append_left _ (List.mem_of_getElem? (l := wsX5_take_r1) (i := 19) rfl))), (List.forall_mem_cons.mpr ⟨List.mem_cons_of_mem _ (List.mem_append_left _ (List.mem_append_left _ (List.mem_of_getElem? (l := wsX5_take_r1) (i := 20) rfl))), (List.forall_mem_cons.mpr ⟨List.mem_cons_of_mem _ (List.mem_append_left _ (List.mem_append_left _ (List.mem_of_getElem? (l := wsX5_take_r1) (i := 21) rfl))), (fun _ h => nomatch h)⟩)⟩)⟩)⟩)⟩)⟩)⟩), (fun _ h => List.mem_cons_of_mem _ (List.mem_append_right _ (h)))⟩)⟩) (by decide +kernel)
set_option maxRecDepth 20000 in
theorem gX5_take_X5_takeSign : GoodIn wsX5_take (wsV RX5 60 RX5 yX5_takeSign wsX5_takeSign) := goodIn_app (goodIn_of _ (by decide +kernel)) ggX5_take_X5_takeSign
set_option maxRecDepth 20000 in
theorem ggX5_take_X5_takeDigit : GoodIn wsX5_take wsX5_takeDigit := goodIn_sub (List.forall_mem_cons.mpr ⟨List.mem_cons_of_mem _ (List.mem_append_left _ (List.mem_append_right _ (List.mem_append_left _ (List.mem_of_getElem? (l := wsX5_take_r2) (i := 9) rfl)))), (List.forall_mem_append.mpr ⟨(List.forall_mem_cons.mpr ⟨List.mem_cons_of_mem _ (List.mem_append_left _ (List.mem_append_left _ (List.mem_of_getElem? (l := wsX5_take_r1) (i := 0) rfl))), (List.forall_mem_cons.mpr ⟨List.mem_cons_of_mem _ (List.mem_append_left _ (List.mem_append_right _ (List.mem_append_left _ (List.mem_of_getElem? (l := wsX5_take_r2) (i := 5) rfl)))), (List.forall_mem_cons.mpr ⟨List.mem_cons_of_mem _ (List.mem_append_left _ (List.mem_append_left _ (List.mem_of_getElem? (l := wsX5_take_r1) (i := 15) rfl))), (List.forall_mem_cons.mpr ⟨List.mem_cons_of_mem _ (List.mem_append_left _ (List.mem_append_left _ (List.mem_of_getElem? (l := wsX5_take_r1) (i := 18) rfl))), (List.forall_mem_cons.mpr ⟨List.mem_cons_of_mem _ (List.mem_append_left _ (List.mem_append_right _ (List.mem_append_left _ (List.mem_of_getElem? (l := wsX5_take_r2) (i := 10) rfl)))), (List.forall_mem_cons.mpr ⟨List.mem_cons_of_mem _ (List.mem_append_left _ (List.mem_append_right _ (List.mem_append_left _ (List.mem_of_getElem? (l := wsX5_take_r2) (i := 11) rfl)))), (List.forall_mem_cons.mpr ⟨List.mem_cons_of_mem _ (List.mem_append_left _ (List.mem_append_left _ (List.mem_of_getElem? (l := wsX5_take_r1) (i := 4) rfl))), (List.forall_mem_cons.mpr ⟨List.mem_cons_of_mem _ (List.mem_append_left _ (List.mem_append_right _ (List.mem_append_left _ (List.mem_of_getElem? (l := wsX5_take_r2) (i := 12) rfl)))), (List.forall_mem_cons.mpr ⟨List.mem_cons_of_mem _ (List.mem_append_left _ (List.mem_append_left _ (List.mem_of_getElem? (l := wsX5_take_r1) (i := 19) rfl))), (List.forall_mem_cons.mpr ⟨List.mem_cons_of_mem _ (List.mem_append_left _ (List.mem_append_left _ (List.mem_of_getElem? (l := wsX5_take_r1) (i := 20) rfl))), (List.forall_mem_cons.mpr ⟨List.mem_cons_of_mem _ (List.mem_append_left _ (List.mem_append_left _ (List.mem_of_getElem? (l := wsX5_take_r1) (i := 21) rfl))), (fun _ h => nomatch h)⟩)⟩)⟩)⟩)⟩)⟩)⟩)⟩)⟩)⟩)⟩), (fun _ h => List.mem_cons_of_mem _ (List.mem_append_right _ (h)))⟩)⟩) (by decide +kernel)
set_option maxRecDepth 20000 in
theorem gX5_take_X5_takeDigit : GoodIn wsX5_take (wsV RX5 63 RX5 yX5_takeDigit wsX5_takeDigit) := goodIn_app (goodIn_of _ (by decide +kernel)) ggX5_take_X5_takeDigit
set_option maxRecDepth 20000 in
theorem ggX5_take_X5_isDigit : GoodIn wsX5_take wsX5_isDigit := goodIn_sub (List.forall_mem_cons.mpr ⟨List.mem_cons_of_mem _ (List.mem_append_left _ (List.mem_append_right _ (List.mem_append_left _ (List.mem_of_getElem? (l := wsX5_take_r2) (i := 12) rfl)))), (List.forall_mem_cons.mpr ⟨List.mem_cons_of_mem _ (List.mem_append_left _ (List.mem_append_left _ (List.mem_of_getElem? (l := wsX5_take_r1) (i := 19) rfl))), (List.forall_mem_cons.mpr ⟨List.mem_cons_of_mem _ (List.mem_append_left _ (List.mem_append_left _ (List.mem_of_getElem? (l := wsX5_take_r1) (i := 20) rfl))), (List.forall_mem_cons.mpr ⟨List.mem_cons_of_mem _ (List.mem_append_left _ (List.mem_append_left _ (List.mem_of_getElem? (l := wsX5_take_r1) (i := 21) rfl))), (fun _ h => nomatch h)⟩)⟩)⟩)⟩) (by decide +kernel)
set_option maxRecDepth 20000 in
theorem gX5_take_X5_isDigit : GoodIn wsX5_take (va_wsS RX5 66 yX5_isDigit wsX5_isDigit) := goodIn_app (goodIn_of _ (by decide +kernel)) ggX5_take_X5_isDigit
set_option maxRecDepth 20000 in
theorem ggX5_take_X5_takeJoint : GoodIn wsX5_take wsX5_takeJoint := goodIn_sub (List.forall_mem_cons.mpr ⟨List.mem_cons_of_mem _ (List.mem_append_left _ (List.mem_append_right _ (List.mem_append_left _ (List.mem_of_getElem? (l := wsX5_take_r2) (i := 16) rfl)))), (List.forall_mem_append.mpr ⟨(List.forall_mem_cons.mpr ⟨List.mem_cons_of_mem _ (List.mem_append_left _ (List.mem_append_left _ (List.mem_of_getElem? (l := wsX5_take_r1) (i := 0) rfl))), (List.forall_mem_cons.mpr ⟨List.mem_cons_of_mem _ (List.mem_append_left _ (List.mem_append_left _ (List.mem_of_getElem? (l := wsX5_take_r1) (i := 10) rfl))), (List.forall_mem_cons.mpr ⟨List.mem_cons_of_mem _ (List.mem_append_left _ (List.mem_append_left _ (List.mem_of_getElem? (l := wsX5_take_r1) (i := 11) rfl))), (List.forall_mem_cons.mpr ⟨List.mem_cons_of_mem _ (List.mem_append_left _ (List.mem_append_left _ (List.mem_of_getElem? (l := wsX5_take_r1) (i := 12) rfl))), (List.forall_mem_cons.mpr ⟨List.mem_cons_of_mem _ (List.mem_append_left _ (List.mem_append_left _ (List.mem_of_getElem? (l := wsX5_take_r1) (i := 13) rfl))), (List.forall_mem_cons.mpr ⟨List.mem_cons_of_mem _ (List.mem_append_left _ (List.mem_append_left _ (List.mem_of_getElem? (l := wsX5_take_r1) (i := 4) rfl))), (List.forall_mem_cons.mpr ⟨List.mem_cons_of_mem _ (List.mem_append_left _ (List.mem_append_left _ (List.mem_of_getElem? (l := wsX5_take_r1) (i := 14) rfl))), (List.forall_mem_cons.mpr ⟨List.mem_cons_of_mem _ (List.mem_append_left _ (List.mem_append_left _ (List.mem_of_getElem? (l := wsX5_take_r1) (i := 15) rfl))), (List.forall_mem_cons.mpr ⟨List.mem_cons_of_mem _ (List.mem_append_left _ (List.mem_append_left _ (List.mem_of_getElem? (l := wsX5_take_r1) (i := 16) rfl))), (List.forall_mem_cons.mpr ⟨List.mem_cons_of_mem _ (List.mem_append_left _ (List.mem_append_left _ (List.mem_of_getElem? (l := wsX5_take_r1) (i := 17) rfl))), (List.forall_mem_cons.mpr ⟨List.mem_cons_of_mem _ (List.mem_append_left _ (List.mem_append_left _ (List.mem_of_getElem? (l := wsX5_take_r1) (i := 18) rfl))), (List.forall_mem_cons.mpr ⟨List.mem_cons_of_mem _ (List.mem_append_left _ (List.mem_append_left _ (List.mem_of_getElem? (l := wsX5_take_r1) (i := 19) rfl))), (List.forall_mem_cons.mpr ⟨List.mem_cons_of_mem _ (List.mem_append_left _ (List.mem_append_left _ (List.mem_of_getElem? (l := wsX5_take_r1) (i := 20) rfl))), (List.forall_mem_cons.mpr ⟨List.mem_cons_of_mem _ (List.mem_append_left _ (List.mem_append_left _ (List.mem_of_getElem? (l := wsX5_take_r1) (i := 21) rfl))), (fun _ h => nomatch h)⟩)⟩)⟩)⟩)⟩)⟩)⟩)⟩)⟩)⟩)⟩)⟩)⟩)⟩), (fun _ h => List.mem_cons_of_mem _ (List.mem_append_right _ (h)))⟩)⟩) (by decide +kernel)
set_option maxRecDepth 20000 in
theorem gX5_take_X5_takeJoint : GoodIn wsX5_take (wsV RX5 69 RX5 yX5_takeJoint wsX5_takeJoint) := goodIn_app (goodIn_of _ (by decide +kernel)) ggX5_take_X5_takeJoint
set_option maxRecDepth 20000 in
theorem ggX5_take_X5_takeOrder : GoodIn wsX5_take wsX5_takeOrder := goodIn_sub (List.forall_mem_cons.mpr ⟨List.mem_cons_of_mem _ (List.mem_append_left _ (List.mem_append_right _ (List.mem_append_left _ (List.mem_of_getElem? (l := wsX5_take_r2) (i := 20) rfl)))), (List.forall_mem_append.mpr ⟨(List.forall_mem_cons.mpr ⟨List.mem_cons_of_mem _ (List.mem_append_left _ (List.mem_append_left _ (List.mem_of_getElem? (l := wsX5_take_r1) (i := 0) rfl))), (List.forall_mem_cons.mpr ⟨List.mem_cons_of_mem _ (List.mem_append_left _ (List.mem_append_right _ (List.mem_append_left _ (List.mem_of_getElem? (l := wsX5_take_r2) (i := 21) rfl)))), (List.forall_mem_cons.mpr ⟨List.mem_cons_of_mem _ (List.mem_append_left _ (List.mem_append_right _ (List.mem_append_left _ (List.mem_of_getElem? (l := wsX5_take_r2) (i := 5) rfl)))), (fun _ h => nomatch h)⟩)⟩)⟩), (fun _ h => List.mem_cons_of_mem _ (List.mem_append_right _ (h)))⟩)⟩) (by decide +kernel)
set_option maxRecDepth 20000 in
theorem gX5_take_X5_takeOrder : GoodIn wsX5_take (wsV RX5 72 RX5 yX5_takeOrder wsX5_takeOrder) := goodIn_app (goodIn_of _ (by decide +kernel)) ggX5_take_X5_takeOrder
set_option maxRecDepth 20000 in
theorem ggX5_take_X5_takePrizeDigit : GoodIn wsX5_take wsX5_takePrizeDigit := goodIn_sub (List.forall_mem_cons.mpr ⟨List.mem_cons_of_mem _ (List.mem_append_left _ (List.mem_append_right _ (List.mem_append_right _ (List.mem_of_getElem? (l := wsX5_take_r3) (i := 1) rfl)))), (List.forall_mem_append.mpr ⟨(List.forall_mem_cons.mpr ⟨List.mem_cons_of_mem _ (List.mem_append_left _ (List.mem_append_left _ (List.mem_of_getElem? (l := wsX5_take_r1) (i := 0) rfl))), (List.forall_mem_cons.mpr ⟨List.mem_cons_of_mem _ (List.mem_append_left _ (List.mem_append_right _ (List.mem_append_left _ (List.mem_of_getElem? (l := wsX5_take_r2) (i := 5) rfl)))), (List.forall_mem_cons.mpr ⟨List.mem_cons_of_mem _ (List.mem_append_left _ (List.mem_append_right _ (List.mem_append_right _ (List.mem_of_getElem? (l := wsX5_take_r3) (i := 2) rfl)))), (List.forall_mem_cons.mpr ⟨List.mem_cons_of_mem _ (List.mem_append_left _ (List.mem_append_right _ (List.mem_append_left _ (List.mem_of_getElem? (l := wsX5_take_r2) (i := 10) rfl)))), (List.forall_mem_cons.mpr ⟨List.mem_cons_of_mem _ (List.mem_append_left _ (List.mem_append_right _ (List.mem_append_left _ (List.mem_of_getElem? (l := wsX5_take_r2) (i := 11) rfl)))), (List.forall_mem_cons.mpr ⟨List.mem_cons_of_mem _ (List.mem_append_left _ (List.mem_append_left _ (List.mem_of_getElem? (l := wsX5_take_r1) (i := 4) rfl))), (List.forall_mem_cons.mpr ⟨List.mem_cons_of_mem _ (List.mem_append_left _ (List.mem_append_right _ (List.mem_append_left _ (List.mem_of_getElem? (l := wsX5_take_r2) (i := 12) rfl)))), (List.forall_mem_cons.mpr ⟨List.mem_cons_of_mem _ (List.mem_append_left _ (List.mem_append_left _ (List.mem_of_getElem? (l := wsX5_take_r1) (i := 19) rfl))), (List.forall_mem_cons.mpr ⟨List.mem_cons_of_mem _ (List.mem_append_left _ (List.mem_append_left _ (List.mem_of_getElem? (l := wsX5_take_r1) (i := 20) rfl))), (List.forall_mem_cons.mpr ⟨List.mem_cons_of_mem _ (List.mem_append_left _ (List.mem_append_left _ (List.mem_of_getElem? (l := wsX5_take_r1) (i := 21) rfl))), (fun _ h => nomatch h)⟩)⟩)⟩)⟩)⟩)⟩)⟩)⟩)⟩)⟩), (fun _ h => List.mem_cons_of_mem _ (List.mem_append_right _ (h)))⟩)⟩) (by decide +kernel)
set_option maxRecDepth 20000 in
theorem gX5_take_X5_takePrizeDigit : GoodIn wsX5_take (wsV RX5 75 RX5 yX5_takePrizeDigit wsX5_takePrizeDigit) := goodIn_app (goodIn_of _ (by decide +kernel)) ggX5_take_X5_takePrizeDigit
theorem kX5_take_0 : (.fieldLink RX5 25 "RunDesk$Reading" "stage" "I" : Cond) ∈ wsX5_take := List.mem_of_getElem? (i := 1) (by decide +kernel)
theorem qX5_take_X5 : ∀ w ∈ wsX50, w ∈ wsX5_take := fun _ h => List.mem_cons_of_mem _ (List.mem_append_right _ (h))
set_option maxHeartbeats 4000000 in
set_option maxRecDepth 100000 in
theorem mX5_take (l : Launch) (D : va_G) (cB cI cZ : ClassId) (a_t : Nat) (a_t_parts : Nat) (a_t_signs : Nat) (a_t_numbers : Nat) (t_laid : Int32) (t_stage : Int32) (t_open : Int32) (t_digits : Int32) (t_order : Int32) (t_prizes : Int32) (t_numbers : Nat → Int32) (t_parts : Nat → Int32) (t_signs : Nat → Int32) (sz : Nat) (x1 : Int32) (b0 : Bool) (t_digits' : Int32) (t_laid' : Int32) (t_open' : Int32) (t_order' : Int32) (t_prizes' : Int32) (t_stage' : Int32) (t_numbers' : Nat → Int32) (t_parts' : Nat → Int32) (t_signs' : Nat → Int32) (h : fX5_take t_digits t_laid t_open t_order t_prizes t_stage t_numbers t_parts t_signs x1 = some (b0, t_digits', t_laid', t_open', t_order', t_prizes', t_stage', t_numbers', t_parts', t_signs')) : Met l yX5_take wsX5_take ({ frames := 3, cells := 0, slots := 0, locals := 64 } : Room) (va_Pc [.ref a_t, .int x1] (zPre D (zT cB cI cZ) [(a_t, .inr (5, [.ref a_t_parts, .ref a_t_signs, .ref a_t_numbers, .int t_laid, .int t_stage, .int t_open, .int t_digits, .int t_order, .int t_prizes])), (a_t_numbers, .inl (cI, 200, .inl t_numbers)), (a_t_parts, .inl (cI, 200, .inl t_parts)), (a_t_signs, .inl (cI, 200, .inl t_signs))] sz)) (zQi (zb b0) D (zT cB cI cZ) [(a_t, .inr (5, [.ref a_t_parts, .ref a_t_signs, .ref a_t_numbers, .int t_laid', .int t_stage', .int t_open', .int t_digits', .int t_order', .int t_prizes'])), (a_t_numbers, .inl (cI, 200, .inl t_numbers')), (a_t_parts, .inl (cI, 200, .inl t_parts')), (a_t_signs, .inl (cI, 200, .inl t_signs'))] (va_A [(a_t, .inr (5, [.ref a_t_parts, .ref a_t_signs, .ref a_t_numbers, .int t_laid, .int t_stage, .int t_open, .int t_digits, .int t_order, .int t_prizes])), (a_t_numbers, .inl (cI, 200, .inl t_numbers)), (a_t_parts, .inl (cI, 200, .inl t_parts)), (a_t_signs, .inl (cI, 200, .inl t_signs))] sz)) 0 0 (va_A [(a_t, .inr (5, [.ref a_t_parts, .ref a_t_signs, .ref a_t_numbers, .int t_laid, .int t_stage, .int t_open, .int t_digits, .int t_order, .int t_prizes])), (a_t_numbers, .inl (cI, 200, .inl t_numbers)), (a_t_parts, .inl (cI, 200, .inl t_parts)), (a_t_signs, .inl (cI, 200, .inl t_signs))] sz) := by
  refine Met.ofW (cc := cX5_take) (maxL := 2) (ret := (some .boolean)) (by decide) rfl ?_
  intro p e s m args below meth c s₁ B hml hv
  obtain ⟨rfl, hsz, hP, hK, hN, hZ, hD0⟩ := hv
  have hx := B.exec
  have hb := B.bytes
  have hr := B.returns
  have hts := atoms_spec (ws := wsX5_take) B.pre
  have hown : s.vm.findClass RX5 = some m.cls := findClass_of_methodNamed B.named
  have hlocks := B.notSynchronized
  subst hsz
  have hD := hD0.self (sz := s.heap.size)
  generalize hAe : va_A [(a_t, .inr (5, [.ref a_t_parts, .ref a_t_signs, .ref a_t_numbers, .int t_laid, .int t_stage, .int t_open, .int t_digits, .int t_order, .int t_prizes])), (a_t_numbers, .inl (cI, 200, .inl t_numbers)), (a_t_parts, .inl (cI, 200, .inl t_parts)), (a_t_signs, .inl (cI, 200, .inl t_signs))] s.heap.size = A at hD hZ ⊢
  have hA : ∀ q : Nat, s.heap.size ≤ q → A q := fun q h => by rw [← hAe]; exact Or.inr h
  have hS : va_S A s.heap s.heap [] := va_S.rf
  have hl := lv_entry ([.ref a_t, .int x1]) (n := 2) (Nat.le_of_ble_eq_true rfl)
  rw [lg_entry_eq]
  generalize (lg_sl ([.ref a_t, .int x1]) ++ List.replicate (2 - (lg_sl ([.ref a_t, .int x1])).length) Slot.unset).toArray = ls at hl ⊢
  have hl : lv_has ls 2 [(0, .ref a_t), (1, .int x1)] := hl
  unfold fX5_take at h
  refine lv_iload_n hx hb dX5_take_0 rfl (lv_at hl 1 rfl) ?_
  refine lv_bipush (v := (nI 32)) hx hb dX5_take_1 rfl ?_
  refine lv_icmp_ne (tgt := 12) hx hb dX5_take_3 (by decide) (fun c1 => ?_) (fun c1 => ?_)
  · have h := zz_f h c1
    refine lv_aload_n hx hb dX5_take_12 rfl (lv_at hl 0 rfl) ?_
    refine va_get (D := D) (ci := 5) (C := RX5) (T := TX5) (N := 9) hx hb hts qX5_take_X5 hown hK hP 0 rfl rfl 4 (by decide) (hts _ kX5_take_0) (fun _ h9 => h9) rfl dX5_take_13 ?_
    by_cases c2 : t_stage = (nI 0)
    · have h := zz_t h c2
      refine lv_tableIn (off := 52) (tgt := 68) hx hb dX5_take_16 (by rw [c2]; decide) (by rw [c2]; decide) (by rw [c2]; rfl) (by decide) ?_
      refine lv_aload_n hx hb dX5_take_68 rfl (lv_at hl 0 rfl) ?_
      refine lv_iload_n hx hb dX5_take_69 rfl (lv_at hl 1 rfl) ?_
      obtain ⟨⟨b3, t_laid_r4, t_open_r5, t_stage_r6, t_numbers_r7, t_parts_r8, t_signs_r9⟩, e10, h⟩ := zz_b h
      dsimp only at h
      refine zVi (As := [.int x1]) (rest := []) (C := RX5) (wr := []) [0, 1, 2, 3] [] 0 ⟨hx, hb, hml, hown, hts⟩ (mX5_takeUnit l D cB cI cZ a_t a_t_parts a_t_signs a_t_numbers t_laid t_stage t_open t_digits t_order t_prizes t_numbers t_parts t_signs s.heap.size x1 b3 t_laid_r4 t_open_r5 t_stage_r6 t_numbers_r7 t_parts_r8 t_signs_r9 e10) (cwV 1 hts gX5_take_X5_takeUnit rfl rfl rfl (by decide +kernel) ⟨Nat.le_of_ble_eq_true rfl, Nat.le_of_ble_eq_true rfl⟩) hK hN hZ hP hD hS hA rfl rfl rfl rfl rfl rfl rfl rfl hl.1 rfl (lv_room (Nat.le_of_ble_eq_true rfl)) dX5_take_70 ⟨Nat.le_of_ble_eq_true rfl, Nat.le_of_ble_eq_true rfl⟩ (fun H locs hP hD hS => ?_)
      have hP : va_P D vwCl [(a_t, .inr (5, [.ref a_t_parts, .ref a_t_signs, .ref a_t_numbers, .int t_laid_r4, .int t_stage_r6, .int t_open_r5, .int t_digits, .int t_order, .int t_prizes])), (a_t_numbers, .inl (cI, 200, .inl t_numbers_r7)), (a_t_parts, .inl (cI, 200, .inl t_parts_r8)), (a_t_signs, .inl (cI, 200, .inl t_signs_r9))] H := hP
      have hD : va_D A [(a_t, .inr (5, [.ref a_t_parts, .ref a_t_signs, .ref a_t_numbers, .int t_laid_r4, .int t_stage_r6, .int t_open_r5, .int t_digits, .int t_order, .int t_prizes])), (a_t_numbers, .inl (cI, 200, .inl t_numbers_r7)), (a_t_parts, .inl (cI, 200, .inl t_parts_r8)), (a_t_signs, .inl (cI, 200, .inl t_signs_r9))] := hD
      obtain ⟨j0_, g_⟩ := Prod.mk.inj (Option.some.inj h)
      obtain ⟨j1_, g_⟩ := Prod.mk.inj g_
      obtain ⟨j2_, g_⟩ := Prod.mk.inj g_
      obtain ⟨j3_, g_⟩ := Prod.mk.inj g_
      obtain ⟨j4_, g_⟩ := Prod.mk.inj g_
      obtain ⟨j5_, g_⟩ := Prod.mk.inj g_
      obtain ⟨j6_, g_⟩ := Prod.mk.inj g_
      obtain ⟨j7_, g_⟩ := Prod.mk.inj g_
      obtain ⟨j8_, g_⟩ := Prod.mk.inj g_
      have j9_ := g_
      subst j0_
      subst j1_
      subst j2_
      subst j3_
      subst j4_
      subst j5_
      subst j6_
      subst j7_
      subst j8_
      subst j9_
      exact W.zret (v := (zb b3)) hx hb hr zz_n (fun t ht hW => ⟨⟨_, (), rfl, rfl, zPost.of hP hD hK ht hW [0, 1, 2, 3] rfl rfl rfl⟩, hS.F ht⟩) hS.2.2 dX5_take_73
    · have h := zz_f h c2
      by_cases c11 : t_stage = (nI 1)
      · have h := zz_t h c11
        refine lv_tableIn (off := 58) (tgt := 74) hx hb dX5_take_16 (by rw [c11]; decide) (by rw [c11]; decide) (by rw [c11]; rfl) (by decide) ?_
        refine lv_aload_n hx hb dX5_take_74 rfl (lv_at hl 0 rfl) ?_
        refine lv_iload_n hx hb dX5_take_75 rfl (lv_at hl 1 rfl) ?_
        obtain ⟨⟨b12, t_digits_r13, t_stage_r14, t_signs_r15⟩, e16, h⟩ := zz_b h
        dsimp only at h
        refine zVi (As := [.int x1]) (rest := []) (C := RX5) (wr := [(a_t_numbers, .inl (cI, 200, .inl t_numbers)), (a_t_parts, .inl (cI, 200, .inl t_parts))]) [0, 3] [1, 2] 0 ⟨hx, hb, hml, hown, hts⟩ (mX5_takeSign l D cB cI cZ a_t a_t_parts a_t_signs a_t_numbers t_laid t_stage t_open t_digits t_order t_prizes t_signs s.heap.size x1 b12 t_digits_r13 t_stage_r14 t_signs_r15 e16) (cwV 1 hts gX5_take_X5_takeSign rfl rfl rfl (by decide +kernel) ⟨Nat.le_of_ble_eq_true rfl, Nat.le_of_ble_eq_true rfl⟩) hK hN hZ hP hD hS hA rfl rfl rfl rfl rfl rfl rfl rfl hl.1 rfl (lv_room (Nat.le_of_ble_eq_true rfl)) dX5_take_76 ⟨Nat.le_of_ble_eq_true rfl, Nat.le_of_ble_eq_true rfl⟩ (fun H locs hP hD hS => ?_)
        have hP : va_P D vwCl [(a_t_numbers, .inl (cI, 200, .inl t_numbers)), (a_t_parts, .inl (cI, 200, .inl t_parts)), (a_t, .inr (5, [.ref a_t_parts, .ref a_t_signs, .ref a_t_numbers, .int t_laid, .int t_stage_r14, .int t_open, .int t_digits_r13, .int t_order, .int t_prizes])), (a_t_signs, .inl (cI, 200, .inl t_signs_r15))] H := hP
        have hD : va_D A [(a_t_numbers, .inl (cI, 200, .inl t_numbers)), (a_t_parts, .inl (cI, 200, .inl t_parts)), (a_t, .inr (5, [.ref a_t_parts, .ref a_t_signs, .ref a_t_numbers, .int t_laid, .int t_stage_r14, .int t_open, .int t_digits_r13, .int t_order, .int t_prizes])), (a_t_signs, .inl (cI, 200, .inl t_signs_r15))] := hD
        obtain ⟨j0_, g_⟩ := Prod.mk.inj (Option.some.inj h)
        obtain ⟨j1_, g_⟩ := Prod.mk.inj g_
        obtain ⟨j2_, g_⟩ := Prod.mk.inj g_
        obtain ⟨j3_, g_⟩ := Prod.mk.inj g_
        obtain ⟨j4_, g_⟩ := Prod.mk.inj g_
        obtain ⟨j5_, g_⟩ := Prod.mk.inj g_
        obtain ⟨j6_, g_⟩ := Prod.mk.inj g_
        obtain ⟨j7_, g_⟩ := Prod.mk.inj g_
        obtain ⟨j8_, g_⟩ := Prod.mk.inj g_
        have j9_ := g_
        subst j0_
        subst j1_
        subst j2_
        subst j3_
        subst j4_
        subst j5_
        subst j6_
        subst j7_
        subst j8_
        subst j9_
        exact W.zret (v := (zb b12)) hx hb hr zz_n (fun t ht hW => ⟨⟨_, (), rfl, rfl, zPost.of hP hD hK ht hW [2, 0, 1, 3] rfl rfl rfl⟩, hS.F ht⟩) hS.2.2 dX5_take_79
      · have h := zz_f h c11
        by_cases c17 : t_stage = (nI 2)
        · have h := zz_t h c17
          refine lv_tableIn (off := 64) (tgt := 80) hx hb dX5_take_16 (by rw [c17]; decide) (by rw [c17]; decide) (by rw [c17]; rfl) (by decide) ?_
          refine lv_aload_n hx hb dX5_take_80 rfl (lv_at hl 0 rfl) ?_
          refine lv_iload_n hx hb dX5_take_81 rfl (lv_at hl 1 rfl) ?_
          obtain ⟨⟨b18, t_digits_r19, t_stage_r20, t_numbers_r21⟩, e22, h⟩ := zz_b h
          dsimp only at h
          refine zVi (As := [.int x1]) (rest := []) (C := RX5) (wr := [(a_t_parts, .inl (cI, 200, .inl t_parts)), (a_t_signs, .inl (cI, 200, .inl t_signs))]) [0, 1] [2, 3] 0 ⟨hx, hb, hml, hown, hts⟩ (mX5_takeDigit l D cB cI cZ a_t a_t_parts a_t_signs a_t_numbers t_laid t_stage t_open t_digits t_order t_prizes t_numbers s.heap.size x1 b18 t_digits_r19 t_stage_r20 t_numbers_r21 e22) (cwV 1 hts gX5_take_X5_takeDigit rfl rfl rfl (by decide +kernel) ⟨Nat.le_of_ble_eq_true rfl, Nat.le_of_ble_eq_true rfl⟩) hK hN hZ hP hD hS hA rfl rfl rfl rfl rfl rfl rfl rfl hl.1 rfl (lv_room (Nat.le_of_ble_eq_true rfl)) dX5_take_82 ⟨Nat.le_of_ble_eq_true rfl, Nat.le_of_ble_eq_true rfl⟩ (fun H locs hP hD hS => ?_)
          have hP : va_P D vwCl [(a_t_parts, .inl (cI, 200, .inl t_parts)), (a_t_signs, .inl (cI, 200, .inl t_signs)), (a_t, .inr (5, [.ref a_t_parts, .ref a_t_signs, .ref a_t_numbers, .int t_laid, .int t_stage_r20, .int t_open, .int t_digits_r19, .int t_order, .int t_prizes])), (a_t_numbers, .inl (cI, 200, .inl t_numbers_r21))] H := hP
          have hD : va_D A [(a_t_parts, .inl (cI, 200, .inl t_parts)), (a_t_signs, .inl (cI, 200, .inl t_signs)), (a_t, .inr (5, [.ref a_t_parts, .ref a_t_signs, .ref a_t_numbers, .int t_laid, .int t_stage_r20, .int t_open, .int t_digits_r19, .int t_order, .int t_prizes])), (a_t_numbers, .inl (cI, 200, .inl t_numbers_r21))] := hD
          obtain ⟨j0_, g_⟩ := Prod.mk.inj (Option.some.inj h)
          obtain ⟨j1_, g_⟩ := Prod.mk.inj g_
          obtain ⟨j2_, g_⟩ := Prod.mk.inj g_
          obtain ⟨j3_, g_⟩ := Prod.mk.inj g_
          obtain ⟨j4_, g_⟩ := Prod.mk.inj g_
          obtain ⟨j5_, g_⟩ := Prod.mk.inj g_
          obtain ⟨j6_, g_⟩ := Prod.mk.inj g_
          obtain ⟨j7_, g_⟩ := Prod.mk.inj g_
          obtain ⟨j8_, g_⟩ := Prod.mk.inj g_
          have j9_ := g_
          subst j0_
          subst j1_
          subst j2_
          subst j3_
          subst j4_
          subst j5_
          subst j6_
          subst j7_
          subst j8_
          subst j9_
          exact W.zret (v := (zb b18)) hx hb hr zz_n (fun t ht hW => ⟨⟨_, (), rfl, rfl, zPost.of hP hD hK ht hW [2, 3, 0, 1] rfl rfl rfl⟩, hS.F ht⟩) hS.2.2 dX5_take_85
        · have h := zz_f h c17
          by_cases c23 : t_stage = (nI 3)
          · have h := zz_t h c23
            refine lv_tableIn (off := 70) (tgt := 86) hx hb dX5_take_16 (by rw [c23]; decide) (by rw [c23]; decide) (by rw [c23]; rfl) (by decide) ?_
            refine lv_iload_n hx hb dX5_take_86 rfl (lv_at hl 1 rfl) ?_
            obtain ⟨b24, e25, h⟩ := zz_b h
            refine zSi (As := [.int x1]) (rest := []) (wr := [(a_t, .inr (5, [.ref a_t_parts, .ref a_t_signs, .ref a_t_numbers, .int t_laid, .int t_stage, .int t_open, .int t_digits, .int t_order, .int t_prizes])), (a_t_numbers, .inl (cI, 200, .inl t_numbers)), (a_t_parts, .inl (cI, 200, .inl t_parts)), (a_t_signs, .inl (cI, 200, .inl t_signs))]) [] [0, 1, 2, 3] ⟨hx, hb, hml, hown, hts⟩ (mX5_isDigit l D cB cI cZ s.heap.size x1 b24 e25) (va_cwS 1 hts gX5_take_X5_isDigit rfl rfl rfl (by decide +kernel) ⟨Nat.le_of_ble_eq_true rfl, Nat.le_of_ble_eq_true rfl⟩) hK hN hZ hP hD hS hA rfl rfl rfl rfl rfl rfl hl.1 rfl (lv_room (Nat.le_of_ble_eq_true rfl)) dX5_take_87 ⟨Nat.le_of_ble_eq_true rfl, Nat.le_of_ble_eq_true rfl⟩ (fun H locs hP hD hS => ?_)
            have hP : va_P D vwCl [(a_t, .inr (5, [.ref a_t_parts, .ref a_t_signs, .ref a_t_numbers, .int t_laid, .int t_stage, .int t_open, .int t_digits, .int t_order, .int t_prizes])), (a_t_numbers, .inl (cI, 200, .inl t_numbers)), (a_t_parts, .inl (cI, 200, .inl t_parts)), (a_t_signs, .inl (cI, 200, .inl t_signs))] H := hP
            have hD : va_D A [(a_t, .inr (5, [.ref a_t_parts, .ref a_t_signs, .ref a_t_numbers, .int t_laid, .int t_stage, .int t_open, .int t_digits, .int t_order, .int t_prizes])), (a_t_numbers, .inl (cI, 200, .inl t_numbers)), (a_t_parts, .inl (cI, 200, .inl t_parts)), (a_t_signs, .inl (cI, 200, .inl t_signs))] := hD
            refine lv_if_eq (tgt := 101) hx hb dX5_take_90 (by decide) (fun c26 => ?_) (fun c26 => ?_)
            · have h := zz_t h c26
              refine lv_aload_n hx hb dX5_take_101 rfl (lv_at hl 0 rfl) ?_
              refine lv_iload_n hx hb dX5_take_102 rfl (lv_at hl 1 rfl) ?_
              obtain ⟨⟨b27, t_laid_r28, t_open_r29, t_stage_r30, t_numbers_r31, t_parts_r32, t_signs_r33⟩, e34, h⟩ := zz_b h
              dsimp only at h
              refine zVi (As := [.int x1]) (rest := []) (C := RX5) (wr := []) [0, 1, 2, 3] [] 0 ⟨hx, hb, hml, hown, hts⟩ (mX5_takeJoint l D cB cI cZ a_t a_t_parts a_t_signs a_t_numbers t_laid t_stage t_open t_digits t_order t_prizes t_numbers t_parts t_signs H.size x1 b27 t_laid_r28 t_open_r29 t_stage_r30 t_numbers_r31 t_parts_r32 t_signs_r33 e34) (cwV 1 hts gX5_take_X5_takeJoint rfl rfl rfl (by decide +kernel) ⟨Nat.le_of_ble_eq_true rfl, Nat.le_of_ble_eq_true rfl⟩) hK hN hZ hP hD hS hA rfl rfl rfl rfl rfl rfl rfl rfl hl.1 rfl (lv_room (Nat.le_of_ble_eq_true rfl)) dX5_take_103 ⟨Nat.le_of_ble_eq_true rfl, Nat.le_of_ble_eq_true rfl⟩ (fun H locs hP hD hS => ?_)
              have hP : va_P D vwCl [(a_t, .inr (5, [.ref a_t_parts, .ref a_t_signs, .ref a_t_numbers, .int t_laid_r28, .int t_stage_r30, .int t_open_r29, .int t_digits, .int t_order, .int t_prizes])), (a_t_numbers, .inl (cI, 200, .inl t_numbers_r31)), (a_t_parts, .inl (cI, 200, .inl t_parts_r32)), (a_t_signs, .inl (cI, 200, .inl t_signs_r33))] H := hP
              have hD : va_D A [(a_t, .inr (5, [.ref a_t_parts, .ref a_t_signs, .ref a_t_numbers, .int t_laid_r28, .int t_stage_r30, .int t_open_r29, .int t_digits, .int t_order, .int t_prizes])), (a_t_numbers, .inl (cI, 200, .inl t_numbers_r31)), (a_t_parts, .inl (cI, 200, .inl t_parts_r32)), (a_t_signs, .inl (cI, 200, .inl t_signs_r33))] := hD
              obtain ⟨j0_, g_⟩ := Prod.mk.inj (Option.some.inj h)
              obtain ⟨j1_, g_⟩ := Prod.mk.inj g_
              obtain ⟨j2_, g_⟩ := Prod.mk.inj g_
              obtain ⟨j3_, g_⟩ := Prod.mk.inj g_
              obtain ⟨j4_, g_⟩ := Prod.mk.inj g_
              obtain ⟨j5_, g_⟩ := Prod.mk.inj g_
              obtain ⟨j6_, g_⟩ := Prod.mk.inj g_
              obtain ⟨j7_, g_⟩ := Prod.mk.inj g_
              obtain ⟨j8_, g_⟩ := Prod.mk.inj g_
              have j9_ := g_
              subst j0_
              subst j1_
              subst j2_
              subst j3_
              subst j4_
              subst j5_
              subst j6_
              subst j7_
              subst j8_
              subst j9_
              exact W.zret (v := (zb b27)) hx hb hr zz_n (fun t ht hW => ⟨⟨_, (), rfl, rfl, zPost.of hP hD hK ht hW [0, 1, 2, 3] rfl rfl rfl⟩, hS.F ht⟩) hS.2.2 dX5_take_106
            · have h := zz_f h c26
              refine lv_aload_n hx hb dX5_take_93 rfl (lv_at hl 0 rfl) ?_
              refine lv_iload_n hx hb dX5_take_94 rfl (lv_at hl 1 rfl) ?_
              obtain ⟨⟨b35, t_digits_r36, t_stage_r37, t_numbers_r38⟩, e39, h⟩ := zz_b h
              dsimp only at h
              refine zVi (As := [.int x1]) (rest := []) (C := RX5) (wr := [(a_t_parts, .inl (cI, 200, .inl t_parts)), (a_t_signs, .inl (cI, 200, .inl t_signs))]) [0, 1] [2, 3] 0 ⟨hx, hb, hml, hown, hts⟩ (mX5_takeDigit l D cB cI cZ a_t a_t_parts a_t_signs a_t_numbers t_laid t_stage t_open t_digits t_order t_prizes t_numbers H.size x1 b35 t_digits_r36 t_stage_r37 t_numbers_r38 e39) (cwV 1 hts gX5_take_X5_takeDigit rfl rfl rfl (by decide +kernel) ⟨Nat.le_of_ble_eq_true rfl, Nat.le_of_ble_eq_true rfl⟩) hK hN hZ hP hD hS hA rfl rfl rfl rfl rfl rfl rfl rfl hl.1 rfl (lv_room (Nat.le_of_ble_eq_true rfl)) dX5_take_95 ⟨Nat.le_of_ble_eq_true rfl, Nat.le_of_ble_eq_true rfl⟩ (fun H locs hP hD hS => ?_)
              have hP : va_P D vwCl [(a_t_parts, .inl (cI, 200, .inl t_parts)), (a_t_signs, .inl (cI, 200, .inl t_signs)), (a_t, .inr (5, [.ref a_t_parts, .ref a_t_signs, .ref a_t_numbers, .int t_laid, .int t_stage_r37, .int t_open, .int t_digits_r36, .int t_order, .int t_prizes])), (a_t_numbers, .inl (cI, 200, .inl t_numbers_r38))] H := hP
              have hD : va_D A [(a_t_parts, .inl (cI, 200, .inl t_parts)), (a_t_signs, .inl (cI, 200, .inl t_signs)), (a_t, .inr (5, [.ref a_t_parts, .ref a_t_signs, .ref a_t_numbers, .int t_laid, .int t_stage_r37, .int t_open, .int t_digits_r36, .int t_order, .int t_prizes])), (a_t_numbers, .inl (cI, 200, .inl t_numbers_r38))] := hD
              refine lv_goto (tgt := 106) hx hb dX5_take_98 (by decide) ?_
              obtain ⟨j0_, g_⟩ := Prod.mk.inj (Option.some.inj h)
              obtain ⟨j1_, g_⟩ := Prod.mk.inj g_
              obtain ⟨j2_, g_⟩ := Prod.mk.inj g_
              obtain ⟨j3_, g_⟩ := Prod.mk.inj g_
              obtain ⟨j4_, g_⟩ := Prod.mk.inj g_
              obtain ⟨j5_, g_⟩ := Prod.mk.inj g_
              obtain ⟨j6_, g_⟩ := Prod.mk.inj g_
              obtain ⟨j7_, g_⟩ := Prod.mk.inj g_
              obtain ⟨j8_, g_⟩ := Prod.mk.inj g_
              have j9_ := g_
              subst j0_
              subst j1_
              subst j2_
              subst j3_
              subst j4_
              subst j5_
              subst j6_
              subst j7_
              subst j8_
              subst j9_
              exact W.zret (v := (zb b35)) hx hb hr zz_n (fun t ht hW => ⟨⟨_, (), rfl, rfl, zPost.of hP hD hK ht hW [2, 3, 0, 1] rfl rfl rfl⟩, hS.F ht⟩) hS.2.2 dX5_take_106
          · have h := zz_f h c23
            by_cases c40 : t_stage = (nI 4)
            · have h := zz_t h c40
              refine lv_tableIn (off := 91) (tgt := 107) hx hb dX5_take_16 (by rw [c40]; decide) (by rw [c40]; decide) (by rw [c40]; rfl) (by decide) ?_
              refine lv_aload_n hx hb dX5_take_107 rfl (lv_at hl 0 rfl) ?_
              refine lv_iload_n hx hb dX5_take_108 rfl (lv_at hl 1 rfl) ?_
              obtain ⟨⟨b41, t_laid_r42, t_open_r43, t_stage_r44, t_numbers_r45, t_parts_r46, t_signs_r47⟩, e48, h⟩ := zz_b h
              dsimp only at h
              refine zVi (As := [.int x1]) (rest := []) (C := RX5) (wr := []) [0, 1, 2, 3] [] 0 ⟨hx, hb, hml, hown, hts⟩ (mX5_takeJoint l D cB cI cZ a_t a_t_parts a_t_signs a_t_numbers t_laid t_stage t_open t_digits t_order t_prizes t_numbers t_parts t_signs s.heap.size x1 b41 t_laid_r42 t_open_r43 t_stage_r44 t_numbers_r45 t_parts_r46 t_signs_r47 e48) (cwV 1 hts gX5_take_X5_takeJoint rfl rfl rfl (by decide +kernel) ⟨Nat.le_of_ble_eq_true rfl, Nat.le_of_ble_eq_true rfl⟩) hK hN hZ hP hD hS hA rfl rfl rfl rfl rfl rfl rfl rfl hl.1 rfl (lv_room (Nat.le_of_ble_eq_true rfl)) dX5_take_109 ⟨Nat.le_of_ble_eq_true rfl, Nat.le_of_ble_eq_true rfl⟩ (fun H locs hP hD hS => ?_)
              have hP : va_P D vwCl [(a_t, .inr (5, [.ref a_t_parts, .ref a_t_signs, .ref a_t_numbers, .int t_laid_r42, .int t_stage_r44, .int t_open_r43, .int t_digits, .int t_order, .int t_prizes])), (a_t_numbers, .inl (cI, 200, .inl t_numbers_r45)), (a_t_parts, .inl (cI, 200, .inl t_parts_r46)), (a_t_signs, .inl (cI, 200, .inl t_signs_r47))] H := hP
              have hD : va_D A [(a_t, .inr (5, [.ref a_t_parts, .ref a_t_signs, .ref a_t_numbers, .int t_laid_r42, .int t_stage_r44, .int t_open_r43, .int t_digits, .int t_order, .int t_prizes])), (a_t_numbers, .inl (cI, 200, .inl t_numbers_r45)), (a_t_parts, .inl (cI, 200, .inl t_parts_r46)), (a_t_signs, .inl (cI, 200, .inl t_signs_r47))] := hD
              obtain ⟨j0_, g_⟩ := Prod.mk.inj (Option.some.inj h)
              obtain ⟨j1_, g_⟩ := Prod.mk.inj g_
              obtain ⟨j2_, g_⟩ := Prod.mk.inj g_
              obtain ⟨j3_, g_⟩ := Prod.mk.inj g_
              obtain ⟨j4_, g_⟩ := Prod.mk.inj g_
              obtain ⟨j5_, g_⟩ := Prod.mk.inj g_
              obtain ⟨j6_, g_⟩ := Prod.mk.inj g_
              obtain ⟨j7_, g_⟩ := Prod.mk.inj g_
              obtain ⟨j8_, g_⟩ := Prod.mk.inj g_
              have j9_ := g_
              subst j0_
              subst j1_
              subst j2_
              subst j3_
              subst j4_
              subst j5_
              subst j6_
              subst j7_
              subst j8_
              subst j9_
              exact W.zret (v := (zb b41)) hx hb hr zz_n (fun t ht hW => ⟨⟨_, (), rfl, rfl, zPost.of hP hD hK ht hW [0, 1, 2, 3] rfl rfl rfl⟩, hS.F ht⟩) hS.2.2 dX5_take_112
            · have h := zz_f h c40
              by_cases c49 : t_stage = (nI 5)
              · have h := zz_t h c49
                refine lv_tableIn (off := 97) (tgt := 113) hx hb dX5_take_16 (by rw [c49]; decide) (by rw [c49]; decide) (by rw [c49]; rfl) (by decide) ?_
                refine lv_aload_n hx hb dX5_take_113 rfl (lv_at hl 0 rfl) ?_
                refine lv_iload_n hx hb dX5_take_114 rfl (lv_at hl 1 rfl) ?_
                obtain ⟨⟨b50, t_digits_r51, t_order_r52, t_stage_r53⟩, e54, h⟩ := zz_b h
                dsimp only at h
                refine zVi (As := [.int x1]) (rest := []) (C := RX5) (wr := [(a_t_numbers, .inl (cI, 200, .inl t_numbers)), (a_t_parts, .inl (cI, 200, .inl t_parts)), (a_t_signs, .inl (cI, 200, .inl t_signs))]) [0] [1, 2, 3] 0 ⟨hx, hb, hml, hown, hts⟩ (mX5_takeOrder l D cB cI cZ a_t a_t_parts a_t_signs a_t_numbers t_laid t_stage t_open t_digits t_order t_prizes s.heap.size x1 b50 t_digits_r51 t_order_r52 t_stage_r53 e54) (cwV 1 hts gX5_take_X5_takeOrder rfl rfl rfl (by decide +kernel) ⟨Nat.le_of_ble_eq_true rfl, Nat.le_of_ble_eq_true rfl⟩) hK hN hZ hP hD hS hA rfl rfl rfl rfl rfl rfl rfl rfl hl.1 rfl (lv_room (Nat.le_of_ble_eq_true rfl)) dX5_take_115 ⟨Nat.le_of_ble_eq_true rfl, Nat.le_of_ble_eq_true rfl⟩ (fun H locs hP hD hS => ?_)
                have hP : va_P D vwCl [(a_t_numbers, .inl (cI, 200, .inl t_numbers)), (a_t_parts, .inl (cI, 200, .inl t_parts)), (a_t_signs, .inl (cI, 200, .inl t_signs)), (a_t, .inr (5, [.ref a_t_parts, .ref a_t_signs, .ref a_t_numbers, .int t_laid, .int t_stage_r53, .int t_open, .int t_digits_r51, .int t_order_r52, .int t_prizes]))] H := hP
                have hD : va_D A [(a_t_numbers, .inl (cI, 200, .inl t_numbers)), (a_t_parts, .inl (cI, 200, .inl t_parts)), (a_t_signs, .inl (cI, 200, .inl t_signs)), (a_t, .inr (5, [.ref a_t_parts, .ref a_t_signs, .ref a_t_numbers, .int t_laid, .int t_stage_r53, .int t_open, .int t_digits_r51, .int t_order_r52, .int t_prizes]))] := hD
                obtain ⟨j0_, g_⟩ := Prod.mk.inj (Option.some.inj h)
                obtain ⟨j1_, g_⟩ := Prod.mk.inj g_
                obtain ⟨j2_, g_⟩ := Prod.mk.inj g_
                obtain ⟨j3_, g_⟩ := Prod.mk.inj g_
                obtain ⟨j4_, g_⟩ := Prod.mk.inj g_
                obtain ⟨j5_, g_⟩ := Prod.mk.inj g_
                obtain ⟨j6_, g_⟩ := Prod.mk.inj g_
                obtain ⟨j7_, g_⟩ := Prod.mk.inj g_
                obtain ⟨j8_, g_⟩ := Prod.mk.inj g_
                have j9_ := g_
                subst j0_
                subst j1_
                subst j2_
                subst j3_
                subst j4_
                subst j5_
                subst j6_
                subst j7_
                subst j8_
                subst j9_
                exact W.zret (v := (zb b50)) hx hb hr zz_n (fun t ht hW => ⟨⟨_, (), rfl, rfl, zPost.of hP hD hK ht hW [3, 0, 1, 2] rfl rfl rfl⟩, hS.F ht⟩) hS.2.2 dX5_take_118
              · have h := zz_f h c49
                by_cases c55 : t_stage = (nI 6)
                · have h := zz_t h c55
                  refine lv_tableIn (off := 103) (tgt := 119) hx hb dX5_take_16 (by rw [c55]; decide) (by rw [c55]; decide) (by rw [c55]; rfl) (by decide) ?_
                  refine lv_aload_n hx hb dX5_take_119 rfl (lv_at hl 0 rfl) ?_
                  refine lv_bipush (v := (nI 7)) hx hb dX5_take_120 rfl ?_
                  refine va_put (D := D) (ci := 5) (ty := .int) (C := RX5) (T := TX5) (N := 9) hx hb hts qX5_take_X5 tyX5 tyX5_ok nmX5 hown hK hP hD hS 0 rfl rfl 4 (by decide) (hts _ kX5_take_0) (fun _ h9 => h9) rfl (by decide +kernel) rfl (by first | rfl | exact zz_fit) (Nat.le_of_ble_eq_true rfl) dX5_take_122 (fun H locs hP hD hS => ?_)
                  have hP : va_P D vwCl [(a_t, .inr (5, [.ref a_t_parts, .ref a_t_signs, .ref a_t_numbers, .int t_laid, .int (nI 7), .int t_open, .int t_digits, .int t_order, .int t_prizes])), (a_t_numbers, .inl (cI, 200, .inl t_numbers)), (a_t_parts, .inl (cI, 200, .inl t_parts)), (a_t_signs, .inl (cI, 200, .inl t_signs))] H := hP
                  have hD : va_D A [(a_t, .inr (5, [.ref a_t_parts, .ref a_t_signs, .ref a_t_numbers, .int t_laid, .int (nI 7), .int t_open, .int t_digits, .int t_order, .int t_prizes])), (a_t_numbers, .inl (cI, 200, .inl t_numbers)), (a_t_parts, .inl (cI, 200, .inl t_parts)), (a_t_signs, .inl (cI, 200, .inl t_signs))] := hD
                  refine lv_iload_n hx hb dX5_take_125 rfl (lv_at hl 1 rfl) ?_
                  refine lv_bipush (v := (nI 59)) hx hb dX5_take_126 rfl ?_
                  refine lv_icmp_ne (tgt := 135) hx hb dX5_take_128 (by decide) (fun c56 => ?_) (fun c56 => ?_)
                  · have h := zz_f h c56
                    refine lv_iconst (v := (nI 0)) hx hb dX5_take_135 rfl ?_
                    obtain ⟨j0_, g_⟩ := Prod.mk.inj (Option.some.inj h)
                    obtain ⟨j1_, g_⟩ := Prod.mk.inj g_
                    obtain ⟨j2_, g_⟩ := Prod.mk.inj g_
                    obtain ⟨j3_, g_⟩ := Prod.mk.inj g_
                    obtain ⟨j4_, g_⟩ := Prod.mk.inj g_
                    obtain ⟨j5_, g_⟩ := Prod.mk.inj g_
                    obtain ⟨j6_, g_⟩ := Prod.mk.inj g_
                    obtain ⟨j7_, g_⟩ := Prod.mk.inj g_
                    obtain ⟨j8_, g_⟩ := Prod.mk.inj g_
                    have j9_ := g_
                    subst j0_
                    subst j1_
                    subst j2_
                    subst j3_
                    subst j4_
                    subst j5_
                    subst j6_
                    subst j7_
                    subst j8_
                    subst j9_
                    exact W.zret (v := (nI 0)) hx hb hr rfl (fun t ht hW => ⟨⟨_, (), rfl, rfl, zPost.of hP hD hK ht hW [0, 1, 2, 3] rfl rfl rfl⟩, hS.F ht⟩) hS.2.2 dX5_take_136
                  · have h := zz_t h c56
                    refine lv_iconst (v := (nI 1)) hx hb dX5_take_131 rfl ?_
                    refine lv_goto (tgt := 136) hx hb dX5_take_132 (by decide) ?_
                    obtain ⟨j0_, g_⟩ := Prod.mk.inj (Option.some.inj h)
                    obtain ⟨j1_, g_⟩ := Prod.mk.inj g_
                    obtain ⟨j2_, g_⟩ := Prod.mk.inj g_
                    obtain ⟨j3_, g_⟩ := Prod.mk.inj g_
                    obtain ⟨j4_, g_⟩ := Prod.mk.inj g_
                    obtain ⟨j5_, g_⟩ := Prod.mk.inj g_
                    obtain ⟨j6_, g_⟩ := Prod.mk.inj g_
                    obtain ⟨j7_, g_⟩ := Prod.mk.inj g_
                    obtain ⟨j8_, g_⟩ := Prod.mk.inj g_
                    have j9_ := g_
                    subst j0_
                    subst j1_
                    subst j2_
                    subst j3_
                    subst j4_
                    subst j5_
                    subst j6_
                    subst j7_
                    subst j8_
                    subst j9_
                    exact W.zret (v := (nI 1)) hx hb hr rfl (fun t ht hW => ⟨⟨_, (), rfl, rfl, zPost.of hP hD hK ht hW [0, 1, 2, 3] rfl rfl rfl⟩, hS.F ht⟩) hS.2.2 dX5_take_136
                · have h := zz_f h c55
                  by_cases c57 : t_stage = (nI 7)
                  · have h := zz_t h c57
                    refine lv_tableIn (off := 121) (tgt := 137) hx hb dX5_take_16 (by rw [c57]; decide) (by rw [c57]; decide) (by rw [c57]; rfl) (by decide) ?_
                    refine lv_aload_n hx hb dX5_take_137 rfl (lv_at hl 0 rfl) ?_
                    refine lv_iload_n hx hb dX5_take_138 rfl (lv_at hl 1 rfl) ?_
                    obtain ⟨⟨b58, t_digits_r59, t_prizes_r60, t_stage_r61⟩, e62, h⟩ := zz_b h
                    dsimp only at h
                    refine zVi (As := [.int x1]) (rest := []) (C := RX5) (wr := [(a_t_numbers, .inl (cI, 200, .inl t_numbers)), (a_t_parts, .inl (cI, 200, .inl t_parts)), (a_t_signs, .inl (cI, 200, .inl t_signs))]) [0] [1, 2, 3] 0 ⟨hx, hb, hml, hown, hts⟩ (mX5_takePrizeDigit l D cB cI cZ a_t a_t_parts a_t_signs a_t_numbers t_laid t_stage t_open t_digits t_order t_prizes s.heap.size x1 b58 t_digits_r59 t_prizes_r60 t_stage_r61 e62) (cwV 1 hts gX5_take_X5_takePrizeDigit rfl rfl rfl (by decide +kernel) ⟨Nat.le_of_ble_eq_true rfl, Nat.le_of_ble_eq_true rfl⟩) hK hN hZ hP hD hS hA rfl rfl rfl rfl rfl rfl rfl rfl hl.1 rfl (lv_room (Nat.le_of_ble_eq_true rfl)) dX5_take_139 ⟨Nat.le_of_ble_eq_true rfl, Nat.le_of_ble_eq_true rfl⟩ (fun H locs hP hD hS => ?_)
                    have hP : va_P D vwCl [(a_t_numbers, .inl (cI, 200, .inl t_numbers)), (a_t_parts, .inl (cI, 200, .inl t_parts)), (a_t_signs, .inl (cI, 200, .inl t_signs)), (a_t, .inr (5, [.ref a_t_parts, .ref a_t_signs, .ref a_t_numbers, .int t_laid, .int t_stage_r61, .int t_open, .int t_digits_r59, .int t_order, .int t_prizes_r60]))] H := hP
                    have hD : va_D A [(a_t_numbers, .inl (cI, 200, .inl t_numbers)), (a_t_parts, .inl (cI, 200, .inl t_parts)), (a_t_signs, .inl (cI, 200, .inl t_signs)), (a_t, .inr (5, [.ref a_t_parts, .ref a_t_signs, .ref a_t_numbers, .int t_laid, .int t_stage_r61, .int t_open, .int t_digits_r59, .int t_order, .int t_prizes_r60]))] := hD
                    obtain ⟨j0_, g_⟩ := Prod.mk.inj (Option.some.inj h)
                    obtain ⟨j1_, g_⟩ := Prod.mk.inj g_
                    obtain ⟨j2_, g_⟩ := Prod.mk.inj g_
                    obtain ⟨j3_, g_⟩ := Prod.mk.inj g_
                    obtain ⟨j4_, g_⟩ := Prod.mk.inj g_
                    obtain ⟨j5_, g_⟩ := Prod.mk.inj g_
                    obtain ⟨j6_, g_⟩ := Prod.mk.inj g_
                    obtain ⟨j7_, g_⟩ := Prod.mk.inj g_
                    obtain ⟨j8_, g_⟩ := Prod.mk.inj g_
                    have j9_ := g_
                    subst j0_
                    subst j1_
                    subst j2_
                    subst j3_
                    subst j4_
                    subst j5_
                    subst j6_
                    subst j7_
                    subst j8_
                    subst j9_
                    exact W.zret (v := (zb b58)) hx hb hr zz_n (fun t ht hW => ⟨⟨_, (), rfl, rfl, zPost.of hP hD hK ht hW [3, 0, 1, 2] rfl rfl rfl⟩, hS.F ht⟩) hS.2.2 dX5_take_142
                  · have h := zz_f h c57
                    by_cases c63 : t_stage = (nI 8)
                    · have h := zz_t h c63
                      refine lv_tableIn (off := 121) (tgt := 137) hx hb dX5_take_16 (by rw [c63]; decide) (by rw [c63]; decide) (by rw [c63]; rfl) (by decide) ?_
                      refine lv_aload_n hx hb dX5_take_137 rfl (lv_at hl 0 rfl) ?_
                      refine lv_iload_n hx hb dX5_take_138 rfl (lv_at hl 1 rfl) ?_
                      obtain ⟨⟨b64, t_digits_r65, t_prizes_r66, t_stage_r67⟩, e68, h⟩ := zz_b h
                      dsimp only at h
                      refine zVi (As := [.int x1]) (rest := []) (C := RX5) (wr := [(a_t_numbers, .inl (cI, 200, .inl t_numbers)), (a_t_parts, .inl (cI, 200, .inl t_parts)), (a_t_signs, .inl (cI, 200, .inl t_signs))]) [0] [1, 2, 3] 0 ⟨hx, hb, hml, hown, hts⟩ (mX5_takePrizeDigit l D cB cI cZ a_t a_t_parts a_t_signs a_t_numbers t_laid t_stage t_open t_digits t_order t_prizes s.heap.size x1 b64 t_digits_r65 t_prizes_r66 t_stage_r67 e68) (cwV 1 hts gX5_take_X5_takePrizeDigit rfl rfl rfl (by decide +kernel) ⟨Nat.le_of_ble_eq_true rfl, Nat.le_of_ble_eq_true rfl⟩) hK hN hZ hP hD hS hA rfl rfl rfl rfl rfl rfl rfl rfl hl.1 rfl (lv_room (Nat.le_of_ble_eq_true rfl)) dX5_take_139 ⟨Nat.le_of_ble_eq_true rfl, Nat.le_of_ble_eq_true rfl⟩ (fun H locs hP hD hS => ?_)
                      have hP : va_P D vwCl [(a_t_numbers, .inl (cI, 200, .inl t_numbers)), (a_t_parts, .inl (cI, 200, .inl t_parts)), (a_t_signs, .inl (cI, 200, .inl t_signs)), (a_t, .inr (5, [.ref a_t_parts, .ref a_t_signs, .ref a_t_numbers, .int t_laid, .int t_stage_r67, .int t_open, .int t_digits_r65, .int t_order, .int t_prizes_r66]))] H := hP
                      have hD : va_D A [(a_t_numbers, .inl (cI, 200, .inl t_numbers)), (a_t_parts, .inl (cI, 200, .inl t_parts)), (a_t_signs, .inl (cI, 200, .inl t_signs)), (a_t, .inr (5, [.ref a_t_parts, .ref a_t_signs, .ref a_t_numbers, .int t_laid, .int t_stage_r67, .int t_open, .int t_digits_r65, .int t_order, .int t_prizes_r66]))] := hD
                      obtain ⟨j0_, g_⟩ := Prod.mk.inj (Option.some.inj h)
                      obtain ⟨j1_, g_⟩ := Prod.mk.inj g_
                      obtain ⟨j2_, g_⟩ := Prod.mk.inj g_
                      obtain ⟨j3_, g_⟩ := Prod.mk.inj g_
                      obtain ⟨j4_, g_⟩ := Prod.mk.inj g_
                      obtain ⟨j5_, g_⟩ := Prod.mk.inj g_
                      obtain ⟨j6_, g_⟩ := Prod.mk.inj g_
                      obtain ⟨j7_, g_⟩ := Prod.mk.inj g_
                      obtain ⟨j8_, g_⟩ := Prod.mk.inj g_
                      have j9_ := g_
                      subst j0_
                      subst j1_
                      subst j2_
                      subst j3_
                      subst j4_
                      subst j5_
                      subst j6_
                      subst j7_
                      subst j8_
                      subst j9_
                      exact W.zret (v := (zb b64)) hx hb hr zz_n (fun t ht hW => ⟨⟨_, (), rfl, rfl, zPost.of hP hD hK ht hW [3, 0, 1, 2] rfl rfl rfl⟩, hS.F ht⟩) hS.2.2 dX5_take_142
                    · have h := zz_f h c63
                      refine lv_tableOut (tgt := 143) hx hb dX5_take_16 (by have n0_ := lv_neT c2 (a := 0) rfl; have n1_ := lv_neT c11 (a := 1) rfl; have n2_ := lv_neT c17 (a := 2) rfl; have n3_ := lv_neT c23 (a := 3) rfl; have n4_ := lv_neT c40 (a := 4) rfl; have n5_ := lv_neT c49 (a := 5) rfl; have n6_ := lv_neT c55 (a := 6) rfl; have n7_ := lv_neT c57 (a := 7) rfl; have n8_ := lv_neT c63 (a := 8) rfl; omega) (by decide) ?_
                      refine lv_iconst (v := (nI 0)) hx hb dX5_take_143 rfl ?_
                      obtain ⟨j0_, g_⟩ := Prod.mk.inj (Option.some.inj h)
                      obtain ⟨j1_, g_⟩ := Prod.mk.inj g_
                      obtain ⟨j2_, g_⟩ := Prod.mk.inj g_
                      obtain ⟨j3_, g_⟩ := Prod.mk.inj g_
                      obtain ⟨j4_, g_⟩ := Prod.mk.inj g_
                      obtain ⟨j5_, g_⟩ := Prod.mk.inj g_
                      obtain ⟨j6_, g_⟩ := Prod.mk.inj g_
                      obtain ⟨j7_, g_⟩ := Prod.mk.inj g_
                      obtain ⟨j8_, g_⟩ := Prod.mk.inj g_
                      have j9_ := g_
                      subst j0_
                      subst j1_
                      subst j2_
                      subst j3_
                      subst j4_
                      subst j5_
                      subst j6_
                      subst j7_
                      subst j8_
                      subst j9_
                      exact W.zret (v := (nI 0)) hx hb hr rfl (fun t ht hW => ⟨⟨_, (), rfl, rfl, zPost.of hP hD hK ht hW [0, 1, 2, 3] rfl rfl rfl⟩, hS.F ht⟩) hS.2.2 dX5_take_144
  · have h := zz_t h c1
    refine lv_aload_n hx hb dX5_take_6 rfl (lv_at hl 0 rfl) ?_
    obtain ⟨t_stage_r69, e70, h⟩ := zz_b h
    refine zVv (As := []) (rest := []) (C := RX5) (wr := [(a_t_numbers, .inl (cI, 200, .inl t_numbers)), (a_t_parts, .inl (cI, 200, .inl t_parts)), (a_t_signs, .inl (cI, 200, .inl t_signs))]) [0] [1, 2, 3] 0 ⟨hx, hb, hml, hown, hts⟩ (mX5_endNumber l D cB cI cZ a_t a_t_parts a_t_signs a_t_numbers t_laid t_stage t_open t_digits t_order t_prizes s.heap.size t_stage_r69 e70) (cwV 0 hts gX5_take_X5_endNumber rfl rfl rfl (by decide +kernel) ⟨Nat.le_of_ble_eq_true rfl, Nat.le_of_ble_eq_true rfl⟩) hK hN hZ hP hD hS hA rfl rfl rfl rfl rfl rfl rfl rfl hl.1 rfl (lv_room (Nat.le_of_ble_eq_true rfl)) dX5_take_7 ⟨Nat.le_of_ble_eq_true rfl, Nat.le_of_ble_eq_true rfl⟩ (fun H locs hP hD hS => ?_)
    have hP : va_P D vwCl [(a_t_numbers, .inl (cI, 200, .inl t_numbers)), (a_t_parts, .inl (cI, 200, .inl t_parts)), (a_t_signs, .inl (cI, 200, .inl t_signs)), (a_t, .inr (5, [.ref a_t_parts, .ref a_t_signs, .ref a_t_numbers, .int t_laid, .int t_stage_r69, .int t_open, .int t_digits, .int t_order, .int t_prizes]))] H := hP
    have hD : va_D A [(a_t_numbers, .inl (cI, 200, .inl t_numbers)), (a_t_parts, .inl (cI, 200, .inl t_parts)), (a_t_signs, .inl (cI, 200, .inl t_signs)), (a_t, .inr (5, [.ref a_t_parts, .ref a_t_signs, .ref a_t_numbers, .int t_laid, .int t_stage_r69, .int t_open, .int t_digits, .int t_order, .int t_prizes]))] := hD
    refine lv_iconst (v := (nI 1)) hx hb dX5_take_10 rfl ?_
    obtain ⟨j0_, g_⟩ := Prod.mk.inj (Option.some.inj h)
    obtain ⟨j1_, g_⟩ := Prod.mk.inj g_
    obtain ⟨j2_, g_⟩ := Prod.mk.inj g_
    obtain ⟨j3_, g_⟩ := Prod.mk.inj g_
    obtain ⟨j4_, g_⟩ := Prod.mk.inj g_
    obtain ⟨j5_, g_⟩ := Prod.mk.inj g_
    obtain ⟨j6_, g_⟩ := Prod.mk.inj g_
    obtain ⟨j7_, g_⟩ := Prod.mk.inj g_
    obtain ⟨j8_, g_⟩ := Prod.mk.inj g_
    have j9_ := g_
    subst j0_
    subst j1_
    subst j2_
    subst j3_
    subst j4_
    subst j5_
    subst j6_
    subst j7_
    subst j8_
    subst j9_
    exact W.zret (v := (nI 1)) hx hb hr rfl (fun t ht hW => ⟨⟨_, (), rfl, rfl, zPost.of hP hD hK ht hW [3, 0, 1, 2] rfl rfl rfl⟩, hS.F ht⟩) hS.2.2 dX5_take_11
/-! RunDesk$Reading.read -/
theorem dX5_read_0 : decode cX5_read 0 = .ok (.aload_n 0, 1) := by decide +kernel
theorem dX5_read_1 : decode cX5_read 1 = .ok (.iconst 0, 1) := by decide +kernel
theorem dX5_read_2 : decode cX5_read 2 = .ok (.putfield 21, 3) := by decide +kernel
theorem dX5_read_5 : decode cX5_read 5 = .ok (.aload_n 0, 1) := by decide +kernel
theorem dX5_read_6 : decode cX5_read 6 = .ok (.iconst 0, 1) := by decide +kernel
theorem dX5_read_7 : decode cX5_read 7 = .ok (.putfield 25, 3) := by decide +kernel
theorem dX5_read_10 : decode cX5_read 10 = .ok (.aload_n 0, 1) := by decide +kernel
theorem dX5_read_11 : decode cX5_read 11 = .ok (.iconst 0, 1) := by decide +kernel
theorem dX5_read_12 : decode cX5_read 12 = .ok (.putfield 28, 3) := by decide +kernel
theorem dX5_read_15 : decode cX5_read 15 = .ok (.aload_n 0, 1) := by decide +kernel
theorem dX5_read_16 : decode cX5_read 16 = .ok (.iconst 0, 1) := by decide +kernel
theorem dX5_read_17 : decode cX5_read 17 = .ok (.putfield 31, 3) := by decide +kernel
theorem dX5_read_20 : decode cX5_read 20 = .ok (.aload_n 0, 1) := by decide +kernel
theorem dX5_read_21 : decode cX5_read 21 = .ok (.iconst (-1), 1) := by decide +kernel
theorem dX5_read_22 : decode cX5_read 22 = .ok (.putfield 34, 3) := by decide +kernel
theorem dX5_read_25 : decode cX5_read 25 = .ok (.aload_n 0, 1) := by decide +kernel
theorem dX5_read_26 : decode cX5_read 26 = .ok (.iconst 0, 1) := by decide +kernel
theorem dX5_read_27 : decode cX5_read 27 = .ok (.putfield 37, 3) := by decide +kernel
theorem dX5_read_30 : decode cX5_read 30 = .ok (.iconst 0, 1) := by decide +kernel
theorem dX5_read_31 : decode cX5_read 31 = .ok (.istore_n 2, 1) := by decide +kernel
theorem dX5_read_32 : decode cX5_read 32 = .ok (.iload_n 2, 1) := by decide +kernel
theorem dX5_read_33 : decode cX5_read 33 = .ok (.aload_n 1, 1) := by decide +kernel
theorem dX5_read_34 : decode cX5_read 34 = .ok (.invokevirtual 40, 3) := by decide +kernel
theorem dX5_read_37 : decode cX5_read 37 = .ok (.if_icmp .ge 23, 3) := by decide +kernel
theorem dX5_read_40 : decode cX5_read 40 = .ok (.aload_n 0, 1) := by decide +kernel
theorem dX5_read_41 : decode cX5_read 41 = .ok (.aload_n 1, 1) := by decide +kernel
theorem dX5_read_42 : decode cX5_read 42 = .ok (.iload_n 2, 1) := by decide +kernel
theorem dX5_read_43 : decode cX5_read 43 = .ok (.invokevirtual 46, 3) := by decide +kernel
theorem dX5_read_46 : decode cX5_read 46 = .ok (.invokevirtual 50, 3) := by decide +kernel
theorem dX5_read_49 : decode cX5_read 49 = .ok (.ifCond .ne 5, 3) := by decide +kernel
theorem dX5_read_52 : decode cX5_read 52 = .ok (.iload_n 2, 1) := by decide +kernel
theorem dX5_read_53 : decode cX5_read 53 = .ok (.ireturn, 1) := by decide +kernel
theorem dX5_read_54 : decode cX5_read 54 = .ok (.iinc 2 1, 3) := by decide +kernel
theorem dX5_read_57 : decode cX5_read 57 = .ok (.goto (-25), 3) := by decide +kernel
theorem dX5_read_60 : decode cX5_read 60 = .ok (.aload_n 0, 1) := by decide +kernel
theorem dX5_read_61 : decode cX5_read 61 = .ok (.getfield 25, 3) := by decide +kernel
theorem dX5_read_64 : decode cX5_read 64 = .ok (.bipush 6, 2) := by decide +kernel
theorem dX5_read_66 : decode cX5_read 66 = .ok (.if_icmp .eq 21, 3) := by decide +kernel
theorem dX5_read_69 : decode cX5_read 69 = .ok (.aload_n 0, 1) := by decide +kernel
theorem dX5_read_70 : decode cX5_read 70 = .ok (.getfield 25, 3) := by decide +kernel
theorem dX5_read_73 : decode cX5_read 73 = .ok (.bipush 8, 2) := by decide +kernel
theorem dX5_read_75 : decode cX5_read 75 = .ok (.if_icmp .eq 12, 3) := by decide +kernel
theorem dX5_read_78 : decode cX5_read 78 = .ok (.aload_n 0, 1) := by decide +kernel
theorem dX5_read_79 : decode cX5_read 79 = .ok (.getfield 25, 3) := by decide +kernel
theorem dX5_read_82 : decode cX5_read 82 = .ok (.bipush 9, 2) := by decide +kernel
theorem dX5_read_84 : decode cX5_read 84 = .ok (.if_icmp .ne 7, 3) := by decide +kernel
theorem dX5_read_87 : decode cX5_read 87 = .ok (.iconst 1, 1) := by decide +kernel
theorem dX5_read_88 : decode cX5_read 88 = .ok (.goto 4, 3) := by decide +kernel
theorem dX5_read_91 : decode cX5_read 91 = .ok (.iconst 0, 1) := by decide +kernel
theorem dX5_read_92 : decode cX5_read 92 = .ok (.istore_n 2, 1) := by decide +kernel
theorem dX5_read_93 : decode cX5_read 93 = .ok (.iload_n 2, 1) := by decide +kernel
theorem dX5_read_94 : decode cX5_read 94 = .ok (.ifCond .eq 7, 3) := by decide +kernel
theorem dX5_read_97 : decode cX5_read 97 = .ok (.iconst (-1), 1) := by decide +kernel
theorem dX5_read_98 : decode cX5_read 98 = .ok (.goto 7, 3) := by decide +kernel
theorem dX5_read_101 : decode cX5_read 101 = .ok (.aload_n 1, 1) := by decide +kernel
theorem dX5_read_102 : decode cX5_read 102 = .ok (.invokevirtual 40, 3) := by decide +kernel
theorem dX5_read_105 : decode cX5_read 105 = .ok (.ireturn, 1) := by decide +kernel
set_option maxRecDepth 20000 in
theorem ggX5_read_X7_size : GoodIn wsX5_read wsX7_size := goodIn_sub (List.forall_mem_cons.mpr ⟨List.mem_cons_of_mem _ (List.mem_append_left _ (List.mem_append_left _ (List.mem_append_left _ (List.mem_of_getElem? (l := wsX5_read_r1) (i := 10) rfl)))), (List.forall_mem_append.mpr ⟨(List.forall_mem_cons.mpr ⟨List.mem_cons_of_mem _ (List.mem_append_left _ (List.mem_append_left _ (List.mem_append_left _ (List.mem_of_getElem? (l := wsX5_read_r1) (i := 11) rfl)))), (fun _ h => nomatch h)⟩), (fun _ h => List.mem_cons_of_mem _ (List.mem_append_right _ (h)))⟩)⟩) (by decide +kernel)
set_option maxRecDepth 20000 in
theorem gX5_read_X7_size : GoodIn wsX5_read (wsV RX5 40 RX7 yX7_size wsX7_size) := goodIn_app (goodIn_of _ (by decide +kernel)) ggX5_read_X7_size
set_option maxRecDepth 20000 in
theorem ggX5_read_X7_byteAt : GoodIn wsX5_read wsX7_byteAt := goodIn_sub (List.forall_mem_cons.mpr ⟨List.mem_cons_of_mem _ (List.mem_append_left _ (List.mem_append_left _ (List.mem_append_left _ (List.mem_of_getElem? (l := wsX5_read_r1) (i := 15) rfl)))), (List.forall_mem_append.mpr ⟨(List.forall_mem_cons.mpr ⟨List.mem_cons_of_mem _ (List.mem_append_left _ (List.mem_append_left _ (List.mem_append_left _ (List.mem_of_getElem? (l := wsX5_read_r1) (i := 11) rfl)))), (List.forall_mem_cons.mpr ⟨List.mem_cons_of_mem _ (List.mem_append_left _ (List.mem_append_left _ (List.mem_append_left _ (List.mem_of_getElem? (l := wsX5_read_r1) (i := 16) rfl)))), (fun _ h => nomatch h)⟩)⟩), (fun _ h => List.mem_cons_of_mem _ (List.mem_append_right _ (h)))⟩)⟩) (by decide +kernel)
set_option maxRecDepth 20000 in
theorem gX5_read_X7_byteAt : GoodIn wsX5_read (wsV RX5 46 RX7 yX7_byteAt wsX7_byteAt) := goodIn_app (goodIn_of _ (by decide +kernel)) ggX5_read_X7_byteAt
set_option maxRecDepth 20000 in
theorem ggX5_read_X5_take : GoodIn wsX5_read wsX5_take := goodIn_sub (List.forall_mem_cons.mpr ⟨List.mem_cons_of_mem _ (List.mem_append_left _ (List.mem_append_left _ (List.mem_append_left _ (List.mem_of_getElem? (l := wsX5_read_r1) (i := 21) rfl)))), (List.forall_mem_append.mpr ⟨(List.forall_mem_append.mpr ⟨(List.forall_mem_cons.mpr ⟨List.mem_cons_of_mem _ (List.mem_append_left _ (List.mem_append_left _ (List.mem_append_left _ (List.mem_of_getElem? (l := wsX5_read_r1) (i := 1) rfl)))), (List.forall_mem_cons.mpr ⟨List.mem_cons_of_mem _ (List.mem_append_left _ (List.mem_append_left _ (List.mem_append_left _ (List.mem_of_getElem? (l := wsX5_read_r1) (i := 22) rfl)))), (List.forall_mem_cons.mpr ⟨List.mem_cons_of_mem _ (List.mem_append_left _ (List.mem_append_left _ (List.mem_append_left _ (List.mem_of_getElem? (l := wsX5_read_r1) (i := 23) rfl)))), (List.forall_mem_cons.mpr ⟨List.mem_cons_of_mem _ (List.mem_append_left _ (List.mem_append_left _ (List.mem_append_right _ (List.mem_append_left _ (List.mem_of_getElem? (l := wsX5_read_r2) (i := 0) rfl))))), (List.forall_mem_cons.mpr ⟨List.mem_cons_of_mem _ (List.mem_append_left _ (List.mem_append_left _ (List.mem_append_left _ (List.mem_of_getElem? (l := wsX5_read_r1) (i := 20) rfl)))), (List.forall_mem_cons.mpr ⟨List.mem_cons_of_mem _ (List.mem_append_left _ (List.mem_append_left _ (List.mem_append_right _ (List.mem_append_left _ (List.mem_of_getElem? (l := wsX5_read_r2) (i := 1) rfl))))), (List.forall_mem_cons.mpr ⟨List.mem_cons_of_mem _ (List.mem_append_left _ (List.mem_append_left _ (List.mem_append_right _ (List.mem_append_left _ (List.mem_of_getElem? (l := wsX5_read_r2) (i := 2) rfl))))), (List.forall_mem_cons.mpr ⟨List.mem_cons_of_mem _ (List.mem_append_left _ (List.mem_append_left _ (List.mem_append_right _ (List.mem_append_left _ (List.mem_of_getElem? (l := wsX5_read_r2) (i := 3) rfl))))), (List.forall_mem_cons.mpr ⟨List.mem_cons_of_mem _ (List.mem_append_left _ (List.mem_append_left _ (List.mem_append_right _ (List.mem_append_left _ (List.mem_of_getElem? (l := wsX5_read_r2) (i := 4) rfl))))), (List.forall_mem_cons.mpr ⟨List.mem_cons_of_mem _ (List.mem_append_left _ (List.mem_append_left _ (List.mem_append_right _ (List.mem_append_left _ (List.mem_of_getElem? (l := wsX5_read_r2) (i := 5) rfl))))), (List.forall_mem_cons.mpr ⟨List.mem_cons_of_mem _ (List.mem_append_left _ (List.mem_append_left _ (List.mem_append_left _ (List.mem_of_getElem? (l := wsX5_read_r1) (i := 2) rfl)))), (List.forall_mem_cons.mpr ⟨List.mem_cons_of_mem _ (List.mem_append_left _ (List.mem_append_left _ (List.mem_append_right _ (List.mem_append_left _ (List.mem_of_getElem? (l := wsX5_read_r2) (i := 6) rfl))))), (List.forall_mem_cons.mpr ⟨List.mem_cons_of_mem _ (List.mem_append_left _ (List.mem_append_left _ (List.mem_append_right _ (List.mem_append_left _ (List.mem_of_getElem? (l := wsX5_read_r2) (i := 7) rfl))))), (List.forall_mem_cons.mpr ⟨List.mem_cons_of_mem _ (List.mem_append_left _ (List.mem_append_left _ (List.mem_append_right _ (List.mem_append_left _ (List.mem_of_getElem? (l := wsX5_read_r2) (i := 8) rfl))))), (List.forall_mem_cons.mpr ⟨List.mem_cons_of_mem _ (List.mem_append_left _ (List.mem_append_left _ (List.mem_append_right _ (List.mem_append_left _ (List.mem_of_getElem? (l := wsX5_read_r2) (i := 9) rfl))))), (List.forall_mem_cons.mpr ⟨List.mem_cons_of_mem _ (List.mem_append_left _ (List.mem_append_left _ (List.mem_append_left _ (List.mem_of_getElem? (l := wsX5_read_r1) (i := 0) rfl)))), (List.forall_mem_cons.mpr ⟨List.mem_cons_of_mem _ (List.mem_append_left _ (List.mem_append_left _ (List.mem_append_right _ (List.mem_append_left _ (List.mem_of_getElem? (l := wsX5_read_r2) (i := 10) rfl))))), (List.forall_mem_cons.mpr ⟨List.mem_cons_of_mem _ (List.mem_append_left _ (List.mem_append_left _ (List.mem_append_right _ (List.mem_append_left _ (List.mem_of_getElem? (l := wsX5_read_r2) (i := 11) rfl))))), (List.forall_mem_cons.mpr ⟨List.mem_cons_of_mem _ (List.mem_append_left _ (List.mem_append_left _ (List.mem_append_right _ (List.mem_append_left _ (List.mem_of_getElem? (l := wsX5_read_r2) (i := 12) rfl))))), (List.forall_mem_cons.mpr ⟨List.mem_cons_of_mem _ (List.mem_append_left _ (List.mem_append_left _ (List.mem_append_right _ (List.mem_append_left _ (List.mem_of_getElem? (l := wsX5_read_r2) (i := 13) rfl))))), (List.forall_mem_cons.mpr ⟨List.mem_cons_of_mem _ (List.mem_append_left _ (List.mem_append_left _ (List.mem_append_right _ (List.mem_append_left _ (List.mem_of_getElem? (l := wsX5_read_r2) (i := 14) rfl))))), (List.forall_mem_cons.mpr ⟨List.mem_cons_of_mem _ (List.mem_append_left _ (List.mem_append_left _ (List.mem_append_right _ (List.mem_append_left _ (List.mem_of_getElem? (l := wsX5_read_r2) (i := 15) rfl))))), (List.forall_mem_cons.mpr ⟨List.mem_cons_of_mem _ (List.mem_append_left _ (List.mem_append_left _ (List.mem_append_right _ (List.mem_append_left _ (List.mem_of_getElem? (l := wsX5_read_r2) (i := 16) rfl))))), (List.forall_mem_cons.mpr ⟨List.mem_cons_of_mem _ (List.mem_append_left _ (List.mem_append_left _ (List.mem_append_right _ (List.mem_append_left _ (List.mem_of_getElem? (l := wsX5_read_r2) (i := 17) rfl))))), (fun _ h => nomatch h)⟩)⟩)⟩)⟩)⟩)⟩)⟩)⟩)⟩)⟩)⟩)⟩)⟩)⟩)⟩)⟩)⟩)⟩)⟩)⟩)⟩)⟩)⟩)⟩), (List.forall_mem_append.mpr ⟨(List.forall_mem_cons.mpr ⟨List.mem_cons_of_mem _ (List.mem_append_left _ (List.mem_append_left _ (List.mem_append_right _ (List.mem_append_left _ (List.mem_of_getElem? (l := wsX5_read_r2) (i := 18) rfl))))), (List.forall_mem_cons.mpr ⟨List.mem_cons_of_mem _ (List.mem_append_left _ (List.mem_append_left _ (List.mem_append_right _ (List.mem_append_left _ (List.mem_of_getElem? (l := wsX5_read_r2) (i := 19) rfl))))), (List.forall_mem_cons.mpr ⟨List.mem_cons_of_mem _ (List.mem_append_left _ (List.mem_append_left _ (List.mem_append_right _ (List.mem_append_left _ (List.mem_of_getElem? (l := wsX5_read_r2) (i := 20) rfl))))), (List.forall_mem_cons.mpr ⟨List.mem_cons_of_mem _ (List.mem_append_left _ (List.mem_append_left _ (List.mem_append_right _ (List.mem_append_left _ (List.mem_of_getElem? (l := wsX5_read_r2) (i := 21) rfl))))), (List.forall_mem_cons.mpr ⟨List.mem_cons_of_mem _ (List.mem_append_left _ (List.mem_append_left _ (List.mem_append_right _ (List.mem_append_left _ (List.mem_of_getElem? (l := wsX5_read_r2) (i := 22) rfl))))), (List.forall_mem_cons.mpr ⟨List.mem_cons_of_mem _ (List.mem_append_left _ (List.mem_append_left _ (List.mem_append_left _ (List.mem_of_getElem? (l := wsX5_read_r1) (i := 3) rfl)))), (List.forall_mem_cons.mpr ⟨List.mem_cons_of_mem _ (List.mem_append_left _ (List.mem_append_left _ (List.mem_append_right _ (List.mem_append_left _ (List.mem_of_getElem? (l := wsX5_read_r2) (i := 23) rfl))))), (List.forall_mem_cons.mpr ⟨List.mem_cons_of_mem _ (List.mem_append_left _ (List.mem_append_left _ (List.mem_append_right _ (List.mem_append_right _ (List.mem_of_getElem? (l := wsX5_read_r3) (i := 0) rfl))))), (List.forall_mem_cons.mpr ⟨List.mem_cons_of_mem _ (List.mem_append_left _ (List.mem_append_left _ (List.mem_append_right _ (List.mem_append_right _ (List.mem_of_getElem? (l := wsX5_read_r3) (i := 1) rfl))))), (List.forall_mem_cons.mpr ⟨List.mem_cons_of_mem _ (List.mem_append_left _ (List.mem_append_left _ (List.mem_append_right _ (List.mem_append_right _ (List.mem_of_getElem? (l := wsX5_read_r3) (i := 2) rfl))))), (List.forall_mem_cons.mpr ⟨List.mem_cons_of_mem _ (List.mem_append_left _ (List.mem_append_left _ (List.mem_append_right _ (List.mem_append_right _ (List.mem_of_getElem? (l := wsX5_read_r3) (i := 3) rfl))))), (List.forall_mem_cons.mpr ⟨List.mem_cons_of_mem _ (List.mem_append_left _ (List.mem_append_left _ (List.mem_append_right _ (List.mem_append_right _ (List.mem_of_getElem? (l := wsX5_read_r3) (i := 4) rfl))))), (List.forall_mem_cons.mpr ⟨List.mem_cons_of_mem _ (List.mem_append_left _ (List.mem_append_left _ (List.mem_append_right _ (List.mem_append_right _ (List.mem_of_getElem? (l := wsX5_read_r3) (i := 5) rfl))))), (List.forall_mem_cons.mpr ⟨List.mem_cons_of_mem _ (List.mem_append_left _ (List.mem_append_left _ (List.mem_append_right _ (List.mem_append_right _ (List.mem_of_getElem? (l := wsX5_read_r3) (i := 6) rfl))))), (List.forall_mem_cons.mpr ⟨List.mem_cons_of_mem _ (List.mem_append_left _ (List.mem_append_left _ (List.mem_append_right _ (List.mem_append_right _ (List.mem_of_getElem? (l := wsX5_read_r3) (i := 7) rfl))))), (List.forall_mem_cons.mpr ⟨List.mem_cons_of_mem _ (List.mem_append_left _ (List.mem_append_left _ (List.mem_append_right _ (List.mem_append_right _ (List.mem_of_getElem? (l := wsX5_read_r3) (i := 8) rfl))))), (List.forall_mem_cons.mpr ⟨List.mem_cons_of_mem _ (List.mem_append_left _ (List.mem_append_left _ (List.mem_append_right _ (List.mem_append_right _ (List.mem_of_getElem? (l := wsX5_read_r3) (i := 9) rfl))))), (List.forall_mem_cons.mpr ⟨List.mem_cons_of_mem _ (List.mem_append_left _ (List.mem_append_left _ (List.mem_append_right _ (List.mem_append_right _ (List.mem_of_getElem? (l := wsX5_read_r3) (i := 10) rfl))))), (List.forall_mem_cons.mpr ⟨List.mem_cons_of_mem _ (List.mem_append_left _ (List.mem_append_left _ (List.mem_append_right _ (List.mem_append_right _ (List.mem_of_getElem? (l := wsX5_read_r3) (i := 11) rfl))))), (List.forall_mem_cons.mpr ⟨List.mem_cons_of_mem _ (List.mem_append_left _ (List.mem_append_left _ (List.mem_append_right _ (List.mem_append_right _ (List.mem_of_getElem? (l := wsX5_read_r3) (i := 12) rfl))))), (List.forall_mem_cons.mpr ⟨List.mem_cons_of_mem _ (List.mem_append_left _ (List.mem_append_left _ (List.mem_append_right _ (List.mem_append_right _ (List.mem_of_getElem? (l := wsX5_read_r3) (i := 13) rfl))))), (List.forall_mem_cons.mpr ⟨List.mem_cons_of_mem _ (List.mem_append_left _ (List.mem_append_left _ (List.mem_append_left _ (List.mem_of_getElem? (l := wsX5_read_r1) (i := 4) rfl)))), (List.forall_mem_cons.mpr ⟨List.mem_cons_of_mem _ (List.mem_append_left _ (List.mem_append_left _ (List.mem_append_right _ (List.mem_append_right _ (List.mem_of_getElem? (l := wsX5_read_r3) (i := 14) rfl))))), (List.forall_mem_cons.mpr ⟨List.mem_cons_of_mem _ (List.mem_append_left _ (List.mem_append_left _ (List.mem_append_right _ (List.mem_append_right _ (List.mem_of_getElem? (l := wsX5_read_r3) (i := 15) rfl))))), (fun _ h => nomatch h)⟩)⟩)⟩)⟩)⟩)⟩)⟩)⟩)⟩)⟩)⟩)⟩)⟩)⟩)⟩)⟩)⟩)⟩)⟩)⟩)⟩)⟩)⟩)⟩), (List.forall_mem_cons.mpr ⟨List.mem_cons_of_mem _ (List.mem_append_left _ (List.mem_append_left _ (List.mem_append_right _ (List.mem_append_right _ (List.mem_of_getElem? (l := wsX5_read_r3) (i := 16) rfl))))), (List.forall_mem_cons.mpr ⟨List.mem_cons_of_mem _ (List.mem_append_left _ (List.mem_append_left _ (List.mem_append_right _ (List.mem_append_right _ (List.mem_of_getElem? (l := wsX5_read_r3) (i := 17) rfl))))), (List.forall_mem_cons.mpr ⟨List.mem_cons_of_mem _ (List.mem_append_left _ (List.mem_append_left _ (List.mem_append_left _ (List.mem_of_getElem? (l := wsX5_read_r1) (i := 5) rfl)))), (fun _ h => nomatch h)⟩)⟩)⟩)⟩)⟩), (fun _ h => List.mem_cons_of_mem _ (List.mem_append_left _ (List.mem_append_right _ (h))))⟩)⟩) (by decide +kernel)
set_option maxRecDepth 20000 in
theorem gX5_read_X5_take : GoodIn wsX5_read (wsV RX5 50 RX5 yX5_take wsX5_take) := goodIn_app (goodIn_of _ (by decide +kernel)) ggX5_read_X5_take
theorem kX5_read_0 : (.fieldLink RX5 21 "RunDesk$Reading" "laid" "I" : Cond) ∈ wsX5_read := List.mem_of_getElem? (i := 1) (by decide +kernel)
theorem qX5_read_X5 : ∀ w ∈ wsX50, w ∈ wsX5_read := fun _ h => List.mem_cons_of_mem _ (List.mem_append_left _ (List.mem_append_right _ (h)))
theorem kX5_read_2 : (.fieldLink RX5 25 "RunDesk$Reading" "stage" "I" : Cond) ∈ wsX5_read := List.mem_of_getElem? (i := 2) (by decide +kernel)
theorem kX5_read_3 : (.fieldLink RX5 28 "RunDesk$Reading" "open" "I" : Cond) ∈ wsX5_read := List.mem_of_getElem? (i := 3) (by decide +kernel)
theorem kX5_read_4 : (.fieldLink RX5 31 "RunDesk$Reading" "digits" "I" : Cond) ∈ wsX5_read := List.mem_of_getElem? (i := 4) (by decide +kernel)
theorem kX5_read_5 : (.fieldLink RX5 34 "RunDesk$Reading" "order" "I" : Cond) ∈ wsX5_read := List.mem_of_getElem? (i := 5) (by decide +kernel)
theorem kX5_read_6 : (.fieldLink RX5 37 "RunDesk$Reading" "prizes" "I" : Cond) ∈ wsX5_read := List.mem_of_getElem? (i := 6) (by decide +kernel)
set_option maxHeartbeats 4000000 in
set_option maxRecDepth 100000 in
theorem mX5_read (l : Launch) (D : va_G) (cB cI cZ : ClassId) (a_t : Nat) (a_p1 : Nat) (a_t_parts : Nat) (a_t_signs : Nat) (a_t_numbers : Nat) (a_p1_bytes : Nat) (t_laid : Int32) (t_stage : Int32) (t_open : Int32) (t_digits : Int32) (t_order : Int32) (t_prizes : Int32) (t_numbers : Nat → Int32) (t_parts : Nat → Int32) (t_signs : Nat → Int32) (p1_length : Int32) (p1_bytes : Nat → Int32) (sz : Nat) (N : Nat) (r0 : Int32) (t_digits' : Int32) (t_laid' : Int32) (t_open' : Int32) (t_order' : Int32) (t_prizes' : Int32) (t_stage' : Int32) (t_numbers' : Nat → Int32) (t_parts' : Nat → Int32) (t_signs' : Nat → Int32) (h : fX5_read N t_digits t_laid t_open t_order t_prizes t_stage t_numbers t_parts t_signs p1_length p1_bytes = some (r0, t_digits', t_laid', t_open', t_order', t_prizes', t_stage', t_numbers', t_parts', t_signs')) : Met l yX5_read wsX5_read ({ frames := 4, cells := 0, slots := 0, locals := 85 } : Room) (va_Pc [.ref a_t, .ref a_p1] (zPre D (zT cB cI cZ) [(a_t, .inr (5, [.ref a_t_parts, .ref a_t_signs, .ref a_t_numbers, .int t_laid, .int t_stage, .int t_open, .int t_digits, .int t_order, .int t_prizes])), (a_t_numbers, .inl (cI, 200, .inl t_numbers)), (a_t_parts, .inl (cI, 200, .inl t_parts)), (a_t_signs, .inl (cI, 200, .inl t_signs)), (a_p1, .inr (7, [.ref a_p1_bytes, .int p1_length])), (a_p1_bytes, .inl (cI, 200, .inl p1_bytes))] sz)) (zQi r0 D (zT cB cI cZ) [(a_t, .inr (5, [.ref a_t_parts, .ref a_t_signs, .ref a_t_numbers, .int t_laid', .int t_stage', .int t_open', .int t_digits', .int t_order', .int t_prizes'])), (a_t_numbers, .inl (cI, 200, .inl t_numbers')), (a_t_parts, .inl (cI, 200, .inl t_parts')), (a_t_signs, .inl (cI, 200, .inl t_signs')), (a_p1, .inr (7, [.ref a_p1_bytes, .int p1_length])), (a_p1_bytes, .inl (cI, 200, .inl p1_bytes))] (va_A [(a_t, .inr (5, [.ref a_t_parts, .ref a_t_signs, .ref a_t_numbers, .int t_laid, .int t_stage, .int t_open, .int t_digits, .int t_order, .int t_prizes])), (a_t_numbers, .inl (cI, 200, .inl t_numbers)), (a_t_parts, .inl (cI, 200, .inl t_parts)), (a_t_signs, .inl (cI, 200, .inl t_signs)), (a_p1, .inr (7, [.ref a_p1_bytes, .int p1_length])), (a_p1_bytes, .inl (cI, 200, .inl p1_bytes))] sz)) 0 0 (va_A [(a_t, .inr (5, [.ref a_t_parts, .ref a_t_signs, .ref a_t_numbers, .int t_laid, .int t_stage, .int t_open, .int t_digits, .int t_order, .int t_prizes])), (a_t_numbers, .inl (cI, 200, .inl t_numbers)), (a_t_parts, .inl (cI, 200, .inl t_parts)), (a_t_signs, .inl (cI, 200, .inl t_signs)), (a_p1, .inr (7, [.ref a_p1_bytes, .int p1_length])), (a_p1_bytes, .inl (cI, 200, .inl p1_bytes))] sz) := by
  refine Met.ofW (cc := cX5_read) (maxL := 3) (ret := (some .int)) (by decide) rfl ?_
  intro p e s m args below meth c s₁ B hml hv
  obtain ⟨rfl, hsz, hP, hK, hN, hZ, hD0⟩ := hv
  have hx := B.exec
  have hb := B.bytes
  have hr := B.returns
  have hts := atoms_spec (ws := wsX5_read) B.pre
  have hown : s.vm.findClass RX5 = some m.cls := findClass_of_methodNamed B.named
  have hlocks := B.notSynchronized
  subst hsz
  have hD := hD0.self (sz := s.heap.size)
  generalize hAe : va_A [(a_t, .inr (5, [.ref a_t_parts, .ref a_t_signs, .ref a_t_numbers, .int t_laid, .int t_stage, .int t_open, .int t_digits, .int t_order, .int t_prizes])), (a_t_numbers, .inl (cI, 200, .inl t_numbers)), (a_t_parts, .inl (cI, 200, .inl t_parts)), (a_t_signs, .inl (cI, 200, .inl t_signs)), (a_p1, .inr (7, [.ref a_p1_bytes, .int p1_length])), (a_p1_bytes, .inl (cI, 200, .inl p1_bytes))] s.heap.size = A at hD hZ ⊢
  have hA : ∀ q : Nat, s.heap.size ≤ q → A q := fun q h => by rw [← hAe]; exact Or.inr h
  have hS : va_S A s.heap s.heap [] := va_S.rf
  have hl := lv_entry ([.ref a_t, .ref a_p1]) (n := 3) (Nat.le_of_ble_eq_true rfl)
  rw [lg_entry_eq]
  generalize (lg_sl ([.ref a_t, .ref a_p1]) ++ List.replicate (3 - (lg_sl ([.ref a_t, .ref a_p1])).length) Slot.unset).toArray = ls at hl ⊢
  have hl : lv_has ls 3 [(0, .ref a_t), (1, .ref a_p1)] := hl
  unfold fX5_read at h
  refine lv_aload_n hx hb dX5_read_0 rfl (lv_at hl 0 rfl) ?_
  refine lv_iconst (v := (nI 0)) hx hb dX5_read_1 rfl ?_
  refine va_put (D := D) (ci := 5) (ty := .int) (C := RX5) (T := TX5) (N := 9) hx hb hts qX5_read_X5 tyX5 tyX5_ok nmX5 hown hK hP hD hS 0 rfl rfl 3 (by decide) (hts _ kX5_read_0) (fun _ h9 => h9) rfl (by decide +kernel) rfl (by first | rfl | exact zz_fit) (Nat.le_of_ble_eq_true rfl) dX5_read_2 (fun H locs hP hD hS => ?_)
  have hP : va_P D vwCl [(a_t, .inr (5, [.ref a_t_parts, .ref a_t_signs, .ref a_t_numbers, .int (nI 0), .int t_stage, .int t_open, .int t_digits, .int t_order, .int t_prizes])), (a_t_numbers, .inl (cI, 200, .inl t_numbers)), (a_t_parts, .inl (cI, 200, .inl t_parts)), (a_t_signs, .inl (cI, 200, .inl t_signs)), (a_p1, .inr (7, [.ref a_p1_bytes, .int p1_length])), (a_p1_bytes, .inl (cI, 200, .inl p1_bytes))] H := hP
  have hD : va_D A [(a_t, .inr (5, [.ref a_t_parts, .ref a_t_signs, .ref a_t_numbers, .int (nI 0), .int t_stage, .int t_open, .int t_digits, .int t_order, .int t_prizes])), (a_t_numbers, .inl (cI, 200, .inl t_numbers)), (a_t_parts, .inl (cI, 200, .inl t_parts)), (a_t_signs, .inl (cI, 200, .inl t_signs)), (a_p1, .inr (7, [.ref a_p1_bytes, .int p1_length])), (a_p1_bytes, .inl (cI, 200, .inl p1_bytes))] := hD
  refine lv_aload_n hx hb dX5_read_5 rfl (lv_at hl 0 rfl) ?_
  refine lv_iconst (v := (nI 0)) hx hb dX5_read_6 rfl ?_
  refine va_put (D := D) (ci := 5) (ty := .int) (C := RX5) (T := TX5) (N := 9) hx hb hts qX5_read_X5 tyX5 tyX5_ok nmX5 hown hK hP hD hS 0 rfl rfl 4 (by decide) (hts _ kX5_read_2) (fun _ h9 => h9) rfl (by decide +kernel) rfl (by first | rfl | exact zz_fit) (Nat.le_of_ble_eq_true rfl) dX5_read_7 (fun H locs hP hD hS => ?_)
  have hP : va_P D vwCl [(a_t, .inr (5, [.ref a_t_parts, .ref a_t_signs, .ref a_t_numbers, .int (nI 0), .int (nI 0), .int t_open, .int t_digits, .int t_order, .int t_prizes])), (a_t_numbers, .inl (cI, 200, .inl t_numbers)), (a_t_parts, .inl (cI, 200, .inl t_parts)), (a_t_signs, .inl (cI, 200, .inl t_signs)), (a_p1, .inr (7, [.ref a_p1_bytes, .int p1_length])), (a_p1_bytes, .inl (cI, 200, .inl p1_bytes))] H := hP
  have hD : va_D A [(a_t, .inr (5, [.ref a_t_parts, .ref a_t_signs, .ref a_t_numbers, .int (nI 0), .int (nI 0), .int t_open, .int t_digits, .int t_order, .int t_prizes])), (a_t_numbers, .inl (cI, 200, .inl t_numbers)), (a_t_parts, .inl (cI, 200, .inl t_parts)), (a_t_signs, .inl (cI, 200, .inl t_signs)), (a_p1, .inr (7, [.ref a_p1_bytes, .int p1_length])), (a_p1_bytes, .inl (cI, 200, .inl p1_bytes))] := hD
  refine lv_aload_n hx hb dX5_read_10 rfl (lv_at hl 0 rfl) ?_
  refine lv_iconst (v := (nI 0)) hx hb dX5_read_11 rfl ?_
  refine va_put (D := D) (ci := 5) (ty := .int) (C := RX5) (T := TX5) (N := 9) hx hb hts qX5_read_X5 tyX5 tyX5_ok nmX5 hown hK hP hD hS 0 rfl rfl 5 (by decide) (hts _ kX5_read_3) (fun _ h9 => h9) rfl (by decide +kernel) rfl (by first | rfl | exact zz_fit) (Nat.le_of_ble_eq_true rfl) dX5_read_12 (fun H locs hP hD hS => ?_)
  have hP : va_P D vwCl [(a_t, .inr (5, [.ref a_t_parts, .ref a_t_signs, .ref a_t_numbers, .int (nI 0), .int (nI 0), .int (nI 0), .int t_digits, .int t_order, .int t_prizes])), (a_t_numbers, .inl (cI, 200, .inl t_numbers)), (a_t_parts, .inl (cI, 200, .inl t_parts)), (a_t_signs, .inl (cI, 200, .inl t_signs)), (a_p1, .inr (7, [.ref a_p1_bytes, .int p1_length])), (a_p1_bytes, .inl (cI, 200, .inl p1_bytes))] H := hP
  have hD : va_D A [(a_t, .inr (5, [.ref a_t_parts, .ref a_t_signs, .ref a_t_numbers, .int (nI 0), .int (nI 0), .int (nI 0), .int t_digits, .int t_order, .int t_prizes])), (a_t_numbers, .inl (cI, 200, .inl t_numbers)), (a_t_parts, .inl (cI, 200, .inl t_parts)), (a_t_signs, .inl (cI, 200, .inl t_signs)), (a_p1, .inr (7, [.ref a_p1_bytes, .int p1_length])), (a_p1_bytes, .inl (cI, 200, .inl p1_bytes))] := hD
  refine lv_aload_n hx hb dX5_read_15 rfl (lv_at hl 0 rfl) ?_
  refine lv_iconst (v := (nI 0)) hx hb dX5_read_16 rfl ?_
  refine va_put (D := D) (ci := 5) (ty := .int) (C := RX5) (T := TX5) (N := 9) hx hb hts qX5_read_X5 tyX5 tyX5_ok nmX5 hown hK hP hD hS 0 rfl rfl 6 (by decide) (hts _ kX5_read_4) (fun _ h9 => h9) rfl (by decide +kernel) rfl (by first | rfl | exact zz_fit) (Nat.le_of_ble_eq_true rfl) dX5_read_17 (fun H locs hP hD hS => ?_)
  have hP : va_P D vwCl [(a_t, .inr (5, [.ref a_t_parts, .ref a_t_signs, .ref a_t_numbers, .int (nI 0), .int (nI 0), .int (nI 0), .int (nI 0), .int t_order, .int t_prizes])), (a_t_numbers, .inl (cI, 200, .inl t_numbers)), (a_t_parts, .inl (cI, 200, .inl t_parts)), (a_t_signs, .inl (cI, 200, .inl t_signs)), (a_p1, .inr (7, [.ref a_p1_bytes, .int p1_length])), (a_p1_bytes, .inl (cI, 200, .inl p1_bytes))] H := hP
  have hD : va_D A [(a_t, .inr (5, [.ref a_t_parts, .ref a_t_signs, .ref a_t_numbers, .int (nI 0), .int (nI 0), .int (nI 0), .int (nI 0), .int t_order, .int t_prizes])), (a_t_numbers, .inl (cI, 200, .inl t_numbers)), (a_t_parts, .inl (cI, 200, .inl t_parts)), (a_t_signs, .inl (cI, 200, .inl t_signs)), (a_p1, .inr (7, [.ref a_p1_bytes, .int p1_length])), (a_p1_bytes, .inl (cI, 200, .inl p1_bytes))] := hD
  refine lv_aload_n hx hb dX5_read_20 rfl (lv_at hl 0 rfl) ?_
  refine lv_iconst (v := (-1 : Int32)) hx hb dX5_read_21 rfl ?_
  refine va_put (D := D) (ci := 5) (ty := .int) (C := RX5) (T := TX5) (N := 9) hx hb hts qX5_read_X5 tyX5 tyX5_ok nmX5 hown hK hP hD hS 0 rfl rfl 7 (by decide) (hts _ kX5_read_5) (fun _ h9 => h9) rfl (by decide +kernel) rfl (by first | rfl | exact zz_fit) (Nat.le_of_ble_eq_true rfl) dX5_read_22 (fun H locs hP hD hS => ?_)
  have hP : va_P D vwCl [(a_t, .inr (5, [.ref a_t_parts, .ref a_t_signs, .ref a_t_numbers, .int (nI 0), .int (nI 0), .int (nI 0), .int (nI 0), .int (-1 : Int32), .int t_prizes])), (a_t_numbers, .inl (cI, 200, .inl t_numbers)), (a_t_parts, .inl (cI, 200, .inl t_parts)), (a_t_signs, .inl (cI, 200, .inl t_signs)), (a_p1, .inr (7, [.ref a_p1_bytes, .int p1_length])), (a_p1_bytes, .inl (cI, 200, .inl p1_bytes))] H := hP
  have hD : va_D A [(a_t, .inr (5, [.ref a_t_parts, .ref a_t_signs, .ref a_t_numbers, .int (nI 0), .int (nI 0), .int (nI 0), .int (nI 0), .int (-1 : Int32), .int t_prizes])), (a_t_numbers, .inl (cI, 200, .inl t_numbers)), (a_t_parts, .inl (cI, 200, .inl t_parts)), (a_t_signs, .inl (cI, 200, .inl t_signs)), (a_p1, .inr (7, [.ref a_p1_bytes, .int p1_length])), (a_p1_bytes, .inl (cI, 200, .inl p1_bytes))] := hD
  refine lv_aload_n hx hb dX5_read_25 rfl (lv_at hl 0 rfl) ?_
  refine lv_iconst (v := (nI 0)) hx hb dX5_read_26 rfl ?_
  refine va_put (D := D) (ci := 5) (ty := .int) (C := RX5) (T := TX5) (N := 9) hx hb hts qX5_read_X5 tyX5 tyX5_ok nmX5 hown hK hP hD hS 0 rfl rfl 8 (by decide) (hts _ kX5_read_6) (fun _ h9 => h9) rfl (by decide +kernel) rfl (by first | rfl | exact zz_fit) (Nat.le_of_ble_eq_true rfl) dX5_read_27 (fun H locs hP hD hS => ?_)
  have hP : va_P D vwCl [(a_t, .inr (5, [.ref a_t_parts, .ref a_t_signs, .ref a_t_numbers, .int (nI 0), .int (nI 0), .int (nI 0), .int (nI 0), .int (-1 : Int32), .int (nI 0)])), (a_t_numbers, .inl (cI, 200, .inl t_numbers)), (a_t_parts, .inl (cI, 200, .inl t_parts)), (a_t_signs, .inl (cI, 200, .inl t_signs)), (a_p1, .inr (7, [.ref a_p1_bytes, .int p1_length])), (a_p1_bytes, .inl (cI, 200, .inl p1_bytes))] H := hP
  have hD : va_D A [(a_t, .inr (5, [.ref a_t_parts, .ref a_t_signs, .ref a_t_numbers, .int (nI 0), .int (nI 0), .int (nI 0), .int (nI 0), .int (-1 : Int32), .int (nI 0)])), (a_t_numbers, .inl (cI, 200, .inl t_numbers)), (a_t_parts, .inl (cI, 200, .inl t_parts)), (a_t_signs, .inl (cI, 200, .inl t_signs)), (a_p1, .inr (7, [.ref a_p1_bytes, .int p1_length])), (a_p1_bytes, .inl (cI, 200, .inl p1_bytes))] := hD
  refine lv_iconst (v := (nI 0)) hx hb dX5_read_30 rfl ?_
  refine lv_istore_n (lv' := [(2, .int (nI 0)), (0, .ref a_t), (1, .ref a_p1)]) hx hb dX5_read_31 rfl hl (by decide) rfl (fun ls hl => ?_)
  have X32_60 : ∀ (v2_32 : Int32) (t_laid_l32 : Int32) (t_stage_l32 : Int32) (t_open_l32 : Int32) (t_digits_l32 : Int32) (t_order_l32 : Int32) (t_prizes_l32 : Int32) (t_numbers_l32 : Nat → Int32) (t_parts_l32 : Nat → Int32) (t_signs_l32 : Nat → Int32) (H : Heap) (locs : List Loc) (ls : Array Slot), (if t_stage_l32 = (nI 6) then some ((-1 : Int32), t_digits_l32, t_laid_l32, t_open_l32, t_order_l32, t_prizes_l32, t_stage_l32, t_numbers_l32, t_parts_l32, t_signs_l32) else (if t_stage_l32 = (nI 8) then some ((-1 : Int32), t_digits_l32, t_laid_l32, t_open_l32, t_order_l32, t_prizes_l32, t_stage_l32, t_numbers_l32, t_parts_l32, t_signs_l32) else (if t_stage_l32 = (nI 9) then some ((-1 : Int32), t_digits_l32, t_laid_l32, t_open_l32, t_order_l32, t_prizes_l32, t_stage_l32, t_numbers_l32, t_parts_l32, t_signs_l32) else ((fX7_size p1_length).bind (fun r4 => some (r4, t_digits_l32, t_laid_l32, t_open_l32, t_order_l32, t_prizes_l32, t_stage_l32, t_numbers_l32, t_parts_l32, t_signs_l32)))))) = some (r0, t_digits', t_laid', t_open', t_order', t_prizes', t_stage', t_numbers', t_parts', t_signs') → va_P D vwCl [(a_t, .inr (5, [.ref a_t_parts, .ref a_t_signs, .ref a_t_numbers, .int t_laid_l32, .int t_stage_l32, .int t_open_l32, .int t_digits_l32, .int t_order_l32, .int t_prizes_l32])), (a_t_numbers, .inl (cI, 200, .inl t_numbers_l32)), (a_t_parts, .inl (cI, 200, .inl t_parts_l32)), (a_t_signs, .inl (cI, 200, .inl t_signs_l32)), (a_p1, .inr (7, [.ref a_p1_bytes, .int p1_length])), (a_p1_bytes, .inl (cI, 200, .inl p1_bytes))] H → va_D A [(a_t, .inr (5, [.ref a_t_parts, .ref a_t_signs, .ref a_t_numbers, .int t_laid_l32, .int t_stage_l32, .int t_open_l32, .int t_digits_l32, .int t_order_l32, .int t_prizes_l32])), (a_t_numbers, .inl (cI, 200, .inl t_numbers_l32)), (a_t_parts, .inl (cI, 200, .inl t_parts_l32)), (a_t_signs, .inl (cI, 200, .inl t_signs_l32)), (a_p1, .inr (7, [.ref a_p1_bytes, .int p1_length])), (a_p1_bytes, .inl (cI, 200, .inl p1_bytes))] → va_S A s.heap H locs → lv_has ls 3 [(2, .int v2_32), (0, .ref a_t), (1, .ref a_p1)] → W p l e (headSpec wsX5_read ({ frames := 4, cells := 0, slots := 0, locals := 85 } : Room)).room s m #[Value.ref a_t, Value.ref a_p1] below meth c H locs 0 0 (MQ below (zQi r0 D (zT cB cI cZ) [(a_t, .inr (5, [.ref a_t_parts, .ref a_t_signs, .ref a_t_numbers, .int t_laid', .int t_stage', .int t_open', .int t_digits', .int t_order', .int t_prizes'])), (a_t_numbers, .inl (cI, 200, .inl t_numbers')), (a_t_parts, .inl (cI, 200, .inl t_parts')), (a_t_signs, .inl (cI, 200, .inl t_signs')), (a_p1, .inr (7, [.ref a_p1_bytes, .int p1_length])), (a_p1_bytes, .inl (cI, 200, .inl p1_bytes))] A) #[Value.ref a_t, Value.ref a_p1] s 0 0 A) (F0 m 60 ls []) := by
    intro v2_32 t_laid_l32 t_stage_l32 t_open_l32 t_digits_l32 t_order_l32 t_prizes_l32 t_numbers_l32 t_parts_l32 t_signs_l32 H locs ls h hP hD hS hl
    refine lv_aload_n hx hb dX5_read_60 rfl (lv_at hl 1 rfl) ?_
    refine va_get (D := D) (ci := 5) (C := RX5) (T := TX5) (N := 9) hx hb hts qX5_read_X5 hown hK hP 0 rfl rfl 4 (by decide) (hts _ kX5_read_2) (fun _ h9 => h9) rfl dX5_read_61 ?_
    refine lv_bipush (v := (nI 6)) hx hb dX5_read_64 rfl ?_
    refine lv_icmp_eq (tgt := 87) hx hb dX5_read_66 (by decide) (fun c1 => ?_) (fun c1 => ?_)
    · have h := zz_t h c1
      refine lv_iconst (v := (nI 1)) hx hb dX5_read_87 rfl ?_
      refine lv_goto (tgt := 92) hx hb dX5_read_88 (by decide) ?_
      refine lv_istore_n (lv' := [(2, .int (nI 1)), (0, .ref a_t), (1, .ref a_p1)]) hx hb dX5_read_92 rfl hl (by decide) rfl (fun ls hl => ?_)
      refine lv_iload_n hx hb dX5_read_93 rfl (lv_at hl 0 rfl) ?_
      refine lv_if_eq (tgt := 101) hx hb dX5_read_94 (by decide) (fun c_ => absurd c_ (by decide)) (fun _ => ?_)
      refine lv_iconst (v := (-1 : Int32)) hx hb dX5_read_97 rfl ?_
      refine lv_goto (tgt := 105) hx hb dX5_read_98 (by decide) ?_
      obtain ⟨j0_, g_⟩ := Prod.mk.inj (Option.some.inj h)
      obtain ⟨j1_, g_⟩ := Prod.mk.inj g_
      obtain ⟨j2_, g_⟩ := Prod.mk.inj g_
      obtain ⟨j3_, g_⟩ := Prod.mk.inj g_
      obtain ⟨j4_, g_⟩ := Prod.mk.inj g_
      obtain ⟨j5_, g_⟩ := Prod.mk.inj g_
      obtain ⟨j6_, g_⟩ := Prod.mk.inj g_
      obtain ⟨j7_, g_⟩ := Prod.mk.inj g_
      obtain ⟨j8_, g_⟩ := Prod.mk.inj g_
      have j9_ := g_
      subst j0_
      subst j1_
      subst j2_
      subst j3_
      subst j4_
      subst j5_
      subst j6_
      subst j7_
      subst j8_
      subst j9_
      exact W.iret (v := (-1 : Int32)) hx hb hr (fun t ht hW => ⟨⟨_, (), rfl, rfl, zPost.of hP hD hK ht hW [0, 1, 2, 3, 4, 5] rfl rfl rfl⟩, hS.F ht⟩) hS.2.2 dX5_read_105
    · have h := zz_f h c1
      refine lv_aload_n hx hb dX5_read_69 rfl (lv_at hl 1 rfl) ?_
      refine va_get (D := D) (ci := 5) (C := RX5) (T := TX5) (N := 9) hx hb hts qX5_read_X5 hown hK hP 0 rfl rfl 4 (by decide) (hts _ kX5_read_2) (fun _ h9 => h9) rfl dX5_read_70 ?_
      refine lv_bipush (v := (nI 8)) hx hb dX5_read_73 rfl ?_
      refine lv_icmp_eq (tgt := 87) hx hb dX5_read_75 (by decide) (fun c2 => ?_) (fun c2 => ?_)
      · have h := zz_t h c2
        refine lv_iconst (v := (nI 1)) hx hb dX5_read_87 rfl ?_
        refine lv_goto (tgt := 92) hx hb dX5_read_88 (by decide) ?_
        refine lv_istore_n (lv' := [(2, .int (nI 1)), (0, .ref a_t), (1, .ref a_p1)]) hx hb dX5_read_92 rfl hl (by decide) rfl (fun ls hl => ?_)
        refine lv_iload_n hx hb dX5_read_93 rfl (lv_at hl 0 rfl) ?_
        refine lv_if_eq (tgt := 101) hx hb dX5_read_94 (by decide) (fun c_ => absurd c_ (by decide)) (fun _ => ?_)
        refine lv_iconst (v := (-1 : Int32)) hx hb dX5_read_97 rfl ?_
        refine lv_goto (tgt := 105) hx hb dX5_read_98 (by decide) ?_
        obtain ⟨j0_, g_⟩ := Prod.mk.inj (Option.some.inj h)
        obtain ⟨j1_, g_⟩ := Prod.mk.inj g_
        obtain ⟨j2_, g_⟩ := Prod.mk.inj g_
        obtain ⟨j3_, g_⟩ := Prod.mk.inj g_
        obtain ⟨j4_, g_⟩ := Prod.mk.inj g_
        obtain ⟨j5_, g_⟩ := Prod.mk.inj g_
        obtain ⟨j6_, g_⟩ := Prod.mk.inj g_
        obtain ⟨j7_, g_⟩ := Prod.mk.inj g_
        obtain ⟨j8_, g_⟩ := Prod.mk.inj g_
        have j9_ := g_
        subst j0_
        subst j1_
        subst j2_
        subst j3_
        subst j4_
        subst j5_
        subst j6_
        subst j7_
        subst j8_
        subst j9_
        exact W.iret (v := (-1 : Int32)) hx hb hr (fun t ht hW => ⟨⟨_, (), rfl, rfl, zPost.of hP hD hK ht hW [0, 1, 2, 3, 4, 5] rfl rfl rfl⟩, hS.F ht⟩) hS.2.2 dX5_read_105
      · have h := zz_f h c2
        refine lv_aload_n hx hb dX5_read_78 rfl (lv_at hl 1 rfl) ?_
        refine va_get (D := D) (ci := 5) (C := RX5) (T := TX5) (N := 9) hx hb hts qX5_read_X5 hown hK hP 0 rfl rfl 4 (by decide) (hts _ kX5_read_2) (fun _ h9 => h9) rfl dX5_read_79 ?_
        refine lv_bipush (v := (nI 9)) hx hb dX5_read_82 rfl ?_
        refine lv_icmp_ne (tgt := 91) hx hb dX5_read_84 (by decide) (fun c3 => ?_) (fun c3 => ?_)
        · have h := zz_f h c3
          refine lv_iconst (v := (nI 0)) hx hb dX5_read_91 rfl ?_
          refine lv_istore_n (lv' := [(2, .int (nI 0)), (0, .ref a_t), (1, .ref a_p1)]) hx hb dX5_read_92 rfl hl (by decide) rfl (fun ls hl => ?_)
          refine lv_iload_n hx hb dX5_read_93 rfl (lv_at hl 0 rfl) ?_
          refine lv_if_eq (tgt := 101) hx hb dX5_read_94 (by decide) (fun _ => ?_) (fun c_ => absurd (by decide) c_)
          refine lv_aload_n hx hb dX5_read_101 rfl (lv_at hl 2 rfl) ?_
          obtain ⟨r4, e5, h⟩ := zz_b h
          refine zVi (As := []) (rest := []) (C := RX7) (wr := [(a_t, .inr (5, [.ref a_t_parts, .ref a_t_signs, .ref a_t_numbers, .int t_laid_l32, .int t_stage_l32, .int t_open_l32, .int t_digits_l32, .int t_order_l32, .int t_prizes_l32])), (a_t_numbers, .inl (cI, 200, .inl t_numbers_l32)), (a_t_parts, .inl (cI, 200, .inl t_parts_l32)), (a_t_signs, .inl (cI, 200, .inl t_signs_l32)), (a_p1_bytes, .inl (cI, 200, .inl p1_bytes))]) [4] [0, 1, 2, 3, 5] 0 ⟨hx, hb, hml, hown, hts⟩ (mX7_size l D cB cI cZ a_p1 a_p1_bytes p1_length H.size r4 e5) (cwV 0 hts gX5_read_X7_size rfl rfl rfl (by decide +kernel) ⟨Nat.le_of_ble_eq_true rfl, Nat.le_of_ble_eq_true rfl⟩) hK hN hZ hP hD hS hA rfl rfl rfl rfl rfl rfl rfl rfl hl.1 rfl (lv_room (Nat.le_of_ble_eq_true rfl)) dX5_read_102 ⟨Nat.le_of_ble_eq_true rfl, Nat.le_of_ble_eq_true rfl⟩ (fun H locs hP hD hS => ?_)
          have hP : va_P D vwCl [(a_t, .inr (5, [.ref a_t_parts, .ref a_t_signs, .ref a_t_numbers, .int t_laid_l32, .int t_stage_l32, .int t_open_l32, .int t_digits_l32, .int t_order_l32, .int t_prizes_l32])), (a_t_numbers, .inl (cI, 200, .inl t_numbers_l32)), (a_t_parts, .inl (cI, 200, .inl t_parts_l32)), (a_t_signs, .inl (cI, 200, .inl t_signs_l32)), (a_p1_bytes, .inl (cI, 200, .inl p1_bytes)), (a_p1, .inr (7, [.ref a_p1_bytes, .int p1_length]))] H := hP
          have hD : va_D A [(a_t, .inr (5, [.ref a_t_parts, .ref a_t_signs, .ref a_t_numbers, .int t_laid_l32, .int t_stage_l32, .int t_open_l32, .int t_digits_l32, .int t_order_l32, .int t_prizes_l32])), (a_t_numbers, .inl (cI, 200, .inl t_numbers_l32)), (a_t_parts, .inl (cI, 200, .inl t_parts_l32)), (a_t_signs, .inl (cI, 200, .inl t_signs_l32)), (a_p1_bytes, .inl (cI, 200, .inl p1_bytes)), (a_p1, .inr (7, [.ref a_p1_bytes, .int p1_length]))] := hD
          obtain ⟨j0_, g_⟩ := Prod.mk.inj (Option.some.inj h)
          obtain ⟨j1_, g_⟩ := Prod.mk.inj g_
          obtain ⟨j2_, g_⟩ := Prod.mk.inj g_
          obtain ⟨j3_, g_⟩ := Prod.mk.inj g_
          obtain ⟨j4_, g_⟩ := Prod.mk.inj g_
          obtain ⟨j5_, g_⟩ := Prod.mk.inj g_
          obtain ⟨j6_, g_⟩ := Prod.mk.inj g_
          obtain ⟨j7_, g_⟩ := Prod.mk.inj g_
          obtain ⟨j8_, g_⟩ := Prod.mk.inj g_
          have j9_ := g_
          subst j0_
          subst j1_
          subst j2_
          subst j3_
          subst j4_
          subst j5_
          subst j6_
          subst j7_
          subst j8_
          subst j9_
          exact W.iret (v := r4) hx hb hr (fun t ht hW => ⟨⟨_, (), rfl, rfl, zPost.of hP hD hK ht hW [0, 1, 2, 3, 5, 4] rfl rfl rfl⟩, hS.F ht⟩) hS.2.2 dX5_read_105
        · have h := zz_t h c3
          refine lv_iconst (v := (nI 1)) hx hb dX5_read_87 rfl ?_
          refine lv_goto (tgt := 92) hx hb dX5_read_88 (by decide) ?_
          refine lv_istore_n (lv' := [(2, .int (nI 1)), (0, .ref a_t), (1, .ref a_p1)]) hx hb dX5_read_92 rfl hl (by decide) rfl (fun ls hl => ?_)
          refine lv_iload_n hx hb dX5_read_93 rfl (lv_at hl 0 rfl) ?_
          refine lv_if_eq (tgt := 101) hx hb dX5_read_94 (by decide) (fun c_ => absurd c_ (by decide)) (fun _ => ?_)
          refine lv_iconst (v := (-1 : Int32)) hx hb dX5_read_97 rfl ?_
          refine lv_goto (tgt := 105) hx hb dX5_read_98 (by decide) ?_
          obtain ⟨j0_, g_⟩ := Prod.mk.inj (Option.some.inj h)
          obtain ⟨j1_, g_⟩ := Prod.mk.inj g_
          obtain ⟨j2_, g_⟩ := Prod.mk.inj g_
          obtain ⟨j3_, g_⟩ := Prod.mk.inj g_
          obtain ⟨j4_, g_⟩ := Prod.mk.inj g_
          obtain ⟨j5_, g_⟩ := Prod.mk.inj g_
          obtain ⟨j6_, g_⟩ := Prod.mk.inj g_
          obtain ⟨j7_, g_⟩ := Prod.mk.inj g_
          obtain ⟨j8_, g_⟩ := Prod.mk.inj g_
          have j9_ := g_
          subst j0_
          subst j1_
          subst j2_
          subst j3_
          subst j4_
          subst j5_
          subst j6_
          subst j7_
          subst j8_
          subst j9_
          exact W.iret (v := (-1 : Int32)) hx hb hr (fun t ht hW => ⟨⟨_, (), rfl, rfl, zPost.of hP hD hK ht hW [0, 1, 2, 3, 4, 5] rfl rfl rfl⟩, hS.F ht⟩) hS.2.2 dX5_read_105
  have L32 : ∀ (n : Nat) (v2_32 : Int32) (t_laid_l32 : Int32) (t_stage_l32 : Int32) (t_open_l32 : Int32) (t_digits_l32 : Int32) (t_order_l32 : Int32) (t_prizes_l32 : Int32) (t_numbers_l32 : Nat → Int32) (t_parts_l32 : Nat → Int32) (t_signs_l32 : Nat → Int32) (H : Heap) (locs : List Loc) (ls : Array Slot), fX5_read_L32 p1_length p1_bytes (fun (v2_32 : Int32) (t_laid_l32 : Int32) (t_stage_l32 : Int32) (t_open_l32 : Int32) (t_digits_l32 : Int32) (t_order_l32 : Int32) (t_prizes_l32 : Int32) (t_numbers_l32 : Nat → Int32) (t_parts_l32 : Nat → Int32) (t_signs_l32 : Nat → Int32) => (if t_stage_l32 = (nI 6) then some ((-1 : Int32), t_digits_l32, t_laid_l32, t_open_l32, t_order_l32, t_prizes_l32, t_stage_l32, t_numbers_l32, t_parts_l32, t_signs_l32) else (if t_stage_l32 = (nI 8) then some ((-1 : Int32), t_digits_l32, t_laid_l32, t_open_l32, t_order_l32, t_prizes_l32, t_stage_l32, t_numbers_l32, t_parts_l32, t_signs_l32) else (if t_stage_l32 = (nI 9) then some ((-1 : Int32), t_digits_l32, t_laid_l32, t_open_l32, t_order_l32, t_prizes_l32, t_stage_l32, t_numbers_l32, t_parts_l32, t_signs_l32) else ((fX7_size p1_length).bind (fun r4 => some (r4, t_digits_l32, t_laid_l32, t_open_l32, t_order_l32, t_prizes_l32, t_stage_l32, t_numbers_l32, t_parts_l32, t_signs_l32))))))) n v2_32 t_laid_l32 t_stage_l32 t_open_l32 t_digits_l32 t_order_l32 t_prizes_l32 t_numbers_l32 t_parts_l32 t_signs_l32 = some (r0, t_digits', t_laid', t_open', t_order', t_prizes', t_stage', t_numbers', t_parts', t_signs') → va_P D vwCl [(a_t, .inr (5, [.ref a_t_parts, .ref a_t_signs, .ref a_t_numbers, .int t_laid_l32, .int t_stage_l32, .int t_open_l32, .int t_digits_l32, .int t_order_l32, .int t_prizes_l32])), (a_t_numbers, .inl (cI, 200, .inl t_numbers_l32)), (a_t_parts, .inl (cI, 200, .inl t_parts_l32)), (a_t_signs, .inl (cI, 200, .inl t_signs_l32)), (a_p1, .inr (7, [.ref a_p1_bytes, .int p1_length])), (a_p1_bytes, .inl (cI, 200, .inl p1_bytes))] H → va_D A [(a_t, .inr (5, [.ref a_t_parts, .ref a_t_signs, .ref a_t_numbers, .int t_laid_l32, .int t_stage_l32, .int t_open_l32, .int t_digits_l32, .int t_order_l32, .int t_prizes_l32])), (a_t_numbers, .inl (cI, 200, .inl t_numbers_l32)), (a_t_parts, .inl (cI, 200, .inl t_parts_l32)), (a_t_signs, .inl (cI, 200, .inl t_signs_l32)), (a_p1, .inr (7, [.ref a_p1_bytes, .int p1_length])), (a_p1_bytes, .inl (cI, 200, .inl p1_bytes))] → va_S A s.heap H locs → lv_has ls 3 [(2, .int v2_32), (0, .ref a_t), (1, .ref a_p1)] → W p l e (headSpec wsX5_read ({ frames := 4, cells := 0, slots := 0, locals := 85 } : Room)).room s m #[Value.ref a_t, Value.ref a_p1] below meth c H locs 0 0 (MQ below (zQi r0 D (zT cB cI cZ) [(a_t, .inr (5, [.ref a_t_parts, .ref a_t_signs, .ref a_t_numbers, .int t_laid', .int t_stage', .int t_open', .int t_digits', .int t_order', .int t_prizes'])), (a_t_numbers, .inl (cI, 200, .inl t_numbers')), (a_t_parts, .inl (cI, 200, .inl t_parts')), (a_t_signs, .inl (cI, 200, .inl t_signs')), (a_p1, .inr (7, [.ref a_p1_bytes, .int p1_length])), (a_p1_bytes, .inl (cI, 200, .inl p1_bytes))] A) #[Value.ref a_t, Value.ref a_p1] s 0 0 A) (F0 m 32 ls []) := by
    intro n
    induction n with
    | zero => intro _ _ _ _ _ _ _ _ _ _ H locs ls h hP hD hS hl; cases h
    | succ n32 ih32 =>
      intro v2_32 t_laid_l32 t_stage_l32 t_open_l32 t_digits_l32 t_order_l32 t_prizes_l32 t_numbers_l32 t_parts_l32 t_signs_l32 H locs ls h hP hD hS hl
      rw [fX5_read_L32.eq_2] at h
      refine lv_iload_n hx hb dX5_read_32 rfl (lv_at hl 0 rfl) ?_
      refine lv_aload_n hx hb dX5_read_33 rfl (lv_at hl 2 rfl) ?_
      obtain ⟨r6, e7, h⟩ := zz_b h
      refine zVi (As := []) (rest := [.int v2_32]) (C := RX7) (wr := [(a_t, .inr (5, [.ref a_t_parts, .ref a_t_signs, .ref a_t_numbers, .int t_laid_l32, .int t_stage_l32, .int t_open_l32, .int t_digits_l32, .int t_order_l32, .int t_prizes_l32])), (a_t_numbers, .inl (cI, 200, .inl t_numbers_l32)), (a_t_parts, .inl (cI, 200, .inl t_parts_l32)), (a_t_signs, .inl (cI, 200, .inl t_signs_l32)), (a_p1_bytes, .inl (cI, 200, .inl p1_bytes))]) [4] [0, 1, 2, 3, 5] 0 ⟨hx, hb, hml, hown, hts⟩ (mX7_size l D cB cI cZ a_p1 a_p1_bytes p1_length H.size r6 e7) (cwV 0 hts gX5_read_X7_size rfl rfl rfl (by decide +kernel) ⟨Nat.le_of_ble_eq_true rfl, Nat.le_of_ble_eq_true rfl⟩) hK hN hZ hP hD hS hA rfl rfl rfl rfl rfl rfl rfl rfl hl.1 rfl (lv_room (Nat.le_of_ble_eq_true rfl)) dX5_read_34 ⟨Nat.le_of_ble_eq_true rfl, Nat.le_of_ble_eq_true rfl⟩ (fun H locs hP hD hS => ?_)
      have hP : va_P D vwCl [(a_t, .inr (5, [.ref a_t_parts, .ref a_t_signs, .ref a_t_numbers, .int t_laid_l32, .int t_stage_l32, .int t_open_l32, .int t_digits_l32, .int t_order_l32, .int t_prizes_l32])), (a_t_numbers, .inl (cI, 200, .inl t_numbers_l32)), (a_t_parts, .inl (cI, 200, .inl t_parts_l32)), (a_t_signs, .inl (cI, 200, .inl t_signs_l32)), (a_p1_bytes, .inl (cI, 200, .inl p1_bytes)), (a_p1, .inr (7, [.ref a_p1_bytes, .int p1_length]))] H := hP
      have hD : va_D A [(a_t, .inr (5, [.ref a_t_parts, .ref a_t_signs, .ref a_t_numbers, .int t_laid_l32, .int t_stage_l32, .int t_open_l32, .int t_digits_l32, .int t_order_l32, .int t_prizes_l32])), (a_t_numbers, .inl (cI, 200, .inl t_numbers_l32)), (a_t_parts, .inl (cI, 200, .inl t_parts_l32)), (a_t_signs, .inl (cI, 200, .inl t_signs_l32)), (a_p1_bytes, .inl (cI, 200, .inl p1_bytes)), (a_p1, .inr (7, [.ref a_p1_bytes, .int p1_length]))] := hD
      refine lv_icmp_ge (tgt := 60) hx hb dX5_read_37 (by decide) (fun c8 => ?_) (fun c8 => ?_)
      · have h := zz_t h c8
        exact X32_60 v2_32 t_laid_l32 t_stage_l32 t_open_l32 t_digits_l32 t_order_l32 t_prizes_l32 t_numbers_l32 t_parts_l32 t_signs_l32 _ _ _ h (hP.sub [0, 1, 2, 3, 5, 4] rfl) (hD.sub [0, 1, 2, 3, 5, 4] rfl rfl) hS (lv_sub hl [0, 1, 2] rfl)
      · have h := zz_f h c8
        refine lv_aload_n hx hb dX5_read_40 rfl (lv_at hl 1 rfl) ?_
        refine lv_aload_n hx hb dX5_read_41 rfl (lv_at hl 2 rfl) ?_
        refine lv_iload_n hx hb dX5_read_42 rfl (lv_at hl 0 rfl) ?_
        obtain ⟨r9, e10, h⟩ := zz_b h
        refine zVi (As := [.int v2_32]) (rest := [.ref a_t]) (C := RX7) (wr := [(a_t, .inr (5, [.ref a_t_parts, .ref a_t_signs, .ref a_t_numbers, .int t_laid_l32, .int t_stage_l32, .int t_open_l32, .int t_digits_l32, .int t_order_l32, .int t_prizes_l32])), (a_t_numbers, .inl (cI, 200, .inl t_numbers_l32)), (a_t_parts, .inl (cI, 200, .inl t_parts_l32)), (a_t_signs, .inl (cI, 200, .inl t_signs_l32))]) [5, 4] [0, 1, 2, 3] 0 ⟨hx, hb, hml, hown, hts⟩ (mX7_byteAt l D cB cI cZ a_p1 a_p1_bytes p1_length p1_bytes H.size v2_32 r9 e10) (cwV 1 hts gX5_read_X7_byteAt rfl rfl rfl (by decide +kernel) ⟨Nat.le_of_ble_eq_true rfl, Nat.le_of_ble_eq_true rfl⟩) hK hN hZ hP hD hS hA rfl rfl rfl rfl rfl rfl rfl rfl hl.1 rfl (lv_room (Nat.le_of_ble_eq_true rfl)) dX5_read_43 ⟨Nat.le_of_ble_eq_true rfl, Nat.le_of_ble_eq_true rfl⟩ (fun H locs hP hD hS => ?_)
        have hP : va_P D vwCl [(a_t, .inr (5, [.ref a_t_parts, .ref a_t_signs, .ref a_t_numbers, .int t_laid_l32, .int t_stage_l32, .int t_open_l32, .int t_digits_l32, .int t_order_l32, .int t_prizes_l32])), (a_t_numbers, .inl (cI, 200, .inl t_numbers_l32)), (a_t_parts, .inl (cI, 200, .inl t_parts_l32)), (a_t_signs, .inl (cI, 200, .inl t_signs_l32)), (a_p1, .inr (7, [.ref a_p1_bytes, .int p1_length])), (a_p1_bytes, .inl (cI, 200, .inl p1_bytes))] H := hP
        have hD : va_D A [(a_t, .inr (5, [.ref a_t_parts, .ref a_t_signs, .ref a_t_numbers, .int t_laid_l32, .int t_stage_l32, .int t_open_l32, .int t_digits_l32, .int t_order_l32, .int t_prizes_l32])), (a_t_numbers, .inl (cI, 200, .inl t_numbers_l32)), (a_t_parts, .inl (cI, 200, .inl t_parts_l32)), (a_t_signs, .inl (cI, 200, .inl t_signs_l32)), (a_p1, .inr (7, [.ref a_p1_bytes, .int p1_length])), (a_p1_bytes, .inl (cI, 200, .inl p1_bytes))] := hD
        obtain ⟨⟨b11, t_digits_r12, t_laid_r13, t_open_r14, t_order_r15, t_prizes_r16, t_stage_r17, t_numbers_r18, t_parts_r19, t_signs_r20⟩, e21, h⟩ := zz_b h
        dsimp only at h
        refine zVi (As := [.int r9]) (rest := []) (C := RX5) (wr := [(a_p1, .inr (7, [.ref a_p1_bytes, .int p1_length])), (a_p1_bytes, .inl (cI, 200, .inl p1_bytes))]) [0, 1, 2, 3] [4, 5] 0 ⟨hx, hb, hml, hown, hts⟩ (mX5_take l D cB cI cZ a_t a_t_parts a_t_signs a_t_numbers t_laid_l32 t_stage_l32 t_open_l32 t_digits_l32 t_order_l32 t_prizes_l32 t_numbers_l32 t_parts_l32 t_signs_l32 H.size r9 b11 t_digits_r12 t_laid_r13 t_open_r14 t_order_r15 t_prizes_r16 t_stage_r17 t_numbers_r18 t_parts_r19 t_signs_r20 e21) (cwV 1 hts gX5_read_X5_take rfl rfl rfl (by decide +kernel) ⟨Nat.le_of_ble_eq_true rfl, Nat.le_of_ble_eq_true rfl⟩) hK hN hZ hP hD hS hA rfl rfl rfl rfl rfl rfl rfl rfl hl.1 rfl (lv_room (Nat.le_of_ble_eq_true rfl)) dX5_read_46 ⟨Nat.le_of_ble_eq_true rfl, Nat.le_of_ble_eq_true rfl⟩ (fun H locs hP hD hS => ?_)
        have hP : va_P D vwCl [(a_p1, .inr (7, [.ref a_p1_bytes, .int p1_length])), (a_p1_bytes, .inl (cI, 200, .inl p1_bytes)), (a_t, .inr (5, [.ref a_t_parts, .ref a_t_signs, .ref a_t_numbers, .int t_laid_r13, .int t_stage_r17, .int t_open_r14, .int t_digits_r12, .int t_order_r15, .int t_prizes_r16])), (a_t_numbers, .inl (cI, 200, .inl t_numbers_r18)), (a_t_parts, .inl (cI, 200, .inl t_parts_r19)), (a_t_signs, .inl (cI, 200, .inl t_signs_r20))] H := hP
        have hD : va_D A [(a_p1, .inr (7, [.ref a_p1_bytes, .int p1_length])), (a_p1_bytes, .inl (cI, 200, .inl p1_bytes)), (a_t, .inr (5, [.ref a_t_parts, .ref a_t_signs, .ref a_t_numbers, .int t_laid_r13, .int t_stage_r17, .int t_open_r14, .int t_digits_r12, .int t_order_r15, .int t_prizes_r16])), (a_t_numbers, .inl (cI, 200, .inl t_numbers_r18)), (a_t_parts, .inl (cI, 200, .inl t_parts_r19)), (a_t_signs, .inl (cI, 200, .inl t_signs_r20))] := hD
        refine lv_if_ne (tgt := 54) hx hb dX5_read_49 (by decide) (fun c22 => ?_) (fun c22 => ?_)
        · have h := zz_f h c22
          refine lv_iinc (v := (v2_32 + (nI 1))) (lv' := [(2, .int (v2_32 + (nI 1))), (0, .ref a_t), (1, .ref a_p1)]) hx hb dX5_read_54 hl (k := 0) rfl rfl (by decide) rfl (fun ls hl => ?_)
          refine lv_goto (tgt := 32) hx hb dX5_read_57 (by decide) ?_
          exact ih32 (v2_32 + (nI 1)) t_laid_r13 t_stage_r17 t_open_r14 t_digits_r12 t_order_r15 t_prizes_r16 t_numbers_r18 t_parts_r19 t_signs_r20 _ _ _ h (hP.sub [2, 3, 4, 5, 0, 1] rfl) (hD.sub [2, 3, 4, 5, 0, 1] rfl rfl) hS (lv_sub hl [0, 1, 2] rfl)
        · have h := zz_t h c22
          refine lv_iload_n hx hb dX5_read_52 rfl (lv_at hl 0 rfl) ?_
          obtain ⟨j0_, g_⟩ := Prod.mk.inj (Option.some.inj h)
          obtain ⟨j1_, g_⟩ := Prod.mk.inj g_
          obtain ⟨j2_, g_⟩ := Prod.mk.inj g_
          obtain ⟨j3_, g_⟩ := Prod.mk.inj g_
          obtain ⟨j4_, g_⟩ := Prod.mk.inj g_
          obtain ⟨j5_, g_⟩ := Prod.mk.inj g_
          obtain ⟨j6_, g_⟩ := Prod.mk.inj g_
          obtain ⟨j7_, g_⟩ := Prod.mk.inj g_
          obtain ⟨j8_, g_⟩ := Prod.mk.inj g_
          have j9_ := g_
          subst j0_
          subst j1_
          subst j2_
          subst j3_
          subst j4_
          subst j5_
          subst j6_
          subst j7_
          subst j8_
          subst j9_
          exact W.iret (v := v2_32) hx hb hr (fun t ht hW => ⟨⟨_, (), rfl, rfl, zPost.of hP hD hK ht hW [2, 3, 4, 5, 0, 1] rfl rfl rfl⟩, hS.F ht⟩) hS.2.2 dX5_read_53
  exact L32 N (nI 0) (nI 0) (nI 0) (nI 0) (nI 0) (-1 : Int32) (nI 0) t_numbers t_parts t_signs _ _ _ h hP hD hS hl
/-! RunDesk$Listing.faultOf -/
theorem dX3_faultOf_0 : decode cX3_faultOf 0 = .ok (.aload_n 0, 1) := by decide +kernel
theorem dX3_faultOf_1 : decode cX3_faultOf 1 = .ok (.getfield 12, 3) := by decide +kernel
theorem dX3_faultOf_4 : decode cX3_faultOf 4 = .ok (.aload_n 1, 1) := by decide +kernel
theorem dX3_faultOf_5 : decode cX3_faultOf 5 = .ok (.invokevirtual 22, 3) := by decide +kernel
theorem dX3_faultOf_8 : decode cX3_faultOf 8 = .ok (.ireturn, 1) := by decide +kernel
set_option maxRecDepth 20000 in
theorem ggX3_faultOf_X5_read : GoodIn wsX3_faultOf wsX5_read := goodIn_sub (List.forall_mem_cons.mpr ⟨List.mem_cons_of_mem _ (List.mem_append_left _ (List.mem_append_left _ (List.mem_append_left _ (List.mem_append_left _ (List.mem_of_getElem? (l := wsX3_faultOf_r1) (i := 5) rfl))))), (List.forall_mem_append.mpr ⟨(List.forall_mem_append.mpr ⟨(List.forall_mem_append.mpr ⟨(List.forall_mem_cons.mpr ⟨List.mem_cons_of_mem _ (List.mem_append_left _ (List.mem_append_left _ (List.mem_append_left _ (List.mem_append_left _ (List.mem_of_getElem? (l := wsX3_faultOf_r1) (i := 6) rfl))))), (List.forall_mem_cons.mpr ⟨List.mem_cons_of_mem _ (List.mem_append_left _ (List.mem_append_left _ (List.mem_append_left _ (List.mem_append_left _ (List.mem_of_getElem? (l := wsX3_faultOf_r1) (i := 7) rfl))))), (List.forall_mem_cons.mpr ⟨List.mem_cons_of_mem _ (List.mem_append_left _ (List.mem_append_left _ (List.mem_append_left _ (List.mem_append_left _ (List.mem_of_getElem? (l := wsX3_faultOf_r1) (i := 8) rfl))))), (List.forall_mem_cons.mpr ⟨List.mem_cons_of_mem _ (List.mem_append_left _ (List.mem_append_left _ (List.mem_append_left _ (List.mem_append_left _ (List.mem_of_getElem? (l := wsX3_faultOf_r1) (i := 9) rfl))))), (List.forall_mem_cons.mpr ⟨List.mem_cons_of_mem _ (List.mem_append_left _ (List.mem_append_left _ (List.mem_append_left _ (List.mem_append_left _ (List.mem_of_getElem? (l := wsX3_faultOf_r1) (i := 10) rfl))))), (List.forall_mem_cons.mpr ⟨List.mem_cons_of_mem _ (List.mem_append_left _ (List.mem_append_left _ (List.mem_append_left _ (List.mem_append_left _ (List.mem_of_getElem? (l := wsX3_faultOf_r1) (i := 11) rfl))))), (List.forall_mem_cons.mpr ⟨List.mem_cons_of_mem _ (List.mem_append_left _ (List.mem_append_left _ (List.mem_append_left _ (List.mem_append_left _ (List.mem_of_getElem? (l := wsX3_faultOf_r1) (i := 12) rfl))))), (List.forall_mem_cons.mpr ⟨List.mem_cons_of_mem _ (List.mem_append_left _ (List.mem_append_left _ (List.mem_append_left _ (List.mem_append_left _ (List.mem_of_getElem? (l := wsX3_faultOf_r1) (i := 13) rfl))))), (List.forall_mem_cons.mpr ⟨List.mem_cons_of_mem _ (List.mem_append_left _ (List.mem_append_left _ (List.mem_append_left _ (List.mem_append_left _ (List.mem_of_getElem? (l := wsX3_faultOf_r1) (i := 14) rfl))))), (List.forall_mem_cons.mpr ⟨List.mem_cons_of_mem _ (List.mem_append_left _ (List.mem_append_left _ (List.mem_append_left _ (List.mem_append_left _ (List.mem_of_getElem? (l := wsX3_faultOf_r1) (i := 15) rfl))))), (List.forall_mem_cons.mpr ⟨List.mem_cons_of_mem _ (List.mem_append_left _ (List.mem_append_left _ (List.mem_append_left _ (List.mem_append_left _ (List.mem_of_getElem? (l := wsX3_faultOf_r1) (i := 16) rfl))))), (List.forall_mem_cons.mpr ⟨List.mem_cons_of_mem _ (List.mem_append_left _ (List.mem_append_left _ (List.mem_append_left _ (List.mem_append_left _ (List.mem_of_getElem? (l := wsX3_faultOf_r1) (i := 17) rfl))))), (List.forall_mem_cons.mpr ⟨List.mem_cons_of_mem _ (List.mem_append_left _ (List.mem_append_left _ (List.mem_append_left _ (List.mem_append_left _ (List.mem_of_getElem? (l := wsX3_faultOf_r1) (i := 18) rfl))))), (List.forall_mem_cons.mpr ⟨List.mem_cons_of_mem _ (List.mem_append_left _ (List.mem_append_left _ (List.mem_append_left _ (List.mem_append_left _ (List.mem_of_getElem? (l := wsX3_faultOf_r1) (i := 19) rfl))))), (List.forall_mem_cons.mpr ⟨List.mem_cons_of_mem _ (List.mem_append_left _ (List.mem_append_left _ (List.mem_append_left _ (List.mem_append_left _ (List.mem_of_getElem? (l := wsX3_faultOf_r1) (i := 20) rfl))))), (List.forall_mem_cons.mpr ⟨List.mem_cons_of_mem _ (List.mem_append_left _ (List.mem_append_left _ (List.mem_append_left _ (List.mem_append_left _ (List.mem_of_getElem? (l := wsX3_faultOf_r1) (i := 21) rfl))))), (List.forall_mem_cons.mpr ⟨List.mem_cons_of_mem _ (List.mem_append_left _ (List.mem_append_left _ (List.mem_append_left _ (List.mem_append_left _ (List.mem_of_getElem? (l := wsX3_faultOf_r1) (i := 22) rfl))))), (List.forall_mem_cons.mpr ⟨List.mem_cons_of_mem _ (List.mem_append_left _ (List.mem_append_left _ (List.mem_append_left _ (List.mem_append_left _ (List.mem_of_getElem? (l := wsX3_faultOf_r1) (i := 23) rfl))))), (List.forall_mem_cons.mpr ⟨List.mem_cons_of_mem _ (List.mem_append_left _ (List.mem_append_left _ (List.mem_append_left _ (List.mem_append_right _ (List.mem_append_left _ (List.mem_of_getElem? (l := wsX3_faultOf_r2) (i := 0) rfl)))))), (List.forall_mem_cons.mpr ⟨List.mem_cons_of_mem _ (List.mem_append_left _ (List.mem_append_left _ (List.mem_append_left _ (List.mem_append_right _ (List.mem_append_left _ (List.mem_of_getElem? (l := wsX3_faultOf_r2) (i := 1) rfl)))))), (List.forall_mem_cons.mpr ⟨List.mem_cons_of_mem _ (List.mem_append_left _ (List.mem_append_left _ (List.mem_append_left _ (List.mem_append_left _ (List.mem_of_getElem? (l := wsX3_faultOf_r1) (i := 4) rfl))))), (List.forall_mem_cons.mpr ⟨List.mem_cons_of_mem _ (List.mem_append_left _ (List.mem_append_left _ (List.mem_append_left _ (List.mem_append_right _ (List.mem_append_left _ (List.mem_of_getElem? (l := wsX3_faultOf_r2) (i := 2) rfl)))))), (List.forall_mem_cons.mpr ⟨List.mem_cons_of_mem _ (List.mem_append_left _ (List.mem_append_left _ (List.mem_append_left _ (List.mem_append_right _ (List.mem_append_left _ (List.mem_of_getElem? (l := wsX3_faultOf_r2) (i := 3) rfl)))))), (List.forall_mem_cons.mpr ⟨List.mem_cons_of_mem _ (List.mem_append_left _ (List.mem_append_left _ (List.mem_append_left _ (List.mem_append_right _ (List.mem_append_left _ (List.mem_of_getElem? (l := wsX3_faultOf_r2) (i := 4) rfl)))))), (fun _ h => nomatch h)⟩)⟩)⟩)⟩)⟩)⟩)⟩)⟩)⟩)⟩)⟩)⟩)⟩)⟩)⟩)⟩)⟩)⟩)⟩)⟩)⟩)⟩)⟩)⟩), (List.forall_mem_append.mpr ⟨(List.forall_mem_cons.mpr ⟨List.mem_cons_of_mem _ (List.mem_append_left _ (List.mem_append_left _ (List.mem_append_left _ (List.mem_append_right _ (List.mem_append_left _ (List.mem_of_getElem? (l := wsX3_faultOf_r2) (i := 5) rfl)))))), (List.forall_mem_cons.mpr ⟨List.mem_cons_of_mem _ (List.mem_append_left _ (List.mem_append_left _ (List.mem_append_left _ (List.mem_append_right _ (List.mem_append_left _ (List.mem_of_getElem? (l := wsX3_faultOf_r2) (i := 6) rfl)))))), (List.forall_mem_cons.mpr ⟨List.mem_cons_of_mem _ (List.mem_append_left _ (List.mem_append_left _ (List.mem_append_left _ (List.mem_append_right _ (List.mem_append_left _ (List.mem_of_getElem? (l := wsX3_faultOf_r2) (i := 7) rfl)))))), (List.forall_mem_cons.mpr ⟨List.mem_cons_of_mem _ (List.mem_append_left _ (List.mem_append_left _ (List.mem_append_left _ (List.mem_append_right _ (List.mem_append_left _ (List.mem_of_getElem? (l := wsX3_faultOf_r2) (i := 8) rfl)))))), (List.forall_mem_cons.mpr ⟨List.mem_cons_of_mem _ (List.mem_append_left _ (List.mem_append_left _ (List.mem_append_left _ (List.mem_append_right _ (List.mem_append_left _ (List.mem_of_getElem? (l := wsX3_faultOf_r2) (i := 9) rfl)))))), (List.forall_mem_cons.mpr ⟨List.mem_cons_of_mem _ (List.mem_append_left _ (List.mem_append_left _ (List.mem_append_left _ (List.mem_append_right _ (List.mem_append_left _ (List.mem_of_getElem? (l := wsX3_faultOf_r2) (i := 10) rfl)))))), (List.forall_mem_cons.mpr ⟨List.mem_cons_of_mem _ (List.mem_append_left _ (List.mem_append_left _ (List.mem_append_left _ (List.mem_append_right _ (List.mem_append_left _ (List.mem_of_getElem? (l := wsX3_faultOf_r2) (i := 11) rfl)))))), (List.forall_mem_cons.mpr ⟨List.mem_cons_of_mem _ (List.mem_append_left _ (List.mem_append_left _ (List.mem_append_left _ (List.mem_append_right _ (List.mem_append_left _ (List.mem_of_getElem? (l := wsX3_faultOf_r2) (i := 12) rfl)))))), (List.forall_mem_cons.mpr ⟨List.mem_cons_of_mem _ (List.mem_append_left _ (List.mem_append_left _ (List.mem_append_left _ (List.mem_append_right _ (List.mem_append_left _ (List.mem_of_getElem? (l := wsX3_faultOf_r2) (i := 13) rfl)))))), (List.forall_mem_cons.mpr ⟨List.mem_cons_of_mem _ (List.mem_append_left _ (List.mem_append_left _ (List.mem_append_left _ (List.mem_append_right _ (List.mem_append_left _ (List.mem_of_getElem? (l := wsX3_faultOf_r2) (i := 14) rfl)))))), (List.forall_mem_cons.mpr ⟨List.mem_cons_of_mem _ (List.mem_append_left _ (List.mem_append_left _ (List.mem_append_left _ (List.mem_append_right _ (List.mem_append_left _ (List.mem_of_getElem? (l := wsX3_faultOf_r2) (i := 15) rfl)))))), (List.forall_mem_cons.mpr ⟨List.mem_cons_of_mem _ (List.mem_append_left _ (List.mem_append_left _ (List.mem_append_left _ (List.mem_append_right _ (List.mem_append_left _ (List.mem_of_getElem? (l := wsX3_faultOf_r2) (i := 16) rfl)))))), (List.forall_mem_cons.mpr ⟨List.mem_cons_of_mem _ (List.mem_append_left _ (List.mem_append_left _ (List.mem_append_left _ (List.mem_append_right _ (List.mem_append_left _ (List.mem_of_getElem? (l := wsX3_faultOf_r2) (i := 17) rfl)))))), (List.forall_mem_cons.mpr ⟨List.mem_cons_of_mem _ (List.mem_append_left _ (List.mem_append_left _ (List.mem_append_left _ (List.mem_append_right _ (List.mem_append_left _ (List.mem_of_getElem? (l := wsX3_faultOf_r2) (i := 18) rfl)))))), (List.forall_mem_cons.mpr ⟨List.mem_cons_of_mem _ (List.mem_append_left _ (List.mem_append_left _ (List.mem_append_left _ (List.mem_append_right _ (List.mem_append_left _ (List.mem_of_getElem? (l := wsX3_faultOf_r2) (i := 19) rfl)))))), (List.forall_mem_cons.mpr ⟨List.mem_cons_of_mem _ (List.mem_append_left _ (List.mem_append_left _ (List.mem_append_left _ (List.mem_append_right _ (List.mem_append_left _ (List.mem_of_getElem? (l := wsX3_faultOf_r2) (i := 20) rfl)))))), (List.forall_mem_cons.mpr ⟨List.mem_cons_of_mem _ (List.mem_append_left _ (List.mem_append_left _ (List.mem_append_left _ (List.mem_append_right _ (List.mem_append_left _ (List.mem_of_getElem? (l := wsX3_faultOf_r2) (i := 21) rfl)))))), (List.forall_mem_cons.mpr ⟨List.mem_cons_of_mem _ (List.mem_append_left _ (List.mem_append_left _ (List.mem_append_left _ (List.mem_append_right _ (List.mem_append_left _ (List.mem_of_getElem? (l := wsX3_faultOf_r2) (i := 22) rfl)))))), (List.forall_mem_cons.mpr ⟨List.mem_cons_of_mem _ (List.mem_append_left _ (List.mem_append_left _ (List.mem_append_left _ (List.mem_append_right _ (List.mem_append_left _ (List.mem_of_getElem? (l := wsX3_faultOf_r2) (i := 23) rfl)))))), (List.forall_mem_cons.mpr ⟨List.mem_cons_of_mem _ (List.mem_append_left _ (List.mem_append_left _ (List.mem_append_left _ (List.mem_append_right _ (List.mem_append_right _ (List.mem_of_getElem? (l := wsX3_faultOf_r3) (i := 0) rfl)))))), (List.forall_mem_cons.mpr ⟨List.mem_cons_of_mem _ (List.mem_append_left _ (List.mem_append_left _ (List.mem_append_left _ (List.mem_append_right _ (List.mem_append_right _ (List.mem_of_getElem? (l := wsX3_faultOf_r3) (i := 1) rfl)))))), (List.forall_mem_cons.mpr ⟨List.mem_cons_of_mem _ (List.mem_append_left _ (List.mem_append_left _ (List.mem_append_left _ (List.mem_append_right _ (List.mem_append_right _ (List.mem_of_getElem? (l := wsX3_faultOf_r3) (i := 2) rfl)))))), (List.forall_mem_cons.mpr ⟨List.mem_cons_of_mem _ (List.mem_append_left _ (List.mem_append_left _ (List.mem_append_left _ (List.mem_append_right _ (List.mem_append_right _ (List.mem_of_getElem? (l := wsX3_faultOf_r3) (i := 3) rfl)))))), (List.forall_mem_cons.mpr ⟨List.mem_cons_of_mem _ (List.mem_append_left _ (List.mem_append_left _ (List.mem_append_left _ (List.mem_append_right _ (List.mem_append_right _ (List.mem_of_getElem? (l := wsX3_faultOf_r3) (i := 4) rfl)))))), (fun _ h => nomatch h)⟩)⟩)⟩)⟩)⟩)⟩)⟩)⟩)⟩)⟩)⟩)⟩)⟩)⟩)⟩)⟩)⟩)⟩)⟩)⟩)⟩)⟩)⟩)⟩), (List.forall_mem_cons.mpr ⟨List.mem_cons_of_mem _ (List.mem_append_left _ (List.mem_append_left _ (List.mem_append_left _ (List.mem_append_right _ (List.mem_append_right _ (List.mem_of_getElem? (l := wsX3_faultOf_r3) (i := 5) rfl)))))), (List.forall_mem_cons.mpr ⟨List.mem_cons_of_mem _ (List.mem_append_left _ (List.mem_append_left _ (List.mem_append_left _ (List.mem_append_right _ (List.mem_append_right _ (List.mem_of_getElem? (l := wsX3_faultOf_r3) (i := 6) rfl)))))), (List.forall_mem_cons.mpr ⟨List.mem_cons_of_mem _ (List.mem_append_left _ (List.mem_append_left _ (List.mem_append_left _ (List.mem_append_right _ (List.mem_append_right _ (List.mem_of_getElem? (l := wsX3_faultOf_r3) (i := 7) rfl)))))), (List.forall_mem_cons.mpr ⟨List.mem_cons_of_mem _ (List.mem_append_left _ (List.mem_append_left _ (List.mem_append_left _ (List.mem_append_right _ (List.mem_append_right _ (List.mem_of_getElem? (l := wsX3_faultOf_r3) (i := 8) rfl)))))), (List.forall_mem_cons.mpr ⟨List.mem_cons_of_mem _ (List.mem_append_left _ (List.mem_append_left _ (List.mem_append_left _ (List.mem_append_right _ (List.mem_append_right _ (List.mem_of_getElem? (l := wsX3_faultOf_r3) (i := 9) rfl)))))), (List.forall_mem_cons.mpr ⟨List.mem_cons_of_mem _ (List.mem_append_left _ (List.mem_append_left _ (List.mem_append_left _ (List.mem_append_right _ (List.mem_append_right _ (List.mem_of_getElem? (l := wsX3_faultOf_r3) (i := 10) rfl)))))), (List.forall_mem_cons.mpr ⟨List.mem_cons_of_mem _ (List.mem_append_left _ (List.mem_append_left _ (List.mem_append_left _ (List.mem_append_right _ (List.mem_append_right _ (List.mem_of_getElem? (l := wsX3_faultOf_r3) (i := 11) rfl)))))), (List.forall_mem_cons.mpr ⟨List.mem_cons_of_mem _ (List.mem_append_left _ (List.mem_append_left _ (List.mem_append_left _ (List.mem_append_right _ (List.mem_append_right _ (List.mem_of_getElem? (l := wsX3_faultOf_r3) (i := 12) rfl)))))), (List.forall_mem_cons.mpr ⟨List.mem_cons_of_mem _ (List.mem_append_left _ (List.mem_append_left _ (List.mem_append_left _ (List.mem_append_right _ (List.mem_append_right _ (List.mem_of_getElem? (l := wsX3_faultOf_r3) (i := 13) rfl)))))), (List.forall_mem_cons.mpr ⟨List.mem_cons_of_mem _ (List.mem_append_left _ (List.mem_append_left _ (List.mem_append_left _ (List.mem_append_right _ (List.mem_append_right _ (List.mem_of_getElem? (l := wsX3_faultOf_r3) (i := 14) rfl)))))), (List.forall_mem_cons.mpr ⟨List.mem_cons_of_mem _ (List.mem_append_left _ (List.mem_append_left _ (List.mem_append_left _ (List.mem_append_right _ (List.mem_append_right _ (List.mem_of_getElem? (l := wsX3_faultOf_r3) (i := 15) rfl)))))), (List.forall_mem_cons.mpr ⟨List.mem_cons_of_mem _ (List.mem_append_left _ (List.mem_append_left _ (List.mem_append_left _ (List.mem_append_right _ (List.mem_append_right _ (List.mem_of_getElem? (l := wsX3_faultOf_r3) (i := 16) rfl)))))), (List.forall_mem_cons.mpr ⟨List.mem_cons_of_mem _ (List.mem_append_left _ (List.mem_append_left _ (List.mem_append_left _ (List.mem_append_right _ (List.mem_append_right _ (List.mem_of_getElem? (l := wsX3_faultOf_r3) (i := 17) rfl)))))), (List.forall_mem_cons.mpr ⟨List.mem_cons_of_mem _ (List.mem_append_left _ (List.mem_append_left _ (List.mem_append_left _ (List.mem_append_right _ (List.mem_append_right _ (List.mem_of_getElem? (l := wsX3_faultOf_r3) (i := 18) rfl)))))), (List.forall_mem_cons.mpr ⟨List.mem_cons_of_mem _ (List.mem_append_left _ (List.mem_append_left _ (List.mem_append_left _ (List.mem_append_right _ (List.mem_append_right _ (List.mem_of_getElem? (l := wsX3_faultOf_r3) (i := 19) rfl)))))), (List.forall_mem_cons.mpr ⟨List.mem_cons_of_mem _ (List.mem_append_left _ (List.mem_append_left _ (List.mem_append_left _ (List.mem_append_right _ (List.mem_append_right _ (List.mem_of_getElem? (l := wsX3_faultOf_r3) (i := 20) rfl)))))), (List.forall_mem_cons.mpr ⟨List.mem_cons_of_mem _ (List.mem_append_left _ (List.mem_append_left _ (List.mem_append_left _ (List.mem_append_right _ (List.mem_append_right _ (List.mem_of_getElem? (l := wsX3_faultOf_r3) (i := 21) rfl)))))), (List.forall_mem_cons.mpr ⟨List.mem_cons_of_mem _ (List.mem_append_left _ (List.mem_append_left _ (List.mem_append_left _ (List.mem_append_right _ (List.mem_append_right _ (List.mem_of_getElem? (l := wsX3_faultOf_r3) (i := 22) rfl)))))), (fun _ h => nomatch h)⟩)⟩)⟩)⟩)⟩)⟩)⟩)⟩)⟩)⟩)⟩)⟩)⟩)⟩)⟩)⟩)⟩)⟩)⟩)⟩), (fun _ h => List.mem_cons_of_mem _ (List.mem_append_left _ (List.mem_append_right _ (h))))⟩), (fun _ h => List.mem_cons_of_mem _ (List.mem_append_right _ (h)))⟩)⟩) (by decide +kernel)
set_option maxRecDepth 20000 in
theorem gX3_faultOf_X5_read : GoodIn wsX3_faultOf (wsV RX3 22 RX5 yX5_read wsX5_read) := goodIn_app (goodIn_of _ (by decide +kernel)) ggX3_faultOf_X5_read
theorem kX3_faultOf_0 : (.fieldLink RX3 12 "RunDesk$Listing" "reading" "LRunDesk$Reading;" : Cond) ∈ wsX3_faultOf := List.mem_of_getElem? (i := 1) (by decide +kernel)
theorem qX3_faultOf_X3 : ∀ w ∈ wsX30, w ∈ wsX3_faultOf := fun _ h => List.mem_cons_of_mem _ (List.mem_append_left _ (List.mem_append_left _ (List.mem_append_right _ (h))))
set_option maxHeartbeats 4000000 in
set_option maxRecDepth 100000 in
theorem mX3_faultOf (l : Launch) (D : va_G) (cB cI cZ : ClassId) (a_t : Nat) (a_p1 : Nat) (a_t_reading : Nat) (a_t_times : Nat) (a_t_reading_parts : Nat) (a_t_reading_signs : Nat) (a_t_reading_numbers : Nat) (a_p1_bytes : Nat) (t_reading_laid : Int32) (t_reading_stage : Int32) (t_reading_open : Int32) (t_reading_digits : Int32) (t_reading_order : Int32) (t_reading_prizes : Int32) (t_reading_numbers : Nat → Int32) (t_reading_parts : Nat → Int32) (t_reading_signs : Nat → Int32) (p1_length : Int32) (p1_bytes : Nat → Int32) (sz : Nat) (N : Nat) (r0 : Int32) (t_reading_digits' : Int32) (t_reading_laid' : Int32) (t_reading_open' : Int32) (t_reading_order' : Int32) (t_reading_prizes' : Int32) (t_reading_stage' : Int32) (t_reading_numbers' : Nat → Int32) (t_reading_parts' : Nat → Int32) (t_reading_signs' : Nat → Int32) (h : fX3_faultOf N t_reading_digits t_reading_laid t_reading_open t_reading_order t_reading_prizes t_reading_stage t_reading_numbers t_reading_parts t_reading_signs p1_length p1_bytes = some (r0, t_reading_digits', t_reading_laid', t_reading_open', t_reading_order', t_reading_prizes', t_reading_stage', t_reading_numbers', t_reading_parts', t_reading_signs')) : Met l yX3_faultOf wsX3_faultOf ({ frames := 5, cells := 0, slots := 0, locals := 107 } : Room) (va_Pc [.ref a_t, .ref a_p1] (zPre D (zT cB cI cZ) [(a_t, .inr (3, [.ref a_t_reading, .ref a_t_times])), (a_t_reading, .inr (5, [.ref a_t_reading_parts, .ref a_t_reading_signs, .ref a_t_reading_numbers, .int t_reading_laid, .int t_reading_stage, .int t_reading_open, .int t_reading_digits, .int t_reading_order, .int t_reading_prizes])), (a_t_reading_numbers, .inl (cI, 200, .inl t_reading_numbers)), (a_t_reading_parts, .inl (cI, 200, .inl t_reading_parts)), (a_t_reading_signs, .inl (cI, 200, .inl t_reading_signs)), (a_p1, .inr (7, [.ref a_p1_bytes, .int p1_length])), (a_p1_bytes, .inl (cI, 200, .inl p1_bytes))] sz)) (zQi r0 D (zT cB cI cZ) [(a_t, .inr (3, [.ref a_t_reading, .ref a_t_times])), (a_t_reading, .inr (5, [.ref a_t_reading_parts, .ref a_t_reading_signs, .ref a_t_reading_numbers, .int t_reading_laid', .int t_reading_stage', .int t_reading_open', .int t_reading_digits', .int t_reading_order', .int t_reading_prizes'])), (a_t_reading_numbers, .inl (cI, 200, .inl t_reading_numbers')), (a_t_reading_parts, .inl (cI, 200, .inl t_reading_parts')), (a_t_reading_signs, .inl (cI, 200, .inl t_reading_signs')), (a_p1, .inr (7, [.ref a_p1_bytes, .int p1_length])), (a_p1_bytes, .inl (cI, 200, .inl p1_bytes))] (va_A [(a_t, .inr (3, [.ref a_t_reading, .ref a_t_times])), (a_t_reading, .inr (5, [.ref a_t_reading_parts, .ref a_t_reading_signs, .ref a_t_reading_numbers, .int t_reading_laid, .int t_reading_stage, .int t_reading_open, .int t_reading_digits, .int t_reading_order, .int t_reading_prizes])), (a_t_reading_numbers, .inl (cI, 200, .inl t_reading_numbers)), (a_t_reading_parts, .inl (cI, 200, .inl t_reading_parts)), (a_t_reading_signs, .inl (cI, 200, .inl t_reading_signs)), (a_p1, .inr (7, [.ref a_p1_bytes, .int p1_length])), (a_p1_bytes, .inl (cI, 200, .inl p1_bytes))] sz)) 0 0 (va_A [(a_t, .inr (3, [.ref a_t_reading, .ref a_t_times])), (a_t_reading, .inr (5, [.ref a_t_reading_parts, .ref a_t_reading_signs, .ref a_t_reading_numbers, .int t_reading_laid, .int t_reading_stage, .int t_reading_open, .int t_reading_digits, .int t_reading_order, .int t_reading_prizes])), (a_t_reading_numbers, .inl (cI, 200, .inl t_reading_numbers)), (a_t_reading_parts, .inl (cI, 200, .inl t_reading_parts)), (a_t_reading_signs, .inl (cI, 200, .inl t_reading_signs)), (a_p1, .inr (7, [.ref a_p1_bytes, .int p1_length])), (a_p1_bytes, .inl (cI, 200, .inl p1_bytes))] sz) := by
  refine Met.ofW (cc := cX3_faultOf) (maxL := 2) (ret := (some .int)) (by decide) rfl ?_
  intro p e s m args below meth c s₁ B hml hv
  obtain ⟨rfl, hsz, hP, hK, hN, hZ, hD0⟩ := hv
  have hx := B.exec
  have hb := B.bytes
  have hr := B.returns
  have hts := atoms_spec (ws := wsX3_faultOf) B.pre
  have hown : s.vm.findClass RX3 = some m.cls := findClass_of_methodNamed B.named
  have hlocks := B.notSynchronized
  subst hsz
  have hD := hD0.self (sz := s.heap.size)
  generalize hAe : va_A [(a_t, .inr (3, [.ref a_t_reading, .ref a_t_times])), (a_t_reading, .inr (5, [.ref a_t_reading_parts, .ref a_t_reading_signs, .ref a_t_reading_numbers, .int t_reading_laid, .int t_reading_stage, .int t_reading_open, .int t_reading_digits, .int t_reading_order, .int t_reading_prizes])), (a_t_reading_numbers, .inl (cI, 200, .inl t_reading_numbers)), (a_t_reading_parts, .inl (cI, 200, .inl t_reading_parts)), (a_t_reading_signs, .inl (cI, 200, .inl t_reading_signs)), (a_p1, .inr (7, [.ref a_p1_bytes, .int p1_length])), (a_p1_bytes, .inl (cI, 200, .inl p1_bytes))] s.heap.size = A at hD hZ ⊢
  have hA : ∀ q : Nat, s.heap.size ≤ q → A q := fun q h => by rw [← hAe]; exact Or.inr h
  have hS : va_S A s.heap s.heap [] := va_S.rf
  have hl := lv_entry ([.ref a_t, .ref a_p1]) (n := 2) (Nat.le_of_ble_eq_true rfl)
  rw [lg_entry_eq]
  generalize (lg_sl ([.ref a_t, .ref a_p1]) ++ List.replicate (2 - (lg_sl ([.ref a_t, .ref a_p1])).length) Slot.unset).toArray = ls at hl ⊢
  have hl : lv_has ls 2 [(0, .ref a_t), (1, .ref a_p1)] := hl
  unfold fX3_faultOf at h
  refine lv_aload_n hx hb dX3_faultOf_0 rfl (lv_at hl 0 rfl) ?_
  refine va_get (D := D) (ci := 3) (C := RX3) (T := TX3) (N := 2) hx hb hts qX3_faultOf_X3 hown hK hP 0 rfl rfl 0 (by decide) (hts _ kX3_faultOf_0) (fun _ h9 => h9) rfl dX3_faultOf_1 ?_
  refine lv_aload_n hx hb dX3_faultOf_4 rfl (lv_at hl 1 rfl) ?_
  obtain ⟨⟨r1, t_reading_digits_r2, t_reading_laid_r3, t_reading_open_r4, t_reading_order_r5, t_reading_prizes_r6, t_reading_stage_r7, t_reading_numbers_r8, t_reading_parts_r9, t_reading_signs_r10⟩, e11, h⟩ := zz_b h
  dsimp only at h
  refine zVi (As := [.ref a_p1]) (rest := []) (C := RX5) (wr := [(a_t, .inr (3, [.ref a_t_reading, .ref a_t_times]))]) [1, 2, 3, 4, 5, 6] [0] 0 ⟨hx, hb, hml, hown, hts⟩ (mX5_read l D cB cI cZ a_t_reading a_p1 a_t_reading_parts a_t_reading_signs a_t_reading_numbers a_p1_bytes t_reading_laid t_reading_stage t_reading_open t_reading_digits t_reading_order t_reading_prizes t_reading_numbers t_reading_parts t_reading_signs p1_length p1_bytes s.heap.size N r1 t_reading_digits_r2 t_reading_laid_r3 t_reading_open_r4 t_reading_order_r5 t_reading_prizes_r6 t_reading_stage_r7 t_reading_numbers_r8 t_reading_parts_r9 t_reading_signs_r10 e11) (cwV 1 hts gX3_faultOf_X5_read rfl rfl rfl (by decide +kernel) ⟨Nat.le_of_ble_eq_true rfl, Nat.le_of_ble_eq_true rfl⟩) hK hN hZ hP hD hS hA rfl rfl rfl rfl rfl rfl rfl rfl hl.1 rfl (lv_room (Nat.le_of_ble_eq_true rfl)) dX3_faultOf_5 ⟨Nat.le_of_ble_eq_true rfl, Nat.le_of_ble_eq_true rfl⟩ (fun H locs hP hD hS => ?_)
  have hP : va_P D vwCl [(a_t, .inr (3, [.ref a_t_reading, .ref a_t_times])), (a_t_reading, .inr (5, [.ref a_t_reading_parts, .ref a_t_reading_signs, .ref a_t_reading_numbers, .int t_reading_laid_r3, .int t_reading_stage_r7, .int t_reading_open_r4, .int t_reading_digits_r2, .int t_reading_order_r5, .int t_reading_prizes_r6])), (a_t_reading_numbers, .inl (cI, 200, .inl t_reading_numbers_r8)), (a_t_reading_parts, .inl (cI, 200, .inl t_reading_parts_r9)), (a_t_reading_signs, .inl (cI, 200, .inl t_reading_signs_r10)), (a_p1, .inr (7, [.ref a_p1_bytes, .int p1_length])), (a_p1_bytes, .inl (cI, 200, .inl p1_bytes))] H := hP
  have hD : va_D A [(a_t, .inr (3, [.ref a_t_reading, .ref a_t_times])), (a_t_reading, .inr (5, [.ref a_t_reading_parts, .ref a_t_reading_signs, .ref a_t_reading_numbers, .int t_reading_laid_r3, .int t_reading_stage_r7, .int t_reading_open_r4, .int t_reading_digits_r2, .int t_reading_order_r5, .int t_reading_prizes_r6])), (a_t_reading_numbers, .inl (cI, 200, .inl t_reading_numbers_r8)), (a_t_reading_parts, .inl (cI, 200, .inl t_reading_parts_r9)), (a_t_reading_signs, .inl (cI, 200, .inl t_reading_signs_r10)), (a_p1, .inr (7, [.ref a_p1_bytes, .int p1_length])), (a_p1_bytes, .inl (cI, 200, .inl p1_bytes))] := hD
  obtain ⟨j0_, g_⟩ := Prod.mk.inj (Option.some.inj h)
  obtain ⟨j1_, g_⟩ := Prod.mk.inj g_
  obtain ⟨j2_, g_⟩ := Prod.mk.inj g_
  obtain ⟨j3_, g_⟩ := Prod.mk.inj g_
  obtain ⟨j4_, g_⟩ := Prod.mk.inj g_
  obtain ⟨j5_, g_⟩ := Prod.mk.inj g_
  obtain ⟨j6_, g_⟩ := Prod.mk.inj g_
  obtain ⟨j7_, g_⟩ := Prod.mk.inj g_
  obtain ⟨j8_, g_⟩ := Prod.mk.inj g_
  have j9_ := g_
  subst j0_
  subst j1_
  subst j2_
  subst j3_
  subst j4_
  subst j5_
  subst j6_
  subst j7_
  subst j8_
  subst j9_
  exact W.iret (v := r1) hx hb hr (fun t ht hW => ⟨⟨_, (), rfl, rfl, zPost.of hP hD hK ht hW [0, 1, 2, 3, 4, 5, 6] rfl rfl rfl⟩, hS.F ht⟩) hS.2.2 dX3_faultOf_8
/-! RunDesk$Reading.unitHolds -/
theorem dX5_unitHolds_0 : decode cX5_unitHolds 0 = .ok (.iload_n 3, 1) := by decide +kernel
theorem dX5_unitHolds_1 : decode cX5_unitHolds 1 = .ok (.iconst 0, 1) := by decide +kernel
theorem dX5_unitHolds_2 : decode cX5_unitHolds 2 = .ok (.sipush 199, 3) := by decide +kernel
theorem dX5_unitHolds_5 : decode cX5_unitHolds 5 = .ok (.invokestatic 85, 3) := by decide +kernel
theorem dX5_unitHolds_8 : decode cX5_unitHolds 8 = .ok (.ifCond .ne 5, 3) := by decide +kernel
theorem dX5_unitHolds_11 : decode cX5_unitHolds 11 = .ok (.iconst 0, 1) := by decide +kernel
theorem dX5_unitHolds_12 : decode cX5_unitHolds 12 = .ok (.ireturn, 1) := by decide +kernel
theorem dX5_unitHolds_13 : decode cX5_unitHolds 13 = .ok (.aload_n 1, 1) := by decide +kernel
theorem dX5_unitHolds_14 : decode cX5_unitHolds 14 = .ok (.getfield 93, 3) := by decide +kernel
theorem dX5_unitHolds_17 : decode cX5_unitHolds 17 = .ok (.iload_n 2, 1) := by decide +kernel
theorem dX5_unitHolds_18 : decode cX5_unitHolds 18 = .ok (.aload_n 0, 1) := by decide +kernel
theorem dX5_unitHolds_19 : decode cX5_unitHolds 19 = .ok (.getfield 9, 3) := by decide +kernel
theorem dX5_unitHolds_22 : decode cX5_unitHolds 22 = .ok (.iload_n 3, 1) := by decide +kernel
theorem dX5_unitHolds_23 : decode cX5_unitHolds 23 = .ok (.iaload, 1) := by decide +kernel
theorem dX5_unitHolds_24 : decode cX5_unitHolds 24 = .ok (.invokestatic 82, 3) := by decide +kernel
theorem dX5_unitHolds_27 : decode cX5_unitHolds 27 = .ok (.invokevirtual 99, 3) := by decide +kernel
theorem dX5_unitHolds_30 : decode cX5_unitHolds 30 = .ok (.istore 4, 2) := by decide +kernel
theorem dX5_unitHolds_32 : decode cX5_unitHolds 32 = .ok (.aload_n 0, 1) := by decide +kernel
theorem dX5_unitHolds_33 : decode cX5_unitHolds 33 = .ok (.getfield 15, 3) := by decide +kernel
theorem dX5_unitHolds_36 : decode cX5_unitHolds 36 = .ok (.iload_n 3, 1) := by decide +kernel
theorem dX5_unitHolds_37 : decode cX5_unitHolds 37 = .ok (.iaload, 1) := by decide +kernel
theorem dX5_unitHolds_38 : decode cX5_unitHolds 38 = .ok (.lookupswitch 60 #[(60, 26), (62, 43)], 26) := by decide +kernel
theorem dX5_unitHolds_64 : decode cX5_unitHolds 64 = .ok (.iload 4, 2) := by decide +kernel
theorem dX5_unitHolds_66 : decode cX5_unitHolds 66 = .ok (.aload_n 0, 1) := by decide +kernel
theorem dX5_unitHolds_67 : decode cX5_unitHolds 67 = .ok (.getfield 18, 3) := by decide +kernel
theorem dX5_unitHolds_70 : decode cX5_unitHolds 70 = .ok (.iload_n 3, 1) := by decide +kernel
theorem dX5_unitHolds_71 : decode cX5_unitHolds 71 = .ok (.iaload, 1) := by decide +kernel
theorem dX5_unitHolds_72 : decode cX5_unitHolds 72 = .ok (.if_icmp .ge 7, 3) := by decide +kernel
theorem dX5_unitHolds_75 : decode cX5_unitHolds 75 = .ok (.iconst 1, 1) := by decide +kernel
theorem dX5_unitHolds_76 : decode cX5_unitHolds 76 = .ok (.goto 4, 3) := by decide +kernel
theorem dX5_unitHolds_79 : decode cX5_unitHolds 79 = .ok (.iconst 0, 1) := by decide +kernel
theorem dX5_unitHolds_80 : decode cX5_unitHolds 80 = .ok (.ireturn, 1) := by decide +kernel
theorem dX5_unitHolds_81 : decode cX5_unitHolds 81 = .ok (.iload 4, 2) := by decide +kernel
theorem dX5_unitHolds_83 : decode cX5_unitHolds 83 = .ok (.aload_n 0, 1) := by decide +kernel
theorem dX5_unitHolds_84 : decode cX5_unitHolds 84 = .ok (.getfield 18, 3) := by decide +kernel
theorem dX5_unitHolds_87 : decode cX5_unitHolds 87 = .ok (.iload_n 3, 1) := by decide +kernel
theorem dX5_unitHolds_88 : decode cX5_unitHolds 88 = .ok (.iaload, 1) := by decide +kernel
theorem dX5_unitHolds_89 : decode cX5_unitHolds 89 = .ok (.if_icmp .le 7, 3) := by decide +kernel
theorem dX5_unitHolds_92 : decode cX5_unitHolds 92 = .ok (.iconst 1, 1) := by decide +kernel
theorem dX5_unitHolds_93 : decode cX5_unitHolds 93 = .ok (.goto 4, 3) := by decide +kernel
theorem dX5_unitHolds_96 : decode cX5_unitHolds 96 = .ok (.iconst 0, 1) := by decide +kernel
theorem dX5_unitHolds_97 : decode cX5_unitHolds 97 = .ok (.ireturn, 1) := by decide +kernel
theorem dX5_unitHolds_98 : decode cX5_unitHolds 98 = .ok (.iload 4, 2) := by decide +kernel
theorem dX5_unitHolds_100 : decode cX5_unitHolds 100 = .ok (.aload_n 0, 1) := by decide +kernel
theorem dX5_unitHolds_101 : decode cX5_unitHolds 101 = .ok (.getfield 18, 3) := by decide +kernel
theorem dX5_unitHolds_104 : decode cX5_unitHolds 104 = .ok (.iload_n 3, 1) := by decide +kernel
theorem dX5_unitHolds_105 : decode cX5_unitHolds 105 = .ok (.iaload, 1) := by decide +kernel
theorem dX5_unitHolds_106 : decode cX5_unitHolds 106 = .ok (.if_icmp .ne 7, 3) := by decide +kernel
theorem dX5_unitHolds_109 : decode cX5_unitHolds 109 = .ok (.iconst 1, 1) := by decide +kernel
theorem dX5_unitHolds_110 : decode cX5_unitHolds 110 = .ok (.goto 4, 3) := by decide +kernel
theorem dX5_unitHolds_113 : decode cX5_unitHolds 113 = .ok (.iconst 0, 1) := by decide +kernel
theorem dX5_unitHolds_114 : decode cX5_unitHolds 114 = .ok (.ireturn, 1) := by decide +kernel
set_option maxRecDepth 20000 in
theorem ggX5_unitHolds_X10_within : GoodIn wsX5_unitHolds wsX10_within := goodIn_sub (List.forall_mem_cons.mpr ⟨List.mem_cons_of_mem _ (List.mem_append_left _ (List.mem_append_left _ (List.mem_append_left _ (List.mem_of_getElem? (i := 5) rfl)))), (fun _ h => nomatch h)⟩) (by decide +kernel)
set_option maxRecDepth 20000 in
theorem gX5_unitHolds_X10_within_n85 : GoodIn wsX5_unitHolds (wsX10_within) := ggX5_unitHolds_X10_within
set_option maxRecDepth 20000 in
theorem ggX5_unitHolds_X5_factNamed : GoodIn wsX5_unitHolds wsX5_factNamed := goodIn_sub (List.forall_mem_cons.mpr ⟨List.mem_cons_of_mem _ (List.mem_append_left _ (List.mem_append_left _ (List.mem_append_left _ (List.mem_of_getElem? (i := 9) rfl)))), (fun _ h => nomatch h)⟩) (by decide +kernel)
set_option maxRecDepth 20000 in
theorem gX5_unitHolds_X5_factNamed : GoodIn wsX5_unitHolds (va_wsS RX5 82 yX5_factNamed wsX5_factNamed) := goodIn_app (goodIn_of _ (by decide +kernel)) ggX5_unitHolds_X5_factNamed
set_option maxRecDepth 20000 in
theorem ggX5_unitHolds_X6_factOf : GoodIn wsX5_unitHolds wsX6_factOf := goodIn_sub (List.forall_mem_cons.mpr ⟨List.mem_cons_of_mem _ (List.mem_append_left _ (List.mem_append_left _ (List.mem_append_left _ (List.mem_of_getElem? (i := 14) rfl)))), (List.forall_mem_append.mpr ⟨(List.forall_mem_cons.mpr ⟨List.mem_cons_of_mem _ (List.mem_append_left _ (List.mem_append_left _ (List.mem_append_left _ (List.mem_of_getElem? (i := 15) rfl)))), (List.forall_mem_cons.mpr ⟨List.mem_cons_of_mem _ (List.mem_append_left _ (List.mem_append_left _ (List.mem_append_left _ (List.mem_of_getElem? (i := 16) rfl)))), (fun _ h => nomatch h)⟩)⟩), (fun _ h => List.mem_cons_of_mem _ (List.mem_append_right _ (h)))⟩)⟩) (by decide +kernel)
set_option maxRecDepth 20000 in
theorem gX5_unitHolds_X6_factOf : GoodIn wsX5_unitHolds (wsV RX5 99 RX6 yX6_factOf wsX6_factOf) := goodIn_app (goodIn_of _ (by decide +kernel)) ggX5_unitHolds_X6_factOf
theorem kX5_unitHolds_0 : (.initialized RX10 : Cond) ∈ wsX5_unitHolds := List.mem_of_getElem? (i := 5) (by decide +kernel)
theorem kX5_unitHolds_1 : (.static yX10_within : Cond) ∈ wsX5_unitHolds := List.mem_of_getElem? (i := 4) (by decide +kernel)
theorem qX5_unitHolds_X4 : ∀ w ∈ wsX40, w ∈ wsX5_unitHolds := fun _ h => List.mem_cons_of_mem _ (List.mem_append_left _ (List.mem_append_left _ (List.mem_append_right _ (h))))
theorem kX5_unitHolds_3 : (.fieldLink RX5 9 "RunDesk$Reading" "parts" "[I" : Cond) ∈ wsX5_unitHolds := List.mem_of_getElem? (i := 1) (by decide +kernel)
theorem qX5_unitHolds_X5 : ∀ w ∈ wsX50, w ∈ wsX5_unitHolds := fun _ h => List.mem_cons_of_mem _ (List.mem_append_left _ (List.mem_append_right _ (h)))
theorem kX5_unitHolds_5 : (.fieldLink RX5 15 "RunDesk$Reading" "signs" "[I" : Cond) ∈ wsX5_unitHolds := List.mem_of_getElem? (i := 2) (by decide +kernel)
theorem kX5_unitHolds_6 : (.fieldLink RX5 18 "RunDesk$Reading" "numbers" "[I" : Cond) ∈ wsX5_unitHolds := List.mem_of_getElem? (i := 3) (by decide +kernel)
set_option maxHeartbeats 4000000 in
set_option maxRecDepth 100000 in
theorem mX5_unitHolds (l : Launch) (D : va_G) (cB cI cZ : ClassId) (a_t : Nat) (a_p1 : Nat) (a_t_parts : Nat) (a_t_signs : Nat) (a_t_numbers : Nat) (a_p1_way : Nat) (a_p1_guns : Nat) (a_p1_runners : Nat) (a_p1_runners_facts : Nat) (a_p1_runners_splits : Nat) (a_p1_runners_torn : Nat) (a_p1_runners_dropped : Nat) (a_p1_runners_waved : Nat) (a_p1_runners_struck : Nat) (a_p1_runners_strikingOrder : Nat) (t_laid : Int32) (t_stage : Int32) (t_open : Int32) (t_digits : Int32) (t_order : Int32) (t_prizes : Int32) (t_numbers : Nat → Int32) (t_parts : Nat → Int32) (t_signs : Nat → Int32) (p1_runners_entered : Int32) (p1_runners_strikings : Int32) (p1_runners_facts : Nat → Int32) (sz : Nat) (x2 : Int32) (x3 : Int32) (b0 : Bool) (h : fX5_unitHolds t_numbers t_parts t_signs p1_runners_entered p1_runners_facts x2 x3 = some (b0)) : Met l yX5_unitHolds wsX5_unitHolds ({ frames := 1, cells := 0, slots := 0, locals := 22 } : Room) (va_Pc [.ref a_t, .ref a_p1, .int x2, .int x3] (zPre D (zT cB cI cZ) [(a_t, .inr (5, [.ref a_t_parts, .ref a_t_signs, .ref a_t_numbers, .int t_laid, .int t_stage, .int t_open, .int t_digits, .int t_order, .int t_prizes])), (a_t_numbers, .inl (cI, 200, .inl t_numbers)), (a_t_parts, .inl (cI, 200, .inl t_parts)), (a_t_signs, .inl (cI, 200, .inl t_signs)), (a_p1, .inr (4, [.ref a_p1_way, .ref a_p1_guns, .ref a_p1_runners])), (a_p1_runners, .inr (6, [.ref a_p1_runners_facts, .ref a_p1_runners_splits, .ref a_p1_runners_torn, .ref a_p1_runners_dropped, .ref a_p1_runners_waved, .ref a_p1_runners_struck, .ref a_p1_runners_strikingOrder, .int p1_runners_entered, .int p1_runners_strikings])), (a_p1_runners_facts, .inl (cI, 360, .inl p1_runners_facts))] sz)) (zQi (zb b0) D (zT cB cI cZ) [(a_t, .inr (5, [.ref a_t_parts, .ref a_t_signs, .ref a_t_numbers, .int t_laid, .int t_stage, .int t_open, .int t_digits, .int t_order, .int t_prizes])), (a_t_numbers, .inl (cI, 200, .inl t_numbers)), (a_t_parts, .inl (cI, 200, .inl t_parts)), (a_t_signs, .inl (cI, 200, .inl t_signs)), (a_p1, .inr (4, [.ref a_p1_way, .ref a_p1_guns, .ref a_p1_runners])), (a_p1_runners, .inr (6, [.ref a_p1_runners_facts, .ref a_p1_runners_splits, .ref a_p1_runners_torn, .ref a_p1_runners_dropped, .ref a_p1_runners_waved, .ref a_p1_runners_struck, .ref a_p1_runners_strikingOrder, .int p1_runners_entered, .int p1_runners_strikings])), (a_p1_runners_facts, .inl (cI, 360, .inl p1_runners_facts))] (va_A [(a_t, .inr (5, [.ref a_t_parts, .ref a_t_signs, .ref a_t_numbers, .int t_laid, .int t_stage, .int t_open, .int t_digits, .int t_order, .int t_prizes])), (a_t_numbers, .inl (cI, 200, .inl t_numbers)), (a_t_parts, .inl (cI, 200, .inl t_parts)), (a_t_signs, .inl (cI, 200, .inl t_signs)), (a_p1, .inr (4, [.ref a_p1_way, .ref a_p1_guns, .ref a_p1_runners])), (a_p1_runners, .inr (6, [.ref a_p1_runners_facts, .ref a_p1_runners_splits, .ref a_p1_runners_torn, .ref a_p1_runners_dropped, .ref a_p1_runners_waved, .ref a_p1_runners_struck, .ref a_p1_runners_strikingOrder, .int p1_runners_entered, .int p1_runners_strikings])), (a_p1_runners_facts, .inl (cI, 360, .inl p1_runners_facts))] sz)) 0 0 (va_A [(a_t, .inr (5, [.ref a_t_parts, .ref a_t_signs, .ref a_t_numbers, .int t_laid, .int t_stage, .int t_open, .int t_digits, .int t_order, .int t_prizes])), (a_t_numbers, .inl (cI, 200, .inl t_numbers)), (a_t_parts, .inl (cI, 200, .inl t_parts)), (a_t_signs, .inl (cI, 200, .inl t_signs)), (a_p1, .inr (4, [.ref a_p1_way, .ref a_p1_guns, .ref a_p1_runners])), (a_p1_runners, .inr (6, [.ref a_p1_runners_facts, .ref a_p1_runners_splits, .ref a_p1_runners_torn, .ref a_p1_runners_dropped, .ref a_p1_runners_waved, .ref a_p1_runners_struck, .ref a_p1_runners_strikingOrder, .int p1_runners_entered, .int p1_runners_strikings])), (a_p1_runners_facts, .inl (cI, 360, .inl p1_runners_facts))] sz) := by
  refine Met.ofW (cc := cX5_unitHolds) (maxL := 5) (ret := (some .boolean)) (by decide) rfl ?_
  intro p e s m args below meth c s₁ B hml hv
  obtain ⟨rfl, hsz, hP, hK, hN, hZ, hD0⟩ := hv
  have hx := B.exec
  have hb := B.bytes
  have hr := B.returns
  have hts := atoms_spec (ws := wsX5_unitHolds) B.pre
  have hown : s.vm.findClass RX5 = some m.cls := findClass_of_methodNamed B.named
  have hlocks := B.notSynchronized
  subst hsz
  have hD := hD0.self (sz := s.heap.size)
  generalize hAe : va_A [(a_t, .inr (5, [.ref a_t_parts, .ref a_t_signs, .ref a_t_numbers, .int t_laid, .int t_stage, .int t_open, .int t_digits, .int t_order, .int t_prizes])), (a_t_numbers, .inl (cI, 200, .inl t_numbers)), (a_t_parts, .inl (cI, 200, .inl t_parts)), (a_t_signs, .inl (cI, 200, .inl t_signs)), (a_p1, .inr (4, [.ref a_p1_way, .ref a_p1_guns, .ref a_p1_runners])), (a_p1_runners, .inr (6, [.ref a_p1_runners_facts, .ref a_p1_runners_splits, .ref a_p1_runners_torn, .ref a_p1_runners_dropped, .ref a_p1_runners_waved, .ref a_p1_runners_struck, .ref a_p1_runners_strikingOrder, .int p1_runners_entered, .int p1_runners_strikings])), (a_p1_runners_facts, .inl (cI, 360, .inl p1_runners_facts))] s.heap.size = A at hD hZ ⊢
  have hA : ∀ q : Nat, s.heap.size ≤ q → A q := fun q h => by rw [← hAe]; exact Or.inr h
  have hS : va_S A s.heap s.heap [] := va_S.rf
  have hl := lv_entry ([.ref a_t, .ref a_p1, .int x2, .int x3]) (n := 5) (Nat.le_of_ble_eq_true rfl)
  rw [lg_entry_eq]
  generalize (lg_sl ([.ref a_t, .ref a_p1, .int x2, .int x3]) ++ List.replicate (5 - (lg_sl ([.ref a_t, .ref a_p1, .int x2, .int x3])).length) Slot.unset).toArray = ls at hl ⊢
  have hl : lv_has ls 5 [(0, .ref a_t), (1, .ref a_p1), (2, .int x2), (3, .int x3)] := hl
  unfold fX5_unitHolds at h
  refine lv_iload_n hx hb dX5_unitHolds_0 rfl (lv_at hl 3 rfl) ?_
  refine lv_iconst (v := (nI 0)) hx hb dX5_unitHolds_1 rfl ?_
  refine lv_sipush (v := (nI 199)) hx hb dX5_unitHolds_2 rfl ?_
  obtain ⟨b1, e2, h⟩ := zz_b h
  refine zNi (As := [.int x3, .int (nI 0), .int (nI 199)]) (rest := []) (host := "RunDesk") (wr := [(a_t, .inr (5, [.ref a_t_parts, .ref a_t_signs, .ref a_t_numbers, .int t_laid, .int t_stage, .int t_open, .int t_digits, .int t_order, .int t_prizes])), (a_t_numbers, .inl (cI, 200, .inl t_numbers)), (a_t_parts, .inl (cI, 200, .inl t_parts)), (a_t_signs, .inl (cI, 200, .inl t_signs)), (a_p1, .inr (4, [.ref a_p1_way, .ref a_p1_guns, .ref a_p1_runners])), (a_p1_runners, .inr (6, [.ref a_p1_runners_facts, .ref a_p1_runners_splits, .ref a_p1_runners_torn, .ref a_p1_runners_dropped, .ref a_p1_runners_waved, .ref a_p1_runners_struck, .ref a_p1_runners_strikingOrder, .int p1_runners_entered, .int p1_runners_strikings])), (a_p1_runners_facts, .inl (cI, 360, .inl p1_runners_facts))]) [] [0, 1, 2, 3, 4, 5, 6] ⟨hx, hb, hml, hown, hts⟩ (mX10_within l D cB cI cZ s.heap.size x3 (nI 0) (nI 199) b1 e2) ⟨va_cnB 3 hts gX5_unitHolds_X10_within_n85 rfl rfl rfl (hN _ (List.mem_of_getElem? (i := 33) rfl)) (hts _ kX5_unitHolds_0) (by decide +kernel) ⟨Nat.le_of_ble_eq_true rfl, Nat.le_of_ble_eq_true rfl⟩, (hts _ kX5_unitHolds_1), trivial⟩ hK hN hZ hP hD hS hA rfl rfl rfl rfl rfl rfl hl.1 rfl (lv_room (Nat.le_of_ble_eq_true rfl)) dX5_unitHolds_5 ⟨Nat.le_of_ble_eq_true rfl, Nat.le_of_ble_eq_true rfl⟩ (fun H locs hP hD hS => ?_)
  have hP : va_P D vwCl [(a_t, .inr (5, [.ref a_t_parts, .ref a_t_signs, .ref a_t_numbers, .int t_laid, .int t_stage, .int t_open, .int t_digits, .int t_order, .int t_prizes])), (a_t_numbers, .inl (cI, 200, .inl t_numbers)), (a_t_parts, .inl (cI, 200, .inl t_parts)), (a_t_signs, .inl (cI, 200, .inl t_signs)), (a_p1, .inr (4, [.ref a_p1_way, .ref a_p1_guns, .ref a_p1_runners])), (a_p1_runners, .inr (6, [.ref a_p1_runners_facts, .ref a_p1_runners_splits, .ref a_p1_runners_torn, .ref a_p1_runners_dropped, .ref a_p1_runners_waved, .ref a_p1_runners_struck, .ref a_p1_runners_strikingOrder, .int p1_runners_entered, .int p1_runners_strikings])), (a_p1_runners_facts, .inl (cI, 360, .inl p1_runners_facts))] H := hP
  have hD : va_D A [(a_t, .inr (5, [.ref a_t_parts, .ref a_t_signs, .ref a_t_numbers, .int t_laid, .int t_stage, .int t_open, .int t_digits, .int t_order, .int t_prizes])), (a_t_numbers, .inl (cI, 200, .inl t_numbers)), (a_t_parts, .inl (cI, 200, .inl t_parts)), (a_t_signs, .inl (cI, 200, .inl t_signs)), (a_p1, .inr (4, [.ref a_p1_way, .ref a_p1_guns, .ref a_p1_runners])), (a_p1_runners, .inr (6, [.ref a_p1_runners_facts, .ref a_p1_runners_splits, .ref a_p1_runners_torn, .ref a_p1_runners_dropped, .ref a_p1_runners_waved, .ref a_p1_runners_struck, .ref a_p1_runners_strikingOrder, .int p1_runners_entered, .int p1_runners_strikings])), (a_p1_runners_facts, .inl (cI, 360, .inl p1_runners_facts))] := hD
  refine lv_if_ne (tgt := 13) hx hb dX5_unitHolds_8 (by decide) (fun c3 => ?_) (fun c3 => ?_)
  · have h := zz_f h c3
    refine lv_aload_n hx hb dX5_unitHolds_13 rfl (lv_at hl 1 rfl) ?_
    refine va_getN (host := "RunDesk") (D := D) (ci := 4) (C := RX4) (T := TX4) (N := 3) hx hb hts qX5_unitHolds_X4 hown hK hP 4 rfl rfl 2 (by decide) (va_Nw.use rfl (hN _ (List.mem_of_getElem? (i := 11) rfl))) (fun _ h9 => h9) rfl dX5_unitHolds_14 ?_
    refine lv_iload_n hx hb dX5_unitHolds_17 rfl (lv_at hl 2 rfl) ?_
    refine lv_aload_n hx hb dX5_unitHolds_18 rfl (lv_at hl 0 rfl) ?_
    refine va_get (D := D) (ci := 5) (C := RX5) (T := TX5) (N := 9) hx hb hts qX5_unitHolds_X5 hown hK hP 0 rfl rfl 0 (by decide) (hts _ kX5_unitHolds_3) (fun _ h9 => h9) rfl dX5_unitHolds_19 ?_
    refine lv_iload_n hx hb dX5_unitHolds_22 rfl (lv_at hl 3 rfl) ?_
    obtain ⟨i4, h⟩ := zz_i h
    refine va_iald hx hb hK hP 2 1 rfl rfl i4 dX5_unitHolds_23 ?_
    obtain ⟨r5, e6, h⟩ := zz_b h
    refine zSi (As := [.int (t_parts (x3).toNatClampNeg)]) (rest := [.int x2, .ref a_p1_runners]) (wr := [(a_t, .inr (5, [.ref a_t_parts, .ref a_t_signs, .ref a_t_numbers, .int t_laid, .int t_stage, .int t_open, .int t_digits, .int t_order, .int t_prizes])), (a_t_numbers, .inl (cI, 200, .inl t_numbers)), (a_t_parts, .inl (cI, 200, .inl t_parts)), (a_t_signs, .inl (cI, 200, .inl t_signs)), (a_p1, .inr (4, [.ref a_p1_way, .ref a_p1_guns, .ref a_p1_runners])), (a_p1_runners, .inr (6, [.ref a_p1_runners_facts, .ref a_p1_runners_splits, .ref a_p1_runners_torn, .ref a_p1_runners_dropped, .ref a_p1_runners_waved, .ref a_p1_runners_struck, .ref a_p1_runners_strikingOrder, .int p1_runners_entered, .int p1_runners_strikings])), (a_p1_runners_facts, .inl (cI, 360, .inl p1_runners_facts))]) [] [0, 1, 2, 3, 4, 5, 6] ⟨hx, hb, hml, hown, hts⟩ (mX5_factNamed l D cB cI cZ H.size (t_parts (x3).toNatClampNeg) r5 e6) (va_cwS 1 hts gX5_unitHolds_X5_factNamed rfl rfl rfl (by decide +kernel) ⟨Nat.le_of_ble_eq_true rfl, Nat.le_of_ble_eq_true rfl⟩) hK hN hZ hP hD hS hA rfl rfl rfl rfl rfl rfl hl.1 rfl (lv_room (Nat.le_of_ble_eq_true rfl)) dX5_unitHolds_24 ⟨Nat.le_of_ble_eq_true rfl, Nat.le_of_ble_eq_true rfl⟩ (fun H locs hP hD hS => ?_)
    have hP : va_P D vwCl [(a_t, .inr (5, [.ref a_t_parts, .ref a_t_signs, .ref a_t_numbers, .int t_laid, .int t_stage, .int t_open, .int t_digits, .int t_order, .int t_prizes])), (a_t_numbers, .inl (cI, 200, .inl t_numbers)), (a_t_parts, .inl (cI, 200, .inl t_parts)), (a_t_signs, .inl (cI, 200, .inl t_signs)), (a_p1, .inr (4, [.ref a_p1_way, .ref a_p1_guns, .ref a_p1_runners])), (a_p1_runners, .inr (6, [.ref a_p1_runners_facts, .ref a_p1_runners_splits, .ref a_p1_runners_torn, .ref a_p1_runners_dropped, .ref a_p1_runners_waved, .ref a_p1_runners_struck, .ref a_p1_runners_strikingOrder, .int p1_runners_entered, .int p1_runners_strikings])), (a_p1_runners_facts, .inl (cI, 360, .inl p1_runners_facts))] H := hP
    have hD : va_D A [(a_t, .inr (5, [.ref a_t_parts, .ref a_t_signs, .ref a_t_numbers, .int t_laid, .int t_stage, .int t_open, .int t_digits, .int t_order, .int t_prizes])), (a_t_numbers, .inl (cI, 200, .inl t_numbers)), (a_t_parts, .inl (cI, 200, .inl t_parts)), (a_t_signs, .inl (cI, 200, .inl t_signs)), (a_p1, .inr (4, [.ref a_p1_way, .ref a_p1_guns, .ref a_p1_runners])), (a_p1_runners, .inr (6, [.ref a_p1_runners_facts, .ref a_p1_runners_splits, .ref a_p1_runners_torn, .ref a_p1_runners_dropped, .ref a_p1_runners_waved, .ref a_p1_runners_struck, .ref a_p1_runners_strikingOrder, .int p1_runners_entered, .int p1_runners_strikings])), (a_p1_runners_facts, .inl (cI, 360, .inl p1_runners_facts))] := hD
    obtain ⟨r7, e8, h⟩ := zz_b h
    refine zVi (As := [.int x2, .int r5]) (rest := []) (C := RX6) (wr := [(a_t, .inr (5, [.ref a_t_parts, .ref a_t_signs, .ref a_t_numbers, .int t_laid, .int t_stage, .int t_open, .int t_digits, .int t_order, .int t_prizes])), (a_t_numbers, .inl (cI, 200, .inl t_numbers)), (a_t_parts, .inl (cI, 200, .inl t_parts)), (a_t_signs, .inl (cI, 200, .inl t_signs)), (a_p1, .inr (4, [.ref a_p1_way, .ref a_p1_guns, .ref a_p1_runners]))]) [5, 6] [0, 1, 2, 3, 4] 0 ⟨hx, hb, hml, hown, hts⟩ (mX6_factOf l D cB cI cZ a_p1_runners a_p1_runners_facts a_p1_runners_splits a_p1_runners_torn a_p1_runners_dropped a_p1_runners_waved a_p1_runners_struck a_p1_runners_strikingOrder p1_runners_entered p1_runners_strikings p1_runners_facts H.size x2 r5 r7 e8) (cwV 2 hts gX5_unitHolds_X6_factOf rfl rfl rfl (by decide +kernel) ⟨Nat.le_of_ble_eq_true rfl, Nat.le_of_ble_eq_true rfl⟩) hK hN hZ hP hD hS hA rfl rfl rfl rfl rfl rfl rfl rfl hl.1 rfl (lv_room (Nat.le_of_ble_eq_true rfl)) dX5_unitHolds_27 ⟨Nat.le_of_ble_eq_true rfl, Nat.le_of_ble_eq_true rfl⟩ (fun H locs hP hD hS => ?_)
    have hP : va_P D vwCl [(a_t, .inr (5, [.ref a_t_parts, .ref a_t_signs, .ref a_t_numbers, .int t_laid, .int t_stage, .int t_open, .int t_digits, .int t_order, .int t_prizes])), (a_t_numbers, .inl (cI, 200, .inl t_numbers)), (a_t_parts, .inl (cI, 200, .inl t_parts)), (a_t_signs, .inl (cI, 200, .inl t_signs)), (a_p1, .inr (4, [.ref a_p1_way, .ref a_p1_guns, .ref a_p1_runners])), (a_p1_runners, .inr (6, [.ref a_p1_runners_facts, .ref a_p1_runners_splits, .ref a_p1_runners_torn, .ref a_p1_runners_dropped, .ref a_p1_runners_waved, .ref a_p1_runners_struck, .ref a_p1_runners_strikingOrder, .int p1_runners_entered, .int p1_runners_strikings])), (a_p1_runners_facts, .inl (cI, 360, .inl p1_runners_facts))] H := hP
    have hD : va_D A [(a_t, .inr (5, [.ref a_t_parts, .ref a_t_signs, .ref a_t_numbers, .int t_laid, .int t_stage, .int t_open, .int t_digits, .int t_order, .int t_prizes])), (a_t_numbers, .inl (cI, 200, .inl t_numbers)), (a_t_parts, .inl (cI, 200, .inl t_parts)), (a_t_signs, .inl (cI, 200, .inl t_signs)), (a_p1, .inr (4, [.ref a_p1_way, .ref a_p1_guns, .ref a_p1_runners])), (a_p1_runners, .inr (6, [.ref a_p1_runners_facts, .ref a_p1_runners_splits, .ref a_p1_runners_torn, .ref a_p1_runners_dropped, .ref a_p1_runners_waved, .ref a_p1_runners_struck, .ref a_p1_runners_strikingOrder, .int p1_runners_entered, .int p1_runners_strikings])), (a_p1_runners_facts, .inl (cI, 360, .inl p1_runners_facts))] := hD
    refine lv_istore (lv' := [(4, .int r7), (0, .ref a_t), (1, .ref a_p1), (2, .int x2), (3, .int x3)]) hx hb dX5_unitHolds_30 hl (by decide) rfl (fun ls hl => ?_)
    refine lv_aload_n hx hb dX5_unitHolds_32 rfl (lv_at hl 1 rfl) ?_
    refine va_get (D := D) (ci := 5) (C := RX5) (T := TX5) (N := 9) hx hb hts qX5_unitHolds_X5 hown hK hP 0 rfl rfl 1 (by decide) (hts _ kX5_unitHolds_5) (fun _ h9 => h9) rfl dX5_unitHolds_33 ?_
    refine lv_iload_n hx hb dX5_unitHolds_36 rfl (lv_at hl 4 rfl) ?_
    obtain ⟨i9, h⟩ := zz_i h
    refine va_iald hx hb hK hP 3 1 rfl rfl i9 dX5_unitHolds_37 ?_
    by_cases c10 : (t_signs (x3).toNatClampNeg) = (nI 60)
    · have h := zz_t h c10
      refine lv_lookup (off := 26) (tgt := 64) hx hb dX5_unitHolds_38 (by decide) (by rw [c10]; decide) (by decide) ?_
      refine lv_iload hx hb dX5_unitHolds_64 (lv_at hl 0 rfl) ?_
      refine lv_aload_n hx hb dX5_unitHolds_66 rfl (lv_at hl 1 rfl) ?_
      refine va_get (D := D) (ci := 5) (C := RX5) (T := TX5) (N := 9) hx hb hts qX5_unitHolds_X5 hown hK hP 0 rfl rfl 2 (by decide) (hts _ kX5_unitHolds_6) (fun _ h9 => h9) rfl dX5_unitHolds_67 ?_
      refine lv_iload_n hx hb dX5_unitHolds_70 rfl (lv_at hl 4 rfl) ?_
      obtain ⟨i11, h⟩ := zz_i h
      refine va_iald hx hb hK hP 1 1 rfl rfl i11 dX5_unitHolds_71 ?_
      refine lv_icmp_ge (tgt := 79) hx hb dX5_unitHolds_72 (by decide) (fun c12 => ?_) (fun c12 => ?_)
      · have h := zz_t h c12
        refine lv_iconst (v := (nI 0)) hx hb dX5_unitHolds_79 rfl ?_
        have j0_ := Option.some.inj h
        subst j0_
        exact W.zret (v := (nI 0)) hx hb hr rfl (fun t ht hW => ⟨⟨_, (), rfl, rfl, zPost.of hP hD hK ht hW [0, 1, 2, 3, 4, 5, 6] rfl rfl rfl⟩, hS.F ht⟩) hS.2.2 dX5_unitHolds_80
      · have h := zz_f h c12
        refine lv_iconst (v := (nI 1)) hx hb dX5_unitHolds_75 rfl ?_
        refine lv_goto (tgt := 80) hx hb dX5_unitHolds_76 (by decide) ?_
        have j0_ := Option.some.inj h
        subst j0_
        exact W.zret (v := (nI 1)) hx hb hr rfl (fun t ht hW => ⟨⟨_, (), rfl, rfl, zPost.of hP hD hK ht hW [0, 1, 2, 3, 4, 5, 6] rfl rfl rfl⟩, hS.F ht⟩) hS.2.2 dX5_unitHolds_80
    · have h := zz_f h c10
      by_cases c13 : (t_signs (x3).toNatClampNeg) = (nI 62)
      · have h := zz_t h c13
        refine lv_lookup (off := 43) (tgt := 81) hx hb dX5_unitHolds_38 (by decide) (by rw [c13]; decide) (by decide) ?_
        refine lv_iload hx hb dX5_unitHolds_81 (lv_at hl 0 rfl) ?_
        refine lv_aload_n hx hb dX5_unitHolds_83 rfl (lv_at hl 1 rfl) ?_
        refine va_get (D := D) (ci := 5) (C := RX5) (T := TX5) (N := 9) hx hb hts qX5_unitHolds_X5 hown hK hP 0 rfl rfl 2 (by decide) (hts _ kX5_unitHolds_6) (fun _ h9 => h9) rfl dX5_unitHolds_84 ?_
        refine lv_iload_n hx hb dX5_unitHolds_87 rfl (lv_at hl 4 rfl) ?_
        obtain ⟨i14, h⟩ := zz_i h
        refine va_iald hx hb hK hP 1 1 rfl rfl i14 dX5_unitHolds_88 ?_
        refine lv_icmp_le (tgt := 96) hx hb dX5_unitHolds_89 (by decide) (fun c15 => ?_) (fun c15 => ?_)
        · have h := zz_t h c15
          refine lv_iconst (v := (nI 0)) hx hb dX5_unitHolds_96 rfl ?_
          have j0_ := Option.some.inj h
          subst j0_
          exact W.zret (v := (nI 0)) hx hb hr rfl (fun t ht hW => ⟨⟨_, (), rfl, rfl, zPost.of hP hD hK ht hW [0, 1, 2, 3, 4, 5, 6] rfl rfl rfl⟩, hS.F ht⟩) hS.2.2 dX5_unitHolds_97
        · have h := zz_f h c15
          refine lv_iconst (v := (nI 1)) hx hb dX5_unitHolds_92 rfl ?_
          refine lv_goto (tgt := 97) hx hb dX5_unitHolds_93 (by decide) ?_
          have j0_ := Option.some.inj h
          subst j0_
          exact W.zret (v := (nI 1)) hx hb hr rfl (fun t ht hW => ⟨⟨_, (), rfl, rfl, zPost.of hP hD hK ht hW [0, 1, 2, 3, 4, 5, 6] rfl rfl rfl⟩, hS.F ht⟩) hS.2.2 dX5_unitHolds_97
      · have h := zz_f h c13
        refine lv_lookup (off := 60) (tgt := 98) hx hb dX5_unitHolds_38 (by decide) ((lv_osw c10 (by decide)).trans ((lv_osw c13 (by decide)).trans rfl)) (by decide) ?_
        refine lv_iload hx hb dX5_unitHolds_98 (lv_at hl 0 rfl) ?_
        refine lv_aload_n hx hb dX5_unitHolds_100 rfl (lv_at hl 1 rfl) ?_
        refine va_get (D := D) (ci := 5) (C := RX5) (T := TX5) (N := 9) hx hb hts qX5_unitHolds_X5 hown hK hP 0 rfl rfl 2 (by decide) (hts _ kX5_unitHolds_6) (fun _ h9 => h9) rfl dX5_unitHolds_101 ?_
        refine lv_iload_n hx hb dX5_unitHolds_104 rfl (lv_at hl 4 rfl) ?_
        obtain ⟨i16, h⟩ := zz_i h
        refine va_iald hx hb hK hP 1 1 rfl rfl i16 dX5_unitHolds_105 ?_
        refine lv_icmp_ne (tgt := 113) hx hb dX5_unitHolds_106 (by decide) (fun c17 => ?_) (fun c17 => ?_)
        · have h := zz_f h c17
          refine lv_iconst (v := (nI 0)) hx hb dX5_unitHolds_113 rfl ?_
          have j0_ := Option.some.inj h
          subst j0_
          exact W.zret (v := (nI 0)) hx hb hr rfl (fun t ht hW => ⟨⟨_, (), rfl, rfl, zPost.of hP hD hK ht hW [0, 1, 2, 3, 4, 5, 6] rfl rfl rfl⟩, hS.F ht⟩) hS.2.2 dX5_unitHolds_114
        · have h := zz_t h c17
          refine lv_iconst (v := (nI 1)) hx hb dX5_unitHolds_109 rfl ?_
          refine lv_goto (tgt := 114) hx hb dX5_unitHolds_110 (by decide) ?_
          have j0_ := Option.some.inj h
          subst j0_
          exact W.zret (v := (nI 1)) hx hb hr rfl (fun t ht hW => ⟨⟨_, (), rfl, rfl, zPost.of hP hD hK ht hW [0, 1, 2, 3, 4, 5, 6] rfl rfl rfl⟩, hS.F ht⟩) hS.2.2 dX5_unitHolds_114
  · have h := zz_t h c3
    refine lv_iconst (v := (nI 0)) hx hb dX5_unitHolds_11 rfl ?_
    have j0_ := Option.some.inj h
    subst j0_
    exact W.zret (v := (nI 0)) hx hb hr rfl (fun t ht hW => ⟨⟨_, (), rfl, rfl, zPost.of hP hD hK ht hW [0, 1, 2, 3, 4, 5, 6] rfl rfl rfl⟩, hS.F ht⟩) hS.2.2 dX5_unitHolds_12
/-! RunDesk$Reading.holdsFor -/
theorem dX5_holdsFor_0 : decode cX5_holdsFor 0 = .ok (.iconst 1, 1) := by decide +kernel
theorem dX5_holdsFor_1 : decode cX5_holdsFor 1 = .ok (.istore_n 3, 1) := by decide +kernel
theorem dX5_holdsFor_2 : decode cX5_holdsFor 2 = .ok (.iconst 0, 1) := by decide +kernel
theorem dX5_holdsFor_3 : decode cX5_holdsFor 3 = .ok (.istore 4, 2) := by decide +kernel
theorem dX5_holdsFor_5 : decode cX5_holdsFor 5 = .ok (.iconst 0, 1) := by decide +kernel
theorem dX5_holdsFor_6 : decode cX5_holdsFor 6 = .ok (.istore 5, 2) := by decide +kernel
theorem dX5_holdsFor_8 : decode cX5_holdsFor 8 = .ok (.iconst 0, 1) := by decide +kernel
theorem dX5_holdsFor_9 : decode cX5_holdsFor 9 = .ok (.istore 6, 2) := by decide +kernel
theorem dX5_holdsFor_11 : decode cX5_holdsFor 11 = .ok (.iload 6, 2) := by decide +kernel
theorem dX5_holdsFor_13 : decode cX5_holdsFor 13 = .ok (.aload_n 0, 1) := by decide +kernel
theorem dX5_holdsFor_14 : decode cX5_holdsFor 14 = .ok (.getfield 21, 3) := by decide +kernel
theorem dX5_holdsFor_17 : decode cX5_holdsFor 17 = .ok (.if_icmp .ge 156, 3) := by decide +kernel
theorem dX5_holdsFor_20 : decode cX5_holdsFor 20 = .ok (.iload 6, 2) := by decide +kernel
theorem dX5_holdsFor_22 : decode cX5_holdsFor 22 = .ok (.sipush 200, 3) := by decide +kernel
theorem dX5_holdsFor_25 : decode cX5_holdsFor 25 = .ok (.if_icmp .ge 148, 3) := by decide +kernel
theorem dX5_holdsFor_28 : decode cX5_holdsFor 28 = .ok (.aload_n 0, 1) := by decide +kernel
theorem dX5_holdsFor_29 : decode cX5_holdsFor 29 = .ok (.getfield 9, 3) := by decide +kernel
theorem dX5_holdsFor_32 : decode cX5_holdsFor 32 = .ok (.iload 6, 2) := by decide +kernel
theorem dX5_holdsFor_34 : decode cX5_holdsFor 34 = .ok (.iaload, 1) := by decide +kernel
theorem dX5_holdsFor_35 : decode cX5_holdsFor 35 = .ok (.bipush 40, 2) := by decide +kernel
theorem dX5_holdsFor_37 : decode cX5_holdsFor 37 = .ok (.if_icmp .ne 26, 3) := by decide +kernel
theorem dX5_holdsFor_40 : decode cX5_holdsFor 40 = .ok (.iload_n 3, 1) := by decide +kernel
theorem dX5_holdsFor_41 : decode cX5_holdsFor 41 = .ok (.iconst 1, 1) := by decide +kernel
theorem dX5_holdsFor_42 : decode cX5_holdsFor 42 = .ok (.ishl, 1) := by decide +kernel
theorem dX5_holdsFor_43 : decode cX5_holdsFor 43 = .ok (.istore_n 3, 1) := by decide +kernel
theorem dX5_holdsFor_44 : decode cX5_holdsFor 44 = .ok (.iload 4, 2) := by decide +kernel
theorem dX5_holdsFor_46 : decode cX5_holdsFor 46 = .ok (.iload_n 3, 1) := by decide +kernel
theorem dX5_holdsFor_47 : decode cX5_holdsFor 47 = .ok (.iconst (-1), 1) := by decide +kernel
theorem dX5_holdsFor_48 : decode cX5_holdsFor 48 = .ok (.ixor, 1) := by decide +kernel
theorem dX5_holdsFor_49 : decode cX5_holdsFor 49 = .ok (.iand, 1) := by decide +kernel
theorem dX5_holdsFor_50 : decode cX5_holdsFor 50 = .ok (.istore 4, 2) := by decide +kernel
theorem dX5_holdsFor_52 : decode cX5_holdsFor 52 = .ok (.iload 5, 2) := by decide +kernel
theorem dX5_holdsFor_54 : decode cX5_holdsFor 54 = .ok (.iload_n 3, 1) := by decide +kernel
theorem dX5_holdsFor_55 : decode cX5_holdsFor 55 = .ok (.iconst (-1), 1) := by decide +kernel
theorem dX5_holdsFor_56 : decode cX5_holdsFor 56 = .ok (.ixor, 1) := by decide +kernel
theorem dX5_holdsFor_57 : decode cX5_holdsFor 57 = .ok (.iand, 1) := by decide +kernel
theorem dX5_holdsFor_58 : decode cX5_holdsFor 58 = .ok (.istore 5, 2) := by decide +kernel
theorem dX5_holdsFor_60 : decode cX5_holdsFor 60 = .ok (.goto 107, 3) := by decide +kernel
theorem dX5_holdsFor_63 : decode cX5_holdsFor 63 = .ok (.aload_n 0, 1) := by decide +kernel
theorem dX5_holdsFor_64 : decode cX5_holdsFor 64 = .ok (.getfield 9, 3) := by decide +kernel
theorem dX5_holdsFor_67 : decode cX5_holdsFor 67 = .ok (.iload 6, 2) := by decide +kernel
theorem dX5_holdsFor_69 : decode cX5_holdsFor 69 = .ok (.iaload, 1) := by decide +kernel
theorem dX5_holdsFor_70 : decode cX5_holdsFor 70 = .ok (.bipush 124, 2) := by decide +kernel
theorem dX5_holdsFor_72 : decode cX5_holdsFor 72 = .ok (.if_icmp .ne 25, 3) := by decide +kernel
theorem dX5_holdsFor_75 : decode cX5_holdsFor 75 = .ok (.iload 5, 2) := by decide +kernel
theorem dX5_holdsFor_77 : decode cX5_holdsFor 77 = .ok (.iload_n 3, 1) := by decide +kernel
theorem dX5_holdsFor_78 : decode cX5_holdsFor 78 = .ok (.iload 4, 2) := by decide +kernel
theorem dX5_holdsFor_80 : decode cX5_holdsFor 80 = .ok (.iconst (-1), 1) := by decide +kernel
theorem dX5_holdsFor_81 : decode cX5_holdsFor 81 = .ok (.ixor, 1) := by decide +kernel
theorem dX5_holdsFor_82 : decode cX5_holdsFor 82 = .ok (.iand, 1) := by decide +kernel
theorem dX5_holdsFor_83 : decode cX5_holdsFor 83 = .ok (.ior, 1) := by decide +kernel
theorem dX5_holdsFor_84 : decode cX5_holdsFor 84 = .ok (.istore 5, 2) := by decide +kernel
theorem dX5_holdsFor_86 : decode cX5_holdsFor 86 = .ok (.iload 4, 2) := by decide +kernel
theorem dX5_holdsFor_88 : decode cX5_holdsFor 88 = .ok (.iload_n 3, 1) := by decide +kernel
theorem dX5_holdsFor_89 : decode cX5_holdsFor 89 = .ok (.iconst (-1), 1) := by decide +kernel
theorem dX5_holdsFor_90 : decode cX5_holdsFor 90 = .ok (.ixor, 1) := by decide +kernel
theorem dX5_holdsFor_91 : decode cX5_holdsFor 91 = .ok (.iand, 1) := by decide +kernel
theorem dX5_holdsFor_92 : decode cX5_holdsFor 92 = .ok (.istore 4, 2) := by decide +kernel
theorem dX5_holdsFor_94 : decode cX5_holdsFor 94 = .ok (.goto 73, 3) := by decide +kernel
theorem dX5_holdsFor_97 : decode cX5_holdsFor 97 = .ok (.aload_n 0, 1) := by decide +kernel
theorem dX5_holdsFor_98 : decode cX5_holdsFor 98 = .ok (.getfield 9, 3) := by decide +kernel
theorem dX5_holdsFor_101 : decode cX5_holdsFor 101 = .ok (.iload 6, 2) := by decide +kernel
theorem dX5_holdsFor_103 : decode cX5_holdsFor 103 = .ok (.iaload, 1) := by decide +kernel
theorem dX5_holdsFor_104 : decode cX5_holdsFor 104 = .ok (.bipush 41, 2) := by decide +kernel
theorem dX5_holdsFor_106 : decode cX5_holdsFor 106 = .ok (.if_icmp .ne 44, 3) := by decide +kernel
theorem dX5_holdsFor_109 : decode cX5_holdsFor 109 = .ok (.iload_n 3, 1) := by decide +kernel
theorem dX5_holdsFor_110 : decode cX5_holdsFor 110 = .ok (.iload 5, 2) := by decide +kernel
theorem dX5_holdsFor_112 : decode cX5_holdsFor 112 = .ok (.iload 4, 2) := by decide +kernel
theorem dX5_holdsFor_114 : decode cX5_holdsFor 114 = .ok (.iconst (-1), 1) := by decide +kernel
theorem dX5_holdsFor_115 : decode cX5_holdsFor 115 = .ok (.ixor, 1) := by decide +kernel
theorem dX5_holdsFor_116 : decode cX5_holdsFor 116 = .ok (.ior, 1) := by decide +kernel
theorem dX5_holdsFor_117 : decode cX5_holdsFor 117 = .ok (.iand, 1) := by decide +kernel
theorem dX5_holdsFor_118 : decode cX5_holdsFor 118 = .ok (.ifCond .eq 7, 3) := by decide +kernel
theorem dX5_holdsFor_121 : decode cX5_holdsFor 121 = .ok (.iconst 1, 1) := by decide +kernel
theorem dX5_holdsFor_122 : decode cX5_holdsFor 122 = .ok (.goto 4, 3) := by decide +kernel
theorem dX5_holdsFor_125 : decode cX5_holdsFor 125 = .ok (.iconst 0, 1) := by decide +kernel
theorem dX5_holdsFor_126 : decode cX5_holdsFor 126 = .ok (.istore 7, 2) := by decide +kernel
theorem dX5_holdsFor_128 : decode cX5_holdsFor 128 = .ok (.iload_n 3, 1) := by decide +kernel
theorem dX5_holdsFor_129 : decode cX5_holdsFor 129 = .ok (.iconst 1, 1) := by decide +kernel
theorem dX5_holdsFor_130 : decode cX5_holdsFor 130 = .ok (.ishr, 1) := by decide +kernel
theorem dX5_holdsFor_131 : decode cX5_holdsFor 131 = .ok (.istore_n 3, 1) := by decide +kernel
theorem dX5_holdsFor_132 : decode cX5_holdsFor 132 = .ok (.iload 4, 2) := by decide +kernel
theorem dX5_holdsFor_134 : decode cX5_holdsFor 134 = .ok (.iload 7, 2) := by decide +kernel
theorem dX5_holdsFor_136 : decode cX5_holdsFor 136 = .ok (.ifCond .eq 7, 3) := by decide +kernel
theorem dX5_holdsFor_139 : decode cX5_holdsFor 139 = .ok (.iconst 0, 1) := by decide +kernel
theorem dX5_holdsFor_140 : decode cX5_holdsFor 140 = .ok (.goto 4, 3) := by decide +kernel
theorem dX5_holdsFor_143 : decode cX5_holdsFor 143 = .ok (.iload_n 3, 1) := by decide +kernel
theorem dX5_holdsFor_144 : decode cX5_holdsFor 144 = .ok (.ior, 1) := by decide +kernel
theorem dX5_holdsFor_145 : decode cX5_holdsFor 145 = .ok (.istore 4, 2) := by decide +kernel
theorem dX5_holdsFor_147 : decode cX5_holdsFor 147 = .ok (.goto 20, 3) := by decide +kernel
theorem dX5_holdsFor_150 : decode cX5_holdsFor 150 = .ok (.aload_n 0, 1) := by decide +kernel
theorem dX5_holdsFor_151 : decode cX5_holdsFor 151 = .ok (.aload_n 1, 1) := by decide +kernel
theorem dX5_holdsFor_152 : decode cX5_holdsFor 152 = .ok (.iload_n 2, 1) := by decide +kernel
theorem dX5_holdsFor_153 : decode cX5_holdsFor 153 = .ok (.iload 6, 2) := by decide +kernel
theorem dX5_holdsFor_155 : decode cX5_holdsFor 155 = .ok (.invokevirtual 89, 3) := by decide +kernel
theorem dX5_holdsFor_158 : decode cX5_holdsFor 158 = .ok (.ifCond .ne 9, 3) := by decide +kernel
theorem dX5_holdsFor_161 : decode cX5_holdsFor 161 = .ok (.iload 4, 2) := by decide +kernel
theorem dX5_holdsFor_163 : decode cX5_holdsFor 163 = .ok (.iload_n 3, 1) := by decide +kernel
theorem dX5_holdsFor_164 : decode cX5_holdsFor 164 = .ok (.ior, 1) := by decide +kernel
theorem dX5_holdsFor_165 : decode cX5_holdsFor 165 = .ok (.istore 4, 2) := by decide +kernel
theorem dX5_holdsFor_167 : decode cX5_holdsFor 167 = .ok (.iinc 6 1, 3) := by decide +kernel
theorem dX5_holdsFor_170 : decode cX5_holdsFor 170 = .ok (.goto (-159), 3) := by decide +kernel
theorem dX5_holdsFor_173 : decode cX5_holdsFor 173 = .ok (.iload_n 3, 1) := by decide +kernel
theorem dX5_holdsFor_174 : decode cX5_holdsFor 174 = .ok (.iload 5, 2) := by decide +kernel
theorem dX5_holdsFor_176 : decode cX5_holdsFor 176 = .ok (.iload 4, 2) := by decide +kernel
theorem dX5_holdsFor_178 : decode cX5_holdsFor 178 = .ok (.iconst (-1), 1) := by decide +kernel
theorem dX5_holdsFor_179 : decode cX5_holdsFor 179 = .ok (.ixor, 1) := by decide +kernel
theorem dX5_holdsFor_180 : decode cX5_holdsFor 180 = .ok (.ior, 1) := by decide +kernel
theorem dX5_holdsFor_181 : decode cX5_holdsFor 181 = .ok (.iand, 1) := by decide +kernel
theorem dX5_holdsFor_182 : decode cX5_holdsFor 182 = .ok (.ifCond .eq 7, 3) := by decide +kernel
theorem dX5_holdsFor_185 : decode cX5_holdsFor 185 = .ok (.iconst 1, 1) := by decide +kernel
theorem dX5_holdsFor_186 : decode cX5_holdsFor 186 = .ok (.goto 4, 3) := by decide +kernel
theorem dX5_holdsFor_189 : decode cX5_holdsFor 189 = .ok (.iconst 0, 1) := by decide +kernel
theorem dX5_holdsFor_190 : decode cX5_holdsFor 190 = .ok (.ireturn, 1) := by decide +kernel
set_option maxRecDepth 20000 in
theorem ggX5_holdsFor_X5_unitHolds : GoodIn wsX5_holdsFor wsX5_unitHolds := goodIn_sub (List.forall_mem_cons.mpr ⟨List.mem_cons_of_mem _ (List.mem_append_left _ (List.mem_append_left _ (List.mem_append_left _ (List.mem_of_getElem? (i := 6) rfl)))), (List.forall_mem_append.mpr ⟨(List.forall_mem_append.mpr ⟨(List.forall_mem_append.mpr ⟨(List.forall_mem_cons.mpr ⟨List.mem_cons_of_mem _ (List.mem_append_left _ (List.mem_append_left _ (List.mem_append_left _ (List.mem_of_getElem? (i := 1) rfl)))), (List.forall_mem_cons.mpr ⟨List.mem_cons_of_mem _ (List.mem_append_left _ (List.mem_append_left _ (List.mem_append_left _ (List.mem_of_getElem? (i := 7) rfl)))), (List.forall_mem_cons.mpr ⟨List.mem_cons_of_mem _ (List.mem_append_left _ (List.mem_append_left _ (List.mem_append_left _ (List.mem_of_getElem? (i := 8) rfl)))), (List.forall_mem_cons.mpr ⟨List.mem_cons_of_mem _ (List.mem_append_left _ (List.mem_append_left _ (List.mem_append_left _ (List.mem_of_getElem? (i := 9) rfl)))), (List.forall_mem_cons.mpr ⟨List.mem_cons_of_mem _ (List.mem_append_left _ (List.mem_append_left _ (List.mem_append_left _ (List.mem_of_getElem? (i := 10) rfl)))), (List.forall_mem_cons.mpr ⟨List.mem_cons_of_mem _ (List.mem_append_left _ (List.mem_append_left _ (List.mem_append_left _ (List.mem_of_getElem? (i := 11) rfl)))), (List.forall_mem_cons.mpr ⟨List.mem_cons_of_mem _ (List.mem_append_left _ (List.mem_append_left _ (List.mem_append_left _ (List.mem_of_getElem? (i := 12) rfl)))), (List.forall_mem_cons.mpr ⟨List.mem_cons_of_mem _ (List.mem_append_left _ (List.mem_append_left _ (List.mem_append_left _ (List.mem_of_getElem? (i := 13) rfl)))), (List.forall_mem_cons.mpr ⟨List.mem_cons_of_mem _ (List.mem_append_left _ (List.mem_append_left _ (List.mem_append_left _ (List.mem_of_getElem? (i := 5) rfl)))), (List.forall_mem_cons.mpr ⟨List.mem_cons_of_mem _ (List.mem_append_left _ (List.mem_append_left _ (List.mem_append_left _ (List.mem_of_getElem? (i := 14) rfl)))), (List.forall_mem_cons.mpr ⟨List.mem_cons_of_mem _ (List.mem_append_left _ (List.mem_append_left _ (List.mem_append_left _ (List.mem_of_getElem? (i := 15) rfl)))), (List.forall_mem_cons.mpr ⟨List.mem_cons_of_mem _ (List.mem_append_left _ (List.mem_append_left _ (List.mem_append_left _ (List.mem_of_getElem? (i := 16) rfl)))), (List.forall_mem_cons.mpr ⟨List.mem_cons_of_mem _ (List.mem_append_left _ (List.mem_append_left _ (List.mem_append_left _ (List.mem_of_getElem? (i := 17) rfl)))), (List.forall_mem_cons.mpr ⟨List.mem_cons_of_mem _ (List.mem_append_left _ (List.mem_append_left _ (List.mem_append_left _ (List.mem_of_getElem? (i := 18) rfl)))), (List.forall_mem_cons.mpr ⟨List.mem_cons_of_mem _ (List.mem_append_left _ (List.mem_append_left _ (List.mem_append_left _ (List.mem_of_getElem? (i := 19) rfl)))), (List.forall_mem_cons.mpr ⟨List.mem_cons_of_mem _ (List.mem_append_left _ (List.mem_append_left _ (List.mem_append_left _ (List.mem_of_getElem? (i := 20) rfl)))), (List.forall_mem_cons.mpr ⟨List.mem_cons_of_mem _ (List.mem_append_left _ (List.mem_append_left _ (List.mem_append_left _ (List.mem_of_getElem? (i := 21) rfl)))), (fun _ h => nomatch h)⟩)⟩)⟩)⟩)⟩)⟩)⟩)⟩)⟩)⟩)⟩)⟩)⟩)⟩)⟩)⟩)⟩), (fun _ h => List.mem_cons_of_mem _ (List.mem_append_left _ (List.mem_append_right _ (h))))⟩), (fun _ h => List.mem_cons_of_mem _ (List.mem_append_left _ (List.mem_append_left _ (List.mem_append_right _ (h)))))⟩), (fun _ h => List.mem_cons_of_mem _ (List.mem_append_right _ (h)))⟩)⟩) (by decide +kernel)
set_option maxRecDepth 20000 in
theorem gX5_holdsFor_X5_unitHolds : GoodIn wsX5_holdsFor (wsV RX5 89 RX5 yX5_unitHolds wsX5_unitHolds) := goodIn_app (goodIn_of _ (by decide +kernel)) ggX5_holdsFor_X5_unitHolds
theorem kX5_holdsFor_0 : (.fieldLink RX5 21 "RunDesk$Reading" "laid" "I" : Cond) ∈ wsX5_holdsFor := List.mem_of_getElem? (i := 1) (by decide +kernel)
theorem qX5_holdsFor_X5 : ∀ w ∈ wsX50, w ∈ wsX5_holdsFor := fun _ h => List.mem_cons_of_mem _ (List.mem_append_left _ (List.mem_append_left _ (List.mem_append_right _ (h))))
theorem kX5_holdsFor_2 : (.fieldLink RX5 9 "RunDesk$Reading" "parts" "[I" : Cond) ∈ wsX5_holdsFor := List.mem_of_getElem? (i := 2) (by decide +kernel)
set_option maxHeartbeats 4000000 in
set_option maxRecDepth 100000 in
theorem mX5_holdsFor (l : Launch) (D : va_G) (cB cI cZ : ClassId) (a_t : Nat) (a_p1 : Nat) (a_t_parts : Nat) (a_t_signs : Nat) (a_t_numbers : Nat) (a_p1_way : Nat) (a_p1_guns : Nat) (a_p1_runners : Nat) (a_p1_runners_facts : Nat) (a_p1_runners_splits : Nat) (a_p1_runners_torn : Nat) (a_p1_runners_dropped : Nat) (a_p1_runners_waved : Nat) (a_p1_runners_struck : Nat) (a_p1_runners_strikingOrder : Nat) (t_laid : Int32) (t_stage : Int32) (t_open : Int32) (t_digits : Int32) (t_order : Int32) (t_prizes : Int32) (t_numbers : Nat → Int32) (t_parts : Nat → Int32) (t_signs : Nat → Int32) (p1_runners_entered : Int32) (p1_runners_strikings : Int32) (p1_runners_facts : Nat → Int32) (sz : Nat) (x2 : Int32) (N : Nat) (b0 : Bool) (h : fX5_holdsFor N t_laid t_numbers t_parts t_signs p1_runners_entered p1_runners_facts x2 = some (b0)) : Met l yX5_holdsFor wsX5_holdsFor ({ frames := 2, cells := 0, slots := 0, locals := 46 } : Room) (va_Pc [.ref a_t, .ref a_p1, .int x2] (zPre D (zT cB cI cZ) [(a_t, .inr (5, [.ref a_t_parts, .ref a_t_signs, .ref a_t_numbers, .int t_laid, .int t_stage, .int t_open, .int t_digits, .int t_order, .int t_prizes])), (a_t_numbers, .inl (cI, 200, .inl t_numbers)), (a_t_parts, .inl (cI, 200, .inl t_parts)), (a_t_signs, .inl (cI, 200, .inl t_signs)), (a_p1, .inr (4, [.ref a_p1_way, .ref a_p1_guns, .ref a_p1_runners])), (a_p1_runners, .inr (6, [.ref a_p1_runners_facts, .ref a_p1_runners_splits, .ref a_p1_runners_torn, .ref a_p1_runners_dropped, .ref a_p1_runners_waved, .ref a_p1_runners_struck, .ref a_p1_runners_strikingOrder, .int p1_runners_entered, .int p1_runners_strikings])), (a_p1_runners_facts, .inl (cI, 360, .inl p1_runners_facts))] sz)) (zQi (zb b0) D (zT cB cI cZ) [(a_t, .inr (5, [.ref a_t_parts, .ref a_t_signs, .ref a_t_numbers, .int t_laid, .int t_stage, .int t_open, .int t_digits, .int t_order, .int t_prizes])), (a_t_numbers, .inl (cI, 200, .inl t_numbers)), (a_t_parts, .inl (cI, 200, .inl t_parts)), (a_t_signs, .inl (cI, 200, .inl t_signs)), (a_p1, .inr (4, [.ref a_p1_way, .ref a_p1_guns, .ref a_p1_runners])), (a_p1_runners, .inr (6, [.ref a_p1_runners_facts, .ref a_p1_runners_splits, .ref a_p1_runners_torn, .ref a_p1_runners_dropped, .ref a_p1_runners_waved, .ref a_p1_runners_struck, .ref a_p1_runners_strikingOrder, .int p1_runners_entered, .int p1_runners_strikings])), (a_p1_runners_facts, .inl (cI, 360, .inl p1_runners_facts))] (va_A [(a_t, .inr (5, [.ref a_t_parts, .ref a_t_signs, .ref a_t_numbers, .int t_laid, .int t_stage, .int t_open, .int t_digits, .int t_order, .int t_prizes])), (a_t_numbers, .inl (cI, 200, .inl t_numbers)), (a_t_parts, .inl (cI, 200, .inl t_parts)), (a_t_signs, .inl (cI, 200, .inl t_signs)), (a_p1, .inr (4, [.ref a_p1_way, .ref a_p1_guns, .ref a_p1_runners])), (a_p1_runners, .inr (6, [.ref a_p1_runners_facts, .ref a_p1_runners_splits, .ref a_p1_runners_torn, .ref a_p1_runners_dropped, .ref a_p1_runners_waved, .ref a_p1_runners_struck, .ref a_p1_runners_strikingOrder, .int p1_runners_entered, .int p1_runners_strikings])), (a_p1_runners_facts, .inl (cI, 360, .inl p1_runners_facts))] sz)) 0 0 (va_A [(a_t, .inr (5, [.ref a_t_parts, .ref a_t_signs, .ref a_t_numbers, .int t_laid, .int t_stage, .int t_open, .int t_digits, .int t_order, .int t_prizes])), (a_t_numbers, .inl (cI, 200, .inl t_numbers)), (a_t_parts, .inl (cI, 200, .inl t_parts)), (a_t_signs, .inl (cI, 200, .inl t_signs)), (a_p1, .inr (4, [.ref a_p1_way, .ref a_p1_guns, .ref a_p1_runners])), (a_p1_runners, .inr (6, [.ref a_p1_runners_facts, .ref a_p1_runners_splits, .ref a_p1_runners_torn, .ref a_p1_runners_dropped, .ref a_p1_runners_waved, .ref a_p1_runners_struck, .ref a_p1_runners_strikingOrder, .int p1_runners_entered, .int p1_runners_strikings])), (a_p1_runners_facts, .inl (cI, 360, .inl p1_runners_facts))] sz) := by
  refine Met.ofW (cc := cX5_holdsFor) (maxL := 8) (ret := (some .boolean)) (by decide) rfl ?_
  intro p e s m args below meth c s₁ B hml hv
  obtain ⟨rfl, hsz, hP, hK, hN, hZ, hD0⟩ := hv
  have hx := B.exec
  have hb := B.bytes
  have hr := B.returns
  have hts := atoms_spec (ws := wsX5_holdsFor) B.pre
  have hown : s.vm.findClass RX5 = some m.cls := findClass_of_methodNamed B.named
  have hlocks := B.notSynchronized
  subst hsz
  have hD := hD0.self (sz := s.heap.size)
  generalize hAe : va_A [(a_t, .inr (5, [.ref a_t_parts, .ref a_t_signs, .ref a_t_numbers, .int t_laid, .int t_stage, .int t_open, .int t_digits, .int t_order, .int t_prizes])), (a_t_numbers, .inl (cI, 200, .inl t_numbers)), (a_t_parts, .inl (cI, 200, .inl t_parts)), (a_t_signs, .inl (cI, 200, .inl t_signs)), (a_p1, .inr (4, [.ref a_p1_way, .ref a_p1_guns, .ref a_p1_runners])), (a_p1_runners, .inr (6, [.ref a_p1_runners_facts, .ref a_p1_runners_splits, .ref a_p1_runners_torn, .ref a_p1_runners_dropped, .ref a_p1_runners_waved, .ref a_p1_runners_struck, .ref a_p1_runners_strikingOrder, .int p1_runners_entered, .int p1_runners_strikings])), (a_p1_runners_facts, .inl (cI, 360, .inl p1_runners_facts))] s.heap.size = A at hD hZ ⊢
  have hA : ∀ q : Nat, s.heap.size ≤ q → A q := fun q h => by rw [← hAe]; exact Or.inr h
  have hS : va_S A s.heap s.heap [] := va_S.rf
  have hl := lv_entry ([.ref a_t, .ref a_p1, .int x2]) (n := 8) (Nat.le_of_ble_eq_true rfl)
  rw [lg_entry_eq]
  generalize (lg_sl ([.ref a_t, .ref a_p1, .int x2]) ++ List.replicate (8 - (lg_sl ([.ref a_t, .ref a_p1, .int x2])).length) Slot.unset).toArray = ls at hl ⊢
  have hl : lv_has ls 8 [(0, .ref a_t), (1, .ref a_p1), (2, .int x2)] := hl
  unfold fX5_holdsFor at h
  refine lv_iconst (v := (nI 1)) hx hb dX5_holdsFor_0 rfl ?_
  refine lv_istore_n (lv' := [(3, .int (nI 1)), (0, .ref a_t), (1, .ref a_p1), (2, .int x2)]) hx hb dX5_holdsFor_1 rfl hl (by decide) rfl (fun ls hl => ?_)
  refine lv_iconst (v := (nI 0)) hx hb dX5_holdsFor_2 rfl ?_
  refine lv_istore (lv' := [(4, .int (nI 0)), (3, .int (nI 1)), (0, .ref a_t), (1, .ref a_p1), (2, .int x2)]) hx hb dX5_holdsFor_3 hl (by decide) rfl (fun ls hl => ?_)
  refine lv_iconst (v := (nI 0)) hx hb dX5_holdsFor_5 rfl ?_
  refine lv_istore (lv' := [(5, .int (nI 0)), (4, .int (nI 0)), (3, .int (nI 1)), (0, .ref a_t), (1, .ref a_p1), (2, .int x2)]) hx hb dX5_holdsFor_6 hl (by decide) rfl (fun ls hl => ?_)
  refine lv_iconst (v := (nI 0)) hx hb dX5_holdsFor_8 rfl ?_
  refine lv_istore (lv' := [(6, .int (nI 0)), (5, .int (nI 0)), (4, .int (nI 0)), (3, .int (nI 1)), (0, .ref a_t), (1, .ref a_p1), (2, .int x2)]) hx hb dX5_holdsFor_9 hl (by decide) rfl (fun ls hl => ?_)
  have X11_173 : ∀ (v3_11 : Int32) (v4_11 : Int32) (v5_11 : Int32) (v6_11 : Int32) (H : Heap) (locs : List Loc) (ls : Array Slot), (if (v3_11 &&& (v5_11 ||| (v4_11 ^^^ (-1 : Int32)))) = 0 then some (false) else some (true)) = some (b0) → va_P D vwCl [(a_t, .inr (5, [.ref a_t_parts, .ref a_t_signs, .ref a_t_numbers, .int t_laid, .int t_stage, .int t_open, .int t_digits, .int t_order, .int t_prizes])), (a_t_numbers, .inl (cI, 200, .inl t_numbers)), (a_t_parts, .inl (cI, 200, .inl t_parts)), (a_t_signs, .inl (cI, 200, .inl t_signs)), (a_p1, .inr (4, [.ref a_p1_way, .ref a_p1_guns, .ref a_p1_runners])), (a_p1_runners, .inr (6, [.ref a_p1_runners_facts, .ref a_p1_runners_splits, .ref a_p1_runners_torn, .ref a_p1_runners_dropped, .ref a_p1_runners_waved, .ref a_p1_runners_struck, .ref a_p1_runners_strikingOrder, .int p1_runners_entered, .int p1_runners_strikings])), (a_p1_runners_facts, .inl (cI, 360, .inl p1_runners_facts))] H → va_D A [(a_t, .inr (5, [.ref a_t_parts, .ref a_t_signs, .ref a_t_numbers, .int t_laid, .int t_stage, .int t_open, .int t_digits, .int t_order, .int t_prizes])), (a_t_numbers, .inl (cI, 200, .inl t_numbers)), (a_t_parts, .inl (cI, 200, .inl t_parts)), (a_t_signs, .inl (cI, 200, .inl t_signs)), (a_p1, .inr (4, [.ref a_p1_way, .ref a_p1_guns, .ref a_p1_runners])), (a_p1_runners, .inr (6, [.ref a_p1_runners_facts, .ref a_p1_runners_splits, .ref a_p1_runners_torn, .ref a_p1_runners_dropped, .ref a_p1_runners_waved, .ref a_p1_runners_struck, .ref a_p1_runners_strikingOrder, .int p1_runners_entered, .int p1_runners_strikings])), (a_p1_runners_facts, .inl (cI, 360, .inl p1_runners_facts))] → va_S A s.heap H locs → lv_has ls 8 [(6, .int v6_11), (5, .int v5_11), (4, .int v4_11), (3, .int v3_11), (0, .ref a_t), (1, .ref a_p1), (2, .int x2)] → W p l e (headSpec wsX5_holdsFor ({ frames := 2, cells := 0, slots := 0, locals := 46 } : Room)).room s m #[Value.ref a_t, Value.ref a_p1, Value.int x2] below meth c H locs 0 0 (MQ below (zQi (zb b0) D (zT cB cI cZ) [(a_t, .inr (5, [.ref a_t_parts, .ref a_t_signs, .ref a_t_numbers, .int t_laid, .int t_stage, .int t_open, .int t_digits, .int t_order, .int t_prizes])), (a_t_numbers, .inl (cI, 200, .inl t_numbers)), (a_t_parts, .inl (cI, 200, .inl t_parts)), (a_t_signs, .inl (cI, 200, .inl t_signs)), (a_p1, .inr (4, [.ref a_p1_way, .ref a_p1_guns, .ref a_p1_runners])), (a_p1_runners, .inr (6, [.ref a_p1_runners_facts, .ref a_p1_runners_splits, .ref a_p1_runners_torn, .ref a_p1_runners_dropped, .ref a_p1_runners_waved, .ref a_p1_runners_struck, .ref a_p1_runners_strikingOrder, .int p1_runners_entered, .int p1_runners_strikings])), (a_p1_runners_facts, .inl (cI, 360, .inl p1_runners_facts))] A) #[Value.ref a_t, Value.ref a_p1, Value.int x2] s 0 0 A) (F0 m 173 ls []) := by
    intro v3_11 v4_11 v5_11 v6_11 H locs ls h hP hD hS hl
    refine lv_iload_n hx hb dX5_holdsFor_173 rfl (lv_at hl 3 rfl) ?_
    refine lv_iload hx hb dX5_holdsFor_174 (lv_at hl 1 rfl) ?_
    refine lv_iload hx hb dX5_holdsFor_176 (lv_at hl 2 rfl) ?_
    refine lv_iconst (v := (-1 : Int32)) hx hb dX5_holdsFor_178 rfl ?_
    refine lv_ixor hx hb dX5_holdsFor_179 ?_
    refine lv_ior hx hb dX5_holdsFor_180 ?_
    refine lv_iand hx hb dX5_holdsFor_181 ?_
    refine lv_if_eq (tgt := 189) hx hb dX5_holdsFor_182 (by decide) (fun c1 => ?_) (fun c1 => ?_)
    · have h := zz_t h c1
      refine lv_iconst (v := (nI 0)) hx hb dX5_holdsFor_189 rfl ?_
      have j0_ := Option.some.inj h
      subst j0_
      exact W.zret (v := (nI 0)) hx hb hr rfl (fun t ht hW => ⟨⟨_, (), rfl, rfl, zPost.of hP hD hK ht hW [0, 1, 2, 3, 4, 5, 6] rfl rfl rfl⟩, hS.F ht⟩) hS.2.2 dX5_holdsFor_190
    · have h := zz_f h c1
      refine lv_iconst (v := (nI 1)) hx hb dX5_holdsFor_185 rfl ?_
      refine lv_goto (tgt := 190) hx hb dX5_holdsFor_186 (by decide) ?_
      have j0_ := Option.some.inj h
      subst j0_
      exact W.zret (v := (nI 1)) hx hb hr rfl (fun t ht hW => ⟨⟨_, (), rfl, rfl, zPost.of hP hD hK ht hW [0, 1, 2, 3, 4, 5, 6] rfl rfl rfl⟩, hS.F ht⟩) hS.2.2 dX5_holdsFor_190
  have L11 : ∀ (n : Nat) (v3_11 : Int32) (v4_11 : Int32) (v5_11 : Int32) (v6_11 : Int32) (H : Heap) (locs : List Loc) (ls : Array Slot), fX5_holdsFor_L11 t_laid t_numbers t_parts t_signs p1_runners_entered p1_runners_facts x2 (fun (v3_11 : Int32) (v4_11 : Int32) (v5_11 : Int32) (v6_11 : Int32) => (if (v3_11 &&& (v5_11 ||| (v4_11 ^^^ (-1 : Int32)))) = 0 then some (false) else some (true))) n v3_11 v4_11 v5_11 v6_11 = some (b0) → va_P D vwCl [(a_t, .inr (5, [.ref a_t_parts, .ref a_t_signs, .ref a_t_numbers, .int t_laid, .int t_stage, .int t_open, .int t_digits, .int t_order, .int t_prizes])), (a_t_numbers, .inl (cI, 200, .inl t_numbers)), (a_t_parts, .inl (cI, 200, .inl t_parts)), (a_t_signs, .inl (cI, 200, .inl t_signs)), (a_p1, .inr (4, [.ref a_p1_way, .ref a_p1_guns, .ref a_p1_runners])), (a_p1_runners, .inr (6, [.ref a_p1_runners_facts, .ref a_p1_runners_splits, .ref a_p1_runners_torn, .ref a_p1_runners_dropped, .ref a_p1_runners_waved, .ref a_p1_runners_struck, .ref a_p1_runners_strikingOrder, .int p1_runners_entered, .int p1_runners_strikings])), (a_p1_runners_facts, .inl (cI, 360, .inl p1_runners_facts))] H → va_D A [(a_t, .inr (5, [.ref a_t_parts, .ref a_t_signs, .ref a_t_numbers, .int t_laid, .int t_stage, .int t_open, .int t_digits, .int t_order, .int t_prizes])), (a_t_numbers, .inl (cI, 200, .inl t_numbers)), (a_t_parts, .inl (cI, 200, .inl t_parts)), (a_t_signs, .inl (cI, 200, .inl t_signs)), (a_p1, .inr (4, [.ref a_p1_way, .ref a_p1_guns, .ref a_p1_runners])), (a_p1_runners, .inr (6, [.ref a_p1_runners_facts, .ref a_p1_runners_splits, .ref a_p1_runners_torn, .ref a_p1_runners_dropped, .ref a_p1_runners_waved, .ref a_p1_runners_struck, .ref a_p1_runners_strikingOrder, .int p1_runners_entered, .int p1_runners_strikings])), (a_p1_runners_facts, .inl (cI, 360, .inl p1_runners_facts))] → va_S A s.heap H locs → lv_has ls 8 [(6, .int v6_11), (5, .int v5_11), (4, .int v4_11), (3, .int v3_11), (0, .ref a_t), (1, .ref a_p1), (2, .int x2)] → W p l e (headSpec wsX5_holdsFor ({ frames := 2, cells := 0, slots := 0, locals := 46 } : Room)).room s m #[Value.ref a_t, Value.ref a_p1, Value.int x2] below meth c H locs 0 0 (MQ below (zQi (zb b0) D (zT cB cI cZ) [(a_t, .inr (5, [.ref a_t_parts, .ref a_t_signs, .ref a_t_numbers, .int t_laid, .int t_stage, .int t_open, .int t_digits, .int t_order, .int t_prizes])), (a_t_numbers, .inl (cI, 200, .inl t_numbers)), (a_t_parts, .inl (cI, 200, .inl t_parts)), (a_t_signs, .inl (cI, 200, .inl t_signs)), (a_p1, .inr (4, [.ref a_p1_way, .ref a_p1_guns, .ref a_p1_runners])), (a_p1_runners, .inr (6, [.ref a_p1_runners_facts, .ref a_p1_runners_splits, .ref a_p1_runners_torn, .ref a_p1_runners_dropped, .ref a_p1_runners_waved, .ref a_p1_runners_struck, .ref a_p1_runners_strikingOrder, .int p1_runners_entered, .int p1_runners_strikings])), (a_p1_runners_facts, .inl (cI, 360, .inl p1_runners_facts))] A) #[Value.ref a_t, Value.ref a_p1, Value.int x2] s 0 0 A) (F0 m 11 ls []) := by
    intro n
    induction n with
    | zero => intro _ _ _ _ H locs ls h hP hD hS hl; cases h
    | succ n11 ih11 =>
      intro v3_11 v4_11 v5_11 v6_11 H locs ls h hP hD hS hl
      rw [fX5_holdsFor_L11.eq_2] at h
      refine lv_iload hx hb dX5_holdsFor_11 (lv_at hl 0 rfl) ?_
      refine lv_aload_n hx hb dX5_holdsFor_13 rfl (lv_at hl 4 rfl) ?_
      refine va_get (D := D) (ci := 5) (C := RX5) (T := TX5) (N := 9) hx hb hts qX5_holdsFor_X5 hown hK hP 0 rfl rfl 3 (by decide) (hts _ kX5_holdsFor_0) (fun _ h9 => h9) rfl dX5_holdsFor_14 ?_
      refine lv_icmp_ge (tgt := 173) hx hb dX5_holdsFor_17 (by decide) (fun c2 => ?_) (fun c2 => ?_)
      · have h := zz_t h c2
        exact X11_173 v3_11 v4_11 v5_11 v6_11 _ _ _ h (hP.sub [0, 1, 2, 3, 4, 5, 6] rfl) (hD.sub [0, 1, 2, 3, 4, 5, 6] rfl rfl) hS (lv_sub hl [0, 1, 2, 3, 4, 5, 6] rfl)
      · have h := zz_f h c2
        refine lv_iload hx hb dX5_holdsFor_20 (lv_at hl 0 rfl) ?_
        refine lv_sipush (v := (nI 200)) hx hb dX5_holdsFor_22 rfl ?_
        refine lv_icmp_ge (tgt := 173) hx hb dX5_holdsFor_25 (by decide) (fun c3 => ?_) (fun c3 => ?_)
        · have h := zz_t h c3
          exact X11_173 v3_11 v4_11 v5_11 v6_11 _ _ _ h (hP.sub [0, 1, 2, 3, 4, 5, 6] rfl) (hD.sub [0, 1, 2, 3, 4, 5, 6] rfl rfl) hS (lv_sub hl [0, 1, 2, 3, 4, 5, 6] rfl)
        · have h := zz_f h c3
          refine lv_aload_n hx hb dX5_holdsFor_28 rfl (lv_at hl 4 rfl) ?_
          refine va_get (D := D) (ci := 5) (C := RX5) (T := TX5) (N := 9) hx hb hts qX5_holdsFor_X5 hown hK hP 0 rfl rfl 0 (by decide) (hts _ kX5_holdsFor_2) (fun _ h9 => h9) rfl dX5_holdsFor_29 ?_
          refine lv_iload hx hb dX5_holdsFor_32 (lv_at hl 0 rfl) ?_
          obtain ⟨i4, h⟩ := zz_i h
          refine va_iald hx hb hK hP 2 1 rfl rfl i4 dX5_holdsFor_34 ?_
          refine lv_bipush (v := (nI 40)) hx hb dX5_holdsFor_35 rfl ?_
          refine lv_icmp_ne (tgt := 63) hx hb dX5_holdsFor_37 (by decide) (fun c5 => ?_) (fun c5 => ?_)
          · have h := zz_f h c5
            refine lv_aload_n hx hb dX5_holdsFor_63 rfl (lv_at hl 4 rfl) ?_
            refine va_get (D := D) (ci := 5) (C := RX5) (T := TX5) (N := 9) hx hb hts qX5_holdsFor_X5 hown hK hP 0 rfl rfl 0 (by decide) (hts _ kX5_holdsFor_2) (fun _ h9 => h9) rfl dX5_holdsFor_64 ?_
            refine lv_iload hx hb dX5_holdsFor_67 (lv_at hl 0 rfl) ?_
            obtain ⟨i6, h⟩ := zz_i h
            refine va_iald hx hb hK hP 2 1 rfl rfl i6 dX5_holdsFor_69 ?_
            refine lv_bipush (v := (nI 124)) hx hb dX5_holdsFor_70 rfl ?_
            refine lv_icmp_ne (tgt := 97) hx hb dX5_holdsFor_72 (by decide) (fun c7 => ?_) (fun c7 => ?_)
            · have h := zz_f h c7
              refine lv_aload_n hx hb dX5_holdsFor_97 rfl (lv_at hl 4 rfl) ?_
              refine va_get (D := D) (ci := 5) (C := RX5) (T := TX5) (N := 9) hx hb hts qX5_holdsFor_X5 hown hK hP 0 rfl rfl 0 (by decide) (hts _ kX5_holdsFor_2) (fun _ h9 => h9) rfl dX5_holdsFor_98 ?_
              refine lv_iload hx hb dX5_holdsFor_101 (lv_at hl 0 rfl) ?_
              obtain ⟨i8, h⟩ := zz_i h
              refine va_iald hx hb hK hP 2 1 rfl rfl i8 dX5_holdsFor_103 ?_
              refine lv_bipush (v := (nI 41)) hx hb dX5_holdsFor_104 rfl ?_
              refine lv_icmp_ne (tgt := 150) hx hb dX5_holdsFor_106 (by decide) (fun c9 => ?_) (fun c9 => ?_)
              · have h := zz_f h c9
                refine lv_aload_n hx hb dX5_holdsFor_150 rfl (lv_at hl 4 rfl) ?_
                refine lv_aload_n hx hb dX5_holdsFor_151 rfl (lv_at hl 5 rfl) ?_
                refine lv_iload_n hx hb dX5_holdsFor_152 rfl (lv_at hl 6 rfl) ?_
                refine lv_iload hx hb dX5_holdsFor_153 (lv_at hl 0 rfl) ?_
                obtain ⟨b10, e11, h⟩ := zz_b h
                refine zVi (As := [.ref a_p1, .int x2, .int v6_11]) (rest := []) (C := RX5) (wr := []) [0, 1, 2, 3, 4, 5, 6] [] 0 ⟨hx, hb, hml, hown, hts⟩ (mX5_unitHolds l D cB cI cZ a_t a_p1 a_t_parts a_t_signs a_t_numbers a_p1_way a_p1_guns a_p1_runners a_p1_runners_facts a_p1_runners_splits a_p1_runners_torn a_p1_runners_dropped a_p1_runners_waved a_p1_runners_struck a_p1_runners_strikingOrder t_laid t_stage t_open t_digits t_order t_prizes t_numbers t_parts t_signs p1_runners_entered p1_runners_strikings p1_runners_facts H.size x2 v6_11 b10 e11) (cwV 3 hts gX5_holdsFor_X5_unitHolds rfl rfl rfl (by decide +kernel) ⟨Nat.le_of_ble_eq_true rfl, Nat.le_of_ble_eq_true rfl⟩) hK hN hZ hP hD hS hA rfl rfl rfl rfl rfl rfl rfl rfl hl.1 rfl (lv_room (Nat.le_of_ble_eq_true rfl)) dX5_holdsFor_155 ⟨Nat.le_of_ble_eq_true rfl, Nat.le_of_ble_eq_true rfl⟩ (fun H locs hP hD hS => ?_)
                have hP : va_P D vwCl [(a_t, .inr (5, [.ref a_t_parts, .ref a_t_signs, .ref a_t_numbers, .int t_laid, .int t_stage, .int t_open, .int t_digits, .int t_order, .int t_prizes])), (a_t_numbers, .inl (cI, 200, .inl t_numbers)), (a_t_parts, .inl (cI, 200, .inl t_parts)), (a_t_signs, .inl (cI, 200, .inl t_signs)), (a_p1, .inr (4, [.ref a_p1_way, .ref a_p1_guns, .ref a_p1_runners])), (a_p1_runners, .inr (6, [.ref a_p1_runners_facts, .ref a_p1_runners_splits, .ref a_p1_runners_torn, .ref a_p1_runners_dropped, .ref a_p1_runners_waved, .ref a_p1_runners_struck, .ref a_p1_runners_strikingOrder, .int p1_runners_entered, .int p1_runners_strikings])), (a_p1_runners_facts, .inl (cI, 360, .inl p1_runners_facts))] H := hP
                have hD : va_D A [(a_t, .inr (5, [.ref a_t_parts, .ref a_t_signs, .ref a_t_numbers, .int t_laid, .int t_stage, .int t_open, .int t_digits, .int t_order, .int t_prizes])), (a_t_numbers, .inl (cI, 200, .inl t_numbers)), (a_t_parts, .inl (cI, 200, .inl t_parts)), (a_t_signs, .inl (cI, 200, .inl t_signs)), (a_p1, .inr (4, [.ref a_p1_way, .ref a_p1_guns, .ref a_p1_runners])), (a_p1_runners, .inr (6, [.ref a_p1_runners_facts, .ref a_p1_runners_splits, .ref a_p1_runners_torn, .ref a_p1_runners_dropped, .ref a_p1_runners_waved, .ref a_p1_runners_struck, .ref a_p1_runners_strikingOrder, .int p1_runners_entered, .int p1_runners_strikings])), (a_p1_runners_facts, .inl (cI, 360, .inl p1_runners_facts))] := hD
                refine lv_if_ne (tgt := 167) hx hb dX5_holdsFor_158 (by decide) (fun c12 => ?_) (fun c12 => ?_)
                · have h := zz_f h c12
                  refine lv_iinc (v := (v6_11 + (nI 1))) (lv' := [(6, .int (v6_11 + (nI 1))), (5, .int v5_11), (4, .int v4_11), (3, .int v3_11), (0, .ref a_t), (1, .ref a_p1), (2, .int x2)]) hx hb dX5_holdsFor_167 hl (k := 0) rfl rfl (by decide) rfl (fun ls hl => ?_)
                  refine lv_goto (tgt := 11) hx hb dX5_holdsFor_170 (by decide) ?_
                  exact ih11 v3_11 v4_11 v5_11 (v6_11 + (nI 1)) _ _ _ h (hP.sub [0, 1, 2, 3, 4, 5, 6] rfl) (hD.sub [0, 1, 2, 3, 4, 5, 6] rfl rfl) hS (lv_sub hl [0, 1, 2, 3, 4, 5, 6] rfl)
                · have h := zz_t h c12
                  refine lv_iload hx hb dX5_holdsFor_161 (lv_at hl 2 rfl) ?_
                  refine lv_iload_n hx hb dX5_holdsFor_163 rfl (lv_at hl 3 rfl) ?_
                  refine lv_ior hx hb dX5_holdsFor_164 ?_
                  refine lv_istore (lv' := [(4, .int (v4_11 ||| v3_11)), (6, .int v6_11), (5, .int v5_11), (3, .int v3_11), (0, .ref a_t), (1, .ref a_p1), (2, .int x2)]) hx hb dX5_holdsFor_165 hl (by decide) rfl (fun ls hl => ?_)
                  refine lv_iinc (v := (v6_11 + (nI 1))) (lv' := [(6, .int (v6_11 + (nI 1))), (4, .int (v4_11 ||| v3_11)), (5, .int v5_11), (3, .int v3_11), (0, .ref a_t), (1, .ref a_p1), (2, .int x2)]) hx hb dX5_holdsFor_167 hl (k := 1) rfl rfl (by decide) rfl (fun ls hl => ?_)
                  refine lv_goto (tgt := 11) hx hb dX5_holdsFor_170 (by decide) ?_
                  exact ih11 v3_11 (v4_11 ||| v3_11) v5_11 (v6_11 + (nI 1)) _ _ _ h (hP.sub [0, 1, 2, 3, 4, 5, 6] rfl) (hD.sub [0, 1, 2, 3, 4, 5, 6] rfl rfl) hS (lv_sub hl [0, 2, 1, 3, 4, 5, 6] rfl)
              · have h := zz_t h c9
                refine lv_iload_n hx hb dX5_holdsFor_109 rfl (lv_at hl 3 rfl) ?_
                refine lv_iload hx hb dX5_holdsFor_110 (lv_at hl 1 rfl) ?_
                refine lv_iload hx hb dX5_holdsFor_112 (lv_at hl 2 rfl) ?_
                refine lv_iconst (v := (-1 : Int32)) hx hb dX5_holdsFor_114 rfl ?_
                refine lv_ixor hx hb dX5_holdsFor_115 ?_
                refine lv_ior hx hb dX5_holdsFor_116 ?_
                refine lv_iand hx hb dX5_holdsFor_117 ?_
                refine lv_if_eq (tgt := 125) hx hb dX5_holdsFor_118 (by decide) (fun c13 => ?_) (fun c13 => ?_)
                · have h := zz_t h c13
                  refine lv_iconst (v := (nI 0)) hx hb dX5_holdsFor_125 rfl ?_
                  refine lv_istore (lv' := [(7, .int (nI 0)), (6, .int v6_11), (5, .int v5_11), (4, .int v4_11), (3, .int v3_11), (0, .ref a_t), (1, .ref a_p1), (2, .int x2)]) hx hb dX5_holdsFor_126 hl (by decide) rfl (fun ls hl => ?_)
                  refine lv_iload_n hx hb dX5_holdsFor_128 rfl (lv_at hl 4 rfl) ?_
                  refine lv_iconst (v := (nI 1)) hx hb dX5_holdsFor_129 rfl ?_
                  refine lv_ishr hx hb dX5_holdsFor_130 ?_
                  refine lv_istore_n (lv' := [(3, .int (v3_11 >>> ((nI 1) &&& 31))), (7, .int (nI 0)), (6, .int v6_11), (5, .int v5_11), (4, .int v4_11), (0, .ref a_t), (1, .ref a_p1), (2, .int x2)]) hx hb dX5_holdsFor_131 rfl hl (by decide) rfl (fun ls hl => ?_)
                  refine lv_iload hx hb dX5_holdsFor_132 (lv_at hl 4 rfl) ?_
                  refine lv_iload hx hb dX5_holdsFor_134 (lv_at hl 1 rfl) ?_
                  refine lv_if_eq (tgt := 143) hx hb dX5_holdsFor_136 (by decide) (fun _ => ?_) (fun c_ => absurd (by decide) c_)
                  refine lv_iload_n hx hb dX5_holdsFor_143 rfl (lv_at hl 0 rfl) ?_
                  refine lv_ior hx hb dX5_holdsFor_144 ?_
                  refine lv_istore (lv' := [(4, .int (v4_11 ||| (v3_11 >>> ((nI 1) &&& 31)))), (3, .int (v3_11 >>> ((nI 1) &&& 31))), (7, .int (nI 0)), (6, .int v6_11), (5, .int v5_11), (0, .ref a_t), (1, .ref a_p1), (2, .int x2)]) hx hb dX5_holdsFor_145 hl (by decide) rfl (fun ls hl => ?_)
                  refine lv_goto (tgt := 167) hx hb dX5_holdsFor_147 (by decide) ?_
                  refine lv_iinc (v := (v6_11 + (nI 1))) (lv' := [(6, .int (v6_11 + (nI 1))), (4, .int (v4_11 ||| (v3_11 >>> ((nI 1) &&& 31)))), (3, .int (v3_11 >>> ((nI 1) &&& 31))), (7, .int (nI 0)), (5, .int v5_11), (0, .ref a_t), (1, .ref a_p1), (2, .int x2)]) hx hb dX5_holdsFor_167 hl (k := 3) rfl rfl (by decide) rfl (fun ls hl => ?_)
                  refine lv_goto (tgt := 11) hx hb dX5_holdsFor_170 (by decide) ?_
                  exact ih11 (v3_11 >>> ((nI 1) &&& 31)) (v4_11 ||| (v3_11 >>> ((nI 1) &&& 31))) v5_11 (v6_11 + (nI 1)) _ _ _ h (hP.sub [0, 1, 2, 3, 4, 5, 6] rfl) (hD.sub [0, 1, 2, 3, 4, 5, 6] rfl rfl) hS (lv_sub hl [0, 4, 1, 2, 5, 6, 7] rfl)
                · have h := zz_f h c13
                  refine lv_iconst (v := (nI 1)) hx hb dX5_holdsFor_121 rfl ?_
                  refine lv_goto (tgt := 126) hx hb dX5_holdsFor_122 (by decide) ?_
                  refine lv_istore (lv' := [(7, .int (nI 1)), (6, .int v6_11), (5, .int v5_11), (4, .int v4_11), (3, .int v3_11), (0, .ref a_t), (1, .ref a_p1), (2, .int x2)]) hx hb dX5_holdsFor_126 hl (by decide) rfl (fun ls hl => ?_)
                  refine lv_iload_n hx hb dX5_holdsFor_128 rfl (lv_at hl 4 rfl) ?_
                  refine lv_iconst (v := (nI 1)) hx hb dX5_holdsFor_129 rfl ?_
                  refine lv_ishr hx hb dX5_holdsFor_130 ?_
                  refine lv_istore_n (lv' := [(3, .int (v3_11 >>> ((nI 1) &&& 31))), (7, .int (nI 1)), (6, .int v6_11), (5, .int v5_11), (4, .int v4_11), (0, .ref a_t), (1, .ref a_p1), (2, .int x2)]) hx hb dX5_holdsFor_131 rfl hl (by decide) rfl (fun ls hl => ?_)
                  refine lv_iload hx hb dX5_holdsFor_132 (lv_at hl 4 rfl) ?_
                  refine lv_iload hx hb dX5_holdsFor_134 (lv_at hl 1 rfl) ?_
                  refine lv_if_eq (tgt := 143) hx hb dX5_holdsFor_136 (by decide) (fun c_ => absurd c_ (by decide)) (fun _ => ?_)
                  refine lv_iconst (v := (nI 0)) hx hb dX5_holdsFor_139 rfl ?_
                  refine lv_goto (tgt := 144) hx hb dX5_holdsFor_140 (by decide) ?_
                  refine lv_ior hx hb dX5_holdsFor_144 ?_
                  refine lv_istore (lv' := [(4, .int (v4_11 ||| (nI 0))), (3, .int (v3_11 >>> ((nI 1) &&& 31))), (7, .int (nI 1)), (6, .int v6_11), (5, .int v5_11), (0, .ref a_t), (1, .ref a_p1), (2, .int x2)]) hx hb dX5_holdsFor_145 hl (by decide) rfl (fun ls hl => ?_)
                  refine lv_goto (tgt := 167) hx hb dX5_holdsFor_147 (by decide) ?_
                  refine lv_iinc (v := (v6_11 + (nI 1))) (lv' := [(6, .int (v6_11 + (nI 1))), (4, .int (v4_11 ||| (nI 0))), (3, .int (v3_11 >>> ((nI 1) &&& 31))), (7, .int (nI 1)), (5, .int v5_11), (0, .ref a_t), (1, .ref a_p1), (2, .int x2)]) hx hb dX5_holdsFor_167 hl (k := 3) rfl rfl (by decide) rfl (fun ls hl => ?_)
                  refine lv_goto (tgt := 11) hx hb dX5_holdsFor_170 (by decide) ?_
                  exact ih11 (v3_11 >>> ((nI 1) &&& 31)) (v4_11 ||| (nI 0)) v5_11 (v6_11 + (nI 1)) _ _ _ h (hP.sub [0, 1, 2, 3, 4, 5, 6] rfl) (hD.sub [0, 1, 2, 3, 4, 5, 6] rfl rfl) hS (lv_sub hl [0, 4, 1, 2, 5, 6, 7] rfl)
            · have h := zz_t h c7
              refine lv_iload hx hb dX5_holdsFor_75 (lv_at hl 1 rfl) ?_
              refine lv_iload_n hx hb dX5_holdsFor_77 rfl (lv_at hl 3 rfl) ?_
              refine lv_iload hx hb dX5_holdsFor_78 (lv_at hl 2 rfl) ?_
              refine lv_iconst (v := (-1 : Int32)) hx hb dX5_holdsFor_80 rfl ?_
              refine lv_ixor hx hb dX5_holdsFor_81 ?_
              refine lv_iand hx hb dX5_holdsFor_82 ?_
              refine lv_ior hx hb dX5_holdsFor_83 ?_
              refine lv_istore (lv' := [(5, .int (v5_11 ||| (v3_11 &&& (v4_11 ^^^ (-1 : Int32))))), (6, .int v6_11), (4, .int v4_11), (3, .int v3_11), (0, .ref a_t), (1, .ref a_p1), (2, .int x2)]) hx hb dX5_holdsFor_84 hl (by decide) rfl (fun ls hl => ?_)
              refine lv_iload hx hb dX5_holdsFor_86 (lv_at hl 2 rfl) ?_
              refine lv_iload_n hx hb dX5_holdsFor_88 rfl (lv_at hl 3 rfl) ?_
              refine lv_iconst (v := (-1 : Int32)) hx hb dX5_holdsFor_89 rfl ?_
              refine lv_ixor hx hb dX5_holdsFor_90 ?_
              refine lv_iand hx hb dX5_holdsFor_91 ?_
              refine lv_istore (lv' := [(4, .int (v4_11 &&& (v3_11 ^^^ (-1 : Int32)))), (5, .int (v5_11 ||| (v3_11 &&& (v4_11 ^^^ (-1 : Int32))))), (6, .int v6_11), (3, .int v3_11), (0, .ref a_t), (1, .ref a_p1), (2, .int x2)]) hx hb dX5_holdsFor_92 hl (by decide) rfl (fun ls hl => ?_)
              refine lv_goto (tgt := 167) hx hb dX5_holdsFor_94 (by decide) ?_
              refine lv_iinc (v := (v6_11 + (nI 1))) (lv' := [(6, .int (v6_11 + (nI 1))), (4, .int (v4_11 &&& (v3_11 ^^^ (-1 : Int32)))), (5, .int (v5_11 ||| (v3_11 &&& (v4_11 ^^^ (-1 : Int32))))), (3, .int v3_11), (0, .ref a_t), (1, .ref a_p1), (2, .int x2)]) hx hb dX5_holdsFor_167 hl (k := 2) rfl rfl (by decide) rfl (fun ls hl => ?_)
              refine lv_goto (tgt := 11) hx hb dX5_holdsFor_170 (by decide) ?_
              exact ih11 v3_11 (v4_11 &&& (v3_11 ^^^ (-1 : Int32))) (v5_11 ||| (v3_11 &&& (v4_11 ^^^ (-1 : Int32)))) (v6_11 + (nI 1)) _ _ _ h (hP.sub [0, 1, 2, 3, 4, 5, 6] rfl) (hD.sub [0, 1, 2, 3, 4, 5, 6] rfl rfl) hS (lv_sub hl [0, 2, 1, 3, 4, 5, 6] rfl)
          · have h := zz_t h c5
            refine lv_iload_n hx hb dX5_holdsFor_40 rfl (lv_at hl 3 rfl) ?_
            refine lv_iconst (v := (nI 1)) hx hb dX5_holdsFor_41 rfl ?_
            refine lv_ishl hx hb dX5_holdsFor_42 ?_
            refine lv_istore_n (lv' := [(3, .int (v3_11 <<< ((nI 1) &&& 31))), (6, .int v6_11), (5, .int v5_11), (4, .int v4_11), (0, .ref a_t), (1, .ref a_p1), (2, .int x2)]) hx hb dX5_holdsFor_43 rfl hl (by decide) rfl (fun ls hl => ?_)
            refine lv_iload hx hb dX5_holdsFor_44 (lv_at hl 3 rfl) ?_
            refine lv_iload_n hx hb dX5_holdsFor_46 rfl (lv_at hl 0 rfl) ?_
            refine lv_iconst (v := (-1 : Int32)) hx hb dX5_holdsFor_47 rfl ?_
            refine lv_ixor hx hb dX5_holdsFor_48 ?_
            refine lv_iand hx hb dX5_holdsFor_49 ?_
            refine lv_istore (lv' := [(4, .int (v4_11 &&& ((v3_11 <<< ((nI 1) &&& 31)) ^^^ (-1 : Int32)))), (3, .int (v3_11 <<< ((nI 1) &&& 31))), (6, .int v6_11), (5, .int v5_11), (0, .ref a_t), (1, .ref a_p1), (2, .int x2)]) hx hb dX5_holdsFor_50 hl (by decide) rfl (fun ls hl => ?_)
            refine lv_iload hx hb dX5_holdsFor_52 (lv_at hl 3 rfl) ?_
            refine lv_iload_n hx hb dX5_holdsFor_54 rfl (lv_at hl 1 rfl) ?_
            refine lv_iconst (v := (-1 : Int32)) hx hb dX5_holdsFor_55 rfl ?_
            refine lv_ixor hx hb dX5_holdsFor_56 ?_
            refine lv_iand hx hb dX5_holdsFor_57 ?_
            refine lv_istore (lv' := [(5, .int (v5_11 &&& ((v3_11 <<< ((nI 1) &&& 31)) ^^^ (-1 : Int32)))), (4, .int (v4_11 &&& ((v3_11 <<< ((nI 1) &&& 31)) ^^^ (-1 : Int32)))), (3, .int (v3_11 <<< ((nI 1) &&& 31))), (6, .int v6_11), (0, .ref a_t), (1, .ref a_p1), (2, .int x2)]) hx hb dX5_holdsFor_58 hl (by decide) rfl (fun ls hl => ?_)
            refine lv_goto (tgt := 167) hx hb dX5_holdsFor_60 (by decide) ?_
            refine lv_iinc (v := (v6_11 + (nI 1))) (lv' := [(6, .int (v6_11 + (nI 1))), (5, .int (v5_11 &&& ((v3_11 <<< ((nI 1) &&& 31)) ^^^ (-1 : Int32)))), (4, .int (v4_11 &&& ((v3_11 <<< ((nI 1) &&& 31)) ^^^ (-1 : Int32)))), (3, .int (v3_11 <<< ((nI 1) &&& 31))), (0, .ref a_t), (1, .ref a_p1), (2, .int x2)]) hx hb dX5_holdsFor_167 hl (k := 3) rfl rfl (by decide) rfl (fun ls hl => ?_)
            refine lv_goto (tgt := 11) hx hb dX5_holdsFor_170 (by decide) ?_
            exact ih11 (v3_11 <<< ((nI 1) &&& 31)) (v4_11 &&& ((v3_11 <<< ((nI 1) &&& 31)) ^^^ (-1 : Int32))) (v5_11 &&& ((v3_11 <<< ((nI 1) &&& 31)) ^^^ (-1 : Int32))) (v6_11 + (nI 1)) _ _ _ h (hP.sub [0, 1, 2, 3, 4, 5, 6] rfl) (hD.sub [0, 1, 2, 3, 4, 5, 6] rfl rfl) hS (lv_sub hl [0, 1, 2, 3, 4, 5, 6] rfl)
  exact L11 N (nI 1) (nI 0) (nI 0) (nI 0) _ _ _ h hP hD hS hl
/-! RunDesk$Reading.ordersByGunTime -/
theorem dX5_ordersByGunTime_0 : decode cX5_ordersByGunTime 0 = .ok (.aload_n 0, 1) := by decide +kernel
theorem dX5_ordersByGunTime_1 : decode cX5_ordersByGunTime 1 = .ok (.getfield 34, 3) := by decide +kernel
theorem dX5_ordersByGunTime_4 : decode cX5_ordersByGunTime 4 = .ok (.bipush 103, 2) := by decide +kernel
theorem dX5_ordersByGunTime_6 : decode cX5_ordersByGunTime 6 = .ok (.if_icmp .ne 7, 3) := by decide +kernel
theorem dX5_ordersByGunTime_9 : decode cX5_ordersByGunTime 9 = .ok (.iconst 1, 1) := by decide +kernel
theorem dX5_ordersByGunTime_10 : decode cX5_ordersByGunTime 10 = .ok (.goto 4, 3) := by decide +kernel
theorem dX5_ordersByGunTime_13 : decode cX5_ordersByGunTime 13 = .ok (.iconst 0, 1) := by decide +kernel
theorem dX5_ordersByGunTime_14 : decode cX5_ordersByGunTime 14 = .ok (.ireturn, 1) := by decide +kernel
theorem kX5_ordersByGunTime_0 : (.fieldLink RX5 34 "RunDesk$Reading" "order" "I" : Cond) ∈ wsX5_ordersByGunTime := List.mem_of_getElem? (i := 1) (by decide +kernel)
theorem qX5_ordersByGunTime_X5 : ∀ w ∈ wsX50, w ∈ wsX5_ordersByGunTime := fun _ h => List.mem_cons_of_mem _ (List.mem_append_right _ (h))
set_option maxHeartbeats 4000000 in
set_option maxRecDepth 100000 in
theorem mX5_ordersByGunTime (l : Launch) (D : va_G) (cB cI cZ : ClassId) (a_t : Nat) (a_t_parts : Nat) (a_t_signs : Nat) (a_t_numbers : Nat) (t_laid : Int32) (t_stage : Int32) (t_open : Int32) (t_digits : Int32) (t_order : Int32) (t_prizes : Int32) (sz : Nat) (b0 : Bool) (h : fX5_ordersByGunTime t_order = some (b0)) : Met l yX5_ordersByGunTime wsX5_ordersByGunTime ({ frames := 0, cells := 0, slots := 0, locals := 0 } : Room) (va_Pc [.ref a_t] (zPre D (zT cB cI cZ) [(a_t, .inr (5, [.ref a_t_parts, .ref a_t_signs, .ref a_t_numbers, .int t_laid, .int t_stage, .int t_open, .int t_digits, .int t_order, .int t_prizes]))] sz)) (zQi (zb b0) D (zT cB cI cZ) [(a_t, .inr (5, [.ref a_t_parts, .ref a_t_signs, .ref a_t_numbers, .int t_laid, .int t_stage, .int t_open, .int t_digits, .int t_order, .int t_prizes]))] (va_A [(a_t, .inr (5, [.ref a_t_parts, .ref a_t_signs, .ref a_t_numbers, .int t_laid, .int t_stage, .int t_open, .int t_digits, .int t_order, .int t_prizes]))] sz)) 0 0 (va_A [(a_t, .inr (5, [.ref a_t_parts, .ref a_t_signs, .ref a_t_numbers, .int t_laid, .int t_stage, .int t_open, .int t_digits, .int t_order, .int t_prizes]))] sz) := by
  refine Met.ofW (cc := cX5_ordersByGunTime) (maxL := 1) (ret := (some .boolean)) (by decide) rfl ?_
  intro p e s m args below meth c s₁ B hml hv
  obtain ⟨rfl, hsz, hP, hK, hN, hZ, hD0⟩ := hv
  have hx := B.exec
  have hb := B.bytes
  have hr := B.returns
  have hts := atoms_spec (ws := wsX5_ordersByGunTime) B.pre
  have hown : s.vm.findClass RX5 = some m.cls := findClass_of_methodNamed B.named
  have hlocks := B.notSynchronized
  subst hsz
  have hD := hD0.self (sz := s.heap.size)
  generalize hAe : va_A [(a_t, .inr (5, [.ref a_t_parts, .ref a_t_signs, .ref a_t_numbers, .int t_laid, .int t_stage, .int t_open, .int t_digits, .int t_order, .int t_prizes]))] s.heap.size = A at hD hZ ⊢
  have hA : ∀ q : Nat, s.heap.size ≤ q → A q := fun q h => by rw [← hAe]; exact Or.inr h
  have hS : va_S A s.heap s.heap [] := va_S.rf
  have hl := lv_entry ([.ref a_t]) (n := 1) (Nat.le_of_ble_eq_true rfl)
  rw [lg_entry_eq]
  generalize (lg_sl ([.ref a_t]) ++ List.replicate (1 - (lg_sl ([.ref a_t])).length) Slot.unset).toArray = ls at hl ⊢
  have hl : lv_has ls 1 [(0, .ref a_t)] := hl
  unfold fX5_ordersByGunTime at h
  refine lv_aload_n hx hb dX5_ordersByGunTime_0 rfl (lv_at hl 0 rfl) ?_
  refine va_get (D := D) (ci := 5) (C := RX5) (T := TX5) (N := 9) hx hb hts qX5_ordersByGunTime_X5 hown hK hP 0 rfl rfl 7 (by decide) (hts _ kX5_ordersByGunTime_0) (fun _ h9 => h9) rfl dX5_ordersByGunTime_1 ?_
  refine lv_bipush (v := (nI 103)) hx hb dX5_ordersByGunTime_4 rfl ?_
  refine lv_icmp_ne (tgt := 13) hx hb dX5_ordersByGunTime_6 (by decide) (fun c1 => ?_) (fun c1 => ?_)
  · have h := zz_f h c1
    refine lv_iconst (v := (nI 0)) hx hb dX5_ordersByGunTime_13 rfl ?_
    have j0_ := Option.some.inj h
    subst j0_
    exact W.zret (v := (nI 0)) hx hb hr rfl (fun t ht hW => ⟨⟨_, (), rfl, rfl, zPost.of hP hD hK ht hW [0] rfl rfl rfl⟩, hS.F ht⟩) hS.2.2 dX5_ordersByGunTime_14
  · have h := zz_t h c1
    refine lv_iconst (v := (nI 1)) hx hb dX5_ordersByGunTime_9 rfl ?_
    refine lv_goto (tgt := 14) hx hb dX5_ordersByGunTime_10 (by decide) ?_
    have j0_ := Option.some.inj h
    subst j0_
    exact W.zret (v := (nI 1)) hx hb hr rfl (fun t ht hW => ⟨⟨_, (), rfl, rfl, zPost.of hP hD hK ht hW [0] rfl rfl rfl⟩, hS.F ht⟩) hS.2.2 dX5_ordersByGunTime_14
/-! RunDesk$Runners.isStruck -/
theorem dX6_isStruck_0 : decode cX6_isStruck 0 = .ok (.aload_n 0, 1) := by decide +kernel
theorem dX6_isStruck_1 : decode cX6_isStruck 1 = .ok (.iload_n 1, 1) := by decide +kernel
theorem dX6_isStruck_2 : decode cX6_isStruck 2 = .ok (.invokevirtual 41, 3) := by decide +kernel
theorem dX6_isStruck_5 : decode cX6_isStruck 5 = .ok (.ifCond .eq 16, 3) := by decide +kernel
theorem dX6_isStruck_8 : decode cX6_isStruck 8 = .ok (.aload_n 0, 1) := by decide +kernel
theorem dX6_isStruck_9 : decode cX6_isStruck 9 = .ok (.getfield 28, 3) := by decide +kernel
theorem dX6_isStruck_12 : decode cX6_isStruck 12 = .ok (.iload_n 1, 1) := by decide +kernel
theorem dX6_isStruck_13 : decode cX6_isStruck 13 = .ok (.baload, 1) := by decide +kernel
theorem dX6_isStruck_14 : decode cX6_isStruck 14 = .ok (.ifCond .eq 7, 3) := by decide +kernel
theorem dX6_isStruck_17 : decode cX6_isStruck 17 = .ok (.iconst 1, 1) := by decide +kernel
theorem dX6_isStruck_18 : decode cX6_isStruck 18 = .ok (.goto 4, 3) := by decide +kernel
theorem dX6_isStruck_21 : decode cX6_isStruck 21 = .ok (.iconst 0, 1) := by decide +kernel
theorem dX6_isStruck_22 : decode cX6_isStruck 22 = .ok (.ireturn, 1) := by decide +kernel
set_option maxRecDepth 20000 in
theorem ggX6_isStruck_X6_has : GoodIn wsX6_isStruck wsX6_has := goodIn_sub (List.forall_mem_cons.mpr ⟨List.mem_cons_of_mem _ (List.mem_append_left _ (List.mem_of_getElem? (i := 5) rfl)), (List.forall_mem_append.mpr ⟨(List.forall_mem_cons.mpr ⟨List.mem_cons_of_mem _ (List.mem_append_left _ (List.mem_of_getElem? (i := 6) rfl)), (fun _ h => nomatch h)⟩), (fun _ h => List.mem_cons_of_mem _ (List.mem_append_right _ (h)))⟩)⟩) (by decide +kernel)
set_option maxRecDepth 20000 in
theorem gX6_isStruck_X6_has : GoodIn wsX6_isStruck (wsV RX6 41 RX6 yX6_has wsX6_has) := goodIn_app (goodIn_of _ (by decide +kernel)) ggX6_isStruck_X6_has
theorem kX6_isStruck_0 : (.fieldLink RX6 28 "RunDesk$Runners" "struck" "[Z" : Cond) ∈ wsX6_isStruck := List.mem_of_getElem? (i := 1) (by decide +kernel)
theorem qX6_isStruck_X6 : ∀ w ∈ wsX60, w ∈ wsX6_isStruck := fun _ h => List.mem_cons_of_mem _ (List.mem_append_right _ (h))
set_option maxHeartbeats 4000000 in
set_option maxRecDepth 100000 in
theorem mX6_isStruck (l : Launch) (D : va_G) (cB cI cZ : ClassId) (a_t : Nat) (a_t_facts : Nat) (a_t_splits : Nat) (a_t_torn : Nat) (a_t_dropped : Nat) (a_t_waved : Nat) (a_t_struck : Nat) (a_t_strikingOrder : Nat) (t_entered : Int32) (t_strikings : Int32) (t_struck : Nat → Int32) (sz : Nat) (x1 : Int32) (b0 : Bool) (h : fX6_isStruck t_entered t_struck x1 = some (b0)) : Met l yX6_isStruck wsX6_isStruck ({ frames := 1, cells := 0, slots := 0, locals := 21 } : Room) (va_Pc [.ref a_t, .int x1] (zPre D (zT cB cI cZ) [(a_t, .inr (6, [.ref a_t_facts, .ref a_t_splits, .ref a_t_torn, .ref a_t_dropped, .ref a_t_waved, .ref a_t_struck, .ref a_t_strikingOrder, .int t_entered, .int t_strikings])), (a_t_struck, .inl (cZ, 60, .inl t_struck))] sz)) (zQi (zb b0) D (zT cB cI cZ) [(a_t, .inr (6, [.ref a_t_facts, .ref a_t_splits, .ref a_t_torn, .ref a_t_dropped, .ref a_t_waved, .ref a_t_struck, .ref a_t_strikingOrder, .int t_entered, .int t_strikings])), (a_t_struck, .inl (cZ, 60, .inl t_struck))] (va_A [(a_t, .inr (6, [.ref a_t_facts, .ref a_t_splits, .ref a_t_torn, .ref a_t_dropped, .ref a_t_waved, .ref a_t_struck, .ref a_t_strikingOrder, .int t_entered, .int t_strikings])), (a_t_struck, .inl (cZ, 60, .inl t_struck))] sz)) 0 0 (va_A [(a_t, .inr (6, [.ref a_t_facts, .ref a_t_splits, .ref a_t_torn, .ref a_t_dropped, .ref a_t_waved, .ref a_t_struck, .ref a_t_strikingOrder, .int t_entered, .int t_strikings])), (a_t_struck, .inl (cZ, 60, .inl t_struck))] sz) := by
  refine Met.ofW (cc := cX6_isStruck) (maxL := 2) (ret := (some .boolean)) (by decide) rfl ?_
  intro p e s m args below meth c s₁ B hml hv
  obtain ⟨rfl, hsz, hP, hK, hN, hZ, hD0⟩ := hv
  have hx := B.exec
  have hb := B.bytes
  have hr := B.returns
  have hts := atoms_spec (ws := wsX6_isStruck) B.pre
  have hown : s.vm.findClass RX6 = some m.cls := findClass_of_methodNamed B.named
  have hlocks := B.notSynchronized
  subst hsz
  have hD := hD0.self (sz := s.heap.size)
  generalize hAe : va_A [(a_t, .inr (6, [.ref a_t_facts, .ref a_t_splits, .ref a_t_torn, .ref a_t_dropped, .ref a_t_waved, .ref a_t_struck, .ref a_t_strikingOrder, .int t_entered, .int t_strikings])), (a_t_struck, .inl (cZ, 60, .inl t_struck))] s.heap.size = A at hD hZ ⊢
  have hA : ∀ q : Nat, s.heap.size ≤ q → A q := fun q h => by rw [← hAe]; exact Or.inr h
  have hS : va_S A s.heap s.heap [] := va_S.rf
  have hl := lv_entry ([.ref a_t, .int x1]) (n := 2) (Nat.le_of_ble_eq_true rfl)
  rw [lg_entry_eq]
  generalize (lg_sl ([.ref a_t, .int x1]) ++ List.replicate (2 - (lg_sl ([.ref a_t, .int x1])).length) Slot.unset).toArray = ls at hl ⊢
  have hl : lv_has ls 2 [(0, .ref a_t), (1, .int x1)] := hl
  unfold fX6_isStruck at h
  refine lv_aload_n hx hb dX6_isStruck_0 rfl (lv_at hl 0 rfl) ?_
  refine lv_iload_n hx hb dX6_isStruck_1 rfl (lv_at hl 1 rfl) ?_
  obtain ⟨b1, e2, h⟩ := zz_b h
  refine zVi (As := [.int x1]) (rest := []) (C := RX6) (wr := [(a_t_struck, .inl (cZ, 60, .inl t_struck))]) [0] [1] 0 ⟨hx, hb, hml, hown, hts⟩ (mX6_has l D cB cI cZ a_t a_t_facts a_t_splits a_t_torn a_t_dropped a_t_waved a_t_struck a_t_strikingOrder t_entered t_strikings s.heap.size x1 b1 e2) (cwV 1 hts gX6_isStruck_X6_has rfl rfl rfl (by decide +kernel) ⟨Nat.le_of_ble_eq_true rfl, Nat.le_of_ble_eq_true rfl⟩) hK hN hZ hP hD hS hA rfl rfl rfl rfl rfl rfl rfl rfl hl.1 rfl (lv_room (Nat.le_of_ble_eq_true rfl)) dX6_isStruck_2 ⟨Nat.le_of_ble_eq_true rfl, Nat.le_of_ble_eq_true rfl⟩ (fun H locs hP hD hS => ?_)
  have hP : va_P D vwCl [(a_t_struck, .inl (cZ, 60, .inl t_struck)), (a_t, .inr (6, [.ref a_t_facts, .ref a_t_splits, .ref a_t_torn, .ref a_t_dropped, .ref a_t_waved, .ref a_t_struck, .ref a_t_strikingOrder, .int t_entered, .int t_strikings]))] H := hP
  have hD : va_D A [(a_t_struck, .inl (cZ, 60, .inl t_struck)), (a_t, .inr (6, [.ref a_t_facts, .ref a_t_splits, .ref a_t_torn, .ref a_t_dropped, .ref a_t_waved, .ref a_t_struck, .ref a_t_strikingOrder, .int t_entered, .int t_strikings]))] := hD
  refine lv_if_eq (tgt := 21) hx hb dX6_isStruck_5 (by decide) (fun c3 => ?_) (fun c3 => ?_)
  · have h := zz_t h c3
    refine lv_iconst (v := (nI 0)) hx hb dX6_isStruck_21 rfl ?_
    have j0_ := Option.some.inj h
    subst j0_
    exact W.zret (v := (nI 0)) hx hb hr rfl (fun t ht hW => ⟨⟨_, (), rfl, rfl, zPost.of hP hD hK ht hW [1, 0] rfl rfl rfl⟩, hS.F ht⟩) hS.2.2 dX6_isStruck_22
  · have h := zz_f h c3
    refine lv_aload_n hx hb dX6_isStruck_8 rfl (lv_at hl 0 rfl) ?_
    refine va_get (D := D) (ci := 6) (C := RX6) (T := TX6) (N := 9) hx hb hts qX6_isStruck_X6 hown hK hP 1 rfl rfl 5 (by decide) (hts _ kX6_isStruck_0) (fun _ h9 => h9) rfl dX6_isStruck_9 ?_
    refine lv_iload_n hx hb dX6_isStruck_12 rfl (lv_at hl 1 rfl) ?_
    obtain ⟨i4, h⟩ := zz_i h
    refine va_zald hx hb hK hP 0 2 rfl rfl i4 dX6_isStruck_13 ?_
    refine lv_if_eq (tgt := 21) hx hb dX6_isStruck_14 (by decide) (fun c5 => ?_) (fun c5 => ?_)
    · have h := zz_t h c5
      refine lv_iconst (v := (nI 0)) hx hb dX6_isStruck_21 rfl ?_
      have j0_ := Option.some.inj h
      subst j0_
      exact W.zret (v := (nI 0)) hx hb hr rfl (fun t ht hW => ⟨⟨_, (), rfl, rfl, zPost.of hP hD hK ht hW [1, 0] rfl rfl rfl⟩, hS.F ht⟩) hS.2.2 dX6_isStruck_22
    · have h := zz_f h c5
      refine lv_iconst (v := (nI 1)) hx hb dX6_isStruck_17 rfl ?_
      refine lv_goto (tgt := 22) hx hb dX6_isStruck_18 (by decide) ?_
      have j0_ := Option.some.inj h
      subst j0_
      exact W.zret (v := (nI 1)) hx hb hr rfl (fun t ht hW => ⟨⟨_, (), rfl, rfl, zPost.of hP hD hK ht hW [1, 0] rfl rfl rfl⟩, hS.F ht⟩) hS.2.2 dX6_isStruck_22
/-! RunDesk$Runners.isDropped -/
theorem dX6_isDropped_0 : decode cX6_isDropped 0 = .ok (.aload_n 0, 1) := by decide +kernel
theorem dX6_isDropped_1 : decode cX6_isDropped 1 = .ok (.iload_n 1, 1) := by decide +kernel
theorem dX6_isDropped_2 : decode cX6_isDropped 2 = .ok (.invokevirtual 41, 3) := by decide +kernel
theorem dX6_isDropped_5 : decode cX6_isDropped 5 = .ok (.ifCond .eq 16, 3) := by decide +kernel
theorem dX6_isDropped_8 : decode cX6_isDropped 8 = .ok (.aload_n 0, 1) := by decide +kernel
theorem dX6_isDropped_9 : decode cX6_isDropped 9 = .ok (.getfield 21, 3) := by decide +kernel
theorem dX6_isDropped_12 : decode cX6_isDropped 12 = .ok (.iload_n 1, 1) := by decide +kernel
theorem dX6_isDropped_13 : decode cX6_isDropped 13 = .ok (.baload, 1) := by decide +kernel
theorem dX6_isDropped_14 : decode cX6_isDropped 14 = .ok (.ifCond .eq 7, 3) := by decide +kernel
theorem dX6_isDropped_17 : decode cX6_isDropped 17 = .ok (.iconst 1, 1) := by decide +kernel
theorem dX6_isDropped_18 : decode cX6_isDropped 18 = .ok (.goto 4, 3) := by decide +kernel
theorem dX6_isDropped_21 : decode cX6_isDropped 21 = .ok (.iconst 0, 1) := by decide +kernel
theorem dX6_isDropped_22 : decode cX6_isDropped 22 = .ok (.ireturn, 1) := by decide +kernel
set_option maxRecDepth 20000 in
theorem ggX6_isDropped_X6_has : GoodIn wsX6_isDropped wsX6_has := goodIn_sub (List.forall_mem_cons.mpr ⟨List.mem_cons_of_mem _ (List.mem_append_left _ (List.mem_of_getElem? (i := 5) rfl)), (List.forall_mem_append.mpr ⟨(List.forall_mem_cons.mpr ⟨List.mem_cons_of_mem _ (List.mem_append_left _ (List.mem_of_getElem? (i := 6) rfl)), (fun _ h => nomatch h)⟩), (fun _ h => List.mem_cons_of_mem _ (List.mem_append_right _ (h)))⟩)⟩) (by decide +kernel)
set_option maxRecDepth 20000 in
theorem gX6_isDropped_X6_has : GoodIn wsX6_isDropped (wsV RX6 41 RX6 yX6_has wsX6_has) := goodIn_app (goodIn_of _ (by decide +kernel)) ggX6_isDropped_X6_has
theorem kX6_isDropped_0 : (.fieldLink RX6 21 "RunDesk$Runners" "dropped" "[Z" : Cond) ∈ wsX6_isDropped := List.mem_of_getElem? (i := 1) (by decide +kernel)
theorem qX6_isDropped_X6 : ∀ w ∈ wsX60, w ∈ wsX6_isDropped := fun _ h => List.mem_cons_of_mem _ (List.mem_append_right _ (h))
set_option maxHeartbeats 4000000 in
set_option maxRecDepth 100000 in
theorem mX6_isDropped (l : Launch) (D : va_G) (cB cI cZ : ClassId) (a_t : Nat) (a_t_facts : Nat) (a_t_splits : Nat) (a_t_torn : Nat) (a_t_dropped : Nat) (a_t_waved : Nat) (a_t_struck : Nat) (a_t_strikingOrder : Nat) (t_entered : Int32) (t_strikings : Int32) (t_dropped : Nat → Int32) (sz : Nat) (x1 : Int32) (b0 : Bool) (h : fX6_isDropped t_entered t_dropped x1 = some (b0)) : Met l yX6_isDropped wsX6_isDropped ({ frames := 1, cells := 0, slots := 0, locals := 21 } : Room) (va_Pc [.ref a_t, .int x1] (zPre D (zT cB cI cZ) [(a_t, .inr (6, [.ref a_t_facts, .ref a_t_splits, .ref a_t_torn, .ref a_t_dropped, .ref a_t_waved, .ref a_t_struck, .ref a_t_strikingOrder, .int t_entered, .int t_strikings])), (a_t_dropped, .inl (cZ, 60, .inl t_dropped))] sz)) (zQi (zb b0) D (zT cB cI cZ) [(a_t, .inr (6, [.ref a_t_facts, .ref a_t_splits, .ref a_t_torn, .ref a_t_dropped, .ref a_t_waved, .ref a_t_struck, .ref a_t_strikingOrder, .int t_entered, .int t_strikings])), (a_t_dropped, .inl (cZ, 60, .inl t_dropped))] (va_A [(a_t, .inr (6, [.ref a_t_facts, .ref a_t_splits, .ref a_t_torn, .ref a_t_dropped, .ref a_t_waved, .ref a_t_struck, .ref a_t_strikingOrder, .int t_entered, .int t_strikings])), (a_t_dropped, .inl (cZ, 60, .inl t_dropped))] sz)) 0 0 (va_A [(a_t, .inr (6, [.ref a_t_facts, .ref a_t_splits, .ref a_t_torn, .ref a_t_dropped, .ref a_t_waved, .ref a_t_struck, .ref a_t_strikingOrder, .int t_entered, .int t_strikings])), (a_t_dropped, .inl (cZ, 60, .inl t_dropped))] sz) := by
  refine Met.ofW (cc := cX6_isDropped) (maxL := 2) (ret := (some .boolean)) (by decide) rfl ?_
  intro p e s m args below meth c s₁ B hml hv
  obtain ⟨rfl, hsz, hP, hK, hN, hZ, hD0⟩ := hv
  have hx := B.exec
  have hb := B.bytes
  have hr := B.returns
  have hts := atoms_spec (ws := wsX6_isDropped) B.pre
  have hown : s.vm.findClass RX6 = some m.cls := findClass_of_methodNamed B.named
  have hlocks := B.notSynchronized
  subst hsz
  have hD := hD0.self (sz := s.heap.size)
  generalize hAe : va_A [(a_t, .inr (6, [.ref a_t_facts, .ref a_t_splits, .ref a_t_torn, .ref a_t_dropped, .ref a_t_waved, .ref a_t_struck, .ref a_t_strikingOrder, .int t_entered, .int t_strikings])), (a_t_dropped, .inl (cZ, 60, .inl t_dropped))] s.heap.size = A at hD hZ ⊢
  have hA : ∀ q : Nat, s.heap.size ≤ q → A q := fun q h => by rw [← hAe]; exact Or.inr h
  have hS : va_S A s.heap s.heap [] := va_S.rf
  have hl := lv_entry ([.ref a_t, .int x1]) (n := 2) (Nat.le_of_ble_eq_true rfl)
  rw [lg_entry_eq]
  generalize (lg_sl ([.ref a_t, .int x1]) ++ List.replicate (2 - (lg_sl ([.ref a_t, .int x1])).length) Slot.unset).toArray = ls at hl ⊢
  have hl : lv_has ls 2 [(0, .ref a_t), (1, .int x1)] := hl
  unfold fX6_isDropped at h
  refine lv_aload_n hx hb dX6_isDropped_0 rfl (lv_at hl 0 rfl) ?_
  refine lv_iload_n hx hb dX6_isDropped_1 rfl (lv_at hl 1 rfl) ?_
  obtain ⟨b1, e2, h⟩ := zz_b h
  refine zVi (As := [.int x1]) (rest := []) (C := RX6) (wr := [(a_t_dropped, .inl (cZ, 60, .inl t_dropped))]) [0] [1] 0 ⟨hx, hb, hml, hown, hts⟩ (mX6_has l D cB cI cZ a_t a_t_facts a_t_splits a_t_torn a_t_dropped a_t_waved a_t_struck a_t_strikingOrder t_entered t_strikings s.heap.size x1 b1 e2) (cwV 1 hts gX6_isDropped_X6_has rfl rfl rfl (by decide +kernel) ⟨Nat.le_of_ble_eq_true rfl, Nat.le_of_ble_eq_true rfl⟩) hK hN hZ hP hD hS hA rfl rfl rfl rfl rfl rfl rfl rfl hl.1 rfl (lv_room (Nat.le_of_ble_eq_true rfl)) dX6_isDropped_2 ⟨Nat.le_of_ble_eq_true rfl, Nat.le_of_ble_eq_true rfl⟩ (fun H locs hP hD hS => ?_)
  have hP : va_P D vwCl [(a_t_dropped, .inl (cZ, 60, .inl t_dropped)), (a_t, .inr (6, [.ref a_t_facts, .ref a_t_splits, .ref a_t_torn, .ref a_t_dropped, .ref a_t_waved, .ref a_t_struck, .ref a_t_strikingOrder, .int t_entered, .int t_strikings]))] H := hP
  have hD : va_D A [(a_t_dropped, .inl (cZ, 60, .inl t_dropped)), (a_t, .inr (6, [.ref a_t_facts, .ref a_t_splits, .ref a_t_torn, .ref a_t_dropped, .ref a_t_waved, .ref a_t_struck, .ref a_t_strikingOrder, .int t_entered, .int t_strikings]))] := hD
  refine lv_if_eq (tgt := 21) hx hb dX6_isDropped_5 (by decide) (fun c3 => ?_) (fun c3 => ?_)
  · have h := zz_t h c3
    refine lv_iconst (v := (nI 0)) hx hb dX6_isDropped_21 rfl ?_
    have j0_ := Option.some.inj h
    subst j0_
    exact W.zret (v := (nI 0)) hx hb hr rfl (fun t ht hW => ⟨⟨_, (), rfl, rfl, zPost.of hP hD hK ht hW [1, 0] rfl rfl rfl⟩, hS.F ht⟩) hS.2.2 dX6_isDropped_22
  · have h := zz_f h c3
    refine lv_aload_n hx hb dX6_isDropped_8 rfl (lv_at hl 0 rfl) ?_
    refine va_get (D := D) (ci := 6) (C := RX6) (T := TX6) (N := 9) hx hb hts qX6_isDropped_X6 hown hK hP 1 rfl rfl 3 (by decide) (hts _ kX6_isDropped_0) (fun _ h9 => h9) rfl dX6_isDropped_9 ?_
    refine lv_iload_n hx hb dX6_isDropped_12 rfl (lv_at hl 1 rfl) ?_
    obtain ⟨i4, h⟩ := zz_i h
    refine va_zald hx hb hK hP 0 2 rfl rfl i4 dX6_isDropped_13 ?_
    refine lv_if_eq (tgt := 21) hx hb dX6_isDropped_14 (by decide) (fun c5 => ?_) (fun c5 => ?_)
    · have h := zz_t h c5
      refine lv_iconst (v := (nI 0)) hx hb dX6_isDropped_21 rfl ?_
      have j0_ := Option.some.inj h
      subst j0_
      exact W.zret (v := (nI 0)) hx hb hr rfl (fun t ht hW => ⟨⟨_, (), rfl, rfl, zPost.of hP hD hK ht hW [1, 0] rfl rfl rfl⟩, hS.F ht⟩) hS.2.2 dX6_isDropped_22
    · have h := zz_f h c5
      refine lv_iconst (v := (nI 1)) hx hb dX6_isDropped_17 rfl ?_
      refine lv_goto (tgt := 22) hx hb dX6_isDropped_18 (by decide) ?_
      have j0_ := Option.some.inj h
      subst j0_
      exact W.zret (v := (nI 1)) hx hb hr rfl (fun t ht hW => ⟨⟨_, (), rfl, rfl, zPost.of hP hD hK ht hW [1, 0] rfl rfl rfl⟩, hS.F ht⟩) hS.2.2 dX6_isDropped_22
/-! RunDesk$Runners.isWaved -/
theorem dX6_isWaved_0 : decode cX6_isWaved 0 = .ok (.aload_n 0, 1) := by decide +kernel
theorem dX6_isWaved_1 : decode cX6_isWaved 1 = .ok (.iload_n 1, 1) := by decide +kernel
theorem dX6_isWaved_2 : decode cX6_isWaved 2 = .ok (.invokevirtual 41, 3) := by decide +kernel
theorem dX6_isWaved_5 : decode cX6_isWaved 5 = .ok (.ifCond .eq 16, 3) := by decide +kernel
theorem dX6_isWaved_8 : decode cX6_isWaved 8 = .ok (.aload_n 0, 1) := by decide +kernel
theorem dX6_isWaved_9 : decode cX6_isWaved 9 = .ok (.getfield 25, 3) := by decide +kernel
theorem dX6_isWaved_12 : decode cX6_isWaved 12 = .ok (.iload_n 1, 1) := by decide +kernel
theorem dX6_isWaved_13 : decode cX6_isWaved 13 = .ok (.baload, 1) := by decide +kernel
theorem dX6_isWaved_14 : decode cX6_isWaved 14 = .ok (.ifCond .eq 7, 3) := by decide +kernel
theorem dX6_isWaved_17 : decode cX6_isWaved 17 = .ok (.iconst 1, 1) := by decide +kernel
theorem dX6_isWaved_18 : decode cX6_isWaved 18 = .ok (.goto 4, 3) := by decide +kernel
theorem dX6_isWaved_21 : decode cX6_isWaved 21 = .ok (.iconst 0, 1) := by decide +kernel
theorem dX6_isWaved_22 : decode cX6_isWaved 22 = .ok (.ireturn, 1) := by decide +kernel
set_option maxRecDepth 20000 in
theorem ggX6_isWaved_X6_has : GoodIn wsX6_isWaved wsX6_has := goodIn_sub (List.forall_mem_cons.mpr ⟨List.mem_cons_of_mem _ (List.mem_append_left _ (List.mem_of_getElem? (i := 5) rfl)), (List.forall_mem_append.mpr ⟨(List.forall_mem_cons.mpr ⟨List.mem_cons_of_mem _ (List.mem_append_left _ (List.mem_of_getElem? (i := 6) rfl)), (fun _ h => nomatch h)⟩), (fun _ h => List.mem_cons_of_mem _ (List.mem_append_right _ (h)))⟩)⟩) (by decide +kernel)
set_option maxRecDepth 20000 in
theorem gX6_isWaved_X6_has : GoodIn wsX6_isWaved (wsV RX6 41 RX6 yX6_has wsX6_has) := goodIn_app (goodIn_of _ (by decide +kernel)) ggX6_isWaved_X6_has
theorem kX6_isWaved_0 : (.fieldLink RX6 25 "RunDesk$Runners" "waved" "[Z" : Cond) ∈ wsX6_isWaved := List.mem_of_getElem? (i := 1) (by decide +kernel)
theorem qX6_isWaved_X6 : ∀ w ∈ wsX60, w ∈ wsX6_isWaved := fun _ h => List.mem_cons_of_mem _ (List.mem_append_right _ (h))
set_option maxHeartbeats 4000000 in
set_option maxRecDepth 100000 in
theorem mX6_isWaved (l : Launch) (D : va_G) (cB cI cZ : ClassId) (a_t : Nat) (a_t_facts : Nat) (a_t_splits : Nat) (a_t_torn : Nat) (a_t_dropped : Nat) (a_t_waved : Nat) (a_t_struck : Nat) (a_t_strikingOrder : Nat) (t_entered : Int32) (t_strikings : Int32) (t_waved : Nat → Int32) (sz : Nat) (x1 : Int32) (b0 : Bool) (h : fX6_isWaved t_entered t_waved x1 = some (b0)) : Met l yX6_isWaved wsX6_isWaved ({ frames := 1, cells := 0, slots := 0, locals := 21 } : Room) (va_Pc [.ref a_t, .int x1] (zPre D (zT cB cI cZ) [(a_t, .inr (6, [.ref a_t_facts, .ref a_t_splits, .ref a_t_torn, .ref a_t_dropped, .ref a_t_waved, .ref a_t_struck, .ref a_t_strikingOrder, .int t_entered, .int t_strikings])), (a_t_waved, .inl (cZ, 60, .inl t_waved))] sz)) (zQi (zb b0) D (zT cB cI cZ) [(a_t, .inr (6, [.ref a_t_facts, .ref a_t_splits, .ref a_t_torn, .ref a_t_dropped, .ref a_t_waved, .ref a_t_struck, .ref a_t_strikingOrder, .int t_entered, .int t_strikings])), (a_t_waved, .inl (cZ, 60, .inl t_waved))] (va_A [(a_t, .inr (6, [.ref a_t_facts, .ref a_t_splits, .ref a_t_torn, .ref a_t_dropped, .ref a_t_waved, .ref a_t_struck, .ref a_t_strikingOrder, .int t_entered, .int t_strikings])), (a_t_waved, .inl (cZ, 60, .inl t_waved))] sz)) 0 0 (va_A [(a_t, .inr (6, [.ref a_t_facts, .ref a_t_splits, .ref a_t_torn, .ref a_t_dropped, .ref a_t_waved, .ref a_t_struck, .ref a_t_strikingOrder, .int t_entered, .int t_strikings])), (a_t_waved, .inl (cZ, 60, .inl t_waved))] sz) := by
  refine Met.ofW (cc := cX6_isWaved) (maxL := 2) (ret := (some .boolean)) (by decide) rfl ?_
  intro p e s m args below meth c s₁ B hml hv
  obtain ⟨rfl, hsz, hP, hK, hN, hZ, hD0⟩ := hv
  have hx := B.exec
  have hb := B.bytes
  have hr := B.returns
  have hts := atoms_spec (ws := wsX6_isWaved) B.pre
  have hown : s.vm.findClass RX6 = some m.cls := findClass_of_methodNamed B.named
  have hlocks := B.notSynchronized
  subst hsz
  have hD := hD0.self (sz := s.heap.size)
  generalize hAe : va_A [(a_t, .inr (6, [.ref a_t_facts, .ref a_t_splits, .ref a_t_torn, .ref a_t_dropped, .ref a_t_waved, .ref a_t_struck, .ref a_t_strikingOrder, .int t_entered, .int t_strikings])), (a_t_waved, .inl (cZ, 60, .inl t_waved))] s.heap.size = A at hD hZ ⊢
  have hA : ∀ q : Nat, s.heap.size ≤ q → A q := fun q h => by rw [← hAe]; exact Or.inr h
  have hS : va_S A s.heap s.heap [] := va_S.rf
  have hl := lv_entry ([.ref a_t, .int x1]) (n := 2) (Nat.le_of_ble_eq_true rfl)
  rw [lg_entry_eq]
  generalize (lg_sl ([.ref a_t, .int x1]) ++ List.replicate (2 - (lg_sl ([.ref a_t, .int x1])).length) Slot.unset).toArray = ls at hl ⊢
  have hl : lv_has ls 2 [(0, .ref a_t), (1, .int x1)] := hl
  unfold fX6_isWaved at h
  refine lv_aload_n hx hb dX6_isWaved_0 rfl (lv_at hl 0 rfl) ?_
  refine lv_iload_n hx hb dX6_isWaved_1 rfl (lv_at hl 1 rfl) ?_
  obtain ⟨b1, e2, h⟩ := zz_b h
  refine zVi (As := [.int x1]) (rest := []) (C := RX6) (wr := [(a_t_waved, .inl (cZ, 60, .inl t_waved))]) [0] [1] 0 ⟨hx, hb, hml, hown, hts⟩ (mX6_has l D cB cI cZ a_t a_t_facts a_t_splits a_t_torn a_t_dropped a_t_waved a_t_struck a_t_strikingOrder t_entered t_strikings s.heap.size x1 b1 e2) (cwV 1 hts gX6_isWaved_X6_has rfl rfl rfl (by decide +kernel) ⟨Nat.le_of_ble_eq_true rfl, Nat.le_of_ble_eq_true rfl⟩) hK hN hZ hP hD hS hA rfl rfl rfl rfl rfl rfl rfl rfl hl.1 rfl (lv_room (Nat.le_of_ble_eq_true rfl)) dX6_isWaved_2 ⟨Nat.le_of_ble_eq_true rfl, Nat.le_of_ble_eq_true rfl⟩ (fun H locs hP hD hS => ?_)
  have hP : va_P D vwCl [(a_t_waved, .inl (cZ, 60, .inl t_waved)), (a_t, .inr (6, [.ref a_t_facts, .ref a_t_splits, .ref a_t_torn, .ref a_t_dropped, .ref a_t_waved, .ref a_t_struck, .ref a_t_strikingOrder, .int t_entered, .int t_strikings]))] H := hP
  have hD : va_D A [(a_t_waved, .inl (cZ, 60, .inl t_waved)), (a_t, .inr (6, [.ref a_t_facts, .ref a_t_splits, .ref a_t_torn, .ref a_t_dropped, .ref a_t_waved, .ref a_t_struck, .ref a_t_strikingOrder, .int t_entered, .int t_strikings]))] := hD
  refine lv_if_eq (tgt := 21) hx hb dX6_isWaved_5 (by decide) (fun c3 => ?_) (fun c3 => ?_)
  · have h := zz_t h c3
    refine lv_iconst (v := (nI 0)) hx hb dX6_isWaved_21 rfl ?_
    have j0_ := Option.some.inj h
    subst j0_
    exact W.zret (v := (nI 0)) hx hb hr rfl (fun t ht hW => ⟨⟨_, (), rfl, rfl, zPost.of hP hD hK ht hW [1, 0] rfl rfl rfl⟩, hS.F ht⟩) hS.2.2 dX6_isWaved_22
  · have h := zz_f h c3
    refine lv_aload_n hx hb dX6_isWaved_8 rfl (lv_at hl 0 rfl) ?_
    refine va_get (D := D) (ci := 6) (C := RX6) (T := TX6) (N := 9) hx hb hts qX6_isWaved_X6 hown hK hP 1 rfl rfl 4 (by decide) (hts _ kX6_isWaved_0) (fun _ h9 => h9) rfl dX6_isWaved_9 ?_
    refine lv_iload_n hx hb dX6_isWaved_12 rfl (lv_at hl 1 rfl) ?_
    obtain ⟨i4, h⟩ := zz_i h
    refine va_zald hx hb hK hP 0 2 rfl rfl i4 dX6_isWaved_13 ?_
    refine lv_if_eq (tgt := 21) hx hb dX6_isWaved_14 (by decide) (fun c5 => ?_) (fun c5 => ?_)
    · have h := zz_t h c5
      refine lv_iconst (v := (nI 0)) hx hb dX6_isWaved_21 rfl ?_
      have j0_ := Option.some.inj h
      subst j0_
      exact W.zret (v := (nI 0)) hx hb hr rfl (fun t ht hW => ⟨⟨_, (), rfl, rfl, zPost.of hP hD hK ht hW [1, 0] rfl rfl rfl⟩, hS.F ht⟩) hS.2.2 dX6_isWaved_22
    · have h := zz_f h c5
      refine lv_iconst (v := (nI 1)) hx hb dX6_isWaved_17 rfl ?_
      refine lv_goto (tgt := 22) hx hb dX6_isWaved_18 (by decide) ?_
      have j0_ := Option.some.inj h
      subst j0_
      exact W.zret (v := (nI 1)) hx hb hr rfl (fun t ht hW => ⟨⟨_, (), rfl, rfl, zPost.of hP hD hK ht hW [1, 0] rfl rfl rfl⟩, hS.F ht⟩) hS.2.2 dX6_isWaved_22
/-! RunDesk$Way.cutAt -/
theorem dX9_cutAt_0 : decode cX9_cutAt 0 = .ok (.aload_n 0, 1) := by decide +kernel
theorem dX9_cutAt_1 : decode cX9_cutAt 1 = .ok (.iload_n 1, 1) := by decide +kernel
theorem dX9_cutAt_2 : decode cX9_cutAt 2 = .ok (.invokevirtual 33, 3) := by decide +kernel
theorem dX9_cutAt_5 : decode cX9_cutAt 5 = .ok (.ifCond .eq 12, 3) := by decide +kernel
theorem dX9_cutAt_8 : decode cX9_cutAt 8 = .ok (.aload_n 0, 1) := by decide +kernel
theorem dX9_cutAt_9 : decode cX9_cutAt 9 = .ok (.getfield 18, 3) := by decide +kernel
theorem dX9_cutAt_12 : decode cX9_cutAt 12 = .ok (.iload_n 1, 1) := by decide +kernel
theorem dX9_cutAt_13 : decode cX9_cutAt 13 = .ok (.iaload, 1) := by decide +kernel
theorem dX9_cutAt_14 : decode cX9_cutAt 14 = .ok (.goto 4, 3) := by decide +kernel
theorem dX9_cutAt_17 : decode cX9_cutAt 17 = .ok (.iconst (-1), 1) := by decide +kernel
theorem dX9_cutAt_18 : decode cX9_cutAt 18 = .ok (.ireturn, 1) := by decide +kernel
set_option maxRecDepth 20000 in
theorem ggX9_cutAt_X9_has : GoodIn wsX9_cutAt wsX9_has := goodIn_sub (List.forall_mem_cons.mpr ⟨List.mem_cons_of_mem _ (List.mem_append_left _ (List.mem_of_getElem? (i := 5) rfl)), (List.forall_mem_append.mpr ⟨(List.forall_mem_cons.mpr ⟨List.mem_cons_of_mem _ (List.mem_append_left _ (List.mem_of_getElem? (i := 6) rfl)), (fun _ h => nomatch h)⟩), (fun _ h => List.mem_cons_of_mem _ (List.mem_append_right _ (h)))⟩)⟩) (by decide +kernel)
set_option maxRecDepth 20000 in
theorem gX9_cutAt_X9_has : GoodIn wsX9_cutAt (wsV RX9 33 RX9 yX9_has wsX9_has) := goodIn_app (goodIn_of _ (by decide +kernel)) ggX9_cutAt_X9_has
theorem kX9_cutAt_0 : (.fieldLink RX9 18 "RunDesk$Way" "cuts" "[I" : Cond) ∈ wsX9_cutAt := List.mem_of_getElem? (i := 1) (by decide +kernel)
theorem qX9_cutAt_X9 : ∀ w ∈ wsX90, w ∈ wsX9_cutAt := fun _ h => List.mem_cons_of_mem _ (List.mem_append_right _ (h))
set_option maxHeartbeats 4000000 in
set_option maxRecDepth 100000 in
theorem mX9_cutAt (l : Launch) (D : va_G) (cB cI cZ : ClassId) (a_t : Nat) (a_t_places : Nat) (a_t_bearings : Nat) (a_t_cuts : Nat) (a_t_deaths : Nat) (t_mats : Int32) (t_cuts : Nat → Int32) (sz : Nat) (x1 : Int32) (r0 : Int32) (h : fX9_cutAt t_mats t_cuts x1 = some (r0)) : Met l yX9_cutAt wsX9_cutAt ({ frames := 1, cells := 0, slots := 0, locals := 21 } : Room) (va_Pc [.ref a_t, .int x1] (zPre D (zT cB cI cZ) [(a_t, .inr (9, [.ref a_t_places, .ref a_t_bearings, .ref a_t_cuts, .ref a_t_deaths, .int t_mats])), (a_t_cuts, .inl (cI, 12, .inl t_cuts))] sz)) (zQi r0 D (zT cB cI cZ) [(a_t, .inr (9, [.ref a_t_places, .ref a_t_bearings, .ref a_t_cuts, .ref a_t_deaths, .int t_mats])), (a_t_cuts, .inl (cI, 12, .inl t_cuts))] (va_A [(a_t, .inr (9, [.ref a_t_places, .ref a_t_bearings, .ref a_t_cuts, .ref a_t_deaths, .int t_mats])), (a_t_cuts, .inl (cI, 12, .inl t_cuts))] sz)) 0 0 (va_A [(a_t, .inr (9, [.ref a_t_places, .ref a_t_bearings, .ref a_t_cuts, .ref a_t_deaths, .int t_mats])), (a_t_cuts, .inl (cI, 12, .inl t_cuts))] sz) := by
  refine Met.ofW (cc := cX9_cutAt) (maxL := 2) (ret := (some .int)) (by decide) rfl ?_
  intro p e s m args below meth c s₁ B hml hv
  obtain ⟨rfl, hsz, hP, hK, hN, hZ, hD0⟩ := hv
  have hx := B.exec
  have hb := B.bytes
  have hr := B.returns
  have hts := atoms_spec (ws := wsX9_cutAt) B.pre
  have hown : s.vm.findClass RX9 = some m.cls := findClass_of_methodNamed B.named
  have hlocks := B.notSynchronized
  subst hsz
  have hD := hD0.self (sz := s.heap.size)
  generalize hAe : va_A [(a_t, .inr (9, [.ref a_t_places, .ref a_t_bearings, .ref a_t_cuts, .ref a_t_deaths, .int t_mats])), (a_t_cuts, .inl (cI, 12, .inl t_cuts))] s.heap.size = A at hD hZ ⊢
  have hA : ∀ q : Nat, s.heap.size ≤ q → A q := fun q h => by rw [← hAe]; exact Or.inr h
  have hS : va_S A s.heap s.heap [] := va_S.rf
  have hl := lv_entry ([.ref a_t, .int x1]) (n := 2) (Nat.le_of_ble_eq_true rfl)
  rw [lg_entry_eq]
  generalize (lg_sl ([.ref a_t, .int x1]) ++ List.replicate (2 - (lg_sl ([.ref a_t, .int x1])).length) Slot.unset).toArray = ls at hl ⊢
  have hl : lv_has ls 2 [(0, .ref a_t), (1, .int x1)] := hl
  unfold fX9_cutAt at h
  refine lv_aload_n hx hb dX9_cutAt_0 rfl (lv_at hl 0 rfl) ?_
  refine lv_iload_n hx hb dX9_cutAt_1 rfl (lv_at hl 1 rfl) ?_
  obtain ⟨b1, e2, h⟩ := zz_b h
  refine zVi (As := [.int x1]) (rest := []) (C := RX9) (wr := [(a_t_cuts, .inl (cI, 12, .inl t_cuts))]) [0] [1] 0 ⟨hx, hb, hml, hown, hts⟩ (mX9_has l D cB cI cZ a_t a_t_places a_t_bearings a_t_cuts a_t_deaths t_mats s.heap.size x1 b1 e2) (cwV 1 hts gX9_cutAt_X9_has rfl rfl rfl (by decide +kernel) ⟨Nat.le_of_ble_eq_true rfl, Nat.le_of_ble_eq_true rfl⟩) hK hN hZ hP hD hS hA rfl rfl rfl rfl rfl rfl rfl rfl hl.1 rfl (lv_room (Nat.le_of_ble_eq_true rfl)) dX9_cutAt_2 ⟨Nat.le_of_ble_eq_true rfl, Nat.le_of_ble_eq_true rfl⟩ (fun H locs hP hD hS => ?_)
  have hP : va_P D vwCl [(a_t_cuts, .inl (cI, 12, .inl t_cuts)), (a_t, .inr (9, [.ref a_t_places, .ref a_t_bearings, .ref a_t_cuts, .ref a_t_deaths, .int t_mats]))] H := hP
  have hD : va_D A [(a_t_cuts, .inl (cI, 12, .inl t_cuts)), (a_t, .inr (9, [.ref a_t_places, .ref a_t_bearings, .ref a_t_cuts, .ref a_t_deaths, .int t_mats]))] := hD
  refine lv_if_eq (tgt := 17) hx hb dX9_cutAt_5 (by decide) (fun c3 => ?_) (fun c3 => ?_)
  · have h := zz_t h c3
    refine lv_iconst (v := (-1 : Int32)) hx hb dX9_cutAt_17 rfl ?_
    have j0_ := Option.some.inj h
    subst j0_
    exact W.iret (v := (-1 : Int32)) hx hb hr (fun t ht hW => ⟨⟨_, (), rfl, rfl, zPost.of hP hD hK ht hW [1, 0] rfl rfl rfl⟩, hS.F ht⟩) hS.2.2 dX9_cutAt_18
  · have h := zz_f h c3
    refine lv_aload_n hx hb dX9_cutAt_8 rfl (lv_at hl 0 rfl) ?_
    refine va_get (D := D) (ci := 9) (C := RX9) (T := TX9) (N := 5) hx hb hts qX9_cutAt_X9 hown hK hP 1 rfl rfl 2 (by decide) (hts _ kX9_cutAt_0) (fun _ h9 => h9) rfl dX9_cutAt_9 ?_
    refine lv_iload_n hx hb dX9_cutAt_12 rfl (lv_at hl 1 rfl) ?_
    obtain ⟨i4, h⟩ := zz_i h
    refine va_iald hx hb hK hP 0 1 rfl rfl i4 dX9_cutAt_13 ?_
    refine lv_goto (tgt := 18) hx hb dX9_cutAt_14 (by decide) ?_
    have j0_ := Option.some.inj h
    subst j0_
    exact W.iret (v := (t_cuts (x1).toNatClampNeg)) hx hb hr (fun t ht hW => ⟨⟨_, (), rfl, rfl, zPost.of hP hD hK ht hW [1, 0] rfl rfl rfl⟩, hS.F ht⟩) hS.2.2 dX9_cutAt_18
/-! RunDesk$Race.isOut -/
theorem dX4_isOut_0 : decode cX4_isOut 0 = .ok (.aload_n 0, 1) := by decide +kernel
theorem dX4_isOut_1 : decode cX4_isOut 1 = .ok (.getfield 28, 3) := by decide +kernel
theorem dX4_isOut_4 : decode cX4_isOut 4 = .ok (.iload_n 1, 1) := by decide +kernel
theorem dX4_isOut_5 : decode cX4_isOut 5 = .ok (.invokevirtual 110, 3) := by decide +kernel
theorem dX4_isOut_8 : decode cX4_isOut 8 = .ok (.ifCond .eq 5, 3) := by decide +kernel
theorem dX4_isOut_11 : decode cX4_isOut 11 = .ok (.iconst 0, 1) := by decide +kernel
theorem dX4_isOut_12 : decode cX4_isOut 12 = .ok (.ireturn, 1) := by decide +kernel
theorem dX4_isOut_13 : decode cX4_isOut 13 = .ok (.iconst 0, 1) := by decide +kernel
theorem dX4_isOut_14 : decode cX4_isOut 14 = .ok (.istore_n 2, 1) := by decide +kernel
theorem dX4_isOut_15 : decode cX4_isOut 15 = .ok (.iload_n 2, 1) := by decide +kernel
theorem dX4_isOut_16 : decode cX4_isOut 16 = .ok (.aload_n 0, 1) := by decide +kernel
theorem dX4_isOut_17 : decode cX4_isOut 17 = .ok (.getfield 12, 3) := by decide +kernel
theorem dX4_isOut_20 : decode cX4_isOut 20 = .ok (.invokevirtual 94, 3) := by decide +kernel
theorem dX4_isOut_23 : decode cX4_isOut 23 = .ok (.if_icmp .ge 38, 3) := by decide +kernel
theorem dX4_isOut_26 : decode cX4_isOut 26 = .ok (.aload_n 0, 1) := by decide +kernel
theorem dX4_isOut_27 : decode cX4_isOut 27 = .ok (.getfield 12, 3) := by decide +kernel
theorem dX4_isOut_30 : decode cX4_isOut 30 = .ok (.iload_n 2, 1) := by decide +kernel
theorem dX4_isOut_31 : decode cX4_isOut 31 = .ok (.invokevirtual 113, 3) := by decide +kernel
theorem dX4_isOut_34 : decode cX4_isOut 34 = .ok (.istore_n 3, 1) := by decide +kernel
theorem dX4_isOut_35 : decode cX4_isOut 35 = .ok (.iload_n 3, 1) := by decide +kernel
theorem dX4_isOut_36 : decode cX4_isOut 36 = .ok (.iconst (-1), 1) := by decide +kernel
theorem dX4_isOut_37 : decode cX4_isOut 37 = .ok (.if_icmp .eq 18, 3) := by decide +kernel
theorem dX4_isOut_40 : decode cX4_isOut 40 = .ok (.aload_n 0, 1) := by decide +kernel
theorem dX4_isOut_41 : decode cX4_isOut 41 = .ok (.getfield 28, 3) := by decide +kernel
theorem dX4_isOut_44 : decode cX4_isOut 44 = .ok (.iload_n 1, 1) := by decide +kernel
theorem dX4_isOut_45 : decode cX4_isOut 45 = .ok (.iload_n 2, 1) := by decide +kernel
theorem dX4_isOut_46 : decode cX4_isOut 46 = .ok (.invokevirtual 91, 3) := by decide +kernel
theorem dX4_isOut_49 : decode cX4_isOut 49 = .ok (.iload_n 3, 1) := by decide +kernel
theorem dX4_isOut_50 : decode cX4_isOut 50 = .ok (.if_icmp .le 5, 3) := by decide +kernel
theorem dX4_isOut_53 : decode cX4_isOut 53 = .ok (.iconst 1, 1) := by decide +kernel
theorem dX4_isOut_54 : decode cX4_isOut 54 = .ok (.ireturn, 1) := by decide +kernel
theorem dX4_isOut_55 : decode cX4_isOut 55 = .ok (.iinc 2 1, 3) := by decide +kernel
theorem dX4_isOut_58 : decode cX4_isOut 58 = .ok (.goto (-43), 3) := by decide +kernel
theorem dX4_isOut_61 : decode cX4_isOut 61 = .ok (.iconst 0, 1) := by decide +kernel
theorem dX4_isOut_62 : decode cX4_isOut 62 = .ok (.ireturn, 1) := by decide +kernel
set_option maxRecDepth 20000 in
theorem ggX4_isOut_X6_isWaved : GoodIn wsX4_isOut wsX6_isWaved := goodIn_sub (List.forall_mem_cons.mpr ⟨List.mem_cons_of_mem _ (List.mem_append_left _ (List.mem_append_left _ (List.mem_append_left _ (List.mem_append_left _ (List.mem_of_getElem? (l := wsX4_isOut_r1) (i := 6) rfl))))), (List.forall_mem_append.mpr ⟨(List.forall_mem_cons.mpr ⟨List.mem_cons_of_mem _ (List.mem_append_left _ (List.mem_append_left _ (List.mem_append_left _ (List.mem_append_left _ (List.mem_of_getElem? (l := wsX4_isOut_r1) (i := 7) rfl))))), (List.forall_mem_cons.mpr ⟨List.mem_cons_of_mem _ (List.mem_append_left _ (List.mem_append_left _ (List.mem_append_left _ (List.mem_append_left _ (List.mem_of_getElem? (l := wsX4_isOut_r1) (i := 8) rfl))))), (List.forall_mem_cons.mpr ⟨List.mem_cons_of_mem _ (List.mem_append_left _ (List.mem_append_left _ (List.mem_append_left _ (List.mem_append_left _ (List.mem_of_getElem? (l := wsX4_isOut_r1) (i := 9) rfl))))), (List.forall_mem_cons.mpr ⟨List.mem_cons_of_mem _ (List.mem_append_left _ (List.mem_append_left _ (List.mem_append_left _ (List.mem_append_left _ (List.mem_of_getElem? (l := wsX4_isOut_r1) (i := 10) rfl))))), (List.forall_mem_cons.mpr ⟨List.mem_cons_of_mem _ (List.mem_append_left _ (List.mem_append_left _ (List.mem_append_left _ (List.mem_append_left _ (List.mem_of_getElem? (l := wsX4_isOut_r1) (i := 5) rfl))))), (List.forall_mem_cons.mpr ⟨List.mem_cons_of_mem _ (List.mem_append_left _ (List.mem_append_left _ (List.mem_append_left _ (List.mem_append_left _ (List.mem_of_getElem? (l := wsX4_isOut_r1) (i := 11) rfl))))), (List.forall_mem_cons.mpr ⟨List.mem_cons_of_mem _ (List.mem_append_left _ (List.mem_append_left _ (List.mem_append_left _ (List.mem_append_left _ (List.mem_of_getElem? (l := wsX4_isOut_r1) (i := 12) rfl))))), (fun _ h => nomatch h)⟩)⟩)⟩)⟩)⟩)⟩)⟩), (fun _ h => List.mem_cons_of_mem _ (List.mem_append_left _ (List.mem_append_right _ (h))))⟩)⟩) (by decide +kernel)
set_option maxRecDepth 20000 in
theorem gX4_isOut_X6_isWaved : GoodIn wsX4_isOut (wsV RX4 110 RX6 yX6_isWaved wsX6_isWaved) := goodIn_app (goodIn_of _ (by decide +kernel)) ggX4_isOut_X6_isWaved
set_option maxRecDepth 20000 in
theorem ggX4_isOut_X9_size : GoodIn wsX4_isOut wsX9_size := goodIn_sub (List.forall_mem_cons.mpr ⟨List.mem_cons_of_mem _ (List.mem_append_left _ (List.mem_append_left _ (List.mem_append_left _ (List.mem_append_left _ (List.mem_of_getElem? (l := wsX4_isOut_r1) (i := 17) rfl))))), (List.forall_mem_append.mpr ⟨(List.forall_mem_cons.mpr ⟨List.mem_cons_of_mem _ (List.mem_append_left _ (List.mem_append_left _ (List.mem_append_left _ (List.mem_append_left _ (List.mem_of_getElem? (l := wsX4_isOut_r1) (i := 18) rfl))))), (fun _ h => nomatch h)⟩), (fun _ h => List.mem_cons_of_mem _ (List.mem_append_right _ (h)))⟩)⟩) (by decide +kernel)
set_option maxRecDepth 20000 in
theorem gX4_isOut_X9_size : GoodIn wsX4_isOut (wsV RX4 94 RX9 yX9_size wsX9_size) := goodIn_app (goodIn_of _ (by decide +kernel)) ggX4_isOut_X9_size
set_option maxRecDepth 20000 in
theorem ggX4_isOut_X9_cutAt : GoodIn wsX4_isOut wsX9_cutAt := goodIn_sub (List.forall_mem_cons.mpr ⟨List.mem_cons_of_mem _ (List.mem_append_left _ (List.mem_append_left _ (List.mem_append_left _ (List.mem_append_left _ (List.mem_of_getElem? (l := wsX4_isOut_r1) (i := 22) rfl))))), (List.forall_mem_append.mpr ⟨(List.forall_mem_cons.mpr ⟨List.mem_cons_of_mem _ (List.mem_append_left _ (List.mem_append_left _ (List.mem_append_left _ (List.mem_append_left _ (List.mem_of_getElem? (l := wsX4_isOut_r1) (i := 23) rfl))))), (List.forall_mem_cons.mpr ⟨List.mem_cons_of_mem _ (List.mem_append_left _ (List.mem_append_left _ (List.mem_append_left _ (List.mem_append_right _ (List.mem_of_getElem? (l := wsX4_isOut_r2) (i := 0) rfl))))), (List.forall_mem_cons.mpr ⟨List.mem_cons_of_mem _ (List.mem_append_left _ (List.mem_append_left _ (List.mem_append_left _ (List.mem_append_right _ (List.mem_of_getElem? (l := wsX4_isOut_r2) (i := 1) rfl))))), (List.forall_mem_cons.mpr ⟨List.mem_cons_of_mem _ (List.mem_append_left _ (List.mem_append_left _ (List.mem_append_left _ (List.mem_append_right _ (List.mem_of_getElem? (l := wsX4_isOut_r2) (i := 2) rfl))))), (List.forall_mem_cons.mpr ⟨List.mem_cons_of_mem _ (List.mem_append_left _ (List.mem_append_left _ (List.mem_append_left _ (List.mem_append_left _ (List.mem_of_getElem? (l := wsX4_isOut_r1) (i := 16) rfl))))), (List.forall_mem_cons.mpr ⟨List.mem_cons_of_mem _ (List.mem_append_left _ (List.mem_append_left _ (List.mem_append_left _ (List.mem_append_right _ (List.mem_of_getElem? (l := wsX4_isOut_r2) (i := 3) rfl))))), (List.forall_mem_cons.mpr ⟨List.mem_cons_of_mem _ (List.mem_append_left _ (List.mem_append_left _ (List.mem_append_left _ (List.mem_append_left _ (List.mem_of_getElem? (l := wsX4_isOut_r1) (i := 18) rfl))))), (fun _ h => nomatch h)⟩)⟩)⟩)⟩)⟩)⟩)⟩), (fun _ h => List.mem_cons_of_mem _ (List.mem_append_right _ (h)))⟩)⟩) (by decide +kernel)
set_option maxRecDepth 20000 in
theorem gX4_isOut_X9_cutAt : GoodIn wsX4_isOut (wsV RX4 113 RX9 yX9_cutAt wsX9_cutAt) := goodIn_app (goodIn_of _ (by decide +kernel)) ggX4_isOut_X9_cutAt
set_option maxRecDepth 20000 in
theorem ggX4_isOut_X6_splitAt : GoodIn wsX4_isOut wsX6_splitAt := goodIn_sub (List.forall_mem_cons.mpr ⟨List.mem_cons_of_mem _ (List.mem_append_left _ (List.mem_append_left _ (List.mem_append_left _ (List.mem_append_right _ (List.mem_of_getElem? (l := wsX4_isOut_r2) (i := 7) rfl))))), (List.forall_mem_append.mpr ⟨(List.forall_mem_cons.mpr ⟨List.mem_cons_of_mem _ (List.mem_append_left _ (List.mem_append_left _ (List.mem_append_left _ (List.mem_append_right _ (List.mem_of_getElem? (l := wsX4_isOut_r2) (i := 8) rfl))))), (List.forall_mem_cons.mpr ⟨List.mem_cons_of_mem _ (List.mem_append_left _ (List.mem_append_left _ (List.mem_append_left _ (List.mem_append_left _ (List.mem_of_getElem? (l := wsX4_isOut_r1) (i := 8) rfl))))), (List.forall_mem_cons.mpr ⟨List.mem_cons_of_mem _ (List.mem_append_left _ (List.mem_append_left _ (List.mem_append_left _ (List.mem_append_left _ (List.mem_of_getElem? (l := wsX4_isOut_r1) (i := 9) rfl))))), (List.forall_mem_cons.mpr ⟨List.mem_cons_of_mem _ (List.mem_append_left _ (List.mem_append_left _ (List.mem_append_left _ (List.mem_append_left _ (List.mem_of_getElem? (l := wsX4_isOut_r1) (i := 10) rfl))))), (List.forall_mem_cons.mpr ⟨List.mem_cons_of_mem _ (List.mem_append_left _ (List.mem_append_left _ (List.mem_append_left _ (List.mem_append_left _ (List.mem_of_getElem? (l := wsX4_isOut_r1) (i := 5) rfl))))), (List.forall_mem_cons.mpr ⟨List.mem_cons_of_mem _ (List.mem_append_left _ (List.mem_append_left _ (List.mem_append_left _ (List.mem_append_left _ (List.mem_of_getElem? (l := wsX4_isOut_r1) (i := 11) rfl))))), (List.forall_mem_cons.mpr ⟨List.mem_cons_of_mem _ (List.mem_append_left _ (List.mem_append_left _ (List.mem_append_left _ (List.mem_append_left _ (List.mem_of_getElem? (l := wsX4_isOut_r1) (i := 12) rfl))))), (fun _ h => nomatch h)⟩)⟩)⟩)⟩)⟩)⟩)⟩), (fun _ h => List.mem_cons_of_mem _ (List.mem_append_left _ (List.mem_append_right _ (h))))⟩)⟩) (by decide +kernel)
set_option maxRecDepth 20000 in
theorem gX4_isOut_X6_splitAt : GoodIn wsX4_isOut (wsV RX4 91 RX6 yX6_splitAt wsX6_splitAt) := goodIn_app (goodIn_of _ (by decide +kernel)) ggX4_isOut_X6_splitAt
theorem kX4_isOut_0 : (.fieldLink RX4 28 "RunDesk$Race" "runners" "LRunDesk$Runners;" : Cond) ∈ wsX4_isOut := List.mem_of_getElem? (i := 1) (by decide +kernel)
theorem qX4_isOut_X4 : ∀ w ∈ wsX40, w ∈ wsX4_isOut := fun _ h => List.mem_cons_of_mem _ (List.mem_append_left _ (List.mem_append_left _ (List.mem_append_right _ (h))))
theorem kX4_isOut_2 : (.fieldLink RX4 12 "RunDesk$Race" "way" "LRunDesk$Way;" : Cond) ∈ wsX4_isOut := List.mem_of_getElem? (i := 2) (by decide +kernel)
set_option maxHeartbeats 4000000 in
set_option maxRecDepth 100000 in
theorem mX4_isOut (l : Launch) (D : va_G) (cB cI cZ : ClassId) (a_t : Nat) (a_t_way : Nat) (a_t_guns : Nat) (a_t_runners : Nat) (a_t_runners_facts : Nat) (a_t_runners_splits : Nat) (a_t_runners_torn : Nat) (a_t_runners_dropped : Nat) (a_t_runners_waved : Nat) (a_t_runners_struck : Nat) (a_t_runners_strikingOrder : Nat) (a_t_way_places : Nat) (a_t_way_bearings : Nat) (a_t_way_cuts : Nat) (a_t_way_deaths : Nat) (t_runners_entered : Int32) (t_runners_strikings : Int32) (t_runners_splits : Nat → Int32) (t_runners_waved : Nat → Int32) (t_way_mats : Int32) (t_way_cuts : Nat → Int32) (sz : Nat) (x1 : Int32) (N : Nat) (b0 : Bool) (h : fX4_isOut N t_runners_entered t_runners_splits t_runners_waved t_way_mats t_way_cuts x1 = some (b0)) : Met l yX4_isOut wsX4_isOut ({ frames := 2, cells := 0, slots := 0, locals := 43 } : Room) (va_Pc [.ref a_t, .int x1] (zPre D (zT cB cI cZ) [(a_t, .inr (4, [.ref a_t_way, .ref a_t_guns, .ref a_t_runners])), (a_t_runners, .inr (6, [.ref a_t_runners_facts, .ref a_t_runners_splits, .ref a_t_runners_torn, .ref a_t_runners_dropped, .ref a_t_runners_waved, .ref a_t_runners_struck, .ref a_t_runners_strikingOrder, .int t_runners_entered, .int t_runners_strikings])), (a_t_runners_splits, .inl (cI, 720, .inl t_runners_splits)), (a_t_runners_waved, .inl (cZ, 60, .inl t_runners_waved)), (a_t_way, .inr (9, [.ref a_t_way_places, .ref a_t_way_bearings, .ref a_t_way_cuts, .ref a_t_way_deaths, .int t_way_mats])), (a_t_way_cuts, .inl (cI, 12, .inl t_way_cuts))] sz)) (zQi (zb b0) D (zT cB cI cZ) [(a_t, .inr (4, [.ref a_t_way, .ref a_t_guns, .ref a_t_runners])), (a_t_runners, .inr (6, [.ref a_t_runners_facts, .ref a_t_runners_splits, .ref a_t_runners_torn, .ref a_t_runners_dropped, .ref a_t_runners_waved, .ref a_t_runners_struck, .ref a_t_runners_strikingOrder, .int t_runners_entered, .int t_runners_strikings])), (a_t_runners_splits, .inl (cI, 720, .inl t_runners_splits)), (a_t_runners_waved, .inl (cZ, 60, .inl t_runners_waved)), (a_t_way, .inr (9, [.ref a_t_way_places, .ref a_t_way_bearings, .ref a_t_way_cuts, .ref a_t_way_deaths, .int t_way_mats])), (a_t_way_cuts, .inl (cI, 12, .inl t_way_cuts))] (va_A [(a_t, .inr (4, [.ref a_t_way, .ref a_t_guns, .ref a_t_runners])), (a_t_runners, .inr (6, [.ref a_t_runners_facts, .ref a_t_runners_splits, .ref a_t_runners_torn, .ref a_t_runners_dropped, .ref a_t_runners_waved, .ref a_t_runners_struck, .ref a_t_runners_strikingOrder, .int t_runners_entered, .int t_runners_strikings])), (a_t_runners_splits, .inl (cI, 720, .inl t_runners_splits)), (a_t_runners_waved, .inl (cZ, 60, .inl t_runners_waved)), (a_t_way, .inr (9, [.ref a_t_way_places, .ref a_t_way_bearings, .ref a_t_way_cuts, .ref a_t_way_deaths, .int t_way_mats])), (a_t_way_cuts, .inl (cI, 12, .inl t_way_cuts))] sz)) 0 0 (va_A [(a_t, .inr (4, [.ref a_t_way, .ref a_t_guns, .ref a_t_runners])), (a_t_runners, .inr (6, [.ref a_t_runners_facts, .ref a_t_runners_splits, .ref a_t_runners_torn, .ref a_t_runners_dropped, .ref a_t_runners_waved, .ref a_t_runners_struck, .ref a_t_runners_strikingOrder, .int t_runners_entered, .int t_runners_strikings])), (a_t_runners_splits, .inl (cI, 720, .inl t_runners_splits)), (a_t_runners_waved, .inl (cZ, 60, .inl t_runners_waved)), (a_t_way, .inr (9, [.ref a_t_way_places, .ref a_t_way_bearings, .ref a_t_way_cuts, .ref a_t_way_deaths, .int t_way_mats])), (a_t_way_cuts, .inl (cI, 12, .inl t_way_cuts))] sz) := by
  refine Met.ofW (cc := cX4_isOut) (maxL := 4) (ret := (some .boolean)) (by decide) rfl ?_
  intro p e s m args below meth c s₁ B hml hv
  obtain ⟨rfl, hsz, hP, hK, hN, hZ, hD0⟩ := hv
  have hx := B.exec
  have hb := B.bytes
  have hr := B.returns
  have hts := atoms_spec (ws := wsX4_isOut) B.pre
  have hown : s.vm.findClass RX4 = some m.cls := findClass_of_methodNamed B.named
  have hlocks := B.notSynchronized
  subst hsz
  have hD := hD0.self (sz := s.heap.size)
  generalize hAe : va_A [(a_t, .inr (4, [.ref a_t_way, .ref a_t_guns, .ref a_t_runners])), (a_t_runners, .inr (6, [.ref a_t_runners_facts, .ref a_t_runners_splits, .ref a_t_runners_torn, .ref a_t_runners_dropped, .ref a_t_runners_waved, .ref a_t_runners_struck, .ref a_t_runners_strikingOrder, .int t_runners_entered, .int t_runners_strikings])), (a_t_runners_splits, .inl (cI, 720, .inl t_runners_splits)), (a_t_runners_waved, .inl (cZ, 60, .inl t_runners_waved)), (a_t_way, .inr (9, [.ref a_t_way_places, .ref a_t_way_bearings, .ref a_t_way_cuts, .ref a_t_way_deaths, .int t_way_mats])), (a_t_way_cuts, .inl (cI, 12, .inl t_way_cuts))] s.heap.size = A at hD hZ ⊢
  have hA : ∀ q : Nat, s.heap.size ≤ q → A q := fun q h => by rw [← hAe]; exact Or.inr h
  have hS : va_S A s.heap s.heap [] := va_S.rf
  have hl := lv_entry ([.ref a_t, .int x1]) (n := 4) (Nat.le_of_ble_eq_true rfl)
  rw [lg_entry_eq]
  generalize (lg_sl ([.ref a_t, .int x1]) ++ List.replicate (4 - (lg_sl ([.ref a_t, .int x1])).length) Slot.unset).toArray = ls at hl ⊢
  have hl : lv_has ls 4 [(0, .ref a_t), (1, .int x1)] := hl
  unfold fX4_isOut at h
  refine lv_aload_n hx hb dX4_isOut_0 rfl (lv_at hl 0 rfl) ?_
  refine va_get (D := D) (ci := 4) (C := RX4) (T := TX4) (N := 3) hx hb hts qX4_isOut_X4 hown hK hP 0 rfl rfl 2 (by decide) (hts _ kX4_isOut_0) (fun _ h9 => h9) rfl dX4_isOut_1 ?_
  refine lv_iload_n hx hb dX4_isOut_4 rfl (lv_at hl 1 rfl) ?_
  obtain ⟨b1, e2, h⟩ := zz_b h
  refine zVi (As := [.int x1]) (rest := []) (C := RX6) (wr := [(a_t, .inr (4, [.ref a_t_way, .ref a_t_guns, .ref a_t_runners])), (a_t_runners_splits, .inl (cI, 720, .inl t_runners_splits)), (a_t_way, .inr (9, [.ref a_t_way_places, .ref a_t_way_bearings, .ref a_t_way_cuts, .ref a_t_way_deaths, .int t_way_mats])), (a_t_way_cuts, .inl (cI, 12, .inl t_way_cuts))]) [1, 3] [0, 2, 4, 5] 0 ⟨hx, hb, hml, hown, hts⟩ (mX6_isWaved l D cB cI cZ a_t_runners a_t_runners_facts a_t_runners_splits a_t_runners_torn a_t_runners_dropped a_t_runners_waved a_t_runners_struck a_t_runners_strikingOrder t_runners_entered t_runners_strikings t_runners_waved s.heap.size x1 b1 e2) (cwV 1 hts gX4_isOut_X6_isWaved rfl rfl rfl (by decide +kernel) ⟨Nat.le_of_ble_eq_true rfl, Nat.le_of_ble_eq_true rfl⟩) hK hN hZ hP hD hS hA rfl rfl rfl rfl rfl rfl rfl rfl hl.1 rfl (lv_room (Nat.le_of_ble_eq_true rfl)) dX4_isOut_5 ⟨Nat.le_of_ble_eq_true rfl, Nat.le_of_ble_eq_true rfl⟩ (fun H locs hP hD hS => ?_)
  have hP : va_P D vwCl [(a_t, .inr (4, [.ref a_t_way, .ref a_t_guns, .ref a_t_runners])), (a_t_runners_splits, .inl (cI, 720, .inl t_runners_splits)), (a_t_way, .inr (9, [.ref a_t_way_places, .ref a_t_way_bearings, .ref a_t_way_cuts, .ref a_t_way_deaths, .int t_way_mats])), (a_t_way_cuts, .inl (cI, 12, .inl t_way_cuts)), (a_t_runners, .inr (6, [.ref a_t_runners_facts, .ref a_t_runners_splits, .ref a_t_runners_torn, .ref a_t_runners_dropped, .ref a_t_runners_waved, .ref a_t_runners_struck, .ref a_t_runners_strikingOrder, .int t_runners_entered, .int t_runners_strikings])), (a_t_runners_waved, .inl (cZ, 60, .inl t_runners_waved))] H := hP
  have hD : va_D A [(a_t, .inr (4, [.ref a_t_way, .ref a_t_guns, .ref a_t_runners])), (a_t_runners_splits, .inl (cI, 720, .inl t_runners_splits)), (a_t_way, .inr (9, [.ref a_t_way_places, .ref a_t_way_bearings, .ref a_t_way_cuts, .ref a_t_way_deaths, .int t_way_mats])), (a_t_way_cuts, .inl (cI, 12, .inl t_way_cuts)), (a_t_runners, .inr (6, [.ref a_t_runners_facts, .ref a_t_runners_splits, .ref a_t_runners_torn, .ref a_t_runners_dropped, .ref a_t_runners_waved, .ref a_t_runners_struck, .ref a_t_runners_strikingOrder, .int t_runners_entered, .int t_runners_strikings])), (a_t_runners_waved, .inl (cZ, 60, .inl t_runners_waved))] := hD
  refine lv_if_eq (tgt := 13) hx hb dX4_isOut_8 (by decide) (fun c3 => ?_) (fun c3 => ?_)
  · have h := zz_t h c3
    refine lv_iconst (v := (nI 0)) hx hb dX4_isOut_13 rfl ?_
    refine lv_istore_n (lv' := [(2, .int (nI 0)), (0, .ref a_t), (1, .int x1)]) hx hb dX4_isOut_14 rfl hl (by decide) rfl (fun ls hl => ?_)
    have X15_61 : ∀ (v2_15 : Int32) (H : Heap) (locs : List Loc) (ls : Array Slot), some (false) = some (b0) → va_P D vwCl [(a_t, .inr (4, [.ref a_t_way, .ref a_t_guns, .ref a_t_runners])), (a_t_runners_splits, .inl (cI, 720, .inl t_runners_splits)), (a_t_way, .inr (9, [.ref a_t_way_places, .ref a_t_way_bearings, .ref a_t_way_cuts, .ref a_t_way_deaths, .int t_way_mats])), (a_t_way_cuts, .inl (cI, 12, .inl t_way_cuts)), (a_t_runners, .inr (6, [.ref a_t_runners_facts, .ref a_t_runners_splits, .ref a_t_runners_torn, .ref a_t_runners_dropped, .ref a_t_runners_waved, .ref a_t_runners_struck, .ref a_t_runners_strikingOrder, .int t_runners_entered, .int t_runners_strikings])), (a_t_runners_waved, .inl (cZ, 60, .inl t_runners_waved))] H → va_D A [(a_t, .inr (4, [.ref a_t_way, .ref a_t_guns, .ref a_t_runners])), (a_t_runners_splits, .inl (cI, 720, .inl t_runners_splits)), (a_t_way, .inr (9, [.ref a_t_way_places, .ref a_t_way_bearings, .ref a_t_way_cuts, .ref a_t_way_deaths, .int t_way_mats])), (a_t_way_cuts, .inl (cI, 12, .inl t_way_cuts)), (a_t_runners, .inr (6, [.ref a_t_runners_facts, .ref a_t_runners_splits, .ref a_t_runners_torn, .ref a_t_runners_dropped, .ref a_t_runners_waved, .ref a_t_runners_struck, .ref a_t_runners_strikingOrder, .int t_runners_entered, .int t_runners_strikings])), (a_t_runners_waved, .inl (cZ, 60, .inl t_runners_waved))] → va_S A s.heap H locs → lv_has ls 4 [(2, .int v2_15), (0, .ref a_t), (1, .int x1)] → W p l e (headSpec wsX4_isOut ({ frames := 2, cells := 0, slots := 0, locals := 43 } : Room)).room s m #[Value.ref a_t, Value.int x1] below meth c H locs 0 0 (MQ below (zQi (zb b0) D (zT cB cI cZ) [(a_t, .inr (4, [.ref a_t_way, .ref a_t_guns, .ref a_t_runners])), (a_t_runners, .inr (6, [.ref a_t_runners_facts, .ref a_t_runners_splits, .ref a_t_runners_torn, .ref a_t_runners_dropped, .ref a_t_runners_waved, .ref a_t_runners_struck, .ref a_t_runners_strikingOrder, .int t_runners_entered, .int t_runners_strikings])), (a_t_runners_splits, .inl (cI, 720, .inl t_runners_splits)), (a_t_runners_waved, .inl (cZ, 60, .inl t_runners_waved)), (a_t_way, .inr (9, [.ref a_t_way_places, .ref a_t_way_bearings, .ref a_t_way_cuts, .ref a_t_way_deaths, .int t_way_mats])), (a_t_way_cuts, .inl (cI, 12, .inl t_way_cuts))] A) #[Value.ref a_t, Value.int x1] s 0 0 A) (F0 m 61 ls []) := by
      intro v2_15 H locs ls h hP hD hS hl
      refine lv_iconst (v := (nI 0)) hx hb dX4_isOut_61 rfl ?_
      have j0_ := Option.some.inj h
      subst j0_
      exact W.zret (v := (nI 0)) hx hb hr rfl (fun t ht hW => ⟨⟨_, (), rfl, rfl, zPost.of hP hD hK ht hW [0, 4, 1, 5, 2, 3] rfl rfl rfl⟩, hS.F ht⟩) hS.2.2 dX4_isOut_62
    have L15 : ∀ (n : Nat) (v2_15 : Int32) (H : Heap) (locs : List Loc) (ls : Array Slot), fX4_isOut_L15 t_runners_entered t_runners_splits t_way_mats t_way_cuts x1 (fun (v2_15 : Int32) => some (false)) n v2_15 = some (b0) → va_P D vwCl [(a_t, .inr (4, [.ref a_t_way, .ref a_t_guns, .ref a_t_runners])), (a_t_runners_splits, .inl (cI, 720, .inl t_runners_splits)), (a_t_way, .inr (9, [.ref a_t_way_places, .ref a_t_way_bearings, .ref a_t_way_cuts, .ref a_t_way_deaths, .int t_way_mats])), (a_t_way_cuts, .inl (cI, 12, .inl t_way_cuts)), (a_t_runners, .inr (6, [.ref a_t_runners_facts, .ref a_t_runners_splits, .ref a_t_runners_torn, .ref a_t_runners_dropped, .ref a_t_runners_waved, .ref a_t_runners_struck, .ref a_t_runners_strikingOrder, .int t_runners_entered, .int t_runners_strikings])), (a_t_runners_waved, .inl (cZ, 60, .inl t_runners_waved))] H → va_D A [(a_t, .inr (4, [.ref a_t_way, .ref a_t_guns, .ref a_t_runners])), (a_t_runners_splits, .inl (cI, 720, .inl t_runners_splits)), (a_t_way, .inr (9, [.ref a_t_way_places, .ref a_t_way_bearings, .ref a_t_way_cuts, .ref a_t_way_deaths, .int t_way_mats])), (a_t_way_cuts, .inl (cI, 12, .inl t_way_cuts)), (a_t_runners, .inr (6, [.ref a_t_runners_facts, .ref a_t_runners_splits, .ref a_t_runners_torn, .ref a_t_runners_dropped, .ref a_t_runners_waved, .ref a_t_runners_struck, .ref a_t_runners_strikingOrder, .int t_runners_entered, .int t_runners_strikings])), (a_t_runners_waved, .inl (cZ, 60, .inl t_runners_waved))] → va_S A s.heap H locs → lv_has ls 4 [(2, .int v2_15), (0, .ref a_t), (1, .int x1)] → W p l e (headSpec wsX4_isOut ({ frames := 2, cells := 0, slots := 0, locals := 43 } : Room)).room s m #[Value.ref a_t, Value.int x1] below meth c H locs 0 0 (MQ below (zQi (zb b0) D (zT cB cI cZ) [(a_t, .inr (4, [.ref a_t_way, .ref a_t_guns, .ref a_t_runners])), (a_t_runners, .inr (6, [.ref a_t_runners_facts, .ref a_t_runners_splits, .ref a_t_runners_torn, .ref a_t_runners_dropped, .ref a_t_runners_waved, .ref a_t_runners_struck, .ref a_t_runners_strikingOrder, .int t_runners_entered, .int t_runners_strikings])), (a_t_runners_splits, .inl (cI, 720, .inl t_runners_splits)), (a_t_runners_waved, .inl (cZ, 60, .inl t_runners_waved)), (a_t_way, .inr (9, [.ref a_t_way_places, .ref a_t_way_bearings, .ref a_t_way_cuts, .ref a_t_way_deaths, .int t_way_mats])), (a_t_way_cuts, .inl (cI, 12, .inl t_way_cuts))] A) #[Value.ref a_t, Value.int x1] s 0 0 A) (F0 m 15 ls []) := by
      intro n
      induction n with
      | zero => intro _ H locs ls h hP hD hS hl; cases h
      | succ n15 ih15 =>
        intro v2_15 H locs ls h hP hD hS hl
        rw [fX4_isOut_L15.eq_2] at h
        refine lv_iload_n hx hb dX4_isOut_15 rfl (lv_at hl 0 rfl) ?_
        refine lv_aload_n hx hb dX4_isOut_16 rfl (lv_at hl 1 rfl) ?_
        refine va_get (D := D) (ci := 4) (C := RX4) (T := TX4) (N := 3) hx hb hts qX4_isOut_X4 hown hK hP 0 rfl rfl 0 (by decide) (hts _ kX4_isOut_2) (fun _ h9 => h9) rfl dX4_isOut_17 ?_
        obtain ⟨r4, e5, h⟩ := zz_b h
        refine zVi (As := []) (rest := [.int v2_15]) (C := RX9) (wr := [(a_t, .inr (4, [.ref a_t_way, .ref a_t_guns, .ref a_t_runners])), (a_t_runners_splits, .inl (cI, 720, .inl t_runners_splits)), (a_t_way_cuts, .inl (cI, 12, .inl t_way_cuts)), (a_t_runners, .inr (6, [.ref a_t_runners_facts, .ref a_t_runners_splits, .ref a_t_runners_torn, .ref a_t_runners_dropped, .ref a_t_runners_waved, .ref a_t_runners_struck, .ref a_t_runners_strikingOrder, .int t_runners_entered, .int t_runners_strikings])), (a_t_runners_waved, .inl (cZ, 60, .inl t_runners_waved))]) [2] [0, 1, 3, 4, 5] 0 ⟨hx, hb, hml, hown, hts⟩ (mX9_size l D cB cI cZ a_t_way a_t_way_places a_t_way_bearings a_t_way_cuts a_t_way_deaths t_way_mats H.size r4 e5) (cwV 0 hts gX4_isOut_X9_size rfl rfl rfl (by decide +kernel) ⟨Nat.le_of_ble_eq_true rfl, Nat.le_of_ble_eq_true rfl⟩) hK hN hZ hP hD hS hA rfl rfl rfl rfl rfl rfl rfl rfl hl.1 rfl (lv_room (Nat.le_of_ble_eq_true rfl)) dX4_isOut_20 ⟨Nat.le_of_ble_eq_true rfl, Nat.le_of_ble_eq_true rfl⟩ (fun H locs hP hD hS => ?_)
        have hP : va_P D vwCl [(a_t, .inr (4, [.ref a_t_way, .ref a_t_guns, .ref a_t_runners])), (a_t_runners_splits, .inl (cI, 720, .inl t_runners_splits)), (a_t_way_cuts, .inl (cI, 12, .inl t_way_cuts)), (a_t_runners, .inr (6, [.ref a_t_runners_facts, .ref a_t_runners_splits, .ref a_t_runners_torn, .ref a_t_runners_dropped, .ref a_t_runners_waved, .ref a_t_runners_struck, .ref a_t_runners_strikingOrder, .int t_runners_entered, .int t_runners_strikings])), (a_t_runners_waved, .inl (cZ, 60, .inl t_runners_waved)), (a_t_way, .inr (9, [.ref a_t_way_places, .ref a_t_way_bearings, .ref a_t_way_cuts, .ref a_t_way_deaths, .int t_way_mats]))] H := hP
        have hD : va_D A [(a_t, .inr (4, [.ref a_t_way, .ref a_t_guns, .ref a_t_runners])), (a_t_runners_splits, .inl (cI, 720, .inl t_runners_splits)), (a_t_way_cuts, .inl (cI, 12, .inl t_way_cuts)), (a_t_runners, .inr (6, [.ref a_t_runners_facts, .ref a_t_runners_splits, .ref a_t_runners_torn, .ref a_t_runners_dropped, .ref a_t_runners_waved, .ref a_t_runners_struck, .ref a_t_runners_strikingOrder, .int t_runners_entered, .int t_runners_strikings])), (a_t_runners_waved, .inl (cZ, 60, .inl t_runners_waved)), (a_t_way, .inr (9, [.ref a_t_way_places, .ref a_t_way_bearings, .ref a_t_way_cuts, .ref a_t_way_deaths, .int t_way_mats]))] := hD
        refine lv_icmp_ge (tgt := 61) hx hb dX4_isOut_23 (by decide) (fun c6 => ?_) (fun c6 => ?_)
        · have h := zz_t h c6
          exact X15_61 v2_15 _ _ _ h (hP.sub [0, 1, 5, 2, 3, 4] rfl) (hD.sub [0, 1, 5, 2, 3, 4] rfl rfl) hS (lv_sub hl [0, 1, 2] rfl)
        · have h := zz_f h c6
          refine lv_aload_n hx hb dX4_isOut_26 rfl (lv_at hl 1 rfl) ?_
          refine va_get (D := D) (ci := 4) (C := RX4) (T := TX4) (N := 3) hx hb hts qX4_isOut_X4 hown hK hP 0 rfl rfl 0 (by decide) (hts _ kX4_isOut_2) (fun _ h9 => h9) rfl dX4_isOut_27 ?_
          refine lv_iload_n hx hb dX4_isOut_30 rfl (lv_at hl 0 rfl) ?_
          obtain ⟨r7, e8, h⟩ := zz_b h
          refine zVi (As := [.int v2_15]) (rest := []) (C := RX9) (wr := [(a_t, .inr (4, [.ref a_t_way, .ref a_t_guns, .ref a_t_runners])), (a_t_runners_splits, .inl (cI, 720, .inl t_runners_splits)), (a_t_runners, .inr (6, [.ref a_t_runners_facts, .ref a_t_runners_splits, .ref a_t_runners_torn, .ref a_t_runners_dropped, .ref a_t_runners_waved, .ref a_t_runners_struck, .ref a_t_runners_strikingOrder, .int t_runners_entered, .int t_runners_strikings])), (a_t_runners_waved, .inl (cZ, 60, .inl t_runners_waved))]) [5, 2] [0, 1, 3, 4] 0 ⟨hx, hb, hml, hown, hts⟩ (mX9_cutAt l D cB cI cZ a_t_way a_t_way_places a_t_way_bearings a_t_way_cuts a_t_way_deaths t_way_mats t_way_cuts H.size v2_15 r7 e8) (cwV 1 hts gX4_isOut_X9_cutAt rfl rfl rfl (by decide +kernel) ⟨Nat.le_of_ble_eq_true rfl, Nat.le_of_ble_eq_true rfl⟩) hK hN hZ hP hD hS hA rfl rfl rfl rfl rfl rfl rfl rfl hl.1 rfl (lv_room (Nat.le_of_ble_eq_true rfl)) dX4_isOut_31 ⟨Nat.le_of_ble_eq_true rfl, Nat.le_of_ble_eq_true rfl⟩ (fun H locs hP hD hS => ?_)
          have hP : va_P D vwCl [(a_t, .inr (4, [.ref a_t_way, .ref a_t_guns, .ref a_t_runners])), (a_t_runners_splits, .inl (cI, 720, .inl t_runners_splits)), (a_t_runners, .inr (6, [.ref a_t_runners_facts, .ref a_t_runners_splits, .ref a_t_runners_torn, .ref a_t_runners_dropped, .ref a_t_runners_waved, .ref a_t_runners_struck, .ref a_t_runners_strikingOrder, .int t_runners_entered, .int t_runners_strikings])), (a_t_runners_waved, .inl (cZ, 60, .inl t_runners_waved)), (a_t_way, .inr (9, [.ref a_t_way_places, .ref a_t_way_bearings, .ref a_t_way_cuts, .ref a_t_way_deaths, .int t_way_mats])), (a_t_way_cuts, .inl (cI, 12, .inl t_way_cuts))] H := hP
          have hD : va_D A [(a_t, .inr (4, [.ref a_t_way, .ref a_t_guns, .ref a_t_runners])), (a_t_runners_splits, .inl (cI, 720, .inl t_runners_splits)), (a_t_runners, .inr (6, [.ref a_t_runners_facts, .ref a_t_runners_splits, .ref a_t_runners_torn, .ref a_t_runners_dropped, .ref a_t_runners_waved, .ref a_t_runners_struck, .ref a_t_runners_strikingOrder, .int t_runners_entered, .int t_runners_strikings])), (a_t_runners_waved, .inl (cZ, 60, .inl t_runners_waved)), (a_t_way, .inr (9, [.ref a_t_way_places, .ref a_t_way_bearings, .ref a_t_way_cuts, .ref a_t_way_deaths, .int t_way_mats])), (a_t_way_cuts, .inl (cI, 12, .inl t_way_cuts))] := hD
          refine lv_istore_n (lv' := [(3, .int r7), (2, .int v2_15), (0, .ref a_t), (1, .int x1)]) hx hb dX4_isOut_34 rfl hl (by decide) rfl (fun ls hl => ?_)
          refine lv_iload_n hx hb dX4_isOut_35 rfl (lv_at hl 0 rfl) ?_
          refine lv_iconst (v := (-1 : Int32)) hx hb dX4_isOut_36 rfl ?_
          refine lv_icmp_eq (tgt := 55) hx hb dX4_isOut_37 (by decide) (fun c9 => ?_) (fun c9 => ?_)
          · have h := zz_t h c9
            refine lv_iinc (v := (v2_15 + (nI 1))) (lv' := [(2, .int (v2_15 + (nI 1))), (3, .int r7), (0, .ref a_t), (1, .int x1)]) hx hb dX4_isOut_55 hl (k := 1) rfl rfl (by decide) rfl (fun ls hl => ?_)
            refine lv_goto (tgt := 15) hx hb dX4_isOut_58 (by decide) ?_
            exact ih15 (v2_15 + (nI 1)) _ _ _ h (hP.sub [0, 1, 4, 5, 2, 3] rfl) (hD.sub [0, 1, 4, 5, 2, 3] rfl rfl) hS (lv_sub hl [0, 2, 3] rfl)
          · have h := zz_f h c9
            refine lv_aload_n hx hb dX4_isOut_40 rfl (lv_at hl 2 rfl) ?_
            refine va_get (D := D) (ci := 4) (C := RX4) (T := TX4) (N := 3) hx hb hts qX4_isOut_X4 hown hK hP 0 rfl rfl 2 (by decide) (hts _ kX4_isOut_0) (fun _ h9 => h9) rfl dX4_isOut_41 ?_
            refine lv_iload_n hx hb dX4_isOut_44 rfl (lv_at hl 3 rfl) ?_
            refine lv_iload_n hx hb dX4_isOut_45 rfl (lv_at hl 1 rfl) ?_
            obtain ⟨r10, e11, h⟩ := zz_b h
            refine zVi (As := [.int x1, .int v2_15]) (rest := []) (C := RX6) (wr := [(a_t, .inr (4, [.ref a_t_way, .ref a_t_guns, .ref a_t_runners])), (a_t_runners_waved, .inl (cZ, 60, .inl t_runners_waved)), (a_t_way, .inr (9, [.ref a_t_way_places, .ref a_t_way_bearings, .ref a_t_way_cuts, .ref a_t_way_deaths, .int t_way_mats])), (a_t_way_cuts, .inl (cI, 12, .inl t_way_cuts))]) [2, 1] [0, 3, 4, 5] 0 ⟨hx, hb, hml, hown, hts⟩ (mX6_splitAt l D cB cI cZ a_t_runners a_t_runners_facts a_t_runners_splits a_t_runners_torn a_t_runners_dropped a_t_runners_waved a_t_runners_struck a_t_runners_strikingOrder t_runners_entered t_runners_strikings t_runners_splits H.size x1 v2_15 r10 e11) (cwV 2 hts gX4_isOut_X6_splitAt rfl rfl rfl (by decide +kernel) ⟨Nat.le_of_ble_eq_true rfl, Nat.le_of_ble_eq_true rfl⟩) hK hN hZ hP hD hS hA rfl rfl rfl rfl rfl rfl rfl rfl hl.1 rfl (lv_room (Nat.le_of_ble_eq_true rfl)) dX4_isOut_46 ⟨Nat.le_of_ble_eq_true rfl, Nat.le_of_ble_eq_true rfl⟩ (fun H locs hP hD hS => ?_)
            have hP : va_P D vwCl [(a_t, .inr (4, [.ref a_t_way, .ref a_t_guns, .ref a_t_runners])), (a_t_runners_waved, .inl (cZ, 60, .inl t_runners_waved)), (a_t_way, .inr (9, [.ref a_t_way_places, .ref a_t_way_bearings, .ref a_t_way_cuts, .ref a_t_way_deaths, .int t_way_mats])), (a_t_way_cuts, .inl (cI, 12, .inl t_way_cuts)), (a_t_runners, .inr (6, [.ref a_t_runners_facts, .ref a_t_runners_splits, .ref a_t_runners_torn, .ref a_t_runners_dropped, .ref a_t_runners_waved, .ref a_t_runners_struck, .ref a_t_runners_strikingOrder, .int t_runners_entered, .int t_runners_strikings])), (a_t_runners_splits, .inl (cI, 720, .inl t_runners_splits))] H := hP
            have hD : va_D A [(a_t, .inr (4, [.ref a_t_way, .ref a_t_guns, .ref a_t_runners])), (a_t_runners_waved, .inl (cZ, 60, .inl t_runners_waved)), (a_t_way, .inr (9, [.ref a_t_way_places, .ref a_t_way_bearings, .ref a_t_way_cuts, .ref a_t_way_deaths, .int t_way_mats])), (a_t_way_cuts, .inl (cI, 12, .inl t_way_cuts)), (a_t_runners, .inr (6, [.ref a_t_runners_facts, .ref a_t_runners_splits, .ref a_t_runners_torn, .ref a_t_runners_dropped, .ref a_t_runners_waved, .ref a_t_runners_struck, .ref a_t_runners_strikingOrder, .int t_runners_entered, .int t_runners_strikings])), (a_t_runners_splits, .inl (cI, 720, .inl t_runners_splits))] := hD
            refine lv_iload_n hx hb dX4_isOut_49 rfl (lv_at hl 0 rfl) ?_
            refine lv_icmp_le (tgt := 55) hx hb dX4_isOut_50 (by decide) (fun c12 => ?_) (fun c12 => ?_)
            · have h := zz_t h c12
              refine lv_iinc (v := (v2_15 + (nI 1))) (lv' := [(2, .int (v2_15 + (nI 1))), (3, .int r7), (0, .ref a_t), (1, .int x1)]) hx hb dX4_isOut_55 hl (k := 1) rfl rfl (by decide) rfl (fun ls hl => ?_)
              refine lv_goto (tgt := 15) hx hb dX4_isOut_58 (by decide) ?_
              exact ih15 (v2_15 + (nI 1)) _ _ _ h (hP.sub [0, 5, 2, 3, 4, 1] rfl) (hD.sub [0, 5, 2, 3, 4, 1] rfl rfl) hS (lv_sub hl [0, 2, 3] rfl)
            · have h := zz_f h c12
              refine lv_iconst (v := (nI 1)) hx hb dX4_isOut_53 rfl ?_
              have j0_ := Option.some.inj h
              subst j0_
              exact W.zret (v := (nI 1)) hx hb hr rfl (fun t ht hW => ⟨⟨_, (), rfl, rfl, zPost.of hP hD hK ht hW [0, 4, 5, 1, 2, 3] rfl rfl rfl⟩, hS.F ht⟩) hS.2.2 dX4_isOut_54
    exact L15 N (nI 0) _ _ _ h hP hD hS hl
  · have h := zz_f h c3
    refine lv_iconst (v := (nI 0)) hx hb dX4_isOut_11 rfl ?_
    have j0_ := Option.some.inj h
    subst j0_
    exact W.zret (v := (nI 0)) hx hb hr rfl (fun t ht hW => ⟨⟨_, (), rfl, rfl, zPost.of hP hD hK ht hW [0, 4, 1, 5, 2, 3] rfl rfl rfl⟩, hS.F ht⟩) hS.2.2 dX4_isOut_12
/-! RunDesk$Way.lastMat -/
theorem dX9_lastMat_0 : decode cX9_lastMat 0 = .ok (.aload_n 0, 1) := by decide +kernel
theorem dX9_lastMat_1 : decode cX9_lastMat 1 = .ok (.getfield 25, 3) := by decide +kernel
theorem dX9_lastMat_4 : decode cX9_lastMat 4 = .ok (.iconst 2, 1) := by decide +kernel
theorem dX9_lastMat_5 : decode cX9_lastMat 5 = .ok (.if_icmp .ge 7, 3) := by decide +kernel
theorem dX9_lastMat_8 : decode cX9_lastMat 8 = .ok (.iconst (-1), 1) := by decide +kernel
theorem dX9_lastMat_9 : decode cX9_lastMat 9 = .ok (.goto 9, 3) := by decide +kernel
theorem dX9_lastMat_12 : decode cX9_lastMat 12 = .ok (.aload_n 0, 1) := by decide +kernel
theorem dX9_lastMat_13 : decode cX9_lastMat 13 = .ok (.getfield 25, 3) := by decide +kernel
theorem dX9_lastMat_16 : decode cX9_lastMat 16 = .ok (.iconst 1, 1) := by decide +kernel
theorem dX9_lastMat_17 : decode cX9_lastMat 17 = .ok (.isub, 1) := by decide +kernel
theorem dX9_lastMat_18 : decode cX9_lastMat 18 = .ok (.ireturn, 1) := by decide +kernel
theorem kX9_lastMat_0 : (.fieldLink RX9 25 "RunDesk$Way" "mats" "I" : Cond) ∈ wsX9_lastMat := List.mem_of_getElem? (i := 1) (by decide +kernel)
theorem qX9_lastMat_X9 : ∀ w ∈ wsX90, w ∈ wsX9_lastMat := fun _ h => List.mem_cons_of_mem _ (List.mem_append_right _ (h))
set_option maxHeartbeats 4000000 in
set_option maxRecDepth 100000 in
theorem mX9_lastMat (l : Launch) (D : va_G) (cB cI cZ : ClassId) (a_t : Nat) (a_t_places : Nat) (a_t_bearings : Nat) (a_t_cuts : Nat) (a_t_deaths : Nat) (t_mats : Int32) (sz : Nat) (r0 : Int32) (h : fX9_lastMat t_mats = some (r0)) : Met l yX9_lastMat wsX9_lastMat ({ frames := 0, cells := 0, slots := 0, locals := 0 } : Room) (va_Pc [.ref a_t] (zPre D (zT cB cI cZ) [(a_t, .inr (9, [.ref a_t_places, .ref a_t_bearings, .ref a_t_cuts, .ref a_t_deaths, .int t_mats]))] sz)) (zQi r0 D (zT cB cI cZ) [(a_t, .inr (9, [.ref a_t_places, .ref a_t_bearings, .ref a_t_cuts, .ref a_t_deaths, .int t_mats]))] (va_A [(a_t, .inr (9, [.ref a_t_places, .ref a_t_bearings, .ref a_t_cuts, .ref a_t_deaths, .int t_mats]))] sz)) 0 0 (va_A [(a_t, .inr (9, [.ref a_t_places, .ref a_t_bearings, .ref a_t_cuts, .ref a_t_deaths, .int t_mats]))] sz) := by
  refine Met.ofW (cc := cX9_lastMat) (maxL := 1) (ret := (some .int)) (by decide) rfl ?_
  intro p e s m args below meth c s₁ B hml hv
  obtain ⟨rfl, hsz, hP, hK, hN, hZ, hD0⟩ := hv
  have hx := B.exec
  have hb := B.bytes
  have hr := B.returns
  have hts := atoms_spec (ws := wsX9_lastMat) B.pre
  have hown : s.vm.findClass RX9 = some m.cls := findClass_of_methodNamed B.named
  have hlocks := B.notSynchronized
  subst hsz
  have hD := hD0.self (sz := s.heap.size)
  generalize hAe : va_A [(a_t, .inr (9, [.ref a_t_places, .ref a_t_bearings, .ref a_t_cuts, .ref a_t_deaths, .int t_mats]))] s.heap.size = A at hD hZ ⊢
  have hA : ∀ q : Nat, s.heap.size ≤ q → A q := fun q h => by rw [← hAe]; exact Or.inr h
  have hS : va_S A s.heap s.heap [] := va_S.rf
  have hl := lv_entry ([.ref a_t]) (n := 1) (Nat.le_of_ble_eq_true rfl)
  rw [lg_entry_eq]
  generalize (lg_sl ([.ref a_t]) ++ List.replicate (1 - (lg_sl ([.ref a_t])).length) Slot.unset).toArray = ls at hl ⊢
  have hl : lv_has ls 1 [(0, .ref a_t)] := hl
  unfold fX9_lastMat at h
  refine lv_aload_n hx hb dX9_lastMat_0 rfl (lv_at hl 0 rfl) ?_
  refine va_get (D := D) (ci := 9) (C := RX9) (T := TX9) (N := 5) hx hb hts qX9_lastMat_X9 hown hK hP 0 rfl rfl 4 (by decide) (hts _ kX9_lastMat_0) (fun _ h9 => h9) rfl dX9_lastMat_1 ?_
  refine lv_iconst (v := (nI 2)) hx hb dX9_lastMat_4 rfl ?_
  refine lv_icmp_ge (tgt := 12) hx hb dX9_lastMat_5 (by decide) (fun c1 => ?_) (fun c1 => ?_)
  · have h := zz_t h c1
    refine lv_aload_n hx hb dX9_lastMat_12 rfl (lv_at hl 0 rfl) ?_
    refine va_get (D := D) (ci := 9) (C := RX9) (T := TX9) (N := 5) hx hb hts qX9_lastMat_X9 hown hK hP 0 rfl rfl 4 (by decide) (hts _ kX9_lastMat_0) (fun _ h9 => h9) rfl dX9_lastMat_13 ?_
    refine lv_iconst (v := (nI 1)) hx hb dX9_lastMat_16 rfl ?_
    refine lv_isub hx hb dX9_lastMat_17 ?_
    have j0_ := Option.some.inj h
    subst j0_
    exact W.iret (v := (t_mats - (nI 1))) hx hb hr (fun t ht hW => ⟨⟨_, (), rfl, rfl, zPost.of hP hD hK ht hW [0] rfl rfl rfl⟩, hS.F ht⟩) hS.2.2 dX9_lastMat_18
  · have h := zz_f h c1
    refine lv_iconst (v := (-1 : Int32)) hx hb dX9_lastMat_8 rfl ?_
    refine lv_goto (tgt := 18) hx hb dX9_lastMat_9 (by decide) ?_
    have j0_ := Option.some.inj h
    subst j0_
    exact W.iret (v := (-1 : Int32)) hx hb hr (fun t ht hW => ⟨⟨_, (), rfl, rfl, zPost.of hP hD hK ht hW [0] rfl rfl rfl⟩, hS.F ht⟩) hS.2.2 dX9_lastMat_18
/-! RunDesk$Race.stateOf -/
theorem dX4_stateOf_0 : decode cX4_stateOf 0 = .ok (.aload_n 0, 1) := by decide +kernel
theorem dX4_stateOf_1 : decode cX4_stateOf 1 = .ok (.getfield 28, 3) := by decide +kernel
theorem dX4_stateOf_4 : decode cX4_stateOf 4 = .ok (.iload_n 1, 1) := by decide +kernel
theorem dX4_stateOf_5 : decode cX4_stateOf 5 = .ok (.invokevirtual 98, 3) := by decide +kernel
theorem dX4_stateOf_8 : decode cX4_stateOf 8 = .ok (.ifCond .eq 5, 3) := by decide +kernel
theorem dX4_stateOf_11 : decode cX4_stateOf 11 = .ok (.iconst 4, 1) := by decide +kernel
theorem dX4_stateOf_12 : decode cX4_stateOf 12 = .ok (.ireturn, 1) := by decide +kernel
theorem dX4_stateOf_13 : decode cX4_stateOf 13 = .ok (.aload_n 0, 1) := by decide +kernel
theorem dX4_stateOf_14 : decode cX4_stateOf 14 = .ok (.getfield 28, 3) := by decide +kernel
theorem dX4_stateOf_17 : decode cX4_stateOf 17 = .ok (.iload_n 1, 1) := by decide +kernel
theorem dX4_stateOf_18 : decode cX4_stateOf 18 = .ok (.invokevirtual 101, 3) := by decide +kernel
theorem dX4_stateOf_21 : decode cX4_stateOf 21 = .ok (.ifCond .eq 5, 3) := by decide +kernel
theorem dX4_stateOf_24 : decode cX4_stateOf 24 = .ok (.iconst 3, 1) := by decide +kernel
theorem dX4_stateOf_25 : decode cX4_stateOf 25 = .ok (.ireturn, 1) := by decide +kernel
theorem dX4_stateOf_26 : decode cX4_stateOf 26 = .ok (.aload_n 0, 1) := by decide +kernel
theorem dX4_stateOf_27 : decode cX4_stateOf 27 = .ok (.iload_n 1, 1) := by decide +kernel
theorem dX4_stateOf_28 : decode cX4_stateOf 28 = .ok (.invokevirtual 104, 3) := by decide +kernel
theorem dX4_stateOf_31 : decode cX4_stateOf 31 = .ok (.ifCond .eq 5, 3) := by decide +kernel
theorem dX4_stateOf_34 : decode cX4_stateOf 34 = .ok (.iconst 5, 1) := by decide +kernel
theorem dX4_stateOf_35 : decode cX4_stateOf 35 = .ok (.ireturn, 1) := by decide +kernel
theorem dX4_stateOf_36 : decode cX4_stateOf 36 = .ok (.aload_n 0, 1) := by decide +kernel
theorem dX4_stateOf_37 : decode cX4_stateOf 37 = .ok (.getfield 28, 3) := by decide +kernel
theorem dX4_stateOf_40 : decode cX4_stateOf 40 = .ok (.iload_n 1, 1) := by decide +kernel
theorem dX4_stateOf_41 : decode cX4_stateOf 41 = .ok (.aload_n 0, 1) := by decide +kernel
theorem dX4_stateOf_42 : decode cX4_stateOf 42 = .ok (.getfield 12, 3) := by decide +kernel
theorem dX4_stateOf_45 : decode cX4_stateOf 45 = .ok (.invokevirtual 107, 3) := by decide +kernel
theorem dX4_stateOf_48 : decode cX4_stateOf 48 = .ok (.invokevirtual 91, 3) := by decide +kernel
theorem dX4_stateOf_51 : decode cX4_stateOf 51 = .ok (.iconst (-1), 1) := by decide +kernel
theorem dX4_stateOf_52 : decode cX4_stateOf 52 = .ok (.if_icmp .eq 5, 3) := by decide +kernel
theorem dX4_stateOf_55 : decode cX4_stateOf 55 = .ok (.iconst 2, 1) := by decide +kernel
theorem dX4_stateOf_56 : decode cX4_stateOf 56 = .ok (.ireturn, 1) := by decide +kernel
theorem dX4_stateOf_57 : decode cX4_stateOf 57 = .ok (.aload_n 0, 1) := by decide +kernel
theorem dX4_stateOf_58 : decode cX4_stateOf 58 = .ok (.iload_n 1, 1) := by decide +kernel
theorem dX4_stateOf_59 : decode cX4_stateOf 59 = .ok (.invokevirtual 67, 3) := by decide +kernel
theorem dX4_stateOf_62 : decode cX4_stateOf 62 = .ok (.iconst (-1), 1) := by decide +kernel
theorem dX4_stateOf_63 : decode cX4_stateOf 63 = .ok (.if_icmp .eq 7, 3) := by decide +kernel
theorem dX4_stateOf_66 : decode cX4_stateOf 66 = .ok (.iconst 1, 1) := by decide +kernel
theorem dX4_stateOf_67 : decode cX4_stateOf 67 = .ok (.goto 4, 3) := by decide +kernel
theorem dX4_stateOf_70 : decode cX4_stateOf 70 = .ok (.iconst 0, 1) := by decide +kernel
theorem dX4_stateOf_71 : decode cX4_stateOf 71 = .ok (.ireturn, 1) := by decide +kernel
set_option maxRecDepth 20000 in
theorem ggX4_stateOf_X6_isStruck : GoodIn wsX4_stateOf wsX6_isStruck := goodIn_sub (List.forall_mem_cons.mpr ⟨List.mem_cons_of_mem _ (List.mem_append_left _ (List.mem_append_left _ (List.mem_append_left _ (List.mem_append_left _ (List.mem_append_left _ (List.mem_of_getElem? (l := wsX4_stateOf_r1) (i := 6) rfl)))))), (List.forall_mem_append.mpr ⟨(List.forall_mem_cons.mpr ⟨List.mem_cons_of_mem _ (List.mem_append_left _ (List.mem_append_left _ (List.mem_append_left _ (List.mem_append_left _ (List.mem_append_left _ (List.mem_of_getElem? (l := wsX4_stateOf_r1) (i := 7) rfl)))))), (List.forall_mem_cons.mpr ⟨List.mem_cons_of_mem _ (List.mem_append_left _ (List.mem_append_left _ (List.mem_append_left _ (List.mem_append_left _ (List.mem_append_left _ (List.mem_of_getElem? (l := wsX4_stateOf_r1) (i := 8) rfl)))))), (List.forall_mem_cons.mpr ⟨List.mem_cons_of_mem _ (List.mem_append_left _ (List.mem_append_left _ (List.mem_append_left _ (List.mem_append_left _ (List.mem_append_left _ (List.mem_of_getElem? (l := wsX4_stateOf_r1) (i := 9) rfl)))))), (List.forall_mem_cons.mpr ⟨List.mem_cons_of_mem _ (List.mem_append_left _ (List.mem_append_left _ (List.mem_append_left _ (List.mem_append_left _ (List.mem_append_left _ (List.mem_of_getElem? (l := wsX4_stateOf_r1) (i := 10) rfl)))))), (List.forall_mem_cons.mpr ⟨List.mem_cons_of_mem _ (List.mem_append_left _ (List.mem_append_left _ (List.mem_append_left _ (List.mem_append_left _ (List.mem_append_left _ (List.mem_of_getElem? (l := wsX4_stateOf_r1) (i := 5) rfl)))))), (List.forall_mem_cons.mpr ⟨List.mem_cons_of_mem _ (List.mem_append_left _ (List.mem_append_left _ (List.mem_append_left _ (List.mem_append_left _ (List.mem_append_left _ (List.mem_of_getElem? (l := wsX4_stateOf_r1) (i := 11) rfl)))))), (List.forall_mem_cons.mpr ⟨List.mem_cons_of_mem _ (List.mem_append_left _ (List.mem_append_left _ (List.mem_append_left _ (List.mem_append_left _ (List.mem_append_left _ (List.mem_of_getElem? (l := wsX4_stateOf_r1) (i := 12) rfl)))))), (fun _ h => nomatch h)⟩)⟩)⟩)⟩)⟩)⟩)⟩), (fun _ h => List.mem_cons_of_mem _ (List.mem_append_left _ (List.mem_append_left _ (List.mem_append_right _ (h)))))⟩)⟩) (by decide +kernel)
set_option maxRecDepth 20000 in
theorem gX4_stateOf_X6_isStruck : GoodIn wsX4_stateOf (wsV RX4 98 RX6 yX6_isStruck wsX6_isStruck) := goodIn_app (goodIn_of _ (by decide +kernel)) ggX4_stateOf_X6_isStruck
set_option maxRecDepth 20000 in
theorem ggX4_stateOf_X6_isDropped : GoodIn wsX4_stateOf wsX6_isDropped := goodIn_sub (List.forall_mem_cons.mpr ⟨List.mem_cons_of_mem _ (List.mem_append_left _ (List.mem_append_left _ (List.mem_append_left _ (List.mem_append_left _ (List.mem_append_left _ (List.mem_of_getElem? (l := wsX4_stateOf_r1) (i := 16) rfl)))))), (List.forall_mem_append.mpr ⟨(List.forall_mem_cons.mpr ⟨List.mem_cons_of_mem _ (List.mem_append_left _ (List.mem_append_left _ (List.mem_append_left _ (List.mem_append_left _ (List.mem_append_left _ (List.mem_of_getElem? (l := wsX4_stateOf_r1) (i := 17) rfl)))))), (List.forall_mem_cons.mpr ⟨List.mem_cons_of_mem _ (List.mem_append_left _ (List.mem_append_left _ (List.mem_append_left _ (List.mem_append_left _ (List.mem_append_left _ (List.mem_of_getElem? (l := wsX4_stateOf_r1) (i := 8) rfl)))))), (List.forall_mem_cons.mpr ⟨List.mem_cons_of_mem _ (List.mem_append_left _ (List.mem_append_left _ (List.mem_append_left _ (List.mem_append_left _ (List.mem_append_left _ (List.mem_of_getElem? (l := wsX4_stateOf_r1) (i := 9) rfl)))))), (List.forall_mem_cons.mpr ⟨List.mem_cons_of_mem _ (List.mem_append_left _ (List.mem_append_left _ (List.mem_append_left _ (List.mem_append_left _ (List.mem_append_left _ (List.mem_of_getElem? (l := wsX4_stateOf_r1) (i := 10) rfl)))))), (List.forall_mem_cons.mpr ⟨List.mem_cons_of_mem _ (List.mem_append_left _ (List.mem_append_left _ (List.mem_append_left _ (List.mem_append_left _ (List.mem_append_left _ (List.mem_of_getElem? (l := wsX4_stateOf_r1) (i := 5) rfl)))))), (List.forall_mem_cons.mpr ⟨List.mem_cons_of_mem _ (List.mem_append_left _ (List.mem_append_left _ (List.mem_append_left _ (List.mem_append_left _ (List.mem_append_left _ (List.mem_of_getElem? (l := wsX4_stateOf_r1) (i := 11) rfl)))))), (List.forall_mem_cons.mpr ⟨List.mem_cons_of_mem _ (List.mem_append_left _ (List.mem_append_left _ (List.mem_append_left _ (List.mem_append_left _ (List.mem_append_left _ (List.mem_of_getElem? (l := wsX4_stateOf_r1) (i := 12) rfl)))))), (fun _ h => nomatch h)⟩)⟩)⟩)⟩)⟩)⟩)⟩), (fun _ h => List.mem_cons_of_mem _ (List.mem_append_left _ (List.mem_append_left _ (List.mem_append_right _ (h)))))⟩)⟩) (by decide +kernel)
set_option maxRecDepth 20000 in
theorem gX4_stateOf_X6_isDropped : GoodIn wsX4_stateOf (wsV RX4 101 RX6 yX6_isDropped wsX6_isDropped) := goodIn_app (goodIn_of _ (by decide +kernel)) ggX4_stateOf_X6_isDropped
set_option maxRecDepth 20000 in
theorem ggX4_stateOf_X4_isOut : GoodIn wsX4_stateOf wsX4_isOut := goodIn_sub (List.forall_mem_cons.mpr ⟨List.mem_cons_of_mem _ (List.mem_append_left _ (List.mem_append_left _ (List.mem_append_left _ (List.mem_append_left _ (List.mem_append_left _ (List.mem_of_getElem? (l := wsX4_stateOf_r1) (i := 22) rfl)))))), (List.forall_mem_append.mpr ⟨(List.forall_mem_append.mpr ⟨(List.forall_mem_append.mpr ⟨(List.forall_mem_append.mpr ⟨(List.forall_mem_cons.mpr ⟨List.mem_cons_of_mem _ (List.mem_append_left _ (List.mem_append_left _ (List.mem_append_left _ (List.mem_append_left _ (List.mem_append_left _ (List.mem_of_getElem? (l := wsX4_stateOf_r1) (i := 0) rfl)))))), (List.forall_mem_cons.mpr ⟨List.mem_cons_of_mem _ (List.mem_append_left _ (List.mem_append_left _ (List.mem_append_left _ (List.mem_append_left _ (List.mem_append_left _ (List.mem_of_getElem? (l := wsX4_stateOf_r1) (i := 1) rfl)))))), (List.forall_mem_cons.mpr ⟨List.mem_cons_of_mem _ (List.mem_append_left _ (List.mem_append_left _ (List.mem_append_left _ (List.mem_append_left _ (List.mem_append_left _ (List.mem_of_getElem? (l := wsX4_stateOf_r1) (i := 23) rfl)))))), (List.forall_mem_cons.mpr ⟨List.mem_cons_of_mem _ (List.mem_append_left _ (List.mem_append_left _ (List.mem_append_left _ (List.mem_append_left _ (List.mem_append_right _ (List.mem_append_left _ (List.mem_of_getElem? (l := wsX4_stateOf_r2) (i := 0) rfl))))))), (List.forall_mem_cons.mpr ⟨List.mem_cons_of_mem _ (List.mem_append_left _ (List.mem_append_left _ (List.mem_append_left _ (List.mem_append_left _ (List.mem_append_right _ (List.mem_append_left _ (List.mem_of_getElem? (l := wsX4_stateOf_r2) (i := 1) rfl))))))), (List.forall_mem_cons.mpr ⟨List.mem_cons_of_mem _ (List.mem_append_left _ (List.mem_append_left _ (List.mem_append_left _ (List.mem_append_left _ (List.mem_append_left _ (List.mem_of_getElem? (l := wsX4_stateOf_r1) (i := 5) rfl)))))), (List.forall_mem_cons.mpr ⟨List.mem_cons_of_mem _ (List.mem_append_left _ (List.mem_append_left _ (List.mem_append_left _ (List.mem_append_left _ (List.mem_append_right _ (List.mem_append_left _ (List.mem_of_getElem? (l := wsX4_stateOf_r2) (i := 2) rfl))))))), (List.forall_mem_cons.mpr ⟨List.mem_cons_of_mem _ (List.mem_append_left _ (List.mem_append_left _ (List.mem_append_left _ (List.mem_append_left _ (List.mem_append_right _ (List.mem_append_left _ (List.mem_of_getElem? (l := wsX4_stateOf_r2) (i := 3) rfl))))))), (List.forall_mem_cons.mpr ⟨List.mem_cons_of_mem _ (List.mem_append_left _ (List.mem_append_left _ (List.mem_append_left _ (List.mem_append_left _ (List.mem_append_left _ (List.mem_of_getElem? (l := wsX4_stateOf_r1) (i := 8) rfl)))))), (List.forall_mem_cons.mpr ⟨List.mem_cons_of_mem _ (List.mem_append_left _ (List.mem_append_left _ (List.mem_append_left _ (List.mem_append_left _ (List.mem_append_left _ (List.mem_of_getElem? (l := wsX4_stateOf_r1) (i := 9) rfl)))))), (List.forall_mem_cons.mpr ⟨List.mem_cons_of_mem _ (List.mem_append_left _ (List.mem_append_left _ (List.mem_append_left _ (List.mem_append_left _ (List.mem_append_left _ (List.mem_of_getElem? (l := wsX4_stateOf_r1) (i := 10) rfl)))))), (List.forall_mem_cons.mpr ⟨List.mem_cons_of_mem _ (List.mem_append_left _ (List.mem_append_left _ (List.mem_append_left _ (List.mem_append_left _ (List.mem_append_left _ (List.mem_of_getElem? (l := wsX4_stateOf_r1) (i := 11) rfl)))))), (List.forall_mem_cons.mpr ⟨List.mem_cons_of_mem _ (List.mem_append_left _ (List.mem_append_left _ (List.mem_append_left _ (List.mem_append_left _ (List.mem_append_left _ (List.mem_of_getElem? (l := wsX4_stateOf_r1) (i := 12) rfl)))))), (List.forall_mem_cons.mpr ⟨List.mem_cons_of_mem _ (List.mem_append_left _ (List.mem_append_left _ (List.mem_append_left _ (List.mem_append_left _ (List.mem_append_right _ (List.mem_append_left _ (List.mem_of_getElem? (l := wsX4_stateOf_r2) (i := 4) rfl))))))), (List.forall_mem_cons.mpr ⟨List.mem_cons_of_mem _ (List.mem_append_left _ (List.mem_append_left _ (List.mem_append_left _ (List.mem_append_left _ (List.mem_append_right _ (List.mem_append_left _ (List.mem_of_getElem? (l := wsX4_stateOf_r2) (i := 5) rfl))))))), (List.forall_mem_cons.mpr ⟨List.mem_cons_of_mem _ (List.mem_append_left _ (List.mem_append_left _ (List.mem_append_left _ (List.mem_append_left _ (List.mem_append_right _ (List.mem_append_left _ (List.mem_of_getElem? (l := wsX4_stateOf_r2) (i := 6) rfl))))))), (List.forall_mem_cons.mpr ⟨List.mem_cons_of_mem _ (List.mem_append_left _ (List.mem_append_left _ (List.mem_append_left _ (List.mem_append_left _ (List.mem_append_right _ (List.mem_append_left _ (List.mem_of_getElem? (l := wsX4_stateOf_r2) (i := 7) rfl))))))), (List.forall_mem_cons.mpr ⟨List.mem_cons_of_mem _ (List.mem_append_left _ (List.mem_append_left _ (List.mem_append_left _ (List.mem_append_left _ (List.mem_append_right _ (List.mem_append_left _ (List.mem_of_getElem? (l := wsX4_stateOf_r2) (i := 8) rfl))))))), (List.forall_mem_cons.mpr ⟨List.mem_cons_of_mem _ (List.mem_append_left _ (List.mem_append_left _ (List.mem_append_left _ (List.mem_append_left _ (List.mem_append_right _ (List.mem_append_left _ (List.mem_of_getElem? (l := wsX4_stateOf_r2) (i := 9) rfl))))))), (List.forall_mem_cons.mpr ⟨List.mem_cons_of_mem _ (List.mem_append_left _ (List.mem_append_left _ (List.mem_append_left _ (List.mem_append_left _ (List.mem_append_right _ (List.mem_append_left _ (List.mem_of_getElem? (l := wsX4_stateOf_r2) (i := 10) rfl))))))), (List.forall_mem_cons.mpr ⟨List.mem_cons_of_mem _ (List.mem_append_left _ (List.mem_append_left _ (List.mem_append_left _ (List.mem_append_left _ (List.mem_append_right _ (List.mem_append_left _ (List.mem_of_getElem? (l := wsX4_stateOf_r2) (i := 11) rfl))))))), (List.forall_mem_cons.mpr ⟨List.mem_cons_of_mem _ (List.mem_append_left _ (List.mem_append_left _ (List.mem_append_left _ (List.mem_append_left _ (List.mem_append_right _ (List.mem_append_left _ (List.mem_of_getElem? (l := wsX4_stateOf_r2) (i := 12) rfl))))))), (List.forall_mem_cons.mpr ⟨List.mem_cons_of_mem _ (List.mem_append_left _ (List.mem_append_left _ (List.mem_append_left _ (List.mem_append_left _ (List.mem_append_right _ (List.mem_append_left _ (List.mem_of_getElem? (l := wsX4_stateOf_r2) (i := 13) rfl))))))), (List.forall_mem_cons.mpr ⟨List.mem_cons_of_mem _ (List.mem_append_left _ (List.mem_append_left _ (List.mem_append_left _ (List.mem_append_left _ (List.mem_append_right _ (List.mem_append_left _ (List.mem_of_getElem? (l := wsX4_stateOf_r2) (i := 14) rfl))))))), (fun _ h => nomatch h)⟩)⟩)⟩)⟩)⟩)⟩)⟩)⟩)⟩)⟩)⟩)⟩)⟩)⟩)⟩)⟩)⟩)⟩)⟩)⟩)⟩)⟩)⟩)⟩), (List.forall_mem_cons.mpr ⟨List.mem_cons_of_mem _ (List.mem_append_left _ (List.mem_append_left _ (List.mem_append_left _ (List.mem_append_left _ (List.mem_append_right _ (List.mem_append_left _ (List.mem_of_getElem? (l := wsX4_stateOf_r2) (i := 15) rfl))))))), (List.forall_mem_cons.mpr ⟨List.mem_cons_of_mem _ (List.mem_append_left _ (List.mem_append_left _ (List.mem_append_left _ (List.mem_append_left _ (List.mem_append_right _ (List.mem_append_left _ (List.mem_of_getElem? (l := wsX4_stateOf_r2) (i := 16) rfl))))))), (List.forall_mem_cons.mpr ⟨List.mem_cons_of_mem _ (List.mem_append_left _ (List.mem_append_left _ (List.mem_append_left _ (List.mem_append_left _ (List.mem_append_right _ (List.mem_append_left _ (List.mem_of_getElem? (l := wsX4_stateOf_r2) (i := 17) rfl))))))), (List.forall_mem_cons.mpr ⟨List.mem_cons_of_mem _ (List.mem_append_left _ (List.mem_append_left _ (List.mem_append_left _ (List.mem_append_left _ (List.mem_append_right _ (List.mem_append_left _ (List.mem_of_getElem? (l := wsX4_stateOf_r2) (i := 18) rfl))))))), (List.forall_mem_cons.mpr ⟨List.mem_cons_of_mem _ (List.mem_append_left _ (List.mem_append_left _ (List.mem_append_left _ (List.mem_append_left _ (List.mem_append_right _ (List.mem_append_left _ (List.mem_of_getElem? (l := wsX4_stateOf_r2) (i := 19) rfl))))))), (List.forall_mem_cons.mpr ⟨List.mem_cons_of_mem _ (List.mem_append_left _ (List.mem_append_left _ (List.mem_append_left _ (List.mem_append_left _ (List.mem_append_right _ (List.mem_append_left _ (List.mem_of_getElem? (l := wsX4_stateOf_r2) (i := 20) rfl))))))), (List.forall_mem_cons.mpr ⟨List.mem_cons_of_mem _ (List.mem_append_left _ (List.mem_append_left _ (List.mem_append_left _ (List.mem_append_left _ (List.mem_append_right _ (List.mem_append_left _ (List.mem_of_getElem? (l := wsX4_stateOf_r2) (i := 21) rfl))))))), (List.forall_mem_cons.mpr ⟨List.mem_cons_of_mem _ (List.mem_append_left _ (List.mem_append_left _ (List.mem_append_left _ (List.mem_append_left _ (List.mem_append_right _ (List.mem_append_left _ (List.mem_of_getElem? (l := wsX4_stateOf_r2) (i := 22) rfl))))))), (List.forall_mem_cons.mpr ⟨List.mem_cons_of_mem _ (List.mem_append_left _ (List.mem_append_left _ (List.mem_append_left _ (List.mem_append_left _ (List.mem_append_right _ (List.mem_append_left _ (List.mem_of_getElem? (l := wsX4_stateOf_r2) (i := 23) rfl))))))), (fun _ h => nomatch h)⟩)⟩)⟩)⟩)⟩)⟩)⟩)⟩)⟩)⟩), (fun _ h => List.mem_cons_of_mem _ (List.mem_append_left _ (List.mem_append_left _ (List.mem_append_left _ (List.mem_append_right _ (h))))))⟩), (fun _ h => List.mem_cons_of_mem _ (List.mem_append_left _ (List.mem_append_left _ (List.mem_append_right _ (h)))))⟩), (fun _ h => List.mem_cons_of_mem _ (List.mem_append_left _ (List.mem_append_right _ (h))))⟩)⟩) (by decide +kernel)
set_option maxRecDepth 20000 in
theorem gX4_stateOf_X4_isOut : GoodIn wsX4_stateOf (wsV RX4 104 RX4 yX4_isOut wsX4_isOut) := goodIn_app (goodIn_of _ (by decide +kernel)) ggX4_stateOf_X4_isOut
set_option maxRecDepth 20000 in
theorem ggX4_stateOf_X9_lastMat : GoodIn wsX4_stateOf wsX9_lastMat := goodIn_sub (List.forall_mem_cons.mpr ⟨List.mem_cons_of_mem _ (List.mem_append_left _ (List.mem_append_left _ (List.mem_append_left _ (List.mem_append_left _ (List.mem_append_right _ (List.mem_append_right _ (List.mem_of_getElem? (l := wsX4_stateOf_r3) (i := 3) rfl))))))), (List.forall_mem_append.mpr ⟨(List.forall_mem_cons.mpr ⟨List.mem_cons_of_mem _ (List.mem_append_left _ (List.mem_append_left _ (List.mem_append_left _ (List.mem_append_left _ (List.mem_append_right _ (List.mem_append_left _ (List.mem_of_getElem? (l := wsX4_stateOf_r2) (i := 9) rfl))))))), (fun _ h => nomatch h)⟩), (fun _ h => List.mem_cons_of_mem _ (List.mem_append_left _ (List.mem_append_right _ (h))))⟩)⟩) (by decide +kernel)
set_option maxRecDepth 20000 in
theorem gX4_stateOf_X9_lastMat : GoodIn wsX4_stateOf (wsV RX4 107 RX9 yX9_lastMat wsX9_lastMat) := goodIn_app (goodIn_of _ (by decide +kernel)) ggX4_stateOf_X9_lastMat
set_option maxRecDepth 20000 in
theorem ggX4_stateOf_X6_splitAt : GoodIn wsX4_stateOf wsX6_splitAt := goodIn_sub (List.forall_mem_cons.mpr ⟨List.mem_cons_of_mem _ (List.mem_append_left _ (List.mem_append_left _ (List.mem_append_left _ (List.mem_append_left _ (List.mem_append_right _ (List.mem_append_left _ (List.mem_of_getElem? (l := wsX4_stateOf_r2) (i := 22) rfl))))))), (List.forall_mem_append.mpr ⟨(List.forall_mem_cons.mpr ⟨List.mem_cons_of_mem _ (List.mem_append_left _ (List.mem_append_left _ (List.mem_append_left _ (List.mem_append_left _ (List.mem_append_right _ (List.mem_append_left _ (List.mem_of_getElem? (l := wsX4_stateOf_r2) (i := 23) rfl))))))), (List.forall_mem_cons.mpr ⟨List.mem_cons_of_mem _ (List.mem_append_left _ (List.mem_append_left _ (List.mem_append_left _ (List.mem_append_left _ (List.mem_append_left _ (List.mem_of_getElem? (l := wsX4_stateOf_r1) (i := 8) rfl)))))), (List.forall_mem_cons.mpr ⟨List.mem_cons_of_mem _ (List.mem_append_left _ (List.mem_append_left _ (List.mem_append_left _ (List.mem_append_left _ (List.mem_append_left _ (List.mem_of_getElem? (l := wsX4_stateOf_r1) (i := 9) rfl)))))), (List.forall_mem_cons.mpr ⟨List.mem_cons_of_mem _ (List.mem_append_left _ (List.mem_append_left _ (List.mem_append_left _ (List.mem_append_left _ (List.mem_append_left _ (List.mem_of_getElem? (l := wsX4_stateOf_r1) (i := 10) rfl)))))), (List.forall_mem_cons.mpr ⟨List.mem_cons_of_mem _ (List.mem_append_left _ (List.mem_append_left _ (List.mem_append_left _ (List.mem_append_left _ (List.mem_append_left _ (List.mem_of_getElem? (l := wsX4_stateOf_r1) (i := 5) rfl)))))), (List.forall_mem_cons.mpr ⟨List.mem_cons_of_mem _ (List.mem_append_left _ (List.mem_append_left _ (List.mem_append_left _ (List.mem_append_left _ (List.mem_append_left _ (List.mem_of_getElem? (l := wsX4_stateOf_r1) (i := 11) rfl)))))), (List.forall_mem_cons.mpr ⟨List.mem_cons_of_mem _ (List.mem_append_left _ (List.mem_append_left _ (List.mem_append_left _ (List.mem_append_left _ (List.mem_append_left _ (List.mem_of_getElem? (l := wsX4_stateOf_r1) (i := 12) rfl)))))), (fun _ h => nomatch h)⟩)⟩)⟩)⟩)⟩)⟩)⟩), (fun _ h => List.mem_cons_of_mem _ (List.mem_append_left _ (List.mem_append_left _ (List.mem_append_right _ (h)))))⟩)⟩) (by decide +kernel)
set_option maxRecDepth 20000 in
theorem gX4_stateOf_X6_splitAt : GoodIn wsX4_stateOf (wsV RX4 91 RX6 yX6_splitAt wsX6_splitAt) := goodIn_app (goodIn_of _ (by decide +kernel)) ggX4_stateOf_X6_splitAt
set_option maxRecDepth 20000 in
theorem ggX4_stateOf_X4_startOf : GoodIn wsX4_stateOf wsX4_startOf := goodIn_sub (List.forall_mem_cons.mpr ⟨List.mem_cons_of_mem _ (List.mem_append_left _ (List.mem_append_left _ (List.mem_append_left _ (List.mem_append_left _ (List.mem_append_right _ (List.mem_append_right _ (List.mem_of_getElem? (l := wsX4_stateOf_r3) (i := 7) rfl))))))), (List.forall_mem_append.mpr ⟨(List.forall_mem_append.mpr ⟨(List.forall_mem_append.mpr ⟨(List.forall_mem_append.mpr ⟨(List.forall_mem_cons.mpr ⟨List.mem_cons_of_mem _ (List.mem_append_left _ (List.mem_append_left _ (List.mem_append_left _ (List.mem_append_left _ (List.mem_append_left _ (List.mem_of_getElem? (l := wsX4_stateOf_r1) (i := 0) rfl)))))), (List.forall_mem_cons.mpr ⟨List.mem_cons_of_mem _ (List.mem_append_left _ (List.mem_append_left _ (List.mem_append_left _ (List.mem_append_left _ (List.mem_append_right _ (List.mem_append_left _ (List.mem_of_getElem? (l := wsX4_stateOf_r2) (i := 19) rfl))))))), (List.forall_mem_cons.mpr ⟨List.mem_cons_of_mem _ (List.mem_append_left _ (List.mem_append_left _ (List.mem_append_left _ (List.mem_append_left _ (List.mem_append_right _ (List.mem_append_left _ (List.mem_of_getElem? (l := wsX4_stateOf_r2) (i := 20) rfl))))))), (List.forall_mem_cons.mpr ⟨List.mem_cons_of_mem _ (List.mem_append_left _ (List.mem_append_left _ (List.mem_append_left _ (List.mem_append_left _ (List.mem_append_right _ (List.mem_append_left _ (List.mem_of_getElem? (l := wsX4_stateOf_r2) (i := 21) rfl))))))), (List.forall_mem_cons.mpr ⟨List.mem_cons_of_mem _ (List.mem_append_left _ (List.mem_append_left _ (List.mem_append_left _ (List.mem_append_left _ (List.mem_append_left _ (List.mem_of_getElem? (l := wsX4_stateOf_r1) (i := 5) rfl)))))), (List.forall_mem_cons.mpr ⟨List.mem_cons_of_mem _ (List.mem_append_left _ (List.mem_append_left _ (List.mem_append_left _ (List.mem_append_left _ (List.mem_append_right _ (List.mem_append_left _ (List.mem_of_getElem? (l := wsX4_stateOf_r2) (i := 22) rfl))))))), (List.forall_mem_cons.mpr ⟨List.mem_cons_of_mem _ (List.mem_append_left _ (List.mem_append_left _ (List.mem_append_left _ (List.mem_append_left _ (List.mem_append_right _ (List.mem_append_left _ (List.mem_of_getElem? (l := wsX4_stateOf_r2) (i := 23) rfl))))))), (List.forall_mem_cons.mpr ⟨List.mem_cons_of_mem _ (List.mem_append_left _ (List.mem_append_left _ (List.mem_append_left _ (List.mem_append_left _ (List.mem_append_left _ (List.mem_of_getElem? (l := wsX4_stateOf_r1) (i := 8) rfl)))))), (List.forall_mem_cons.mpr ⟨List.mem_cons_of_mem _ (List.mem_append_left _ (List.mem_append_left _ (List.mem_append_left _ (List.mem_append_left _ (List.mem_append_left _ (List.mem_of_getElem? (l := wsX4_stateOf_r1) (i := 9) rfl)))))), (List.forall_mem_cons.mpr ⟨List.mem_cons_of_mem _ (List.mem_append_left _ (List.mem_append_left _ (List.mem_append_left _ (List.mem_append_left _ (List.mem_append_left _ (List.mem_of_getElem? (l := wsX4_stateOf_r1) (i := 10) rfl)))))), (List.forall_mem_cons.mpr ⟨List.mem_cons_of_mem _ (List.mem_append_left _ (List.mem_append_left _ (List.mem_append_left _ (List.mem_append_left _ (List.mem_append_left _ (List.mem_of_getElem? (l := wsX4_stateOf_r1) (i := 11) rfl)))))), (List.forall_mem_cons.mpr ⟨List.mem_cons_of_mem _ (List.mem_append_left _ (List.mem_append_left _ (List.mem_append_left _ (List.mem_append_left _ (List.mem_append_left _ (List.mem_of_getElem? (l := wsX4_stateOf_r1) (i := 12) rfl)))))), (List.forall_mem_cons.mpr ⟨List.mem_cons_of_mem _ (List.mem_append_left _ (List.mem_append_left _ (List.mem_append_left _ (List.mem_append_left _ (List.mem_append_right _ (List.mem_append_right _ (List.mem_of_getElem? (l := wsX4_stateOf_r3) (i := 8) rfl))))))), (List.forall_mem_cons.mpr ⟨List.mem_cons_of_mem _ (List.mem_append_left _ (List.mem_append_left _ (List.mem_append_left _ (List.mem_append_left _ (List.mem_append_right _ (List.mem_append_right _ (List.mem_of_getElem? (l := wsX4_stateOf_r3) (i := 9) rfl))))))), (List.forall_mem_cons.mpr ⟨List.mem_cons_of_mem _ (List.mem_append_left _ (List.mem_append_left _ (List.mem_append_left _ (List.mem_append_left _ (List.mem_append_right _ (List.mem_append_right _ (List.mem_of_getElem? (l := wsX4_stateOf_r3) (i := 10) rfl))))))), (List.forall_mem_cons.mpr ⟨List.mem_cons_of_mem _ (List.mem_append_left _ (List.mem_append_left _ (List.mem_append_left _ (List.mem_append_left _ (List.mem_append_left _ (List.mem_of_getElem? (l := wsX4_stateOf_r1) (i := 21) rfl)))))), (List.forall_mem_cons.mpr ⟨List.mem_cons_of_mem _ (List.mem_append_left _ (List.mem_append_left _ (List.mem_append_left _ (List.mem_append_left _ (List.mem_append_right _ (List.mem_append_right _ (List.mem_of_getElem? (l := wsX4_stateOf_r3) (i := 11) rfl))))))), (List.forall_mem_cons.mpr ⟨List.mem_cons_of_mem _ (List.mem_append_left _ (List.mem_append_left _ (List.mem_append_left _ (List.mem_append_left _ (List.mem_append_right _ (List.mem_append_right _ (List.mem_of_getElem? (l := wsX4_stateOf_r3) (i := 12) rfl))))))), (List.forall_mem_cons.mpr ⟨List.mem_cons_of_mem _ (List.mem_append_left _ (List.mem_append_left _ (List.mem_append_left _ (List.mem_append_left _ (List.mem_append_right _ (List.mem_append_right _ (List.mem_of_getElem? (l := wsX4_stateOf_r3) (i := 13) rfl))))))), (List.forall_mem_cons.mpr ⟨List.mem_cons_of_mem _ (List.mem_append_left _ (List.mem_append_left _ (List.mem_append_left _ (List.mem_append_left _ (List.mem_append_right _ (List.mem_append_right _ (List.mem_of_getElem? (l := wsX4_stateOf_r3) (i := 14) rfl))))))), (List.forall_mem_cons.mpr ⟨List.mem_cons_of_mem _ (List.mem_append_left _ (List.mem_append_left _ (List.mem_append_left _ (List.mem_append_left _ (List.mem_append_right _ (List.mem_append_right _ (List.mem_of_getElem? (l := wsX4_stateOf_r3) (i := 15) rfl))))))), (List.forall_mem_cons.mpr ⟨List.mem_cons_of_mem _ (List.mem_append_left _ (List.mem_append_left _ (List.mem_append_left _ (List.mem_append_left _ (List.mem_append_right _ (List.mem_append_right _ (List.mem_of_getElem? (l := wsX4_stateOf_r3) (i := 16) rfl))))))), (List.forall_mem_cons.mpr ⟨List.mem_cons_of_mem _ (List.mem_append_left _ (List.mem_append_left _ (List.mem_append_left _ (List.mem_append_left _ (List.mem_append_right _ (List.mem_append_right _ (List.mem_of_getElem? (l := wsX4_stateOf_r3) (i := 17) rfl))))))), (List.forall_mem_cons.mpr ⟨List.mem_cons_of_mem _ (List.mem_append_left _ (List.mem_append_left _ (List.mem_append_left _ (List.mem_append_left _ (List.mem_append_right _ (List.mem_append_right _ (List.mem_of_getElem? (l := wsX4_stateOf_r3) (i := 18) rfl))))))), (fun _ h => nomatch h)⟩)⟩)⟩)⟩)⟩)⟩)⟩)⟩)⟩)⟩)⟩)⟩)⟩)⟩)⟩)⟩)⟩)⟩)⟩)⟩)⟩)⟩)⟩)⟩), (List.forall_mem_cons.mpr ⟨List.mem_cons_of_mem _ (List.mem_append_left _ (List.mem_append_left _ (List.mem_append_left _ (List.mem_append_left _ (List.mem_append_right _ (List.mem_append_right _ (List.mem_of_getElem? (l := wsX4_stateOf_r3) (i := 19) rfl))))))), (List.forall_mem_cons.mpr ⟨List.mem_cons_of_mem _ (List.mem_append_left _ (List.mem_append_left _ (List.mem_append_left _ (List.mem_append_left _ (List.mem_append_right _ (List.mem_append_right _ (List.mem_of_getElem? (l := wsX4_stateOf_r3) (i := 20) rfl))))))), (List.forall_mem_cons.mpr ⟨List.mem_cons_of_mem _ (List.mem_append_left _ (List.mem_append_left _ (List.mem_append_left _ (List.mem_append_left _ (List.mem_append_right _ (List.mem_append_right _ (List.mem_of_getElem? (l := wsX4_stateOf_r3) (i := 21) rfl))))))), (List.forall_mem_cons.mpr ⟨List.mem_cons_of_mem _ (List.mem_append_left _ (List.mem_append_left _ (List.mem_append_left _ (List.mem_append_left _ (List.mem_append_right _ (List.mem_append_right _ (List.mem_of_getElem? (l := wsX4_stateOf_r3) (i := 22) rfl))))))), (List.forall_mem_cons.mpr ⟨List.mem_cons_of_mem _ (List.mem_append_left _ (List.mem_append_left _ (List.mem_append_left _ (List.mem_append_left _ (List.mem_append_right _ (List.mem_append_right _ (List.mem_of_getElem? (l := wsX4_stateOf_r3) (i := 23) rfl))))))), (fun _ h => nomatch h)⟩)⟩)⟩)⟩)⟩)⟩), (fun _ h => List.mem_cons_of_mem _ (List.mem_append_left _ (List.mem_append_left _ (List.mem_append_left _ (List.mem_append_right _ (h))))))⟩), (fun _ h => List.mem_cons_of_mem _ (List.mem_append_left _ (List.mem_append_left _ (List.mem_append_right _ (h)))))⟩), (fun _ h => List.mem_cons_of_mem _ (List.mem_append_right _ (h)))⟩)⟩) (by decide +kernel)
set_option maxRecDepth 20000 in
theorem gX4_stateOf_X4_startOf : GoodIn wsX4_stateOf (wsV RX4 67 RX4 yX4_startOf wsX4_startOf) := goodIn_app (goodIn_of _ (by decide +kernel)) ggX4_stateOf_X4_startOf
theorem kX4_stateOf_0 : (.fieldLink RX4 28 "RunDesk$Race" "runners" "LRunDesk$Runners;" : Cond) ∈ wsX4_stateOf := List.mem_of_getElem? (i := 1) (by decide +kernel)
theorem qX4_stateOf_X4 : ∀ w ∈ wsX40, w ∈ wsX4_stateOf := fun _ h => List.mem_cons_of_mem _ (List.mem_append_left _ (List.mem_append_left _ (List.mem_append_left _ (List.mem_append_right _ (h)))))
theorem kX4_stateOf_2 : (.fieldLink RX4 12 "RunDesk$Race" "way" "LRunDesk$Way;" : Cond) ∈ wsX4_stateOf := List.mem_of_getElem? (i := 2) (by decide +kernel)
set_option maxHeartbeats 4000000 in
set_option maxRecDepth 100000 in
theorem mX4_stateOf (l : Launch) (D : va_G) (cB cI cZ : ClassId) (a_t : Nat) (a_t_way : Nat) (a_t_guns : Nat) (a_t_runners : Nat) (a_t_guns_ticks : Nat) (a_t_runners_facts : Nat) (a_t_runners_splits : Nat) (a_t_runners_torn : Nat) (a_t_runners_dropped : Nat) (a_t_runners_waved : Nat) (a_t_runners_struck : Nat) (a_t_runners_strikingOrder : Nat) (a_t_way_places : Nat) (a_t_way_bearings : Nat) (a_t_way_cuts : Nat) (a_t_way_deaths : Nat) (t_guns_ticks : Nat → Int32) (t_runners_entered : Int32) (t_runners_strikings : Int32) (t_runners_dropped : Nat → Int32) (t_runners_facts : Nat → Int32) (t_runners_splits : Nat → Int32) (t_runners_struck : Nat → Int32) (t_runners_waved : Nat → Int32) (t_way_mats : Int32) (t_way_cuts : Nat → Int32) (sz : Nat) (x1 : Int32) (N : Nat) (r0 : Int32) (h : fX4_stateOf N t_guns_ticks t_runners_entered t_runners_dropped t_runners_facts t_runners_splits t_runners_struck t_runners_waved t_way_mats t_way_cuts x1 = some (r0)) : Met l yX4_stateOf wsX4_stateOf ({ frames := 3, cells := 0, slots := 0, locals := 66 } : Room) (va_Pc [.ref a_t, .int x1] (zPre D (zT cB cI cZ) [(a_t, .inr (4, [.ref a_t_way, .ref a_t_guns, .ref a_t_runners])), (a_t_guns, .inr (2, [.ref a_t_guns_ticks])), (a_t_guns_ticks, .inl (cI, 6, .inl t_guns_ticks)), (a_t_runners, .inr (6, [.ref a_t_runners_facts, .ref a_t_runners_splits, .ref a_t_runners_torn, .ref a_t_runners_dropped, .ref a_t_runners_waved, .ref a_t_runners_struck, .ref a_t_runners_strikingOrder, .int t_runners_entered, .int t_runners_strikings])), (a_t_runners_dropped, .inl (cZ, 60, .inl t_runners_dropped)), (a_t_runners_facts, .inl (cI, 360, .inl t_runners_facts)), (a_t_runners_splits, .inl (cI, 720, .inl t_runners_splits)), (a_t_runners_struck, .inl (cZ, 60, .inl t_runners_struck)), (a_t_runners_waved, .inl (cZ, 60, .inl t_runners_waved)), (a_t_way, .inr (9, [.ref a_t_way_places, .ref a_t_way_bearings, .ref a_t_way_cuts, .ref a_t_way_deaths, .int t_way_mats])), (a_t_way_cuts, .inl (cI, 12, .inl t_way_cuts))] sz)) (zQi r0 D (zT cB cI cZ) [(a_t, .inr (4, [.ref a_t_way, .ref a_t_guns, .ref a_t_runners])), (a_t_guns, .inr (2, [.ref a_t_guns_ticks])), (a_t_guns_ticks, .inl (cI, 6, .inl t_guns_ticks)), (a_t_runners, .inr (6, [.ref a_t_runners_facts, .ref a_t_runners_splits, .ref a_t_runners_torn, .ref a_t_runners_dropped, .ref a_t_runners_waved, .ref a_t_runners_struck, .ref a_t_runners_strikingOrder, .int t_runners_entered, .int t_runners_strikings])), (a_t_runners_dropped, .inl (cZ, 60, .inl t_runners_dropped)), (a_t_runners_facts, .inl (cI, 360, .inl t_runners_facts)), (a_t_runners_splits, .inl (cI, 720, .inl t_runners_splits)), (a_t_runners_struck, .inl (cZ, 60, .inl t_runners_struck)), (a_t_runners_waved, .inl (cZ, 60, .inl t_runners_waved)), (a_t_way, .inr (9, [.ref a_t_way_places, .ref a_t_way_bearings, .ref a_t_way_cuts, .ref a_t_way_deaths, .int t_way_mats])), (a_t_way_cuts, .inl (cI, 12, .inl t_way_cuts))] (va_A [(a_t, .inr (4, [.ref a_t_way, .ref a_t_guns, .ref a_t_runners])), (a_t_guns, .inr (2, [.ref a_t_guns_ticks])), (a_t_guns_ticks, .inl (cI, 6, .inl t_guns_ticks)), (a_t_runners, .inr (6, [.ref a_t_runners_facts, .ref a_t_runners_splits, .ref a_t_runners_torn, .ref a_t_runners_dropped, .ref a_t_runners_waved, .ref a_t_runners_struck, .ref a_t_runners_strikingOrder, .int t_runners_entered, .int t_runners_strikings])), (a_t_runners_dropped, .inl (cZ, 60, .inl t_runners_dropped)), (a_t_runners_facts, .inl (cI, 360, .inl t_runners_facts)), (a_t_runners_splits, .inl (cI, 720, .inl t_runners_splits)), (a_t_runners_struck, .inl (cZ, 60, .inl t_runners_struck)), (a_t_runners_waved, .inl (cZ, 60, .inl t_runners_waved)), (a_t_way, .inr (9, [.ref a_t_way_places, .ref a_t_way_bearings, .ref a_t_way_cuts, .ref a_t_way_deaths, .int t_way_mats])), (a_t_way_cuts, .inl (cI, 12, .inl t_way_cuts))] sz)) 0 0 (va_A [(a_t, .inr (4, [.ref a_t_way, .ref a_t_guns, .ref a_t_runners])), (a_t_guns, .inr (2, [.ref a_t_guns_ticks])), (a_t_guns_ticks, .inl (cI, 6, .inl t_guns_ticks)), (a_t_runners, .inr (6, [.ref a_t_runners_facts, .ref a_t_runners_splits, .ref a_t_runners_torn, .ref a_t_runners_dropped, .ref a_t_runners_waved, .ref a_t_runners_struck, .ref a_t_runners_strikingOrder, .int t_runners_entered, .int t_runners_strikings])), (a_t_runners_dropped, .inl (cZ, 60, .inl t_runners_dropped)), (a_t_runners_facts, .inl (cI, 360, .inl t_runners_facts)), (a_t_runners_splits, .inl (cI, 720, .inl t_runners_splits)), (a_t_runners_struck, .inl (cZ, 60, .inl t_runners_struck)), (a_t_runners_waved, .inl (cZ, 60, .inl t_runners_waved)), (a_t_way, .inr (9, [.ref a_t_way_places, .ref a_t_way_bearings, .ref a_t_way_cuts, .ref a_t_way_deaths, .int t_way_mats])), (a_t_way_cuts, .inl (cI, 12, .inl t_way_cuts))] sz) := by
  refine Met.ofW (cc := cX4_stateOf) (maxL := 2) (ret := (some .int)) (by decide) rfl ?_
  intro p e s m args below meth c s₁ B hml hv
  obtain ⟨rfl, hsz, hP, hK, hN, hZ, hD0⟩ := hv
  have hx := B.exec
  have hb := B.bytes
  have hr := B.returns
  have hts := atoms_spec (ws := wsX4_stateOf) B.pre
  have hown : s.vm.findClass RX4 = some m.cls := findClass_of_methodNamed B.named
  have hlocks := B.notSynchronized
  subst hsz
  have hD := hD0.self (sz := s.heap.size)
  generalize hAe : va_A [(a_t, .inr (4, [.ref a_t_way, .ref a_t_guns, .ref a_t_runners])), (a_t_guns, .inr (2, [.ref a_t_guns_ticks])), (a_t_guns_ticks, .inl (cI, 6, .inl t_guns_ticks)), (a_t_runners, .inr (6, [.ref a_t_runners_facts, .ref a_t_runners_splits, .ref a_t_runners_torn, .ref a_t_runners_dropped, .ref a_t_runners_waved, .ref a_t_runners_struck, .ref a_t_runners_strikingOrder, .int t_runners_entered, .int t_runners_strikings])), (a_t_runners_dropped, .inl (cZ, 60, .inl t_runners_dropped)), (a_t_runners_facts, .inl (cI, 360, .inl t_runners_facts)), (a_t_runners_splits, .inl (cI, 720, .inl t_runners_splits)), (a_t_runners_struck, .inl (cZ, 60, .inl t_runners_struck)), (a_t_runners_waved, .inl (cZ, 60, .inl t_runners_waved)), (a_t_way, .inr (9, [.ref a_t_way_places, .ref a_t_way_bearings, .ref a_t_way_cuts, .ref a_t_way_deaths, .int t_way_mats])), (a_t_way_cuts, .inl (cI, 12, .inl t_way_cuts))] s.heap.size = A at hD hZ ⊢
  have hA : ∀ q : Nat, s.heap.size ≤ q → A q := fun q h => by rw [← hAe]; exact Or.inr h
  have hS : va_S A s.heap s.heap [] := va_S.rf
  have hl := lv_entry ([.ref a_t, .int x1]) (n := 2) (Nat.le_of_ble_eq_true rfl)
  rw [lg_entry_eq]
  generalize (lg_sl ([.ref a_t, .int x1]) ++ List.replicate (2 - (lg_sl ([.ref a_t, .int x1])).length) Slot.unset).toArray = ls at hl ⊢
  have hl : lv_has ls 2 [(0, .ref a_t), (1, .int x1)] := hl
  unfold fX4_stateOf at h
  refine lv_aload_n hx hb dX4_stateOf_0 rfl (lv_at hl 0 rfl) ?_
  refine va_get (D := D) (ci := 4) (C := RX4) (T := TX4) (N := 3) hx hb hts qX4_stateOf_X4 hown hK hP 0 rfl rfl 2 (by decide) (hts _ kX4_stateOf_0) (fun _ h9 => h9) rfl dX4_stateOf_1 ?_
  refine lv_iload_n hx hb dX4_stateOf_4 rfl (lv_at hl 1 rfl) ?_
  obtain ⟨b1, e2, h⟩ := zz_b h
  refine zVi (As := [.int x1]) (rest := []) (C := RX6) (wr := [(a_t, .inr (4, [.ref a_t_way, .ref a_t_guns, .ref a_t_runners])), (a_t_guns, .inr (2, [.ref a_t_guns_ticks])), (a_t_guns_ticks, .inl (cI, 6, .inl t_guns_ticks)), (a_t_runners_dropped, .inl (cZ, 60, .inl t_runners_dropped)), (a_t_runners_facts, .inl (cI, 360, .inl t_runners_facts)), (a_t_runners_splits, .inl (cI, 720, .inl t_runners_splits)), (a_t_runners_waved, .inl (cZ, 60, .inl t_runners_waved)), (a_t_way, .inr (9, [.ref a_t_way_places, .ref a_t_way_bearings, .ref a_t_way_cuts, .ref a_t_way_deaths, .int t_way_mats])), (a_t_way_cuts, .inl (cI, 12, .inl t_way_cuts))]) [3, 7] [0, 1, 2, 4, 5, 6, 8, 9, 10] 0 ⟨hx, hb, hml, hown, hts⟩ (mX6_isStruck l D cB cI cZ a_t_runners a_t_runners_facts a_t_runners_splits a_t_runners_torn a_t_runners_dropped a_t_runners_waved a_t_runners_struck a_t_runners_strikingOrder t_runners_entered t_runners_strikings t_runners_struck s.heap.size x1 b1 e2) (cwV 1 hts gX4_stateOf_X6_isStruck rfl rfl rfl (by decide +kernel) ⟨Nat.le_of_ble_eq_true rfl, Nat.le_of_ble_eq_true rfl⟩) hK hN hZ hP hD hS hA rfl rfl rfl rfl rfl rfl rfl rfl hl.1 rfl (lv_room (Nat.le_of_ble_eq_true rfl)) dX4_stateOf_5 ⟨Nat.le_of_ble_eq_true rfl, Nat.le_of_ble_eq_true rfl⟩ (fun H locs hP hD hS => ?_)
  have hP : va_P D vwCl [(a_t, .inr (4, [.ref a_t_way, .ref a_t_guns, .ref a_t_runners])), (a_t_guns, .inr (2, [.ref a_t_guns_ticks])), (a_t_guns_ticks, .inl (cI, 6, .inl t_guns_ticks)), (a_t_runners_dropped, .inl (cZ, 60, .inl t_runners_dropped)), (a_t_runners_facts, .inl (cI, 360, .inl t_runners_facts)), (a_t_runners_splits, .inl (cI, 720, .inl t_runners_splits)), (a_t_runners_waved, .inl (cZ, 60, .inl t_runners_waved)), (a_t_way, .inr (9, [.ref a_t_way_places, .ref a_t_way_bearings, .ref a_t_way_cuts, .ref a_t_way_deaths, .int t_way_mats])), (a_t_way_cuts, .inl (cI, 12, .inl t_way_cuts)), (a_t_runners, .inr (6, [.ref a_t_runners_facts, .ref a_t_runners_splits, .ref a_t_runners_torn, .ref a_t_runners_dropped, .ref a_t_runners_waved, .ref a_t_runners_struck, .ref a_t_runners_strikingOrder, .int t_runners_entered, .int t_runners_strikings])), (a_t_runners_struck, .inl (cZ, 60, .inl t_runners_struck))] H := hP
  have hD : va_D A [(a_t, .inr (4, [.ref a_t_way, .ref a_t_guns, .ref a_t_runners])), (a_t_guns, .inr (2, [.ref a_t_guns_ticks])), (a_t_guns_ticks, .inl (cI, 6, .inl t_guns_ticks)), (a_t_runners_dropped, .inl (cZ, 60, .inl t_runners_dropped)), (a_t_runners_facts, .inl (cI, 360, .inl t_runners_facts)), (a_t_runners_splits, .inl (cI, 720, .inl t_runners_splits)), (a_t_runners_waved, .inl (cZ, 60, .inl t_runners_waved)), (a_t_way, .inr (9, [.ref a_t_way_places, .ref a_t_way_bearings, .ref a_t_way_cuts, .ref a_t_way_deaths, .int t_way_mats])), (a_t_way_cuts, .inl (cI, 12, .inl t_way_cuts)), (a_t_runners, .inr (6, [.ref a_t_runners_facts, .ref a_t_runners_splits, .ref a_t_runners_torn, .ref a_t_runners_dropped, .ref a_t_runners_waved, .ref a_t_runners_struck, .ref a_t_runners_strikingOrder, .int t_runners_entered, .int t_runners_strikings])), (a_t_runners_struck, .inl (cZ, 60, .inl t_runners_struck))] := hD
  refine lv_if_eq (tgt := 13) hx hb dX4_stateOf_8 (by decide) (fun c3 => ?_) (fun c3 => ?_)
  · have h := zz_t h c3
    refine lv_aload_n hx hb dX4_stateOf_13 rfl (lv_at hl 0 rfl) ?_
    refine va_get (D := D) (ci := 4) (C := RX4) (T := TX4) (N := 3) hx hb hts qX4_stateOf_X4 hown hK hP 0 rfl rfl 2 (by decide) (hts _ kX4_stateOf_0) (fun _ h9 => h9) rfl dX4_stateOf_14 ?_
    refine lv_iload_n hx hb dX4_stateOf_17 rfl (lv_at hl 1 rfl) ?_
    obtain ⟨b4, e5, h⟩ := zz_b h
    refine zVi (As := [.int x1]) (rest := []) (C := RX6) (wr := [(a_t, .inr (4, [.ref a_t_way, .ref a_t_guns, .ref a_t_runners])), (a_t_guns, .inr (2, [.ref a_t_guns_ticks])), (a_t_guns_ticks, .inl (cI, 6, .inl t_guns_ticks)), (a_t_runners_facts, .inl (cI, 360, .inl t_runners_facts)), (a_t_runners_splits, .inl (cI, 720, .inl t_runners_splits)), (a_t_runners_waved, .inl (cZ, 60, .inl t_runners_waved)), (a_t_way, .inr (9, [.ref a_t_way_places, .ref a_t_way_bearings, .ref a_t_way_cuts, .ref a_t_way_deaths, .int t_way_mats])), (a_t_way_cuts, .inl (cI, 12, .inl t_way_cuts)), (a_t_runners_struck, .inl (cZ, 60, .inl t_runners_struck))]) [9, 3] [0, 1, 2, 4, 5, 6, 7, 8, 10] 0 ⟨hx, hb, hml, hown, hts⟩ (mX6_isDropped l D cB cI cZ a_t_runners a_t_runners_facts a_t_runners_splits a_t_runners_torn a_t_runners_dropped a_t_runners_waved a_t_runners_struck a_t_runners_strikingOrder t_runners_entered t_runners_strikings t_runners_dropped H.size x1 b4 e5) (cwV 1 hts gX4_stateOf_X6_isDropped rfl rfl rfl (by decide +kernel) ⟨Nat.le_of_ble_eq_true rfl, Nat.le_of_ble_eq_true rfl⟩) hK hN hZ hP hD hS hA rfl rfl rfl rfl rfl rfl rfl rfl hl.1 rfl (lv_room (Nat.le_of_ble_eq_true rfl)) dX4_stateOf_18 ⟨Nat.le_of_ble_eq_true rfl, Nat.le_of_ble_eq_true rfl⟩ (fun H locs hP hD hS => ?_)
    have hP : va_P D vwCl [(a_t, .inr (4, [.ref a_t_way, .ref a_t_guns, .ref a_t_runners])), (a_t_guns, .inr (2, [.ref a_t_guns_ticks])), (a_t_guns_ticks, .inl (cI, 6, .inl t_guns_ticks)), (a_t_runners_facts, .inl (cI, 360, .inl t_runners_facts)), (a_t_runners_splits, .inl (cI, 720, .inl t_runners_splits)), (a_t_runners_waved, .inl (cZ, 60, .inl t_runners_waved)), (a_t_way, .inr (9, [.ref a_t_way_places, .ref a_t_way_bearings, .ref a_t_way_cuts, .ref a_t_way_deaths, .int t_way_mats])), (a_t_way_cuts, .inl (cI, 12, .inl t_way_cuts)), (a_t_runners_struck, .inl (cZ, 60, .inl t_runners_struck)), (a_t_runners, .inr (6, [.ref a_t_runners_facts, .ref a_t_runners_splits, .ref a_t_runners_torn, .ref a_t_runners_dropped, .ref a_t_runners_waved, .ref a_t_runners_struck, .ref a_t_runners_strikingOrder, .int t_runners_entered, .int t_runners_strikings])), (a_t_runners_dropped, .inl (cZ, 60, .inl t_runners_dropped))] H := hP
    have hD : va_D A [(a_t, .inr (4, [.ref a_t_way, .ref a_t_guns, .ref a_t_runners])), (a_t_guns, .inr (2, [.ref a_t_guns_ticks])), (a_t_guns_ticks, .inl (cI, 6, .inl t_guns_ticks)), (a_t_runners_facts, .inl (cI, 360, .inl t_runners_facts)), (a_t_runners_splits, .inl (cI, 720, .inl t_runners_splits)), (a_t_runners_waved, .inl (cZ, 60, .inl t_runners_waved)), (a_t_way, .inr (9, [.ref a_t_way_places, .ref a_t_way_bearings, .ref a_t_way_cuts, .ref a_t_way_deaths, .int t_way_mats])), (a_t_way_cuts, .inl (cI, 12, .inl t_way_cuts)), (a_t_runners_struck, .inl (cZ, 60, .inl t_runners_struck)), (a_t_runners, .inr (6, [.ref a_t_runners_facts, .ref a_t_runners_splits, .ref a_t_runners_torn, .ref a_t_runners_dropped, .ref a_t_runners_waved, .ref a_t_runners_struck, .ref a_t_runners_strikingOrder, .int t_runners_entered, .int t_runners_strikings])), (a_t_runners_dropped, .inl (cZ, 60, .inl t_runners_dropped))] := hD
    refine lv_if_eq (tgt := 26) hx hb dX4_stateOf_21 (by decide) (fun c6 => ?_) (fun c6 => ?_)
    · have h := zz_t h c6
      refine lv_aload_n hx hb dX4_stateOf_26 rfl (lv_at hl 0 rfl) ?_
      refine lv_iload_n hx hb dX4_stateOf_27 rfl (lv_at hl 1 rfl) ?_
      obtain ⟨b7, e8, h⟩ := zz_b h
      refine zVi (As := [.int x1]) (rest := []) (C := RX4) (wr := [(a_t_guns, .inr (2, [.ref a_t_guns_ticks])), (a_t_guns_ticks, .inl (cI, 6, .inl t_guns_ticks)), (a_t_runners_facts, .inl (cI, 360, .inl t_runners_facts)), (a_t_runners_struck, .inl (cZ, 60, .inl t_runners_struck)), (a_t_runners_dropped, .inl (cZ, 60, .inl t_runners_dropped))]) [0, 9, 4, 5, 6, 7] [1, 2, 3, 8, 10] 0 ⟨hx, hb, hml, hown, hts⟩ (mX4_isOut l D cB cI cZ a_t a_t_way a_t_guns a_t_runners a_t_runners_facts a_t_runners_splits a_t_runners_torn a_t_runners_dropped a_t_runners_waved a_t_runners_struck a_t_runners_strikingOrder a_t_way_places a_t_way_bearings a_t_way_cuts a_t_way_deaths t_runners_entered t_runners_strikings t_runners_splits t_runners_waved t_way_mats t_way_cuts H.size x1 N b7 e8) (cwV 1 hts gX4_stateOf_X4_isOut rfl rfl rfl (by decide +kernel) ⟨Nat.le_of_ble_eq_true rfl, Nat.le_of_ble_eq_true rfl⟩) hK hN hZ hP hD hS hA rfl rfl rfl rfl rfl rfl rfl rfl hl.1 rfl (lv_room (Nat.le_of_ble_eq_true rfl)) dX4_stateOf_28 ⟨Nat.le_of_ble_eq_true rfl, Nat.le_of_ble_eq_true rfl⟩ (fun H locs hP hD hS => ?_)
      have hP : va_P D vwCl [(a_t_guns, .inr (2, [.ref a_t_guns_ticks])), (a_t_guns_ticks, .inl (cI, 6, .inl t_guns_ticks)), (a_t_runners_facts, .inl (cI, 360, .inl t_runners_facts)), (a_t_runners_struck, .inl (cZ, 60, .inl t_runners_struck)), (a_t_runners_dropped, .inl (cZ, 60, .inl t_runners_dropped)), (a_t, .inr (4, [.ref a_t_way, .ref a_t_guns, .ref a_t_runners])), (a_t_runners, .inr (6, [.ref a_t_runners_facts, .ref a_t_runners_splits, .ref a_t_runners_torn, .ref a_t_runners_dropped, .ref a_t_runners_waved, .ref a_t_runners_struck, .ref a_t_runners_strikingOrder, .int t_runners_entered, .int t_runners_strikings])), (a_t_runners_splits, .inl (cI, 720, .inl t_runners_splits)), (a_t_runners_waved, .inl (cZ, 60, .inl t_runners_waved)), (a_t_way, .inr (9, [.ref a_t_way_places, .ref a_t_way_bearings, .ref a_t_way_cuts, .ref a_t_way_deaths, .int t_way_mats])), (a_t_way_cuts, .inl (cI, 12, .inl t_way_cuts))] H := hP
      have hD : va_D A [(a_t_guns, .inr (2, [.ref a_t_guns_ticks])), (a_t_guns_ticks, .inl (cI, 6, .inl t_guns_ticks)), (a_t_runners_facts, .inl (cI, 360, .inl t_runners_facts)), (a_t_runners_struck, .inl (cZ, 60, .inl t_runners_struck)), (a_t_runners_dropped, .inl (cZ, 60, .inl t_runners_dropped)), (a_t, .inr (4, [.ref a_t_way, .ref a_t_guns, .ref a_t_runners])), (a_t_runners, .inr (6, [.ref a_t_runners_facts, .ref a_t_runners_splits, .ref a_t_runners_torn, .ref a_t_runners_dropped, .ref a_t_runners_waved, .ref a_t_runners_struck, .ref a_t_runners_strikingOrder, .int t_runners_entered, .int t_runners_strikings])), (a_t_runners_splits, .inl (cI, 720, .inl t_runners_splits)), (a_t_runners_waved, .inl (cZ, 60, .inl t_runners_waved)), (a_t_way, .inr (9, [.ref a_t_way_places, .ref a_t_way_bearings, .ref a_t_way_cuts, .ref a_t_way_deaths, .int t_way_mats])), (a_t_way_cuts, .inl (cI, 12, .inl t_way_cuts))] := hD
      refine lv_if_eq (tgt := 36) hx hb dX4_stateOf_31 (by decide) (fun c9 => ?_) (fun c9 => ?_)
      · have h := zz_t h c9
        refine lv_aload_n hx hb dX4_stateOf_36 rfl (lv_at hl 0 rfl) ?_
        refine va_get (D := D) (ci := 4) (C := RX4) (T := TX4) (N := 3) hx hb hts qX4_stateOf_X4 hown hK hP 5 rfl rfl 2 (by decide) (hts _ kX4_stateOf_0) (fun _ h9 => h9) rfl dX4_stateOf_37 ?_
        refine lv_iload_n hx hb dX4_stateOf_40 rfl (lv_at hl 1 rfl) ?_
        refine lv_aload_n hx hb dX4_stateOf_41 rfl (lv_at hl 0 rfl) ?_
        refine va_get (D := D) (ci := 4) (C := RX4) (T := TX4) (N := 3) hx hb hts qX4_stateOf_X4 hown hK hP 5 rfl rfl 0 (by decide) (hts _ kX4_stateOf_2) (fun _ h9 => h9) rfl dX4_stateOf_42 ?_
        obtain ⟨r10, e11, h⟩ := zz_b h
        refine zVi (As := []) (rest := [.int x1, .ref a_t_runners]) (C := RX9) (wr := [(a_t_guns, .inr (2, [.ref a_t_guns_ticks])), (a_t_guns_ticks, .inl (cI, 6, .inl t_guns_ticks)), (a_t_runners_facts, .inl (cI, 360, .inl t_runners_facts)), (a_t_runners_struck, .inl (cZ, 60, .inl t_runners_struck)), (a_t_runners_dropped, .inl (cZ, 60, .inl t_runners_dropped)), (a_t, .inr (4, [.ref a_t_way, .ref a_t_guns, .ref a_t_runners])), (a_t_runners, .inr (6, [.ref a_t_runners_facts, .ref a_t_runners_splits, .ref a_t_runners_torn, .ref a_t_runners_dropped, .ref a_t_runners_waved, .ref a_t_runners_struck, .ref a_t_runners_strikingOrder, .int t_runners_entered, .int t_runners_strikings])), (a_t_runners_splits, .inl (cI, 720, .inl t_runners_splits)), (a_t_runners_waved, .inl (cZ, 60, .inl t_runners_waved)), (a_t_way_cuts, .inl (cI, 12, .inl t_way_cuts))]) [9] [0, 1, 2, 3, 4, 5, 6, 7, 8, 10] 0 ⟨hx, hb, hml, hown, hts⟩ (mX9_lastMat l D cB cI cZ a_t_way a_t_way_places a_t_way_bearings a_t_way_cuts a_t_way_deaths t_way_mats H.size r10 e11) (cwV 0 hts gX4_stateOf_X9_lastMat rfl rfl rfl (by decide +kernel) ⟨Nat.le_of_ble_eq_true rfl, Nat.le_of_ble_eq_true rfl⟩) hK hN hZ hP hD hS hA rfl rfl rfl rfl rfl rfl rfl rfl hl.1 rfl (lv_room (Nat.le_of_ble_eq_true rfl)) dX4_stateOf_45 ⟨Nat.le_of_ble_eq_true rfl, Nat.le_of_ble_eq_true rfl⟩ (fun H locs hP hD hS => ?_)
        have hP : va_P D vwCl [(a_t_guns, .inr (2, [.ref a_t_guns_ticks])), (a_t_guns_ticks, .inl (cI, 6, .inl t_guns_ticks)), (a_t_runners_facts, .inl (cI, 360, .inl t_runners_facts)), (a_t_runners_struck, .inl (cZ, 60, .inl t_runners_struck)), (a_t_runners_dropped, .inl (cZ, 60, .inl t_runners_dropped)), (a_t, .inr (4, [.ref a_t_way, .ref a_t_guns, .ref a_t_runners])), (a_t_runners, .inr (6, [.ref a_t_runners_facts, .ref a_t_runners_splits, .ref a_t_runners_torn, .ref a_t_runners_dropped, .ref a_t_runners_waved, .ref a_t_runners_struck, .ref a_t_runners_strikingOrder, .int t_runners_entered, .int t_runners_strikings])), (a_t_runners_splits, .inl (cI, 720, .inl t_runners_splits)), (a_t_runners_waved, .inl (cZ, 60, .inl t_runners_waved)), (a_t_way_cuts, .inl (cI, 12, .inl t_way_cuts)), (a_t_way, .inr (9, [.ref a_t_way_places, .ref a_t_way_bearings, .ref a_t_way_cuts, .ref a_t_way_deaths, .int t_way_mats]))] H := hP
        have hD : va_D A [(a_t_guns, .inr (2, [.ref a_t_guns_ticks])), (a_t_guns_ticks, .inl (cI, 6, .inl t_guns_ticks)), (a_t_runners_facts, .inl (cI, 360, .inl t_runners_facts)), (a_t_runners_struck, .inl (cZ, 60, .inl t_runners_struck)), (a_t_runners_dropped, .inl (cZ, 60, .inl t_runners_dropped)), (a_t, .inr (4, [.ref a_t_way, .ref a_t_guns, .ref a_t_runners])), (a_t_runners, .inr (6, [.ref a_t_runners_facts, .ref a_t_runners_splits, .ref a_t_runners_torn, .ref a_t_runners_dropped, .ref a_t_runners_waved, .ref a_t_runners_struck, .ref a_t_runners_strikingOrder, .int t_runners_entered, .int t_runners_strikings])), (a_t_runners_splits, .inl (cI, 720, .inl t_runners_splits)), (a_t_runners_waved, .inl (cZ, 60, .inl t_runners_waved)), (a_t_way_cuts, .inl (cI, 12, .inl t_way_cuts)), (a_t_way, .inr (9, [.ref a_t_way_places, .ref a_t_way_bearings, .ref a_t_way_cuts, .ref a_t_way_deaths, .int t_way_mats]))] := hD
        obtain ⟨r12, e13, h⟩ := zz_b h
        refine zVi (As := [.int x1, .int r10]) (rest := []) (C := RX6) (wr := [(a_t_guns, .inr (2, [.ref a_t_guns_ticks])), (a_t_guns_ticks, .inl (cI, 6, .inl t_guns_ticks)), (a_t_runners_facts, .inl (cI, 360, .inl t_runners_facts)), (a_t_runners_struck, .inl (cZ, 60, .inl t_runners_struck)), (a_t_runners_dropped, .inl (cZ, 60, .inl t_runners_dropped)), (a_t, .inr (4, [.ref a_t_way, .ref a_t_guns, .ref a_t_runners])), (a_t_runners_waved, .inl (cZ, 60, .inl t_runners_waved)), (a_t_way_cuts, .inl (cI, 12, .inl t_way_cuts)), (a_t_way, .inr (9, [.ref a_t_way_places, .ref a_t_way_bearings, .ref a_t_way_cuts, .ref a_t_way_deaths, .int t_way_mats]))]) [6, 7] [0, 1, 2, 3, 4, 5, 8, 9, 10] 0 ⟨hx, hb, hml, hown, hts⟩ (mX6_splitAt l D cB cI cZ a_t_runners a_t_runners_facts a_t_runners_splits a_t_runners_torn a_t_runners_dropped a_t_runners_waved a_t_runners_struck a_t_runners_strikingOrder t_runners_entered t_runners_strikings t_runners_splits H.size x1 r10 r12 e13) (cwV 2 hts gX4_stateOf_X6_splitAt rfl rfl rfl (by decide +kernel) ⟨Nat.le_of_ble_eq_true rfl, Nat.le_of_ble_eq_true rfl⟩) hK hN hZ hP hD hS hA rfl rfl rfl rfl rfl rfl rfl rfl hl.1 rfl (lv_room (Nat.le_of_ble_eq_true rfl)) dX4_stateOf_48 ⟨Nat.le_of_ble_eq_true rfl, Nat.le_of_ble_eq_true rfl⟩ (fun H locs hP hD hS => ?_)
        have hP : va_P D vwCl [(a_t_guns, .inr (2, [.ref a_t_guns_ticks])), (a_t_guns_ticks, .inl (cI, 6, .inl t_guns_ticks)), (a_t_runners_facts, .inl (cI, 360, .inl t_runners_facts)), (a_t_runners_struck, .inl (cZ, 60, .inl t_runners_struck)), (a_t_runners_dropped, .inl (cZ, 60, .inl t_runners_dropped)), (a_t, .inr (4, [.ref a_t_way, .ref a_t_guns, .ref a_t_runners])), (a_t_runners_waved, .inl (cZ, 60, .inl t_runners_waved)), (a_t_way_cuts, .inl (cI, 12, .inl t_way_cuts)), (a_t_way, .inr (9, [.ref a_t_way_places, .ref a_t_way_bearings, .ref a_t_way_cuts, .ref a_t_way_deaths, .int t_way_mats])), (a_t_runners, .inr (6, [.ref a_t_runners_facts, .ref a_t_runners_splits, .ref a_t_runners_torn, .ref a_t_runners_dropped, .ref a_t_runners_waved, .ref a_t_runners_struck, .ref a_t_runners_strikingOrder, .int t_runners_entered, .int t_runners_strikings])), (a_t_runners_splits, .inl (cI, 720, .inl t_runners_splits))] H := hP
        have hD : va_D A [(a_t_guns, .inr (2, [.ref a_t_guns_ticks])), (a_t_guns_ticks, .inl (cI, 6, .inl t_guns_ticks)), (a_t_runners_facts, .inl (cI, 360, .inl t_runners_facts)), (a_t_runners_struck, .inl (cZ, 60, .inl t_runners_struck)), (a_t_runners_dropped, .inl (cZ, 60, .inl t_runners_dropped)), (a_t, .inr (4, [.ref a_t_way, .ref a_t_guns, .ref a_t_runners])), (a_t_runners_waved, .inl (cZ, 60, .inl t_runners_waved)), (a_t_way_cuts, .inl (cI, 12, .inl t_way_cuts)), (a_t_way, .inr (9, [.ref a_t_way_places, .ref a_t_way_bearings, .ref a_t_way_cuts, .ref a_t_way_deaths, .int t_way_mats])), (a_t_runners, .inr (6, [.ref a_t_runners_facts, .ref a_t_runners_splits, .ref a_t_runners_torn, .ref a_t_runners_dropped, .ref a_t_runners_waved, .ref a_t_runners_struck, .ref a_t_runners_strikingOrder, .int t_runners_entered, .int t_runners_strikings])), (a_t_runners_splits, .inl (cI, 720, .inl t_runners_splits))] := hD
        refine lv_iconst (v := (-1 : Int32)) hx hb dX4_stateOf_51 rfl ?_
        refine lv_icmp_eq (tgt := 57) hx hb dX4_stateOf_52 (by decide) (fun c14 => ?_) (fun c14 => ?_)
        · have h := zz_t h c14
          refine lv_aload_n hx hb dX4_stateOf_57 rfl (lv_at hl 0 rfl) ?_
          refine lv_iload_n hx hb dX4_stateOf_58 rfl (lv_at hl 1 rfl) ?_
          obtain ⟨r15, e16, h⟩ := zz_b h
          refine zVi (As := [.int x1]) (rest := []) (C := RX4) (wr := [(a_t_runners_struck, .inl (cZ, 60, .inl t_runners_struck)), (a_t_runners_dropped, .inl (cZ, 60, .inl t_runners_dropped)), (a_t_runners_waved, .inl (cZ, 60, .inl t_runners_waved)), (a_t_way_cuts, .inl (cI, 12, .inl t_way_cuts)), (a_t_way, .inr (9, [.ref a_t_way_places, .ref a_t_way_bearings, .ref a_t_way_cuts, .ref a_t_way_deaths, .int t_way_mats]))]) [5, 0, 1, 9, 2, 10] [3, 4, 6, 7, 8] 0 ⟨hx, hb, hml, hown, hts⟩ (mX4_startOf l D cB cI cZ a_t a_t_way a_t_guns a_t_runners a_t_guns_ticks a_t_runners_facts a_t_runners_splits a_t_runners_torn a_t_runners_dropped a_t_runners_waved a_t_runners_struck a_t_runners_strikingOrder t_guns_ticks t_runners_entered t_runners_strikings t_runners_facts t_runners_splits H.size x1 r15 e16) (cwV 1 hts gX4_stateOf_X4_startOf rfl rfl rfl (by decide +kernel) ⟨Nat.le_of_ble_eq_true rfl, Nat.le_of_ble_eq_true rfl⟩) hK hN hZ hP hD hS hA rfl rfl rfl rfl rfl rfl rfl rfl hl.1 rfl (lv_room (Nat.le_of_ble_eq_true rfl)) dX4_stateOf_59 ⟨Nat.le_of_ble_eq_true rfl, Nat.le_of_ble_eq_true rfl⟩ (fun H locs hP hD hS => ?_)
          have hP : va_P D vwCl [(a_t_runners_struck, .inl (cZ, 60, .inl t_runners_struck)), (a_t_runners_dropped, .inl (cZ, 60, .inl t_runners_dropped)), (a_t_runners_waved, .inl (cZ, 60, .inl t_runners_waved)), (a_t_way_cuts, .inl (cI, 12, .inl t_way_cuts)), (a_t_way, .inr (9, [.ref a_t_way_places, .ref a_t_way_bearings, .ref a_t_way_cuts, .ref a_t_way_deaths, .int t_way_mats])), (a_t, .inr (4, [.ref a_t_way, .ref a_t_guns, .ref a_t_runners])), (a_t_guns, .inr (2, [.ref a_t_guns_ticks])), (a_t_guns_ticks, .inl (cI, 6, .inl t_guns_ticks)), (a_t_runners, .inr (6, [.ref a_t_runners_facts, .ref a_t_runners_splits, .ref a_t_runners_torn, .ref a_t_runners_dropped, .ref a_t_runners_waved, .ref a_t_runners_struck, .ref a_t_runners_strikingOrder, .int t_runners_entered, .int t_runners_strikings])), (a_t_runners_facts, .inl (cI, 360, .inl t_runners_facts)), (a_t_runners_splits, .inl (cI, 720, .inl t_runners_splits))] H := hP
          have hD : va_D A [(a_t_runners_struck, .inl (cZ, 60, .inl t_runners_struck)), (a_t_runners_dropped, .inl (cZ, 60, .inl t_runners_dropped)), (a_t_runners_waved, .inl (cZ, 60, .inl t_runners_waved)), (a_t_way_cuts, .inl (cI, 12, .inl t_way_cuts)), (a_t_way, .inr (9, [.ref a_t_way_places, .ref a_t_way_bearings, .ref a_t_way_cuts, .ref a_t_way_deaths, .int t_way_mats])), (a_t, .inr (4, [.ref a_t_way, .ref a_t_guns, .ref a_t_runners])), (a_t_guns, .inr (2, [.ref a_t_guns_ticks])), (a_t_guns_ticks, .inl (cI, 6, .inl t_guns_ticks)), (a_t_runners, .inr (6, [.ref a_t_runners_facts, .ref a_t_runners_splits, .ref a_t_runners_torn, .ref a_t_runners_dropped, .ref a_t_runners_waved, .ref a_t_runners_struck, .ref a_t_runners_strikingOrder, .int t_runners_entered, .int t_runners_strikings])), (a_t_runners_facts, .inl (cI, 360, .inl t_runners_facts)), (a_t_runners_splits, .inl (cI, 720, .inl t_runners_splits))] := hD
          refine lv_iconst (v := (-1 : Int32)) hx hb dX4_stateOf_62 rfl ?_
          refine lv_icmp_eq (tgt := 70) hx hb dX4_stateOf_63 (by decide) (fun c17 => ?_) (fun c17 => ?_)
          · have h := zz_t h c17
            refine lv_iconst (v := (nI 0)) hx hb dX4_stateOf_70 rfl ?_
            have j0_ := Option.some.inj h
            subst j0_
            exact W.iret (v := (nI 0)) hx hb hr (fun t ht hW => ⟨⟨_, (), rfl, rfl, zPost.of hP hD hK ht hW [5, 6, 7, 8, 1, 9, 10, 0, 2, 4, 3] rfl rfl rfl⟩, hS.F ht⟩) hS.2.2 dX4_stateOf_71
          · have h := zz_f h c17
            refine lv_iconst (v := (nI 1)) hx hb dX4_stateOf_66 rfl ?_
            refine lv_goto (tgt := 71) hx hb dX4_stateOf_67 (by decide) ?_
            have j0_ := Option.some.inj h
            subst j0_
            exact W.iret (v := (nI 1)) hx hb hr (fun t ht hW => ⟨⟨_, (), rfl, rfl, zPost.of hP hD hK ht hW [5, 6, 7, 8, 1, 9, 10, 0, 2, 4, 3] rfl rfl rfl⟩, hS.F ht⟩) hS.2.2 dX4_stateOf_71
        · have h := zz_f h c14
          refine lv_iconst (v := (nI 2)) hx hb dX4_stateOf_55 rfl ?_
          have j0_ := Option.some.inj h
          subst j0_
          exact W.iret (v := (nI 2)) hx hb hr (fun t ht hW => ⟨⟨_, (), rfl, rfl, zPost.of hP hD hK ht hW [5, 0, 1, 9, 4, 2, 10, 3, 6, 8, 7] rfl rfl rfl⟩, hS.F ht⟩) hS.2.2 dX4_stateOf_56
      · have h := zz_f h c9
        refine lv_iconst (v := (nI 5)) hx hb dX4_stateOf_34 rfl ?_
        have j0_ := Option.some.inj h
        subst j0_
        exact W.iret (v := (nI 5)) hx hb hr (fun t ht hW => ⟨⟨_, (), rfl, rfl, zPost.of hP hD hK ht hW [5, 0, 1, 6, 4, 2, 7, 3, 8, 9, 10] rfl rfl rfl⟩, hS.F ht⟩) hS.2.2 dX4_stateOf_35
    · have h := zz_f h c6
      refine lv_iconst (v := (nI 3)) hx hb dX4_stateOf_24 rfl ?_
      have j0_ := Option.some.inj h
      subst j0_
      exact W.iret (v := (nI 3)) hx hb hr (fun t ht hW => ⟨⟨_, (), rfl, rfl, zPost.of hP hD hK ht hW [0, 1, 2, 9, 10, 3, 4, 8, 5, 6, 7] rfl rfl rfl⟩, hS.F ht⟩) hS.2.2 dX4_stateOf_25
  · have h := zz_f h c3
    refine lv_iconst (v := (nI 4)) hx hb dX4_stateOf_11 rfl ?_
    have j0_ := Option.some.inj h
    subst j0_
    exact W.iret (v := (nI 4)) hx hb hr (fun t ht hW => ⟨⟨_, (), rfl, rfl, zPost.of hP hD hK ht hW [0, 1, 2, 9, 3, 4, 5, 10, 6, 7, 8] rfl rfl rfl⟩, hS.F ht⟩) hS.2.2 dX4_stateOf_12
/-! RunDesk$Race.timeSince -/
theorem dX4_timeSince_0 : decode cX4_timeSince 0 = .ok (.iload_n 2, 1) := by decide +kernel
theorem dX4_timeSince_1 : decode cX4_timeSince 1 = .ok (.iconst (-1), 1) := by decide +kernel
theorem dX4_timeSince_2 : decode cX4_timeSince 2 = .ok (.if_icmp .eq 12, 3) := by decide +kernel
theorem dX4_timeSince_5 : decode cX4_timeSince 5 = .ok (.aload_n 0, 1) := by decide +kernel
theorem dX4_timeSince_6 : decode cX4_timeSince 6 = .ok (.iload_n 1, 1) := by decide +kernel
theorem dX4_timeSince_7 : decode cX4_timeSince 7 = .ok (.invokevirtual 63, 3) := by decide +kernel
theorem dX4_timeSince_10 : decode cX4_timeSince 10 = .ok (.iconst 2, 1) := by decide +kernel
theorem dX4_timeSince_11 : decode cX4_timeSince 11 = .ok (.if_icmp .eq 5, 3) := by decide +kernel
theorem dX4_timeSince_14 : decode cX4_timeSince 14 = .ok (.iconst (-1), 1) := by decide +kernel
theorem dX4_timeSince_15 : decode cX4_timeSince 15 = .ok (.ireturn, 1) := by decide +kernel
theorem dX4_timeSince_16 : decode cX4_timeSince 16 = .ok (.aload_n 0, 1) := by decide +kernel
theorem dX4_timeSince_17 : decode cX4_timeSince 17 = .ok (.getfield 28, 3) := by decide +kernel
theorem dX4_timeSince_20 : decode cX4_timeSince 20 = .ok (.iload_n 1, 1) := by decide +kernel
theorem dX4_timeSince_21 : decode cX4_timeSince 21 = .ok (.aload_n 0, 1) := by decide +kernel
theorem dX4_timeSince_22 : decode cX4_timeSince 22 = .ok (.getfield 12, 3) := by decide +kernel
theorem dX4_timeSince_25 : decode cX4_timeSince 25 = .ok (.invokevirtual 107, 3) := by decide +kernel
theorem dX4_timeSince_28 : decode cX4_timeSince 28 = .ok (.invokevirtual 91, 3) := by decide +kernel
theorem dX4_timeSince_31 : decode cX4_timeSince 31 = .ok (.iload_n 2, 1) := by decide +kernel
theorem dX4_timeSince_32 : decode cX4_timeSince 32 = .ok (.isub, 1) := by decide +kernel
theorem dX4_timeSince_33 : decode cX4_timeSince 33 = .ok (.istore_n 3, 1) := by decide +kernel
theorem dX4_timeSince_34 : decode cX4_timeSince 34 = .ok (.iload_n 3, 1) := by decide +kernel
theorem dX4_timeSince_35 : decode cX4_timeSince 35 = .ok (.ifCond .ge 7, 3) := by decide +kernel
theorem dX4_timeSince_38 : decode cX4_timeSince 38 = .ok (.iconst (-1), 1) := by decide +kernel
theorem dX4_timeSince_39 : decode cX4_timeSince 39 = .ok (.goto 4, 3) := by decide +kernel
theorem dX4_timeSince_42 : decode cX4_timeSince 42 = .ok (.iload_n 3, 1) := by decide +kernel
theorem dX4_timeSince_43 : decode cX4_timeSince 43 = .ok (.ireturn, 1) := by decide +kernel
set_option maxRecDepth 20000 in
theorem ggX4_timeSince_X4_stateOf : GoodIn wsX4_timeSince wsX4_stateOf := goodIn_sub (List.forall_mem_cons.mpr ⟨List.mem_cons_of_mem _ (List.mem_append_left _ (List.mem_append_left _ (List.mem_append_left _ (List.mem_append_left _ (List.mem_append_left _ (List.mem_of_getElem? (l := wsX4_timeSince_r1) (i := 6) rfl)))))), (List.forall_mem_append.mpr ⟨(List.forall_mem_append.mpr ⟨(List.forall_mem_append.mpr ⟨(List.forall_mem_append.mpr ⟨(List.forall_mem_append.mpr ⟨(List.forall_mem_cons.mpr ⟨List.mem_cons_of_mem _ (List.mem_append_left _ (List.mem_append_left _ (List.mem_append_left _ (List.mem_append_left _ (List.mem_append_left _ (List.mem_of_getElem? (l := wsX4_timeSince_r1) (i := 0) rfl)))))), (List.forall_mem_cons.mpr ⟨List.mem_cons_of_mem _ (List.mem_append_left _ (List.mem_append_left _ (List.mem_append_left _ (List.mem_append_left _ (List.mem_append_left _ (List.mem_of_getElem? (l := wsX4_timeSince_r1) (i := 1) rfl)))))), (List.forall_mem_cons.mpr ⟨List.mem_cons_of_mem _ (List.mem_append_left _ (List.mem_append_left _ (List.mem_append_left _ (List.mem_append_left _ (List.mem_append_left _ (List.mem_of_getElem? (l := wsX4_timeSince_r1) (i := 7) rfl)))))), (List.forall_mem_cons.mpr ⟨List.mem_cons_of_mem _ (List.mem_append_left _ (List.mem_append_left _ (List.mem_append_left _ (List.mem_append_left _ (List.mem_append_left _ (List.mem_of_getElem? (l := wsX4_timeSince_r1) (i := 8) rfl)))))), (List.forall_mem_cons.mpr ⟨List.mem_cons_of_mem _ (List.mem_append_left _ (List.mem_append_left _ (List.mem_append_left _ (List.mem_append_left _ (List.mem_append_left _ (List.mem_of_getElem? (l := wsX4_timeSince_r1) (i := 9) rfl)))))), (List.forall_mem_cons.mpr ⟨List.mem_cons_of_mem _ (List.mem_append_left _ (List.mem_append_left _ (List.mem_append_left _ (List.mem_append_left _ (List.mem_append_left _ (List.mem_of_getElem? (l := wsX4_timeSince_r1) (i := 10) rfl)))))), (List.forall_mem_cons.mpr ⟨List.mem_cons_of_mem _ (List.mem_append_left _ (List.mem_append_left _ (List.mem_append_left _ (List.mem_append_left _ (List.mem_append_left _ (List.mem_of_getElem? (l := wsX4_timeSince_r1) (i := 11) rfl)))))), (List.forall_mem_cons.mpr ⟨List.mem_cons_of_mem _ (List.mem_append_left _ (List.mem_append_left _ (List.mem_append_left _ (List.mem_append_left _ (List.mem_append_left _ (List.mem_of_getElem? (l := wsX4_timeSince_r1) (i := 12) rfl)))))), (List.forall_mem_cons.mpr ⟨List.mem_cons_of_mem _ (List.mem_append_left _ (List.mem_append_left _ (List.mem_append_left _ (List.mem_append_left _ (List.mem_append_left _ (List.mem_of_getElem? (l := wsX4_timeSince_r1) (i := 13) rfl)))))), (List.forall_mem_cons.mpr ⟨List.mem_cons_of_mem _ (List.mem_append_left _ (List.mem_append_left _ (List.mem_append_left _ (List.mem_append_left _ (List.mem_append_left _ (List.mem_of_getElem? (l := wsX4_timeSince_r1) (i := 14) rfl)))))), (List.forall_mem_cons.mpr ⟨List.mem_cons_of_mem _ (List.mem_append_left _ (List.mem_append_left _ (List.mem_append_left _ (List.mem_append_left _ (List.mem_append_left _ (List.mem_of_getElem? (l := wsX4_timeSince_r1) (i := 15) rfl)))))), (List.forall_mem_cons.mpr ⟨List.mem_cons_of_mem _ (List.mem_append_left _ (List.mem_append_left _ (List.mem_append_left _ (List.mem_append_left _ (List.mem_append_left _ (List.mem_of_getElem? (l := wsX4_timeSince_r1) (i := 16) rfl)))))), (List.forall_mem_cons.mpr ⟨List.mem_cons_of_mem _ (List.mem_append_left _ (List.mem_append_left _ (List.mem_append_left _ (List.mem_append_left _ (List.mem_append_left _ (List.mem_of_getElem? (l := wsX4_timeSince_r1) (i := 17) rfl)))))), (List.forall_mem_cons.mpr ⟨List.mem_cons_of_mem _ (List.mem_append_left _ (List.mem_append_left _ (List.mem_append_left _ (List.mem_append_left _ (List.mem_append_left _ (List.mem_of_getElem? (l := wsX4_timeSince_r1) (i := 18) rfl)))))), (List.forall_mem_cons.mpr ⟨List.mem_cons_of_mem _ (List.mem_append_left _ (List.mem_append_left _ (List.mem_append_left _ (List.mem_append_left _ (List.mem_append_left _ (List.mem_of_getElem? (l := wsX4_timeSince_r1) (i := 19) rfl)))))), (List.forall_mem_cons.mpr ⟨List.mem_cons_of_mem _ (List.mem_append_left _ (List.mem_append_left _ (List.mem_append_left _ (List.mem_append_left _ (List.mem_append_left _ (List.mem_of_getElem? (l := wsX4_timeSince_r1) (i := 20) rfl)))))), (List.forall_mem_cons.mpr ⟨List.mem_cons_of_mem _ (List.mem_append_left _ (List.mem_append_left _ (List.mem_append_left _ (List.mem_append_left _ (List.mem_append_left _ (List.mem_of_getElem? (l := wsX4_timeSince_r1) (i := 21) rfl)))))), (List.forall_mem_cons.mpr ⟨List.mem_cons_of_mem _ (List.mem_append_left _ (List.mem_append_left _ (List.mem_append_left _ (List.mem_append_left _ (List.mem_append_left _ (List.mem_of_getElem? (l := wsX4_timeSince_r1) (i := 22) rfl)))))), (List.forall_mem_cons.mpr ⟨List.mem_cons_of_mem _ (List.mem_append_left _ (List.mem_append_left _ (List.mem_append_left _ (List.mem_append_left _ (List.mem_append_left _ (List.mem_of_getElem? (l := wsX4_timeSince_r1) (i := 23) rfl)))))), (List.forall_mem_cons.mpr ⟨List.mem_cons_of_mem _ (List.mem_append_left _ (List.mem_append_left _ (List.mem_append_left _ (List.mem_append_left _ (List.mem_append_right _ (List.mem_append_left _ (List.mem_of_getElem? (l := wsX4_timeSince_r2) (i := 0) rfl))))))), (List.forall_mem_cons.mpr ⟨List.mem_cons_of_mem _ (List.mem_append_left _ (List.mem_append_left _ (List.mem_append_left _ (List.mem_append_left _ (List.mem_append_right _ (List.mem_append_left _ (List.mem_of_getElem? (l := wsX4_timeSince_r2) (i := 1) rfl))))))), (List.forall_mem_cons.mpr ⟨List.mem_cons_of_mem _ (List.mem_append_left _ (List.mem_append_left _ (List.mem_append_left _ (List.mem_append_left _ (List.mem_append_left _ (List.mem_of_getElem? (l := wsX4_timeSince_r1) (i := 5) rfl)))))), (List.forall_mem_cons.mpr ⟨List.mem_cons_of_mem _ (List.mem_append_left _ (List.mem_append_left _ (List.mem_append_left _ (List.mem_append_left _ (List.mem_append_right _ (List.mem_append_left _ (List.mem_of_getElem? (l := wsX4_timeSince_r2) (i := 2) rfl))))))), (List.forall_mem_cons.mpr ⟨List.mem_cons_of_mem _ (List.mem_append_left _ (List.mem_append_left _ (List.mem_append_left _ (List.mem_append_left _ (List.mem_append_right _ (List.mem_append_left _ (List.mem_of_getElem? (l := wsX4_timeSince_r2) (i := 3) rfl))))))), (fun _ h => nomatch h)⟩)⟩)⟩)⟩)⟩)⟩)⟩)⟩)⟩)⟩)⟩)⟩)⟩)⟩)⟩)⟩)⟩)⟩)⟩)⟩)⟩)⟩)⟩)⟩), (List.forall_mem_append.mpr ⟨(List.forall_mem_cons.mpr ⟨List.mem_cons_of_mem _ (List.mem_append_left _ (List.mem_append_left _ (List.mem_append_left _ (List.mem_append_left _ (List.mem_append_right _ (List.mem_append_left _ (List.mem_of_getElem? (l := wsX4_timeSince_r2) (i := 4) rfl))))))), (List.forall_mem_cons.mpr ⟨List.mem_cons_of_mem _ (List.mem_append_left _ (List.mem_append_left _ (List.mem_append_left _ (List.mem_append_left _ (List.mem_append_right _ (List.mem_append_left _ (List.mem_of_getElem? (l := wsX4_timeSince_r2) (i := 5) rfl))))))), (List.forall_mem_cons.mpr ⟨List.mem_cons_of_mem _ (List.mem_append_left _ (List.mem_append_left _ (List.mem_append_left _ (List.mem_append_left _ (List.mem_append_right _ (List.mem_append_left _ (List.mem_of_getElem? (l := wsX4_timeSince_r2) (i := 6) rfl))))))), (List.forall_mem_cons.mpr ⟨List.mem_cons_of_mem _ (List.mem_append_left _ (List.mem_append_left _ (List.mem_append_left _ (List.mem_append_left _ (List.mem_append_right _ (List.mem_append_left _ (List.mem_of_getElem? (l := wsX4_timeSince_r2) (i := 7) rfl))))))), (List.forall_mem_cons.mpr ⟨List.mem_cons_of_mem _ (List.mem_append_left _ (List.mem_append_left _ (List.mem_append_left _ (List.mem_append_left _ (List.mem_append_right _ (List.mem_append_left _ (List.mem_of_getElem? (l := wsX4_timeSince_r2) (i := 8) rfl))))))), (List.forall_mem_cons.mpr ⟨List.mem_cons_of_mem _ (List.mem_append_left _ (List.mem_append_left _ (List.mem_append_left _ (List.mem_append_left _ (List.mem_append_right _ (List.mem_append_left _ (List.mem_of_getElem? (l := wsX4_timeSince_r2) (i := 9) rfl))))))), (List.forall_mem_cons.mpr ⟨List.mem_cons_of_mem _ (List.mem_append_left _ (List.mem_append_left _ (List.mem_append_left _ (List.mem_append_left _ (List.mem_append_right _ (List.mem_append_left _ (List.mem_of_getElem? (l := wsX4_timeSince_r2) (i := 10) rfl))))))), (List.forall_mem_cons.mpr ⟨List.mem_cons_of_mem _ (List.mem_append_left _ (List.mem_append_left _ (List.mem_append_left _ (List.mem_append_left _ (List.mem_append_right _ (List.mem_append_left _ (List.mem_of_getElem? (l := wsX4_timeSince_r2) (i := 11) rfl))))))), (List.forall_mem_cons.mpr ⟨List.mem_cons_of_mem _ (List.mem_append_left _ (List.mem_append_left _ (List.mem_append_left _ (List.mem_append_left _ (List.mem_append_right _ (List.mem_append_left _ (List.mem_of_getElem? (l := wsX4_timeSince_r2) (i := 12) rfl))))))), (List.forall_mem_cons.mpr ⟨List.mem_cons_of_mem _ (List.mem_append_left _ (List.mem_append_left _ (List.mem_append_left _ (List.mem_append_left _ (List.mem_append_right _ (List.mem_append_left _ (List.mem_of_getElem? (l := wsX4_timeSince_r2) (i := 13) rfl))))))), (List.forall_mem_cons.mpr ⟨List.mem_cons_of_mem _ (List.mem_append_left _ (List.mem_append_left _ (List.mem_append_left _ (List.mem_append_left _ (List.mem_append_right _ (List.mem_append_left _ (List.mem_of_getElem? (l := wsX4_timeSince_r2) (i := 14) rfl))))))), (List.forall_mem_cons.mpr ⟨List.mem_cons_of_mem _ (List.mem_append_left _ (List.mem_append_left _ (List.mem_append_left _ (List.mem_append_left _ (List.mem_append_right _ (List.mem_append_left _ (List.mem_of_getElem? (l := wsX4_timeSince_r2) (i := 15) rfl))))))), (List.forall_mem_cons.mpr ⟨List.mem_cons_of_mem _ (List.mem_append_left _ (List.mem_append_left _ (List.mem_append_left _ (List.mem_append_left _ (List.mem_append_right _ (List.mem_append_left _ (List.mem_of_getElem? (l := wsX4_timeSince_r2) (i := 16) rfl))))))), (List.forall_mem_cons.mpr ⟨List.mem_cons_of_mem _ (List.mem_append_left _ (List.mem_append_left _ (List.mem_append_left _ (List.mem_append_left _ (List.mem_append_right _ (List.mem_append_left _ (List.mem_of_getElem? (l := wsX4_timeSince_r2) (i := 17) rfl))))))), (List.forall_mem_cons.mpr ⟨List.mem_cons_of_mem _ (List.mem_append_left _ (List.mem_append_left _ (List.mem_append_left _ (List.mem_append_left _ (List.mem_append_right _ (List.mem_append_left _ (List.mem_of_getElem? (l := wsX4_timeSince_r2) (i := 18) rfl))))))), (List.forall_mem_cons.mpr ⟨List.mem_cons_of_mem _ (List.mem_append_left _ (List.mem_append_left _ (List.mem_append_left _ (List.mem_append_left _ (List.mem_append_right _ (List.mem_append_left _ (List.mem_of_getElem? (l := wsX4_timeSince_r2) (i := 19) rfl))))))), (List.forall_mem_cons.mpr ⟨List.mem_cons_of_mem _ (List.mem_append_left _ (List.mem_append_left _ (List.mem_append_left _ (List.mem_append_left _ (List.mem_append_right _ (List.mem_append_left _ (List.mem_of_getElem? (l := wsX4_timeSince_r2) (i := 20) rfl))))))), (List.forall_mem_cons.mpr ⟨List.mem_cons_of_mem _ (List.mem_append_left _ (List.mem_append_left _ (List.mem_append_left _ (List.mem_append_left _ (List.mem_append_right _ (List.mem_append_left _ (List.mem_of_getElem? (l := wsX4_timeSince_r2) (i := 21) rfl))))))), (List.forall_mem_cons.mpr ⟨List.mem_cons_of_mem _ (List.mem_append_left _ (List.mem_append_left _ (List.mem_append_left _ (List.mem_append_left _ (List.mem_append_right _ (List.mem_append_left _ (List.mem_of_getElem? (l := wsX4_timeSince_r2) (i := 22) rfl))))))), (List.forall_mem_cons.mpr ⟨List.mem_cons_of_mem _ (List.mem_append_left _ (List.mem_append_left _ (List.mem_append_left _ (List.mem_append_left _ (List.mem_append_right _ (List.mem_append_left _ (List.mem_of_getElem? (l := wsX4_timeSince_r2) (i := 23) rfl))))))), (List.forall_mem_cons.mpr ⟨List.mem_cons_of_mem _ (List.mem_append_left _ (List.mem_append_left _ (List.mem_append_left _ (List.mem_append_left _ (List.mem_append_right _ (List.mem_append_right _ (List.mem_append_left _ (List.mem_of_getElem? (l := wsX4_timeSince_r3) (i := 0) rfl)))))))), (List.forall_mem_cons.mpr ⟨List.mem_cons_of_mem _ (List.mem_append_left _ (List.mem_append_left _ (List.mem_append_left _ (List.mem_append_left _ (List.mem_append_right _ (List.mem_append_right _ (List.mem_append_left _ (List.mem_of_getElem? (l := wsX4_timeSince_r3) (i := 1) rfl)))))))), (List.forall_mem_cons.mpr ⟨List.mem_cons_of_mem _ (List.mem_append_left _ (List.mem_append_left _ (List.mem_append_left _ (List.mem_append_left _ (List.mem_append_right _ (List.mem_append_right _ (List.mem_append_left _ (List.mem_of_getElem? (l := wsX4_timeSince_r3) (i := 2) rfl)))))))), (List.forall_mem_cons.mpr ⟨List.mem_cons_of_mem _ (List.mem_append_left _ (List.mem_append_left _ (List.mem_append_left _ (List.mem_append_left _ (List.mem_append_right _ (List.mem_append_right _ (List.mem_append_left _ (List.mem_of_getElem? (l := wsX4_timeSince_r3) (i := 3) rfl)))))))), (fun _ h => nomatch h)⟩)⟩)⟩)⟩)⟩)⟩)⟩)⟩)⟩)⟩)⟩)⟩)⟩)⟩)⟩)⟩)⟩)⟩)⟩)⟩)⟩)⟩)⟩)⟩), (List.forall_mem_cons.mpr ⟨List.mem_cons_of_mem _ (List.mem_append_left _ (List.mem_append_left _ (List.mem_append_left _ (List.mem_append_left _ (List.mem_append_right _ (List.mem_append_right _ (List.mem_append_left _ (List.mem_of_getElem? (l := wsX4_timeSince_r3) (i := 4) rfl)))))))), (List.forall_mem_cons.mpr ⟨List.mem_cons_of_mem _ (List.mem_append_left _ (List.mem_append_left _ (List.mem_append_left _ (List.mem_append_left _ (List.mem_append_right _ (List.mem_append_right _ (List.mem_append_left _ (List.mem_of_getElem? (l := wsX4_timeSince_r3) (i := 5) rfl)))))))), (List.forall_mem_cons.mpr ⟨List.mem_cons_of_mem _ (List.mem_append_left _ (List.mem_append_left _ (List.mem_append_left _ (List.mem_append_left _ (List.mem_append_right _ (List.mem_append_right _ (List.mem_append_left _ (List.mem_of_getElem? (l := wsX4_timeSince_r3) (i := 6) rfl)))))))), (List.forall_mem_cons.mpr ⟨List.mem_cons_of_mem _ (List.mem_append_left _ (List.mem_append_left _ (List.mem_append_left _ (List.mem_append_left _ (List.mem_append_right _ (List.mem_append_right _ (List.mem_append_left _ (List.mem_of_getElem? (l := wsX4_timeSince_r3) (i := 7) rfl)))))))), (List.forall_mem_cons.mpr ⟨List.mem_cons_of_mem _ (List.mem_append_left _ (List.mem_append_left _ (List.mem_append_left _ (List.mem_append_left _ (List.mem_append_right _ (List.mem_append_right _ (List.mem_append_left _ (List.mem_of_getElem? (l := wsX4_timeSince_r3) (i := 8) rfl)))))))), (List.forall_mem_cons.mpr ⟨List.mem_cons_of_mem _ (List.mem_append_left _ (List.mem_append_left _ (List.mem_append_left _ (List.mem_append_left _ (List.mem_append_right _ (List.mem_append_right _ (List.mem_append_left _ (List.mem_of_getElem? (l := wsX4_timeSince_r3) (i := 9) rfl)))))))), (List.forall_mem_cons.mpr ⟨List.mem_cons_of_mem _ (List.mem_append_left _ (List.mem_append_left _ (List.mem_append_left _ (List.mem_append_left _ (List.mem_append_right _ (List.mem_append_right _ (List.mem_append_left _ (List.mem_of_getElem? (l := wsX4_timeSince_r3) (i := 10) rfl)))))))), (List.forall_mem_cons.mpr ⟨List.mem_cons_of_mem _ (List.mem_append_left _ (List.mem_append_left _ (List.mem_append_left _ (List.mem_append_left _ (List.mem_append_right _ (List.mem_append_right _ (List.mem_append_left _ (List.mem_of_getElem? (l := wsX4_timeSince_r3) (i := 11) rfl)))))))), (List.forall_mem_cons.mpr ⟨List.mem_cons_of_mem _ (List.mem_append_left _ (List.mem_append_left _ (List.mem_append_left _ (List.mem_append_left _ (List.mem_append_right _ (List.mem_append_right _ (List.mem_append_left _ (List.mem_of_getElem? (l := wsX4_timeSince_r3) (i := 12) rfl)))))))), (List.forall_mem_cons.mpr ⟨List.mem_cons_of_mem _ (List.mem_append_left _ (List.mem_append_left _ (List.mem_append_left _ (List.mem_append_left _ (List.mem_append_right _ (List.mem_append_right _ (List.mem_append_left _ (List.mem_of_getElem? (l := wsX4_timeSince_r3) (i := 13) rfl)))))))), (List.forall_mem_cons.mpr ⟨List.mem_cons_of_mem _ (List.mem_append_left _ (List.mem_append_left _ (List.mem_append_left _ (List.mem_append_left _ (List.mem_append_right _ (List.mem_append_right _ (List.mem_append_left _ (List.mem_of_getElem? (l := wsX4_timeSince_r3) (i := 14) rfl)))))))), (List.forall_mem_cons.mpr ⟨List.mem_cons_of_mem _ (List.mem_append_left _ (List.mem_append_left _ (List.mem_append_left _ (List.mem_append_left _ (List.mem_append_right _ (List.mem_append_right _ (List.mem_append_left _ (List.mem_of_getElem? (l := wsX4_timeSince_r3) (i := 15) rfl)))))))), (List.forall_mem_cons.mpr ⟨List.mem_cons_of_mem _ (List.mem_append_left _ (List.mem_append_left _ (List.mem_append_left _ (List.mem_append_left _ (List.mem_append_right _ (List.mem_append_right _ (List.mem_append_left _ (List.mem_of_getElem? (l := wsX4_timeSince_r3) (i := 16) rfl)))))))), (List.forall_mem_cons.mpr ⟨List.mem_cons_of_mem _ (List.mem_append_left _ (List.mem_append_left _ (List.mem_append_left _ (List.mem_append_left _ (List.mem_append_right _ (List.mem_append_right _ (List.mem_append_left _ (List.mem_of_getElem? (l := wsX4_timeSince_r3) (i := 17) rfl)))))))), (List.forall_mem_cons.mpr ⟨List.mem_cons_of_mem _ (List.mem_append_left _ (List.mem_append_left _ (List.mem_append_left _ (List.mem_append_left _ (List.mem_append_right _ (List.mem_append_right _ (List.mem_append_left _ (List.mem_of_getElem? (l := wsX4_timeSince_r3) (i := 18) rfl)))))))), (List.forall_mem_cons.mpr ⟨List.mem_cons_of_mem _ (List.mem_append_left _ (List.mem_append_left _ (List.mem_append_left _ (List.mem_append_left _ (List.mem_append_right _ (List.mem_append_right _ (List.mem_append_left _ (List.mem_of_getElem? (l := wsX4_timeSince_r3) (i := 19) rfl)))))))), (List.forall_mem_cons.mpr ⟨List.mem_cons_of_mem _ (List.mem_append_left _ (List.mem_append_left _ (List.mem_append_left _ (List.mem_append_left _ (List.mem_append_right _ (List.mem_append_right _ (List.mem_append_left _ (List.mem_of_getElem? (l := wsX4_timeSince_r3) (i := 20) rfl)))))))), (List.forall_mem_cons.mpr ⟨List.mem_cons_of_mem _ (List.mem_append_left _ (List.mem_append_left _ (List.mem_append_left _ (List.mem_append_left _ (List.mem_append_right _ (List.mem_append_right _ (List.mem_append_left _ (List.mem_of_getElem? (l := wsX4_timeSince_r3) (i := 21) rfl)))))))), (List.forall_mem_cons.mpr ⟨List.mem_cons_of_mem _ (List.mem_append_left _ (List.mem_append_left _ (List.mem_append_left _ (List.mem_append_left _ (List.mem_append_right _ (List.mem_append_right _ (List.mem_append_left _ (List.mem_of_getElem? (l := wsX4_timeSince_r3) (i := 22) rfl)))))))), (List.forall_mem_cons.mpr ⟨List.mem_cons_of_mem _ (List.mem_append_left _ (List.mem_append_left _ (List.mem_append_left _ (List.mem_append_left _ (List.mem_append_right _ (List.mem_append_right _ (List.mem_append_left _ (List.mem_of_getElem? (l := wsX4_timeSince_r3) (i := 23) rfl)))))))), (List.forall_mem_cons.mpr ⟨List.mem_cons_of_mem _ (List.mem_append_left _ (List.mem_append_left _ (List.mem_append_left _ (List.mem_append_left _ (List.mem_append_right _ (List.mem_append_right _ (List.mem_append_right _ (List.mem_of_getElem? (l := wsX4_timeSince_r4) (i := 0) rfl)))))))), (List.forall_mem_cons.mpr ⟨List.mem_cons_of_mem _ (List.mem_append_left _ (List.mem_append_left _ (List.mem_append_left _ (List.mem_append_left _ (List.mem_append_right _ (List.mem_append_right _ (List.mem_append_right _ (List.mem_of_getElem? (l := wsX4_timeSince_r4) (i := 1) rfl)))))))), (List.forall_mem_cons.mpr ⟨List.mem_cons_of_mem _ (List.mem_append_left _ (List.mem_append_left _ (List.mem_append_left _ (List.mem_append_left _ (List.mem_append_right _ (List.mem_append_right _ (List.mem_append_right _ (List.mem_of_getElem? (l := wsX4_timeSince_r4) (i := 2) rfl)))))))), (List.forall_mem_cons.mpr ⟨List.mem_cons_of_mem _ (List.mem_append_left _ (List.mem_append_left _ (List.mem_append_left _ (List.mem_append_left _ (List.mem_append_right _ (List.mem_append_right _ (List.mem_append_right _ (List.mem_of_getElem? (l := wsX4_timeSince_r4) (i := 3) rfl)))))))), (fun _ h => nomatch h)⟩)⟩)⟩)⟩)⟩)⟩)⟩)⟩)⟩)⟩)⟩)⟩)⟩)⟩)⟩)⟩)⟩)⟩)⟩)⟩)⟩)⟩)⟩)⟩)⟩)⟩), (fun _ h => List.mem_cons_of_mem _ (List.mem_append_left _ (List.mem_append_left _ (List.mem_append_left _ (List.mem_append_right _ (h))))))⟩), (fun _ h => List.mem_cons_of_mem _ (List.mem_append_left _ (List.mem_append_left _ (List.mem_append_right _ (h)))))⟩), (fun _ h => List.mem_cons_of_mem _ (List.mem_append_left _ (List.mem_append_right _ (h))))⟩), (fun _ h => List.mem_cons_of_mem _ (List.mem_append_right _ (h)))⟩)⟩) (by decide +kernel)
set_option maxRecDepth 20000 in
theorem gX4_timeSince_X4_stateOf : GoodIn wsX4_timeSince (wsV RX4 63 RX4 yX4_stateOf wsX4_stateOf) := goodIn_app (goodIn_of _ (by decide +kernel)) ggX4_timeSince_X4_stateOf
set_option maxRecDepth 20000 in
theorem ggX4_timeSince_X9_lastMat : GoodIn wsX4_timeSince wsX9_lastMat := goodIn_sub (List.forall_mem_cons.mpr ⟨List.mem_cons_of_mem _ (List.mem_append_left _ (List.mem_append_left _ (List.mem_append_left _ (List.mem_append_left _ (List.mem_append_right _ (List.mem_append_right _ (List.mem_append_left _ (List.mem_of_getElem? (l := wsX4_timeSince_r3) (i := 7) rfl)))))))), (List.forall_mem_append.mpr ⟨(List.forall_mem_cons.mpr ⟨List.mem_cons_of_mem _ (List.mem_append_left _ (List.mem_append_left _ (List.mem_append_left _ (List.mem_append_left _ (List.mem_append_right _ (List.mem_append_left _ (List.mem_of_getElem? (l := wsX4_timeSince_r2) (i := 13) rfl))))))), (fun _ h => nomatch h)⟩), (fun _ h => List.mem_cons_of_mem _ (List.mem_append_left _ (List.mem_append_right _ (h))))⟩)⟩) (by decide +kernel)
set_option maxRecDepth 20000 in
theorem gX4_timeSince_X9_lastMat : GoodIn wsX4_timeSince (wsV RX4 107 RX9 yX9_lastMat wsX9_lastMat) := goodIn_app (goodIn_of _ (by decide +kernel)) ggX4_timeSince_X9_lastMat
set_option maxRecDepth 20000 in
theorem ggX4_timeSince_X6_splitAt : GoodIn wsX4_timeSince wsX6_splitAt := goodIn_sub (List.forall_mem_cons.mpr ⟨List.mem_cons_of_mem _ (List.mem_append_left _ (List.mem_append_left _ (List.mem_append_left _ (List.mem_append_left _ (List.mem_append_right _ (List.mem_append_right _ (List.mem_append_left _ (List.mem_of_getElem? (l := wsX4_timeSince_r3) (i := 2) rfl)))))))), (List.forall_mem_append.mpr ⟨(List.forall_mem_cons.mpr ⟨List.mem_cons_of_mem _ (List.mem_append_left _ (List.mem_append_left _ (List.mem_append_left _ (List.mem_append_left _ (List.mem_append_right _ (List.mem_append_right _ (List.mem_append_left _ (List.mem_of_getElem? (l := wsX4_timeSince_r3) (i := 3) rfl)))))))), (List.forall_mem_cons.mpr ⟨List.mem_cons_of_mem _ (List.mem_append_left _ (List.mem_append_left _ (List.mem_append_left _ (List.mem_append_left _ (List.mem_append_left _ (List.mem_of_getElem? (l := wsX4_timeSince_r1) (i := 13) rfl)))))), (List.forall_mem_cons.mpr ⟨List.mem_cons_of_mem _ (List.mem_append_left _ (List.mem_append_left _ (List.mem_append_left _ (List.mem_append_left _ (List.mem_append_left _ (List.mem_of_getElem? (l := wsX4_timeSince_r1) (i := 14) rfl)))))), (List.forall_mem_cons.mpr ⟨List.mem_cons_of_mem _ (List.mem_append_left _ (List.mem_append_left _ (List.mem_append_left _ (List.mem_append_left _ (List.mem_append_left _ (List.mem_of_getElem? (l := wsX4_timeSince_r1) (i := 15) rfl)))))), (List.forall_mem_cons.mpr ⟨List.mem_cons_of_mem _ (List.mem_append_left _ (List.mem_append_left _ (List.mem_append_left _ (List.mem_append_left _ (List.mem_append_left _ (List.mem_of_getElem? (l := wsX4_timeSince_r1) (i := 10) rfl)))))), (List.forall_mem_cons.mpr ⟨List.mem_cons_of_mem _ (List.mem_append_left _ (List.mem_append_left _ (List.mem_append_left _ (List.mem_append_left _ (List.mem_append_left _ (List.mem_of_getElem? (l := wsX4_timeSince_r1) (i := 16) rfl)))))), (List.forall_mem_cons.mpr ⟨List.mem_cons_of_mem _ (List.mem_append_left _ (List.mem_append_left _ (List.mem_append_left _ (List.mem_append_left _ (List.mem_append_left _ (List.mem_of_getElem? (l := wsX4_timeSince_r1) (i := 17) rfl)))))), (fun _ h => nomatch h)⟩)⟩)⟩)⟩)⟩)⟩)⟩), (fun _ h => List.mem_cons_of_mem _ (List.mem_append_left _ (List.mem_append_left _ (List.mem_append_right _ (h)))))⟩)⟩) (by decide +kernel)
set_option maxRecDepth 20000 in
theorem gX4_timeSince_X6_splitAt : GoodIn wsX4_timeSince (wsV RX4 91 RX6 yX6_splitAt wsX6_splitAt) := goodIn_app (goodIn_of _ (by decide +kernel)) ggX4_timeSince_X6_splitAt
theorem kX4_timeSince_0 : (.fieldLink RX4 28 "RunDesk$Race" "runners" "LRunDesk$Runners;" : Cond) ∈ wsX4_timeSince := List.mem_of_getElem? (i := 1) (by decide +kernel)
theorem qX4_timeSince_X4 : ∀ w ∈ wsX40, w ∈ wsX4_timeSince := fun _ h => List.mem_cons_of_mem _ (List.mem_append_left _ (List.mem_append_left _ (List.mem_append_left _ (List.mem_append_right _ (h)))))
theorem kX4_timeSince_2 : (.fieldLink RX4 12 "RunDesk$Race" "way" "LRunDesk$Way;" : Cond) ∈ wsX4_timeSince := List.mem_of_getElem? (i := 2) (by decide +kernel)
set_option maxHeartbeats 4000000 in
set_option maxRecDepth 100000 in
theorem mX4_timeSince (l : Launch) (D : va_G) (cB cI cZ : ClassId) (a_t : Nat) (a_t_way : Nat) (a_t_guns : Nat) (a_t_runners : Nat) (a_t_guns_ticks : Nat) (a_t_runners_facts : Nat) (a_t_runners_splits : Nat) (a_t_runners_torn : Nat) (a_t_runners_dropped : Nat) (a_t_runners_waved : Nat) (a_t_runners_struck : Nat) (a_t_runners_strikingOrder : Nat) (a_t_way_places : Nat) (a_t_way_bearings : Nat) (a_t_way_cuts : Nat) (a_t_way_deaths : Nat) (t_guns_ticks : Nat → Int32) (t_runners_entered : Int32) (t_runners_strikings : Int32) (t_runners_dropped : Nat → Int32) (t_runners_facts : Nat → Int32) (t_runners_splits : Nat → Int32) (t_runners_struck : Nat → Int32) (t_runners_waved : Nat → Int32) (t_way_mats : Int32) (t_way_cuts : Nat → Int32) (sz : Nat) (x1 : Int32) (x2 : Int32) (N : Nat) (r0 : Int32) (h : fX4_timeSince N t_guns_ticks t_runners_entered t_runners_dropped t_runners_facts t_runners_splits t_runners_struck t_runners_waved t_way_mats t_way_cuts x1 x2 = some (r0)) : Met l yX4_timeSince wsX4_timeSince ({ frames := 4, cells := 0, slots := 0, locals := 87 } : Room) (va_Pc [.ref a_t, .int x1, .int x2] (zPre D (zT cB cI cZ) [(a_t, .inr (4, [.ref a_t_way, .ref a_t_guns, .ref a_t_runners])), (a_t_guns, .inr (2, [.ref a_t_guns_ticks])), (a_t_guns_ticks, .inl (cI, 6, .inl t_guns_ticks)), (a_t_runners, .inr (6, [.ref a_t_runners_facts, .ref a_t_runners_splits, .ref a_t_runners_torn, .ref a_t_runners_dropped, .ref a_t_runners_waved, .ref a_t_runners_struck, .ref a_t_runners_strikingOrder, .int t_runners_entered, .int t_runners_strikings])), (a_t_runners_dropped, .inl (cZ, 60, .inl t_runners_dropped)), (a_t_runners_facts, .inl (cI, 360, .inl t_runners_facts)), (a_t_runners_splits, .inl (cI, 720, .inl t_runners_splits)), (a_t_runners_struck, .inl (cZ, 60, .inl t_runners_struck)), (a_t_runners_waved, .inl (cZ, 60, .inl t_runners_waved)), (a_t_way, .inr (9, [.ref a_t_way_places, .ref a_t_way_bearings, .ref a_t_way_cuts, .ref a_t_way_deaths, .int t_way_mats])), (a_t_way_cuts, .inl (cI, 12, .inl t_way_cuts))] sz)) (zQi r0 D (zT cB cI cZ) [(a_t, .inr (4, [.ref a_t_way, .ref a_t_guns, .ref a_t_runners])), (a_t_guns, .inr (2, [.ref a_t_guns_ticks])), (a_t_guns_ticks, .inl (cI, 6, .inl t_guns_ticks)), (a_t_runners, .inr (6, [.ref a_t_runners_facts, .ref a_t_runners_splits, .ref a_t_runners_torn, .ref a_t_runners_dropped, .ref a_t_runners_waved, .ref a_t_runners_struck, .ref a_t_runners_strikingOrder, .int t_runners_entered, .int t_runners_strikings])), (a_t_runners_dropped, .inl (cZ, 60, .inl t_runners_dropped)), (a_t_runners_facts, .inl (cI, 360, .inl t_runners_facts)), (a_t_runners_splits, .inl (cI, 720, .inl t_runners_splits)), (a_t_runners_struck, .inl (cZ, 60, .inl t_runners_struck)), (a_t_runners_waved, .inl (cZ, 60, .inl t_runners_waved)), (a_t_way, .inr (9, [.ref a_t_way_places, .ref a_t_way_bearings, .ref a_t_way_cuts, .ref a_t_way_deaths, .int t_way_mats])), (a_t_way_cuts, .inl (cI, 12, .inl t_way_cuts))] (va_A [(a_t, .inr (4, [.ref a_t_way, .ref a_t_guns, .ref a_t_runners])), (a_t_guns, .inr (2, [.ref a_t_guns_ticks])), (a_t_guns_ticks, .inl (cI, 6, .inl t_guns_ticks)), (a_t_runners, .inr (6, [.ref a_t_runners_facts, .ref a_t_runners_splits, .ref a_t_runners_torn, .ref a_t_runners_dropped, .ref a_t_runners_waved, .ref a_t_runners_struck, .ref a_t_runners_strikingOrder, .int t_runners_entered, .int t_runners_strikings])), (a_t_runners_dropped, .inl (cZ, 60, .inl t_runners_dropped)), (a_t_runners_facts, .inl (cI, 360, .inl t_runners_facts)), (a_t_runners_splits, .inl (cI, 720, .inl t_runners_splits)), (a_t_runners_struck, .inl (cZ, 60, .inl t_runners_struck)), (a_t_runners_waved, .inl (cZ, 60, .inl t_runners_waved)), (a_t_way, .inr (9, [.ref a_t_way_places, .ref a_t_way_bearings, .ref a_t_way_cuts, .ref a_t_way_deaths, .int t_way_mats])), (a_t_way_cuts, .inl (cI, 12, .inl t_way_cuts))] sz)) 0 0 (va_A [(a_t, .inr (4, [.ref a_t_way, .ref a_t_guns, .ref a_t_runners])), (a_t_guns, .inr (2, [.ref a_t_guns_ticks])), (a_t_guns_ticks, .inl (cI, 6, .inl t_guns_ticks)), (a_t_runners, .inr (6, [.ref a_t_runners_facts, .ref a_t_runners_splits, .ref a_t_runners_torn, .ref a_t_runners_dropped, .ref a_t_runners_waved, .ref a_t_runners_struck, .ref a_t_runners_strikingOrder, .int t_runners_entered, .int t_runners_strikings])), (a_t_runners_dropped, .inl (cZ, 60, .inl t_runners_dropped)), (a_t_runners_facts, .inl (cI, 360, .inl t_runners_facts)), (a_t_runners_splits, .inl (cI, 720, .inl t_runners_splits)), (a_t_runners_struck, .inl (cZ, 60, .inl t_runners_struck)), (a_t_runners_waved, .inl (cZ, 60, .inl t_runners_waved)), (a_t_way, .inr (9, [.ref a_t_way_places, .ref a_t_way_bearings, .ref a_t_way_cuts, .ref a_t_way_deaths, .int t_way_mats])), (a_t_way_cuts, .inl (cI, 12, .inl t_way_cuts))] sz) := by
  refine Met.ofW (cc := cX4_timeSince) (maxL := 4) (ret := (some .int)) (by decide) rfl ?_
  intro p e s m args below meth c s₁ B hml hv
  obtain ⟨rfl, hsz, hP, hK, hN, hZ, hD0⟩ := hv
  have hx := B.exec
  have hb := B.bytes
  have hr := B.returns
  have hts := atoms_spec (ws := wsX4_timeSince) B.pre
  have hown : s.vm.findClass RX4 = some m.cls := findClass_of_methodNamed B.named
  have hlocks := B.notSynchronized
  subst hsz
  have hD := hD0.self (sz := s.heap.size)
  generalize hAe : va_A [(a_t, .inr (4, [.ref a_t_way, .ref a_t_guns, .ref a_t_runners])), (a_t_guns, .inr (2, [.ref a_t_guns_ticks])), (a_t_guns_ticks, .inl (cI, 6, .inl t_guns_ticks)), (a_t_runners, .inr (6, [.ref a_t_runners_facts, .ref a_t_runners_splits, .ref a_t_runners_torn, .ref a_t_runners_dropped, .ref a_t_runners_waved, .ref a_t_runners_struck, .ref a_t_runners_strikingOrder, .int t_runners_entered, .int t_runners_strikings])), (a_t_runners_dropped, .inl (cZ, 60, .inl t_runners_dropped)), (a_t_runners_facts, .inl (cI, 360, .inl t_runners_facts)), (a_t_runners_splits, .inl (cI, 720, .inl t_runners_splits)), (a_t_runners_struck, .inl (cZ, 60, .inl t_runners_struck)), (a_t_runners_waved, .inl (cZ, 60, .inl t_runners_waved)), (a_t_way, .inr (9, [.ref a_t_way_places, .ref a_t_way_bearings, .ref a_t_way_cuts, .ref a_t_way_deaths, .int t_way_mats])), (a_t_way_cuts, .inl (cI, 12, .inl t_way_cuts))] s.heap.size = A at hD hZ ⊢
  have hA : ∀ q : Nat, s.heap.size ≤ q → A q := fun q h => by rw [← hAe]; exact Or.inr h
  have hS : va_S A s.heap s.heap [] := va_S.rf
  have hl := lv_entry ([.ref a_t, .int x1, .int x2]) (n := 4) (Nat.le_of_ble_eq_true rfl)
  rw [lg_entry_eq]
  generalize (lg_sl ([.ref a_t, .int x1, .int x2]) ++ List.replicate (4 - (lg_sl ([.ref a_t, .int x1, .int x2])).length) Slot.unset).toArray = ls at hl ⊢
  have hl : lv_has ls 4 [(0, .ref a_t), (1, .int x1), (2, .int x2)] := hl
  unfold fX4_timeSince at h
  refine lv_iload_n hx hb dX4_timeSince_0 rfl (lv_at hl 2 rfl) ?_
  refine lv_iconst (v := (-1 : Int32)) hx hb dX4_timeSince_1 rfl ?_
  refine lv_icmp_eq (tgt := 14) hx hb dX4_timeSince_2 (by decide) (fun c1 => ?_) (fun c1 => ?_)
  · have h := zz_t h c1
    refine lv_iconst (v := (-1 : Int32)) hx hb dX4_timeSince_14 rfl ?_
    have j0_ := Option.some.inj h
    subst j0_
    exact W.iret (v := (-1 : Int32)) hx hb hr (fun t ht hW => ⟨⟨_, (), rfl, rfl, zPost.of hP hD hK ht hW [0, 1, 2, 3, 4, 5, 6, 7, 8, 9, 10] rfl rfl rfl⟩, hS.F ht⟩) hS.2.2 dX4_timeSince_15
  · have h := zz_f h c1
    refine lv_aload_n hx hb dX4_timeSince_5 rfl (lv_at hl 0 rfl) ?_
    refine lv_iload_n hx hb dX4_timeSince_6 rfl (lv_at hl 1 rfl) ?_
    obtain ⟨r2, e3, h⟩ := zz_b h
    refine zVi (As := [.int x1]) (rest := []) (C := RX4) (wr := []) [0, 1, 2, 3, 4, 5, 6, 7, 8, 9, 10] [] 0 ⟨hx, hb, hml, hown, hts⟩ (mX4_stateOf l D cB cI cZ a_t a_t_way a_t_guns a_t_runners a_t_guns_ticks a_t_runners_facts a_t_runners_splits a_t_runners_torn a_t_runners_dropped a_t_runners_waved a_t_runners_struck a_t_runners_strikingOrder a_t_way_places a_t_way_bearings a_t_way_cuts a_t_way_deaths t_guns_ticks t_runners_entered t_runners_strikings t_runners_dropped t_runners_facts t_runners_splits t_runners_struck t_runners_waved t_way_mats t_way_cuts s.heap.size x1 N r2 e3) (cwV 1 hts gX4_timeSince_X4_stateOf rfl rfl rfl (by decide +kernel) ⟨Nat.le_of_ble_eq_true rfl, Nat.le_of_ble_eq_true rfl⟩) hK hN hZ hP hD hS hA rfl rfl rfl rfl rfl rfl rfl rfl hl.1 rfl (lv_room (Nat.le_of_ble_eq_true rfl)) dX4_timeSince_7 ⟨Nat.le_of_ble_eq_true rfl, Nat.le_of_ble_eq_true rfl⟩ (fun H locs hP hD hS => ?_)
    have hP : va_P D vwCl [(a_t, .inr (4, [.ref a_t_way, .ref a_t_guns, .ref a_t_runners])), (a_t_guns, .inr (2, [.ref a_t_guns_ticks])), (a_t_guns_ticks, .inl (cI, 6, .inl t_guns_ticks)), (a_t_runners, .inr (6, [.ref a_t_runners_facts, .ref a_t_runners_splits, .ref a_t_runners_torn, .ref a_t_runners_dropped, .ref a_t_runners_waved, .ref a_t_runners_struck, .ref a_t_runners_strikingOrder, .int t_runners_entered, .int t_runners_strikings])), (a_t_runners_dropped, .inl (cZ, 60, .inl t_runners_dropped)), (a_t_runners_facts, .inl (cI, 360, .inl t_runners_facts)), (a_t_runners_splits, .inl (cI, 720, .inl t_runners_splits)), (a_t_runners_struck, .inl (cZ, 60, .inl t_runners_struck)), (a_t_runners_waved, .inl (cZ, 60, .inl t_runners_waved)), (a_t_way, .inr (9, [.ref a_t_way_places, .ref a_t_way_bearings, .ref a_t_way_cuts, .ref a_t_way_deaths, .int t_way_mats])), (a_t_way_cuts, .inl (cI, 12, .inl t_way_cuts))] H := hP
    have hD : va_D A [(a_t, .inr (4, [.ref a_t_way, .ref a_t_guns, .ref a_t_runners])), (a_t_guns, .inr (2, [.ref a_t_guns_ticks])), (a_t_guns_ticks, .inl (cI, 6, .inl t_guns_ticks)), (a_t_runners, .inr (6, [.ref a_t_runners_facts, .ref a_t_runners_splits, .ref a_t_runners_torn, .ref a_t_runners_dropped, .ref a_t_runners_waved, .ref a_t_runners_struck, .ref a_t_runners_strikingOrder, .int t_runners_entered, .int t_runners_strikings])), (a_t_runners_dropped, .inl (cZ, 60, .inl t_runners_dropped)), (a_t_runners_facts, .inl (cI, 360, .inl t_runners_facts)), (a_t_runners_splits, .inl (cI, 720, .inl t_runners_splits)), (a_t_runners_struck, .inl (cZ, 60, .inl t_runners_struck)), (a_t_runners_waved, .inl (cZ, 60, .inl t_runners_waved)), (a_t_way, .inr (9, [.ref a_t_way_places, .ref a_t_way_bearings, .ref a_t_way_cuts, .ref a_t_way_deaths, .int t_way_mats])), (a_t_way_cuts, .inl (cI, 12, .inl t_way_cuts))] := hD
    refine lv_iconst (v := (nI 2)) hx hb dX4_timeSince_10 rfl ?_
    refine lv_icmp_eq (tgt := 16) hx hb dX4_timeSince_11 (by decide) (fun c4 => ?_) (fun c4 => ?_)
    · have h := zz_t h c4
      refine lv_aload_n hx hb dX4_timeSince_16 rfl (lv_at hl 0 rfl) ?_
      refine va_get (D := D) (ci := 4) (C := RX4) (T := TX4) (N := 3) hx hb hts qX4_timeSince_X4 hown hK hP 0 rfl rfl 2 (by decide) (hts _ kX4_timeSince_0) (fun _ h9 => h9) rfl dX4_timeSince_17 ?_
      refine lv_iload_n hx hb dX4_timeSince_20 rfl (lv_at hl 1 rfl) ?_
      refine lv_aload_n hx hb dX4_timeSince_21 rfl (lv_at hl 0 rfl) ?_
      refine va_get (D := D) (ci := 4) (C := RX4) (T := TX4) (N := 3) hx hb hts qX4_timeSince_X4 hown hK hP 0 rfl rfl 0 (by decide) (hts _ kX4_timeSince_2) (fun _ h9 => h9) rfl dX4_timeSince_22 ?_
      obtain ⟨r5, e6, h⟩ := zz_b h
      refine zVi (As := []) (rest := [.int x1, .ref a_t_runners]) (C := RX9) (wr := [(a_t, .inr (4, [.ref a_t_way, .ref a_t_guns, .ref a_t_runners])), (a_t_guns, .inr (2, [.ref a_t_guns_ticks])), (a_t_guns_ticks, .inl (cI, 6, .inl t_guns_ticks)), (a_t_runners, .inr (6, [.ref a_t_runners_facts, .ref a_t_runners_splits, .ref a_t_runners_torn, .ref a_t_runners_dropped, .ref a_t_runners_waved, .ref a_t_runners_struck, .ref a_t_runners_strikingOrder, .int t_runners_entered, .int t_runners_strikings])), (a_t_runners_dropped, .inl (cZ, 60, .inl t_runners_dropped)), (a_t_runners_facts, .inl (cI, 360, .inl t_runners_facts)), (a_t_runners_splits, .inl (cI, 720, .inl t_runners_splits)), (a_t_runners_struck, .inl (cZ, 60, .inl t_runners_struck)), (a_t_runners_waved, .inl (cZ, 60, .inl t_runners_waved)), (a_t_way_cuts, .inl (cI, 12, .inl t_way_cuts))]) [9] [0, 1, 2, 3, 4, 5, 6, 7, 8, 10] 0 ⟨hx, hb, hml, hown, hts⟩ (mX9_lastMat l D cB cI cZ a_t_way a_t_way_places a_t_way_bearings a_t_way_cuts a_t_way_deaths t_way_mats H.size r5 e6) (cwV 0 hts gX4_timeSince_X9_lastMat rfl rfl rfl (by decide +kernel) ⟨Nat.le_of_ble_eq_true rfl, Nat.le_of_ble_eq_true rfl⟩) hK hN hZ hP hD hS hA rfl rfl rfl rfl rfl rfl rfl rfl hl.1 rfl (lv_room (Nat.le_of_ble_eq_true rfl)) dX4_timeSince_25 ⟨Nat.le_of_ble_eq_true rfl, Nat.le_of_ble_eq_true rfl⟩ (fun H locs hP hD hS => ?_)
      have hP : va_P D vwCl [(a_t, .inr (4, [.ref a_t_way, .ref a_t_guns, .ref a_t_runners])), (a_t_guns, .inr (2, [.ref a_t_guns_ticks])), (a_t_guns_ticks, .inl (cI, 6, .inl t_guns_ticks)), (a_t_runners, .inr (6, [.ref a_t_runners_facts, .ref a_t_runners_splits, .ref a_t_runners_torn, .ref a_t_runners_dropped, .ref a_t_runners_waved, .ref a_t_runners_struck, .ref a_t_runners_strikingOrder, .int t_runners_entered, .int t_runners_strikings])), (a_t_runners_dropped, .inl (cZ, 60, .inl t_runners_dropped)), (a_t_runners_facts, .inl (cI, 360, .inl t_runners_facts)), (a_t_runners_splits, .inl (cI, 720, .inl t_runners_splits)), (a_t_runners_struck, .inl (cZ, 60, .inl t_runners_struck)), (a_t_runners_waved, .inl (cZ, 60, .inl t_runners_waved)), (a_t_way_cuts, .inl (cI, 12, .inl t_way_cuts)), (a_t_way, .inr (9, [.ref a_t_way_places, .ref a_t_way_bearings, .ref a_t_way_cuts, .ref a_t_way_deaths, .int t_way_mats]))] H := hP
      have hD : va_D A [(a_t, .inr (4, [.ref a_t_way, .ref a_t_guns, .ref a_t_runners])), (a_t_guns, .inr (2, [.ref a_t_guns_ticks])), (a_t_guns_ticks, .inl (cI, 6, .inl t_guns_ticks)), (a_t_runners, .inr (6, [.ref a_t_runners_facts, .ref a_t_runners_splits, .ref a_t_runners_torn, .ref a_t_runners_dropped, .ref a_t_runners_waved, .ref a_t_runners_struck, .ref a_t_runners_strikingOrder, .int t_runners_entered, .int t_runners_strikings])), (a_t_runners_dropped, .inl (cZ, 60, .inl t_runners_dropped)), (a_t_runners_facts, .inl (cI, 360, .inl t_runners_facts)), (a_t_runners_splits, .inl (cI, 720, .inl t_runners_splits)), (a_t_runners_struck, .inl (cZ, 60, .inl t_runners_struck)), (a_t_runners_waved, .inl (cZ, 60, .inl t_runners_waved)), (a_t_way_cuts, .inl (cI, 12, .inl t_way_cuts)), (a_t_way, .inr (9, [.ref a_t_way_places, .ref a_t_way_bearings, .ref a_t_way_cuts, .ref a_t_way_deaths, .int t_way_mats]))] := hD
      obtain ⟨r7, e8, h⟩ := zz_b h
      refine zVi (As := [.int x1, .int r5]) (rest := []) (C := RX6) (wr := [(a_t, .inr (4, [.ref a_t_way, .ref a_t_guns, .ref a_t_runners])), (a_t_guns, .inr (2, [.ref a_t_guns_ticks])), (a_t_guns_ticks, .inl (cI, 6, .inl t_guns_ticks)), (a_t_runners_dropped, .inl (cZ, 60, .inl t_runners_dropped)), (a_t_runners_facts, .inl (cI, 360, .inl t_runners_facts)), (a_t_runners_struck, .inl (cZ, 60, .inl t_runners_struck)), (a_t_runners_waved, .inl (cZ, 60, .inl t_runners_waved)), (a_t_way_cuts, .inl (cI, 12, .inl t_way_cuts)), (a_t_way, .inr (9, [.ref a_t_way_places, .ref a_t_way_bearings, .ref a_t_way_cuts, .ref a_t_way_deaths, .int t_way_mats]))]) [3, 6] [0, 1, 2, 4, 5, 7, 8, 9, 10] 0 ⟨hx, hb, hml, hown, hts⟩ (mX6_splitAt l D cB cI cZ a_t_runners a_t_runners_facts a_t_runners_splits a_t_runners_torn a_t_runners_dropped a_t_runners_waved a_t_runners_struck a_t_runners_strikingOrder t_runners_entered t_runners_strikings t_runners_splits H.size x1 r5 r7 e8) (cwV 2 hts gX4_timeSince_X6_splitAt rfl rfl rfl (by decide +kernel) ⟨Nat.le_of_ble_eq_true rfl, Nat.le_of_ble_eq_true rfl⟩) hK hN hZ hP hD hS hA rfl rfl rfl rfl rfl rfl rfl rfl hl.1 rfl (lv_room (Nat.le_of_ble_eq_true rfl)) dX4_timeSince_28 ⟨Nat.le_of_ble_eq_true rfl, Nat.le_of_ble_eq_true rfl⟩ (fun H locs hP hD hS => ?_)
      have hP : va_P D vwCl [(a_t, .inr (4, [.ref a_t_way, .ref a_t_guns, .ref a_t_runners])), (a_t_guns, .inr (2, [.ref a_t_guns_ticks])), (a_t_guns_ticks, .inl (cI, 6, .inl t_guns_ticks)), (a_t_runners_dropped, .inl (cZ, 60, .inl t_runners_dropped)), (a_t_runners_facts, .inl (cI, 360, .inl t_runners_facts)), (a_t_runners_struck, .inl (cZ, 60, .inl t_runners_struck)), (a_t_runners_waved, .inl (cZ, 60, .inl t_runners_waved)), (a_t_way_cuts, .inl (cI, 12, .inl t_way_cuts)), (a_t_way, .inr (9, [.ref a_t_way_places, .ref a_t_way_bearings, .ref a_t_way_cuts, .ref a_t_way_deaths, .int t_way_mats])), (a_t_runners, .inr (6, [.ref a_t_runners_facts, .ref a_t_runners_splits, .ref a_t_runners_torn, .ref a_t_runners_dropped, .ref a_t_runners_waved, .ref a_t_runners_struck, .ref a_t_runners_strikingOrder, .int t_runners_entered, .int t_runners_strikings])), (a_t_runners_splits, .inl (cI, 720, .inl t_runners_splits))] H := hP
      have hD : va_D A [(a_t, .inr (4, [.ref a_t_way, .ref a_t_guns, .ref a_t_runners])), (a_t_guns, .inr (2, [.ref a_t_guns_ticks])), (a_t_guns_ticks, .inl (cI, 6, .inl t_guns_ticks)), (a_t_runners_dropped, .inl (cZ, 60, .inl t_runners_dropped)), (a_t_runners_facts, .inl (cI, 360, .inl t_runners_facts)), (a_t_runners_struck, .inl (cZ, 60, .inl t_runners_struck)), (a_t_runners_waved, .inl (cZ, 60, .inl t_runners_waved)), (a_t_way_cuts, .inl (cI, 12, .inl t_way_cuts)), (a_t_way, .inr (9, [.ref a_t_way_places, .ref a_t_way_bearings, .ref a_t_way_cuts, .ref a_t_way_deaths, .int t_way_mats])), (a_t_runners, .inr (6, [.ref a_t_runners_facts, .ref a_t_runners_splits, .ref a_t_runners_torn, .ref a_t_runners_dropped, .ref a_t_runners_waved, .ref a_t_runners_struck, .ref a_t_runners_strikingOrder, .int t_runners_entered, .int t_runners_strikings])), (a_t_runners_splits, .inl (cI, 720, .inl t_runners_splits))] := hD
      refine lv_iload_n hx hb dX4_timeSince_31 rfl (lv_at hl 2 rfl) ?_
      refine lv_isub hx hb dX4_timeSince_32 ?_
      refine lv_istore_n (lv' := [(3, .int (r7 - x2)), (0, .ref a_t), (1, .int x1), (2, .int x2)]) hx hb dX4_timeSince_33 rfl hl (by decide) rfl (fun ls hl => ?_)
      refine lv_iload_n hx hb dX4_timeSince_34 rfl (lv_at hl 0 rfl) ?_
      refine lv_if_ge (tgt := 42) hx hb dX4_timeSince_35 (by decide) (fun c9 => ?_) (fun c9 => ?_)
      · have h := zz_t h c9
        refine lv_iload_n hx hb dX4_timeSince_42 rfl (lv_at hl 0 rfl) ?_
        have j0_ := Option.some.inj h
        subst j0_
        exact W.iret (v := (r7 - x2)) hx hb hr (fun t ht hW => ⟨⟨_, (), rfl, rfl, zPost.of hP hD hK ht hW [0, 1, 2, 9, 3, 4, 10, 5, 6, 8, 7] rfl rfl rfl⟩, hS.F ht⟩) hS.2.2 dX4_timeSince_43
      · have h := zz_f h c9
        refine lv_iconst (v := (-1 : Int32)) hx hb dX4_timeSince_38 rfl ?_
        refine lv_goto (tgt := 43) hx hb dX4_timeSince_39 (by decide) ?_
        have j0_ := Option.some.inj h
        subst j0_
        exact W.iret (v := (-1 : Int32)) hx hb hr (fun t ht hW => ⟨⟨_, (), rfl, rfl, zPost.of hP hD hK ht hW [0, 1, 2, 9, 3, 4, 10, 5, 6, 8, 7] rfl rfl rfl⟩, hS.F ht⟩) hS.2.2 dX4_timeSince_43
    · have h := zz_f h c4
      refine lv_iconst (v := (-1 : Int32)) hx hb dX4_timeSince_14 rfl ?_
      have j0_ := Option.some.inj h
      subst j0_
      exact W.iret (v := (-1 : Int32)) hx hb hr (fun t ht hW => ⟨⟨_, (), rfl, rfl, zPost.of hP hD hK ht hW [0, 1, 2, 3, 4, 5, 6, 7, 8, 9, 10] rfl rfl rfl⟩, hS.F ht⟩) hS.2.2 dX4_timeSince_15
