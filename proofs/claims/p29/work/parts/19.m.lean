/-! RunDeskModel.foretold -/
theorem dX11_foretold_0 : decode cX11_foretold 0 = .ok (.aload_n 0, 1) := by decide +kernel
theorem dX11_foretold_1 : decode cX11_foretold 1 = .ok (.iconst 0, 1) := by decide +kernel
theorem dX11_foretold_2 : decode cX11_foretold 2 = .ok (.putfield 37, 3) := by decide +kernel
theorem dX11_foretold_5 : decode cX11_foretold 5 = .ok (.aload_n 0, 1) := by decide +kernel
theorem dX11_foretold_6 : decode cX11_foretold 6 = .ok (.iload_n 1, 1) := by decide +kernel
theorem dX11_foretold_7 : decode cX11_foretold 7 = .ok (.invokevirtual 69, 3) := by decide +kernel
theorem dX11_foretold_10 : decode cX11_foretold 10 = .ok (.ifCond .eq 7, 3) := by decide +kernel
theorem dX11_foretold_13 : decode cX11_foretold 13 = .ok (.iload_n 2, 1) := by decide +kernel
theorem dX11_foretold_14 : decode cX11_foretold 14 = .ok (.ifCond .ge 5, 3) := by decide +kernel
theorem dX11_foretold_17 : decode cX11_foretold 17 = .ok (.iconst (-1), 1) := by decide +kernel
theorem dX11_foretold_18 : decode cX11_foretold 18 = .ok (.ireturn, 1) := by decide +kernel
theorem dX11_foretold_19 : decode cX11_foretold 19 = .ok (.iconst 0, 1) := by decide +kernel
theorem dX11_foretold_20 : decode cX11_foretold 20 = .ok (.istore_n 3, 1) := by decide +kernel
theorem dX11_foretold_21 : decode cX11_foretold 21 = .ok (.iconst 0, 1) := by decide +kernel
theorem dX11_foretold_22 : decode cX11_foretold 22 = .ok (.istore 4, 2) := by decide +kernel
theorem dX11_foretold_24 : decode cX11_foretold 24 = .ok (.iload 4, 2) := by decide +kernel
theorem dX11_foretold_26 : decode cX11_foretold 26 = .ok (.aload_n 0, 1) := by decide +kernel
theorem dX11_foretold_27 : decode cX11_foretold 27 = .ok (.invokevirtual 45, 3) := by decide +kernel
theorem dX11_foretold_30 : decode cX11_foretold 30 = .ok (.if_icmp .ge 42, 3) := by decide +kernel
theorem dX11_foretold_33 : decode cX11_foretold 33 = .ok (.iload_n 3, 1) := by decide +kernel
theorem dX11_foretold_34 : decode cX11_foretold 34 = .ok (.aload_n 0, 1) := by decide +kernel
theorem dX11_foretold_35 : decode cX11_foretold 35 = .ok (.iload 4, 2) := by decide +kernel
theorem dX11_foretold_37 : decode cX11_foretold 37 = .ok (.iload_n 1, 1) := by decide +kernel
theorem dX11_foretold_38 : decode cX11_foretold 38 = .ok (.invokevirtual 139, 3) := by decide +kernel
theorem dX11_foretold_41 : decode cX11_foretold 41 = .ok (.iconst (-1), 1) := by decide +kernel
theorem dX11_foretold_42 : decode cX11_foretold 42 = .ok (.if_icmp .eq 21, 3) := by decide +kernel
theorem dX11_foretold_45 : decode cX11_foretold 45 = .ok (.aload_n 0, 1) := by decide +kernel
theorem dX11_foretold_46 : decode cX11_foretold 46 = .ok (.iload 4, 2) := by decide +kernel
theorem dX11_foretold_48 : decode cX11_foretold 48 = .ok (.iload_n 1, 1) := by decide +kernel
theorem dX11_foretold_49 : decode cX11_foretold 49 = .ok (.invokevirtual 139, 3) := by decide +kernel
theorem dX11_foretold_52 : decode cX11_foretold 52 = .ok (.bipush 60, 2) := by decide +kernel
theorem dX11_foretold_54 : decode cX11_foretold 54 = .ok (.idiv, 1) := by decide +kernel
theorem dX11_foretold_55 : decode cX11_foretold 55 = .ok (.iload_n 2, 1) := by decide +kernel
theorem dX11_foretold_56 : decode cX11_foretold 56 = .ok (.if_icmp .ne 7, 3) := by decide +kernel
theorem dX11_foretold_59 : decode cX11_foretold 59 = .ok (.iconst 1, 1) := by decide +kernel
theorem dX11_foretold_60 : decode cX11_foretold 60 = .ok (.goto 4, 3) := by decide +kernel
theorem dX11_foretold_63 : decode cX11_foretold 63 = .ok (.iconst 0, 1) := by decide +kernel
theorem dX11_foretold_64 : decode cX11_foretold 64 = .ok (.iadd, 1) := by decide +kernel
theorem dX11_foretold_65 : decode cX11_foretold 65 = .ok (.istore_n 3, 1) := by decide +kernel
theorem dX11_foretold_66 : decode cX11_foretold 66 = .ok (.iinc 4 1, 3) := by decide +kernel
theorem dX11_foretold_69 : decode cX11_foretold 69 = .ok (.goto (-45), 3) := by decide +kernel
theorem dX11_foretold_72 : decode cX11_foretold 72 = .ok (.iload_n 3, 1) := by decide +kernel
theorem dX11_foretold_73 : decode cX11_foretold 73 = .ok (.ireturn, 1) := by decide +kernel
set_option maxRecDepth 20000 in
theorem ggX11_foretold_X11_isMat : GoodIn wsX11_foretold wsX11_isMat := goodIn_sub (List.forall_mem_cons.mpr ⟨List.mem_cons_of_mem _ (List.mem_append_left _ (List.mem_append_left _ (List.mem_of_getElem? (l := wsX11_foretold_r1) (i := 5) rfl))), (List.forall_mem_append.mpr ⟨(List.forall_mem_cons.mpr ⟨List.mem_cons_of_mem _ (List.mem_append_left _ (List.mem_append_left _ (List.mem_of_getElem? (l := wsX11_foretold_r1) (i := 6) rfl))), (List.forall_mem_cons.mpr ⟨List.mem_cons_of_mem _ (List.mem_append_left _ (List.mem_append_left _ (List.mem_of_getElem? (l := wsX11_foretold_r1) (i := 7) rfl))), (List.forall_mem_cons.mpr ⟨List.mem_cons_of_mem _ (List.mem_append_left _ (List.mem_append_left _ (List.mem_of_getElem? (l := wsX11_foretold_r1) (i := 8) rfl))), (List.forall_mem_cons.mpr ⟨List.mem_cons_of_mem _ (List.mem_append_left _ (List.mem_append_left _ (List.mem_of_getElem? (l := wsX11_foretold_r1) (i := 4) rfl))), (List.forall_mem_cons.mpr ⟨List.mem_cons_of_mem _ (List.mem_append_left _ (List.mem_append_left _ (List.mem_of_getElem? (l := wsX11_foretold_r1) (i := 9) rfl))), (List.forall_mem_cons.mpr ⟨List.mem_cons_of_mem _ (List.mem_append_left _ (List.mem_append_left _ (List.mem_of_getElem? (l := wsX11_foretold_r1) (i := 10) rfl))), (fun _ h => nomatch h)⟩)⟩)⟩)⟩)⟩)⟩), (fun _ h => List.mem_cons_of_mem _ (List.mem_append_right _ (h)))⟩)⟩) (by decide +kernel)
set_option maxRecDepth 20000 in
theorem gX11_foretold_X11_isMat : GoodIn wsX11_foretold (wsV RX11 69 RX11 yX11_isMat wsX11_isMat) := goodIn_app (goodIn_of _ (by decide +kernel)) ggX11_foretold_X11_isMat
set_option maxRecDepth 20000 in
theorem ggX11_foretold_X11_runners : GoodIn wsX11_foretold wsX11_runners := goodIn_sub (List.forall_mem_cons.mpr ⟨List.mem_cons_of_mem _ (List.mem_append_left _ (List.mem_append_left _ (List.mem_of_getElem? (l := wsX11_foretold_r1) (i := 14) rfl))), (List.forall_mem_append.mpr ⟨(List.forall_mem_cons.mpr ⟨List.mem_cons_of_mem _ (List.mem_append_left _ (List.mem_append_left _ (List.mem_of_getElem? (l := wsX11_foretold_r1) (i := 10) rfl))), (fun _ h => nomatch h)⟩), (fun _ h => List.mem_cons_of_mem _ (List.mem_append_right _ (h)))⟩)⟩) (by decide +kernel)
set_option maxRecDepth 20000 in
theorem gX11_foretold_X11_runners : GoodIn wsX11_foretold (wsV RX11 45 RX11 yX11_runners wsX11_runners) := goodIn_app (goodIn_of _ (by decide +kernel)) ggX11_foretold_X11_runners
set_option maxRecDepth 20000 in
theorem ggX11_foretold_X11_passes : GoodIn wsX11_foretold wsX11_passes := goodIn_sub (List.forall_mem_cons.mpr ⟨List.mem_cons_of_mem _ (List.mem_append_left _ (List.mem_append_left _ (List.mem_of_getElem? (l := wsX11_foretold_r1) (i := 18) rfl))), (List.forall_mem_append.mpr ⟨(List.forall_mem_cons.mpr ⟨List.mem_cons_of_mem _ (List.mem_append_left _ (List.mem_append_left _ (List.mem_of_getElem? (l := wsX11_foretold_r1) (i := 19) rfl))), (List.forall_mem_cons.mpr ⟨List.mem_cons_of_mem _ (List.mem_append_left _ (List.mem_append_left _ (List.mem_of_getElem? (l := wsX11_foretold_r1) (i := 20) rfl))), (List.forall_mem_cons.mpr ⟨List.mem_cons_of_mem _ (List.mem_append_left _ (List.mem_append_left _ (List.mem_of_getElem? (l := wsX11_foretold_r1) (i := 21) rfl))), (List.forall_mem_cons.mpr ⟨List.mem_cons_of_mem _ (List.mem_append_left _ (List.mem_append_left _ (List.mem_of_getElem? (l := wsX11_foretold_r1) (i := 4) rfl))), (List.forall_mem_cons.mpr ⟨List.mem_cons_of_mem _ (List.mem_append_left _ (List.mem_append_left _ (List.mem_of_getElem? (l := wsX11_foretold_r1) (i := 22) rfl))), (List.forall_mem_cons.mpr ⟨List.mem_cons_of_mem _ (List.mem_append_left _ (List.mem_append_left _ (List.mem_of_getElem? (l := wsX11_foretold_r1) (i := 10) rfl))), (List.forall_mem_cons.mpr ⟨List.mem_cons_of_mem _ (List.mem_append_left _ (List.mem_append_left _ (List.mem_of_getElem? (l := wsX11_foretold_r1) (i := 23) rfl))), (List.forall_mem_cons.mpr ⟨List.mem_cons_of_mem _ (List.mem_append_left _ (List.mem_append_right _ (List.mem_of_getElem? (l := wsX11_foretold_r2) (i := 0) rfl))), (List.forall_mem_cons.mpr ⟨List.mem_cons_of_mem _ (List.mem_append_left _ (List.mem_append_right _ (List.mem_of_getElem? (l := wsX11_foretold_r2) (i := 1) rfl))), (List.forall_mem_cons.mpr ⟨List.mem_cons_of_mem _ (List.mem_append_left _ (List.mem_append_right _ (List.mem_of_getElem? (l := wsX11_foretold_r2) (i := 2) rfl))), (List.forall_mem_cons.mpr ⟨List.mem_cons_of_mem _ (List.mem_append_left _ (List.mem_append_right _ (List.mem_of_getElem? (l := wsX11_foretold_r2) (i := 3) rfl))), (List.forall_mem_cons.mpr ⟨List.mem_cons_of_mem _ (List.mem_append_left _ (List.mem_append_right _ (List.mem_of_getElem? (l := wsX11_foretold_r2) (i := 4) rfl))), (List.forall_mem_cons.mpr ⟨List.mem_cons_of_mem _ (List.mem_append_left _ (List.mem_append_right _ (List.mem_of_getElem? (l := wsX11_foretold_r2) (i := 5) rfl))), (List.forall_mem_cons.mpr ⟨List.mem_cons_of_mem _ (List.mem_append_left _ (List.mem_append_right _ (List.mem_of_getElem? (l := wsX11_foretold_r2) (i := 6) rfl))), (List.forall_mem_cons.mpr ⟨List.mem_cons_of_mem _ (List.mem_append_left _ (List.mem_append_right _ (List.mem_of_getElem? (l := wsX11_foretold_r2) (i := 7) rfl))), (List.forall_mem_cons.mpr ⟨List.mem_cons_of_mem _ (List.mem_append_left _ (List.mem_append_right _ (List.mem_of_getElem? (l := wsX11_foretold_r2) (i := 8) rfl))), (List.forall_mem_cons.mpr ⟨List.mem_cons_of_mem _ (List.mem_append_left _ (List.mem_append_right _ (List.mem_of_getElem? (l := wsX11_foretold_r2) (i := 9) rfl))), (List.forall_mem_cons.mpr ⟨List.mem_cons_of_mem _ (List.mem_append_left _ (List.mem_append_right _ (List.mem_of_getElem? (l := wsX11_foretold_r2) (i := 10) rfl))), (fun _ h => nomatch h)⟩)⟩)⟩)⟩)⟩)⟩)⟩)⟩)⟩)⟩)⟩)⟩)⟩)⟩)⟩)⟩)⟩)⟩), (fun _ h => List.mem_cons_of_mem _ (List.mem_append_right _ (h)))⟩)⟩) (by decide +kernel)
set_option maxRecDepth 20000 in
theorem gX11_foretold_X11_passes : GoodIn wsX11_foretold (wsV RX11 139 RX11 yX11_passes wsX11_passes) := goodIn_app (goodIn_of _ (by decide +kernel)) ggX11_foretold_X11_passes
theorem kX11_foretold_0 : (.fieldLink RX11 37 "RunDeskModel" "thrown" "I" : Cond) ∈ wsX11_foretold := List.mem_of_getElem? (i := 1) (by decide +kernel)
theorem qX11_foretold_X11 : ∀ w ∈ wsX110, w ∈ wsX11_foretold := fun _ h => List.mem_cons_of_mem _ (List.mem_append_right _ (h))
set_option maxHeartbeats 4000000 in
set_option maxRecDepth 100000 in
theorem mX11_foretold (l : Launch) (D : va_G) (cB cI cZ : ClassId) (a_t : Nat) (a_t_now : Nat) (a_t_kept : Nat) (a_t_text : Nat) (a_t_passing : Nat) (a_t_order : Nat) (a_t_times : Nat) (t_thrown : Int32) (t_isKept : Int32) (t_length : Int32) (t_at : Int32) (t_fault : Int32) (t_open : Int32) (t_asked : Int32) (t_byGun : Int32) (t_prizeMost : Int32) (t_listed : Int32) (t_now : Nat → Int32) (sz : Nat) (x1 : Int32) (x2 : Int32) (N : Nat) (r0 : Int32) (t_thrown' : Int32) (h : fX11_foretold N t_thrown t_now x1 x2 = some (r0, t_thrown')) : Met l yX11_foretold wsX11_foretold ({ frames := 2, cells := 0, slots := 0, locals := 45 } : Room) (va_Pc [.ref a_t, .int x1, .int x2] (zPre D (zT cB cI cZ) [(a_t, .inr (11, [.int t_thrown, .ref a_t_now, .ref a_t_kept, .int t_isKept, .ref a_t_text, .int t_length, .ref a_t_passing, .int t_at, .int t_fault, .int t_open, .int t_asked, .int t_byGun, .int t_prizeMost, .ref a_t_order, .ref a_t_times, .int t_listed])), (a_t_now, .inl (cI, 1562, .inl t_now))] sz)) (zQi r0 D (zT cB cI cZ) [(a_t, .inr (11, [.int t_thrown', .ref a_t_now, .ref a_t_kept, .int t_isKept, .ref a_t_text, .int t_length, .ref a_t_passing, .int t_at, .int t_fault, .int t_open, .int t_asked, .int t_byGun, .int t_prizeMost, .ref a_t_order, .ref a_t_times, .int t_listed])), (a_t_now, .inl (cI, 1562, .inl t_now))] (va_A [(a_t, .inr (11, [.int t_thrown, .ref a_t_now, .ref a_t_kept, .int t_isKept, .ref a_t_text, .int t_length, .ref a_t_passing, .int t_at, .int t_fault, .int t_open, .int t_asked, .int t_byGun, .int t_prizeMost, .ref a_t_order, .ref a_t_times, .int t_listed])), (a_t_now, .inl (cI, 1562, .inl t_now))] sz)) 0 0 (va_A [(a_t, .inr (11, [.int t_thrown, .ref a_t_now, .ref a_t_kept, .int t_isKept, .ref a_t_text, .int t_length, .ref a_t_passing, .int t_at, .int t_fault, .int t_open, .int t_asked, .int t_byGun, .int t_prizeMost, .ref a_t_order, .ref a_t_times, .int t_listed])), (a_t_now, .inl (cI, 1562, .inl t_now))] sz) := by
  refine Met.ofW (cc := cX11_foretold) (maxL := 5) (ret := (some .int)) (by decide) rfl ?_
  intro p e s m args below meth c s₁ B hml hv
  obtain ⟨rfl, hsz, hP, hK, hN, hZ, hD0⟩ := hv
  have hx := B.exec
  have hb := B.bytes
  have hr := B.returns
  have hts := atoms_spec (ws := wsX11_foretold) B.pre
  have hown : s.vm.findClass RX11 = some m.cls := findClass_of_methodNamed B.named
  have hlocks := B.notSynchronized
  subst hsz
  have hD := hD0.self (sz := s.heap.size)
  generalize hAe : va_A [(a_t, .inr (11, [.int t_thrown, .ref a_t_now, .ref a_t_kept, .int t_isKept, .ref a_t_text, .int t_length, .ref a_t_passing, .int t_at, .int t_fault, .int t_open, .int t_asked, .int t_byGun, .int t_prizeMost, .ref a_t_order, .ref a_t_times, .int t_listed])), (a_t_now, .inl (cI, 1562, .inl t_now))] s.heap.size = A at hD hZ ⊢
  have hA : ∀ q : Nat, s.heap.size ≤ q → A q := fun q h => by rw [← hAe]; exact Or.inr h
  have hS : va_S A s.heap s.heap [] := va_S.rf
  have hl := lv_entry ([.ref a_t, .int x1, .int x2]) (n := 5) (Nat.le_of_ble_eq_true rfl)
  rw [lg_entry_eq]
  generalize (lg_sl ([.ref a_t, .int x1, .int x2]) ++ List.replicate (5 - (lg_sl ([.ref a_t, .int x1, .int x2])).length) Slot.unset).toArray = ls at hl ⊢
  have hl : lv_has ls 5 [(0, .ref a_t), (1, .int x1), (2, .int x2)] := hl
  unfold fX11_foretold at h
  refine lv_aload_n hx hb dX11_foretold_0 rfl (lv_at hl 0 rfl) ?_
  refine lv_iconst (v := (nI 0)) hx hb dX11_foretold_1 rfl ?_
  refine va_put (D := D) (ci := 11) (ty := .int) (C := RX11) (T := TX11) (N := 16) hx hb hts qX11_foretold_X11 tyX11 tyX11_ok nmX11 hown hK hP hD hS 0 rfl rfl 0 (by decide) (hts _ kX11_foretold_0) (fun _ h9 => h9) rfl (by decide +kernel) rfl (by first | rfl | exact zz_fit) (Nat.le_of_ble_eq_true rfl) dX11_foretold_2 (fun H locs hP hD hS => ?_)
  have hP : va_P D vwCl [(a_t, .inr (11, [.int (nI 0), .ref a_t_now, .ref a_t_kept, .int t_isKept, .ref a_t_text, .int t_length, .ref a_t_passing, .int t_at, .int t_fault, .int t_open, .int t_asked, .int t_byGun, .int t_prizeMost, .ref a_t_order, .ref a_t_times, .int t_listed])), (a_t_now, .inl (cI, 1562, .inl t_now))] H := hP
  have hD : va_D A [(a_t, .inr (11, [.int (nI 0), .ref a_t_now, .ref a_t_kept, .int t_isKept, .ref a_t_text, .int t_length, .ref a_t_passing, .int t_at, .int t_fault, .int t_open, .int t_asked, .int t_byGun, .int t_prizeMost, .ref a_t_order, .ref a_t_times, .int t_listed])), (a_t_now, .inl (cI, 1562, .inl t_now))] := hD
  refine lv_aload_n hx hb dX11_foretold_5 rfl (lv_at hl 0 rfl) ?_
  refine lv_iload_n hx hb dX11_foretold_6 rfl (lv_at hl 1 rfl) ?_
  obtain ⟨b1, e2, h⟩ := zz_b h
  refine zVi (As := [.int x1]) (rest := []) (C := RX11) (wr := []) [0, 1] [] 0 ⟨hx, hb, hml, hown, hts⟩ (mX11_isMat l D cB cI cZ a_t a_t_now a_t_kept a_t_text a_t_passing a_t_order a_t_times (nI 0) t_isKept t_length t_at t_fault t_open t_asked t_byGun t_prizeMost t_listed t_now H.size x1 b1 e2) (cwV 1 hts gX11_foretold_X11_isMat rfl rfl rfl (by decide +kernel) ⟨Nat.le_of_ble_eq_true rfl, Nat.le_of_ble_eq_true rfl⟩) hK hN hZ hP hD hS hA rfl rfl rfl rfl rfl rfl rfl rfl hl.1 rfl (lv_room (Nat.le_of_ble_eq_true rfl)) dX11_foretold_7 ⟨Nat.le_of_ble_eq_true rfl, Nat.le_of_ble_eq_true rfl⟩ (fun H locs hP hD hS => ?_)
  have hP : va_P D vwCl [(a_t, .inr (11, [.int (nI 0), .ref a_t_now, .ref a_t_kept, .int t_isKept, .ref a_t_text, .int t_length, .ref a_t_passing, .int t_at, .int t_fault, .int t_open, .int t_asked, .int t_byGun, .int t_prizeMost, .ref a_t_order, .ref a_t_times, .int t_listed])), (a_t_now, .inl (cI, 1562, .inl t_now))] H := hP
  have hD : va_D A [(a_t, .inr (11, [.int (nI 0), .ref a_t_now, .ref a_t_kept, .int t_isKept, .ref a_t_text, .int t_length, .ref a_t_passing, .int t_at, .int t_fault, .int t_open, .int t_asked, .int t_byGun, .int t_prizeMost, .ref a_t_order, .ref a_t_times, .int t_listed])), (a_t_now, .inl (cI, 1562, .inl t_now))] := hD
  refine lv_if_eq (tgt := 17) hx hb dX11_foretold_10 (by decide) (fun c3 => ?_) (fun c3 => ?_)
  · have h := zz_t h c3
    refine lv_iconst (v := (-1 : Int32)) hx hb dX11_foretold_17 rfl ?_
    obtain ⟨j0_, g_⟩ := Prod.mk.inj (Option.some.inj h)
    have j1_ := g_
    subst j0_
    subst j1_
    exact W.iret (v := (-1 : Int32)) hx hb hr (fun t ht hW => ⟨⟨_, (), rfl, rfl, zPost.of hP hD hK ht hW [0, 1] rfl rfl rfl⟩, hS.F ht⟩) hS.2.2 dX11_foretold_18
  · have h := zz_f h c3
    refine lv_iload_n hx hb dX11_foretold_13 rfl (lv_at hl 2 rfl) ?_
    refine lv_if_ge (tgt := 19) hx hb dX11_foretold_14 (by decide) (fun c4 => ?_) (fun c4 => ?_)
    · have h := zz_t h c4
      refine lv_iconst (v := (nI 0)) hx hb dX11_foretold_19 rfl ?_
      refine lv_istore_n (lv' := [(3, .int (nI 0)), (0, .ref a_t), (1, .int x1), (2, .int x2)]) hx hb dX11_foretold_20 rfl hl (by decide) rfl (fun ls hl => ?_)
      refine lv_iconst (v := (nI 0)) hx hb dX11_foretold_21 rfl ?_
      refine lv_istore (lv' := [(4, .int (nI 0)), (3, .int (nI 0)), (0, .ref a_t), (1, .int x1), (2, .int x2)]) hx hb dX11_foretold_22 hl (by decide) rfl (fun ls hl => ?_)
      have X24_72 : ∀ (v3_24 : Int32) (v4_24 : Int32) (H : Heap) (locs : List Loc) (ls : Array Slot), some (v3_24, (nI 0)) = some (r0, t_thrown') → va_P D vwCl [(a_t, .inr (11, [.int (nI 0), .ref a_t_now, .ref a_t_kept, .int t_isKept, .ref a_t_text, .int t_length, .ref a_t_passing, .int t_at, .int t_fault, .int t_open, .int t_asked, .int t_byGun, .int t_prizeMost, .ref a_t_order, .ref a_t_times, .int t_listed])), (a_t_now, .inl (cI, 1562, .inl t_now))] H → va_D A [(a_t, .inr (11, [.int (nI 0), .ref a_t_now, .ref a_t_kept, .int t_isKept, .ref a_t_text, .int t_length, .ref a_t_passing, .int t_at, .int t_fault, .int t_open, .int t_asked, .int t_byGun, .int t_prizeMost, .ref a_t_order, .ref a_t_times, .int t_listed])), (a_t_now, .inl (cI, 1562, .inl t_now))] → va_S A s.heap H locs → lv_has ls 5 [(4, .int v4_24), (3, .int v3_24), (0, .ref a_t), (1, .int x1), (2, .int x2)] → W p l e (headSpec wsX11_foretold ({ frames := 2, cells := 0, slots := 0, locals := 45 } : Room)).room s m #[Value.ref a_t, Value.int x1, Value.int x2] below meth c H locs 0 0 (MQ below (zQi r0 D (zT cB cI cZ) [(a_t, .inr (11, [.int t_thrown', .ref a_t_now, .ref a_t_kept, .int t_isKept, .ref a_t_text, .int t_length, .ref a_t_passing, .int t_at, .int t_fault, .int t_open, .int t_asked, .int t_byGun, .int t_prizeMost, .ref a_t_order, .ref a_t_times, .int t_listed])), (a_t_now, .inl (cI, 1562, .inl t_now))] A) #[Value.ref a_t, Value.int x1, Value.int x2] s 0 0 A) (F0 m 72 ls []) := by
        intro v3_24 v4_24 H locs ls h hP hD hS hl
        refine lv_iload_n hx hb dX11_foretold_72 rfl (lv_at hl 1 rfl) ?_
        obtain ⟨j0_, g_⟩ := Prod.mk.inj (Option.some.inj h)
        have j1_ := g_
        subst j0_
        subst j1_
        exact W.iret (v := v3_24) hx hb hr (fun t ht hW => ⟨⟨_, (), rfl, rfl, zPost.of hP hD hK ht hW [0, 1] rfl rfl rfl⟩, hS.F ht⟩) hS.2.2 dX11_foretold_73
      have L24 : ∀ (n : Nat) (v3_24 : Int32) (v4_24 : Int32) (H : Heap) (locs : List Loc) (ls : Array Slot), fX11_foretold_L24 t_now x1 x2 (fun (v3_24 : Int32) (v4_24 : Int32) => some (v3_24, (nI 0))) n v3_24 v4_24 = some (r0, t_thrown') → va_P D vwCl [(a_t, .inr (11, [.int (nI 0), .ref a_t_now, .ref a_t_kept, .int t_isKept, .ref a_t_text, .int t_length, .ref a_t_passing, .int t_at, .int t_fault, .int t_open, .int t_asked, .int t_byGun, .int t_prizeMost, .ref a_t_order, .ref a_t_times, .int t_listed])), (a_t_now, .inl (cI, 1562, .inl t_now))] H → va_D A [(a_t, .inr (11, [.int (nI 0), .ref a_t_now, .ref a_t_kept, .int t_isKept, .ref a_t_text, .int t_length, .ref a_t_passing, .int t_at, .int t_fault, .int t_open, .int t_asked, .int t_byGun, .int t_prizeMost, .ref a_t_order, .ref a_t_times, .int t_listed])), (a_t_now, .inl (cI, 1562, .inl t_now))] → va_S A s.heap H locs → lv_has ls 5 [(4, .int v4_24), (3, .int v3_24), (0, .ref a_t), (1, .int x1), (2, .int x2)] → W p l e (headSpec wsX11_foretold ({ frames := 2, cells := 0, slots := 0, locals := 45 } : Room)).room s m #[Value.ref a_t, Value.int x1, Value.int x2] below meth c H locs 0 0 (MQ below (zQi r0 D (zT cB cI cZ) [(a_t, .inr (11, [.int t_thrown', .ref a_t_now, .ref a_t_kept, .int t_isKept, .ref a_t_text, .int t_length, .ref a_t_passing, .int t_at, .int t_fault, .int t_open, .int t_asked, .int t_byGun, .int t_prizeMost, .ref a_t_order, .ref a_t_times, .int t_listed])), (a_t_now, .inl (cI, 1562, .inl t_now))] A) #[Value.ref a_t, Value.int x1, Value.int x2] s 0 0 A) (F0 m 24 ls []) := by
        intro n
        induction n with
        | zero => intro _ _ H locs ls h hP hD hS hl; cases h
        | succ n24 ih24 =>
          intro v3_24 v4_24 H locs ls h hP hD hS hl
          rw [fX11_foretold_L24.eq_2] at h
          refine lv_iload hx hb dX11_foretold_24 (lv_at hl 0 rfl) ?_
          refine lv_aload_n hx hb dX11_foretold_26 rfl (lv_at hl 2 rfl) ?_
          obtain ⟨r5, e6, h⟩ := zz_b h
          refine zVi (As := []) (rest := [.int v4_24]) (C := RX11) (wr := []) [0, 1] [] 0 ⟨hx, hb, hml, hown, hts⟩ (mX11_runners l D cB cI cZ a_t a_t_now a_t_kept a_t_text a_t_passing a_t_order a_t_times (nI 0) t_isKept t_length t_at t_fault t_open t_asked t_byGun t_prizeMost t_listed t_now H.size r5 e6) (cwV 0 hts gX11_foretold_X11_runners rfl rfl rfl (by decide +kernel) ⟨Nat.le_of_ble_eq_true rfl, Nat.le_of_ble_eq_true rfl⟩) hK hN hZ hP hD hS hA rfl rfl rfl rfl rfl rfl rfl rfl hl.1 rfl (lv_room (Nat.le_of_ble_eq_true rfl)) dX11_foretold_27 ⟨Nat.le_of_ble_eq_true rfl, Nat.le_of_ble_eq_true rfl⟩ (fun H locs hP hD hS => ?_)
          have hP : va_P D vwCl [(a_t, .inr (11, [.int (nI 0), .ref a_t_now, .ref a_t_kept, .int t_isKept, .ref a_t_text, .int t_length, .ref a_t_passing, .int t_at, .int t_fault, .int t_open, .int t_asked, .int t_byGun, .int t_prizeMost, .ref a_t_order, .ref a_t_times, .int t_listed])), (a_t_now, .inl (cI, 1562, .inl t_now))] H := hP
          have hD : va_D A [(a_t, .inr (11, [.int (nI 0), .ref a_t_now, .ref a_t_kept, .int t_isKept, .ref a_t_text, .int t_length, .ref a_t_passing, .int t_at, .int t_fault, .int t_open, .int t_asked, .int t_byGun, .int t_prizeMost, .ref a_t_order, .ref a_t_times, .int t_listed])), (a_t_now, .inl (cI, 1562, .inl t_now))] := hD
          refine lv_icmp_ge (tgt := 72) hx hb dX11_foretold_30 (by decide) (fun c7 => ?_) (fun c7 => ?_)
          · have h := zz_t h c7
            exact X24_72 v3_24 v4_24 _ _ _ h (hP.sub [0, 1] rfl) (hD.sub [0, 1] rfl rfl) hS (lv_sub hl [0, 1, 2, 3, 4] rfl)
          · have h := zz_f h c7
            refine lv_iload_n hx hb dX11_foretold_33 rfl (lv_at hl 1 rfl) ?_
            refine lv_aload_n hx hb dX11_foretold_34 rfl (lv_at hl 2 rfl) ?_
            refine lv_iload hx hb dX11_foretold_35 (lv_at hl 0 rfl) ?_
            refine lv_iload_n hx hb dX11_foretold_37 rfl (lv_at hl 3 rfl) ?_
            obtain ⟨r8, e9, h⟩ := zz_b h
            refine zVi (As := [.int v4_24, .int x1]) (rest := [.int v3_24]) (C := RX11) (wr := []) [0, 1] [] 0 ⟨hx, hb, hml, hown, hts⟩ (mX11_passes l D cB cI cZ a_t a_t_now a_t_kept a_t_text a_t_passing a_t_order a_t_times (nI 0) t_isKept t_length t_at t_fault t_open t_asked t_byGun t_prizeMost t_listed t_now H.size v4_24 x1 r8 e9) (cwV 2 hts gX11_foretold_X11_passes rfl rfl rfl (by decide +kernel) ⟨Nat.le_of_ble_eq_true rfl, Nat.le_of_ble_eq_true rfl⟩) hK hN hZ hP hD hS hA rfl rfl rfl rfl rfl rfl rfl rfl hl.1 rfl (lv_room (Nat.le_of_ble_eq_true rfl)) dX11_foretold_38 ⟨Nat.le_of_ble_eq_true rfl, Nat.le_of_ble_eq_true rfl⟩ (fun H locs hP hD hS => ?_)
            have hP : va_P D vwCl [(a_t, .inr (11, [.int (nI 0), .ref a_t_now, .ref a_t_kept, .int t_isKept, .ref a_t_text, .int t_length, .ref a_t_passing, .int t_at, .int t_fault, .int t_open, .int t_asked, .int t_byGun, .int t_prizeMost, .ref a_t_order, .ref a_t_times, .int t_listed])), (a_t_now, .inl (cI, 1562, .inl t_now))] H := hP
            have hD : va_D A [(a_t, .inr (11, [.int (nI 0), .ref a_t_now, .ref a_t_kept, .int t_isKept, .ref a_t_text, .int t_length, .ref a_t_passing, .int t_at, .int t_fault, .int t_open, .int t_asked, .int t_byGun, .int t_prizeMost, .ref a_t_order, .ref a_t_times, .int t_listed])), (a_t_now, .inl (cI, 1562, .inl t_now))] := hD
            refine lv_iconst (v := (-1 : Int32)) hx hb dX11_foretold_41 rfl ?_
            refine lv_icmp_eq (tgt := 63) hx hb dX11_foretold_42 (by decide) (fun c10 => ?_) (fun c10 => ?_)
            · have h := zz_t h c10
              refine lv_iconst (v := (nI 0)) hx hb dX11_foretold_63 rfl ?_
              refine lv_iadd hx hb dX11_foretold_64 ?_
              refine lv_istore_n (lv' := [(3, .int (v3_24 + (nI 0))), (4, .int v4_24), (0, .ref a_t), (1, .int x1), (2, .int x2)]) hx hb dX11_foretold_65 rfl hl (by decide) rfl (fun ls hl => ?_)
              refine lv_iinc (v := (v4_24 + (nI 1))) (lv' := [(4, .int (v4_24 + (nI 1))), (3, .int (v3_24 + (nI 0))), (0, .ref a_t), (1, .int x1), (2, .int x2)]) hx hb dX11_foretold_66 hl (k := 1) rfl rfl (by decide) rfl (fun ls hl => ?_)
              refine lv_goto (tgt := 24) hx hb dX11_foretold_69 (by decide) ?_
              exact ih24 (v3_24 + (nI 0)) (v4_24 + (nI 1)) _ _ _ h (hP.sub [0, 1] rfl) (hD.sub [0, 1] rfl rfl) hS (lv_sub hl [0, 1, 2, 3, 4] rfl)
            · have h := zz_f h c10
              refine lv_aload_n hx hb dX11_foretold_45 rfl (lv_at hl 2 rfl) ?_
              refine lv_iload hx hb dX11_foretold_46 (lv_at hl 0 rfl) ?_
              refine lv_iload_n hx hb dX11_foretold_48 rfl (lv_at hl 3 rfl) ?_
              obtain ⟨r11, e12, h⟩ := zz_b h
              refine zVi (As := [.int v4_24, .int x1]) (rest := [.int v3_24]) (C := RX11) (wr := []) [0, 1] [] 0 ⟨hx, hb, hml, hown, hts⟩ (mX11_passes l D cB cI cZ a_t a_t_now a_t_kept a_t_text a_t_passing a_t_order a_t_times (nI 0) t_isKept t_length t_at t_fault t_open t_asked t_byGun t_prizeMost t_listed t_now H.size v4_24 x1 r11 e12) (cwV 2 hts gX11_foretold_X11_passes rfl rfl rfl (by decide +kernel) ⟨Nat.le_of_ble_eq_true rfl, Nat.le_of_ble_eq_true rfl⟩) hK hN hZ hP hD hS hA rfl rfl rfl rfl rfl rfl rfl rfl hl.1 rfl (lv_room (Nat.le_of_ble_eq_true rfl)) dX11_foretold_49 ⟨Nat.le_of_ble_eq_true rfl, Nat.le_of_ble_eq_true rfl⟩ (fun H locs hP hD hS => ?_)
              have hP : va_P D vwCl [(a_t, .inr (11, [.int (nI 0), .ref a_t_now, .ref a_t_kept, .int t_isKept, .ref a_t_text, .int t_length, .ref a_t_passing, .int t_at, .int t_fault, .int t_open, .int t_asked, .int t_byGun, .int t_prizeMost, .ref a_t_order, .ref a_t_times, .int t_listed])), (a_t_now, .inl (cI, 1562, .inl t_now))] H := hP
              have hD : va_D A [(a_t, .inr (11, [.int (nI 0), .ref a_t_now, .ref a_t_kept, .int t_isKept, .ref a_t_text, .int t_length, .ref a_t_passing, .int t_at, .int t_fault, .int t_open, .int t_asked, .int t_byGun, .int t_prizeMost, .ref a_t_order, .ref a_t_times, .int t_listed])), (a_t_now, .inl (cI, 1562, .inl t_now))] := hD
              refine lv_bipush (v := (nI 60)) hx hb dX11_foretold_52 rfl ?_
              refine lv_idiv hx hb dX11_foretold_54 (by decide) ?_
              refine lv_iload_n hx hb dX11_foretold_55 rfl (lv_at hl 4 rfl) ?_
              refine lv_icmp_ne (tgt := 63) hx hb dX11_foretold_56 (by decide) (fun c13 => ?_) (fun c13 => ?_)
              · have h := zz_f h c13
                refine lv_iconst (v := (nI 0)) hx hb dX11_foretold_63 rfl ?_
                refine lv_iadd hx hb dX11_foretold_64 ?_
                refine lv_istore_n (lv' := [(3, .int (v3_24 + (nI 0))), (4, .int v4_24), (0, .ref a_t), (1, .int x1), (2, .int x2)]) hx hb dX11_foretold_65 rfl hl (by decide) rfl (fun ls hl => ?_)
                refine lv_iinc (v := (v4_24 + (nI 1))) (lv' := [(4, .int (v4_24 + (nI 1))), (3, .int (v3_24 + (nI 0))), (0, .ref a_t), (1, .int x1), (2, .int x2)]) hx hb dX11_foretold_66 hl (k := 1) rfl rfl (by decide) rfl (fun ls hl => ?_)
                refine lv_goto (tgt := 24) hx hb dX11_foretold_69 (by decide) ?_
                exact ih24 (v3_24 + (nI 0)) (v4_24 + (nI 1)) _ _ _ h (hP.sub [0, 1] rfl) (hD.sub [0, 1] rfl rfl) hS (lv_sub hl [0, 1, 2, 3, 4] rfl)
              · have h := zz_t h c13
                refine lv_iconst (v := (nI 1)) hx hb dX11_foretold_59 rfl ?_
                refine lv_goto (tgt := 64) hx hb dX11_foretold_60 (by decide) ?_
                refine lv_iadd hx hb dX11_foretold_64 ?_
                refine lv_istore_n (lv' := [(3, .int (v3_24 + (nI 1))), (4, .int v4_24), (0, .ref a_t), (1, .int x1), (2, .int x2)]) hx hb dX11_foretold_65 rfl hl (by decide) rfl (fun ls hl => ?_)
                refine lv_iinc (v := (v4_24 + (nI 1))) (lv' := [(4, .int (v4_24 + (nI 1))), (3, .int (v3_24 + (nI 1))), (0, .ref a_t), (1, .int x1), (2, .int x2)]) hx hb dX11_foretold_66 hl (k := 1) rfl rfl (by decide) rfl (fun ls hl => ?_)
                refine lv_goto (tgt := 24) hx hb dX11_foretold_69 (by decide) ?_
                exact ih24 (v3_24 + (nI 1)) (v4_24 + (nI 1)) _ _ _ h (hP.sub [0, 1] rfl) (hD.sub [0, 1] rfl rfl) hS (lv_sub hl [0, 1, 2, 3, 4] rfl)
      exact L24 N (nI 0) (nI 0) _ _ _ h hP hD hS hl
    · have h := zz_f h c4
      refine lv_iconst (v := (-1 : Int32)) hx hb dX11_foretold_17 rfl ?_
      obtain ⟨j0_, g_⟩ := Prod.mk.inj (Option.some.inj h)
      have j1_ := g_
      subst j0_
      subst j1_
      exact W.iret (v := (-1 : Int32)) hx hb hr (fun t ht hW => ⟨⟨_, (), rfl, rfl, zPost.of hP hD hK ht hW [0, 1] rfl rfl rfl⟩, hS.F ht⟩) hS.2.2 dX11_foretold_18
/-! RunDeskModel.firstTight -/
theorem dX11_firstTight_0 : decode cX11_firstTight 0 = .ok (.iconst (-1), 1) := by decide +kernel
theorem dX11_firstTight_1 : decode cX11_firstTight 1 = .ok (.istore_n 2, 1) := by decide +kernel
theorem dX11_firstTight_2 : decode cX11_firstTight 2 = .ok (.iconst 0, 1) := by decide +kernel
theorem dX11_firstTight_3 : decode cX11_firstTight 3 = .ok (.istore_n 3, 1) := by decide +kernel
theorem dX11_firstTight_4 : decode cX11_firstTight 4 = .ok (.iload_n 3, 1) := by decide +kernel
theorem dX11_firstTight_5 : decode cX11_firstTight 5 = .ok (.aload_n 0, 1) := by decide +kernel
theorem dX11_firstTight_6 : decode cX11_firstTight 6 = .ok (.invokevirtual 45, 3) := by decide +kernel
theorem dX11_firstTight_9 : decode cX11_firstTight 9 = .ok (.if_icmp .ge 79, 3) := by decide +kernel
theorem dX11_firstTight_12 : decode cX11_firstTight 12 = .ok (.aload_n 0, 1) := by decide +kernel
theorem dX11_firstTight_13 : decode cX11_firstTight 13 = .ok (.iload_n 3, 1) := by decide +kernel
theorem dX11_firstTight_14 : decode cX11_firstTight 14 = .ok (.iload_n 1, 1) := by decide +kernel
theorem dX11_firstTight_15 : decode cX11_firstTight 15 = .ok (.invokevirtual 139, 3) := by decide +kernel
theorem dX11_firstTight_18 : decode cX11_firstTight 18 = .ok (.istore 4, 2) := by decide +kernel
theorem dX11_firstTight_20 : decode cX11_firstTight 20 = .ok (.iload 4, 2) := by decide +kernel
theorem dX11_firstTight_22 : decode cX11_firstTight 22 = .ok (.iconst (-1), 1) := by decide +kernel
theorem dX11_firstTight_23 : decode cX11_firstTight 23 = .ok (.if_icmp .ne 6, 3) := by decide +kernel
theorem dX11_firstTight_26 : decode cX11_firstTight 26 = .ok (.goto 56, 3) := by decide +kernel
theorem dX11_firstTight_29 : decode cX11_firstTight 29 = .ok (.aload_n 0, 1) := by decide +kernel
theorem dX11_firstTight_30 : decode cX11_firstTight 30 = .ok (.getfield 20, 3) := by decide +kernel
theorem dX11_firstTight_33 : decode cX11_firstTight 33 = .ok (.iload 4, 2) := by decide +kernel
theorem dX11_firstTight_35 : decode cX11_firstTight 35 = .ok (.bipush 60, 2) := by decide +kernel
theorem dX11_firstTight_37 : decode cX11_firstTight 37 = .ok (.idiv, 1) := by decide +kernel
theorem dX11_firstTight_38 : decode cX11_firstTight 38 = .ok (.dup2, 1) := by decide +kernel
theorem dX11_firstTight_39 : decode cX11_firstTight 39 = .ok (.iaload, 1) := by decide +kernel
theorem dX11_firstTight_40 : decode cX11_firstTight 40 = .ok (.iconst 1, 1) := by decide +kernel
theorem dX11_firstTight_41 : decode cX11_firstTight 41 = .ok (.iadd, 1) := by decide +kernel
theorem dX11_firstTight_42 : decode cX11_firstTight 42 = .ok (.iastore, 1) := by decide +kernel
theorem dX11_firstTight_43 : decode cX11_firstTight 43 = .ok (.aload_n 0, 1) := by decide +kernel
theorem dX11_firstTight_44 : decode cX11_firstTight 44 = .ok (.getfield 20, 3) := by decide +kernel
theorem dX11_firstTight_47 : decode cX11_firstTight 47 = .ok (.iload 4, 2) := by decide +kernel
theorem dX11_firstTight_49 : decode cX11_firstTight 49 = .ok (.bipush 60, 2) := by decide +kernel
theorem dX11_firstTight_51 : decode cX11_firstTight 51 = .ok (.idiv, 1) := by decide +kernel
theorem dX11_firstTight_52 : decode cX11_firstTight 52 = .ok (.iaload, 1) := by decide +kernel
theorem dX11_firstTight_53 : decode cX11_firstTight 53 = .ok (.aload_n 0, 1) := by decide +kernel
theorem dX11_firstTight_54 : decode cX11_firstTight 54 = .ok (.iload_n 1, 1) := by decide +kernel
theorem dX11_firstTight_55 : decode cX11_firstTight 55 = .ok (.iconst 1, 1) := by decide +kernel
theorem dX11_firstTight_56 : decode cX11_firstTight 56 = .ok (.invokevirtual 56, 3) := by decide +kernel
theorem dX11_firstTight_59 : decode cX11_firstTight 59 = .ok (.if_icmp .le 23, 3) := by decide +kernel
theorem dX11_firstTight_62 : decode cX11_firstTight 62 = .ok (.iload_n 2, 1) := by decide +kernel
theorem dX11_firstTight_63 : decode cX11_firstTight 63 = .ok (.iconst (-1), 1) := by decide +kernel
theorem dX11_firstTight_64 : decode cX11_firstTight 64 = .ok (.if_icmp .eq 12, 3) := by decide +kernel
theorem dX11_firstTight_67 : decode cX11_firstTight 67 = .ok (.iload 4, 2) := by decide +kernel
theorem dX11_firstTight_69 : decode cX11_firstTight 69 = .ok (.bipush 60, 2) := by decide +kernel
theorem dX11_firstTight_71 : decode cX11_firstTight 71 = .ok (.idiv, 1) := by decide +kernel
theorem dX11_firstTight_72 : decode cX11_firstTight 72 = .ok (.iload_n 2, 1) := by decide +kernel
theorem dX11_firstTight_73 : decode cX11_firstTight 73 = .ok (.if_icmp .ge 9, 3) := by decide +kernel
theorem dX11_firstTight_76 : decode cX11_firstTight 76 = .ok (.iload 4, 2) := by decide +kernel
theorem dX11_firstTight_78 : decode cX11_firstTight 78 = .ok (.bipush 60, 2) := by decide +kernel
theorem dX11_firstTight_80 : decode cX11_firstTight 80 = .ok (.idiv, 1) := by decide +kernel
theorem dX11_firstTight_81 : decode cX11_firstTight 81 = .ok (.istore_n 2, 1) := by decide +kernel
theorem dX11_firstTight_82 : decode cX11_firstTight 82 = .ok (.iinc 3 1, 3) := by decide +kernel
theorem dX11_firstTight_85 : decode cX11_firstTight 85 = .ok (.goto (-81), 3) := by decide +kernel
theorem dX11_firstTight_88 : decode cX11_firstTight 88 = .ok (.iconst 0, 1) := by decide +kernel
theorem dX11_firstTight_89 : decode cX11_firstTight 89 = .ok (.istore_n 3, 1) := by decide +kernel
theorem dX11_firstTight_90 : decode cX11_firstTight 90 = .ok (.iload_n 3, 1) := by decide +kernel
theorem dX11_firstTight_91 : decode cX11_firstTight 91 = .ok (.aload_n 0, 1) := by decide +kernel
theorem dX11_firstTight_92 : decode cX11_firstTight 92 = .ok (.invokevirtual 45, 3) := by decide +kernel
theorem dX11_firstTight_95 : decode cX11_firstTight 95 = .ok (.if_icmp .ge 34, 3) := by decide +kernel
theorem dX11_firstTight_98 : decode cX11_firstTight 98 = .ok (.aload_n 0, 1) := by decide +kernel
theorem dX11_firstTight_99 : decode cX11_firstTight 99 = .ok (.iload_n 3, 1) := by decide +kernel
theorem dX11_firstTight_100 : decode cX11_firstTight 100 = .ok (.iload_n 1, 1) := by decide +kernel
theorem dX11_firstTight_101 : decode cX11_firstTight 101 = .ok (.invokevirtual 139, 3) := by decide +kernel
theorem dX11_firstTight_104 : decode cX11_firstTight 104 = .ok (.iconst (-1), 1) := by decide +kernel
theorem dX11_firstTight_105 : decode cX11_firstTight 105 = .ok (.if_icmp .eq 18, 3) := by decide +kernel
theorem dX11_firstTight_108 : decode cX11_firstTight 108 = .ok (.aload_n 0, 1) := by decide +kernel
theorem dX11_firstTight_109 : decode cX11_firstTight 109 = .ok (.getfield 20, 3) := by decide +kernel
theorem dX11_firstTight_112 : decode cX11_firstTight 112 = .ok (.aload_n 0, 1) := by decide +kernel
theorem dX11_firstTight_113 : decode cX11_firstTight 113 = .ok (.iload_n 3, 1) := by decide +kernel
theorem dX11_firstTight_114 : decode cX11_firstTight 114 = .ok (.iload_n 1, 1) := by decide +kernel
theorem dX11_firstTight_115 : decode cX11_firstTight 115 = .ok (.invokevirtual 139, 3) := by decide +kernel
theorem dX11_firstTight_118 : decode cX11_firstTight 118 = .ok (.bipush 60, 2) := by decide +kernel
theorem dX11_firstTight_120 : decode cX11_firstTight 120 = .ok (.idiv, 1) := by decide +kernel
theorem dX11_firstTight_121 : decode cX11_firstTight 121 = .ok (.iconst 0, 1) := by decide +kernel
theorem dX11_firstTight_122 : decode cX11_firstTight 122 = .ok (.iastore, 1) := by decide +kernel
theorem dX11_firstTight_123 : decode cX11_firstTight 123 = .ok (.iinc 3 1, 3) := by decide +kernel
theorem dX11_firstTight_126 : decode cX11_firstTight 126 = .ok (.goto (-36), 3) := by decide +kernel
theorem dX11_firstTight_129 : decode cX11_firstTight 129 = .ok (.iload_n 2, 1) := by decide +kernel
theorem dX11_firstTight_130 : decode cX11_firstTight 130 = .ok (.ireturn, 1) := by decide +kernel
set_option maxRecDepth 20000 in
theorem ggX11_firstTight_X11_runners : GoodIn wsX11_firstTight wsX11_runners := goodIn_sub (List.forall_mem_cons.mpr ⟨List.mem_cons_of_mem _ (List.mem_append_left _ (List.mem_append_left _ (List.mem_of_getElem? (l := wsX11_firstTight_r1) (i := 5) rfl))), (List.forall_mem_append.mpr ⟨(List.forall_mem_cons.mpr ⟨List.mem_cons_of_mem _ (List.mem_append_left _ (List.mem_append_left _ (List.mem_of_getElem? (l := wsX11_firstTight_r1) (i := 6) rfl))), (fun _ h => nomatch h)⟩), (fun _ h => List.mem_cons_of_mem _ (List.mem_append_right _ (h)))⟩)⟩) (by decide +kernel)
set_option maxRecDepth 20000 in
theorem gX11_firstTight_X11_runners : GoodIn wsX11_firstTight (wsV RX11 45 RX11 yX11_runners wsX11_runners) := goodIn_app (goodIn_of _ (by decide +kernel)) ggX11_firstTight_X11_runners
set_option maxRecDepth 20000 in
theorem ggX11_firstTight_X11_passes : GoodIn wsX11_firstTight wsX11_passes := goodIn_sub (List.forall_mem_cons.mpr ⟨List.mem_cons_of_mem _ (List.mem_append_left _ (List.mem_append_left _ (List.mem_of_getElem? (l := wsX11_firstTight_r1) (i := 10) rfl))), (List.forall_mem_append.mpr ⟨(List.forall_mem_cons.mpr ⟨List.mem_cons_of_mem _ (List.mem_append_left _ (List.mem_append_left _ (List.mem_of_getElem? (l := wsX11_firstTight_r1) (i := 11) rfl))), (List.forall_mem_cons.mpr ⟨List.mem_cons_of_mem _ (List.mem_append_left _ (List.mem_append_left _ (List.mem_of_getElem? (l := wsX11_firstTight_r1) (i := 12) rfl))), (List.forall_mem_cons.mpr ⟨List.mem_cons_of_mem _ (List.mem_append_left _ (List.mem_append_left _ (List.mem_of_getElem? (l := wsX11_firstTight_r1) (i := 13) rfl))), (List.forall_mem_cons.mpr ⟨List.mem_cons_of_mem _ (List.mem_append_left _ (List.mem_append_left _ (List.mem_of_getElem? (l := wsX11_firstTight_r1) (i := 4) rfl))), (List.forall_mem_cons.mpr ⟨List.mem_cons_of_mem _ (List.mem_append_left _ (List.mem_append_left _ (List.mem_of_getElem? (l := wsX11_firstTight_r1) (i := 14) rfl))), (List.forall_mem_cons.mpr ⟨List.mem_cons_of_mem _ (List.mem_append_left _ (List.mem_append_left _ (List.mem_of_getElem? (l := wsX11_firstTight_r1) (i := 6) rfl))), (List.forall_mem_cons.mpr ⟨List.mem_cons_of_mem _ (List.mem_append_left _ (List.mem_append_left _ (List.mem_of_getElem? (l := wsX11_firstTight_r1) (i := 15) rfl))), (List.forall_mem_cons.mpr ⟨List.mem_cons_of_mem _ (List.mem_append_left _ (List.mem_append_left _ (List.mem_of_getElem? (l := wsX11_firstTight_r1) (i := 16) rfl))), (List.forall_mem_cons.mpr ⟨List.mem_cons_of_mem _ (List.mem_append_left _ (List.mem_append_left _ (List.mem_of_getElem? (l := wsX11_firstTight_r1) (i := 17) rfl))), (List.forall_mem_cons.mpr ⟨List.mem_cons_of_mem _ (List.mem_append_left _ (List.mem_append_left _ (List.mem_of_getElem? (l := wsX11_firstTight_r1) (i := 18) rfl))), (List.forall_mem_cons.mpr ⟨List.mem_cons_of_mem _ (List.mem_append_left _ (List.mem_append_left _ (List.mem_of_getElem? (l := wsX11_firstTight_r1) (i := 19) rfl))), (List.forall_mem_cons.mpr ⟨List.mem_cons_of_mem _ (List.mem_append_left _ (List.mem_append_left _ (List.mem_of_getElem? (l := wsX11_firstTight_r1) (i := 20) rfl))), (List.forall_mem_cons.mpr ⟨List.mem_cons_of_mem _ (List.mem_append_left _ (List.mem_append_left _ (List.mem_of_getElem? (l := wsX11_firstTight_r1) (i := 21) rfl))), (List.forall_mem_cons.mpr ⟨List.mem_cons_of_mem _ (List.mem_append_left _ (List.mem_append_left _ (List.mem_of_getElem? (l := wsX11_firstTight_r1) (i := 22) rfl))), (List.forall_mem_cons.mpr ⟨List.mem_cons_of_mem _ (List.mem_append_left _ (List.mem_append_left _ (List.mem_of_getElem? (l := wsX11_firstTight_r1) (i := 23) rfl))), (List.forall_mem_cons.mpr ⟨List.mem_cons_of_mem _ (List.mem_append_left _ (List.mem_append_right _ (List.mem_of_getElem? (l := wsX11_firstTight_r2) (i := 0) rfl))), (List.forall_mem_cons.mpr ⟨List.mem_cons_of_mem _ (List.mem_append_left _ (List.mem_append_right _ (List.mem_of_getElem? (l := wsX11_firstTight_r2) (i := 1) rfl))), (List.forall_mem_cons.mpr ⟨List.mem_cons_of_mem _ (List.mem_append_left _ (List.mem_append_right _ (List.mem_of_getElem? (l := wsX11_firstTight_r2) (i := 2) rfl))), (fun _ h => nomatch h)⟩)⟩)⟩)⟩)⟩)⟩)⟩)⟩)⟩)⟩)⟩)⟩)⟩)⟩)⟩)⟩)⟩)⟩), (fun _ h => List.mem_cons_of_mem _ (List.mem_append_right _ (h)))⟩)⟩) (by decide +kernel)
set_option maxRecDepth 20000 in
theorem gX11_firstTight_X11_passes : GoodIn wsX11_firstTight (wsV RX11 139 RX11 yX11_passes wsX11_passes) := goodIn_app (goodIn_of _ (by decide +kernel)) ggX11_firstTight_X11_passes
set_option maxRecDepth 20000 in
theorem ggX11_firstTight_X11_ofMat : GoodIn wsX11_firstTight wsX11_ofMat := goodIn_sub (List.forall_mem_cons.mpr ⟨List.mem_cons_of_mem _ (List.mem_append_left _ (List.mem_append_left _ (List.mem_of_getElem? (l := wsX11_firstTight_r1) (i := 22) rfl))), (List.forall_mem_append.mpr ⟨(List.forall_mem_cons.mpr ⟨List.mem_cons_of_mem _ (List.mem_append_left _ (List.mem_append_left _ (List.mem_of_getElem? (l := wsX11_firstTight_r1) (i := 6) rfl))), (fun _ h => nomatch h)⟩), (fun _ h => List.mem_cons_of_mem _ (List.mem_append_right _ (h)))⟩)⟩) (by decide +kernel)
set_option maxRecDepth 20000 in
theorem gX11_firstTight_X11_ofMat : GoodIn wsX11_firstTight (wsV RX11 56 RX11 yX11_ofMat wsX11_ofMat) := goodIn_app (goodIn_of _ (by decide +kernel)) ggX11_firstTight_X11_ofMat
theorem kX11_firstTight_0 : (.fieldLink RX11 20 "RunDeskModel" "passing" "[I" : Cond) ∈ wsX11_firstTight := List.mem_of_getElem? (i := 1) (by decide +kernel)
theorem qX11_firstTight_X11 : ∀ w ∈ wsX110, w ∈ wsX11_firstTight := fun _ h => List.mem_cons_of_mem _ (List.mem_append_right _ (h))
set_option maxHeartbeats 4000000 in
set_option maxRecDepth 100000 in
theorem mX11_firstTight (l : Launch) (D : va_G) (cB cI cZ : ClassId) (a_t : Nat) (a_t_now : Nat) (a_t_kept : Nat) (a_t_text : Nat) (a_t_passing : Nat) (a_t_order : Nat) (a_t_times : Nat) (t_thrown : Int32) (t_isKept : Int32) (t_length : Int32) (t_at : Int32) (t_fault : Int32) (t_open : Int32) (t_asked : Int32) (t_byGun : Int32) (t_prizeMost : Int32) (t_listed : Int32) (t_now : Nat → Int32) (t_passing : Nat → Int32) (sz : Nat) (x1 : Int32) (N : Nat) (r0 : Int32) (t_passing' : Nat → Int32) (h : fX11_firstTight N t_now t_passing x1 = some (r0, t_passing')) : Met l yX11_firstTight wsX11_firstTight ({ frames := 2, cells := 0, slots := 0, locals := 45 } : Room) (va_Pc [.ref a_t, .int x1] (zPre D (zT cB cI cZ) [(a_t, .inr (11, [.int t_thrown, .ref a_t_now, .ref a_t_kept, .int t_isKept, .ref a_t_text, .int t_length, .ref a_t_passing, .int t_at, .int t_fault, .int t_open, .int t_asked, .int t_byGun, .int t_prizeMost, .ref a_t_order, .ref a_t_times, .int t_listed])), (a_t_now, .inl (cI, 1562, .inl t_now)), (a_t_passing, .inl (cI, 5000, .inl t_passing))] sz)) (zQi r0 D (zT cB cI cZ) [(a_t, .inr (11, [.int t_thrown, .ref a_t_now, .ref a_t_kept, .int t_isKept, .ref a_t_text, .int t_length, .ref a_t_passing, .int t_at, .int t_fault, .int t_open, .int t_asked, .int t_byGun, .int t_prizeMost, .ref a_t_order, .ref a_t_times, .int t_listed])), (a_t_now, .inl (cI, 1562, .inl t_now)), (a_t_passing, .inl (cI, 5000, .inl t_passing'))] (va_A [(a_t, .inr (11, [.int t_thrown, .ref a_t_now, .ref a_t_kept, .int t_isKept, .ref a_t_text, .int t_length, .ref a_t_passing, .int t_at, .int t_fault, .int t_open, .int t_asked, .int t_byGun, .int t_prizeMost, .ref a_t_order, .ref a_t_times, .int t_listed])), (a_t_now, .inl (cI, 1562, .inl t_now)), (a_t_passing, .inl (cI, 5000, .inl t_passing))] sz)) 0 0 (va_A [(a_t, .inr (11, [.int t_thrown, .ref a_t_now, .ref a_t_kept, .int t_isKept, .ref a_t_text, .int t_length, .ref a_t_passing, .int t_at, .int t_fault, .int t_open, .int t_asked, .int t_byGun, .int t_prizeMost, .ref a_t_order, .ref a_t_times, .int t_listed])), (a_t_now, .inl (cI, 1562, .inl t_now)), (a_t_passing, .inl (cI, 5000, .inl t_passing))] sz) := by
  refine Met.ofW (cc := cX11_firstTight) (maxL := 5) (ret := (some .int)) (by decide) rfl ?_
  intro p e s m args below meth c s₁ B hml hv
  obtain ⟨rfl, hsz, hP, hK, hN, hZ, hD0⟩ := hv
  have hx := B.exec
  have hb := B.bytes
  have hr := B.returns
  have hts := atoms_spec (ws := wsX11_firstTight) B.pre
  have hown : s.vm.findClass RX11 = some m.cls := findClass_of_methodNamed B.named
  have hlocks := B.notSynchronized
  subst hsz
  have hD := hD0.self (sz := s.heap.size)
  generalize hAe : va_A [(a_t, .inr (11, [.int t_thrown, .ref a_t_now, .ref a_t_kept, .int t_isKept, .ref a_t_text, .int t_length, .ref a_t_passing, .int t_at, .int t_fault, .int t_open, .int t_asked, .int t_byGun, .int t_prizeMost, .ref a_t_order, .ref a_t_times, .int t_listed])), (a_t_now, .inl (cI, 1562, .inl t_now)), (a_t_passing, .inl (cI, 5000, .inl t_passing))] s.heap.size = A at hD hZ ⊢
  have hA : ∀ q : Nat, s.heap.size ≤ q → A q := fun q h => by rw [← hAe]; exact Or.inr h
  have hS : va_S A s.heap s.heap [] := va_S.rf
  have hl := lv_entry ([.ref a_t, .int x1]) (n := 5) (Nat.le_of_ble_eq_true rfl)
  rw [lg_entry_eq]
  generalize (lg_sl ([.ref a_t, .int x1]) ++ List.replicate (5 - (lg_sl ([.ref a_t, .int x1])).length) Slot.unset).toArray = ls at hl ⊢
  have hl : lv_has ls 5 [(0, .ref a_t), (1, .int x1)] := hl
  unfold fX11_firstTight at h
  refine lv_iconst (v := (-1 : Int32)) hx hb dX11_firstTight_0 rfl ?_
  refine lv_istore_n (lv' := [(2, .int (-1 : Int32)), (0, .ref a_t), (1, .int x1)]) hx hb dX11_firstTight_1 rfl hl (by decide) rfl (fun ls hl => ?_)
  refine lv_iconst (v := (nI 0)) hx hb dX11_firstTight_2 rfl ?_
  refine lv_istore_n (lv' := [(3, .int (nI 0)), (2, .int (-1 : Int32)), (0, .ref a_t), (1, .int x1)]) hx hb dX11_firstTight_3 rfl hl (by decide) rfl (fun ls hl => ?_)
  have X4_88 : ∀ (v2_4 : Int32) (v3_4 : Int32) (t_passing_l4 : Nat → Int32) (H : Heap) (locs : List Loc) (ls : Array Slot), fX11_firstTight_L90 t_now x1 (fun (v3_90 : Int32) (t_passing_l90 : Nat → Int32) => some (v2_4, t_passing_l90)) N (nI 0) t_passing_l4 = some (r0, t_passing') → va_P D vwCl [(a_t, .inr (11, [.int t_thrown, .ref a_t_now, .ref a_t_kept, .int t_isKept, .ref a_t_text, .int t_length, .ref a_t_passing, .int t_at, .int t_fault, .int t_open, .int t_asked, .int t_byGun, .int t_prizeMost, .ref a_t_order, .ref a_t_times, .int t_listed])), (a_t_now, .inl (cI, 1562, .inl t_now)), (a_t_passing, .inl (cI, 5000, .inl t_passing_l4))] H → va_D A [(a_t, .inr (11, [.int t_thrown, .ref a_t_now, .ref a_t_kept, .int t_isKept, .ref a_t_text, .int t_length, .ref a_t_passing, .int t_at, .int t_fault, .int t_open, .int t_asked, .int t_byGun, .int t_prizeMost, .ref a_t_order, .ref a_t_times, .int t_listed])), (a_t_now, .inl (cI, 1562, .inl t_now)), (a_t_passing, .inl (cI, 5000, .inl t_passing_l4))] → va_S A s.heap H locs → lv_has ls 5 [(3, .int v3_4), (2, .int v2_4), (0, .ref a_t), (1, .int x1)] → W p l e (headSpec wsX11_firstTight ({ frames := 2, cells := 0, slots := 0, locals := 45 } : Room)).room s m #[Value.ref a_t, Value.int x1] below meth c H locs 0 0 (MQ below (zQi r0 D (zT cB cI cZ) [(a_t, .inr (11, [.int t_thrown, .ref a_t_now, .ref a_t_kept, .int t_isKept, .ref a_t_text, .int t_length, .ref a_t_passing, .int t_at, .int t_fault, .int t_open, .int t_asked, .int t_byGun, .int t_prizeMost, .ref a_t_order, .ref a_t_times, .int t_listed])), (a_t_now, .inl (cI, 1562, .inl t_now)), (a_t_passing, .inl (cI, 5000, .inl t_passing'))] A) #[Value.ref a_t, Value.int x1] s 0 0 A) (F0 m 88 ls []) := by
    intro v2_4 v3_4 t_passing_l4 H locs ls h hP hD hS hl
    refine lv_iconst (v := (nI 0)) hx hb dX11_firstTight_88 rfl ?_
    refine lv_istore_n (lv' := [(3, .int (nI 0)), (2, .int v2_4), (0, .ref a_t), (1, .int x1)]) hx hb dX11_firstTight_89 rfl hl (by decide) rfl (fun ls hl => ?_)
    have X90_129 : ∀ (v3_90 : Int32) (t_passing_l90 : Nat → Int32) (H : Heap) (locs : List Loc) (ls : Array Slot), some (v2_4, t_passing_l90) = some (r0, t_passing') → va_P D vwCl [(a_t, .inr (11, [.int t_thrown, .ref a_t_now, .ref a_t_kept, .int t_isKept, .ref a_t_text, .int t_length, .ref a_t_passing, .int t_at, .int t_fault, .int t_open, .int t_asked, .int t_byGun, .int t_prizeMost, .ref a_t_order, .ref a_t_times, .int t_listed])), (a_t_now, .inl (cI, 1562, .inl t_now)), (a_t_passing, .inl (cI, 5000, .inl t_passing_l90))] H → va_D A [(a_t, .inr (11, [.int t_thrown, .ref a_t_now, .ref a_t_kept, .int t_isKept, .ref a_t_text, .int t_length, .ref a_t_passing, .int t_at, .int t_fault, .int t_open, .int t_asked, .int t_byGun, .int t_prizeMost, .ref a_t_order, .ref a_t_times, .int t_listed])), (a_t_now, .inl (cI, 1562, .inl t_now)), (a_t_passing, .inl (cI, 5000, .inl t_passing_l90))] → va_S A s.heap H locs → lv_has ls 5 [(3, .int v3_90), (2, .int v2_4), (0, .ref a_t), (1, .int x1)] → W p l e (headSpec wsX11_firstTight ({ frames := 2, cells := 0, slots := 0, locals := 45 } : Room)).room s m #[Value.ref a_t, Value.int x1] below meth c H locs 0 0 (MQ below (zQi r0 D (zT cB cI cZ) [(a_t, .inr (11, [.int t_thrown, .ref a_t_now, .ref a_t_kept, .int t_isKept, .ref a_t_text, .int t_length, .ref a_t_passing, .int t_at, .int t_fault, .int t_open, .int t_asked, .int t_byGun, .int t_prizeMost, .ref a_t_order, .ref a_t_times, .int t_listed])), (a_t_now, .inl (cI, 1562, .inl t_now)), (a_t_passing, .inl (cI, 5000, .inl t_passing'))] A) #[Value.ref a_t, Value.int x1] s 0 0 A) (F0 m 129 ls []) := by
      intro v3_90 t_passing_l90 H locs ls h hP hD hS hl
      refine lv_iload_n hx hb dX11_firstTight_129 rfl (lv_at hl 1 rfl) ?_
      obtain ⟨j0_, g_⟩ := Prod.mk.inj (Option.some.inj h)
      have j1_ := g_
      subst j0_
      subst j1_
      exact W.iret (v := v2_4) hx hb hr (fun t ht hW => ⟨⟨_, (), rfl, rfl, zPost.of hP hD hK ht hW [0, 1, 2] rfl rfl rfl⟩, hS.F ht⟩) hS.2.2 dX11_firstTight_130
    have L90 : ∀ (n : Nat) (v3_90 : Int32) (t_passing_l90 : Nat → Int32) (H : Heap) (locs : List Loc) (ls : Array Slot), fX11_firstTight_L90 t_now x1 (fun (v3_90 : Int32) (t_passing_l90 : Nat → Int32) => some (v2_4, t_passing_l90)) n v3_90 t_passing_l90 = some (r0, t_passing') → va_P D vwCl [(a_t, .inr (11, [.int t_thrown, .ref a_t_now, .ref a_t_kept, .int t_isKept, .ref a_t_text, .int t_length, .ref a_t_passing, .int t_at, .int t_fault, .int t_open, .int t_asked, .int t_byGun, .int t_prizeMost, .ref a_t_order, .ref a_t_times, .int t_listed])), (a_t_now, .inl (cI, 1562, .inl t_now)), (a_t_passing, .inl (cI, 5000, .inl t_passing_l90))] H → va_D A [(a_t, .inr (11, [.int t_thrown, .ref a_t_now, .ref a_t_kept, .int t_isKept, .ref a_t_text, .int t_length, .ref a_t_passing, .int t_at, .int t_fault, .int t_open, .int t_asked, .int t_byGun, .int t_prizeMost, .ref a_t_order, .ref a_t_times, .int t_listed])), (a_t_now, .inl (cI, 1562, .inl t_now)), (a_t_passing, .inl (cI, 5000, .inl t_passing_l90))] → va_S A s.heap H locs → lv_has ls 5 [(3, .int v3_90), (2, .int v2_4), (0, .ref a_t), (1, .int x1)] → W p l e (headSpec wsX11_firstTight ({ frames := 2, cells := 0, slots := 0, locals := 45 } : Room)).room s m #[Value.ref a_t, Value.int x1] below meth c H locs 0 0 (MQ below (zQi r0 D (zT cB cI cZ) [(a_t, .inr (11, [.int t_thrown, .ref a_t_now, .ref a_t_kept, .int t_isKept, .ref a_t_text, .int t_length, .ref a_t_passing, .int t_at, .int t_fault, .int t_open, .int t_asked, .int t_byGun, .int t_prizeMost, .ref a_t_order, .ref a_t_times, .int t_listed])), (a_t_now, .inl (cI, 1562, .inl t_now)), (a_t_passing, .inl (cI, 5000, .inl t_passing'))] A) #[Value.ref a_t, Value.int x1] s 0 0 A) (F0 m 90 ls []) := by
      intro n
      induction n with
      | zero => intro _ _ H locs ls h hP hD hS hl; cases h
      | succ n90 ih90 =>
        intro v3_90 t_passing_l90 H locs ls h hP hD hS hl
        rw [fX11_firstTight_L90.eq_2] at h
        refine lv_iload_n hx hb dX11_firstTight_90 rfl (lv_at hl 0 rfl) ?_
        refine lv_aload_n hx hb dX11_firstTight_91 rfl (lv_at hl 2 rfl) ?_
        obtain ⟨r1, e2, h⟩ := zz_b h
        refine zVi (As := []) (rest := [.int v3_90]) (C := RX11) (wr := [(a_t_passing, .inl (cI, 5000, .inl t_passing_l90))]) [0, 1] [2] 0 ⟨hx, hb, hml, hown, hts⟩ (mX11_runners l D cB cI cZ a_t a_t_now a_t_kept a_t_text a_t_passing a_t_order a_t_times t_thrown t_isKept t_length t_at t_fault t_open t_asked t_byGun t_prizeMost t_listed t_now H.size r1 e2) (cwV 0 hts gX11_firstTight_X11_runners rfl rfl rfl (by decide +kernel) ⟨Nat.le_of_ble_eq_true rfl, Nat.le_of_ble_eq_true rfl⟩) hK hN hZ hP hD hS hA rfl rfl rfl rfl rfl rfl rfl rfl hl.1 rfl (lv_room (Nat.le_of_ble_eq_true rfl)) dX11_firstTight_92 ⟨Nat.le_of_ble_eq_true rfl, Nat.le_of_ble_eq_true rfl⟩ (fun H locs hP hD hS => ?_)
        have hP : va_P D vwCl [(a_t_passing, .inl (cI, 5000, .inl t_passing_l90)), (a_t, .inr (11, [.int t_thrown, .ref a_t_now, .ref a_t_kept, .int t_isKept, .ref a_t_text, .int t_length, .ref a_t_passing, .int t_at, .int t_fault, .int t_open, .int t_asked, .int t_byGun, .int t_prizeMost, .ref a_t_order, .ref a_t_times, .int t_listed])), (a_t_now, .inl (cI, 1562, .inl t_now))] H := hP
        have hD : va_D A [(a_t_passing, .inl (cI, 5000, .inl t_passing_l90)), (a_t, .inr (11, [.int t_thrown, .ref a_t_now, .ref a_t_kept, .int t_isKept, .ref a_t_text, .int t_length, .ref a_t_passing, .int t_at, .int t_fault, .int t_open, .int t_asked, .int t_byGun, .int t_prizeMost, .ref a_t_order, .ref a_t_times, .int t_listed])), (a_t_now, .inl (cI, 1562, .inl t_now))] := hD
        refine lv_icmp_ge (tgt := 129) hx hb dX11_firstTight_95 (by decide) (fun c3 => ?_) (fun c3 => ?_)
        · have h := zz_t h c3
          exact X90_129 v3_90 t_passing_l90 _ _ _ h (hP.sub [1, 2, 0] rfl) (hD.sub [1, 2, 0] rfl rfl) hS (lv_sub hl [0, 1, 2, 3] rfl)
        · have h := zz_f h c3
          refine lv_aload_n hx hb dX11_firstTight_98 rfl (lv_at hl 2 rfl) ?_
          refine lv_iload_n hx hb dX11_firstTight_99 rfl (lv_at hl 0 rfl) ?_
          refine lv_iload_n hx hb dX11_firstTight_100 rfl (lv_at hl 3 rfl) ?_
          obtain ⟨r4, e5, h⟩ := zz_b h
          refine zVi (As := [.int v3_90, .int x1]) (rest := []) (C := RX11) (wr := [(a_t_passing, .inl (cI, 5000, .inl t_passing_l90))]) [1, 2] [0] 0 ⟨hx, hb, hml, hown, hts⟩ (mX11_passes l D cB cI cZ a_t a_t_now a_t_kept a_t_text a_t_passing a_t_order a_t_times t_thrown t_isKept t_length t_at t_fault t_open t_asked t_byGun t_prizeMost t_listed t_now H.size v3_90 x1 r4 e5) (cwV 2 hts gX11_firstTight_X11_passes rfl rfl rfl (by decide +kernel) ⟨Nat.le_of_ble_eq_true rfl, Nat.le_of_ble_eq_true rfl⟩) hK hN hZ hP hD hS hA rfl rfl rfl rfl rfl rfl rfl rfl hl.1 rfl (lv_room (Nat.le_of_ble_eq_true rfl)) dX11_firstTight_101 ⟨Nat.le_of_ble_eq_true rfl, Nat.le_of_ble_eq_true rfl⟩ (fun H locs hP hD hS => ?_)
          have hP : va_P D vwCl [(a_t_passing, .inl (cI, 5000, .inl t_passing_l90)), (a_t, .inr (11, [.int t_thrown, .ref a_t_now, .ref a_t_kept, .int t_isKept, .ref a_t_text, .int t_length, .ref a_t_passing, .int t_at, .int t_fault, .int t_open, .int t_asked, .int t_byGun, .int t_prizeMost, .ref a_t_order, .ref a_t_times, .int t_listed])), (a_t_now, .inl (cI, 1562, .inl t_now))] H := hP
          have hD : va_D A [(a_t_passing, .inl (cI, 5000, .inl t_passing_l90)), (a_t, .inr (11, [.int t_thrown, .ref a_t_now, .ref a_t_kept, .int t_isKept, .ref a_t_text, .int t_length, .ref a_t_passing, .int t_at, .int t_fault, .int t_open, .int t_asked, .int t_byGun, .int t_prizeMost, .ref a_t_order, .ref a_t_times, .int t_listed])), (a_t_now, .inl (cI, 1562, .inl t_now))] := hD
          refine lv_iconst (v := (-1 : Int32)) hx hb dX11_firstTight_104 rfl ?_
          refine lv_icmp_eq (tgt := 123) hx hb dX11_firstTight_105 (by decide) (fun c6 => ?_) (fun c6 => ?_)
          · have h := zz_t h c6
            refine lv_iinc (v := (v3_90 + (nI 1))) (lv' := [(3, .int (v3_90 + (nI 1))), (2, .int v2_4), (0, .ref a_t), (1, .int x1)]) hx hb dX11_firstTight_123 hl (k := 0) rfl rfl (by decide) rfl (fun ls hl => ?_)
            refine lv_goto (tgt := 90) hx hb dX11_firstTight_126 (by decide) ?_
            exact ih90 (v3_90 + (nI 1)) t_passing_l90 _ _ _ h (hP.sub [1, 2, 0] rfl) (hD.sub [1, 2, 0] rfl rfl) hS (lv_sub hl [0, 1, 2, 3] rfl)
          · have h := zz_f h c6
            refine lv_aload_n hx hb dX11_firstTight_108 rfl (lv_at hl 2 rfl) ?_
            refine va_get (D := D) (ci := 11) (C := RX11) (T := TX11) (N := 16) hx hb hts qX11_firstTight_X11 hown hK hP 1 rfl rfl 6 (by decide) (hts _ kX11_firstTight_0) (fun _ h9 => h9) rfl dX11_firstTight_109 ?_
            refine lv_aload_n hx hb dX11_firstTight_112 rfl (lv_at hl 2 rfl) ?_
            refine lv_iload_n hx hb dX11_firstTight_113 rfl (lv_at hl 0 rfl) ?_
            refine lv_iload_n hx hb dX11_firstTight_114 rfl (lv_at hl 3 rfl) ?_
            obtain ⟨r7, e8, h⟩ := zz_b h
            refine zVi (As := [.int v3_90, .int x1]) (rest := [.ref a_t_passing]) (C := RX11) (wr := [(a_t_passing, .inl (cI, 5000, .inl t_passing_l90))]) [1, 2] [0] 0 ⟨hx, hb, hml, hown, hts⟩ (mX11_passes l D cB cI cZ a_t a_t_now a_t_kept a_t_text a_t_passing a_t_order a_t_times t_thrown t_isKept t_length t_at t_fault t_open t_asked t_byGun t_prizeMost t_listed t_now H.size v3_90 x1 r7 e8) (cwV 2 hts gX11_firstTight_X11_passes rfl rfl rfl (by decide +kernel) ⟨Nat.le_of_ble_eq_true rfl, Nat.le_of_ble_eq_true rfl⟩) hK hN hZ hP hD hS hA rfl rfl rfl rfl rfl rfl rfl rfl hl.1 rfl (lv_room (Nat.le_of_ble_eq_true rfl)) dX11_firstTight_115 ⟨Nat.le_of_ble_eq_true rfl, Nat.le_of_ble_eq_true rfl⟩ (fun H locs hP hD hS => ?_)
            have hP : va_P D vwCl [(a_t_passing, .inl (cI, 5000, .inl t_passing_l90)), (a_t, .inr (11, [.int t_thrown, .ref a_t_now, .ref a_t_kept, .int t_isKept, .ref a_t_text, .int t_length, .ref a_t_passing, .int t_at, .int t_fault, .int t_open, .int t_asked, .int t_byGun, .int t_prizeMost, .ref a_t_order, .ref a_t_times, .int t_listed])), (a_t_now, .inl (cI, 1562, .inl t_now))] H := hP
            have hD : va_D A [(a_t_passing, .inl (cI, 5000, .inl t_passing_l90)), (a_t, .inr (11, [.int t_thrown, .ref a_t_now, .ref a_t_kept, .int t_isKept, .ref a_t_text, .int t_length, .ref a_t_passing, .int t_at, .int t_fault, .int t_open, .int t_asked, .int t_byGun, .int t_prizeMost, .ref a_t_order, .ref a_t_times, .int t_listed])), (a_t_now, .inl (cI, 1562, .inl t_now))] := hD
            refine lv_bipush (v := (nI 60)) hx hb dX11_firstTight_118 rfl ?_
            refine lv_idiv hx hb dX11_firstTight_120 (by decide) ?_
            refine lv_iconst (v := (nI 0)) hx hb dX11_firstTight_121 rfl ?_
            obtain ⟨i9, h⟩ := zz_i h
            refine va_iast hx hb hK hP hD hS 0 1 rfl rfl i9 dX11_firstTight_122 (fun H locs hP hD hS => ?_)
            have hP : va_P D vwCl [(a_t_passing, .inl (cI, 5000, .inl (upd t_passing_l90 ((r7 / (nI 60))).toNatClampNeg (nI 0)))), (a_t, .inr (11, [.int t_thrown, .ref a_t_now, .ref a_t_kept, .int t_isKept, .ref a_t_text, .int t_length, .ref a_t_passing, .int t_at, .int t_fault, .int t_open, .int t_asked, .int t_byGun, .int t_prizeMost, .ref a_t_order, .ref a_t_times, .int t_listed])), (a_t_now, .inl (cI, 1562, .inl t_now))] H := hP
            have hD : va_D A [(a_t_passing, .inl (cI, 5000, .inl (upd t_passing_l90 ((r7 / (nI 60))).toNatClampNeg (nI 0)))), (a_t, .inr (11, [.int t_thrown, .ref a_t_now, .ref a_t_kept, .int t_isKept, .ref a_t_text, .int t_length, .ref a_t_passing, .int t_at, .int t_fault, .int t_open, .int t_asked, .int t_byGun, .int t_prizeMost, .ref a_t_order, .ref a_t_times, .int t_listed])), (a_t_now, .inl (cI, 1562, .inl t_now))] := hD
            refine lv_iinc (v := (v3_90 + (nI 1))) (lv' := [(3, .int (v3_90 + (nI 1))), (2, .int v2_4), (0, .ref a_t), (1, .int x1)]) hx hb dX11_firstTight_123 hl (k := 0) rfl rfl (by decide) rfl (fun ls hl => ?_)
            refine lv_goto (tgt := 90) hx hb dX11_firstTight_126 (by decide) ?_
            exact ih90 (v3_90 + (nI 1)) (upd t_passing_l90 ((r7 / (nI 60))).toNatClampNeg (nI 0)) _ _ _ h (hP.sub [1, 2, 0] rfl) (hD.sub [1, 2, 0] rfl rfl) hS (lv_sub hl [0, 1, 2, 3] rfl)
    exact L90 N (nI 0) t_passing_l4 _ _ _ h hP hD hS hl
  have L4 : ∀ (n : Nat) (v2_4 : Int32) (v3_4 : Int32) (t_passing_l4 : Nat → Int32) (H : Heap) (locs : List Loc) (ls : Array Slot), fX11_firstTight_L4 t_now x1 (fun (v2_4 : Int32) (v3_4 : Int32) (t_passing_l4 : Nat → Int32) => fX11_firstTight_L90 t_now x1 (fun (v3_90 : Int32) (t_passing_l90 : Nat → Int32) => some (v2_4, t_passing_l90)) N (nI 0) t_passing_l4) n v2_4 v3_4 t_passing_l4 = some (r0, t_passing') → va_P D vwCl [(a_t, .inr (11, [.int t_thrown, .ref a_t_now, .ref a_t_kept, .int t_isKept, .ref a_t_text, .int t_length, .ref a_t_passing, .int t_at, .int t_fault, .int t_open, .int t_asked, .int t_byGun, .int t_prizeMost, .ref a_t_order, .ref a_t_times, .int t_listed])), (a_t_now, .inl (cI, 1562, .inl t_now)), (a_t_passing, .inl (cI, 5000, .inl t_passing_l4))] H → va_D A [(a_t, .inr (11, [.int t_thrown, .ref a_t_now, .ref a_t_kept, .int t_isKept, .ref a_t_text, .int t_length, .ref a_t_passing, .int t_at, .int t_fault, .int t_open, .int t_asked, .int t_byGun, .int t_prizeMost, .ref a_t_order, .ref a_t_times, .int t_listed])), (a_t_now, .inl (cI, 1562, .inl t_now)), (a_t_passing, .inl (cI, 5000, .inl t_passing_l4))] → va_S A s.heap H locs → lv_has ls 5 [(3, .int v3_4), (2, .int v2_4), (0, .ref a_t), (1, .int x1)] → W p l e (headSpec wsX11_firstTight ({ frames := 2, cells := 0, slots := 0, locals := 45 } : Room)).room s m #[Value.ref a_t, Value.int x1] below meth c H locs 0 0 (MQ below (zQi r0 D (zT cB cI cZ) [(a_t, .inr (11, [.int t_thrown, .ref a_t_now, .ref a_t_kept, .int t_isKept, .ref a_t_text, .int t_length, .ref a_t_passing, .int t_at, .int t_fault, .int t_open, .int t_asked, .int t_byGun, .int t_prizeMost, .ref a_t_order, .ref a_t_times, .int t_listed])), (a_t_now, .inl (cI, 1562, .inl t_now)), (a_t_passing, .inl (cI, 5000, .inl t_passing'))] A) #[Value.ref a_t, Value.int x1] s 0 0 A) (F0 m 4 ls []) := by
    intro n
    induction n with
    | zero => intro _ _ _ H locs ls h hP hD hS hl; cases h
    | succ n4 ih4 =>
      intro v2_4 v3_4 t_passing_l4 H locs ls h hP hD hS hl
      rw [fX11_firstTight_L4.eq_2] at h
      refine lv_iload_n hx hb dX11_firstTight_4 rfl (lv_at hl 0 rfl) ?_
      refine lv_aload_n hx hb dX11_firstTight_5 rfl (lv_at hl 2 rfl) ?_
      obtain ⟨r10, e11, h⟩ := zz_b h
      refine zVi (As := []) (rest := [.int v3_4]) (C := RX11) (wr := [(a_t_passing, .inl (cI, 5000, .inl t_passing_l4))]) [0, 1] [2] 0 ⟨hx, hb, hml, hown, hts⟩ (mX11_runners l D cB cI cZ a_t a_t_now a_t_kept a_t_text a_t_passing a_t_order a_t_times t_thrown t_isKept t_length t_at t_fault t_open t_asked t_byGun t_prizeMost t_listed t_now H.size r10 e11) (cwV 0 hts gX11_firstTight_X11_runners rfl rfl rfl (by decide +kernel) ⟨Nat.le_of_ble_eq_true rfl, Nat.le_of_ble_eq_true rfl⟩) hK hN hZ hP hD hS hA rfl rfl rfl rfl rfl rfl rfl rfl hl.1 rfl (lv_room (Nat.le_of_ble_eq_true rfl)) dX11_firstTight_6 ⟨Nat.le_of_ble_eq_true rfl, Nat.le_of_ble_eq_true rfl⟩ (fun H locs hP hD hS => ?_)
      have hP : va_P D vwCl [(a_t_passing, .inl (cI, 5000, .inl t_passing_l4)), (a_t, .inr (11, [.int t_thrown, .ref a_t_now, .ref a_t_kept, .int t_isKept, .ref a_t_text, .int t_length, .ref a_t_passing, .int t_at, .int t_fault, .int t_open, .int t_asked, .int t_byGun, .int t_prizeMost, .ref a_t_order, .ref a_t_times, .int t_listed])), (a_t_now, .inl (cI, 1562, .inl t_now))] H := hP
      have hD : va_D A [(a_t_passing, .inl (cI, 5000, .inl t_passing_l4)), (a_t, .inr (11, [.int t_thrown, .ref a_t_now, .ref a_t_kept, .int t_isKept, .ref a_t_text, .int t_length, .ref a_t_passing, .int t_at, .int t_fault, .int t_open, .int t_asked, .int t_byGun, .int t_prizeMost, .ref a_t_order, .ref a_t_times, .int t_listed])), (a_t_now, .inl (cI, 1562, .inl t_now))] := hD
      refine lv_icmp_ge (tgt := 88) hx hb dX11_firstTight_9 (by decide) (fun c12 => ?_) (fun c12 => ?_)
      · have h := zz_t h c12
        exact X4_88 v2_4 v3_4 t_passing_l4 _ _ _ h (hP.sub [1, 2, 0] rfl) (hD.sub [1, 2, 0] rfl rfl) hS (lv_sub hl [0, 1, 2, 3] rfl)
      · have h := zz_f h c12
        refine lv_aload_n hx hb dX11_firstTight_12 rfl (lv_at hl 2 rfl) ?_
        refine lv_iload_n hx hb dX11_firstTight_13 rfl (lv_at hl 0 rfl) ?_
        refine lv_iload_n hx hb dX11_firstTight_14 rfl (lv_at hl 3 rfl) ?_
        obtain ⟨r13, e14, h⟩ := zz_b h
        refine zVi (As := [.int v3_4, .int x1]) (rest := []) (C := RX11) (wr := [(a_t_passing, .inl (cI, 5000, .inl t_passing_l4))]) [1, 2] [0] 0 ⟨hx, hb, hml, hown, hts⟩ (mX11_passes l D cB cI cZ a_t a_t_now a_t_kept a_t_text a_t_passing a_t_order a_t_times t_thrown t_isKept t_length t_at t_fault t_open t_asked t_byGun t_prizeMost t_listed t_now H.size v3_4 x1 r13 e14) (cwV 2 hts gX11_firstTight_X11_passes rfl rfl rfl (by decide +kernel) ⟨Nat.le_of_ble_eq_true rfl, Nat.le_of_ble_eq_true rfl⟩) hK hN hZ hP hD hS hA rfl rfl rfl rfl rfl rfl rfl rfl hl.1 rfl (lv_room (Nat.le_of_ble_eq_true rfl)) dX11_firstTight_15 ⟨Nat.le_of_ble_eq_true rfl, Nat.le_of_ble_eq_true rfl⟩ (fun H locs hP hD hS => ?_)
        have hP : va_P D vwCl [(a_t_passing, .inl (cI, 5000, .inl t_passing_l4)), (a_t, .inr (11, [.int t_thrown, .ref a_t_now, .ref a_t_kept, .int t_isKept, .ref a_t_text, .int t_length, .ref a_t_passing, .int t_at, .int t_fault, .int t_open, .int t_asked, .int t_byGun, .int t_prizeMost, .ref a_t_order, .ref a_t_times, .int t_listed])), (a_t_now, .inl (cI, 1562, .inl t_now))] H := hP
        have hD : va_D A [(a_t_passing, .inl (cI, 5000, .inl t_passing_l4)), (a_t, .inr (11, [.int t_thrown, .ref a_t_now, .ref a_t_kept, .int t_isKept, .ref a_t_text, .int t_length, .ref a_t_passing, .int t_at, .int t_fault, .int t_open, .int t_asked, .int t_byGun, .int t_prizeMost, .ref a_t_order, .ref a_t_times, .int t_listed])), (a_t_now, .inl (cI, 1562, .inl t_now))] := hD
        refine lv_istore (lv' := [(4, .int r13), (3, .int v3_4), (2, .int v2_4), (0, .ref a_t), (1, .int x1)]) hx hb dX11_firstTight_18 hl (by decide) rfl (fun ls hl => ?_)
        refine lv_iload hx hb dX11_firstTight_20 (lv_at hl 0 rfl) ?_
        refine lv_iconst (v := (-1 : Int32)) hx hb dX11_firstTight_22 rfl ?_
        refine lv_icmp_ne (tgt := 29) hx hb dX11_firstTight_23 (by decide) (fun c15 => ?_) (fun c15 => ?_)
        · have h := zz_f h c15
          refine lv_aload_n hx hb dX11_firstTight_29 rfl (lv_at hl 3 rfl) ?_
          refine va_get (D := D) (ci := 11) (C := RX11) (T := TX11) (N := 16) hx hb hts qX11_firstTight_X11 hown hK hP 1 rfl rfl 6 (by decide) (hts _ kX11_firstTight_0) (fun _ h9 => h9) rfl dX11_firstTight_30 ?_
          refine lv_iload hx hb dX11_firstTight_33 (lv_at hl 0 rfl) ?_
          refine lv_bipush (v := (nI 60)) hx hb dX11_firstTight_35 rfl ?_
          refine lv_idiv hx hb dX11_firstTight_37 (by decide) ?_
          refine lv_dup2_11 hx hb dX11_firstTight_38 rfl rfl ?_
          obtain ⟨i16, h⟩ := zz_i h
          refine va_iald hx hb hK hP 0 1 rfl rfl i16 dX11_firstTight_39 ?_
          refine lv_iconst (v := (nI 1)) hx hb dX11_firstTight_40 rfl ?_
          refine lv_iadd hx hb dX11_firstTight_41 ?_
          obtain ⟨i17, h⟩ := zz_i h
          refine va_iast hx hb hK hP hD hS 0 1 rfl rfl i17 dX11_firstTight_42 (fun H locs hP hD hS => ?_)
          have hP : va_P D vwCl [(a_t_passing, .inl (cI, 5000, .inl (upd t_passing_l4 ((r13 / (nI 60))).toNatClampNeg ((t_passing_l4 ((r13 / (nI 60))).toNatClampNeg) + (nI 1))))), (a_t, .inr (11, [.int t_thrown, .ref a_t_now, .ref a_t_kept, .int t_isKept, .ref a_t_text, .int t_length, .ref a_t_passing, .int t_at, .int t_fault, .int t_open, .int t_asked, .int t_byGun, .int t_prizeMost, .ref a_t_order, .ref a_t_times, .int t_listed])), (a_t_now, .inl (cI, 1562, .inl t_now))] H := hP
          have hD : va_D A [(a_t_passing, .inl (cI, 5000, .inl (upd t_passing_l4 ((r13 / (nI 60))).toNatClampNeg ((t_passing_l4 ((r13 / (nI 60))).toNatClampNeg) + (nI 1))))), (a_t, .inr (11, [.int t_thrown, .ref a_t_now, .ref a_t_kept, .int t_isKept, .ref a_t_text, .int t_length, .ref a_t_passing, .int t_at, .int t_fault, .int t_open, .int t_asked, .int t_byGun, .int t_prizeMost, .ref a_t_order, .ref a_t_times, .int t_listed])), (a_t_now, .inl (cI, 1562, .inl t_now))] := hD
          refine lv_aload_n hx hb dX11_firstTight_43 rfl (lv_at hl 3 rfl) ?_
          refine va_get (D := D) (ci := 11) (C := RX11) (T := TX11) (N := 16) hx hb hts qX11_firstTight_X11 hown hK hP 1 rfl rfl 6 (by decide) (hts _ kX11_firstTight_0) (fun _ h9 => h9) rfl dX11_firstTight_44 ?_
          refine lv_iload hx hb dX11_firstTight_47 (lv_at hl 0 rfl) ?_
          refine lv_bipush (v := (nI 60)) hx hb dX11_firstTight_49 rfl ?_
          refine lv_idiv hx hb dX11_firstTight_51 (by decide) ?_
          obtain ⟨i18, h⟩ := zz_i h
          refine va_iald hx hb hK hP 0 1 rfl rfl i18 dX11_firstTight_52 ?_
          refine lv_aload_n hx hb dX11_firstTight_53 rfl (lv_at hl 3 rfl) ?_
          refine lv_iload_n hx hb dX11_firstTight_54 rfl (lv_at hl 4 rfl) ?_
          refine lv_iconst (v := (nI 1)) hx hb dX11_firstTight_55 rfl ?_
          obtain ⟨r19, e20, h⟩ := zz_b h
          refine zVi (As := [.int x1, .int (nI 1)]) (rest := [.int ((upd t_passing_l4 ((r13 / (nI 60))).toNatClampNeg ((t_passing_l4 ((r13 / (nI 60))).toNatClampNeg) + (nI 1))) ((r13 / (nI 60))).toNatClampNeg)]) (C := RX11) (wr := [(a_t_passing, .inl (cI, 5000, .inl (upd t_passing_l4 ((r13 / (nI 60))).toNatClampNeg ((t_passing_l4 ((r13 / (nI 60))).toNatClampNeg) + (nI 1)))))]) [1, 2] [0] 0 ⟨hx, hb, hml, hown, hts⟩ (mX11_ofMat l D cB cI cZ a_t a_t_now a_t_kept a_t_text a_t_passing a_t_order a_t_times t_thrown t_isKept t_length t_at t_fault t_open t_asked t_byGun t_prizeMost t_listed t_now H.size x1 (nI 1) r19 e20) (cwV 2 hts gX11_firstTight_X11_ofMat rfl rfl rfl (by decide +kernel) ⟨Nat.le_of_ble_eq_true rfl, Nat.le_of_ble_eq_true rfl⟩) hK hN hZ hP hD hS hA rfl rfl rfl rfl rfl rfl rfl rfl hl.1 rfl (lv_room (Nat.le_of_ble_eq_true rfl)) dX11_firstTight_56 ⟨Nat.le_of_ble_eq_true rfl, Nat.le_of_ble_eq_true rfl⟩ (fun H locs hP hD hS => ?_)
          have hP : va_P D vwCl [(a_t_passing, .inl (cI, 5000, .inl (upd t_passing_l4 ((r13 / (nI 60))).toNatClampNeg ((t_passing_l4 ((r13 / (nI 60))).toNatClampNeg) + (nI 1))))), (a_t, .inr (11, [.int t_thrown, .ref a_t_now, .ref a_t_kept, .int t_isKept, .ref a_t_text, .int t_length, .ref a_t_passing, .int t_at, .int t_fault, .int t_open, .int t_asked, .int t_byGun, .int t_prizeMost, .ref a_t_order, .ref a_t_times, .int t_listed])), (a_t_now, .inl (cI, 1562, .inl t_now))] H := hP
          have hD : va_D A [(a_t_passing, .inl (cI, 5000, .inl (upd t_passing_l4 ((r13 / (nI 60))).toNatClampNeg ((t_passing_l4 ((r13 / (nI 60))).toNatClampNeg) + (nI 1))))), (a_t, .inr (11, [.int t_thrown, .ref a_t_now, .ref a_t_kept, .int t_isKept, .ref a_t_text, .int t_length, .ref a_t_passing, .int t_at, .int t_fault, .int t_open, .int t_asked, .int t_byGun, .int t_prizeMost, .ref a_t_order, .ref a_t_times, .int t_listed])), (a_t_now, .inl (cI, 1562, .inl t_now))] := hD
          refine lv_icmp_le (tgt := 82) hx hb dX11_firstTight_59 (by decide) (fun c21 => ?_) (fun c21 => ?_)
          · have h := zz_t h c21
            refine lv_iinc (v := (v3_4 + (nI 1))) (lv' := [(3, .int (v3_4 + (nI 1))), (4, .int r13), (2, .int v2_4), (0, .ref a_t), (1, .int x1)]) hx hb dX11_firstTight_82 hl (k := 1) rfl rfl (by decide) rfl (fun ls hl => ?_)
            refine lv_goto (tgt := 4) hx hb dX11_firstTight_85 (by decide) ?_
            exact ih4 v2_4 (v3_4 + (nI 1)) (upd t_passing_l4 ((r13 / (nI 60))).toNatClampNeg ((t_passing_l4 ((r13 / (nI 60))).toNatClampNeg) + (nI 1))) _ _ _ h (hP.sub [1, 2, 0] rfl) (hD.sub [1, 2, 0] rfl rfl) hS (lv_sub hl [0, 2, 3, 4] rfl)
          · have h := zz_f h c21
            refine lv_iload_n hx hb dX11_firstTight_62 rfl (lv_at hl 2 rfl) ?_
            refine lv_iconst (v := (-1 : Int32)) hx hb dX11_firstTight_63 rfl ?_
            refine lv_icmp_eq (tgt := 76) hx hb dX11_firstTight_64 (by decide) (fun c22 => ?_) (fun c22 => ?_)
            · have h := zz_t h c22
              refine lv_iload hx hb dX11_firstTight_76 (lv_at hl 0 rfl) ?_
              refine lv_bipush (v := (nI 60)) hx hb dX11_firstTight_78 rfl ?_
              refine lv_idiv hx hb dX11_firstTight_80 (by decide) ?_
              refine lv_istore_n (lv' := [(2, .int (r13 / (nI 60))), (4, .int r13), (3, .int v3_4), (0, .ref a_t), (1, .int x1)]) hx hb dX11_firstTight_81 rfl hl (by decide) rfl (fun ls hl => ?_)
              refine lv_iinc (v := (v3_4 + (nI 1))) (lv' := [(3, .int (v3_4 + (nI 1))), (2, .int (r13 / (nI 60))), (4, .int r13), (0, .ref a_t), (1, .int x1)]) hx hb dX11_firstTight_82 hl (k := 2) rfl rfl (by decide) rfl (fun ls hl => ?_)
              refine lv_goto (tgt := 4) hx hb dX11_firstTight_85 (by decide) ?_
              exact ih4 (r13 / (nI 60)) (v3_4 + (nI 1)) (upd t_passing_l4 ((r13 / (nI 60))).toNatClampNeg ((t_passing_l4 ((r13 / (nI 60))).toNatClampNeg) + (nI 1))) _ _ _ h (hP.sub [1, 2, 0] rfl) (hD.sub [1, 2, 0] rfl rfl) hS (lv_sub hl [0, 1, 3, 4] rfl)
            · have h := zz_f h c22
              refine lv_iload hx hb dX11_firstTight_67 (lv_at hl 0 rfl) ?_
              refine lv_bipush (v := (nI 60)) hx hb dX11_firstTight_69 rfl ?_
              refine lv_idiv hx hb dX11_firstTight_71 (by decide) ?_
              refine lv_iload_n hx hb dX11_firstTight_72 rfl (lv_at hl 2 rfl) ?_
              refine lv_icmp_ge (tgt := 82) hx hb dX11_firstTight_73 (by decide) (fun c23 => ?_) (fun c23 => ?_)
              · have h := zz_t h c23
                refine lv_iinc (v := (v3_4 + (nI 1))) (lv' := [(3, .int (v3_4 + (nI 1))), (4, .int r13), (2, .int v2_4), (0, .ref a_t), (1, .int x1)]) hx hb dX11_firstTight_82 hl (k := 1) rfl rfl (by decide) rfl (fun ls hl => ?_)
                refine lv_goto (tgt := 4) hx hb dX11_firstTight_85 (by decide) ?_
                exact ih4 v2_4 (v3_4 + (nI 1)) (upd t_passing_l4 ((r13 / (nI 60))).toNatClampNeg ((t_passing_l4 ((r13 / (nI 60))).toNatClampNeg) + (nI 1))) _ _ _ h (hP.sub [1, 2, 0] rfl) (hD.sub [1, 2, 0] rfl rfl) hS (lv_sub hl [0, 2, 3, 4] rfl)
              · have h := zz_f h c23
                refine lv_iload hx hb dX11_firstTight_76 (lv_at hl 0 rfl) ?_
                refine lv_bipush (v := (nI 60)) hx hb dX11_firstTight_78 rfl ?_
                refine lv_idiv hx hb dX11_firstTight_80 (by decide) ?_
                refine lv_istore_n (lv' := [(2, .int (r13 / (nI 60))), (4, .int r13), (3, .int v3_4), (0, .ref a_t), (1, .int x1)]) hx hb dX11_firstTight_81 rfl hl (by decide) rfl (fun ls hl => ?_)
                refine lv_iinc (v := (v3_4 + (nI 1))) (lv' := [(3, .int (v3_4 + (nI 1))), (2, .int (r13 / (nI 60))), (4, .int r13), (0, .ref a_t), (1, .int x1)]) hx hb dX11_firstTight_82 hl (k := 2) rfl rfl (by decide) rfl (fun ls hl => ?_)
                refine lv_goto (tgt := 4) hx hb dX11_firstTight_85 (by decide) ?_
                exact ih4 (r13 / (nI 60)) (v3_4 + (nI 1)) (upd t_passing_l4 ((r13 / (nI 60))).toNatClampNeg ((t_passing_l4 ((r13 / (nI 60))).toNatClampNeg) + (nI 1))) _ _ _ h (hP.sub [1, 2, 0] rfl) (hD.sub [1, 2, 0] rfl rfl) hS (lv_sub hl [0, 1, 3, 4] rfl)
        · have h := zz_t h c15
          refine lv_goto (tgt := 82) hx hb dX11_firstTight_26 (by decide) ?_
          refine lv_iinc (v := (v3_4 + (nI 1))) (lv' := [(3, .int (v3_4 + (nI 1))), (4, .int r13), (2, .int v2_4), (0, .ref a_t), (1, .int x1)]) hx hb dX11_firstTight_82 hl (k := 1) rfl rfl (by decide) rfl (fun ls hl => ?_)
          refine lv_goto (tgt := 4) hx hb dX11_firstTight_85 (by decide) ?_
          exact ih4 v2_4 (v3_4 + (nI 1)) t_passing_l4 _ _ _ h (hP.sub [1, 2, 0] rfl) (hD.sub [1, 2, 0] rfl rfl) hS (lv_sub hl [0, 2, 3, 4] rfl)
  exact L4 N (-1 : Int32) (nI 0) t_passing _ _ _ h hP hD hS hl
/-! RunDeskModel.tight -/
theorem dX11_tight_0 : decode cX11_tight 0 = .ok (.aload_n 0, 1) := by decide +kernel
theorem dX11_tight_1 : decode cX11_tight 1 = .ok (.iconst 0, 1) := by decide +kernel
theorem dX11_tight_2 : decode cX11_tight 2 = .ok (.putfield 37, 3) := by decide +kernel
theorem dX11_tight_5 : decode cX11_tight 5 = .ok (.aload_n 0, 1) := by decide +kernel
theorem dX11_tight_6 : decode cX11_tight 6 = .ok (.iload_n 1, 1) := by decide +kernel
theorem dX11_tight_7 : decode cX11_tight 7 = .ok (.invokevirtual 69, 3) := by decide +kernel
theorem dX11_tight_10 : decode cX11_tight 10 = .ok (.ifCond .eq 11, 3) := by decide +kernel
theorem dX11_tight_13 : decode cX11_tight 13 = .ok (.aload_n 0, 1) := by decide +kernel
theorem dX11_tight_14 : decode cX11_tight 14 = .ok (.iload_n 1, 1) := by decide +kernel
theorem dX11_tight_15 : decode cX11_tight 15 = .ok (.invokevirtual 142, 3) := by decide +kernel
theorem dX11_tight_18 : decode cX11_tight 18 = .ok (.goto 4, 3) := by decide +kernel
theorem dX11_tight_21 : decode cX11_tight 21 = .ok (.iconst (-1), 1) := by decide +kernel
theorem dX11_tight_22 : decode cX11_tight 22 = .ok (.ireturn, 1) := by decide +kernel
set_option maxRecDepth 20000 in
theorem ggX11_tight_X11_isMat : GoodIn wsX11_tight wsX11_isMat := goodIn_sub (List.forall_mem_cons.mpr ⟨List.mem_cons_of_mem _ (List.mem_append_left _ (List.mem_append_left _ (List.mem_of_getElem? (l := wsX11_tight_r1) (i := 5) rfl))), (List.forall_mem_append.mpr ⟨(List.forall_mem_cons.mpr ⟨List.mem_cons_of_mem _ (List.mem_append_left _ (List.mem_append_left _ (List.mem_of_getElem? (l := wsX11_tight_r1) (i := 6) rfl))), (List.forall_mem_cons.mpr ⟨List.mem_cons_of_mem _ (List.mem_append_left _ (List.mem_append_left _ (List.mem_of_getElem? (l := wsX11_tight_r1) (i := 7) rfl))), (List.forall_mem_cons.mpr ⟨List.mem_cons_of_mem _ (List.mem_append_left _ (List.mem_append_left _ (List.mem_of_getElem? (l := wsX11_tight_r1) (i := 8) rfl))), (List.forall_mem_cons.mpr ⟨List.mem_cons_of_mem _ (List.mem_append_left _ (List.mem_append_left _ (List.mem_of_getElem? (l := wsX11_tight_r1) (i := 4) rfl))), (List.forall_mem_cons.mpr ⟨List.mem_cons_of_mem _ (List.mem_append_left _ (List.mem_append_left _ (List.mem_of_getElem? (l := wsX11_tight_r1) (i := 9) rfl))), (List.forall_mem_cons.mpr ⟨List.mem_cons_of_mem _ (List.mem_append_left _ (List.mem_append_left _ (List.mem_of_getElem? (l := wsX11_tight_r1) (i := 10) rfl))), (fun _ h => nomatch h)⟩)⟩)⟩)⟩)⟩)⟩), (fun _ h => List.mem_cons_of_mem _ (List.mem_append_right _ (h)))⟩)⟩) (by decide +kernel)
set_option maxRecDepth 20000 in
theorem gX11_tight_X11_isMat : GoodIn wsX11_tight (wsV RX11 69 RX11 yX11_isMat wsX11_isMat) := goodIn_app (goodIn_of _ (by decide +kernel)) ggX11_tight_X11_isMat
set_option maxRecDepth 20000 in
theorem ggX11_tight_X11_firstTight : GoodIn wsX11_tight wsX11_firstTight := goodIn_sub (List.forall_mem_cons.mpr ⟨List.mem_cons_of_mem _ (List.mem_append_left _ (List.mem_append_left _ (List.mem_of_getElem? (l := wsX11_tight_r1) (i := 14) rfl))), (List.forall_mem_append.mpr ⟨(List.forall_mem_append.mpr ⟨(List.forall_mem_cons.mpr ⟨List.mem_cons_of_mem _ (List.mem_append_left _ (List.mem_append_left _ (List.mem_of_getElem? (l := wsX11_tight_r1) (i := 15) rfl))), (List.forall_mem_cons.mpr ⟨List.mem_cons_of_mem _ (List.mem_append_left _ (List.mem_append_left _ (List.mem_of_getElem? (l := wsX11_tight_r1) (i := 16) rfl))), (List.forall_mem_cons.mpr ⟨List.mem_cons_of_mem _ (List.mem_append_left _ (List.mem_append_left _ (List.mem_of_getElem? (l := wsX11_tight_r1) (i := 17) rfl))), (List.forall_mem_cons.mpr ⟨List.mem_cons_of_mem _ (List.mem_append_left _ (List.mem_append_left _ (List.mem_of_getElem? (l := wsX11_tight_r1) (i := 18) rfl))), (List.forall_mem_cons.mpr ⟨List.mem_cons_of_mem _ (List.mem_append_left _ (List.mem_append_left _ (List.mem_of_getElem? (l := wsX11_tight_r1) (i := 4) rfl))), (List.forall_mem_cons.mpr ⟨List.mem_cons_of_mem _ (List.mem_append_left _ (List.mem_append_left _ (List.mem_of_getElem? (l := wsX11_tight_r1) (i := 19) rfl))), (List.forall_mem_cons.mpr ⟨List.mem_cons_of_mem _ (List.mem_append_left _ (List.mem_append_left _ (List.mem_of_getElem? (l := wsX11_tight_r1) (i := 10) rfl))), (List.forall_mem_cons.mpr ⟨List.mem_cons_of_mem _ (List.mem_append_left _ (List.mem_append_left _ (List.mem_of_getElem? (l := wsX11_tight_r1) (i := 20) rfl))), (List.forall_mem_cons.mpr ⟨List.mem_cons_of_mem _ (List.mem_append_left _ (List.mem_append_left _ (List.mem_of_getElem? (l := wsX11_tight_r1) (i := 21) rfl))), (List.forall_mem_cons.mpr ⟨List.mem_cons_of_mem _ (List.mem_append_left _ (List.mem_append_left _ (List.mem_of_getElem? (l := wsX11_tight_r1) (i := 22) rfl))), (List.forall_mem_cons.mpr ⟨List.mem_cons_of_mem _ (List.mem_append_left _ (List.mem_append_left _ (List.mem_of_getElem? (l := wsX11_tight_r1) (i := 23) rfl))), (List.forall_mem_cons.mpr ⟨List.mem_cons_of_mem _ (List.mem_append_left _ (List.mem_append_right _ (List.mem_of_getElem? (l := wsX11_tight_r2) (i := 0) rfl))), (List.forall_mem_cons.mpr ⟨List.mem_cons_of_mem _ (List.mem_append_left _ (List.mem_append_right _ (List.mem_of_getElem? (l := wsX11_tight_r2) (i := 1) rfl))), (List.forall_mem_cons.mpr ⟨List.mem_cons_of_mem _ (List.mem_append_left _ (List.mem_append_right _ (List.mem_of_getElem? (l := wsX11_tight_r2) (i := 2) rfl))), (List.forall_mem_cons.mpr ⟨List.mem_cons_of_mem _ (List.mem_append_left _ (List.mem_append_right _ (List.mem_of_getElem? (l := wsX11_tight_r2) (i := 3) rfl))), (List.forall_mem_cons.mpr ⟨List.mem_cons_of_mem _ (List.mem_append_left _ (List.mem_append_right _ (List.mem_of_getElem? (l := wsX11_tight_r2) (i := 4) rfl))), (List.forall_mem_cons.mpr ⟨List.mem_cons_of_mem _ (List.mem_append_left _ (List.mem_append_right _ (List.mem_of_getElem? (l := wsX11_tight_r2) (i := 5) rfl))), (List.forall_mem_cons.mpr ⟨List.mem_cons_of_mem _ (List.mem_append_left _ (List.mem_append_right _ (List.mem_of_getElem? (l := wsX11_tight_r2) (i := 6) rfl))), (List.forall_mem_cons.mpr ⟨List.mem_cons_of_mem _ (List.mem_append_left _ (List.mem_append_right _ (List.mem_of_getElem? (l := wsX11_tight_r2) (i := 7) rfl))), (List.forall_mem_cons.mpr ⟨List.mem_cons_of_mem _ (List.mem_append_left _ (List.mem_append_right _ (List.mem_of_getElem? (l := wsX11_tight_r2) (i := 8) rfl))), (List.forall_mem_cons.mpr ⟨List.mem_cons_of_mem _ (List.mem_append_left _ (List.mem_append_right _ (List.mem_of_getElem? (l := wsX11_tight_r2) (i := 9) rfl))), (List.forall_mem_cons.mpr ⟨List.mem_cons_of_mem _ (List.mem_append_left _ (List.mem_append_right _ (List.mem_of_getElem? (l := wsX11_tight_r2) (i := 10) rfl))), (List.forall_mem_cons.mpr ⟨List.mem_cons_of_mem _ (List.mem_append_left _ (List.mem_append_right _ (List.mem_of_getElem? (l := wsX11_tight_r2) (i := 11) rfl))), (List.forall_mem_cons.mpr ⟨List.mem_cons_of_mem _ (List.mem_append_left _ (List.mem_append_right _ (List.mem_of_getElem? (l := wsX11_tight_r2) (i := 12) rfl))), (fun _ h => nomatch h)⟩)⟩)⟩)⟩)⟩)⟩)⟩)⟩)⟩)⟩)⟩)⟩)⟩)⟩)⟩)⟩)⟩)⟩)⟩)⟩)⟩)⟩)⟩)⟩), (List.forall_mem_cons.mpr ⟨List.mem_cons_of_mem _ (List.mem_append_left _ (List.mem_append_right _ (List.mem_of_getElem? (l := wsX11_tight_r2) (i := 13) rfl))), (List.forall_mem_cons.mpr ⟨List.mem_cons_of_mem _ (List.mem_append_left _ (List.mem_append_right _ (List.mem_of_getElem? (l := wsX11_tight_r2) (i := 14) rfl))), (List.forall_mem_cons.mpr ⟨List.mem_cons_of_mem _ (List.mem_append_left _ (List.mem_append_right _ (List.mem_of_getElem? (l := wsX11_tight_r2) (i := 15) rfl))), (fun _ h => nomatch h)⟩)⟩)⟩)⟩), (fun _ h => List.mem_cons_of_mem _ (List.mem_append_right _ (h)))⟩)⟩) (by decide +kernel)
set_option maxRecDepth 20000 in
theorem gX11_tight_X11_firstTight : GoodIn wsX11_tight (wsV RX11 142 RX11 yX11_firstTight wsX11_firstTight) := goodIn_app (goodIn_of _ (by decide +kernel)) ggX11_tight_X11_firstTight
theorem kX11_tight_0 : (.fieldLink RX11 37 "RunDeskModel" "thrown" "I" : Cond) ∈ wsX11_tight := List.mem_of_getElem? (i := 1) (by decide +kernel)
theorem qX11_tight_X11 : ∀ w ∈ wsX110, w ∈ wsX11_tight := fun _ h => List.mem_cons_of_mem _ (List.mem_append_right _ (h))
set_option maxHeartbeats 4000000 in
set_option maxRecDepth 100000 in
theorem mX11_tight (l : Launch) (D : va_G) (cB cI cZ : ClassId) (a_t : Nat) (a_t_now : Nat) (a_t_kept : Nat) (a_t_text : Nat) (a_t_passing : Nat) (a_t_order : Nat) (a_t_times : Nat) (t_thrown : Int32) (t_isKept : Int32) (t_length : Int32) (t_at : Int32) (t_fault : Int32) (t_open : Int32) (t_asked : Int32) (t_byGun : Int32) (t_prizeMost : Int32) (t_listed : Int32) (t_now : Nat → Int32) (t_passing : Nat → Int32) (sz : Nat) (x1 : Int32) (N : Nat) (r0 : Int32) (t_thrown' : Int32) (t_passing' : Nat → Int32) (h : fX11_tight N t_thrown t_now t_passing x1 = some (r0, t_thrown', t_passing')) : Met l yX11_tight wsX11_tight ({ frames := 3, cells := 0, slots := 0, locals := 69 } : Room) (va_Pc [.ref a_t, .int x1] (zPre D (zT cB cI cZ) [(a_t, .inr (11, [.int t_thrown, .ref a_t_now, .ref a_t_kept, .int t_isKept, .ref a_t_text, .int t_length, .ref a_t_passing, .int t_at, .int t_fault, .int t_open, .int t_asked, .int t_byGun, .int t_prizeMost, .ref a_t_order, .ref a_t_times, .int t_listed])), (a_t_now, .inl (cI, 1562, .inl t_now)), (a_t_passing, .inl (cI, 5000, .inl t_passing))] sz)) (zQi r0 D (zT cB cI cZ) [(a_t, .inr (11, [.int t_thrown', .ref a_t_now, .ref a_t_kept, .int t_isKept, .ref a_t_text, .int t_length, .ref a_t_passing, .int t_at, .int t_fault, .int t_open, .int t_asked, .int t_byGun, .int t_prizeMost, .ref a_t_order, .ref a_t_times, .int t_listed])), (a_t_now, .inl (cI, 1562, .inl t_now)), (a_t_passing, .inl (cI, 5000, .inl t_passing'))] (va_A [(a_t, .inr (11, [.int t_thrown, .ref a_t_now, .ref a_t_kept, .int t_isKept, .ref a_t_text, .int t_length, .ref a_t_passing, .int t_at, .int t_fault, .int t_open, .int t_asked, .int t_byGun, .int t_prizeMost, .ref a_t_order, .ref a_t_times, .int t_listed])), (a_t_now, .inl (cI, 1562, .inl t_now)), (a_t_passing, .inl (cI, 5000, .inl t_passing))] sz)) 0 0 (va_A [(a_t, .inr (11, [.int t_thrown, .ref a_t_now, .ref a_t_kept, .int t_isKept, .ref a_t_text, .int t_length, .ref a_t_passing, .int t_at, .int t_fault, .int t_open, .int t_asked, .int t_byGun, .int t_prizeMost, .ref a_t_order, .ref a_t_times, .int t_listed])), (a_t_now, .inl (cI, 1562, .inl t_now)), (a_t_passing, .inl (cI, 5000, .inl t_passing))] sz) := by
  refine Met.ofW (cc := cX11_tight) (maxL := 2) (ret := (some .int)) (by decide) rfl ?_
  intro p e s m args below meth c s₁ B hml hv
  obtain ⟨rfl, hsz, hP, hK, hN, hZ, hD0⟩ := hv
  have hx := B.exec
  have hb := B.bytes
  have hr := B.returns
  have hts := atoms_spec (ws := wsX11_tight) B.pre
  have hown : s.vm.findClass RX11 = some m.cls := findClass_of_methodNamed B.named
  have hlocks := B.notSynchronized
  subst hsz
  have hD := hD0.self (sz := s.heap.size)
  generalize hAe : va_A [(a_t, .inr (11, [.int t_thrown, .ref a_t_now, .ref a_t_kept, .int t_isKept, .ref a_t_text, .int t_length, .ref a_t_passing, .int t_at, .int t_fault, .int t_open, .int t_asked, .int t_byGun, .int t_prizeMost, .ref a_t_order, .ref a_t_times, .int t_listed])), (a_t_now, .inl (cI, 1562, .inl t_now)), (a_t_passing, .inl (cI, 5000, .inl t_passing))] s.heap.size = A at hD hZ ⊢
  have hA : ∀ q : Nat, s.heap.size ≤ q → A q := fun q h => by rw [← hAe]; exact Or.inr h
  have hS : va_S A s.heap s.heap [] := va_S.rf
  have hl := lv_entry ([.ref a_t, .int x1]) (n := 2) (Nat.le_of_ble_eq_true rfl)
  rw [lg_entry_eq]
  generalize (lg_sl ([.ref a_t, .int x1]) ++ List.replicate (2 - (lg_sl ([.ref a_t, .int x1])).length) Slot.unset).toArray = ls at hl ⊢
  have hl : lv_has ls 2 [(0, .ref a_t), (1, .int x1)] := hl
  unfold fX11_tight at h
  refine lv_aload_n hx hb dX11_tight_0 rfl (lv_at hl 0 rfl) ?_
  refine lv_iconst (v := (nI 0)) hx hb dX11_tight_1 rfl ?_
  refine va_put (D := D) (ci := 11) (ty := .int) (C := RX11) (T := TX11) (N := 16) hx hb hts qX11_tight_X11 tyX11 tyX11_ok nmX11 hown hK hP hD hS 0 rfl rfl 0 (by decide) (hts _ kX11_tight_0) (fun _ h9 => h9) rfl (by decide +kernel) rfl (by first | rfl | exact zz_fit) (Nat.le_of_ble_eq_true rfl) dX11_tight_2 (fun H locs hP hD hS => ?_)
  have hP : va_P D vwCl [(a_t, .inr (11, [.int (nI 0), .ref a_t_now, .ref a_t_kept, .int t_isKept, .ref a_t_text, .int t_length, .ref a_t_passing, .int t_at, .int t_fault, .int t_open, .int t_asked, .int t_byGun, .int t_prizeMost, .ref a_t_order, .ref a_t_times, .int t_listed])), (a_t_now, .inl (cI, 1562, .inl t_now)), (a_t_passing, .inl (cI, 5000, .inl t_passing))] H := hP
  have hD : va_D A [(a_t, .inr (11, [.int (nI 0), .ref a_t_now, .ref a_t_kept, .int t_isKept, .ref a_t_text, .int t_length, .ref a_t_passing, .int t_at, .int t_fault, .int t_open, .int t_asked, .int t_byGun, .int t_prizeMost, .ref a_t_order, .ref a_t_times, .int t_listed])), (a_t_now, .inl (cI, 1562, .inl t_now)), (a_t_passing, .inl (cI, 5000, .inl t_passing))] := hD
  refine lv_aload_n hx hb dX11_tight_5 rfl (lv_at hl 0 rfl) ?_
  refine lv_iload_n hx hb dX11_tight_6 rfl (lv_at hl 1 rfl) ?_
  obtain ⟨b1, e2, h⟩ := zz_b h
  refine zVi (As := [.int x1]) (rest := []) (C := RX11) (wr := [(a_t_passing, .inl (cI, 5000, .inl t_passing))]) [0, 1] [2] 0 ⟨hx, hb, hml, hown, hts⟩ (mX11_isMat l D cB cI cZ a_t a_t_now a_t_kept a_t_text a_t_passing a_t_order a_t_times (nI 0) t_isKept t_length t_at t_fault t_open t_asked t_byGun t_prizeMost t_listed t_now H.size x1 b1 e2) (cwV 1 hts gX11_tight_X11_isMat rfl rfl rfl (by decide +kernel) ⟨Nat.le_of_ble_eq_true rfl, Nat.le_of_ble_eq_true rfl⟩) hK hN hZ hP hD hS hA rfl rfl rfl rfl rfl rfl rfl rfl hl.1 rfl (lv_room (Nat.le_of_ble_eq_true rfl)) dX11_tight_7 ⟨Nat.le_of_ble_eq_true rfl, Nat.le_of_ble_eq_true rfl⟩ (fun H locs hP hD hS => ?_)
  have hP : va_P D vwCl [(a_t_passing, .inl (cI, 5000, .inl t_passing)), (a_t, .inr (11, [.int (nI 0), .ref a_t_now, .ref a_t_kept, .int t_isKept, .ref a_t_text, .int t_length, .ref a_t_passing, .int t_at, .int t_fault, .int t_open, .int t_asked, .int t_byGun, .int t_prizeMost, .ref a_t_order, .ref a_t_times, .int t_listed])), (a_t_now, .inl (cI, 1562, .inl t_now))] H := hP
  have hD : va_D A [(a_t_passing, .inl (cI, 5000, .inl t_passing)), (a_t, .inr (11, [.int (nI 0), .ref a_t_now, .ref a_t_kept, .int t_isKept, .ref a_t_text, .int t_length, .ref a_t_passing, .int t_at, .int t_fault, .int t_open, .int t_asked, .int t_byGun, .int t_prizeMost, .ref a_t_order, .ref a_t_times, .int t_listed])), (a_t_now, .inl (cI, 1562, .inl t_now))] := hD
  refine lv_if_eq (tgt := 21) hx hb dX11_tight_10 (by decide) (fun c3 => ?_) (fun c3 => ?_)
  · have h := zz_t h c3
    refine lv_iconst (v := (-1 : Int32)) hx hb dX11_tight_21 rfl ?_
    obtain ⟨j0_, g_⟩ := Prod.mk.inj (Option.some.inj h)
    obtain ⟨j1_, g_⟩ := Prod.mk.inj g_
    have j2_ := g_
    subst j0_
    subst j1_
    subst j2_
    exact W.iret (v := (-1 : Int32)) hx hb hr (fun t ht hW => ⟨⟨_, (), rfl, rfl, zPost.of hP hD hK ht hW [1, 2, 0] rfl rfl rfl⟩, hS.F ht⟩) hS.2.2 dX11_tight_22
  · have h := zz_f h c3
    refine lv_aload_n hx hb dX11_tight_13 rfl (lv_at hl 0 rfl) ?_
    refine lv_iload_n hx hb dX11_tight_14 rfl (lv_at hl 1 rfl) ?_
    obtain ⟨⟨r4, t_passing_r5⟩, e6, h⟩ := zz_b h
    dsimp only at h
    refine zVi (As := [.int x1]) (rest := []) (C := RX11) (wr := []) [1, 2, 0] [] 0 ⟨hx, hb, hml, hown, hts⟩ (mX11_firstTight l D cB cI cZ a_t a_t_now a_t_kept a_t_text a_t_passing a_t_order a_t_times (nI 0) t_isKept t_length t_at t_fault t_open t_asked t_byGun t_prizeMost t_listed t_now t_passing H.size x1 N r4 t_passing_r5 e6) (cwV 1 hts gX11_tight_X11_firstTight rfl rfl rfl (by decide +kernel) ⟨Nat.le_of_ble_eq_true rfl, Nat.le_of_ble_eq_true rfl⟩) hK hN hZ hP hD hS hA rfl rfl rfl rfl rfl rfl rfl rfl hl.1 rfl (lv_room (Nat.le_of_ble_eq_true rfl)) dX11_tight_15 ⟨Nat.le_of_ble_eq_true rfl, Nat.le_of_ble_eq_true rfl⟩ (fun H locs hP hD hS => ?_)
    have hP : va_P D vwCl [(a_t, .inr (11, [.int (nI 0), .ref a_t_now, .ref a_t_kept, .int t_isKept, .ref a_t_text, .int t_length, .ref a_t_passing, .int t_at, .int t_fault, .int t_open, .int t_asked, .int t_byGun, .int t_prizeMost, .ref a_t_order, .ref a_t_times, .int t_listed])), (a_t_now, .inl (cI, 1562, .inl t_now)), (a_t_passing, .inl (cI, 5000, .inl t_passing_r5))] H := hP
    have hD : va_D A [(a_t, .inr (11, [.int (nI 0), .ref a_t_now, .ref a_t_kept, .int t_isKept, .ref a_t_text, .int t_length, .ref a_t_passing, .int t_at, .int t_fault, .int t_open, .int t_asked, .int t_byGun, .int t_prizeMost, .ref a_t_order, .ref a_t_times, .int t_listed])), (a_t_now, .inl (cI, 1562, .inl t_now)), (a_t_passing, .inl (cI, 5000, .inl t_passing_r5))] := hD
    refine lv_goto (tgt := 22) hx hb dX11_tight_18 (by decide) ?_
    obtain ⟨j0_, g_⟩ := Prod.mk.inj (Option.some.inj h)
    obtain ⟨j1_, g_⟩ := Prod.mk.inj g_
    have j2_ := g_
    subst j0_
    subst j1_
    subst j2_
    exact W.iret (v := r4) hx hb hr (fun t ht hW => ⟨⟨_, (), rfl, rfl, zPost.of hP hD hK ht hW [0, 1, 2] rfl rfl rfl⟩, hS.F ht⟩) hS.2.2 dX11_tight_22
/-! RunDeskModel.plan -/
theorem dX11_plan_0 : decode cX11_plan 0 = .ok (.aload_n 0, 1) := by decide +kernel
theorem dX11_plan_1 : decode cX11_plan 1 = .ok (.iconst 0, 1) := by decide +kernel
theorem dX11_plan_2 : decode cX11_plan 2 = .ok (.putfield 37, 3) := by decide +kernel
theorem dX11_plan_5 : decode cX11_plan 5 = .ok (.iload_n 1, 1) := by decide +kernel
theorem dX11_plan_6 : decode cX11_plan 6 = .ok (.iconst 0, 1) := by decide +kernel
theorem dX11_plan_7 : decode cX11_plan 7 = .ok (.sipush 10000, 3) := by decide +kernel
theorem dX11_plan_10 : decode cX11_plan 10 = .ok (.invokestatic 52, 3) := by decide +kernel
theorem dX11_plan_13 : decode cX11_plan 13 = .ok (.ifCond .eq 14, 3) := by decide +kernel
theorem dX11_plan_16 : decode cX11_plan 16 = .ok (.iload_n 2, 1) := by decide +kernel
theorem dX11_plan_17 : decode cX11_plan 17 = .ok (.iconst 0, 1) := by decide +kernel
theorem dX11_plan_18 : decode cX11_plan 18 = .ok (.sipush 3000, 3) := by decide +kernel
theorem dX11_plan_21 : decode cX11_plan 21 = .ok (.invokestatic 52, 3) := by decide +kernel
theorem dX11_plan_24 : decode cX11_plan 24 = .ok (.ifCond .ne 5, 3) := by decide +kernel
theorem dX11_plan_27 : decode cX11_plan 27 = .ok (.iconst (-1), 1) := by decide +kernel
theorem dX11_plan_28 : decode cX11_plan 28 = .ok (.ireturn, 1) := by decide +kernel
theorem dX11_plan_29 : decode cX11_plan 29 = .ok (.bipush 6, 2) := by decide +kernel
theorem dX11_plan_31 : decode cX11_plan 31 = .ok (.newarray .int, 2) := by decide +kernel
theorem dX11_plan_33 : decode cX11_plan 33 = .ok (.astore_n 3, 1) := by decide +kernel
theorem dX11_plan_34 : decode cX11_plan 34 = .ok (.iconst 0, 1) := by decide +kernel
theorem dX11_plan_35 : decode cX11_plan 35 = .ok (.istore 4, 2) := by decide +kernel
theorem dX11_plan_37 : decode cX11_plan 37 = .ok (.iload 4, 2) := by decide +kernel
theorem dX11_plan_39 : decode cX11_plan 39 = .ok (.bipush 6, 2) := by decide +kernel
theorem dX11_plan_41 : decode cX11_plan 41 = .ok (.if_icmp .ge 19, 3) := by decide +kernel
theorem dX11_plan_44 : decode cX11_plan 44 = .ok (.aload_n 3, 1) := by decide +kernel
theorem dX11_plan_45 : decode cX11_plan 45 = .ok (.iload 4, 2) := by decide +kernel
theorem dX11_plan_47 : decode cX11_plan 47 = .ok (.aload_n 0, 1) := by decide +kernel
theorem dX11_plan_48 : decode cX11_plan 48 = .ok (.iload 4, 2) := by decide +kernel
theorem dX11_plan_50 : decode cX11_plan 50 = .ok (.invokevirtual 79, 3) := by decide +kernel
theorem dX11_plan_53 : decode cX11_plan 53 = .ok (.iastore, 1) := by decide +kernel
theorem dX11_plan_54 : decode cX11_plan 54 = .ok (.iinc 4 1, 3) := by decide +kernel
theorem dX11_plan_57 : decode cX11_plan 57 = .ok (.goto (-20), 3) := by decide +kernel
theorem dX11_plan_60 : decode cX11_plan 60 = .ok (.iconst 0, 1) := by decide +kernel
theorem dX11_plan_61 : decode cX11_plan 61 = .ok (.istore 4, 2) := by decide +kernel
theorem dX11_plan_63 : decode cX11_plan 63 = .ok (.iload 4, 2) := by decide +kernel
theorem dX11_plan_65 : decode cX11_plan 65 = .ok (.iload_n 2, 1) := by decide +kernel
theorem dX11_plan_66 : decode cX11_plan 66 = .ok (.if_icmp .gt 93, 3) := by decide +kernel
theorem dX11_plan_69 : decode cX11_plan 69 = .ok (.iconst 0, 1) := by decide +kernel
theorem dX11_plan_70 : decode cX11_plan 70 = .ok (.istore 5, 2) := by decide +kernel
theorem dX11_plan_72 : decode cX11_plan 72 = .ok (.iload 5, 2) := by decide +kernel
theorem dX11_plan_74 : decode cX11_plan 74 = .ok (.bipush 6, 2) := by decide +kernel
theorem dX11_plan_76 : decode cX11_plan 76 = .ok (.if_icmp .ge 26, 3) := by decide +kernel
theorem dX11_plan_79 : decode cX11_plan 79 = .ok (.aload_n 0, 1) := by decide +kernel
theorem dX11_plan_80 : decode cX11_plan 80 = .ok (.getfield 9, 3) := by decide +kernel
theorem dX11_plan_83 : decode cX11_plan 83 = .ok (.bipush 56, 2) := by decide +kernel
theorem dX11_plan_85 : decode cX11_plan 85 = .ok (.iload 5, 2) := by decide +kernel
theorem dX11_plan_87 : decode cX11_plan 87 = .ok (.iadd, 1) := by decide +kernel
theorem dX11_plan_88 : decode cX11_plan 88 = .ok (.iload_n 1, 1) := by decide +kernel
theorem dX11_plan_89 : decode cX11_plan 89 = .ok (.iload 5, 2) := by decide +kernel
theorem dX11_plan_91 : decode cX11_plan 91 = .ok (.iload 4, 2) := by decide +kernel
theorem dX11_plan_93 : decode cX11_plan 93 = .ok (.imul, 1) := by decide +kernel
theorem dX11_plan_94 : decode cX11_plan 94 = .ok (.iadd, 1) := by decide +kernel
theorem dX11_plan_95 : decode cX11_plan 95 = .ok (.iastore, 1) := by decide +kernel
theorem dX11_plan_96 : decode cX11_plan 96 = .ok (.iinc 5 1, 3) := by decide +kernel
theorem dX11_plan_99 : decode cX11_plan 99 = .ok (.goto (-27), 3) := by decide +kernel
theorem dX11_plan_102 : decode cX11_plan 102 = .ok (.iconst 1, 1) := by decide +kernel
theorem dX11_plan_103 : decode cX11_plan 103 = .ok (.istore 5, 2) := by decide +kernel
theorem dX11_plan_105 : decode cX11_plan 105 = .ok (.iconst 0, 1) := by decide +kernel
theorem dX11_plan_106 : decode cX11_plan 106 = .ok (.istore 6, 2) := by decide +kernel
theorem dX11_plan_108 : decode cX11_plan 108 = .ok (.iload 6, 2) := by decide +kernel
theorem dX11_plan_110 : decode cX11_plan 110 = .ok (.aload_n 0, 1) := by decide +kernel
theorem dX11_plan_111 : decode cX11_plan 111 = .ok (.invokevirtual 41, 3) := by decide +kernel
theorem dX11_plan_114 : decode cX11_plan 114 = .ok (.if_icmp .ge 31, 3) := by decide +kernel
theorem dX11_plan_117 : decode cX11_plan 117 = .ok (.iload 5, 2) := by decide +kernel
theorem dX11_plan_119 : decode cX11_plan 119 = .ok (.ifCond .eq 26, 3) := by decide +kernel
theorem dX11_plan_122 : decode cX11_plan 122 = .ok (.aload_n 0, 1) := by decide +kernel
theorem dX11_plan_123 : decode cX11_plan 123 = .ok (.iload 6, 2) := by decide +kernel
theorem dX11_plan_125 : decode cX11_plan 125 = .ok (.invokevirtual 142, 3) := by decide +kernel
theorem dX11_plan_128 : decode cX11_plan 128 = .ok (.iconst (-1), 1) := by decide +kernel
theorem dX11_plan_129 : decode cX11_plan 129 = .ok (.if_icmp .ne 7, 3) := by decide +kernel
theorem dX11_plan_132 : decode cX11_plan 132 = .ok (.iconst 1, 1) := by decide +kernel
theorem dX11_plan_133 : decode cX11_plan 133 = .ok (.goto 4, 3) := by decide +kernel
theorem dX11_plan_136 : decode cX11_plan 136 = .ok (.iconst 0, 1) := by decide +kernel
theorem dX11_plan_137 : decode cX11_plan 137 = .ok (.istore 5, 2) := by decide +kernel
theorem dX11_plan_139 : decode cX11_plan 139 = .ok (.iinc 6 1, 3) := by decide +kernel
theorem dX11_plan_142 : decode cX11_plan 142 = .ok (.goto (-34), 3) := by decide +kernel
theorem dX11_plan_145 : decode cX11_plan 145 = .ok (.iload 5, 2) := by decide +kernel
theorem dX11_plan_147 : decode cX11_plan 147 = .ok (.ifCond .eq 6, 3) := by decide +kernel
theorem dX11_plan_150 : decode cX11_plan 150 = .ok (.iload 4, 2) := by decide +kernel
theorem dX11_plan_152 : decode cX11_plan 152 = .ok (.ireturn, 1) := by decide +kernel
theorem dX11_plan_153 : decode cX11_plan 153 = .ok (.iinc 4 1, 3) := by decide +kernel
theorem dX11_plan_156 : decode cX11_plan 156 = .ok (.goto (-93), 3) := by decide +kernel
theorem dX11_plan_159 : decode cX11_plan 159 = .ok (.iconst 0, 1) := by decide +kernel
theorem dX11_plan_160 : decode cX11_plan 160 = .ok (.istore 4, 2) := by decide +kernel
theorem dX11_plan_162 : decode cX11_plan 162 = .ok (.iload 4, 2) := by decide +kernel
theorem dX11_plan_164 : decode cX11_plan 164 = .ok (.bipush 6, 2) := by decide +kernel
theorem dX11_plan_166 : decode cX11_plan 166 = .ok (.if_icmp .ge 23, 3) := by decide +kernel
theorem dX11_plan_169 : decode cX11_plan 169 = .ok (.aload_n 0, 1) := by decide +kernel
theorem dX11_plan_170 : decode cX11_plan 170 = .ok (.getfield 9, 3) := by decide +kernel
theorem dX11_plan_173 : decode cX11_plan 173 = .ok (.bipush 56, 2) := by decide +kernel
theorem dX11_plan_175 : decode cX11_plan 175 = .ok (.iload 4, 2) := by decide +kernel
theorem dX11_plan_177 : decode cX11_plan 177 = .ok (.iadd, 1) := by decide +kernel
theorem dX11_plan_178 : decode cX11_plan 178 = .ok (.aload_n 3, 1) := by decide +kernel
theorem dX11_plan_179 : decode cX11_plan 179 = .ok (.iload 4, 2) := by decide +kernel
theorem dX11_plan_181 : decode cX11_plan 181 = .ok (.iaload, 1) := by decide +kernel
theorem dX11_plan_182 : decode cX11_plan 182 = .ok (.iastore, 1) := by decide +kernel
theorem dX11_plan_183 : decode cX11_plan 183 = .ok (.iinc 4 1, 3) := by decide +kernel
theorem dX11_plan_186 : decode cX11_plan 186 = .ok (.goto (-24), 3) := by decide +kernel
theorem dX11_plan_189 : decode cX11_plan 189 = .ok (.iconst (-1), 1) := by decide +kernel
theorem dX11_plan_190 : decode cX11_plan 190 = .ok (.ireturn, 1) := by decide +kernel
set_option maxRecDepth 20000 in
theorem ggX11_plan_X11_isIn : GoodIn wsX11_plan wsX11_isIn := goodIn_sub (List.forall_mem_cons.mpr ⟨List.mem_cons_of_mem _ (List.mem_append_left _ (List.mem_append_left _ (List.mem_of_getElem? (l := wsX11_plan_r1) (i := 6) rfl))), (fun _ h => nomatch h)⟩) (by decide +kernel)
set_option maxRecDepth 20000 in
theorem gX11_plan_X11_isIn : GoodIn wsX11_plan (va_wsS RX11 52 yX11_isIn wsX11_isIn) := goodIn_app (goodIn_of _ (by decide +kernel)) ggX11_plan_X11_isIn
set_option maxRecDepth 20000 in
theorem ggX11_plan_X11_gunOf : GoodIn wsX11_plan wsX11_gunOf := goodIn_sub (List.forall_mem_cons.mpr ⟨List.mem_cons_of_mem _ (List.mem_append_left _ (List.mem_append_left _ (List.mem_of_getElem? (l := wsX11_plan_r1) (i := 10) rfl))), (List.forall_mem_append.mpr ⟨(List.forall_mem_cons.mpr ⟨List.mem_cons_of_mem _ (List.mem_append_left _ (List.mem_append_left _ (List.mem_of_getElem? (l := wsX11_plan_r1) (i := 2) rfl))), (fun _ h => nomatch h)⟩), (fun _ h => List.mem_cons_of_mem _ (List.mem_append_right _ (h)))⟩)⟩) (by decide +kernel)
set_option maxRecDepth 20000 in
theorem gX11_plan_X11_gunOf : GoodIn wsX11_plan (wsV RX11 79 RX11 yX11_gunOf wsX11_gunOf) := goodIn_app (goodIn_of _ (by decide +kernel)) ggX11_plan_X11_gunOf
set_option maxRecDepth 20000 in
theorem ggX11_plan_X11_mats : GoodIn wsX11_plan wsX11_mats := goodIn_sub (List.forall_mem_cons.mpr ⟨List.mem_cons_of_mem _ (List.mem_append_left _ (List.mem_append_left _ (List.mem_of_getElem? (l := wsX11_plan_r1) (i := 14) rfl))), (List.forall_mem_append.mpr ⟨(List.forall_mem_cons.mpr ⟨List.mem_cons_of_mem _ (List.mem_append_left _ (List.mem_append_left _ (List.mem_of_getElem? (l := wsX11_plan_r1) (i := 2) rfl))), (fun _ h => nomatch h)⟩), (fun _ h => List.mem_cons_of_mem _ (List.mem_append_right _ (h)))⟩)⟩) (by decide +kernel)
set_option maxRecDepth 20000 in
theorem gX11_plan_X11_mats : GoodIn wsX11_plan (wsV RX11 41 RX11 yX11_mats wsX11_mats) := goodIn_app (goodIn_of _ (by decide +kernel)) ggX11_plan_X11_mats
set_option maxRecDepth 20000 in
theorem ggX11_plan_X11_firstTight : GoodIn wsX11_plan wsX11_firstTight := goodIn_sub (List.forall_mem_cons.mpr ⟨List.mem_cons_of_mem _ (List.mem_append_left _ (List.mem_append_left _ (List.mem_of_getElem? (l := wsX11_plan_r1) (i := 18) rfl))), (List.forall_mem_append.mpr ⟨(List.forall_mem_append.mpr ⟨(List.forall_mem_cons.mpr ⟨List.mem_cons_of_mem _ (List.mem_append_left _ (List.mem_append_left _ (List.mem_of_getElem? (l := wsX11_plan_r1) (i := 19) rfl))), (List.forall_mem_cons.mpr ⟨List.mem_cons_of_mem _ (List.mem_append_left _ (List.mem_append_left _ (List.mem_of_getElem? (l := wsX11_plan_r1) (i := 20) rfl))), (List.forall_mem_cons.mpr ⟨List.mem_cons_of_mem _ (List.mem_append_left _ (List.mem_append_left _ (List.mem_of_getElem? (l := wsX11_plan_r1) (i := 21) rfl))), (List.forall_mem_cons.mpr ⟨List.mem_cons_of_mem _ (List.mem_append_left _ (List.mem_append_left _ (List.mem_of_getElem? (l := wsX11_plan_r1) (i := 22) rfl))), (List.forall_mem_cons.mpr ⟨List.mem_cons_of_mem _ (List.mem_append_left _ (List.mem_append_left _ (List.mem_of_getElem? (l := wsX11_plan_r1) (i := 5) rfl))), (List.forall_mem_cons.mpr ⟨List.mem_cons_of_mem _ (List.mem_append_left _ (List.mem_append_left _ (List.mem_of_getElem? (l := wsX11_plan_r1) (i := 23) rfl))), (List.forall_mem_cons.mpr ⟨List.mem_cons_of_mem _ (List.mem_append_left _ (List.mem_append_left _ (List.mem_of_getElem? (l := wsX11_plan_r1) (i := 2) rfl))), (List.forall_mem_cons.mpr ⟨List.mem_cons_of_mem _ (List.mem_append_left _ (List.mem_append_right _ (List.mem_of_getElem? (l := wsX11_plan_r2) (i := 0) rfl))), (List.forall_mem_cons.mpr ⟨List.mem_cons_of_mem _ (List.mem_append_left _ (List.mem_append_right _ (List.mem_of_getElem? (l := wsX11_plan_r2) (i := 1) rfl))), (List.forall_mem_cons.mpr ⟨List.mem_cons_of_mem _ (List.mem_append_left _ (List.mem_append_right _ (List.mem_of_getElem? (l := wsX11_plan_r2) (i := 2) rfl))), (List.forall_mem_cons.mpr ⟨List.mem_cons_of_mem _ (List.mem_append_left _ (List.mem_append_right _ (List.mem_of_getElem? (l := wsX11_plan_r2) (i := 3) rfl))), (List.forall_mem_cons.mpr ⟨List.mem_cons_of_mem _ (List.mem_append_left _ (List.mem_append_right _ (List.mem_of_getElem? (l := wsX11_plan_r2) (i := 4) rfl))), (List.forall_mem_cons.mpr ⟨List.mem_cons_of_mem _ (List.mem_append_left _ (List.mem_append_right _ (List.mem_of_getElem? (l := wsX11_plan_r2) (i := 5) rfl))), (List.forall_mem_cons.mpr ⟨List.mem_cons_of_mem _ (List.mem_append_left _ (List.mem_append_right _ (List.mem_of_getElem? (l := wsX11_plan_r2) (i := 6) rfl))), (List.forall_mem_cons.mpr ⟨List.mem_cons_of_mem _ (List.mem_append_left _ (List.mem_append_right _ (List.mem_of_getElem? (l := wsX11_plan_r2) (i := 7) rfl))), (List.forall_mem_cons.mpr ⟨List.mem_cons_of_mem _ (List.mem_append_left _ (List.mem_append_left _ (List.mem_of_getElem? (l := wsX11_plan_r1) (i := 7) rfl))), (List.forall_mem_cons.mpr ⟨List.mem_cons_of_mem _ (List.mem_append_left _ (List.mem_append_left _ (List.mem_of_getElem? (l := wsX11_plan_r1) (i := 8) rfl))), (List.forall_mem_cons.mpr ⟨List.mem_cons_of_mem _ (List.mem_append_left _ (List.mem_append_left _ (List.mem_of_getElem? (l := wsX11_plan_r1) (i := 9) rfl))), (List.forall_mem_cons.mpr ⟨List.mem_cons_of_mem _ (List.mem_append_left _ (List.mem_append_left _ (List.mem_of_getElem? (l := wsX11_plan_r1) (i := 10) rfl))), (List.forall_mem_cons.mpr ⟨List.mem_cons_of_mem _ (List.mem_append_left _ (List.mem_append_right _ (List.mem_of_getElem? (l := wsX11_plan_r2) (i := 8) rfl))), (List.forall_mem_cons.mpr ⟨List.mem_cons_of_mem _ (List.mem_append_left _ (List.mem_append_right _ (List.mem_of_getElem? (l := wsX11_plan_r2) (i := 9) rfl))), (List.forall_mem_cons.mpr ⟨List.mem_cons_of_mem _ (List.mem_append_left _ (List.mem_append_right _ (List.mem_of_getElem? (l := wsX11_plan_r2) (i := 10) rfl))), (List.forall_mem_cons.mpr ⟨List.mem_cons_of_mem _ (List.mem_append_left _ (List.mem_append_right _ (List.mem_of_getElem? (l := wsX11_plan_r2) (i := 11) rfl))), (List.forall_mem_cons.mpr ⟨List.mem_cons_of_mem _ (List.mem_append_left _ (List.mem_append_right _ (List.mem_of_getElem? (l := wsX11_plan_r2) (i := 12) rfl))), (fun _ h => nomatch h)⟩)⟩)⟩)⟩)⟩)⟩)⟩)⟩)⟩)⟩)⟩)⟩)⟩)⟩)⟩)⟩)⟩)⟩)⟩)⟩)⟩)⟩)⟩)⟩), (List.forall_mem_cons.mpr ⟨List.mem_cons_of_mem _ (List.mem_append_left _ (List.mem_append_right _ (List.mem_of_getElem? (l := wsX11_plan_r2) (i := 13) rfl))), (List.forall_mem_cons.mpr ⟨List.mem_cons_of_mem _ (List.mem_append_left _ (List.mem_append_right _ (List.mem_of_getElem? (l := wsX11_plan_r2) (i := 14) rfl))), (List.forall_mem_cons.mpr ⟨List.mem_cons_of_mem _ (List.mem_append_left _ (List.mem_append_right _ (List.mem_of_getElem? (l := wsX11_plan_r2) (i := 15) rfl))), (fun _ h => nomatch h)⟩)⟩)⟩)⟩), (fun _ h => List.mem_cons_of_mem _ (List.mem_append_right _ (h)))⟩)⟩) (by decide +kernel)
set_option maxRecDepth 20000 in
theorem gX11_plan_X11_firstTight : GoodIn wsX11_plan (wsV RX11 142 RX11 yX11_firstTight wsX11_firstTight) := goodIn_app (goodIn_of _ (by decide +kernel)) ggX11_plan_X11_firstTight
theorem kX11_plan_0 : (.fieldLink RX11 37 "RunDeskModel" "thrown" "I" : Cond) ∈ wsX11_plan := List.mem_of_getElem? (i := 1) (by decide +kernel)
theorem qX11_plan_X11 : ∀ w ∈ wsX110, w ∈ wsX11_plan := fun _ h => List.mem_cons_of_mem _ (List.mem_append_right _ (h))
theorem kX11_plan_2 : (.arrayClass .int : Cond) ∈ wsX11_plan := List.mem_of_getElem? (i := 2) (by decide +kernel)
theorem kX11_plan_3 : (.fieldLink RX11 9 "RunDeskModel" "now" "[I" : Cond) ∈ wsX11_plan := List.mem_of_getElem? (i := 3) (by decide +kernel)
set_option maxHeartbeats 4000000 in
set_option maxRecDepth 100000 in
theorem mX11_plan (l : Launch) (D : va_G) (cB cI cZ : ClassId) (a_t : Nat) (a_t_now : Nat) (a_t_kept : Nat) (a_t_text : Nat) (a_t_passing : Nat) (a_t_order : Nat) (a_t_times : Nat) (t_thrown : Int32) (t_isKept : Int32) (t_length : Int32) (t_at : Int32) (t_fault : Int32) (t_open : Int32) (t_asked : Int32) (t_byGun : Int32) (t_prizeMost : Int32) (t_listed : Int32) (t_now : Nat → Int32) (t_passing : Nat → Int32) (sz : Nat) (x1 : Int32) (x2 : Int32) (N : Nat) (r0 : Int32) (t_thrown' : Int32) (t_now' : Nat → Int32) (t_passing' : Nat → Int32) (h : fX11_plan N t_thrown t_now t_passing x1 x2 = some (r0, t_thrown', t_now', t_passing')) : Met l yX11_plan wsX11_plan ({ frames := 3, cells := 1, slots := 6, locals := 69 } : Room) (va_Pc [.ref a_t, .int x1, .int x2] (zPre D (zT cB cI cZ) [(a_t, .inr (11, [.int t_thrown, .ref a_t_now, .ref a_t_kept, .int t_isKept, .ref a_t_text, .int t_length, .ref a_t_passing, .int t_at, .int t_fault, .int t_open, .int t_asked, .int t_byGun, .int t_prizeMost, .ref a_t_order, .ref a_t_times, .int t_listed])), (a_t_now, .inl (cI, 1562, .inl t_now)), (a_t_passing, .inl (cI, 5000, .inl t_passing))] sz)) (zQi r0 D (zT cB cI cZ) [(a_t, .inr (11, [.int t_thrown', .ref a_t_now, .ref a_t_kept, .int t_isKept, .ref a_t_text, .int t_length, .ref a_t_passing, .int t_at, .int t_fault, .int t_open, .int t_asked, .int t_byGun, .int t_prizeMost, .ref a_t_order, .ref a_t_times, .int t_listed])), (a_t_now, .inl (cI, 1562, .inl t_now')), (a_t_passing, .inl (cI, 5000, .inl t_passing'))] (va_A [(a_t, .inr (11, [.int t_thrown, .ref a_t_now, .ref a_t_kept, .int t_isKept, .ref a_t_text, .int t_length, .ref a_t_passing, .int t_at, .int t_fault, .int t_open, .int t_asked, .int t_byGun, .int t_prizeMost, .ref a_t_order, .ref a_t_times, .int t_listed])), (a_t_now, .inl (cI, 1562, .inl t_now)), (a_t_passing, .inl (cI, 5000, .inl t_passing))] sz)) 1 6 (va_A [(a_t, .inr (11, [.int t_thrown, .ref a_t_now, .ref a_t_kept, .int t_isKept, .ref a_t_text, .int t_length, .ref a_t_passing, .int t_at, .int t_fault, .int t_open, .int t_asked, .int t_byGun, .int t_prizeMost, .ref a_t_order, .ref a_t_times, .int t_listed])), (a_t_now, .inl (cI, 1562, .inl t_now)), (a_t_passing, .inl (cI, 5000, .inl t_passing))] sz) := by
  refine Met.ofW (cc := cX11_plan) (maxL := 7) (ret := (some .int)) (by decide) rfl ?_
  intro p e s m args below meth c s₁ B hml hv
  obtain ⟨rfl, hsz, hP, hK, hN, hZ, hD0⟩ := hv
  have hx := B.exec
  have hb := B.bytes
  have hr := B.returns
  have hts := atoms_spec (ws := wsX11_plan) B.pre
  have hown : s.vm.findClass RX11 = some m.cls := findClass_of_methodNamed B.named
  have hlocks := B.notSynchronized
  subst hsz
  have hD := hD0.self (sz := s.heap.size)
  generalize hAe : va_A [(a_t, .inr (11, [.int t_thrown, .ref a_t_now, .ref a_t_kept, .int t_isKept, .ref a_t_text, .int t_length, .ref a_t_passing, .int t_at, .int t_fault, .int t_open, .int t_asked, .int t_byGun, .int t_prizeMost, .ref a_t_order, .ref a_t_times, .int t_listed])), (a_t_now, .inl (cI, 1562, .inl t_now)), (a_t_passing, .inl (cI, 5000, .inl t_passing))] s.heap.size = A at hD hZ ⊢
  have hA : ∀ q : Nat, s.heap.size ≤ q → A q := fun q h => by rw [← hAe]; exact Or.inr h
  have hS : va_S A s.heap s.heap [] := va_S.rf
  have hl := lv_entry ([.ref a_t, .int x1, .int x2]) (n := 7) (Nat.le_of_ble_eq_true rfl)
  rw [lg_entry_eq]
  generalize (lg_sl ([.ref a_t, .int x1, .int x2]) ++ List.replicate (7 - (lg_sl ([.ref a_t, .int x1, .int x2])).length) Slot.unset).toArray = ls at hl ⊢
  have hl : lv_has ls 7 [(0, .ref a_t), (1, .int x1), (2, .int x2)] := hl
  unfold fX11_plan at h
  refine lv_aload_n hx hb dX11_plan_0 rfl (lv_at hl 0 rfl) ?_
  refine lv_iconst (v := (nI 0)) hx hb dX11_plan_1 rfl ?_
  refine va_put (D := D) (ci := 11) (ty := .int) (C := RX11) (T := TX11) (N := 16) hx hb hts qX11_plan_X11 tyX11 tyX11_ok nmX11 hown hK hP hD hS 0 rfl rfl 0 (by decide) (hts _ kX11_plan_0) (fun _ h9 => h9) rfl (by decide +kernel) rfl (by first | rfl | exact zz_fit) (Nat.le_of_ble_eq_true rfl) dX11_plan_2 (fun H locs hP hD hS => ?_)
  have hP : va_P D vwCl [(a_t, .inr (11, [.int (nI 0), .ref a_t_now, .ref a_t_kept, .int t_isKept, .ref a_t_text, .int t_length, .ref a_t_passing, .int t_at, .int t_fault, .int t_open, .int t_asked, .int t_byGun, .int t_prizeMost, .ref a_t_order, .ref a_t_times, .int t_listed])), (a_t_now, .inl (cI, 1562, .inl t_now)), (a_t_passing, .inl (cI, 5000, .inl t_passing))] H := hP
  have hD : va_D A [(a_t, .inr (11, [.int (nI 0), .ref a_t_now, .ref a_t_kept, .int t_isKept, .ref a_t_text, .int t_length, .ref a_t_passing, .int t_at, .int t_fault, .int t_open, .int t_asked, .int t_byGun, .int t_prizeMost, .ref a_t_order, .ref a_t_times, .int t_listed])), (a_t_now, .inl (cI, 1562, .inl t_now)), (a_t_passing, .inl (cI, 5000, .inl t_passing))] := hD
  refine lv_iload_n hx hb dX11_plan_5 rfl (lv_at hl 1 rfl) ?_
  refine lv_iconst (v := (nI 0)) hx hb dX11_plan_6 rfl ?_
  refine lv_sipush (v := (nI 10000)) hx hb dX11_plan_7 rfl ?_
  obtain ⟨b1, e2, h⟩ := zz_b h
  refine zSi (As := [.int x1, .int (nI 0), .int (nI 10000)]) (rest := []) (wr := [(a_t, .inr (11, [.int (nI 0), .ref a_t_now, .ref a_t_kept, .int t_isKept, .ref a_t_text, .int t_length, .ref a_t_passing, .int t_at, .int t_fault, .int t_open, .int t_asked, .int t_byGun, .int t_prizeMost, .ref a_t_order, .ref a_t_times, .int t_listed])), (a_t_now, .inl (cI, 1562, .inl t_now)), (a_t_passing, .inl (cI, 5000, .inl t_passing))]) [] [0, 1, 2] ⟨hx, hb, hml, hown, hts⟩ (mX11_isIn l D cB cI cZ H.size x1 (nI 0) (nI 10000) b1 e2) (va_cwS 3 hts gX11_plan_X11_isIn rfl rfl rfl (by decide +kernel) ⟨Nat.le_of_ble_eq_true rfl, Nat.le_of_ble_eq_true rfl⟩) hK hN hZ hP hD hS hA rfl rfl rfl rfl rfl rfl hl.1 rfl (lv_room (Nat.le_of_ble_eq_true rfl)) dX11_plan_10 ⟨Nat.le_of_ble_eq_true rfl, Nat.le_of_ble_eq_true rfl⟩ (fun H locs hP hD hS => ?_)
  have hP : va_P D vwCl [(a_t, .inr (11, [.int (nI 0), .ref a_t_now, .ref a_t_kept, .int t_isKept, .ref a_t_text, .int t_length, .ref a_t_passing, .int t_at, .int t_fault, .int t_open, .int t_asked, .int t_byGun, .int t_prizeMost, .ref a_t_order, .ref a_t_times, .int t_listed])), (a_t_now, .inl (cI, 1562, .inl t_now)), (a_t_passing, .inl (cI, 5000, .inl t_passing))] H := hP
  have hD : va_D A [(a_t, .inr (11, [.int (nI 0), .ref a_t_now, .ref a_t_kept, .int t_isKept, .ref a_t_text, .int t_length, .ref a_t_passing, .int t_at, .int t_fault, .int t_open, .int t_asked, .int t_byGun, .int t_prizeMost, .ref a_t_order, .ref a_t_times, .int t_listed])), (a_t_now, .inl (cI, 1562, .inl t_now)), (a_t_passing, .inl (cI, 5000, .inl t_passing))] := hD
  refine lv_if_eq (tgt := 27) hx hb dX11_plan_13 (by decide) (fun c3 => ?_) (fun c3 => ?_)
  · have h := zz_t h c3
    refine lv_iconst (v := (-1 : Int32)) hx hb dX11_plan_27 rfl ?_
    obtain ⟨j0_, g_⟩ := Prod.mk.inj (Option.some.inj h)
    obtain ⟨j1_, g_⟩ := Prod.mk.inj g_
    obtain ⟨j2_, g_⟩ := Prod.mk.inj g_
    have j3_ := g_
    subst j0_
    subst j1_
    subst j2_
    subst j3_
    refine W.widen (k := 1) (n := 6) (Nat.le_of_ble_eq_true rfl) (Nat.le_of_ble_eq_true rfl) ?_
    exact W.iret (v := (-1 : Int32)) hx hb hr (fun t ht hW => ⟨⟨_, (), rfl, rfl, zPost.of hP hD hK ht hW [0, 1, 2] rfl rfl rfl⟩, hS.F ht⟩) hS.2.2 dX11_plan_28
  · have h := zz_f h c3
    refine lv_iload_n hx hb dX11_plan_16 rfl (lv_at hl 2 rfl) ?_
    refine lv_iconst (v := (nI 0)) hx hb dX11_plan_17 rfl ?_
    refine lv_sipush (v := (nI 3000)) hx hb dX11_plan_18 rfl ?_
    obtain ⟨b4, e5, h⟩ := zz_b h
    refine zSi (As := [.int x2, .int (nI 0), .int (nI 3000)]) (rest := []) (wr := [(a_t, .inr (11, [.int (nI 0), .ref a_t_now, .ref a_t_kept, .int t_isKept, .ref a_t_text, .int t_length, .ref a_t_passing, .int t_at, .int t_fault, .int t_open, .int t_asked, .int t_byGun, .int t_prizeMost, .ref a_t_order, .ref a_t_times, .int t_listed])), (a_t_now, .inl (cI, 1562, .inl t_now)), (a_t_passing, .inl (cI, 5000, .inl t_passing))]) [] [0, 1, 2] ⟨hx, hb, hml, hown, hts⟩ (mX11_isIn l D cB cI cZ H.size x2 (nI 0) (nI 3000) b4 e5) (va_cwS 3 hts gX11_plan_X11_isIn rfl rfl rfl (by decide +kernel) ⟨Nat.le_of_ble_eq_true rfl, Nat.le_of_ble_eq_true rfl⟩) hK hN hZ hP hD hS hA rfl rfl rfl rfl rfl rfl hl.1 rfl (lv_room (Nat.le_of_ble_eq_true rfl)) dX11_plan_21 ⟨Nat.le_of_ble_eq_true rfl, Nat.le_of_ble_eq_true rfl⟩ (fun H locs hP hD hS => ?_)
    have hP : va_P D vwCl [(a_t, .inr (11, [.int (nI 0), .ref a_t_now, .ref a_t_kept, .int t_isKept, .ref a_t_text, .int t_length, .ref a_t_passing, .int t_at, .int t_fault, .int t_open, .int t_asked, .int t_byGun, .int t_prizeMost, .ref a_t_order, .ref a_t_times, .int t_listed])), (a_t_now, .inl (cI, 1562, .inl t_now)), (a_t_passing, .inl (cI, 5000, .inl t_passing))] H := hP
    have hD : va_D A [(a_t, .inr (11, [.int (nI 0), .ref a_t_now, .ref a_t_kept, .int t_isKept, .ref a_t_text, .int t_length, .ref a_t_passing, .int t_at, .int t_fault, .int t_open, .int t_asked, .int t_byGun, .int t_prizeMost, .ref a_t_order, .ref a_t_times, .int t_listed])), (a_t_now, .inl (cI, 1562, .inl t_now)), (a_t_passing, .inl (cI, 5000, .inl t_passing))] := hD
    refine lv_if_ne (tgt := 29) hx hb dX11_plan_24 (by decide) (fun c6 => ?_) (fun c6 => ?_)
    · have h := zz_f h c6
      refine lv_bipush (v := (nI 6)) hx hb dX11_plan_29 rfl ?_
      refine znewi (N' := 6) hx hb (hts _ kX11_plan_2) hK hP hD hS hA (by decide) rfl (Nat.le_of_ble_eq_true rfl) (Nat.le_of_ble_eq_true rfl) (Nat.le_of_ble_eq_true rfl) dX11_plan_31 (fun a_new_31 H hP hD hS => ?_)
      have hP : va_P D vwCl [(a_t, .inr (11, [.int (nI 0), .ref a_t_now, .ref a_t_kept, .int t_isKept, .ref a_t_text, .int t_length, .ref a_t_passing, .int t_at, .int t_fault, .int t_open, .int t_asked, .int t_byGun, .int t_prizeMost, .ref a_t_order, .ref a_t_times, .int t_listed])), (a_t_now, .inl (cI, 1562, .inl t_now)), (a_t_passing, .inl (cI, 5000, .inl t_passing)), (a_new_31, .inl (cI, 6, .inl (fun _ => 0)))] H := hP
      have hD : va_D A [(a_t, .inr (11, [.int (nI 0), .ref a_t_now, .ref a_t_kept, .int t_isKept, .ref a_t_text, .int t_length, .ref a_t_passing, .int t_at, .int t_fault, .int t_open, .int t_asked, .int t_byGun, .int t_prizeMost, .ref a_t_order, .ref a_t_times, .int t_listed])), (a_t_now, .inl (cI, 1562, .inl t_now)), (a_t_passing, .inl (cI, 5000, .inl t_passing)), (a_new_31, .inl (cI, 6, .inl (fun _ => 0)))] := hD
      refine lv_astore_n (lv' := [(3, .ref a_new_31), (0, .ref a_t), (1, .int x1), (2, .int x2)]) hx hb dX11_plan_33 rfl hl (by decide) rfl (fun ls hl => ?_)
      refine lv_iconst (v := (nI 0)) hx hb dX11_plan_34 rfl ?_
      refine lv_istore (lv' := [(4, .int (nI 0)), (3, .ref a_new_31), (0, .ref a_t), (1, .int x1), (2, .int x2)]) hx hb dX11_plan_35 hl (by decide) rfl (fun ls hl => ?_)
      have X37_60 : ∀ (v4_37 : Int32) (t_31_37 : Nat → Int32) (H : Heap) (locs : List Loc) (ls : Array Slot), fX11_plan_L63 N x1 x2 (fun (v4_63 : Int32) (t_now_l63 : Nat → Int32) (t_passing_l63 : Nat → Int32) => fX11_plan_L162 t_31_37 (fun (v4_162 : Int32) (t_now_l162 : Nat → Int32) => some ((-1 : Int32), (nI 0), t_now_l162, t_passing_l63)) N (nI 0) t_now_l63) N (nI 0) t_now t_passing = some (r0, t_thrown', t_now', t_passing') → va_P D vwCl [(a_t, .inr (11, [.int (nI 0), .ref a_t_now, .ref a_t_kept, .int t_isKept, .ref a_t_text, .int t_length, .ref a_t_passing, .int t_at, .int t_fault, .int t_open, .int t_asked, .int t_byGun, .int t_prizeMost, .ref a_t_order, .ref a_t_times, .int t_listed])), (a_t_now, .inl (cI, 1562, .inl t_now)), (a_t_passing, .inl (cI, 5000, .inl t_passing)), (a_new_31, .inl (cI, 6, .inl t_31_37))] H → va_D A [(a_t, .inr (11, [.int (nI 0), .ref a_t_now, .ref a_t_kept, .int t_isKept, .ref a_t_text, .int t_length, .ref a_t_passing, .int t_at, .int t_fault, .int t_open, .int t_asked, .int t_byGun, .int t_prizeMost, .ref a_t_order, .ref a_t_times, .int t_listed])), (a_t_now, .inl (cI, 1562, .inl t_now)), (a_t_passing, .inl (cI, 5000, .inl t_passing)), (a_new_31, .inl (cI, 6, .inl t_31_37))] → va_S A s.heap H locs → lv_has ls 7 [(4, .int v4_37), (3, .ref a_new_31), (0, .ref a_t), (1, .int x1), (2, .int x2)] → W p l e (headSpec wsX11_plan ({ frames := 3, cells := 1, slots := 6, locals := 69 } : Room)).room s m #[Value.ref a_t, Value.int x1, Value.int x2] below meth c H locs 1 6 (MQ below (zQi r0 D (zT cB cI cZ) [(a_t, .inr (11, [.int t_thrown', .ref a_t_now, .ref a_t_kept, .int t_isKept, .ref a_t_text, .int t_length, .ref a_t_passing, .int t_at, .int t_fault, .int t_open, .int t_asked, .int t_byGun, .int t_prizeMost, .ref a_t_order, .ref a_t_times, .int t_listed])), (a_t_now, .inl (cI, 1562, .inl t_now')), (a_t_passing, .inl (cI, 5000, .inl t_passing'))] A) #[Value.ref a_t, Value.int x1, Value.int x2] s 1 6 A) (F0 m 60 ls []) := by
        intro v4_37 t_31_37 H locs ls h hP hD hS hl
        refine lv_iconst (v := (nI 0)) hx hb dX11_plan_60 rfl ?_
        refine lv_istore (lv' := [(4, .int (nI 0)), (3, .ref a_new_31), (0, .ref a_t), (1, .int x1), (2, .int x2)]) hx hb dX11_plan_61 hl (by decide) rfl (fun ls hl => ?_)
        have X63_159 : ∀ (v4_63 : Int32) (t_now_l63 : Nat → Int32) (t_passing_l63 : Nat → Int32) (H : Heap) (locs : List Loc) (ls : Array Slot), fX11_plan_L162 t_31_37 (fun (v4_162 : Int32) (t_now_l162 : Nat → Int32) => some ((-1 : Int32), (nI 0), t_now_l162, t_passing_l63)) N (nI 0) t_now_l63 = some (r0, t_thrown', t_now', t_passing') → va_P D vwCl [(a_t, .inr (11, [.int (nI 0), .ref a_t_now, .ref a_t_kept, .int t_isKept, .ref a_t_text, .int t_length, .ref a_t_passing, .int t_at, .int t_fault, .int t_open, .int t_asked, .int t_byGun, .int t_prizeMost, .ref a_t_order, .ref a_t_times, .int t_listed])), (a_t_now, .inl (cI, 1562, .inl t_now_l63)), (a_t_passing, .inl (cI, 5000, .inl t_passing_l63)), (a_new_31, .inl (cI, 6, .inl t_31_37))] H → va_D A [(a_t, .inr (11, [.int (nI 0), .ref a_t_now, .ref a_t_kept, .int t_isKept, .ref a_t_text, .int t_length, .ref a_t_passing, .int t_at, .int t_fault, .int t_open, .int t_asked, .int t_byGun, .int t_prizeMost, .ref a_t_order, .ref a_t_times, .int t_listed])), (a_t_now, .inl (cI, 1562, .inl t_now_l63)), (a_t_passing, .inl (cI, 5000, .inl t_passing_l63)), (a_new_31, .inl (cI, 6, .inl t_31_37))] → va_S A s.heap H locs → lv_has ls 7 [(4, .int v4_63), (3, .ref a_new_31), (0, .ref a_t), (1, .int x1), (2, .int x2)] → W p l e (headSpec wsX11_plan ({ frames := 3, cells := 1, slots := 6, locals := 69 } : Room)).room s m #[Value.ref a_t, Value.int x1, Value.int x2] below meth c H locs 1 6 (MQ below (zQi r0 D (zT cB cI cZ) [(a_t, .inr (11, [.int t_thrown', .ref a_t_now, .ref a_t_kept, .int t_isKept, .ref a_t_text, .int t_length, .ref a_t_passing, .int t_at, .int t_fault, .int t_open, .int t_asked, .int t_byGun, .int t_prizeMost, .ref a_t_order, .ref a_t_times, .int t_listed])), (a_t_now, .inl (cI, 1562, .inl t_now')), (a_t_passing, .inl (cI, 5000, .inl t_passing'))] A) #[Value.ref a_t, Value.int x1, Value.int x2] s 1 6 A) (F0 m 159 ls []) := by
          intro v4_63 t_now_l63 t_passing_l63 H locs ls h hP hD hS hl
          refine lv_iconst (v := (nI 0)) hx hb dX11_plan_159 rfl ?_
          refine lv_istore (lv' := [(4, .int (nI 0)), (3, .ref a_new_31), (0, .ref a_t), (1, .int x1), (2, .int x2)]) hx hb dX11_plan_160 hl (by decide) rfl (fun ls hl => ?_)
          have X162_189 : ∀ (v4_162 : Int32) (t_now_l162 : Nat → Int32) (H : Heap) (locs : List Loc) (ls : Array Slot), some ((-1 : Int32), (nI 0), t_now_l162, t_passing_l63) = some (r0, t_thrown', t_now', t_passing') → va_P D vwCl [(a_t, .inr (11, [.int (nI 0), .ref a_t_now, .ref a_t_kept, .int t_isKept, .ref a_t_text, .int t_length, .ref a_t_passing, .int t_at, .int t_fault, .int t_open, .int t_asked, .int t_byGun, .int t_prizeMost, .ref a_t_order, .ref a_t_times, .int t_listed])), (a_t_now, .inl (cI, 1562, .inl t_now_l162)), (a_t_passing, .inl (cI, 5000, .inl t_passing_l63)), (a_new_31, .inl (cI, 6, .inl t_31_37))] H → va_D A [(a_t, .inr (11, [.int (nI 0), .ref a_t_now, .ref a_t_kept, .int t_isKept, .ref a_t_text, .int t_length, .ref a_t_passing, .int t_at, .int t_fault, .int t_open, .int t_asked, .int t_byGun, .int t_prizeMost, .ref a_t_order, .ref a_t_times, .int t_listed])), (a_t_now, .inl (cI, 1562, .inl t_now_l162)), (a_t_passing, .inl (cI, 5000, .inl t_passing_l63)), (a_new_31, .inl (cI, 6, .inl t_31_37))] → va_S A s.heap H locs → lv_has ls 7 [(4, .int v4_162), (3, .ref a_new_31), (0, .ref a_t), (1, .int x1), (2, .int x2)] → W p l e (headSpec wsX11_plan ({ frames := 3, cells := 1, slots := 6, locals := 69 } : Room)).room s m #[Value.ref a_t, Value.int x1, Value.int x2] below meth c H locs 1 6 (MQ below (zQi r0 D (zT cB cI cZ) [(a_t, .inr (11, [.int t_thrown', .ref a_t_now, .ref a_t_kept, .int t_isKept, .ref a_t_text, .int t_length, .ref a_t_passing, .int t_at, .int t_fault, .int t_open, .int t_asked, .int t_byGun, .int t_prizeMost, .ref a_t_order, .ref a_t_times, .int t_listed])), (a_t_now, .inl (cI, 1562, .inl t_now')), (a_t_passing, .inl (cI, 5000, .inl t_passing'))] A) #[Value.ref a_t, Value.int x1, Value.int x2] s 1 6 A) (F0 m 189 ls []) := by
            intro v4_162 t_now_l162 H locs ls h hP hD hS hl
            refine lv_iconst (v := (-1 : Int32)) hx hb dX11_plan_189 rfl ?_
            obtain ⟨j0_, g_⟩ := Prod.mk.inj (Option.some.inj h)
            obtain ⟨j1_, g_⟩ := Prod.mk.inj g_
            obtain ⟨j2_, g_⟩ := Prod.mk.inj g_
            have j3_ := g_
            subst j0_
            subst j1_
            subst j2_
            subst j3_
            refine W.widen (k := 1) (n := 6) (Nat.le_of_ble_eq_true rfl) (Nat.le_of_ble_eq_true rfl) ?_
            exact W.iret (v := (-1 : Int32)) hx hb hr (fun t ht hW => ⟨⟨_, (), rfl, rfl, zPost.of hP hD hK ht hW [0, 1, 2] rfl rfl rfl⟩, hS.F ht⟩) hS.2.2 dX11_plan_190
          have L162 : ∀ (n : Nat) (v4_162 : Int32) (t_now_l162 : Nat → Int32) (H : Heap) (locs : List Loc) (ls : Array Slot), fX11_plan_L162 t_31_37 (fun (v4_162 : Int32) (t_now_l162 : Nat → Int32) => some ((-1 : Int32), (nI 0), t_now_l162, t_passing_l63)) n v4_162 t_now_l162 = some (r0, t_thrown', t_now', t_passing') → va_P D vwCl [(a_t, .inr (11, [.int (nI 0), .ref a_t_now, .ref a_t_kept, .int t_isKept, .ref a_t_text, .int t_length, .ref a_t_passing, .int t_at, .int t_fault, .int t_open, .int t_asked, .int t_byGun, .int t_prizeMost, .ref a_t_order, .ref a_t_times, .int t_listed])), (a_t_now, .inl (cI, 1562, .inl t_now_l162)), (a_t_passing, .inl (cI, 5000, .inl t_passing_l63)), (a_new_31, .inl (cI, 6, .inl t_31_37))] H → va_D A [(a_t, .inr (11, [.int (nI 0), .ref a_t_now, .ref a_t_kept, .int t_isKept, .ref a_t_text, .int t_length, .ref a_t_passing, .int t_at, .int t_fault, .int t_open, .int t_asked, .int t_byGun, .int t_prizeMost, .ref a_t_order, .ref a_t_times, .int t_listed])), (a_t_now, .inl (cI, 1562, .inl t_now_l162)), (a_t_passing, .inl (cI, 5000, .inl t_passing_l63)), (a_new_31, .inl (cI, 6, .inl t_31_37))] → va_S A s.heap H locs → lv_has ls 7 [(4, .int v4_162), (3, .ref a_new_31), (0, .ref a_t), (1, .int x1), (2, .int x2)] → W p l e (headSpec wsX11_plan ({ frames := 3, cells := 1, slots := 6, locals := 69 } : Room)).room s m #[Value.ref a_t, Value.int x1, Value.int x2] below meth c H locs 1 6 (MQ below (zQi r0 D (zT cB cI cZ) [(a_t, .inr (11, [.int t_thrown', .ref a_t_now, .ref a_t_kept, .int t_isKept, .ref a_t_text, .int t_length, .ref a_t_passing, .int t_at, .int t_fault, .int t_open, .int t_asked, .int t_byGun, .int t_prizeMost, .ref a_t_order, .ref a_t_times, .int t_listed])), (a_t_now, .inl (cI, 1562, .inl t_now')), (a_t_passing, .inl (cI, 5000, .inl t_passing'))] A) #[Value.ref a_t, Value.int x1, Value.int x2] s 1 6 A) (F0 m 162 ls []) := by
            intro n
            induction n with
            | zero => intro _ _ H locs ls h hP hD hS hl; cases h
            | succ n162 ih162 =>
              intro v4_162 t_now_l162 H locs ls h hP hD hS hl
              rw [fX11_plan_L162.eq_2] at h
              refine lv_iload hx hb dX11_plan_162 (lv_at hl 0 rfl) ?_
              refine lv_bipush (v := (nI 6)) hx hb dX11_plan_164 rfl ?_
              refine lv_icmp_ge (tgt := 189) hx hb dX11_plan_166 (by decide) (fun c7 => ?_) (fun c7 => ?_)
              · have h := zz_t h c7
                exact X162_189 v4_162 t_now_l162 _ _ _ h (hP.sub [0, 1, 2, 3] rfl) (hD.sub [0, 1, 2, 3] rfl rfl) hS (lv_sub hl [0, 1, 2, 3, 4] rfl)
              · have h := zz_f h c7
                refine lv_aload_n hx hb dX11_plan_169 rfl (lv_at hl 2 rfl) ?_
                refine va_get (D := D) (ci := 11) (C := RX11) (T := TX11) (N := 16) hx hb hts qX11_plan_X11 hown hK hP 0 rfl rfl 1 (by decide) (hts _ kX11_plan_3) (fun _ h9 => h9) rfl dX11_plan_170 ?_
                refine lv_bipush (v := (nI 56)) hx hb dX11_plan_173 rfl ?_
                refine lv_iload hx hb dX11_plan_175 (lv_at hl 0 rfl) ?_
                refine lv_iadd hx hb dX11_plan_177 ?_
                refine lv_aload_n hx hb dX11_plan_178 rfl (lv_at hl 1 rfl) ?_
                refine lv_iload hx hb dX11_plan_179 (lv_at hl 0 rfl) ?_
                obtain ⟨i8, h⟩ := zz_i h
                refine va_iald hx hb hK hP 3 1 rfl rfl i8 dX11_plan_181 ?_
                obtain ⟨i9, h⟩ := zz_i h
                refine va_iast hx hb hK hP hD hS 1 1 rfl rfl i9 dX11_plan_182 (fun H locs hP hD hS => ?_)
                have hP : va_P D vwCl [(a_t, .inr (11, [.int (nI 0), .ref a_t_now, .ref a_t_kept, .int t_isKept, .ref a_t_text, .int t_length, .ref a_t_passing, .int t_at, .int t_fault, .int t_open, .int t_asked, .int t_byGun, .int t_prizeMost, .ref a_t_order, .ref a_t_times, .int t_listed])), (a_t_now, .inl (cI, 1562, .inl (upd t_now_l162 (((nI 56) + v4_162)).toNatClampNeg (t_31_37 (v4_162).toNatClampNeg)))), (a_t_passing, .inl (cI, 5000, .inl t_passing_l63)), (a_new_31, .inl (cI, 6, .inl t_31_37))] H := hP
                have hD : va_D A [(a_t, .inr (11, [.int (nI 0), .ref a_t_now, .ref a_t_kept, .int t_isKept, .ref a_t_text, .int t_length, .ref a_t_passing, .int t_at, .int t_fault, .int t_open, .int t_asked, .int t_byGun, .int t_prizeMost, .ref a_t_order, .ref a_t_times, .int t_listed])), (a_t_now, .inl (cI, 1562, .inl (upd t_now_l162 (((nI 56) + v4_162)).toNatClampNeg (t_31_37 (v4_162).toNatClampNeg)))), (a_t_passing, .inl (cI, 5000, .inl t_passing_l63)), (a_new_31, .inl (cI, 6, .inl t_31_37))] := hD
                refine lv_iinc (v := (v4_162 + (nI 1))) (lv' := [(4, .int (v4_162 + (nI 1))), (3, .ref a_new_31), (0, .ref a_t), (1, .int x1), (2, .int x2)]) hx hb dX11_plan_183 hl (k := 0) rfl rfl (by decide) rfl (fun ls hl => ?_)
                refine lv_goto (tgt := 162) hx hb dX11_plan_186 (by decide) ?_
                exact ih162 (v4_162 + (nI 1)) (upd t_now_l162 (((nI 56) + v4_162)).toNatClampNeg (t_31_37 (v4_162).toNatClampNeg)) _ _ _ h (hP.sub [0, 1, 2, 3] rfl) (hD.sub [0, 1, 2, 3] rfl rfl) hS (lv_sub hl [0, 1, 2, 3, 4] rfl)
          exact L162 N (nI 0) t_now_l63 _ _ _ h hP hD hS hl
        have L63 : ∀ (n : Nat) (v4_63 : Int32) (t_now_l63 : Nat → Int32) (t_passing_l63 : Nat → Int32) (H : Heap) (locs : List Loc) (ls : Array Slot), fX11_plan_L63 N x1 x2 (fun (v4_63 : Int32) (t_now_l63 : Nat → Int32) (t_passing_l63 : Nat → Int32) => fX11_plan_L162 t_31_37 (fun (v4_162 : Int32) (t_now_l162 : Nat → Int32) => some ((-1 : Int32), (nI 0), t_now_l162, t_passing_l63)) N (nI 0) t_now_l63) n v4_63 t_now_l63 t_passing_l63 = some (r0, t_thrown', t_now', t_passing') → va_P D vwCl [(a_t, .inr (11, [.int (nI 0), .ref a_t_now, .ref a_t_kept, .int t_isKept, .ref a_t_text, .int t_length, .ref a_t_passing, .int t_at, .int t_fault, .int t_open, .int t_asked, .int t_byGun, .int t_prizeMost, .ref a_t_order, .ref a_t_times, .int t_listed])), (a_t_now, .inl (cI, 1562, .inl t_now_l63)), (a_t_passing, .inl (cI, 5000, .inl t_passing_l63)), (a_new_31, .inl (cI, 6, .inl t_31_37))] H → va_D A [(a_t, .inr (11, [.int (nI 0), .ref a_t_now, .ref a_t_kept, .int t_isKept, .ref a_t_text, .int t_length, .ref a_t_passing, .int t_at, .int t_fault, .int t_open, .int t_asked, .int t_byGun, .int t_prizeMost, .ref a_t_order, .ref a_t_times, .int t_listed])), (a_t_now, .inl (cI, 1562, .inl t_now_l63)), (a_t_passing, .inl (cI, 5000, .inl t_passing_l63)), (a_new_31, .inl (cI, 6, .inl t_31_37))] → va_S A s.heap H locs → lv_has ls 7 [(4, .int v4_63), (3, .ref a_new_31), (0, .ref a_t), (1, .int x1), (2, .int x2)] → W p l e (headSpec wsX11_plan ({ frames := 3, cells := 1, slots := 6, locals := 69 } : Room)).room s m #[Value.ref a_t, Value.int x1, Value.int x2] below meth c H locs 1 6 (MQ below (zQi r0 D (zT cB cI cZ) [(a_t, .inr (11, [.int t_thrown', .ref a_t_now, .ref a_t_kept, .int t_isKept, .ref a_t_text, .int t_length, .ref a_t_passing, .int t_at, .int t_fault, .int t_open, .int t_asked, .int t_byGun, .int t_prizeMost, .ref a_t_order, .ref a_t_times, .int t_listed])), (a_t_now, .inl (cI, 1562, .inl t_now')), (a_t_passing, .inl (cI, 5000, .inl t_passing'))] A) #[Value.ref a_t, Value.int x1, Value.int x2] s 1 6 A) (F0 m 63 ls []) := by
          intro n
          induction n with
          | zero => intro _ _ _ H locs ls h hP hD hS hl; cases h
          | succ n63 ih63 =>
            intro v4_63 t_now_l63 t_passing_l63 H locs ls h hP hD hS hl
            rw [fX11_plan_L63.eq_2] at h
            refine lv_iload hx hb dX11_plan_63 (lv_at hl 0 rfl) ?_
            refine lv_iload_n hx hb dX11_plan_65 rfl (lv_at hl 4 rfl) ?_
            refine lv_icmp_gt (tgt := 159) hx hb dX11_plan_66 (by decide) (fun c10 => ?_) (fun c10 => ?_)
            · have h := zz_t h c10
              exact X63_159 v4_63 t_now_l63 t_passing_l63 _ _ _ h (hP.sub [0, 1, 2, 3] rfl) (hD.sub [0, 1, 2, 3] rfl rfl) hS (lv_sub hl [0, 1, 2, 3, 4] rfl)
            · have h := zz_f h c10
              refine lv_iconst (v := (nI 0)) hx hb dX11_plan_69 rfl ?_
              refine lv_istore (lv' := [(5, .int (nI 0)), (4, .int v4_63), (3, .ref a_new_31), (0, .ref a_t), (1, .int x1), (2, .int x2)]) hx hb dX11_plan_70 hl (by decide) rfl (fun ls hl => ?_)
              have X72_102 : ∀ (v5_72 : Int32) (t_now_l72 : Nat → Int32) (H : Heap) (locs : List Loc) (ls : Array Slot), fX11_plan_L108 N t_now_l72 (fun (v5_108 : Bool) (v6_108 : Int32) (t_passing_l108 : Nat → Int32) => (if (zb v5_108) = 0 then (fX11_plan_L63 N x1 x2 (fun (v4_63 : Int32) (t_now_l63 : Nat → Int32) (t_passing_l63 : Nat → Int32) => fX11_plan_L162 t_31_37 (fun (v4_162 : Int32) (t_now_l162 : Nat → Int32) => some ((-1 : Int32), (nI 0), t_now_l162, t_passing_l63)) N (nI 0) t_now_l63) n63 (v4_63 + (nI 1)) t_now_l72 t_passing_l108) else some (v4_63, (nI 0), t_now_l72, t_passing_l108))) N true (nI 0) t_passing_l63 = some (r0, t_thrown', t_now', t_passing') → va_P D vwCl [(a_t, .inr (11, [.int (nI 0), .ref a_t_now, .ref a_t_kept, .int t_isKept, .ref a_t_text, .int t_length, .ref a_t_passing, .int t_at, .int t_fault, .int t_open, .int t_asked, .int t_byGun, .int t_prizeMost, .ref a_t_order, .ref a_t_times, .int t_listed])), (a_t_now, .inl (cI, 1562, .inl t_now_l72)), (a_t_passing, .inl (cI, 5000, .inl t_passing_l63)), (a_new_31, .inl (cI, 6, .inl t_31_37))] H → va_D A [(a_t, .inr (11, [.int (nI 0), .ref a_t_now, .ref a_t_kept, .int t_isKept, .ref a_t_text, .int t_length, .ref a_t_passing, .int t_at, .int t_fault, .int t_open, .int t_asked, .int t_byGun, .int t_prizeMost, .ref a_t_order, .ref a_t_times, .int t_listed])), (a_t_now, .inl (cI, 1562, .inl t_now_l72)), (a_t_passing, .inl (cI, 5000, .inl t_passing_l63)), (a_new_31, .inl (cI, 6, .inl t_31_37))] → va_S A s.heap H locs → lv_has ls 7 [(5, .int v5_72), (4, .int v4_63), (3, .ref a_new_31), (0, .ref a_t), (1, .int x1), (2, .int x2)] → W p l e (headSpec wsX11_plan ({ frames := 3, cells := 1, slots := 6, locals := 69 } : Room)).room s m #[Value.ref a_t, Value.int x1, Value.int x2] below meth c H locs 1 6 (MQ below (zQi r0 D (zT cB cI cZ) [(a_t, .inr (11, [.int t_thrown', .ref a_t_now, .ref a_t_kept, .int t_isKept, .ref a_t_text, .int t_length, .ref a_t_passing, .int t_at, .int t_fault, .int t_open, .int t_asked, .int t_byGun, .int t_prizeMost, .ref a_t_order, .ref a_t_times, .int t_listed])), (a_t_now, .inl (cI, 1562, .inl t_now')), (a_t_passing, .inl (cI, 5000, .inl t_passing'))] A) #[Value.ref a_t, Value.int x1, Value.int x2] s 1 6 A) (F0 m 102 ls []) := by
                intro v5_72 t_now_l72 H locs ls h hP hD hS hl
                refine lv_iconst (v := (nI 1)) hx hb dX11_plan_102 rfl ?_
                refine lv_istore (lv' := [(5, .int (nI 1)), (4, .int v4_63), (3, .ref a_new_31), (0, .ref a_t), (1, .int x1), (2, .int x2)]) hx hb dX11_plan_103 hl (by decide) rfl (fun ls hl => ?_)
                refine lv_iconst (v := (nI 0)) hx hb dX11_plan_105 rfl ?_
                refine lv_istore (lv' := [(6, .int (nI 0)), (5, .int (nI 1)), (4, .int v4_63), (3, .ref a_new_31), (0, .ref a_t), (1, .int x1), (2, .int x2)]) hx hb dX11_plan_106 hl (by decide) rfl (fun ls hl => ?_)
                have X108_145 : ∀ (v5_108 : Bool) (v6_108 : Int32) (t_passing_l108 : Nat → Int32) (H : Heap) (locs : List Loc) (ls : Array Slot), (if (zb v5_108) = 0 then (fX11_plan_L63 N x1 x2 (fun (v4_63 : Int32) (t_now_l63 : Nat → Int32) (t_passing_l63 : Nat → Int32) => fX11_plan_L162 t_31_37 (fun (v4_162 : Int32) (t_now_l162 : Nat → Int32) => some ((-1 : Int32), (nI 0), t_now_l162, t_passing_l63)) N (nI 0) t_now_l63) n63 (v4_63 + (nI 1)) t_now_l72 t_passing_l108) else some (v4_63, (nI 0), t_now_l72, t_passing_l108)) = some (r0, t_thrown', t_now', t_passing') → va_P D vwCl [(a_t, .inr (11, [.int (nI 0), .ref a_t_now, .ref a_t_kept, .int t_isKept, .ref a_t_text, .int t_length, .ref a_t_passing, .int t_at, .int t_fault, .int t_open, .int t_asked, .int t_byGun, .int t_prizeMost, .ref a_t_order, .ref a_t_times, .int t_listed])), (a_t_now, .inl (cI, 1562, .inl t_now_l72)), (a_t_passing, .inl (cI, 5000, .inl t_passing_l108)), (a_new_31, .inl (cI, 6, .inl t_31_37))] H → va_D A [(a_t, .inr (11, [.int (nI 0), .ref a_t_now, .ref a_t_kept, .int t_isKept, .ref a_t_text, .int t_length, .ref a_t_passing, .int t_at, .int t_fault, .int t_open, .int t_asked, .int t_byGun, .int t_prizeMost, .ref a_t_order, .ref a_t_times, .int t_listed])), (a_t_now, .inl (cI, 1562, .inl t_now_l72)), (a_t_passing, .inl (cI, 5000, .inl t_passing_l108)), (a_new_31, .inl (cI, 6, .inl t_31_37))] → va_S A s.heap H locs → lv_has ls 7 [(6, .int v6_108), (5, .int (zb v5_108)), (4, .int v4_63), (3, .ref a_new_31), (0, .ref a_t), (1, .int x1), (2, .int x2)] → W p l e (headSpec wsX11_plan ({ frames := 3, cells := 1, slots := 6, locals := 69 } : Room)).room s m #[Value.ref a_t, Value.int x1, Value.int x2] below meth c H locs 1 6 (MQ below (zQi r0 D (zT cB cI cZ) [(a_t, .inr (11, [.int t_thrown', .ref a_t_now, .ref a_t_kept, .int t_isKept, .ref a_t_text, .int t_length, .ref a_t_passing, .int t_at, .int t_fault, .int t_open, .int t_asked, .int t_byGun, .int t_prizeMost, .ref a_t_order, .ref a_t_times, .int t_listed])), (a_t_now, .inl (cI, 1562, .inl t_now')), (a_t_passing, .inl (cI, 5000, .inl t_passing'))] A) #[Value.ref a_t, Value.int x1, Value.int x2] s 1 6 A) (F0 m 145 ls []) := by
                  intro v5_108 v6_108 t_passing_l108 H locs ls h hP hD hS hl
                  refine lv_iload hx hb dX11_plan_145 (lv_at hl 1 rfl) ?_
                  refine lv_if_eq (tgt := 153) hx hb dX11_plan_147 (by decide) (fun c11 => ?_) (fun c11 => ?_)
                  · have h := zz_t h c11
                    refine lv_iinc (v := (v4_63 + (nI 1))) (lv' := [(4, .int (v4_63 + (nI 1))), (6, .int v6_108), (5, .int (zb v5_108)), (3, .ref a_new_31), (0, .ref a_t), (1, .int x1), (2, .int x2)]) hx hb dX11_plan_153 hl (k := 2) rfl rfl (by decide) rfl (fun ls hl => ?_)
                    refine lv_goto (tgt := 63) hx hb dX11_plan_156 (by decide) ?_
                    exact ih63 (v4_63 + (nI 1)) t_now_l72 t_passing_l108 _ _ _ h (hP.sub [0, 1, 2, 3] rfl) (hD.sub [0, 1, 2, 3] rfl rfl) hS (lv_sub hl [0, 3, 4, 5, 6] rfl)
                  · have h := zz_f h c11
                    refine lv_iload hx hb dX11_plan_150 (lv_at hl 2 rfl) ?_
                    obtain ⟨j0_, g_⟩ := Prod.mk.inj (Option.some.inj h)
                    obtain ⟨j1_, g_⟩ := Prod.mk.inj g_
                    obtain ⟨j2_, g_⟩ := Prod.mk.inj g_
                    have j3_ := g_
                    subst j0_
                    subst j1_
                    subst j2_
                    subst j3_
                    refine W.widen (k := 1) (n := 6) (Nat.le_of_ble_eq_true rfl) (Nat.le_of_ble_eq_true rfl) ?_
                    exact W.iret (v := v4_63) hx hb hr (fun t ht hW => ⟨⟨_, (), rfl, rfl, zPost.of hP hD hK ht hW [0, 1, 2] rfl rfl rfl⟩, hS.F ht⟩) hS.2.2 dX11_plan_152
                have L108 : ∀ (n : Nat) (v5_108 : Bool) (v6_108 : Int32) (t_passing_l108 : Nat → Int32) (H : Heap) (locs : List Loc) (ls : Array Slot), fX11_plan_L108 N t_now_l72 (fun (v5_108 : Bool) (v6_108 : Int32) (t_passing_l108 : Nat → Int32) => (if (zb v5_108) = 0 then (fX11_plan_L63 N x1 x2 (fun (v4_63 : Int32) (t_now_l63 : Nat → Int32) (t_passing_l63 : Nat → Int32) => fX11_plan_L162 t_31_37 (fun (v4_162 : Int32) (t_now_l162 : Nat → Int32) => some ((-1 : Int32), (nI 0), t_now_l162, t_passing_l63)) N (nI 0) t_now_l63) n63 (v4_63 + (nI 1)) t_now_l72 t_passing_l108) else some (v4_63, (nI 0), t_now_l72, t_passing_l108))) n v5_108 v6_108 t_passing_l108 = some (r0, t_thrown', t_now', t_passing') → va_P D vwCl [(a_t, .inr (11, [.int (nI 0), .ref a_t_now, .ref a_t_kept, .int t_isKept, .ref a_t_text, .int t_length, .ref a_t_passing, .int t_at, .int t_fault, .int t_open, .int t_asked, .int t_byGun, .int t_prizeMost, .ref a_t_order, .ref a_t_times, .int t_listed])), (a_t_now, .inl (cI, 1562, .inl t_now_l72)), (a_t_passing, .inl (cI, 5000, .inl t_passing_l108)), (a_new_31, .inl (cI, 6, .inl t_31_37))] H → va_D A [(a_t, .inr (11, [.int (nI 0), .ref a_t_now, .ref a_t_kept, .int t_isKept, .ref a_t_text, .int t_length, .ref a_t_passing, .int t_at, .int t_fault, .int t_open, .int t_asked, .int t_byGun, .int t_prizeMost, .ref a_t_order, .ref a_t_times, .int t_listed])), (a_t_now, .inl (cI, 1562, .inl t_now_l72)), (a_t_passing, .inl (cI, 5000, .inl t_passing_l108)), (a_new_31, .inl (cI, 6, .inl t_31_37))] → va_S A s.heap H locs → lv_has ls 7 [(6, .int v6_108), (5, .int (zb v5_108)), (4, .int v4_63), (3, .ref a_new_31), (0, .ref a_t), (1, .int x1), (2, .int x2)] → W p l e (headSpec wsX11_plan ({ frames := 3, cells := 1, slots := 6, locals := 69 } : Room)).room s m #[Value.ref a_t, Value.int x1, Value.int x2] below meth c H locs 1 6 (MQ below (zQi r0 D (zT cB cI cZ) [(a_t, .inr (11, [.int t_thrown', .ref a_t_now, .ref a_t_kept, .int t_isKept, .ref a_t_text, .int t_length, .ref a_t_passing, .int t_at, .int t_fault, .int t_open, .int t_asked, .int t_byGun, .int t_prizeMost, .ref a_t_order, .ref a_t_times, .int t_listed])), (a_t_now, .inl (cI, 1562, .inl t_now')), (a_t_passing, .inl (cI, 5000, .inl t_passing'))] A) #[Value.ref a_t, Value.int x1, Value.int x2] s 1 6 A) (F0 m 108 ls []) := by
                  intro n
                  induction n with
                  | zero => intro _ _ _ H locs ls h hP hD hS hl; cases h
                  | succ n108 ih108 =>
                    intro v5_108 v6_108 t_passing_l108 H locs ls h hP hD hS hl
                    rw [fX11_plan_L108.eq_2] at h
                    refine lv_iload hx hb dX11_plan_108 (lv_at hl 0 rfl) ?_
                    refine lv_aload_n hx hb dX11_plan_110 rfl (lv_at hl 4 rfl) ?_
                    obtain ⟨r12, e13, h⟩ := zz_b h
                    refine zVi (As := []) (rest := [.int v6_108]) (C := RX11) (wr := [(a_t_passing, .inl (cI, 5000, .inl t_passing_l108)), (a_new_31, .inl (cI, 6, .inl t_31_37))]) [0, 1] [2, 3] 0 ⟨hx, hb, hml, hown, hts⟩ (mX11_mats l D cB cI cZ a_t a_t_now a_t_kept a_t_text a_t_passing a_t_order a_t_times (nI 0) t_isKept t_length t_at t_fault t_open t_asked t_byGun t_prizeMost t_listed t_now_l72 H.size r12 e13) (cwV 0 hts gX11_plan_X11_mats rfl rfl rfl (by decide +kernel) ⟨Nat.le_of_ble_eq_true rfl, Nat.le_of_ble_eq_true rfl⟩) hK hN hZ hP hD hS hA rfl rfl rfl rfl rfl rfl rfl rfl hl.1 rfl (lv_room (Nat.le_of_ble_eq_true rfl)) dX11_plan_111 ⟨Nat.le_of_ble_eq_true rfl, Nat.le_of_ble_eq_true rfl⟩ (fun H locs hP hD hS => ?_)
                    have hP : va_P D vwCl [(a_t_passing, .inl (cI, 5000, .inl t_passing_l108)), (a_new_31, .inl (cI, 6, .inl t_31_37)), (a_t, .inr (11, [.int (nI 0), .ref a_t_now, .ref a_t_kept, .int t_isKept, .ref a_t_text, .int t_length, .ref a_t_passing, .int t_at, .int t_fault, .int t_open, .int t_asked, .int t_byGun, .int t_prizeMost, .ref a_t_order, .ref a_t_times, .int t_listed])), (a_t_now, .inl (cI, 1562, .inl t_now_l72))] H := hP
                    have hD : va_D A [(a_t_passing, .inl (cI, 5000, .inl t_passing_l108)), (a_new_31, .inl (cI, 6, .inl t_31_37)), (a_t, .inr (11, [.int (nI 0), .ref a_t_now, .ref a_t_kept, .int t_isKept, .ref a_t_text, .int t_length, .ref a_t_passing, .int t_at, .int t_fault, .int t_open, .int t_asked, .int t_byGun, .int t_prizeMost, .ref a_t_order, .ref a_t_times, .int t_listed])), (a_t_now, .inl (cI, 1562, .inl t_now_l72))] := hD
                    refine lv_icmp_ge (tgt := 145) hx hb dX11_plan_114 (by decide) (fun c14 => ?_) (fun c14 => ?_)
                    · have h := zz_t h c14
                      exact X108_145 v5_108 v6_108 t_passing_l108 _ _ _ h (hP.sub [2, 3, 0, 1] rfl) (hD.sub [2, 3, 0, 1] rfl rfl) hS (lv_sub hl [0, 1, 2, 3, 4, 5, 6] rfl)
                    · have h := zz_f h c14
                      refine lv_iload hx hb dX11_plan_117 (lv_at hl 1 rfl) ?_
                      refine lv_if_eq (tgt := 145) hx hb dX11_plan_119 (by decide) (fun c15 => ?_) (fun c15 => ?_)
                      · have h := zz_t h c15
                        exact X108_145 v5_108 v6_108 t_passing_l108 _ _ _ h (hP.sub [2, 3, 0, 1] rfl) (hD.sub [2, 3, 0, 1] rfl rfl) hS (lv_sub hl [0, 1, 2, 3, 4, 5, 6] rfl)
                      · have h := zz_f h c15
                        refine lv_aload_n hx hb dX11_plan_122 rfl (lv_at hl 4 rfl) ?_
                        refine lv_iload hx hb dX11_plan_123 (lv_at hl 0 rfl) ?_
                        obtain ⟨⟨r16, t_passing_r17⟩, e18, h⟩ := zz_b h
                        dsimp only at h
                        refine zVi (As := [.int v6_108]) (rest := []) (C := RX11) (wr := [(a_new_31, .inl (cI, 6, .inl t_31_37))]) [2, 3, 0] [1] 0 ⟨hx, hb, hml, hown, hts⟩ (mX11_firstTight l D cB cI cZ a_t a_t_now a_t_kept a_t_text a_t_passing a_t_order a_t_times (nI 0) t_isKept t_length t_at t_fault t_open t_asked t_byGun t_prizeMost t_listed t_now_l72 t_passing_l108 H.size v6_108 N r16 t_passing_r17 e18) (cwV 1 hts gX11_plan_X11_firstTight rfl rfl rfl (by decide +kernel) ⟨Nat.le_of_ble_eq_true rfl, Nat.le_of_ble_eq_true rfl⟩) hK hN hZ hP hD hS hA rfl rfl rfl rfl rfl rfl rfl rfl hl.1 rfl (lv_room (Nat.le_of_ble_eq_true rfl)) dX11_plan_125 ⟨Nat.le_of_ble_eq_true rfl, Nat.le_of_ble_eq_true rfl⟩ (fun H locs hP hD hS => ?_)
                        have hP : va_P D vwCl [(a_new_31, .inl (cI, 6, .inl t_31_37)), (a_t, .inr (11, [.int (nI 0), .ref a_t_now, .ref a_t_kept, .int t_isKept, .ref a_t_text, .int t_length, .ref a_t_passing, .int t_at, .int t_fault, .int t_open, .int t_asked, .int t_byGun, .int t_prizeMost, .ref a_t_order, .ref a_t_times, .int t_listed])), (a_t_now, .inl (cI, 1562, .inl t_now_l72)), (a_t_passing, .inl (cI, 5000, .inl t_passing_r17))] H := hP
                        have hD : va_D A [(a_new_31, .inl (cI, 6, .inl t_31_37)), (a_t, .inr (11, [.int (nI 0), .ref a_t_now, .ref a_t_kept, .int t_isKept, .ref a_t_text, .int t_length, .ref a_t_passing, .int t_at, .int t_fault, .int t_open, .int t_asked, .int t_byGun, .int t_prizeMost, .ref a_t_order, .ref a_t_times, .int t_listed])), (a_t_now, .inl (cI, 1562, .inl t_now_l72)), (a_t_passing, .inl (cI, 5000, .inl t_passing_r17))] := hD
                        refine lv_iconst (v := (-1 : Int32)) hx hb dX11_plan_128 rfl ?_
                        refine lv_icmp_ne (tgt := 136) hx hb dX11_plan_129 (by decide) (fun c19 => ?_) (fun c19 => ?_)
                        · have h := zz_f h c19
                          refine lv_iconst (v := (nI 0)) hx hb dX11_plan_136 rfl ?_
                          refine lv_istore (lv' := [(5, .int (nI 0)), (6, .int v6_108), (4, .int v4_63), (3, .ref a_new_31), (0, .ref a_t), (1, .int x1), (2, .int x2)]) hx hb dX11_plan_137 hl (by decide) rfl (fun ls hl => ?_)
                          refine lv_iinc (v := (v6_108 + (nI 1))) (lv' := [(6, .int (v6_108 + (nI 1))), (5, .int (nI 0)), (4, .int v4_63), (3, .ref a_new_31), (0, .ref a_t), (1, .int x1), (2, .int x2)]) hx hb dX11_plan_139 hl (k := 1) rfl rfl (by decide) rfl (fun ls hl => ?_)
                          refine lv_goto (tgt := 108) hx hb dX11_plan_142 (by decide) ?_
                          exact ih108 false (v6_108 + (nI 1)) t_passing_r17 _ _ _ h (hP.sub [1, 2, 3, 0] rfl) (hD.sub [1, 2, 3, 0] rfl rfl) hS (lv_sub hl [0, 1, 2, 3, 4, 5, 6] rfl)
                        · have h := zz_t h c19
                          refine lv_iconst (v := (nI 1)) hx hb dX11_plan_132 rfl ?_
                          refine lv_goto (tgt := 137) hx hb dX11_plan_133 (by decide) ?_
                          refine lv_istore (lv' := [(5, .int (nI 1)), (6, .int v6_108), (4, .int v4_63), (3, .ref a_new_31), (0, .ref a_t), (1, .int x1), (2, .int x2)]) hx hb dX11_plan_137 hl (by decide) rfl (fun ls hl => ?_)
                          refine lv_iinc (v := (v6_108 + (nI 1))) (lv' := [(6, .int (v6_108 + (nI 1))), (5, .int (nI 1)), (4, .int v4_63), (3, .ref a_new_31), (0, .ref a_t), (1, .int x1), (2, .int x2)]) hx hb dX11_plan_139 hl (k := 1) rfl rfl (by decide) rfl (fun ls hl => ?_)
                          refine lv_goto (tgt := 108) hx hb dX11_plan_142 (by decide) ?_
                          exact ih108 true (v6_108 + (nI 1)) t_passing_r17 _ _ _ h (hP.sub [1, 2, 3, 0] rfl) (hD.sub [1, 2, 3, 0] rfl rfl) hS (lv_sub hl [0, 1, 2, 3, 4, 5, 6] rfl)
                exact L108 N true (nI 0) t_passing_l63 _ _ _ h hP hD hS hl
              have L72 : ∀ (n : Nat) (v5_72 : Int32) (t_now_l72 : Nat → Int32) (H : Heap) (locs : List Loc) (ls : Array Slot), fX11_plan_L72 x1 v4_63 (fun (v5_72 : Int32) (t_now_l72 : Nat → Int32) => fX11_plan_L108 N t_now_l72 (fun (v5_108 : Bool) (v6_108 : Int32) (t_passing_l108 : Nat → Int32) => (if (zb v5_108) = 0 then (fX11_plan_L63 N x1 x2 (fun (v4_63 : Int32) (t_now_l63 : Nat → Int32) (t_passing_l63 : Nat → Int32) => fX11_plan_L162 t_31_37 (fun (v4_162 : Int32) (t_now_l162 : Nat → Int32) => some ((-1 : Int32), (nI 0), t_now_l162, t_passing_l63)) N (nI 0) t_now_l63) n63 (v4_63 + (nI 1)) t_now_l72 t_passing_l108) else some (v4_63, (nI 0), t_now_l72, t_passing_l108))) N true (nI 0) t_passing_l63) n v5_72 t_now_l72 = some (r0, t_thrown', t_now', t_passing') → va_P D vwCl [(a_t, .inr (11, [.int (nI 0), .ref a_t_now, .ref a_t_kept, .int t_isKept, .ref a_t_text, .int t_length, .ref a_t_passing, .int t_at, .int t_fault, .int t_open, .int t_asked, .int t_byGun, .int t_prizeMost, .ref a_t_order, .ref a_t_times, .int t_listed])), (a_t_now, .inl (cI, 1562, .inl t_now_l72)), (a_t_passing, .inl (cI, 5000, .inl t_passing_l63)), (a_new_31, .inl (cI, 6, .inl t_31_37))] H → va_D A [(a_t, .inr (11, [.int (nI 0), .ref a_t_now, .ref a_t_kept, .int t_isKept, .ref a_t_text, .int t_length, .ref a_t_passing, .int t_at, .int t_fault, .int t_open, .int t_asked, .int t_byGun, .int t_prizeMost, .ref a_t_order, .ref a_t_times, .int t_listed])), (a_t_now, .inl (cI, 1562, .inl t_now_l72)), (a_t_passing, .inl (cI, 5000, .inl t_passing_l63)), (a_new_31, .inl (cI, 6, .inl t_31_37))] → va_S A s.heap H locs → lv_has ls 7 [(5, .int v5_72), (4, .int v4_63), (3, .ref a_new_31), (0, .ref a_t), (1, .int x1), (2, .int x2)] → W p l e (headSpec wsX11_plan ({ frames := 3, cells := 1, slots := 6, locals := 69 } : Room)).room s m #[Value.ref a_t, Value.int x1, Value.int x2] below meth c H locs 1 6 (MQ below (zQi r0 D (zT cB cI cZ) [(a_t, .inr (11, [.int t_thrown', .ref a_t_now, .ref a_t_kept, .int t_isKept, .ref a_t_text, .int t_length, .ref a_t_passing, .int t_at, .int t_fault, .int t_open, .int t_asked, .int t_byGun, .int t_prizeMost, .ref a_t_order, .ref a_t_times, .int t_listed])), (a_t_now, .inl (cI, 1562, .inl t_now')), (a_t_passing, .inl (cI, 5000, .inl t_passing'))] A) #[Value.ref a_t, Value.int x1, Value.int x2] s 1 6 A) (F0 m 72 ls []) := by
                intro n
                induction n with
                | zero => intro _ _ H locs ls h hP hD hS hl; cases h
                | succ n72 ih72 =>
                  intro v5_72 t_now_l72 H locs ls h hP hD hS hl
                  rw [fX11_plan_L72.eq_2] at h
                  refine lv_iload hx hb dX11_plan_72 (lv_at hl 0 rfl) ?_
                  refine lv_bipush (v := (nI 6)) hx hb dX11_plan_74 rfl ?_
                  refine lv_icmp_ge (tgt := 102) hx hb dX11_plan_76 (by decide) (fun c20 => ?_) (fun c20 => ?_)
                  · have h := zz_t h c20
                    exact X72_102 v5_72 t_now_l72 _ _ _ h (hP.sub [0, 1, 2, 3] rfl) (hD.sub [0, 1, 2, 3] rfl rfl) hS (lv_sub hl [0, 1, 2, 3, 4, 5] rfl)
                  · have h := zz_f h c20
                    refine lv_aload_n hx hb dX11_plan_79 rfl (lv_at hl 3 rfl) ?_
                    refine va_get (D := D) (ci := 11) (C := RX11) (T := TX11) (N := 16) hx hb hts qX11_plan_X11 hown hK hP 0 rfl rfl 1 (by decide) (hts _ kX11_plan_3) (fun _ h9 => h9) rfl dX11_plan_80 ?_
                    refine lv_bipush (v := (nI 56)) hx hb dX11_plan_83 rfl ?_
                    refine lv_iload hx hb dX11_plan_85 (lv_at hl 0 rfl) ?_
                    refine lv_iadd hx hb dX11_plan_87 ?_
                    refine lv_iload_n hx hb dX11_plan_88 rfl (lv_at hl 4 rfl) ?_
                    refine lv_iload hx hb dX11_plan_89 (lv_at hl 0 rfl) ?_
                    refine lv_iload hx hb dX11_plan_91 (lv_at hl 1 rfl) ?_
                    refine lv_imul hx hb dX11_plan_93 ?_
                    refine lv_iadd hx hb dX11_plan_94 ?_
                    obtain ⟨i21, h⟩ := zz_i h
                    refine va_iast hx hb hK hP hD hS 1 1 rfl rfl i21 dX11_plan_95 (fun H locs hP hD hS => ?_)
                    have hP : va_P D vwCl [(a_t, .inr (11, [.int (nI 0), .ref a_t_now, .ref a_t_kept, .int t_isKept, .ref a_t_text, .int t_length, .ref a_t_passing, .int t_at, .int t_fault, .int t_open, .int t_asked, .int t_byGun, .int t_prizeMost, .ref a_t_order, .ref a_t_times, .int t_listed])), (a_t_now, .inl (cI, 1562, .inl (upd t_now_l72 (((nI 56) + v5_72)).toNatClampNeg (x1 + (v5_72 * v4_63))))), (a_t_passing, .inl (cI, 5000, .inl t_passing_l63)), (a_new_31, .inl (cI, 6, .inl t_31_37))] H := hP
                    have hD : va_D A [(a_t, .inr (11, [.int (nI 0), .ref a_t_now, .ref a_t_kept, .int t_isKept, .ref a_t_text, .int t_length, .ref a_t_passing, .int t_at, .int t_fault, .int t_open, .int t_asked, .int t_byGun, .int t_prizeMost, .ref a_t_order, .ref a_t_times, .int t_listed])), (a_t_now, .inl (cI, 1562, .inl (upd t_now_l72 (((nI 56) + v5_72)).toNatClampNeg (x1 + (v5_72 * v4_63))))), (a_t_passing, .inl (cI, 5000, .inl t_passing_l63)), (a_new_31, .inl (cI, 6, .inl t_31_37))] := hD
                    refine lv_iinc (v := (v5_72 + (nI 1))) (lv' := [(5, .int (v5_72 + (nI 1))), (4, .int v4_63), (3, .ref a_new_31), (0, .ref a_t), (1, .int x1), (2, .int x2)]) hx hb dX11_plan_96 hl (k := 0) rfl rfl (by decide) rfl (fun ls hl => ?_)
                    refine lv_goto (tgt := 72) hx hb dX11_plan_99 (by decide) ?_
                    exact ih72 (v5_72 + (nI 1)) (upd t_now_l72 (((nI 56) + v5_72)).toNatClampNeg (x1 + (v5_72 * v4_63))) _ _ _ h (hP.sub [0, 1, 2, 3] rfl) (hD.sub [0, 1, 2, 3] rfl rfl) hS (lv_sub hl [0, 1, 2, 3, 4, 5] rfl)
              exact L72 N (nI 0) t_now_l63 _ _ _ h hP hD hS hl
        exact L63 N (nI 0) t_now t_passing _ _ _ h hP hD hS hl
      have L37 : ∀ (n : Nat) (v4_37 : Int32) (t_31_37 : Nat → Int32) (H : Heap) (locs : List Loc) (ls : Array Slot), fX11_plan_L37 t_now (fun (v4_37 : Int32) (t_31_37 : Nat → Int32) => fX11_plan_L63 N x1 x2 (fun (v4_63 : Int32) (t_now_l63 : Nat → Int32) (t_passing_l63 : Nat → Int32) => fX11_plan_L162 t_31_37 (fun (v4_162 : Int32) (t_now_l162 : Nat → Int32) => some ((-1 : Int32), (nI 0), t_now_l162, t_passing_l63)) N (nI 0) t_now_l63) N (nI 0) t_now t_passing) n v4_37 t_31_37 = some (r0, t_thrown', t_now', t_passing') → va_P D vwCl [(a_t, .inr (11, [.int (nI 0), .ref a_t_now, .ref a_t_kept, .int t_isKept, .ref a_t_text, .int t_length, .ref a_t_passing, .int t_at, .int t_fault, .int t_open, .int t_asked, .int t_byGun, .int t_prizeMost, .ref a_t_order, .ref a_t_times, .int t_listed])), (a_t_now, .inl (cI, 1562, .inl t_now)), (a_t_passing, .inl (cI, 5000, .inl t_passing)), (a_new_31, .inl (cI, 6, .inl t_31_37))] H → va_D A [(a_t, .inr (11, [.int (nI 0), .ref a_t_now, .ref a_t_kept, .int t_isKept, .ref a_t_text, .int t_length, .ref a_t_passing, .int t_at, .int t_fault, .int t_open, .int t_asked, .int t_byGun, .int t_prizeMost, .ref a_t_order, .ref a_t_times, .int t_listed])), (a_t_now, .inl (cI, 1562, .inl t_now)), (a_t_passing, .inl (cI, 5000, .inl t_passing)), (a_new_31, .inl (cI, 6, .inl t_31_37))] → va_S A s.heap H locs → lv_has ls 7 [(4, .int v4_37), (3, .ref a_new_31), (0, .ref a_t), (1, .int x1), (2, .int x2)] → W p l e (headSpec wsX11_plan ({ frames := 3, cells := 1, slots := 6, locals := 69 } : Room)).room s m #[Value.ref a_t, Value.int x1, Value.int x2] below meth c H locs 1 6 (MQ below (zQi r0 D (zT cB cI cZ) [(a_t, .inr (11, [.int t_thrown', .ref a_t_now, .ref a_t_kept, .int t_isKept, .ref a_t_text, .int t_length, .ref a_t_passing, .int t_at, .int t_fault, .int t_open, .int t_asked, .int t_byGun, .int t_prizeMost, .ref a_t_order, .ref a_t_times, .int t_listed])), (a_t_now, .inl (cI, 1562, .inl t_now')), (a_t_passing, .inl (cI, 5000, .inl t_passing'))] A) #[Value.ref a_t, Value.int x1, Value.int x2] s 1 6 A) (F0 m 37 ls []) := by
        intro n
        induction n with
        | zero => intro _ _ H locs ls h hP hD hS hl; cases h
        | succ n37 ih37 =>
          intro v4_37 t_31_37 H locs ls h hP hD hS hl
          rw [fX11_plan_L37.eq_2] at h
          refine lv_iload hx hb dX11_plan_37 (lv_at hl 0 rfl) ?_
          refine lv_bipush (v := (nI 6)) hx hb dX11_plan_39 rfl ?_
          refine lv_icmp_ge (tgt := 60) hx hb dX11_plan_41 (by decide) (fun c22 => ?_) (fun c22 => ?_)
          · have h := zz_t h c22
            exact X37_60 v4_37 t_31_37 _ _ _ h (hP.sub [0, 1, 2, 3] rfl) (hD.sub [0, 1, 2, 3] rfl rfl) hS (lv_sub hl [0, 1, 2, 3, 4] rfl)
          · have h := zz_f h c22
            refine lv_aload_n hx hb dX11_plan_44 rfl (lv_at hl 1 rfl) ?_
            refine lv_iload hx hb dX11_plan_45 (lv_at hl 0 rfl) ?_
            refine lv_aload_n hx hb dX11_plan_47 rfl (lv_at hl 2 rfl) ?_
            refine lv_iload hx hb dX11_plan_48 (lv_at hl 0 rfl) ?_
            obtain ⟨r23, e24, h⟩ := zz_b h
            refine zVi (As := [.int v4_37]) (rest := [.int v4_37, .ref a_new_31]) (C := RX11) (wr := [(a_t_passing, .inl (cI, 5000, .inl t_passing)), (a_new_31, .inl (cI, 6, .inl t_31_37))]) [0, 1] [2, 3] 0 ⟨hx, hb, hml, hown, hts⟩ (mX11_gunOf l D cB cI cZ a_t a_t_now a_t_kept a_t_text a_t_passing a_t_order a_t_times (nI 0) t_isKept t_length t_at t_fault t_open t_asked t_byGun t_prizeMost t_listed t_now H.size v4_37 r23 e24) (cwV 1 hts gX11_plan_X11_gunOf rfl rfl rfl (by decide +kernel) ⟨Nat.le_of_ble_eq_true rfl, Nat.le_of_ble_eq_true rfl⟩) hK hN hZ hP hD hS hA rfl rfl rfl rfl rfl rfl rfl rfl hl.1 rfl (lv_room (Nat.le_of_ble_eq_true rfl)) dX11_plan_50 ⟨Nat.le_of_ble_eq_true rfl, Nat.le_of_ble_eq_true rfl⟩ (fun H locs hP hD hS => ?_)
            have hP : va_P D vwCl [(a_t_passing, .inl (cI, 5000, .inl t_passing)), (a_new_31, .inl (cI, 6, .inl t_31_37)), (a_t, .inr (11, [.int (nI 0), .ref a_t_now, .ref a_t_kept, .int t_isKept, .ref a_t_text, .int t_length, .ref a_t_passing, .int t_at, .int t_fault, .int t_open, .int t_asked, .int t_byGun, .int t_prizeMost, .ref a_t_order, .ref a_t_times, .int t_listed])), (a_t_now, .inl (cI, 1562, .inl t_now))] H := hP
            have hD : va_D A [(a_t_passing, .inl (cI, 5000, .inl t_passing)), (a_new_31, .inl (cI, 6, .inl t_31_37)), (a_t, .inr (11, [.int (nI 0), .ref a_t_now, .ref a_t_kept, .int t_isKept, .ref a_t_text, .int t_length, .ref a_t_passing, .int t_at, .int t_fault, .int t_open, .int t_asked, .int t_byGun, .int t_prizeMost, .ref a_t_order, .ref a_t_times, .int t_listed])), (a_t_now, .inl (cI, 1562, .inl t_now))] := hD
            obtain ⟨i25, h⟩ := zz_i h
            refine va_iast hx hb hK hP hD hS 1 1 rfl rfl i25 dX11_plan_53 (fun H locs hP hD hS => ?_)
            have hP : va_P D vwCl [(a_t_passing, .inl (cI, 5000, .inl t_passing)), (a_new_31, .inl (cI, 6, .inl (upd t_31_37 (v4_37).toNatClampNeg r23))), (a_t, .inr (11, [.int (nI 0), .ref a_t_now, .ref a_t_kept, .int t_isKept, .ref a_t_text, .int t_length, .ref a_t_passing, .int t_at, .int t_fault, .int t_open, .int t_asked, .int t_byGun, .int t_prizeMost, .ref a_t_order, .ref a_t_times, .int t_listed])), (a_t_now, .inl (cI, 1562, .inl t_now))] H := hP
            have hD : va_D A [(a_t_passing, .inl (cI, 5000, .inl t_passing)), (a_new_31, .inl (cI, 6, .inl (upd t_31_37 (v4_37).toNatClampNeg r23))), (a_t, .inr (11, [.int (nI 0), .ref a_t_now, .ref a_t_kept, .int t_isKept, .ref a_t_text, .int t_length, .ref a_t_passing, .int t_at, .int t_fault, .int t_open, .int t_asked, .int t_byGun, .int t_prizeMost, .ref a_t_order, .ref a_t_times, .int t_listed])), (a_t_now, .inl (cI, 1562, .inl t_now))] := hD
            refine lv_iinc (v := (v4_37 + (nI 1))) (lv' := [(4, .int (v4_37 + (nI 1))), (3, .ref a_new_31), (0, .ref a_t), (1, .int x1), (2, .int x2)]) hx hb dX11_plan_54 hl (k := 0) rfl rfl (by decide) rfl (fun ls hl => ?_)
            refine lv_goto (tgt := 37) hx hb dX11_plan_57 (by decide) ?_
            exact ih37 (v4_37 + (nI 1)) (upd t_31_37 (v4_37).toNatClampNeg r23) _ _ _ h (hP.sub [2, 3, 0, 1] rfl) (hD.sub [2, 3, 0, 1] rfl rfl) hS (lv_sub hl [0, 1, 2, 3, 4] rfl)
      exact L37 N (nI 0) (fun _ => 0) _ _ _ h hP hD hS hl
    · have h := zz_t h c6
      refine lv_iconst (v := (-1 : Int32)) hx hb dX11_plan_27 rfl ?_
      obtain ⟨j0_, g_⟩ := Prod.mk.inj (Option.some.inj h)
      obtain ⟨j1_, g_⟩ := Prod.mk.inj g_
      obtain ⟨j2_, g_⟩ := Prod.mk.inj g_
      have j3_ := g_
      subst j0_
      subst j1_
      subst j2_
      subst j3_
      refine W.widen (k := 1) (n := 6) (Nat.le_of_ble_eq_true rfl) (Nat.le_of_ble_eq_true rfl) ?_
      exact W.iret (v := (-1 : Int32)) hx hb hr (fun t ht hW => ⟨⟨_, (), rfl, rfl, zPost.of hP hD hK ht hW [0, 1, 2] rfl rfl rfl⟩, hS.F ht⟩) hS.2.2 dX11_plan_28
/-! RunDeskModel.feed -/
theorem dX11_feed_0 : decode cX11_feed 0 = .ok (.aload_n 0, 1) := by decide +kernel
theorem dX11_feed_1 : decode cX11_feed 1 = .ok (.iconst 0, 1) := by decide +kernel
theorem dX11_feed_2 : decode cX11_feed 2 = .ok (.putfield 37, 3) := by decide +kernel
theorem dX11_feed_5 : decode cX11_feed 5 = .ok (.iconst 0, 1) := by decide +kernel
theorem dX11_feed_6 : decode cX11_feed 6 = .ok (.istore_n 2, 1) := by decide +kernel
theorem dX11_feed_7 : decode cX11_feed 7 = .ok (.bipush 24, 2) := by decide +kernel
theorem dX11_feed_9 : decode cX11_feed 9 = .ok (.istore_n 3, 1) := by decide +kernel
theorem dX11_feed_10 : decode cX11_feed 10 = .ok (.iload_n 3, 1) := by decide +kernel
theorem dX11_feed_11 : decode cX11_feed 11 = .ok (.ifCond .lt 27, 3) := by decide +kernel
theorem dX11_feed_14 : decode cX11_feed 14 = .ok (.iload_n 2, 1) := by decide +kernel
theorem dX11_feed_15 : decode cX11_feed 15 = .ok (.iload_n 1, 1) := by decide +kernel
theorem dX11_feed_16 : decode cX11_feed 16 = .ok (.iload_n 3, 1) := by decide +kernel
theorem dX11_feed_17 : decode cX11_feed 17 = .ok (.ishr, 1) := by decide +kernel
theorem dX11_feed_18 : decode cX11_feed 18 = .ok (.sipush 255, 3) := by decide +kernel
theorem dX11_feed_21 : decode cX11_feed 21 = .ok (.iand, 1) := by decide +kernel
theorem dX11_feed_22 : decode cX11_feed 22 = .ok (.ifCond .eq 7, 3) := by decide +kernel
theorem dX11_feed_25 : decode cX11_feed 25 = .ok (.iconst 1, 1) := by decide +kernel
theorem dX11_feed_26 : decode cX11_feed 26 = .ok (.goto 4, 3) := by decide +kernel
theorem dX11_feed_29 : decode cX11_feed 29 = .ok (.iconst 0, 1) := by decide +kernel
theorem dX11_feed_30 : decode cX11_feed 30 = .ok (.iadd, 1) := by decide +kernel
theorem dX11_feed_31 : decode cX11_feed 31 = .ok (.istore_n 2, 1) := by decide +kernel
theorem dX11_feed_32 : decode cX11_feed 32 = .ok (.iinc 3 (-8), 3) := by decide +kernel
theorem dX11_feed_35 : decode cX11_feed 35 = .ok (.goto (-25), 3) := by decide +kernel
theorem dX11_feed_38 : decode cX11_feed 38 = .ok (.aload_n 0, 1) := by decide +kernel
theorem dX11_feed_39 : decode cX11_feed 39 = .ok (.getfield 145, 3) := by decide +kernel
theorem dX11_feed_42 : decode cX11_feed 42 = .ok (.iload_n 2, 1) := by decide +kernel
theorem dX11_feed_43 : decode cX11_feed 43 = .ok (.iadd, 1) := by decide +kernel
theorem dX11_feed_44 : decode cX11_feed 44 = .ok (.sipush 200, 3) := by decide +kernel
theorem dX11_feed_47 : decode cX11_feed 47 = .ok (.if_icmp .le 5, 3) := by decide +kernel
theorem dX11_feed_50 : decode cX11_feed 50 = .ok (.iconst (-1), 1) := by decide +kernel
theorem dX11_feed_51 : decode cX11_feed 51 = .ok (.ireturn, 1) := by decide +kernel
theorem dX11_feed_52 : decode cX11_feed 52 = .ok (.bipush 24, 2) := by decide +kernel
theorem dX11_feed_54 : decode cX11_feed 54 = .ok (.istore_n 3, 1) := by decide +kernel
theorem dX11_feed_55 : decode cX11_feed 55 = .ok (.iload_n 3, 1) := by decide +kernel
theorem dX11_feed_56 : decode cX11_feed 56 = .ok (.ifCond .lt 45, 3) := by decide +kernel
theorem dX11_feed_59 : decode cX11_feed 59 = .ok (.iload_n 1, 1) := by decide +kernel
theorem dX11_feed_60 : decode cX11_feed 60 = .ok (.iload_n 3, 1) := by decide +kernel
theorem dX11_feed_61 : decode cX11_feed 61 = .ok (.ishr, 1) := by decide +kernel
theorem dX11_feed_62 : decode cX11_feed 62 = .ok (.sipush 255, 3) := by decide +kernel
theorem dX11_feed_65 : decode cX11_feed 65 = .ok (.iand, 1) := by decide +kernel
theorem dX11_feed_66 : decode cX11_feed 66 = .ok (.ifCond .ne 6, 3) := by decide +kernel
theorem dX11_feed_69 : decode cX11_feed 69 = .ok (.goto 26, 3) := by decide +kernel
theorem dX11_feed_72 : decode cX11_feed 72 = .ok (.aload_n 0, 1) := by decide +kernel
theorem dX11_feed_73 : decode cX11_feed 73 = .ok (.getfield 16, 3) := by decide +kernel
theorem dX11_feed_76 : decode cX11_feed 76 = .ok (.aload_n 0, 1) := by decide +kernel
theorem dX11_feed_77 : decode cX11_feed 77 = .ok (.getfield 145, 3) := by decide +kernel
theorem dX11_feed_80 : decode cX11_feed 80 = .ok (.iload_n 1, 1) := by decide +kernel
theorem dX11_feed_81 : decode cX11_feed 81 = .ok (.iload_n 3, 1) := by decide +kernel
theorem dX11_feed_82 : decode cX11_feed 82 = .ok (.ishr, 1) := by decide +kernel
theorem dX11_feed_83 : decode cX11_feed 83 = .ok (.i2b, 1) := by decide +kernel
theorem dX11_feed_84 : decode cX11_feed 84 = .ok (.bastore, 1) := by decide +kernel
theorem dX11_feed_85 : decode cX11_feed 85 = .ok (.aload_n 0, 1) := by decide +kernel
theorem dX11_feed_86 : decode cX11_feed 86 = .ok (.dup, 1) := by decide +kernel
theorem dX11_feed_87 : decode cX11_feed 87 = .ok (.getfield 145, 3) := by decide +kernel
theorem dX11_feed_90 : decode cX11_feed 90 = .ok (.iconst 1, 1) := by decide +kernel
theorem dX11_feed_91 : decode cX11_feed 91 = .ok (.iadd, 1) := by decide +kernel
theorem dX11_feed_92 : decode cX11_feed 92 = .ok (.putfield 145, 3) := by decide +kernel
theorem dX11_feed_95 : decode cX11_feed 95 = .ok (.iinc 3 (-8), 3) := by decide +kernel
theorem dX11_feed_98 : decode cX11_feed 98 = .ok (.goto (-43), 3) := by decide +kernel
theorem dX11_feed_101 : decode cX11_feed 101 = .ok (.aload_n 0, 1) := by decide +kernel
theorem dX11_feed_102 : decode cX11_feed 102 = .ok (.getfield 145, 3) := by decide +kernel
theorem dX11_feed_105 : decode cX11_feed 105 = .ok (.ireturn, 1) := by decide +kernel
theorem kX11_feed_0 : (.fieldLink RX11 37 "RunDeskModel" "thrown" "I" : Cond) ∈ wsX11_feed := List.mem_of_getElem? (i := 1) (by decide +kernel)
theorem qX11_feed_X11 : ∀ w ∈ wsX110, w ∈ wsX11_feed := fun _ h => List.mem_cons_of_mem _ (List.mem_append_right _ (h))
theorem kX11_feed_2 : (.fieldLink RX11 145 "RunDeskModel" "length" "I" : Cond) ∈ wsX11_feed := List.mem_of_getElem? (i := 2) (by decide +kernel)
theorem kX11_feed_3 : (.fieldLink RX11 16 "RunDeskModel" "text" "[B" : Cond) ∈ wsX11_feed := List.mem_of_getElem? (i := 3) (by decide +kernel)
set_option maxHeartbeats 4000000 in
set_option maxRecDepth 100000 in
theorem mX11_feed (l : Launch) (D : va_G) (cB cI cZ : ClassId) (a_t : Nat) (a_t_now : Nat) (a_t_kept : Nat) (a_t_text : Nat) (a_t_passing : Nat) (a_t_order : Nat) (a_t_times : Nat) (t_thrown : Int32) (t_isKept : Int32) (t_length : Int32) (t_at : Int32) (t_fault : Int32) (t_open : Int32) (t_asked : Int32) (t_byGun : Int32) (t_prizeMost : Int32) (t_listed : Int32) (t_text : Nat → Int32) (sz : Nat) (x1 : Int32) (N : Nat) (r0 : Int32) (t_length' : Int32) (t_thrown' : Int32) (t_text' : Nat → Int32) (h : fX11_feed N t_length t_thrown t_text x1 = some (r0, t_length', t_thrown', t_text')) : Met l yX11_feed wsX11_feed ({ frames := 0, cells := 0, slots := 0, locals := 0 } : Room) (va_Pc [.ref a_t, .int x1] (zPre D (zT cB cI cZ) [(a_t, .inr (11, [.int t_thrown, .ref a_t_now, .ref a_t_kept, .int t_isKept, .ref a_t_text, .int t_length, .ref a_t_passing, .int t_at, .int t_fault, .int t_open, .int t_asked, .int t_byGun, .int t_prizeMost, .ref a_t_order, .ref a_t_times, .int t_listed])), (a_t_text, .inl (cB, 200, .inl t_text))] sz)) (zQi r0 D (zT cB cI cZ) [(a_t, .inr (11, [.int t_thrown', .ref a_t_now, .ref a_t_kept, .int t_isKept, .ref a_t_text, .int t_length', .ref a_t_passing, .int t_at, .int t_fault, .int t_open, .int t_asked, .int t_byGun, .int t_prizeMost, .ref a_t_order, .ref a_t_times, .int t_listed])), (a_t_text, .inl (cB, 200, .inl t_text'))] (va_A [(a_t, .inr (11, [.int t_thrown, .ref a_t_now, .ref a_t_kept, .int t_isKept, .ref a_t_text, .int t_length, .ref a_t_passing, .int t_at, .int t_fault, .int t_open, .int t_asked, .int t_byGun, .int t_prizeMost, .ref a_t_order, .ref a_t_times, .int t_listed])), (a_t_text, .inl (cB, 200, .inl t_text))] sz)) 0 0 (va_A [(a_t, .inr (11, [.int t_thrown, .ref a_t_now, .ref a_t_kept, .int t_isKept, .ref a_t_text, .int t_length, .ref a_t_passing, .int t_at, .int t_fault, .int t_open, .int t_asked, .int t_byGun, .int t_prizeMost, .ref a_t_order, .ref a_t_times, .int t_listed])), (a_t_text, .inl (cB, 200, .inl t_text))] sz) := by
  refine Met.ofW (cc := cX11_feed) (maxL := 4) (ret := (some .int)) (by decide) rfl ?_
  intro p e s m args below meth c s₁ B hml hv
  obtain ⟨rfl, hsz, hP, hK, hN, hZ, hD0⟩ := hv
  have hx := B.exec
  have hb := B.bytes
  have hr := B.returns
  have hts := atoms_spec (ws := wsX11_feed) B.pre
  have hown : s.vm.findClass RX11 = some m.cls := findClass_of_methodNamed B.named
  have hlocks := B.notSynchronized
  subst hsz
  have hD := hD0.self (sz := s.heap.size)
  generalize hAe : va_A [(a_t, .inr (11, [.int t_thrown, .ref a_t_now, .ref a_t_kept, .int t_isKept, .ref a_t_text, .int t_length, .ref a_t_passing, .int t_at, .int t_fault, .int t_open, .int t_asked, .int t_byGun, .int t_prizeMost, .ref a_t_order, .ref a_t_times, .int t_listed])), (a_t_text, .inl (cB, 200, .inl t_text))] s.heap.size = A at hD hZ ⊢
  have hA : ∀ q : Nat, s.heap.size ≤ q → A q := fun q h => by rw [← hAe]; exact Or.inr h
  have hS : va_S A s.heap s.heap [] := va_S.rf
  have hl := lv_entry ([.ref a_t, .int x1]) (n := 4) (Nat.le_of_ble_eq_true rfl)
  rw [lg_entry_eq]
  generalize (lg_sl ([.ref a_t, .int x1]) ++ List.replicate (4 - (lg_sl ([.ref a_t, .int x1])).length) Slot.unset).toArray = ls at hl ⊢
  have hl : lv_has ls 4 [(0, .ref a_t), (1, .int x1)] := hl
  unfold fX11_feed at h
  refine lv_aload_n hx hb dX11_feed_0 rfl (lv_at hl 0 rfl) ?_
  refine lv_iconst (v := (nI 0)) hx hb dX11_feed_1 rfl ?_
  refine va_put (D := D) (ci := 11) (ty := .int) (C := RX11) (T := TX11) (N := 16) hx hb hts qX11_feed_X11 tyX11 tyX11_ok nmX11 hown hK hP hD hS 0 rfl rfl 0 (by decide) (hts _ kX11_feed_0) (fun _ h9 => h9) rfl (by decide +kernel) rfl (by first | rfl | exact zz_fit) (Nat.le_of_ble_eq_true rfl) dX11_feed_2 (fun H locs hP hD hS => ?_)
  have hP : va_P D vwCl [(a_t, .inr (11, [.int (nI 0), .ref a_t_now, .ref a_t_kept, .int t_isKept, .ref a_t_text, .int t_length, .ref a_t_passing, .int t_at, .int t_fault, .int t_open, .int t_asked, .int t_byGun, .int t_prizeMost, .ref a_t_order, .ref a_t_times, .int t_listed])), (a_t_text, .inl (cB, 200, .inl t_text))] H := hP
  have hD : va_D A [(a_t, .inr (11, [.int (nI 0), .ref a_t_now, .ref a_t_kept, .int t_isKept, .ref a_t_text, .int t_length, .ref a_t_passing, .int t_at, .int t_fault, .int t_open, .int t_asked, .int t_byGun, .int t_prizeMost, .ref a_t_order, .ref a_t_times, .int t_listed])), (a_t_text, .inl (cB, 200, .inl t_text))] := hD
  refine lv_iconst (v := (nI 0)) hx hb dX11_feed_5 rfl ?_
  refine lv_istore_n (lv' := [(2, .int (nI 0)), (0, .ref a_t), (1, .int x1)]) hx hb dX11_feed_6 rfl hl (by decide) rfl (fun ls hl => ?_)
  refine lv_bipush (v := (nI 24)) hx hb dX11_feed_7 rfl ?_
  refine lv_istore_n (lv' := [(3, .int (nI 24)), (2, .int (nI 0)), (0, .ref a_t), (1, .int x1)]) hx hb dX11_feed_9 rfl hl (by decide) rfl (fun ls hl => ?_)
  have X10_38 : ∀ (v2_10 : Int32) (v3_10 : Int32) (H : Heap) (locs : List Loc) (ls : Array Slot), (if (t_length + v2_10) ≤ (nI 200) then fX11_feed_L55 x1 (fun (v3_55 : Int32) (t_length_l55 : Int32) (t_text_l55 : Nat → Int32) => some (t_length_l55, t_length_l55, (nI 0), t_text_l55)) N (nI 24) t_length t_text else some ((-1 : Int32), t_length, (nI 0), t_text)) = some (r0, t_length', t_thrown', t_text') → va_P D vwCl [(a_t, .inr (11, [.int (nI 0), .ref a_t_now, .ref a_t_kept, .int t_isKept, .ref a_t_text, .int t_length, .ref a_t_passing, .int t_at, .int t_fault, .int t_open, .int t_asked, .int t_byGun, .int t_prizeMost, .ref a_t_order, .ref a_t_times, .int t_listed])), (a_t_text, .inl (cB, 200, .inl t_text))] H → va_D A [(a_t, .inr (11, [.int (nI 0), .ref a_t_now, .ref a_t_kept, .int t_isKept, .ref a_t_text, .int t_length, .ref a_t_passing, .int t_at, .int t_fault, .int t_open, .int t_asked, .int t_byGun, .int t_prizeMost, .ref a_t_order, .ref a_t_times, .int t_listed])), (a_t_text, .inl (cB, 200, .inl t_text))] → va_S A s.heap H locs → lv_has ls 4 [(3, .int v3_10), (2, .int v2_10), (0, .ref a_t), (1, .int x1)] → W p l e (headSpec wsX11_feed ({ frames := 0, cells := 0, slots := 0, locals := 0 } : Room)).room s m #[Value.ref a_t, Value.int x1] below meth c H locs 0 0 (MQ below (zQi r0 D (zT cB cI cZ) [(a_t, .inr (11, [.int t_thrown', .ref a_t_now, .ref a_t_kept, .int t_isKept, .ref a_t_text, .int t_length', .ref a_t_passing, .int t_at, .int t_fault, .int t_open, .int t_asked, .int t_byGun, .int t_prizeMost, .ref a_t_order, .ref a_t_times, .int t_listed])), (a_t_text, .inl (cB, 200, .inl t_text'))] A) #[Value.ref a_t, Value.int x1] s 0 0 A) (F0 m 38 ls []) := by
    intro v2_10 v3_10 H locs ls h hP hD hS hl
    refine lv_aload_n hx hb dX11_feed_38 rfl (lv_at hl 2 rfl) ?_
    refine va_get (D := D) (ci := 11) (C := RX11) (T := TX11) (N := 16) hx hb hts qX11_feed_X11 hown hK hP 0 rfl rfl 5 (by decide) (hts _ kX11_feed_2) (fun _ h9 => h9) rfl dX11_feed_39 ?_
    refine lv_iload_n hx hb dX11_feed_42 rfl (lv_at hl 1 rfl) ?_
    refine lv_iadd hx hb dX11_feed_43 ?_
    refine lv_sipush (v := (nI 200)) hx hb dX11_feed_44 rfl ?_
    refine lv_icmp_le (tgt := 52) hx hb dX11_feed_47 (by decide) (fun c1 => ?_) (fun c1 => ?_)
    · have h := zz_t h c1
      refine lv_bipush (v := (nI 24)) hx hb dX11_feed_52 rfl ?_
      refine lv_istore_n (lv' := [(3, .int (nI 24)), (2, .int v2_10), (0, .ref a_t), (1, .int x1)]) hx hb dX11_feed_54 rfl hl (by decide) rfl (fun ls hl => ?_)
      have X55_101 : ∀ (v3_55 : Int32) (t_length_l55 : Int32) (t_text_l55 : Nat → Int32) (H : Heap) (locs : List Loc) (ls : Array Slot), some (t_length_l55, t_length_l55, (nI 0), t_text_l55) = some (r0, t_length', t_thrown', t_text') → va_P D vwCl [(a_t, .inr (11, [.int (nI 0), .ref a_t_now, .ref a_t_kept, .int t_isKept, .ref a_t_text, .int t_length_l55, .ref a_t_passing, .int t_at, .int t_fault, .int t_open, .int t_asked, .int t_byGun, .int t_prizeMost, .ref a_t_order, .ref a_t_times, .int t_listed])), (a_t_text, .inl (cB, 200, .inl t_text_l55))] H → va_D A [(a_t, .inr (11, [.int (nI 0), .ref a_t_now, .ref a_t_kept, .int t_isKept, .ref a_t_text, .int t_length_l55, .ref a_t_passing, .int t_at, .int t_fault, .int t_open, .int t_asked, .int t_byGun, .int t_prizeMost, .ref a_t_order, .ref a_t_times, .int t_listed])), (a_t_text, .inl (cB, 200, .inl t_text_l55))] → va_S A s.heap H locs → lv_has ls 4 [(3, .int v3_55), (2, .int v2_10), (0, .ref a_t), (1, .int x1)] → W p l e (headSpec wsX11_feed ({ frames := 0, cells := 0, slots := 0, locals := 0 } : Room)).room s m #[Value.ref a_t, Value.int x1] below meth c H locs 0 0 (MQ below (zQi r0 D (zT cB cI cZ) [(a_t, .inr (11, [.int t_thrown', .ref a_t_now, .ref a_t_kept, .int t_isKept, .ref a_t_text, .int t_length', .ref a_t_passing, .int t_at, .int t_fault, .int t_open, .int t_asked, .int t_byGun, .int t_prizeMost, .ref a_t_order, .ref a_t_times, .int t_listed])), (a_t_text, .inl (cB, 200, .inl t_text'))] A) #[Value.ref a_t, Value.int x1] s 0 0 A) (F0 m 101 ls []) := by
        intro v3_55 t_length_l55 t_text_l55 H locs ls h hP hD hS hl
        refine lv_aload_n hx hb dX11_feed_101 rfl (lv_at hl 2 rfl) ?_
        refine va_get (D := D) (ci := 11) (C := RX11) (T := TX11) (N := 16) hx hb hts qX11_feed_X11 hown hK hP 0 rfl rfl 5 (by decide) (hts _ kX11_feed_2) (fun _ h9 => h9) rfl dX11_feed_102 ?_
        obtain ⟨j0_, g_⟩ := Prod.mk.inj (Option.some.inj h)
        obtain ⟨j1_, g_⟩ := Prod.mk.inj g_
        obtain ⟨j2_, g_⟩ := Prod.mk.inj g_
        have j3_ := g_
        subst j0_
        subst j1_
        subst j2_
        subst j3_
        exact W.iret (v := t_length_l55) hx hb hr (fun t ht hW => ⟨⟨_, (), rfl, rfl, zPost.of hP hD hK ht hW [0, 1] rfl rfl rfl⟩, hS.F ht⟩) hS.2.2 dX11_feed_105
      have L55 : ∀ (n : Nat) (v3_55 : Int32) (t_length_l55 : Int32) (t_text_l55 : Nat → Int32) (H : Heap) (locs : List Loc) (ls : Array Slot), fX11_feed_L55 x1 (fun (v3_55 : Int32) (t_length_l55 : Int32) (t_text_l55 : Nat → Int32) => some (t_length_l55, t_length_l55, (nI 0), t_text_l55)) n v3_55 t_length_l55 t_text_l55 = some (r0, t_length', t_thrown', t_text') → va_P D vwCl [(a_t, .inr (11, [.int (nI 0), .ref a_t_now, .ref a_t_kept, .int t_isKept, .ref a_t_text, .int t_length_l55, .ref a_t_passing, .int t_at, .int t_fault, .int t_open, .int t_asked, .int t_byGun, .int t_prizeMost, .ref a_t_order, .ref a_t_times, .int t_listed])), (a_t_text, .inl (cB, 200, .inl t_text_l55))] H → va_D A [(a_t, .inr (11, [.int (nI 0), .ref a_t_now, .ref a_t_kept, .int t_isKept, .ref a_t_text, .int t_length_l55, .ref a_t_passing, .int t_at, .int t_fault, .int t_open, .int t_asked, .int t_byGun, .int t_prizeMost, .ref a_t_order, .ref a_t_times, .int t_listed])), (a_t_text, .inl (cB, 200, .inl t_text_l55))] → va_S A s.heap H locs → lv_has ls 4 [(3, .int v3_55), (2, .int v2_10), (0, .ref a_t), (1, .int x1)] → W p l e (headSpec wsX11_feed ({ frames := 0, cells := 0, slots := 0, locals := 0 } : Room)).room s m #[Value.ref a_t, Value.int x1] below meth c H locs 0 0 (MQ below (zQi r0 D (zT cB cI cZ) [(a_t, .inr (11, [.int t_thrown', .ref a_t_now, .ref a_t_kept, .int t_isKept, .ref a_t_text, .int t_length', .ref a_t_passing, .int t_at, .int t_fault, .int t_open, .int t_asked, .int t_byGun, .int t_prizeMost, .ref a_t_order, .ref a_t_times, .int t_listed])), (a_t_text, .inl (cB, 200, .inl t_text'))] A) #[Value.ref a_t, Value.int x1] s 0 0 A) (F0 m 55 ls []) := by
        intro n
        induction n with
        | zero => intro _ _ _ H locs ls h hP hD hS hl; cases h
        | succ n55 ih55 =>
          intro v3_55 t_length_l55 t_text_l55 H locs ls h hP hD hS hl
          rw [fX11_feed_L55.eq_2] at h
          refine lv_iload_n hx hb dX11_feed_55 rfl (lv_at hl 0 rfl) ?_
          refine lv_if_lt (tgt := 101) hx hb dX11_feed_56 (by decide) (fun c2 => ?_) (fun c2 => ?_)
          · have h := zz_t h c2
            exact X55_101 v3_55 t_length_l55 t_text_l55 _ _ _ h (hP.sub [0, 1] rfl) (hD.sub [0, 1] rfl rfl) hS (lv_sub hl [0, 1, 2, 3] rfl)
          · have h := zz_f h c2
            refine lv_iload_n hx hb dX11_feed_59 rfl (lv_at hl 3 rfl) ?_
            refine lv_iload_n hx hb dX11_feed_60 rfl (lv_at hl 0 rfl) ?_
            refine lv_ishr hx hb dX11_feed_61 ?_
            refine lv_sipush (v := (nI 255)) hx hb dX11_feed_62 rfl ?_
            refine lv_iand hx hb dX11_feed_65 ?_
            refine lv_if_ne (tgt := 72) hx hb dX11_feed_66 (by decide) (fun c3 => ?_) (fun c3 => ?_)
            · have h := zz_f h c3
              refine lv_aload_n hx hb dX11_feed_72 rfl (lv_at hl 2 rfl) ?_
              refine va_get (D := D) (ci := 11) (C := RX11) (T := TX11) (N := 16) hx hb hts qX11_feed_X11 hown hK hP 0 rfl rfl 4 (by decide) (hts _ kX11_feed_3) (fun _ h9 => h9) rfl dX11_feed_73 ?_
              refine lv_aload_n hx hb dX11_feed_76 rfl (lv_at hl 2 rfl) ?_
              refine va_get (D := D) (ci := 11) (C := RX11) (T := TX11) (N := 16) hx hb hts qX11_feed_X11 hown hK hP 0 rfl rfl 5 (by decide) (hts _ kX11_feed_2) (fun _ h9 => h9) rfl dX11_feed_77 ?_
              refine lv_iload_n hx hb dX11_feed_80 rfl (lv_at hl 3 rfl) ?_
              refine lv_iload_n hx hb dX11_feed_81 rfl (lv_at hl 0 rfl) ?_
              refine lv_ishr hx hb dX11_feed_82 ?_
              refine lv_i2b hx hb dX11_feed_83 rfl ?_
              obtain ⟨i4, h⟩ := zz_i h
              refine va_bast hx hb hK hP hD hS 1 0 rfl rfl i4 dX11_feed_84 (fun H locs hP hD hS => ?_)
              have hP : va_P D vwCl [(a_t, .inr (11, [.int (nI 0), .ref a_t_now, .ref a_t_kept, .int t_isKept, .ref a_t_text, .int t_length_l55, .ref a_t_passing, .int t_at, .int t_fault, .int t_open, .int t_asked, .int t_byGun, .int t_prizeMost, .ref a_t_order, .ref a_t_times, .int t_listed])), (a_t_text, .inl (cB, 200, .inl (upd t_text_l55 (t_length_l55).toNatClampNeg (vp_nar .byte (((x1 >>> (v3_55 &&& 31))).toInt8.toInt32)))))] H := hP
              have hD : va_D A [(a_t, .inr (11, [.int (nI 0), .ref a_t_now, .ref a_t_kept, .int t_isKept, .ref a_t_text, .int t_length_l55, .ref a_t_passing, .int t_at, .int t_fault, .int t_open, .int t_asked, .int t_byGun, .int t_prizeMost, .ref a_t_order, .ref a_t_times, .int t_listed])), (a_t_text, .inl (cB, 200, .inl (upd t_text_l55 (t_length_l55).toNatClampNeg (vp_nar .byte (((x1 >>> (v3_55 &&& 31))).toInt8.toInt32)))))] := hD
              refine lv_aload_n hx hb dX11_feed_85 rfl (lv_at hl 2 rfl) ?_
              refine lv_dup hx hb dX11_feed_86 rfl ?_
              refine va_get (D := D) (ci := 11) (C := RX11) (T := TX11) (N := 16) hx hb hts qX11_feed_X11 hown hK hP 0 rfl rfl 5 (by decide) (hts _ kX11_feed_2) (fun _ h9 => h9) rfl dX11_feed_87 ?_
              refine lv_iconst (v := (nI 1)) hx hb dX11_feed_90 rfl ?_
              refine lv_iadd hx hb dX11_feed_91 ?_
              refine va_put (D := D) (ci := 11) (ty := .int) (C := RX11) (T := TX11) (N := 16) hx hb hts qX11_feed_X11 tyX11 tyX11_ok nmX11 hown hK hP hD hS 0 rfl rfl 5 (by decide) (hts _ kX11_feed_2) (fun _ h9 => h9) rfl (by decide +kernel) rfl (by first | rfl | exact zz_fit) (Nat.le_of_ble_eq_true rfl) dX11_feed_92 (fun H locs hP hD hS => ?_)
              have hP : va_P D vwCl [(a_t, .inr (11, [.int (nI 0), .ref a_t_now, .ref a_t_kept, .int t_isKept, .ref a_t_text, .int (t_length_l55 + (nI 1)), .ref a_t_passing, .int t_at, .int t_fault, .int t_open, .int t_asked, .int t_byGun, .int t_prizeMost, .ref a_t_order, .ref a_t_times, .int t_listed])), (a_t_text, .inl (cB, 200, .inl (upd t_text_l55 (t_length_l55).toNatClampNeg (vp_nar .byte (((x1 >>> (v3_55 &&& 31))).toInt8.toInt32)))))] H := hP
              have hD : va_D A [(a_t, .inr (11, [.int (nI 0), .ref a_t_now, .ref a_t_kept, .int t_isKept, .ref a_t_text, .int (t_length_l55 + (nI 1)), .ref a_t_passing, .int t_at, .int t_fault, .int t_open, .int t_asked, .int t_byGun, .int t_prizeMost, .ref a_t_order, .ref a_t_times, .int t_listed])), (a_t_text, .inl (cB, 200, .inl (upd t_text_l55 (t_length_l55).toNatClampNeg (vp_nar .byte (((x1 >>> (v3_55 &&& 31))).toInt8.toInt32)))))] := hD
              refine lv_iinc (v := (v3_55 + (-8 : Int32))) (lv' := [(3, .int (v3_55 + (-8 : Int32))), (2, .int v2_10), (0, .ref a_t), (1, .int x1)]) hx hb dX11_feed_95 hl (k := 0) rfl rfl (by decide) rfl (fun ls hl => ?_)
              refine lv_goto (tgt := 55) hx hb dX11_feed_98 (by decide) ?_
              exact ih55 (v3_55 + (-8 : Int32)) (t_length_l55 + (nI 1)) (upd t_text_l55 (t_length_l55).toNatClampNeg (vp_nar .byte (((x1 >>> (v3_55 &&& 31))).toInt8.toInt32))) _ _ _ h (hP.sub [0, 1] rfl) (hD.sub [0, 1] rfl rfl) hS (lv_sub hl [0, 1, 2, 3] rfl)
            · have h := zz_t h c3
              refine lv_goto (tgt := 95) hx hb dX11_feed_69 (by decide) ?_
              refine lv_iinc (v := (v3_55 + (-8 : Int32))) (lv' := [(3, .int (v3_55 + (-8 : Int32))), (2, .int v2_10), (0, .ref a_t), (1, .int x1)]) hx hb dX11_feed_95 hl (k := 0) rfl rfl (by decide) rfl (fun ls hl => ?_)
              refine lv_goto (tgt := 55) hx hb dX11_feed_98 (by decide) ?_
              exact ih55 (v3_55 + (-8 : Int32)) t_length_l55 t_text_l55 _ _ _ h (hP.sub [0, 1] rfl) (hD.sub [0, 1] rfl rfl) hS (lv_sub hl [0, 1, 2, 3] rfl)
      exact L55 N (nI 24) t_length t_text _ _ _ h hP hD hS hl
    · have h := zz_f h c1
      refine lv_iconst (v := (-1 : Int32)) hx hb dX11_feed_50 rfl ?_
      obtain ⟨j0_, g_⟩ := Prod.mk.inj (Option.some.inj h)
      obtain ⟨j1_, g_⟩ := Prod.mk.inj g_
      obtain ⟨j2_, g_⟩ := Prod.mk.inj g_
      have j3_ := g_
      subst j0_
      subst j1_
      subst j2_
      subst j3_
      exact W.iret (v := (-1 : Int32)) hx hb hr (fun t ht hW => ⟨⟨_, (), rfl, rfl, zPost.of hP hD hK ht hW [0, 1] rfl rfl rfl⟩, hS.F ht⟩) hS.2.2 dX11_feed_51
  have L10 : ∀ (n : Nat) (v2_10 : Int32) (v3_10 : Int32) (H : Heap) (locs : List Loc) (ls : Array Slot), fX11_feed_L10 x1 (fun (v2_10 : Int32) (v3_10 : Int32) => (if (t_length + v2_10) ≤ (nI 200) then fX11_feed_L55 x1 (fun (v3_55 : Int32) (t_length_l55 : Int32) (t_text_l55 : Nat → Int32) => some (t_length_l55, t_length_l55, (nI 0), t_text_l55)) N (nI 24) t_length t_text else some ((-1 : Int32), t_length, (nI 0), t_text))) n v2_10 v3_10 = some (r0, t_length', t_thrown', t_text') → va_P D vwCl [(a_t, .inr (11, [.int (nI 0), .ref a_t_now, .ref a_t_kept, .int t_isKept, .ref a_t_text, .int t_length, .ref a_t_passing, .int t_at, .int t_fault, .int t_open, .int t_asked, .int t_byGun, .int t_prizeMost, .ref a_t_order, .ref a_t_times, .int t_listed])), (a_t_text, .inl (cB, 200, .inl t_text))] H → va_D A [(a_t, .inr (11, [.int (nI 0), .ref a_t_now, .ref a_t_kept, .int t_isKept, .ref a_t_text, .int t_length, .ref a_t_passing, .int t_at, .int t_fault, .int t_open, .int t_asked, .int t_byGun, .int t_prizeMost, .ref a_t_order, .ref a_t_times, .int t_listed])), (a_t_text, .inl (cB, 200, .inl t_text))] → va_S A s.heap H locs → lv_has ls 4 [(3, .int v3_10), (2, .int v2_10), (0, .ref a_t), (1, .int x1)] → W p l e (headSpec wsX11_feed ({ frames := 0, cells := 0, slots := 0, locals := 0 } : Room)).room s m #[Value.ref a_t, Value.int x1] below meth c H locs 0 0 (MQ below (zQi r0 D (zT cB cI cZ) [(a_t, .inr (11, [.int t_thrown', .ref a_t_now, .ref a_t_kept, .int t_isKept, .ref a_t_text, .int t_length', .ref a_t_passing, .int t_at, .int t_fault, .int t_open, .int t_asked, .int t_byGun, .int t_prizeMost, .ref a_t_order, .ref a_t_times, .int t_listed])), (a_t_text, .inl (cB, 200, .inl t_text'))] A) #[Value.ref a_t, Value.int x1] s 0 0 A) (F0 m 10 ls []) := by
    intro n
    induction n with
    | zero => intro _ _ H locs ls h hP hD hS hl; cases h
    | succ n10 ih10 =>
      intro v2_10 v3_10 H locs ls h hP hD hS hl
      rw [fX11_feed_L10.eq_2] at h
      refine lv_iload_n hx hb dX11_feed_10 rfl (lv_at hl 0 rfl) ?_
      refine lv_if_lt (tgt := 38) hx hb dX11_feed_11 (by decide) (fun c5 => ?_) (fun c5 => ?_)
      · have h := zz_t h c5
        exact X10_38 v2_10 v3_10 _ _ _ h (hP.sub [0, 1] rfl) (hD.sub [0, 1] rfl rfl) hS (lv_sub hl [0, 1, 2, 3] rfl)
      · have h := zz_f h c5
        refine lv_iload_n hx hb dX11_feed_14 rfl (lv_at hl 1 rfl) ?_
        refine lv_iload_n hx hb dX11_feed_15 rfl (lv_at hl 3 rfl) ?_
        refine lv_iload_n hx hb dX11_feed_16 rfl (lv_at hl 0 rfl) ?_
        refine lv_ishr hx hb dX11_feed_17 ?_
        refine lv_sipush (v := (nI 255)) hx hb dX11_feed_18 rfl ?_
        refine lv_iand hx hb dX11_feed_21 ?_
        refine lv_if_eq (tgt := 29) hx hb dX11_feed_22 (by decide) (fun c6 => ?_) (fun c6 => ?_)
        · have h := zz_t h c6
          refine lv_iconst (v := (nI 0)) hx hb dX11_feed_29 rfl ?_
          refine lv_iadd hx hb dX11_feed_30 ?_
          refine lv_istore_n (lv' := [(2, .int (v2_10 + (nI 0))), (3, .int v3_10), (0, .ref a_t), (1, .int x1)]) hx hb dX11_feed_31 rfl hl (by decide) rfl (fun ls hl => ?_)
          refine lv_iinc (v := (v3_10 + (-8 : Int32))) (lv' := [(3, .int (v3_10 + (-8 : Int32))), (2, .int (v2_10 + (nI 0))), (0, .ref a_t), (1, .int x1)]) hx hb dX11_feed_32 hl (k := 1) rfl rfl (by decide) rfl (fun ls hl => ?_)
          refine lv_goto (tgt := 10) hx hb dX11_feed_35 (by decide) ?_
          exact ih10 (v2_10 + (nI 0)) (v3_10 + (-8 : Int32)) _ _ _ h (hP.sub [0, 1] rfl) (hD.sub [0, 1] rfl rfl) hS (lv_sub hl [0, 1, 2, 3] rfl)
        · have h := zz_f h c6
          refine lv_iconst (v := (nI 1)) hx hb dX11_feed_25 rfl ?_
          refine lv_goto (tgt := 30) hx hb dX11_feed_26 (by decide) ?_
          refine lv_iadd hx hb dX11_feed_30 ?_
          refine lv_istore_n (lv' := [(2, .int (v2_10 + (nI 1))), (3, .int v3_10), (0, .ref a_t), (1, .int x1)]) hx hb dX11_feed_31 rfl hl (by decide) rfl (fun ls hl => ?_)
          refine lv_iinc (v := (v3_10 + (-8 : Int32))) (lv' := [(3, .int (v3_10 + (-8 : Int32))), (2, .int (v2_10 + (nI 1))), (0, .ref a_t), (1, .int x1)]) hx hb dX11_feed_32 hl (k := 1) rfl rfl (by decide) rfl (fun ls hl => ?_)
          refine lv_goto (tgt := 10) hx hb dX11_feed_35 (by decide) ?_
          exact ih10 (v2_10 + (nI 1)) (v3_10 + (-8 : Int32)) _ _ _ h (hP.sub [0, 1] rfl) (hD.sub [0, 1] rfl rfl) hS (lv_sub hl [0, 1, 2, 3] rfl)
  exact L10 N (nI 0) (nI 24) _ _ _ h hP hD hS hl
/-! RunDeskModel.end -/
theorem dX11_end_0 : decode cX11_end 0 = .ok (.aload_n 0, 1) := by decide +kernel
theorem dX11_end_1 : decode cX11_end 1 = .ok (.iconst 0, 1) := by decide +kernel
theorem dX11_end_2 : decode cX11_end 2 = .ok (.putfield 37, 3) := by decide +kernel
theorem dX11_end_5 : decode cX11_end 5 = .ok (.iload_n 1, 1) := by decide +kernel
theorem dX11_end_6 : decode cX11_end 6 = .ok (.ifCond .lt 11, 3) := by decide +kernel
theorem dX11_end_9 : decode cX11_end 9 = .ok (.iload_n 1, 1) := by decide +kernel
theorem dX11_end_10 : decode cX11_end 10 = .ok (.aload_n 0, 1) := by decide +kernel
theorem dX11_end_11 : decode cX11_end 11 = .ok (.getfield 145, 3) := by decide +kernel
theorem dX11_end_14 : decode cX11_end 14 = .ok (.if_icmp .le 5, 3) := by decide +kernel
theorem dX11_end_17 : decode cX11_end 17 = .ok (.iconst 0, 1) := by decide +kernel
theorem dX11_end_18 : decode cX11_end 18 = .ok (.ireturn, 1) := by decide +kernel
theorem dX11_end_19 : decode cX11_end 19 = .ok (.aload_n 0, 1) := by decide +kernel
theorem dX11_end_20 : decode cX11_end 20 = .ok (.iload_n 1, 1) := by decide +kernel
theorem dX11_end_21 : decode cX11_end 21 = .ok (.putfield 145, 3) := by decide +kernel
theorem dX11_end_24 : decode cX11_end 24 = .ok (.iconst 1, 1) := by decide +kernel
theorem dX11_end_25 : decode cX11_end 25 = .ok (.ireturn, 1) := by decide +kernel
theorem kX11_end_0 : (.fieldLink RX11 37 "RunDeskModel" "thrown" "I" : Cond) ∈ wsX11_end := List.mem_of_getElem? (i := 1) (by decide +kernel)
theorem qX11_end_X11 : ∀ w ∈ wsX110, w ∈ wsX11_end := fun _ h => List.mem_cons_of_mem _ (List.mem_append_right _ (h))
theorem kX11_end_2 : (.fieldLink RX11 145 "RunDeskModel" "length" "I" : Cond) ∈ wsX11_end := List.mem_of_getElem? (i := 2) (by decide +kernel)
set_option maxHeartbeats 4000000 in
set_option maxRecDepth 100000 in
theorem mX11_end (l : Launch) (D : va_G) (cB cI cZ : ClassId) (a_t : Nat) (a_t_now : Nat) (a_t_kept : Nat) (a_t_text : Nat) (a_t_passing : Nat) (a_t_order : Nat) (a_t_times : Nat) (t_thrown : Int32) (t_isKept : Int32) (t_length : Int32) (t_at : Int32) (t_fault : Int32) (t_open : Int32) (t_asked : Int32) (t_byGun : Int32) (t_prizeMost : Int32) (t_listed : Int32) (sz : Nat) (x1 : Int32) (b0 : Bool) (t_length' : Int32) (t_thrown' : Int32) (h : fX11_end t_length t_thrown x1 = some (b0, t_length', t_thrown')) : Met l yX11_end wsX11_end ({ frames := 0, cells := 0, slots := 0, locals := 0 } : Room) (va_Pc [.ref a_t, .int x1] (zPre D (zT cB cI cZ) [(a_t, .inr (11, [.int t_thrown, .ref a_t_now, .ref a_t_kept, .int t_isKept, .ref a_t_text, .int t_length, .ref a_t_passing, .int t_at, .int t_fault, .int t_open, .int t_asked, .int t_byGun, .int t_prizeMost, .ref a_t_order, .ref a_t_times, .int t_listed]))] sz)) (zQi (zb b0) D (zT cB cI cZ) [(a_t, .inr (11, [.int t_thrown', .ref a_t_now, .ref a_t_kept, .int t_isKept, .ref a_t_text, .int t_length', .ref a_t_passing, .int t_at, .int t_fault, .int t_open, .int t_asked, .int t_byGun, .int t_prizeMost, .ref a_t_order, .ref a_t_times, .int t_listed]))] (va_A [(a_t, .inr (11, [.int t_thrown, .ref a_t_now, .ref a_t_kept, .int t_isKept, .ref a_t_text, .int t_length, .ref a_t_passing, .int t_at, .int t_fault, .int t_open, .int t_asked, .int t_byGun, .int t_prizeMost, .ref a_t_order, .ref a_t_times, .int t_listed]))] sz)) 0 0 (va_A [(a_t, .inr (11, [.int t_thrown, .ref a_t_now, .ref a_t_kept, .int t_isKept, .ref a_t_text, .int t_length, .ref a_t_passing, .int t_at, .int t_fault, .int t_open, .int t_asked, .int t_byGun, .int t_prizeMost, .ref a_t_order, .ref a_t_times, .int t_listed]))] sz) := by
  refine Met.ofW (cc := cX11_end) (maxL := 2) (ret := (some .boolean)) (by decide) rfl ?_
  intro p e s m args below meth c s₁ B hml hv
  obtain ⟨rfl, hsz, hP, hK, hN, hZ, hD0⟩ := hv
  have hx := B.exec
  have hb := B.bytes
  have hr := B.returns
  have hts := atoms_spec (ws := wsX11_end) B.pre
  have hown : s.vm.findClass RX11 = some m.cls := findClass_of_methodNamed B.named
  have hlocks := B.notSynchronized
  subst hsz
  have hD := hD0.self (sz := s.heap.size)
  generalize hAe : va_A [(a_t, .inr (11, [.int t_thrown, .ref a_t_now, .ref a_t_kept, .int t_isKept, .ref a_t_text, .int t_length, .ref a_t_passing, .int t_at, .int t_fault, .int t_open, .int t_asked, .int t_byGun, .int t_prizeMost, .ref a_t_order, .ref a_t_times, .int t_listed]))] s.heap.size = A at hD hZ ⊢
  have hA : ∀ q : Nat, s.heap.size ≤ q → A q := fun q h => by rw [← hAe]; exact Or.inr h
  have hS : va_S A s.heap s.heap [] := va_S.rf
  have hl := lv_entry ([.ref a_t, .int x1]) (n := 2) (Nat.le_of_ble_eq_true rfl)
  rw [lg_entry_eq]
  generalize (lg_sl ([.ref a_t, .int x1]) ++ List.replicate (2 - (lg_sl ([.ref a_t, .int x1])).length) Slot.unset).toArray = ls at hl ⊢
  have hl : lv_has ls 2 [(0, .ref a_t), (1, .int x1)] := hl
  unfold fX11_end at h
  refine lv_aload_n hx hb dX11_end_0 rfl (lv_at hl 0 rfl) ?_
  refine lv_iconst (v := (nI 0)) hx hb dX11_end_1 rfl ?_
  refine va_put (D := D) (ci := 11) (ty := .int) (C := RX11) (T := TX11) (N := 16) hx hb hts qX11_end_X11 tyX11 tyX11_ok nmX11 hown hK hP hD hS 0 rfl rfl 0 (by decide) (hts _ kX11_end_0) (fun _ h9 => h9) rfl (by decide +kernel) rfl (by first | rfl | exact zz_fit) (Nat.le_of_ble_eq_true rfl) dX11_end_2 (fun H locs hP hD hS => ?_)
  have hP : va_P D vwCl [(a_t, .inr (11, [.int (nI 0), .ref a_t_now, .ref a_t_kept, .int t_isKept, .ref a_t_text, .int t_length, .ref a_t_passing, .int t_at, .int t_fault, .int t_open, .int t_asked, .int t_byGun, .int t_prizeMost, .ref a_t_order, .ref a_t_times, .int t_listed]))] H := hP
  have hD : va_D A [(a_t, .inr (11, [.int (nI 0), .ref a_t_now, .ref a_t_kept, .int t_isKept, .ref a_t_text, .int t_length, .ref a_t_passing, .int t_at, .int t_fault, .int t_open, .int t_asked, .int t_byGun, .int t_prizeMost, .ref a_t_order, .ref a_t_times, .int t_listed]))] := hD
  refine lv_iload_n hx hb dX11_end_5 rfl (lv_at hl 1 rfl) ?_
  refine lv_if_lt (tgt := 17) hx hb dX11_end_6 (by decide) (fun c1 => ?_) (fun c1 => ?_)
  · have h := zz_t h c1
    refine lv_iconst (v := (nI 0)) hx hb dX11_end_17 rfl ?_
    obtain ⟨j0_, g_⟩ := Prod.mk.inj (Option.some.inj h)
    obtain ⟨j1_, g_⟩ := Prod.mk.inj g_
    have j2_ := g_
    subst j0_
    subst j1_
    subst j2_
    exact W.zret (v := (nI 0)) hx hb hr rfl (fun t ht hW => ⟨⟨_, (), rfl, rfl, zPost.of hP hD hK ht hW [0] rfl rfl rfl⟩, hS.F ht⟩) hS.2.2 dX11_end_18
  · have h := zz_f h c1
    refine lv_iload_n hx hb dX11_end_9 rfl (lv_at hl 1 rfl) ?_
    refine lv_aload_n hx hb dX11_end_10 rfl (lv_at hl 0 rfl) ?_
    refine va_get (D := D) (ci := 11) (C := RX11) (T := TX11) (N := 16) hx hb hts qX11_end_X11 hown hK hP 0 rfl rfl 5 (by decide) (hts _ kX11_end_2) (fun _ h9 => h9) rfl dX11_end_11 ?_
    refine lv_icmp_le (tgt := 19) hx hb dX11_end_14 (by decide) (fun c2 => ?_) (fun c2 => ?_)
    · have h := zz_t h c2
      refine lv_aload_n hx hb dX11_end_19 rfl (lv_at hl 0 rfl) ?_
      refine lv_iload_n hx hb dX11_end_20 rfl (lv_at hl 1 rfl) ?_
      refine va_put (D := D) (ci := 11) (ty := .int) (C := RX11) (T := TX11) (N := 16) hx hb hts qX11_end_X11 tyX11 tyX11_ok nmX11 hown hK hP hD hS 0 rfl rfl 5 (by decide) (hts _ kX11_end_2) (fun _ h9 => h9) rfl (by decide +kernel) rfl (by first | rfl | exact zz_fit) (Nat.le_of_ble_eq_true rfl) dX11_end_21 (fun H locs hP hD hS => ?_)
      have hP : va_P D vwCl [(a_t, .inr (11, [.int (nI 0), .ref a_t_now, .ref a_t_kept, .int t_isKept, .ref a_t_text, .int x1, .ref a_t_passing, .int t_at, .int t_fault, .int t_open, .int t_asked, .int t_byGun, .int t_prizeMost, .ref a_t_order, .ref a_t_times, .int t_listed]))] H := hP
      have hD : va_D A [(a_t, .inr (11, [.int (nI 0), .ref a_t_now, .ref a_t_kept, .int t_isKept, .ref a_t_text, .int x1, .ref a_t_passing, .int t_at, .int t_fault, .int t_open, .int t_asked, .int t_byGun, .int t_prizeMost, .ref a_t_order, .ref a_t_times, .int t_listed]))] := hD
      refine lv_iconst (v := (nI 1)) hx hb dX11_end_24 rfl ?_
      obtain ⟨j0_, g_⟩ := Prod.mk.inj (Option.some.inj h)
      obtain ⟨j1_, g_⟩ := Prod.mk.inj g_
      have j2_ := g_
      subst j0_
      subst j1_
      subst j2_
      exact W.zret (v := (nI 1)) hx hb hr rfl (fun t ht hW => ⟨⟨_, (), rfl, rfl, zPost.of hP hD hK ht hW [0] rfl rfl rfl⟩, hS.F ht⟩) hS.2.2 dX11_end_25
    · have h := zz_f h c2
      refine lv_iconst (v := (nI 0)) hx hb dX11_end_17 rfl ?_
      obtain ⟨j0_, g_⟩ := Prod.mk.inj (Option.some.inj h)
      obtain ⟨j1_, g_⟩ := Prod.mk.inj g_
      have j2_ := g_
      subst j0_
      subst j1_
      subst j2_
      exact W.zret (v := (nI 0)) hx hb hr rfl (fun t ht hW => ⟨⟨_, (), rfl, rfl, zPost.of hP hD hK ht hW [0] rfl rfl rfl⟩, hS.F ht⟩) hS.2.2 dX11_end_18
/-! RunDeskModel.look -/
theorem dX11_look_0 : decode cX11_look 0 = .ok (.aload_n 0, 1) := by decide +kernel
theorem dX11_look_1 : decode cX11_look 1 = .ok (.getfield 148, 3) := by decide +kernel
theorem dX11_look_4 : decode cX11_look 4 = .ok (.aload_n 0, 1) := by decide +kernel
theorem dX11_look_5 : decode cX11_look 5 = .ok (.getfield 145, 3) := by decide +kernel
theorem dX11_look_8 : decode cX11_look 8 = .ok (.if_icmp .ge 30, 3) := by decide +kernel
theorem dX11_look_11 : decode cX11_look 11 = .ok (.aload_n 0, 1) := by decide +kernel
theorem dX11_look_12 : decode cX11_look 12 = .ok (.getfield 16, 3) := by decide +kernel
theorem dX11_look_15 : decode cX11_look 15 = .ok (.aload_n 0, 1) := by decide +kernel
theorem dX11_look_16 : decode cX11_look 16 = .ok (.getfield 148, 3) := by decide +kernel
theorem dX11_look_19 : decode cX11_look 19 = .ok (.baload, 1) := by decide +kernel
theorem dX11_look_20 : decode cX11_look 20 = .ok (.bipush 32, 2) := by decide +kernel
theorem dX11_look_22 : decode cX11_look 22 = .ok (.if_icmp .ne 16, 3) := by decide +kernel
theorem dX11_look_25 : decode cX11_look 25 = .ok (.aload_n 0, 1) := by decide +kernel
theorem dX11_look_26 : decode cX11_look 26 = .ok (.dup, 1) := by decide +kernel
theorem dX11_look_27 : decode cX11_look 27 = .ok (.getfield 148, 3) := by decide +kernel
theorem dX11_look_30 : decode cX11_look 30 = .ok (.iconst 1, 1) := by decide +kernel
theorem dX11_look_31 : decode cX11_look 31 = .ok (.iadd, 1) := by decide +kernel
theorem dX11_look_32 : decode cX11_look 32 = .ok (.putfield 148, 3) := by decide +kernel
theorem dX11_look_35 : decode cX11_look 35 = .ok (.goto (-35), 3) := by decide +kernel
theorem dX11_look_38 : decode cX11_look 38 = .ok (.aload_n 0, 1) := by decide +kernel
theorem dX11_look_39 : decode cX11_look 39 = .ok (.getfield 148, 3) := by decide +kernel
theorem dX11_look_42 : decode cX11_look 42 = .ok (.aload_n 0, 1) := by decide +kernel
theorem dX11_look_43 : decode cX11_look 43 = .ok (.getfield 145, 3) := by decide +kernel
theorem dX11_look_46 : decode cX11_look 46 = .ok (.if_icmp .ge 19, 3) := by decide +kernel
theorem dX11_look_49 : decode cX11_look 49 = .ok (.aload_n 0, 1) := by decide +kernel
theorem dX11_look_50 : decode cX11_look 50 = .ok (.getfield 16, 3) := by decide +kernel
theorem dX11_look_53 : decode cX11_look 53 = .ok (.aload_n 0, 1) := by decide +kernel
theorem dX11_look_54 : decode cX11_look 54 = .ok (.getfield 148, 3) := by decide +kernel
theorem dX11_look_57 : decode cX11_look 57 = .ok (.baload, 1) := by decide +kernel
theorem dX11_look_58 : decode cX11_look 58 = .ok (.sipush 255, 3) := by decide +kernel
theorem dX11_look_61 : decode cX11_look 61 = .ok (.iand, 1) := by decide +kernel
theorem dX11_look_62 : decode cX11_look 62 = .ok (.goto 4, 3) := by decide +kernel
theorem dX11_look_65 : decode cX11_look 65 = .ok (.iconst (-1), 1) := by decide +kernel
theorem dX11_look_66 : decode cX11_look 66 = .ok (.ireturn, 1) := by decide +kernel
theorem kX11_look_0 : (.fieldLink RX11 148 "RunDeskModel" "at" "I" : Cond) ∈ wsX11_look := List.mem_of_getElem? (i := 1) (by decide +kernel)
theorem qX11_look_X11 : ∀ w ∈ wsX110, w ∈ wsX11_look := fun _ h => List.mem_cons_of_mem _ (List.mem_append_right _ (h))
theorem kX11_look_2 : (.fieldLink RX11 145 "RunDeskModel" "length" "I" : Cond) ∈ wsX11_look := List.mem_of_getElem? (i := 2) (by decide +kernel)
theorem kX11_look_3 : (.fieldLink RX11 16 "RunDeskModel" "text" "[B" : Cond) ∈ wsX11_look := List.mem_of_getElem? (i := 3) (by decide +kernel)
set_option maxHeartbeats 4000000 in
set_option maxRecDepth 100000 in
theorem mX11_look (l : Launch) (D : va_G) (cB cI cZ : ClassId) (a_t : Nat) (a_t_now : Nat) (a_t_kept : Nat) (a_t_text : Nat) (a_t_passing : Nat) (a_t_order : Nat) (a_t_times : Nat) (t_thrown : Int32) (t_isKept : Int32) (t_length : Int32) (t_at : Int32) (t_fault : Int32) (t_open : Int32) (t_asked : Int32) (t_byGun : Int32) (t_prizeMost : Int32) (t_listed : Int32) (t_text : Nat → Int32) (sz : Nat) (N : Nat) (r0 : Int32) (t_at' : Int32) (h : fX11_look N t_at t_length t_text = some (r0, t_at')) : Met l yX11_look wsX11_look ({ frames := 0, cells := 0, slots := 0, locals := 0 } : Room) (va_Pc [.ref a_t] (zPre D (zT cB cI cZ) [(a_t, .inr (11, [.int t_thrown, .ref a_t_now, .ref a_t_kept, .int t_isKept, .ref a_t_text, .int t_length, .ref a_t_passing, .int t_at, .int t_fault, .int t_open, .int t_asked, .int t_byGun, .int t_prizeMost, .ref a_t_order, .ref a_t_times, .int t_listed])), (a_t_text, .inl (cB, 200, .inl t_text))] sz)) (zQi r0 D (zT cB cI cZ) [(a_t, .inr (11, [.int t_thrown, .ref a_t_now, .ref a_t_kept, .int t_isKept, .ref a_t_text, .int t_length, .ref a_t_passing, .int t_at', .int t_fault, .int t_open, .int t_asked, .int t_byGun, .int t_prizeMost, .ref a_t_order, .ref a_t_times, .int t_listed])), (a_t_text, .inl (cB, 200, .inl t_text))] (va_A [(a_t, .inr (11, [.int t_thrown, .ref a_t_now, .ref a_t_kept, .int t_isKept, .ref a_t_text, .int t_length, .ref a_t_passing, .int t_at, .int t_fault, .int t_open, .int t_asked, .int t_byGun, .int t_prizeMost, .ref a_t_order, .ref a_t_times, .int t_listed])), (a_t_text, .inl (cB, 200, .inl t_text))] sz)) 0 0 (va_A [(a_t, .inr (11, [.int t_thrown, .ref a_t_now, .ref a_t_kept, .int t_isKept, .ref a_t_text, .int t_length, .ref a_t_passing, .int t_at, .int t_fault, .int t_open, .int t_asked, .int t_byGun, .int t_prizeMost, .ref a_t_order, .ref a_t_times, .int t_listed])), (a_t_text, .inl (cB, 200, .inl t_text))] sz) := by
  refine Met.ofW (cc := cX11_look) (maxL := 1) (ret := (some .int)) (by decide) rfl ?_
  intro p e s m args below meth c s₁ B hml hv
  obtain ⟨rfl, hsz, hP, hK, hN, hZ, hD0⟩ := hv
  have hx := B.exec
  have hb := B.bytes
  have hr := B.returns
  have hts := atoms_spec (ws := wsX11_look) B.pre
  have hown : s.vm.findClass RX11 = some m.cls := findClass_of_methodNamed B.named
  have hlocks := B.notSynchronized
  subst hsz
  have hD := hD0.self (sz := s.heap.size)
  generalize hAe : va_A [(a_t, .inr (11, [.int t_thrown, .ref a_t_now, .ref a_t_kept, .int t_isKept, .ref a_t_text, .int t_length, .ref a_t_passing, .int t_at, .int t_fault, .int t_open, .int t_asked, .int t_byGun, .int t_prizeMost, .ref a_t_order, .ref a_t_times, .int t_listed])), (a_t_text, .inl (cB, 200, .inl t_text))] s.heap.size = A at hD hZ ⊢
  have hA : ∀ q : Nat, s.heap.size ≤ q → A q := fun q h => by rw [← hAe]; exact Or.inr h
  have hS : va_S A s.heap s.heap [] := va_S.rf
  have hl := lv_entry ([.ref a_t]) (n := 1) (Nat.le_of_ble_eq_true rfl)
  rw [lg_entry_eq]
  generalize (lg_sl ([.ref a_t]) ++ List.replicate (1 - (lg_sl ([.ref a_t])).length) Slot.unset).toArray = ls at hl ⊢
  have hl : lv_has ls 1 [(0, .ref a_t)] := hl
  unfold fX11_look at h
  have X0_38 : ∀ (t_at_l0 : Int32) (H : Heap) (locs : List Loc) (ls : Array Slot), (if t_length ≤ t_at_l0 then some ((-1 : Int32), t_at_l0) else (if zin t_at_l0 200 then some (((t_text (t_at_l0).toNatClampNeg) &&& (nI 255)), t_at_l0) else none)) = some (r0, t_at') → va_P D vwCl [(a_t, .inr (11, [.int t_thrown, .ref a_t_now, .ref a_t_kept, .int t_isKept, .ref a_t_text, .int t_length, .ref a_t_passing, .int t_at_l0, .int t_fault, .int t_open, .int t_asked, .int t_byGun, .int t_prizeMost, .ref a_t_order, .ref a_t_times, .int t_listed])), (a_t_text, .inl (cB, 200, .inl t_text))] H → va_D A [(a_t, .inr (11, [.int t_thrown, .ref a_t_now, .ref a_t_kept, .int t_isKept, .ref a_t_text, .int t_length, .ref a_t_passing, .int t_at_l0, .int t_fault, .int t_open, .int t_asked, .int t_byGun, .int t_prizeMost, .ref a_t_order, .ref a_t_times, .int t_listed])), (a_t_text, .inl (cB, 200, .inl t_text))] → va_S A s.heap H locs → lv_has ls 1 [(0, .ref a_t)] → W p l e (headSpec wsX11_look ({ frames := 0, cells := 0, slots := 0, locals := 0 } : Room)).room s m #[Value.ref a_t] below meth c H locs 0 0 (MQ below (zQi r0 D (zT cB cI cZ) [(a_t, .inr (11, [.int t_thrown, .ref a_t_now, .ref a_t_kept, .int t_isKept, .ref a_t_text, .int t_length, .ref a_t_passing, .int t_at', .int t_fault, .int t_open, .int t_asked, .int t_byGun, .int t_prizeMost, .ref a_t_order, .ref a_t_times, .int t_listed])), (a_t_text, .inl (cB, 200, .inl t_text))] A) #[Value.ref a_t] s 0 0 A) (F0 m 38 ls []) := by
    intro t_at_l0 H locs ls h hP hD hS hl
    refine lv_aload_n hx hb dX11_look_38 rfl (lv_at hl 0 rfl) ?_
    refine va_get (D := D) (ci := 11) (C := RX11) (T := TX11) (N := 16) hx hb hts qX11_look_X11 hown hK hP 0 rfl rfl 7 (by decide) (hts _ kX11_look_0) (fun _ h9 => h9) rfl dX11_look_39 ?_
    refine lv_aload_n hx hb dX11_look_42 rfl (lv_at hl 0 rfl) ?_
    refine va_get (D := D) (ci := 11) (C := RX11) (T := TX11) (N := 16) hx hb hts qX11_look_X11 hown hK hP 0 rfl rfl 5 (by decide) (hts _ kX11_look_2) (fun _ h9 => h9) rfl dX11_look_43 ?_
    refine lv_icmp_ge (tgt := 65) hx hb dX11_look_46 (by decide) (fun c1 => ?_) (fun c1 => ?_)
    · have h := zz_t h c1
      refine lv_iconst (v := (-1 : Int32)) hx hb dX11_look_65 rfl ?_
      obtain ⟨j0_, g_⟩ := Prod.mk.inj (Option.some.inj h)
      have j1_ := g_
      subst j0_
      subst j1_
      exact W.iret (v := (-1 : Int32)) hx hb hr (fun t ht hW => ⟨⟨_, (), rfl, rfl, zPost.of hP hD hK ht hW [0, 1] rfl rfl rfl⟩, hS.F ht⟩) hS.2.2 dX11_look_66
    · have h := zz_f h c1
      refine lv_aload_n hx hb dX11_look_49 rfl (lv_at hl 0 rfl) ?_
      refine va_get (D := D) (ci := 11) (C := RX11) (T := TX11) (N := 16) hx hb hts qX11_look_X11 hown hK hP 0 rfl rfl 4 (by decide) (hts _ kX11_look_3) (fun _ h9 => h9) rfl dX11_look_50 ?_
      refine lv_aload_n hx hb dX11_look_53 rfl (lv_at hl 0 rfl) ?_
      refine va_get (D := D) (ci := 11) (C := RX11) (T := TX11) (N := 16) hx hb hts qX11_look_X11 hown hK hP 0 rfl rfl 7 (by decide) (hts _ kX11_look_0) (fun _ h9 => h9) rfl dX11_look_54 ?_
      obtain ⟨i2, h⟩ := zz_i h
      refine va_bald hx hb hK hP 1 0 rfl rfl i2 dX11_look_57 ?_
      refine lv_sipush (v := (nI 255)) hx hb dX11_look_58 rfl ?_
      refine lv_iand hx hb dX11_look_61 ?_
      refine lv_goto (tgt := 66) hx hb dX11_look_62 (by decide) ?_
      obtain ⟨j0_, g_⟩ := Prod.mk.inj (Option.some.inj h)
      have j1_ := g_
      subst j0_
      subst j1_
      exact W.iret (v := ((t_text (t_at_l0).toNatClampNeg) &&& (nI 255))) hx hb hr (fun t ht hW => ⟨⟨_, (), rfl, rfl, zPost.of hP hD hK ht hW [0, 1] rfl rfl rfl⟩, hS.F ht⟩) hS.2.2 dX11_look_66
  have L0 : ∀ (n : Nat) (t_at_l0 : Int32) (H : Heap) (locs : List Loc) (ls : Array Slot), fX11_look_L0 t_length t_text (fun (t_at_l0 : Int32) => (if t_length ≤ t_at_l0 then some ((-1 : Int32), t_at_l0) else (if zin t_at_l0 200 then some (((t_text (t_at_l0).toNatClampNeg) &&& (nI 255)), t_at_l0) else none))) n t_at_l0 = some (r0, t_at') → va_P D vwCl [(a_t, .inr (11, [.int t_thrown, .ref a_t_now, .ref a_t_kept, .int t_isKept, .ref a_t_text, .int t_length, .ref a_t_passing, .int t_at_l0, .int t_fault, .int t_open, .int t_asked, .int t_byGun, .int t_prizeMost, .ref a_t_order, .ref a_t_times, .int t_listed])), (a_t_text, .inl (cB, 200, .inl t_text))] H → va_D A [(a_t, .inr (11, [.int t_thrown, .ref a_t_now, .ref a_t_kept, .int t_isKept, .ref a_t_text, .int t_length, .ref a_t_passing, .int t_at_l0, .int t_fault, .int t_open, .int t_asked, .int t_byGun, .int t_prizeMost, .ref a_t_order, .ref a_t_times, .int t_listed])), (a_t_text, .inl (cB, 200, .inl t_text))] → va_S A s.heap H locs → lv_has ls 1 [(0, .ref a_t)] → W p l e (headSpec wsX11_look ({ frames := 0, cells := 0, slots := 0, locals := 0 } : Room)).room s m #[Value.ref a_t] below meth c H locs 0 0 (MQ below (zQi r0 D (zT cB cI cZ) [(a_t, .inr (11, [.int t_thrown, .ref a_t_now, .ref a_t_kept, .int t_isKept, .ref a_t_text, .int t_length, .ref a_t_passing, .int t_at', .int t_fault, .int t_open, .int t_asked, .int t_byGun, .int t_prizeMost, .ref a_t_order, .ref a_t_times, .int t_listed])), (a_t_text, .inl (cB, 200, .inl t_text))] A) #[Value.ref a_t] s 0 0 A) (F0 m 0 ls []) := by
    intro n
    induction n with
    | zero => intro _ H locs ls h hP hD hS hl; cases h
    | succ n0 ih0 =>
      intro t_at_l0 H locs ls h hP hD hS hl
      rw [fX11_look_L0.eq_2] at h
      refine lv_aload_n hx hb dX11_look_0 rfl (lv_at hl 0 rfl) ?_
      refine va_get (D := D) (ci := 11) (C := RX11) (T := TX11) (N := 16) hx hb hts qX11_look_X11 hown hK hP 0 rfl rfl 7 (by decide) (hts _ kX11_look_0) (fun _ h9 => h9) rfl dX11_look_1 ?_
      refine lv_aload_n hx hb dX11_look_4 rfl (lv_at hl 0 rfl) ?_
      refine va_get (D := D) (ci := 11) (C := RX11) (T := TX11) (N := 16) hx hb hts qX11_look_X11 hown hK hP 0 rfl rfl 5 (by decide) (hts _ kX11_look_2) (fun _ h9 => h9) rfl dX11_look_5 ?_
      refine lv_icmp_ge (tgt := 38) hx hb dX11_look_8 (by decide) (fun c3 => ?_) (fun c3 => ?_)
      · have h := zz_t h c3
        exact X0_38 t_at_l0 _ _ _ h (hP.sub [0, 1] rfl) (hD.sub [0, 1] rfl rfl) hS (lv_sub hl [0] rfl)
      · have h := zz_f h c3
        refine lv_aload_n hx hb dX11_look_11 rfl (lv_at hl 0 rfl) ?_
        refine va_get (D := D) (ci := 11) (C := RX11) (T := TX11) (N := 16) hx hb hts qX11_look_X11 hown hK hP 0 rfl rfl 4 (by decide) (hts _ kX11_look_3) (fun _ h9 => h9) rfl dX11_look_12 ?_
        refine lv_aload_n hx hb dX11_look_15 rfl (lv_at hl 0 rfl) ?_
        refine va_get (D := D) (ci := 11) (C := RX11) (T := TX11) (N := 16) hx hb hts qX11_look_X11 hown hK hP 0 rfl rfl 7 (by decide) (hts _ kX11_look_0) (fun _ h9 => h9) rfl dX11_look_16 ?_
        obtain ⟨i4, h⟩ := zz_i h
        refine va_bald hx hb hK hP 1 0 rfl rfl i4 dX11_look_19 ?_
        refine lv_bipush (v := (nI 32)) hx hb dX11_look_20 rfl ?_
        refine lv_icmp_ne (tgt := 38) hx hb dX11_look_22 (by decide) (fun c5 => ?_) (fun c5 => ?_)
        · have h := zz_f h c5
          exact X0_38 t_at_l0 _ _ _ h (hP.sub [0, 1] rfl) (hD.sub [0, 1] rfl rfl) hS (lv_sub hl [0] rfl)
        · have h := zz_t h c5
          refine lv_aload_n hx hb dX11_look_25 rfl (lv_at hl 0 rfl) ?_
          refine lv_dup hx hb dX11_look_26 rfl ?_
          refine va_get (D := D) (ci := 11) (C := RX11) (T := TX11) (N := 16) hx hb hts qX11_look_X11 hown hK hP 0 rfl rfl 7 (by decide) (hts _ kX11_look_0) (fun _ h9 => h9) rfl dX11_look_27 ?_
          refine lv_iconst (v := (nI 1)) hx hb dX11_look_30 rfl ?_
          refine lv_iadd hx hb dX11_look_31 ?_
          refine va_put (D := D) (ci := 11) (ty := .int) (C := RX11) (T := TX11) (N := 16) hx hb hts qX11_look_X11 tyX11 tyX11_ok nmX11 hown hK hP hD hS 0 rfl rfl 7 (by decide) (hts _ kX11_look_0) (fun _ h9 => h9) rfl (by decide +kernel) rfl (by first | rfl | exact zz_fit) (Nat.le_of_ble_eq_true rfl) dX11_look_32 (fun H locs hP hD hS => ?_)
          have hP : va_P D vwCl [(a_t, .inr (11, [.int t_thrown, .ref a_t_now, .ref a_t_kept, .int t_isKept, .ref a_t_text, .int t_length, .ref a_t_passing, .int (t_at_l0 + (nI 1)), .int t_fault, .int t_open, .int t_asked, .int t_byGun, .int t_prizeMost, .ref a_t_order, .ref a_t_times, .int t_listed])), (a_t_text, .inl (cB, 200, .inl t_text))] H := hP
          have hD : va_D A [(a_t, .inr (11, [.int t_thrown, .ref a_t_now, .ref a_t_kept, .int t_isKept, .ref a_t_text, .int t_length, .ref a_t_passing, .int (t_at_l0 + (nI 1)), .int t_fault, .int t_open, .int t_asked, .int t_byGun, .int t_prizeMost, .ref a_t_order, .ref a_t_times, .int t_listed])), (a_t_text, .inl (cB, 200, .inl t_text))] := hD
          refine lv_goto (tgt := 0) hx hb dX11_look_35 (by decide) ?_
          exact ih0 (t_at_l0 + (nI 1)) _ _ _ h (hP.sub [0, 1] rfl) (hD.sub [0, 1] rfl rfl) hS (lv_sub hl [0] rfl)
  exact L0 N t_at _ _ _ h hP hD hS hl
/-! RunDeskModel.isFine -/
theorem dX11_isFine_0 : decode cX11_isFine 0 = .ok (.aload_n 0, 1) := by decide +kernel
theorem dX11_isFine_1 : decode cX11_isFine 1 = .ok (.getfield 151, 3) := by decide +kernel
theorem dX11_isFine_4 : decode cX11_isFine 4 = .ok (.iconst (-1), 1) := by decide +kernel
theorem dX11_isFine_5 : decode cX11_isFine 5 = .ok (.if_icmp .ne 7, 3) := by decide +kernel
theorem dX11_isFine_8 : decode cX11_isFine 8 = .ok (.iconst 1, 1) := by decide +kernel
theorem dX11_isFine_9 : decode cX11_isFine 9 = .ok (.goto 4, 3) := by decide +kernel
theorem dX11_isFine_12 : decode cX11_isFine 12 = .ok (.iconst 0, 1) := by decide +kernel
theorem dX11_isFine_13 : decode cX11_isFine 13 = .ok (.ireturn, 1) := by decide +kernel
theorem kX11_isFine_0 : (.fieldLink RX11 151 "RunDeskModel" "fault" "I" : Cond) ∈ wsX11_isFine := List.mem_of_getElem? (i := 1) (by decide +kernel)
theorem qX11_isFine_X11 : ∀ w ∈ wsX110, w ∈ wsX11_isFine := fun _ h => List.mem_cons_of_mem _ (List.mem_append_right _ (h))
set_option maxHeartbeats 4000000 in
set_option maxRecDepth 100000 in
theorem mX11_isFine (l : Launch) (D : va_G) (cB cI cZ : ClassId) (a_t : Nat) (a_t_now : Nat) (a_t_kept : Nat) (a_t_text : Nat) (a_t_passing : Nat) (a_t_order : Nat) (a_t_times : Nat) (t_thrown : Int32) (t_isKept : Int32) (t_length : Int32) (t_at : Int32) (t_fault : Int32) (t_open : Int32) (t_asked : Int32) (t_byGun : Int32) (t_prizeMost : Int32) (t_listed : Int32) (sz : Nat) (b0 : Bool) (h : fX11_isFine t_fault = some (b0)) : Met l yX11_isFine wsX11_isFine ({ frames := 0, cells := 0, slots := 0, locals := 0 } : Room) (va_Pc [.ref a_t] (zPre D (zT cB cI cZ) [(a_t, .inr (11, [.int t_thrown, .ref a_t_now, .ref a_t_kept, .int t_isKept, .ref a_t_text, .int t_length, .ref a_t_passing, .int t_at, .int t_fault, .int t_open, .int t_asked, .int t_byGun, .int t_prizeMost, .ref a_t_order, .ref a_t_times, .int t_listed]))] sz)) (zQi (zb b0) D (zT cB cI cZ) [(a_t, .inr (11, [.int t_thrown, .ref a_t_now, .ref a_t_kept, .int t_isKept, .ref a_t_text, .int t_length, .ref a_t_passing, .int t_at, .int t_fault, .int t_open, .int t_asked, .int t_byGun, .int t_prizeMost, .ref a_t_order, .ref a_t_times, .int t_listed]))] (va_A [(a_t, .inr (11, [.int t_thrown, .ref a_t_now, .ref a_t_kept, .int t_isKept, .ref a_t_text, .int t_length, .ref a_t_passing, .int t_at, .int t_fault, .int t_open, .int t_asked, .int t_byGun, .int t_prizeMost, .ref a_t_order, .ref a_t_times, .int t_listed]))] sz)) 0 0 (va_A [(a_t, .inr (11, [.int t_thrown, .ref a_t_now, .ref a_t_kept, .int t_isKept, .ref a_t_text, .int t_length, .ref a_t_passing, .int t_at, .int t_fault, .int t_open, .int t_asked, .int t_byGun, .int t_prizeMost, .ref a_t_order, .ref a_t_times, .int t_listed]))] sz) := by
  refine Met.ofW (cc := cX11_isFine) (maxL := 1) (ret := (some .boolean)) (by decide) rfl ?_
  intro p e s m args below meth c s₁ B hml hv
  obtain ⟨rfl, hsz, hP, hK, hN, hZ, hD0⟩ := hv
  have hx := B.exec
  have hb := B.bytes
  have hr := B.returns
  have hts := atoms_spec (ws := wsX11_isFine) B.pre
  have hown : s.vm.findClass RX11 = some m.cls := findClass_of_methodNamed B.named
  have hlocks := B.notSynchronized
  subst hsz
  have hD := hD0.self (sz := s.heap.size)
  generalize hAe : va_A [(a_t, .inr (11, [.int t_thrown, .ref a_t_now, .ref a_t_kept, .int t_isKept, .ref a_t_text, .int t_length, .ref a_t_passing, .int t_at, .int t_fault, .int t_open, .int t_asked, .int t_byGun, .int t_prizeMost, .ref a_t_order, .ref a_t_times, .int t_listed]))] s.heap.size = A at hD hZ ⊢
  have hA : ∀ q : Nat, s.heap.size ≤ q → A q := fun q h => by rw [← hAe]; exact Or.inr h
  have hS : va_S A s.heap s.heap [] := va_S.rf
  have hl := lv_entry ([.ref a_t]) (n := 1) (Nat.le_of_ble_eq_true rfl)
  rw [lg_entry_eq]
  generalize (lg_sl ([.ref a_t]) ++ List.replicate (1 - (lg_sl ([.ref a_t])).length) Slot.unset).toArray = ls at hl ⊢
  have hl : lv_has ls 1 [(0, .ref a_t)] := hl
  unfold fX11_isFine at h
  refine lv_aload_n hx hb dX11_isFine_0 rfl (lv_at hl 0 rfl) ?_
  refine va_get (D := D) (ci := 11) (C := RX11) (T := TX11) (N := 16) hx hb hts qX11_isFine_X11 hown hK hP 0 rfl rfl 8 (by decide) (hts _ kX11_isFine_0) (fun _ h9 => h9) rfl dX11_isFine_1 ?_
  refine lv_iconst (v := (-1 : Int32)) hx hb dX11_isFine_4 rfl ?_
  refine lv_icmp_ne (tgt := 12) hx hb dX11_isFine_5 (by decide) (fun c1 => ?_) (fun c1 => ?_)
  · have h := zz_f h c1
    refine lv_iconst (v := (nI 0)) hx hb dX11_isFine_12 rfl ?_
    have j0_ := Option.some.inj h
    subst j0_
    exact W.zret (v := (nI 0)) hx hb hr rfl (fun t ht hW => ⟨⟨_, (), rfl, rfl, zPost.of hP hD hK ht hW [0] rfl rfl rfl⟩, hS.F ht⟩) hS.2.2 dX11_isFine_13
  · have h := zz_t h c1
    refine lv_iconst (v := (nI 1)) hx hb dX11_isFine_8 rfl ?_
    refine lv_goto (tgt := 13) hx hb dX11_isFine_9 (by decide) ?_
    have j0_ := Option.some.inj h
    subst j0_
    exact W.zret (v := (nI 1)) hx hb hr rfl (fun t ht hW => ⟨⟨_, (), rfl, rfl, zPost.of hP hD hK ht hW [0] rfl rfl rfl⟩, hS.F ht⟩) hS.2.2 dX11_isFine_13
/-! RunDeskModel.wrong -/
theorem dX11_wrong_0 : decode cX11_wrong 0 = .ok (.aload_n 0, 1) := by decide +kernel
theorem dX11_wrong_1 : decode cX11_wrong 1 = .ok (.getfield 151, 3) := by decide +kernel
theorem dX11_wrong_4 : decode cX11_wrong 4 = .ok (.iconst (-1), 1) := by decide +kernel
theorem dX11_wrong_5 : decode cX11_wrong 5 = .ok (.if_icmp .ne 11, 3) := by decide +kernel
theorem dX11_wrong_8 : decode cX11_wrong 8 = .ok (.aload_n 0, 1) := by decide +kernel
theorem dX11_wrong_9 : decode cX11_wrong 9 = .ok (.aload_n 0, 1) := by decide +kernel
theorem dX11_wrong_10 : decode cX11_wrong 10 = .ok (.getfield 148, 3) := by decide +kernel
theorem dX11_wrong_13 : decode cX11_wrong 13 = .ok (.putfield 151, 3) := by decide +kernel
theorem dX11_wrong_16 : decode cX11_wrong 16 = .ok (.return_, 1) := by decide +kernel
theorem kX11_wrong_0 : (.fieldLink RX11 151 "RunDeskModel" "fault" "I" : Cond) ∈ wsX11_wrong := List.mem_of_getElem? (i := 1) (by decide +kernel)
theorem qX11_wrong_X11 : ∀ w ∈ wsX110, w ∈ wsX11_wrong := fun _ h => List.mem_cons_of_mem _ (List.mem_append_right _ (h))
theorem kX11_wrong_2 : (.fieldLink RX11 148 "RunDeskModel" "at" "I" : Cond) ∈ wsX11_wrong := List.mem_of_getElem? (i := 2) (by decide +kernel)
set_option maxHeartbeats 4000000 in
set_option maxRecDepth 100000 in
theorem mX11_wrong (l : Launch) (D : va_G) (cB cI cZ : ClassId) (a_t : Nat) (a_t_now : Nat) (a_t_kept : Nat) (a_t_text : Nat) (a_t_passing : Nat) (a_t_order : Nat) (a_t_times : Nat) (t_thrown : Int32) (t_isKept : Int32) (t_length : Int32) (t_at : Int32) (t_fault : Int32) (t_open : Int32) (t_asked : Int32) (t_byGun : Int32) (t_prizeMost : Int32) (t_listed : Int32) (sz : Nat) (t_fault' : Int32) (h : fX11_wrong t_at t_fault = some (t_fault')) : Met l yX11_wrong wsX11_wrong ({ frames := 0, cells := 0, slots := 0, locals := 0 } : Room) (va_Pc [.ref a_t] (zPre D (zT cB cI cZ) [(a_t, .inr (11, [.int t_thrown, .ref a_t_now, .ref a_t_kept, .int t_isKept, .ref a_t_text, .int t_length, .ref a_t_passing, .int t_at, .int t_fault, .int t_open, .int t_asked, .int t_byGun, .int t_prizeMost, .ref a_t_order, .ref a_t_times, .int t_listed]))] sz)) (zQv D (zT cB cI cZ) [(a_t, .inr (11, [.int t_thrown, .ref a_t_now, .ref a_t_kept, .int t_isKept, .ref a_t_text, .int t_length, .ref a_t_passing, .int t_at, .int t_fault', .int t_open, .int t_asked, .int t_byGun, .int t_prizeMost, .ref a_t_order, .ref a_t_times, .int t_listed]))] (va_A [(a_t, .inr (11, [.int t_thrown, .ref a_t_now, .ref a_t_kept, .int t_isKept, .ref a_t_text, .int t_length, .ref a_t_passing, .int t_at, .int t_fault, .int t_open, .int t_asked, .int t_byGun, .int t_prizeMost, .ref a_t_order, .ref a_t_times, .int t_listed]))] sz)) 0 0 (va_A [(a_t, .inr (11, [.int t_thrown, .ref a_t_now, .ref a_t_kept, .int t_isKept, .ref a_t_text, .int t_length, .ref a_t_passing, .int t_at, .int t_fault, .int t_open, .int t_asked, .int t_byGun, .int t_prizeMost, .ref a_t_order, .ref a_t_times, .int t_listed]))] sz) := by
  refine Met.ofW (cc := cX11_wrong) (maxL := 1) (ret := none) (by decide) rfl ?_
  intro p e s m args below meth c s₁ B hml hv
  obtain ⟨rfl, hsz, hP, hK, hN, hZ, hD0⟩ := hv
  have hx := B.exec
  have hb := B.bytes
  have hr := B.returns
  have hts := atoms_spec (ws := wsX11_wrong) B.pre
  have hown : s.vm.findClass RX11 = some m.cls := findClass_of_methodNamed B.named
  have hlocks := B.notSynchronized
  subst hsz
  have hD := hD0.self (sz := s.heap.size)
  generalize hAe : va_A [(a_t, .inr (11, [.int t_thrown, .ref a_t_now, .ref a_t_kept, .int t_isKept, .ref a_t_text, .int t_length, .ref a_t_passing, .int t_at, .int t_fault, .int t_open, .int t_asked, .int t_byGun, .int t_prizeMost, .ref a_t_order, .ref a_t_times, .int t_listed]))] s.heap.size = A at hD hZ ⊢
  have hA : ∀ q : Nat, s.heap.size ≤ q → A q := fun q h => by rw [← hAe]; exact Or.inr h
  have hS : va_S A s.heap s.heap [] := va_S.rf
  have hl := lv_entry ([.ref a_t]) (n := 1) (Nat.le_of_ble_eq_true rfl)
  rw [lg_entry_eq]
  generalize (lg_sl ([.ref a_t]) ++ List.replicate (1 - (lg_sl ([.ref a_t])).length) Slot.unset).toArray = ls at hl ⊢
  have hl : lv_has ls 1 [(0, .ref a_t)] := hl
  unfold fX11_wrong at h
  refine lv_aload_n hx hb dX11_wrong_0 rfl (lv_at hl 0 rfl) ?_
  refine va_get (D := D) (ci := 11) (C := RX11) (T := TX11) (N := 16) hx hb hts qX11_wrong_X11 hown hK hP 0 rfl rfl 8 (by decide) (hts _ kX11_wrong_0) (fun _ h9 => h9) rfl dX11_wrong_1 ?_
  refine lv_iconst (v := (-1 : Int32)) hx hb dX11_wrong_4 rfl ?_
  refine lv_icmp_ne (tgt := 16) hx hb dX11_wrong_5 (by decide) (fun c1 => ?_) (fun c1 => ?_)
  · have h := zz_f h c1
    have j0_ := Option.some.inj h
    subst j0_
    exact W.vret hx hb hr (fun t ht hW => ⟨⟨(), rfl, trivial, zPost.of hP hD hK ht hW [0] rfl rfl rfl⟩, hS.F ht⟩) hS.2.2 dX11_wrong_16
  · have h := zz_t h c1
    refine lv_aload_n hx hb dX11_wrong_8 rfl (lv_at hl 0 rfl) ?_
    refine lv_aload_n hx hb dX11_wrong_9 rfl (lv_at hl 0 rfl) ?_
    refine va_get (D := D) (ci := 11) (C := RX11) (T := TX11) (N := 16) hx hb hts qX11_wrong_X11 hown hK hP 0 rfl rfl 7 (by decide) (hts _ kX11_wrong_2) (fun _ h9 => h9) rfl dX11_wrong_10 ?_
    refine va_put (D := D) (ci := 11) (ty := .int) (C := RX11) (T := TX11) (N := 16) hx hb hts qX11_wrong_X11 tyX11 tyX11_ok nmX11 hown hK hP hD hS 0 rfl rfl 8 (by decide) (hts _ kX11_wrong_0) (fun _ h9 => h9) rfl (by decide +kernel) rfl (by first | rfl | exact zz_fit) (Nat.le_of_ble_eq_true rfl) dX11_wrong_13 (fun H locs hP hD hS => ?_)
    have hP : va_P D vwCl [(a_t, .inr (11, [.int t_thrown, .ref a_t_now, .ref a_t_kept, .int t_isKept, .ref a_t_text, .int t_length, .ref a_t_passing, .int t_at, .int t_at, .int t_open, .int t_asked, .int t_byGun, .int t_prizeMost, .ref a_t_order, .ref a_t_times, .int t_listed]))] H := hP
    have hD : va_D A [(a_t, .inr (11, [.int t_thrown, .ref a_t_now, .ref a_t_kept, .int t_isKept, .ref a_t_text, .int t_length, .ref a_t_passing, .int t_at, .int t_at, .int t_open, .int t_asked, .int t_byGun, .int t_prizeMost, .ref a_t_order, .ref a_t_times, .int t_listed]))] := hD
    have j0_ := Option.some.inj h
    subst j0_
    exact W.vret hx hb hr (fun t ht hW => ⟨⟨(), rfl, trivial, zPost.of hP hD hK ht hW [0] rfl rfl rfl⟩, hS.F ht⟩) hS.2.2 dX11_wrong_16
/-! RunDeskModel.isDigit -/
theorem dX11_isDigit_0 : decode cX11_isDigit 0 = .ok (.iload_n 0, 1) := by decide +kernel
theorem dX11_isDigit_1 : decode cX11_isDigit 1 = .ok (.bipush 48, 2) := by decide +kernel
theorem dX11_isDigit_3 : decode cX11_isDigit 3 = .ok (.if_icmp .lt 13, 3) := by decide +kernel
theorem dX11_isDigit_6 : decode cX11_isDigit 6 = .ok (.iload_n 0, 1) := by decide +kernel
theorem dX11_isDigit_7 : decode cX11_isDigit 7 = .ok (.bipush 57, 2) := by decide +kernel
theorem dX11_isDigit_9 : decode cX11_isDigit 9 = .ok (.if_icmp .gt 7, 3) := by decide +kernel
theorem dX11_isDigit_12 : decode cX11_isDigit 12 = .ok (.iconst 1, 1) := by decide +kernel
theorem dX11_isDigit_13 : decode cX11_isDigit 13 = .ok (.goto 4, 3) := by decide +kernel
theorem dX11_isDigit_16 : decode cX11_isDigit 16 = .ok (.iconst 0, 1) := by decide +kernel
theorem dX11_isDigit_17 : decode cX11_isDigit 17 = .ok (.ireturn, 1) := by decide +kernel
set_option maxHeartbeats 4000000 in
set_option maxRecDepth 100000 in
theorem mX11_isDigit (l : Launch) (D : va_G) (cB cI cZ : ClassId) (sz : Nat) (x1 : Int32) (b0 : Bool) (h : fX11_isDigit x1 = some (b0)) : Met l yX11_isDigit wsX11_isDigit ({ frames := 0, cells := 0, slots := 0, locals := 0 } : Room) (va_Pc [.int x1] (zPre D (zT cB cI cZ) [] sz)) (zQi (zb b0) D (zT cB cI cZ) [] (va_A [] sz)) 0 0 (va_A [] sz) := by
  refine Met.ofW (cc := cX11_isDigit) (maxL := 1) (ret := (some .boolean)) (by decide) rfl ?_
  intro p e s m args below meth c s₁ B hml hv
  obtain ⟨rfl, hsz, hP, hK, hN, hZ, hD0⟩ := hv
  have hx := B.exec
  have hb := B.bytes
  have hr := B.returns
  have hts := atoms_spec (ws := wsX11_isDigit) B.pre
  have hown : s.vm.findClass RX11 = some m.cls := findClass_of_methodNamed B.named
  have hlocks := B.notSynchronized
  subst hsz
  have hD := hD0.self (sz := s.heap.size)
  generalize hAe : va_A [] s.heap.size = A at hD hZ ⊢
  have hA : ∀ q : Nat, s.heap.size ≤ q → A q := fun q h => by rw [← hAe]; exact Or.inr h
  have hS : va_S A s.heap s.heap [] := va_S.rf
  have hl := lv_entry ([.int x1]) (n := 1) (Nat.le_of_ble_eq_true rfl)
  rw [lg_entry_eq]
  generalize (lg_sl ([.int x1]) ++ List.replicate (1 - (lg_sl ([.int x1])).length) Slot.unset).toArray = ls at hl ⊢
  have hl : lv_has ls 1 [(0, .int x1)] := hl
  unfold fX11_isDigit at h
  refine lv_iload_n hx hb dX11_isDigit_0 rfl (lv_at hl 0 rfl) ?_
  refine lv_bipush (v := (nI 48)) hx hb dX11_isDigit_1 rfl ?_
  refine lv_icmp_lt (tgt := 16) hx hb dX11_isDigit_3 (by decide) (fun c1 => ?_) (fun c1 => ?_)
  · have h := zz_t h c1
    refine lv_iconst (v := (nI 0)) hx hb dX11_isDigit_16 rfl ?_
    have j0_ := Option.some.inj h
    subst j0_
    exact W.zret (v := (nI 0)) hx hb hr rfl (fun t ht hW => ⟨⟨_, (), rfl, rfl, zPost.of hP hD hK ht hW [] rfl rfl rfl⟩, hS.F ht⟩) hS.2.2 dX11_isDigit_17
  · have h := zz_f h c1
    refine lv_iload_n hx hb dX11_isDigit_6 rfl (lv_at hl 0 rfl) ?_
    refine lv_bipush (v := (nI 57)) hx hb dX11_isDigit_7 rfl ?_
    refine lv_icmp_gt (tgt := 16) hx hb dX11_isDigit_9 (by decide) (fun c2 => ?_) (fun c2 => ?_)
    · have h := zz_t h c2
      refine lv_iconst (v := (nI 0)) hx hb dX11_isDigit_16 rfl ?_
      have j0_ := Option.some.inj h
      subst j0_
      exact W.zret (v := (nI 0)) hx hb hr rfl (fun t ht hW => ⟨⟨_, (), rfl, rfl, zPost.of hP hD hK ht hW [] rfl rfl rfl⟩, hS.F ht⟩) hS.2.2 dX11_isDigit_17
    · have h := zz_f h c2
      refine lv_iconst (v := (nI 1)) hx hb dX11_isDigit_12 rfl ?_
      refine lv_goto (tgt := 17) hx hb dX11_isDigit_13 (by decide) ?_
      have j0_ := Option.some.inj h
      subst j0_
      exact W.zret (v := (nI 1)) hx hb hr rfl (fun t ht hW => ⟨⟨_, (), rfl, rfl, zPost.of hP hD hK ht hW [] rfl rfl rfl⟩, hS.F ht⟩) hS.2.2 dX11_isDigit_17
/-! RunDeskModel.number -/
theorem dX11_number_0 : decode cX11_number 0 = .ok (.aload_n 0, 1) := by decide +kernel
theorem dX11_number_1 : decode cX11_number 1 = .ok (.invokevirtual 154, 3) := by decide +kernel
theorem dX11_number_4 : decode cX11_number 4 = .ok (.invokestatic 157, 3) := by decide +kernel
theorem dX11_number_7 : decode cX11_number 7 = .ok (.ifCond .ne 9, 3) := by decide +kernel
theorem dX11_number_10 : decode cX11_number 10 = .ok (.aload_n 0, 1) := by decide +kernel
theorem dX11_number_11 : decode cX11_number 11 = .ok (.invokevirtual 160, 3) := by decide +kernel
theorem dX11_number_14 : decode cX11_number 14 = .ok (.iconst 0, 1) := by decide +kernel
theorem dX11_number_15 : decode cX11_number 15 = .ok (.ireturn, 1) := by decide +kernel
theorem dX11_number_16 : decode cX11_number 16 = .ok (.iconst 0, 1) := by decide +kernel
theorem dX11_number_17 : decode cX11_number 17 = .ok (.istore_n 1, 1) := by decide +kernel
theorem dX11_number_18 : decode cX11_number 18 = .ok (.iconst 0, 1) := by decide +kernel
theorem dX11_number_19 : decode cX11_number 19 = .ok (.istore_n 2, 1) := by decide +kernel
theorem dX11_number_20 : decode cX11_number 20 = .ok (.aload_n 0, 1) := by decide +kernel
theorem dX11_number_21 : decode cX11_number 21 = .ok (.getfield 148, 3) := by decide +kernel
theorem dX11_number_24 : decode cX11_number 24 = .ok (.aload_n 0, 1) := by decide +kernel
theorem dX11_number_25 : decode cX11_number 25 = .ok (.getfield 145, 3) := by decide +kernel
theorem dX11_number_28 : decode cX11_number 28 = .ok (.if_icmp .ge 63, 3) := by decide +kernel
theorem dX11_number_31 : decode cX11_number 31 = .ok (.aload_n 0, 1) := by decide +kernel
theorem dX11_number_32 : decode cX11_number 32 = .ok (.getfield 16, 3) := by decide +kernel
theorem dX11_number_35 : decode cX11_number 35 = .ok (.aload_n 0, 1) := by decide +kernel
theorem dX11_number_36 : decode cX11_number 36 = .ok (.getfield 148, 3) := by decide +kernel
theorem dX11_number_39 : decode cX11_number 39 = .ok (.baload, 1) := by decide +kernel
theorem dX11_number_40 : decode cX11_number 40 = .ok (.invokestatic 157, 3) := by decide +kernel
theorem dX11_number_43 : decode cX11_number 43 = .ok (.ifCond .eq 48, 3) := by decide +kernel
theorem dX11_number_46 : decode cX11_number 46 = .ok (.iload_n 2, 1) := by decide +kernel
theorem dX11_number_47 : decode cX11_number 47 = .ok (.iconst 5, 1) := by decide +kernel
theorem dX11_number_48 : decode cX11_number 48 = .ok (.if_icmp .ne 9, 3) := by decide +kernel
theorem dX11_number_51 : decode cX11_number 51 = .ok (.aload_n 0, 1) := by decide +kernel
theorem dX11_number_52 : decode cX11_number 52 = .ok (.invokevirtual 160, 3) := by decide +kernel
theorem dX11_number_55 : decode cX11_number 55 = .ok (.iconst 0, 1) := by decide +kernel
theorem dX11_number_56 : decode cX11_number 56 = .ok (.ireturn, 1) := by decide +kernel
theorem dX11_number_57 : decode cX11_number 57 = .ok (.bipush 10, 2) := by decide +kernel
theorem dX11_number_59 : decode cX11_number 59 = .ok (.iload_n 1, 1) := by decide +kernel
theorem dX11_number_60 : decode cX11_number 60 = .ok (.imul, 1) := by decide +kernel
theorem dX11_number_61 : decode cX11_number 61 = .ok (.aload_n 0, 1) := by decide +kernel
theorem dX11_number_62 : decode cX11_number 62 = .ok (.getfield 16, 3) := by decide +kernel
theorem dX11_number_65 : decode cX11_number 65 = .ok (.aload_n 0, 1) := by decide +kernel
theorem dX11_number_66 : decode cX11_number 66 = .ok (.getfield 148, 3) := by decide +kernel
theorem dX11_number_69 : decode cX11_number 69 = .ok (.baload, 1) := by decide +kernel
theorem dX11_number_70 : decode cX11_number 70 = .ok (.iadd, 1) := by decide +kernel
theorem dX11_number_71 : decode cX11_number 71 = .ok (.bipush 48, 2) := by decide +kernel
theorem dX11_number_73 : decode cX11_number 73 = .ok (.isub, 1) := by decide +kernel
theorem dX11_number_74 : decode cX11_number 74 = .ok (.istore_n 1, 1) := by decide +kernel
theorem dX11_number_75 : decode cX11_number 75 = .ok (.iinc 2 1, 3) := by decide +kernel
theorem dX11_number_78 : decode cX11_number 78 = .ok (.aload_n 0, 1) := by decide +kernel
theorem dX11_number_79 : decode cX11_number 79 = .ok (.dup, 1) := by decide +kernel
theorem dX11_number_80 : decode cX11_number 80 = .ok (.getfield 148, 3) := by decide +kernel
theorem dX11_number_83 : decode cX11_number 83 = .ok (.iconst 1, 1) := by decide +kernel
theorem dX11_number_84 : decode cX11_number 84 = .ok (.iadd, 1) := by decide +kernel
theorem dX11_number_85 : decode cX11_number 85 = .ok (.putfield 148, 3) := by decide +kernel
theorem dX11_number_88 : decode cX11_number 88 = .ok (.goto (-68), 3) := by decide +kernel
theorem dX11_number_91 : decode cX11_number 91 = .ok (.iload_n 1, 1) := by decide +kernel
theorem dX11_number_92 : decode cX11_number 92 = .ok (.ireturn, 1) := by decide +kernel
set_option maxRecDepth 20000 in
theorem ggX11_number_X11_look : GoodIn wsX11_number wsX11_look := goodIn_sub (List.forall_mem_cons.mpr ⟨List.mem_cons_of_mem _ (List.mem_append_left _ (List.mem_of_getElem? (i := 7) rfl)), (List.forall_mem_append.mpr ⟨(List.forall_mem_cons.mpr ⟨List.mem_cons_of_mem _ (List.mem_append_left _ (List.mem_of_getElem? (i := 0) rfl)), (List.forall_mem_cons.mpr ⟨List.mem_cons_of_mem _ (List.mem_append_left _ (List.mem_of_getElem? (i := 1) rfl)), (List.forall_mem_cons.mpr ⟨List.mem_cons_of_mem _ (List.mem_append_left _ (List.mem_of_getElem? (i := 2) rfl)), (fun _ h => nomatch h)⟩)⟩)⟩), (fun _ h => List.mem_cons_of_mem _ (List.mem_append_right _ (h)))⟩)⟩) (by decide +kernel)
set_option maxRecDepth 20000 in
theorem gX11_number_X11_look : GoodIn wsX11_number (wsV RX11 154 RX11 yX11_look wsX11_look) := goodIn_app (goodIn_of _ (by decide +kernel)) ggX11_number_X11_look
set_option maxRecDepth 20000 in
theorem ggX11_number_X11_isDigit : GoodIn wsX11_number wsX11_isDigit := goodIn_sub (List.forall_mem_cons.mpr ⟨List.mem_cons_of_mem _ (List.mem_append_left _ (List.mem_of_getElem? (i := 10) rfl)), (fun _ h => nomatch h)⟩) (by decide +kernel)
set_option maxRecDepth 20000 in
theorem gX11_number_X11_isDigit : GoodIn wsX11_number (va_wsS RX11 157 yX11_isDigit wsX11_isDigit) := goodIn_app (goodIn_of _ (by decide +kernel)) ggX11_number_X11_isDigit
set_option maxRecDepth 20000 in
theorem ggX11_number_X11_wrong : GoodIn wsX11_number wsX11_wrong := goodIn_sub (List.forall_mem_cons.mpr ⟨List.mem_cons_of_mem _ (List.mem_append_left _ (List.mem_of_getElem? (i := 14) rfl)), (List.forall_mem_append.mpr ⟨(List.forall_mem_cons.mpr ⟨List.mem_cons_of_mem _ (List.mem_append_left _ (List.mem_of_getElem? (i := 15) rfl)), (List.forall_mem_cons.mpr ⟨List.mem_cons_of_mem _ (List.mem_append_left _ (List.mem_of_getElem? (i := 0) rfl)), (fun _ h => nomatch h)⟩)⟩), (fun _ h => List.mem_cons_of_mem _ (List.mem_append_right _ (h)))⟩)⟩) (by decide +kernel)
set_option maxRecDepth 20000 in
theorem gX11_number_X11_wrong : GoodIn wsX11_number (wsV RX11 160 RX11 yX11_wrong wsX11_wrong) := goodIn_app (goodIn_of _ (by decide +kernel)) ggX11_number_X11_wrong
theorem kX11_number_0 : (.fieldLink RX11 148 "RunDeskModel" "at" "I" : Cond) ∈ wsX11_number := List.mem_of_getElem? (i := 1) (by decide +kernel)
theorem qX11_number_X11 : ∀ w ∈ wsX110, w ∈ wsX11_number := fun _ h => List.mem_cons_of_mem _ (List.mem_append_right _ (h))
theorem kX11_number_2 : (.fieldLink RX11 145 "RunDeskModel" "length" "I" : Cond) ∈ wsX11_number := List.mem_of_getElem? (i := 2) (by decide +kernel)
theorem kX11_number_3 : (.fieldLink RX11 16 "RunDeskModel" "text" "[B" : Cond) ∈ wsX11_number := List.mem_of_getElem? (i := 3) (by decide +kernel)
set_option maxHeartbeats 4000000 in
set_option maxRecDepth 100000 in
theorem mX11_number (l : Launch) (D : va_G) (cB cI cZ : ClassId) (a_t : Nat) (a_t_now : Nat) (a_t_kept : Nat) (a_t_text : Nat) (a_t_passing : Nat) (a_t_order : Nat) (a_t_times : Nat) (t_thrown : Int32) (t_isKept : Int32) (t_length : Int32) (t_at : Int32) (t_fault : Int32) (t_open : Int32) (t_asked : Int32) (t_byGun : Int32) (t_prizeMost : Int32) (t_listed : Int32) (t_text : Nat → Int32) (sz : Nat) (N : Nat) (r0 : Int32) (t_at' : Int32) (t_fault' : Int32) (h : fX11_number N t_at t_fault t_length t_text = some (r0, t_at', t_fault')) : Met l yX11_number wsX11_number ({ frames := 1, cells := 0, slots := 0, locals := 20 } : Room) (va_Pc [.ref a_t] (zPre D (zT cB cI cZ) [(a_t, .inr (11, [.int t_thrown, .ref a_t_now, .ref a_t_kept, .int t_isKept, .ref a_t_text, .int t_length, .ref a_t_passing, .int t_at, .int t_fault, .int t_open, .int t_asked, .int t_byGun, .int t_prizeMost, .ref a_t_order, .ref a_t_times, .int t_listed])), (a_t_text, .inl (cB, 200, .inl t_text))] sz)) (zQi r0 D (zT cB cI cZ) [(a_t, .inr (11, [.int t_thrown, .ref a_t_now, .ref a_t_kept, .int t_isKept, .ref a_t_text, .int t_length, .ref a_t_passing, .int t_at', .int t_fault', .int t_open, .int t_asked, .int t_byGun, .int t_prizeMost, .ref a_t_order, .ref a_t_times, .int t_listed])), (a_t_text, .inl (cB, 200, .inl t_text))] (va_A [(a_t, .inr (11, [.int t_thrown, .ref a_t_now, .ref a_t_kept, .int t_isKept, .ref a_t_text, .int t_length, .ref a_t_passing, .int t_at, .int t_fault, .int t_open, .int t_asked, .int t_byGun, .int t_prizeMost, .ref a_t_order, .ref a_t_times, .int t_listed])), (a_t_text, .inl (cB, 200, .inl t_text))] sz)) 0 0 (va_A [(a_t, .inr (11, [.int t_thrown, .ref a_t_now, .ref a_t_kept, .int t_isKept, .ref a_t_text, .int t_length, .ref a_t_passing, .int t_at, .int t_fault, .int t_open, .int t_asked, .int t_byGun, .int t_prizeMost, .ref a_t_order, .ref a_t_times, .int t_listed])), (a_t_text, .inl (cB, 200, .inl t_text))] sz) := by
  refine Met.ofW (cc := cX11_number) (maxL := 3) (ret := (some .int)) (by decide) rfl ?_
  intro p e s m args below meth c s₁ B hml hv
  obtain ⟨rfl, hsz, hP, hK, hN, hZ, hD0⟩ := hv
  have hx := B.exec
  have hb := B.bytes
  have hr := B.returns
  have hts := atoms_spec (ws := wsX11_number) B.pre
  have hown : s.vm.findClass RX11 = some m.cls := findClass_of_methodNamed B.named
  have hlocks := B.notSynchronized
  subst hsz
  have hD := hD0.self (sz := s.heap.size)
  generalize hAe : va_A [(a_t, .inr (11, [.int t_thrown, .ref a_t_now, .ref a_t_kept, .int t_isKept, .ref a_t_text, .int t_length, .ref a_t_passing, .int t_at, .int t_fault, .int t_open, .int t_asked, .int t_byGun, .int t_prizeMost, .ref a_t_order, .ref a_t_times, .int t_listed])), (a_t_text, .inl (cB, 200, .inl t_text))] s.heap.size = A at hD hZ ⊢
  have hA : ∀ q : Nat, s.heap.size ≤ q → A q := fun q h => by rw [← hAe]; exact Or.inr h
  have hS : va_S A s.heap s.heap [] := va_S.rf
  have hl := lv_entry ([.ref a_t]) (n := 3) (Nat.le_of_ble_eq_true rfl)
  rw [lg_entry_eq]
  generalize (lg_sl ([.ref a_t]) ++ List.replicate (3 - (lg_sl ([.ref a_t])).length) Slot.unset).toArray = ls at hl ⊢
  have hl : lv_has ls 3 [(0, .ref a_t)] := hl
  unfold fX11_number at h
  refine lv_aload_n hx hb dX11_number_0 rfl (lv_at hl 0 rfl) ?_
  obtain ⟨⟨r1, t_at_r2⟩, e3, h⟩ := zz_b h
  dsimp only at h
  refine zVi (As := []) (rest := []) (C := RX11) (wr := []) [0, 1] [] 0 ⟨hx, hb, hml, hown, hts⟩ (mX11_look l D cB cI cZ a_t a_t_now a_t_kept a_t_text a_t_passing a_t_order a_t_times t_thrown t_isKept t_length t_at t_fault t_open t_asked t_byGun t_prizeMost t_listed t_text s.heap.size N r1 t_at_r2 e3) (cwV 0 hts gX11_number_X11_look rfl rfl rfl (by decide +kernel) ⟨Nat.le_of_ble_eq_true rfl, Nat.le_of_ble_eq_true rfl⟩) hK hN hZ hP hD hS hA rfl rfl rfl rfl rfl rfl rfl rfl hl.1 rfl (lv_room (Nat.le_of_ble_eq_true rfl)) dX11_number_1 ⟨Nat.le_of_ble_eq_true rfl, Nat.le_of_ble_eq_true rfl⟩ (fun H locs hP hD hS => ?_)
  have hP : va_P D vwCl [(a_t, .inr (11, [.int t_thrown, .ref a_t_now, .ref a_t_kept, .int t_isKept, .ref a_t_text, .int t_length, .ref a_t_passing, .int t_at_r2, .int t_fault, .int t_open, .int t_asked, .int t_byGun, .int t_prizeMost, .ref a_t_order, .ref a_t_times, .int t_listed])), (a_t_text, .inl (cB, 200, .inl t_text))] H := hP
  have hD : va_D A [(a_t, .inr (11, [.int t_thrown, .ref a_t_now, .ref a_t_kept, .int t_isKept, .ref a_t_text, .int t_length, .ref a_t_passing, .int t_at_r2, .int t_fault, .int t_open, .int t_asked, .int t_byGun, .int t_prizeMost, .ref a_t_order, .ref a_t_times, .int t_listed])), (a_t_text, .inl (cB, 200, .inl t_text))] := hD
  obtain ⟨b4, e5, h⟩ := zz_b h
  refine zSi (As := [.int r1]) (rest := []) (wr := [(a_t, .inr (11, [.int t_thrown, .ref a_t_now, .ref a_t_kept, .int t_isKept, .ref a_t_text, .int t_length, .ref a_t_passing, .int t_at_r2, .int t_fault, .int t_open, .int t_asked, .int t_byGun, .int t_prizeMost, .ref a_t_order, .ref a_t_times, .int t_listed])), (a_t_text, .inl (cB, 200, .inl t_text))]) [] [0, 1] ⟨hx, hb, hml, hown, hts⟩ (mX11_isDigit l D cB cI cZ H.size r1 b4 e5) (va_cwS 1 hts gX11_number_X11_isDigit rfl rfl rfl (by decide +kernel) ⟨Nat.le_of_ble_eq_true rfl, Nat.le_of_ble_eq_true rfl⟩) hK hN hZ hP hD hS hA rfl rfl rfl rfl rfl rfl hl.1 rfl (lv_room (Nat.le_of_ble_eq_true rfl)) dX11_number_4 ⟨Nat.le_of_ble_eq_true rfl, Nat.le_of_ble_eq_true rfl⟩ (fun H locs hP hD hS => ?_)
  have hP : va_P D vwCl [(a_t, .inr (11, [.int t_thrown, .ref a_t_now, .ref a_t_kept, .int t_isKept, .ref a_t_text, .int t_length, .ref a_t_passing, .int t_at_r2, .int t_fault, .int t_open, .int t_asked, .int t_byGun, .int t_prizeMost, .ref a_t_order, .ref a_t_times, .int t_listed])), (a_t_text, .inl (cB, 200, .inl t_text))] H := hP
  have hD : va_D A [(a_t, .inr (11, [.int t_thrown, .ref a_t_now, .ref a_t_kept, .int t_isKept, .ref a_t_text, .int t_length, .ref a_t_passing, .int t_at_r2, .int t_fault, .int t_open, .int t_asked, .int t_byGun, .int t_prizeMost, .ref a_t_order, .ref a_t_times, .int t_listed])), (a_t_text, .inl (cB, 200, .inl t_text))] := hD
  refine lv_if_ne (tgt := 16) hx hb dX11_number_7 (by decide) (fun c6 => ?_) (fun c6 => ?_)
  · have h := zz_f h c6
    refine lv_iconst (v := (nI 0)) hx hb dX11_number_16 rfl ?_
    refine lv_istore_n (lv' := [(1, .int (nI 0)), (0, .ref a_t)]) hx hb dX11_number_17 rfl hl (by decide) rfl (fun ls hl => ?_)
    refine lv_iconst (v := (nI 0)) hx hb dX11_number_18 rfl ?_
    refine lv_istore_n (lv' := [(2, .int (nI 0)), (1, .int (nI 0)), (0, .ref a_t)]) hx hb dX11_number_19 rfl hl (by decide) rfl (fun ls hl => ?_)
    have X20_91 : ∀ (v1_20 : Int32) (v2_20 : Int32) (t_at_l20 : Int32) (t_fault_l20 : Int32) (H : Heap) (locs : List Loc) (ls : Array Slot), some (v1_20, t_at_l20, t_fault_l20) = some (r0, t_at', t_fault') → va_P D vwCl [(a_t, .inr (11, [.int t_thrown, .ref a_t_now, .ref a_t_kept, .int t_isKept, .ref a_t_text, .int t_length, .ref a_t_passing, .int t_at_l20, .int t_fault_l20, .int t_open, .int t_asked, .int t_byGun, .int t_prizeMost, .ref a_t_order, .ref a_t_times, .int t_listed])), (a_t_text, .inl (cB, 200, .inl t_text))] H → va_D A [(a_t, .inr (11, [.int t_thrown, .ref a_t_now, .ref a_t_kept, .int t_isKept, .ref a_t_text, .int t_length, .ref a_t_passing, .int t_at_l20, .int t_fault_l20, .int t_open, .int t_asked, .int t_byGun, .int t_prizeMost, .ref a_t_order, .ref a_t_times, .int t_listed])), (a_t_text, .inl (cB, 200, .inl t_text))] → va_S A s.heap H locs → lv_has ls 3 [(2, .int v2_20), (1, .int v1_20), (0, .ref a_t)] → W p l e (headSpec wsX11_number ({ frames := 1, cells := 0, slots := 0, locals := 20 } : Room)).room s m #[Value.ref a_t] below meth c H locs 0 0 (MQ below (zQi r0 D (zT cB cI cZ) [(a_t, .inr (11, [.int t_thrown, .ref a_t_now, .ref a_t_kept, .int t_isKept, .ref a_t_text, .int t_length, .ref a_t_passing, .int t_at', .int t_fault', .int t_open, .int t_asked, .int t_byGun, .int t_prizeMost, .ref a_t_order, .ref a_t_times, .int t_listed])), (a_t_text, .inl (cB, 200, .inl t_text))] A) #[Value.ref a_t] s 0 0 A) (F0 m 91 ls []) := by
      intro v1_20 v2_20 t_at_l20 t_fault_l20 H locs ls h hP hD hS hl
      refine lv_iload_n hx hb dX11_number_91 rfl (lv_at hl 1 rfl) ?_
      obtain ⟨j0_, g_⟩ := Prod.mk.inj (Option.some.inj h)
      obtain ⟨j1_, g_⟩ := Prod.mk.inj g_
      have j2_ := g_
      subst j0_
      subst j1_
      subst j2_
      exact W.iret (v := v1_20) hx hb hr (fun t ht hW => ⟨⟨_, (), rfl, rfl, zPost.of hP hD hK ht hW [0, 1] rfl rfl rfl⟩, hS.F ht⟩) hS.2.2 dX11_number_92
    have L20 : ∀ (n : Nat) (v1_20 : Int32) (v2_20 : Int32) (t_at_l20 : Int32) (t_fault_l20 : Int32) (H : Heap) (locs : List Loc) (ls : Array Slot), fX11_number_L20 t_length t_text (fun (v1_20 : Int32) (v2_20 : Int32) (t_at_l20 : Int32) (t_fault_l20 : Int32) => some (v1_20, t_at_l20, t_fault_l20)) n v1_20 v2_20 t_at_l20 t_fault_l20 = some (r0, t_at', t_fault') → va_P D vwCl [(a_t, .inr (11, [.int t_thrown, .ref a_t_now, .ref a_t_kept, .int t_isKept, .ref a_t_text, .int t_length, .ref a_t_passing, .int t_at_l20, .int t_fault_l20, .int t_open, .int t_asked, .int t_byGun, .int t_prizeMost, .ref a_t_order, .ref a_t_times, .int t_listed])), (a_t_text, .inl (cB, 200, .inl t_text))] H → va_D A [(a_t, .inr (11, [.int t_thrown, .ref a_t_now, .ref a_t_kept, .int t_isKept, .ref a_t_text, .int t_length, .ref a_t_passing, .int t_at_l20, .int t_fault_l20, .int t_open, .int t_asked, .int t_byGun, .int t_prizeMost, .ref a_t_order, .ref a_t_times, .int t_listed])), (a_t_text, .inl (cB, 200, .inl t_text))] → va_S A s.heap H locs → lv_has ls 3 [(2, .int v2_20), (1, .int v1_20), (0, .ref a_t)] → W p l e (headSpec wsX11_number ({ frames := 1, cells := 0, slots := 0, locals := 20 } : Room)).room s m #[Value.ref a_t] below meth c H locs 0 0 (MQ below (zQi r0 D (zT cB cI cZ) [(a_t, .inr (11, [.int t_thrown, .ref a_t_now, .ref a_t_kept, .int t_isKept, .ref a_t_text, .int t_length, .ref a_t_passing, .int t_at', .int t_fault', .int t_open, .int t_asked, .int t_byGun, .int t_prizeMost, .ref a_t_order, .ref a_t_times, .int t_listed])), (a_t_text, .inl (cB, 200, .inl t_text))] A) #[Value.ref a_t] s 0 0 A) (F0 m 20 ls []) := by
      intro n
      induction n with
      | zero => intro _ _ _ _ H locs ls h hP hD hS hl; cases h
      | succ n20 ih20 =>
        intro v1_20 v2_20 t_at_l20 t_fault_l20 H locs ls h hP hD hS hl
        rw [fX11_number_L20.eq_2] at h
        refine lv_aload_n hx hb dX11_number_20 rfl (lv_at hl 2 rfl) ?_
        refine va_get (D := D) (ci := 11) (C := RX11) (T := TX11) (N := 16) hx hb hts qX11_number_X11 hown hK hP 0 rfl rfl 7 (by decide) (hts _ kX11_number_0) (fun _ h9 => h9) rfl dX11_number_21 ?_
        refine lv_aload_n hx hb dX11_number_24 rfl (lv_at hl 2 rfl) ?_
        refine va_get (D := D) (ci := 11) (C := RX11) (T := TX11) (N := 16) hx hb hts qX11_number_X11 hown hK hP 0 rfl rfl 5 (by decide) (hts _ kX11_number_2) (fun _ h9 => h9) rfl dX11_number_25 ?_
        refine lv_icmp_ge (tgt := 91) hx hb dX11_number_28 (by decide) (fun c7 => ?_) (fun c7 => ?_)
        · have h := zz_t h c7
          exact X20_91 v1_20 v2_20 t_at_l20 t_fault_l20 _ _ _ h (hP.sub [0, 1] rfl) (hD.sub [0, 1] rfl rfl) hS (lv_sub hl [0, 1, 2] rfl)
        · have h := zz_f h c7
          refine lv_aload_n hx hb dX11_number_31 rfl (lv_at hl 2 rfl) ?_
          refine va_get (D := D) (ci := 11) (C := RX11) (T := TX11) (N := 16) hx hb hts qX11_number_X11 hown hK hP 0 rfl rfl 4 (by decide) (hts _ kX11_number_3) (fun _ h9 => h9) rfl dX11_number_32 ?_
          refine lv_aload_n hx hb dX11_number_35 rfl (lv_at hl 2 rfl) ?_
          refine va_get (D := D) (ci := 11) (C := RX11) (T := TX11) (N := 16) hx hb hts qX11_number_X11 hown hK hP 0 rfl rfl 7 (by decide) (hts _ kX11_number_0) (fun _ h9 => h9) rfl dX11_number_36 ?_
          obtain ⟨i8, h⟩ := zz_i h
          refine va_bald hx hb hK hP 1 0 rfl rfl i8 dX11_number_39 ?_
          obtain ⟨b9, e10, h⟩ := zz_b h
          refine zSi (As := [.int (t_text (t_at_l20).toNatClampNeg)]) (rest := []) (wr := [(a_t, .inr (11, [.int t_thrown, .ref a_t_now, .ref a_t_kept, .int t_isKept, .ref a_t_text, .int t_length, .ref a_t_passing, .int t_at_l20, .int t_fault_l20, .int t_open, .int t_asked, .int t_byGun, .int t_prizeMost, .ref a_t_order, .ref a_t_times, .int t_listed])), (a_t_text, .inl (cB, 200, .inl t_text))]) [] [0, 1] ⟨hx, hb, hml, hown, hts⟩ (mX11_isDigit l D cB cI cZ H.size (t_text (t_at_l20).toNatClampNeg) b9 e10) (va_cwS 1 hts gX11_number_X11_isDigit rfl rfl rfl (by decide +kernel) ⟨Nat.le_of_ble_eq_true rfl, Nat.le_of_ble_eq_true rfl⟩) hK hN hZ hP hD hS hA rfl rfl rfl rfl rfl rfl hl.1 rfl (lv_room (Nat.le_of_ble_eq_true rfl)) dX11_number_40 ⟨Nat.le_of_ble_eq_true rfl, Nat.le_of_ble_eq_true rfl⟩ (fun H locs hP hD hS => ?_)
          have hP : va_P D vwCl [(a_t, .inr (11, [.int t_thrown, .ref a_t_now, .ref a_t_kept, .int t_isKept, .ref a_t_text, .int t_length, .ref a_t_passing, .int t_at_l20, .int t_fault_l20, .int t_open, .int t_asked, .int t_byGun, .int t_prizeMost, .ref a_t_order, .ref a_t_times, .int t_listed])), (a_t_text, .inl (cB, 200, .inl t_text))] H := hP
          have hD : va_D A [(a_t, .inr (11, [.int t_thrown, .ref a_t_now, .ref a_t_kept, .int t_isKept, .ref a_t_text, .int t_length, .ref a_t_passing, .int t_at_l20, .int t_fault_l20, .int t_open, .int t_asked, .int t_byGun, .int t_prizeMost, .ref a_t_order, .ref a_t_times, .int t_listed])), (a_t_text, .inl (cB, 200, .inl t_text))] := hD
          refine lv_if_eq (tgt := 91) hx hb dX11_number_43 (by decide) (fun c11 => ?_) (fun c11 => ?_)
          · have h := zz_t h c11
            exact X20_91 v1_20 v2_20 t_at_l20 t_fault_l20 _ _ _ h (hP.sub [0, 1] rfl) (hD.sub [0, 1] rfl rfl) hS (lv_sub hl [0, 1, 2] rfl)
          · have h := zz_f h c11
            refine lv_iload_n hx hb dX11_number_46 rfl (lv_at hl 0 rfl) ?_
            refine lv_iconst (v := (nI 5)) hx hb dX11_number_47 rfl ?_
            refine lv_icmp_ne (tgt := 57) hx hb dX11_number_48 (by decide) (fun c12 => ?_) (fun c12 => ?_)
            · have h := zz_f h c12
              refine lv_bipush (v := (nI 10)) hx hb dX11_number_57 rfl ?_
              refine lv_iload_n hx hb dX11_number_59 rfl (lv_at hl 1 rfl) ?_
              refine lv_imul hx hb dX11_number_60 ?_
              refine lv_aload_n hx hb dX11_number_61 rfl (lv_at hl 2 rfl) ?_
              refine va_get (D := D) (ci := 11) (C := RX11) (T := TX11) (N := 16) hx hb hts qX11_number_X11 hown hK hP 0 rfl rfl 4 (by decide) (hts _ kX11_number_3) (fun _ h9 => h9) rfl dX11_number_62 ?_
              refine lv_aload_n hx hb dX11_number_65 rfl (lv_at hl 2 rfl) ?_
              refine va_get (D := D) (ci := 11) (C := RX11) (T := TX11) (N := 16) hx hb hts qX11_number_X11 hown hK hP 0 rfl rfl 7 (by decide) (hts _ kX11_number_0) (fun _ h9 => h9) rfl dX11_number_66 ?_
              obtain ⟨i13, h⟩ := zz_i h
              refine va_bald hx hb hK hP 1 0 rfl rfl i13 dX11_number_69 ?_
              refine lv_iadd hx hb dX11_number_70 ?_
              refine lv_bipush (v := (nI 48)) hx hb dX11_number_71 rfl ?_
              refine lv_isub hx hb dX11_number_73 ?_
              refine lv_istore_n (lv' := [(1, .int ((((nI 10) * v1_20) + (t_text (t_at_l20).toNatClampNeg)) - (nI 48))), (2, .int v2_20), (0, .ref a_t)]) hx hb dX11_number_74 rfl hl (by decide) rfl (fun ls hl => ?_)
              refine lv_iinc (v := (v2_20 + (nI 1))) (lv' := [(2, .int (v2_20 + (nI 1))), (1, .int ((((nI 10) * v1_20) + (t_text (t_at_l20).toNatClampNeg)) - (nI 48))), (0, .ref a_t)]) hx hb dX11_number_75 hl (k := 1) rfl rfl (by decide) rfl (fun ls hl => ?_)
              refine lv_aload_n hx hb dX11_number_78 rfl (lv_at hl 2 rfl) ?_
              refine lv_dup hx hb dX11_number_79 rfl ?_
              refine va_get (D := D) (ci := 11) (C := RX11) (T := TX11) (N := 16) hx hb hts qX11_number_X11 hown hK hP 0 rfl rfl 7 (by decide) (hts _ kX11_number_0) (fun _ h9 => h9) rfl dX11_number_80 ?_
              refine lv_iconst (v := (nI 1)) hx hb dX11_number_83 rfl ?_
              refine lv_iadd hx hb dX11_number_84 ?_
              refine va_put (D := D) (ci := 11) (ty := .int) (C := RX11) (T := TX11) (N := 16) hx hb hts qX11_number_X11 tyX11 tyX11_ok nmX11 hown hK hP hD hS 0 rfl rfl 7 (by decide) (hts _ kX11_number_0) (fun _ h9 => h9) rfl (by decide +kernel) rfl (by first | rfl | exact zz_fit) (Nat.le_of_ble_eq_true rfl) dX11_number_85 (fun H locs hP hD hS => ?_)
              have hP : va_P D vwCl [(a_t, .inr (11, [.int t_thrown, .ref a_t_now, .ref a_t_kept, .int t_isKept, .ref a_t_text, .int t_length, .ref a_t_passing, .int (t_at_l20 + (nI 1)), .int t_fault_l20, .int t_open, .int t_asked, .int t_byGun, .int t_prizeMost, .ref a_t_order, .ref a_t_times, .int t_listed])), (a_t_text, .inl (cB, 200, .inl t_text))] H := hP
              have hD : va_D A [(a_t, .inr (11, [.int t_thrown, .ref a_t_now, .ref a_t_kept, .int t_isKept, .ref a_t_text, .int t_length, .ref a_t_passing, .int (t_at_l20 + (nI 1)), .int t_fault_l20, .int t_open, .int t_asked, .int t_byGun, .int t_prizeMost, .ref a_t_order, .ref a_t_times, .int t_listed])), (a_t_text, .inl (cB, 200, .inl t_text))] := hD
              refine lv_goto (tgt := 20) hx hb dX11_number_88 (by decide) ?_
              exact ih20 ((((nI 10) * v1_20) + (t_text (t_at_l20).toNatClampNeg)) - (nI 48)) (v2_20 + (nI 1)) (t_at_l20 + (nI 1)) t_fault_l20 _ _ _ h (hP.sub [0, 1] rfl) (hD.sub [0, 1] rfl rfl) hS (lv_sub hl [0, 1, 2] rfl)
            · have h := zz_t h c12
              refine lv_aload_n hx hb dX11_number_51 rfl (lv_at hl 2 rfl) ?_
              obtain ⟨t_fault_r14, e15, h⟩ := zz_b h
              refine zVv (As := []) (rest := []) (C := RX11) (wr := [(a_t_text, .inl (cB, 200, .inl t_text))]) [0] [1] 0 ⟨hx, hb, hml, hown, hts⟩ (mX11_wrong l D cB cI cZ a_t a_t_now a_t_kept a_t_text a_t_passing a_t_order a_t_times t_thrown t_isKept t_length t_at_l20 t_fault_l20 t_open t_asked t_byGun t_prizeMost t_listed H.size t_fault_r14 e15) (cwV 0 hts gX11_number_X11_wrong rfl rfl rfl (by decide +kernel) ⟨Nat.le_of_ble_eq_true rfl, Nat.le_of_ble_eq_true rfl⟩) hK hN hZ hP hD hS hA rfl rfl rfl rfl rfl rfl rfl rfl hl.1 rfl (lv_room (Nat.le_of_ble_eq_true rfl)) dX11_number_52 ⟨Nat.le_of_ble_eq_true rfl, Nat.le_of_ble_eq_true rfl⟩ (fun H locs hP hD hS => ?_)
              have hP : va_P D vwCl [(a_t_text, .inl (cB, 200, .inl t_text)), (a_t, .inr (11, [.int t_thrown, .ref a_t_now, .ref a_t_kept, .int t_isKept, .ref a_t_text, .int t_length, .ref a_t_passing, .int t_at_l20, .int t_fault_r14, .int t_open, .int t_asked, .int t_byGun, .int t_prizeMost, .ref a_t_order, .ref a_t_times, .int t_listed]))] H := hP
              have hD : va_D A [(a_t_text, .inl (cB, 200, .inl t_text)), (a_t, .inr (11, [.int t_thrown, .ref a_t_now, .ref a_t_kept, .int t_isKept, .ref a_t_text, .int t_length, .ref a_t_passing, .int t_at_l20, .int t_fault_r14, .int t_open, .int t_asked, .int t_byGun, .int t_prizeMost, .ref a_t_order, .ref a_t_times, .int t_listed]))] := hD
              refine lv_iconst (v := (nI 0)) hx hb dX11_number_55 rfl ?_
              obtain ⟨j0_, g_⟩ := Prod.mk.inj (Option.some.inj h)
              obtain ⟨j1_, g_⟩ := Prod.mk.inj g_
              have j2_ := g_
              subst j0_
              subst j1_
              subst j2_
              exact W.iret (v := (nI 0)) hx hb hr (fun t ht hW => ⟨⟨_, (), rfl, rfl, zPost.of hP hD hK ht hW [1, 0] rfl rfl rfl⟩, hS.F ht⟩) hS.2.2 dX11_number_56
    exact L20 N (nI 0) (nI 0) t_at_r2 t_fault _ _ _ h hP hD hS hl
  · have h := zz_t h c6
    refine lv_aload_n hx hb dX11_number_10 rfl (lv_at hl 0 rfl) ?_
    obtain ⟨t_fault_r16, e17, h⟩ := zz_b h
    refine zVv (As := []) (rest := []) (C := RX11) (wr := [(a_t_text, .inl (cB, 200, .inl t_text))]) [0] [1] 0 ⟨hx, hb, hml, hown, hts⟩ (mX11_wrong l D cB cI cZ a_t a_t_now a_t_kept a_t_text a_t_passing a_t_order a_t_times t_thrown t_isKept t_length t_at_r2 t_fault t_open t_asked t_byGun t_prizeMost t_listed H.size t_fault_r16 e17) (cwV 0 hts gX11_number_X11_wrong rfl rfl rfl (by decide +kernel) ⟨Nat.le_of_ble_eq_true rfl, Nat.le_of_ble_eq_true rfl⟩) hK hN hZ hP hD hS hA rfl rfl rfl rfl rfl rfl rfl rfl hl.1 rfl (lv_room (Nat.le_of_ble_eq_true rfl)) dX11_number_11 ⟨Nat.le_of_ble_eq_true rfl, Nat.le_of_ble_eq_true rfl⟩ (fun H locs hP hD hS => ?_)
    have hP : va_P D vwCl [(a_t_text, .inl (cB, 200, .inl t_text)), (a_t, .inr (11, [.int t_thrown, .ref a_t_now, .ref a_t_kept, .int t_isKept, .ref a_t_text, .int t_length, .ref a_t_passing, .int t_at_r2, .int t_fault_r16, .int t_open, .int t_asked, .int t_byGun, .int t_prizeMost, .ref a_t_order, .ref a_t_times, .int t_listed]))] H := hP
    have hD : va_D A [(a_t_text, .inl (cB, 200, .inl t_text)), (a_t, .inr (11, [.int t_thrown, .ref a_t_now, .ref a_t_kept, .int t_isKept, .ref a_t_text, .int t_length, .ref a_t_passing, .int t_at_r2, .int t_fault_r16, .int t_open, .int t_asked, .int t_byGun, .int t_prizeMost, .ref a_t_order, .ref a_t_times, .int t_listed]))] := hD
    refine lv_iconst (v := (nI 0)) hx hb dX11_number_14 rfl ?_
    obtain ⟨j0_, g_⟩ := Prod.mk.inj (Option.some.inj h)
    obtain ⟨j1_, g_⟩ := Prod.mk.inj g_
    have j2_ := g_
    subst j0_
    subst j1_
    subst j2_
    exact W.iret (v := (nI 0)) hx hb hr (fun t ht hW => ⟨⟨_, (), rfl, rfl, zPost.of hP hD hK ht hW [1, 0] rfl rfl rfl⟩, hS.F ht⟩) hS.2.2 dX11_number_15
/-! RunDeskModel.sign -/
theorem dX11_sign_0 : decode cX11_sign 0 = .ok (.aload_n 0, 1) := by decide +kernel
theorem dX11_sign_1 : decode cX11_sign 1 = .ok (.invokevirtual 163, 3) := by decide +kernel
theorem dX11_sign_4 : decode cX11_sign 4 = .ok (.ifCond .ne 4, 3) := by decide +kernel
theorem dX11_sign_7 : decode cX11_sign 7 = .ok (.return_, 1) := by decide +kernel
theorem dX11_sign_8 : decode cX11_sign 8 = .ok (.aload_n 0, 1) := by decide +kernel
theorem dX11_sign_9 : decode cX11_sign 9 = .ok (.invokevirtual 154, 3) := by decide +kernel
theorem dX11_sign_12 : decode cX11_sign 12 = .ok (.iload_n 1, 1) := by decide +kernel
theorem dX11_sign_13 : decode cX11_sign 13 = .ok (.if_icmp .ne 16, 3) := by decide +kernel
theorem dX11_sign_16 : decode cX11_sign 16 = .ok (.aload_n 0, 1) := by decide +kernel
theorem dX11_sign_17 : decode cX11_sign 17 = .ok (.dup, 1) := by decide +kernel
theorem dX11_sign_18 : decode cX11_sign 18 = .ok (.getfield 148, 3) := by decide +kernel
theorem dX11_sign_21 : decode cX11_sign 21 = .ok (.iconst 1, 1) := by decide +kernel
theorem dX11_sign_22 : decode cX11_sign 22 = .ok (.iadd, 1) := by decide +kernel
theorem dX11_sign_23 : decode cX11_sign 23 = .ok (.putfield 148, 3) := by decide +kernel
theorem dX11_sign_26 : decode cX11_sign 26 = .ok (.goto 7, 3) := by decide +kernel
theorem dX11_sign_29 : decode cX11_sign 29 = .ok (.aload_n 0, 1) := by decide +kernel
theorem dX11_sign_30 : decode cX11_sign 30 = .ok (.invokevirtual 160, 3) := by decide +kernel
theorem dX11_sign_33 : decode cX11_sign 33 = .ok (.return_, 1) := by decide +kernel
set_option maxRecDepth 20000 in
theorem ggX11_sign_X11_isFine : GoodIn wsX11_sign wsX11_isFine := goodIn_sub (List.forall_mem_cons.mpr ⟨List.mem_cons_of_mem _ (List.mem_append_left _ (List.mem_of_getElem? (i := 5) rfl)), (List.forall_mem_append.mpr ⟨(List.forall_mem_cons.mpr ⟨List.mem_cons_of_mem _ (List.mem_append_left _ (List.mem_of_getElem? (i := 6) rfl)), (fun _ h => nomatch h)⟩), (fun _ h => List.mem_cons_of_mem _ (List.mem_append_right _ (h)))⟩)⟩) (by decide +kernel)
set_option maxRecDepth 20000 in
theorem gX11_sign_X11_isFine : GoodIn wsX11_sign (wsV RX11 163 RX11 yX11_isFine wsX11_isFine) := goodIn_app (goodIn_of _ (by decide +kernel)) ggX11_sign_X11_isFine
set_option maxRecDepth 20000 in
theorem ggX11_sign_X11_look : GoodIn wsX11_sign wsX11_look := goodIn_sub (List.forall_mem_cons.mpr ⟨List.mem_cons_of_mem _ (List.mem_append_left _ (List.mem_of_getElem? (i := 10) rfl)), (List.forall_mem_append.mpr ⟨(List.forall_mem_cons.mpr ⟨List.mem_cons_of_mem _ (List.mem_append_left _ (List.mem_of_getElem? (i := 0) rfl)), (List.forall_mem_cons.mpr ⟨List.mem_cons_of_mem _ (List.mem_append_left _ (List.mem_of_getElem? (i := 11) rfl)), (List.forall_mem_cons.mpr ⟨List.mem_cons_of_mem _ (List.mem_append_left _ (List.mem_of_getElem? (i := 12) rfl)), (fun _ h => nomatch h)⟩)⟩)⟩), (fun _ h => List.mem_cons_of_mem _ (List.mem_append_right _ (h)))⟩)⟩) (by decide +kernel)
set_option maxRecDepth 20000 in
theorem gX11_sign_X11_look : GoodIn wsX11_sign (wsV RX11 154 RX11 yX11_look wsX11_look) := goodIn_app (goodIn_of _ (by decide +kernel)) ggX11_sign_X11_look
set_option maxRecDepth 20000 in
theorem ggX11_sign_X11_wrong : GoodIn wsX11_sign wsX11_wrong := goodIn_sub (List.forall_mem_cons.mpr ⟨List.mem_cons_of_mem _ (List.mem_append_left _ (List.mem_of_getElem? (i := 16) rfl)), (List.forall_mem_append.mpr ⟨(List.forall_mem_cons.mpr ⟨List.mem_cons_of_mem _ (List.mem_append_left _ (List.mem_of_getElem? (i := 6) rfl)), (List.forall_mem_cons.mpr ⟨List.mem_cons_of_mem _ (List.mem_append_left _ (List.mem_of_getElem? (i := 0) rfl)), (fun _ h => nomatch h)⟩)⟩), (fun _ h => List.mem_cons_of_mem _ (List.mem_append_right _ (h)))⟩)⟩) (by decide +kernel)
set_option maxRecDepth 20000 in
theorem gX11_sign_X11_wrong : GoodIn wsX11_sign (wsV RX11 160 RX11 yX11_wrong wsX11_wrong) := goodIn_app (goodIn_of _ (by decide +kernel)) ggX11_sign_X11_wrong
theorem kX11_sign_0 : (.fieldLink RX11 148 "RunDeskModel" "at" "I" : Cond) ∈ wsX11_sign := List.mem_of_getElem? (i := 1) (by decide +kernel)
theorem qX11_sign_X11 : ∀ w ∈ wsX110, w ∈ wsX11_sign := fun _ h => List.mem_cons_of_mem _ (List.mem_append_right _ (h))
set_option maxHeartbeats 4000000 in
set_option maxRecDepth 100000 in
theorem mX11_sign (l : Launch) (D : va_G) (cB cI cZ : ClassId) (a_t : Nat) (a_t_now : Nat) (a_t_kept : Nat) (a_t_text : Nat) (a_t_passing : Nat) (a_t_order : Nat) (a_t_times : Nat) (t_thrown : Int32) (t_isKept : Int32) (t_length : Int32) (t_at : Int32) (t_fault : Int32) (t_open : Int32) (t_asked : Int32) (t_byGun : Int32) (t_prizeMost : Int32) (t_listed : Int32) (t_text : Nat → Int32) (sz : Nat) (x1 : Int32) (N : Nat) (t_at' : Int32) (t_fault' : Int32) (h : fX11_sign N t_at t_fault t_length t_text x1 = some (t_at', t_fault')) : Met l yX11_sign wsX11_sign ({ frames := 1, cells := 0, slots := 0, locals := 20 } : Room) (va_Pc [.ref a_t, .int x1] (zPre D (zT cB cI cZ) [(a_t, .inr (11, [.int t_thrown, .ref a_t_now, .ref a_t_kept, .int t_isKept, .ref a_t_text, .int t_length, .ref a_t_passing, .int t_at, .int t_fault, .int t_open, .int t_asked, .int t_byGun, .int t_prizeMost, .ref a_t_order, .ref a_t_times, .int t_listed])), (a_t_text, .inl (cB, 200, .inl t_text))] sz)) (zQv D (zT cB cI cZ) [(a_t, .inr (11, [.int t_thrown, .ref a_t_now, .ref a_t_kept, .int t_isKept, .ref a_t_text, .int t_length, .ref a_t_passing, .int t_at', .int t_fault', .int t_open, .int t_asked, .int t_byGun, .int t_prizeMost, .ref a_t_order, .ref a_t_times, .int t_listed])), (a_t_text, .inl (cB, 200, .inl t_text))] (va_A [(a_t, .inr (11, [.int t_thrown, .ref a_t_now, .ref a_t_kept, .int t_isKept, .ref a_t_text, .int t_length, .ref a_t_passing, .int t_at, .int t_fault, .int t_open, .int t_asked, .int t_byGun, .int t_prizeMost, .ref a_t_order, .ref a_t_times, .int t_listed])), (a_t_text, .inl (cB, 200, .inl t_text))] sz)) 0 0 (va_A [(a_t, .inr (11, [.int t_thrown, .ref a_t_now, .ref a_t_kept, .int t_isKept, .ref a_t_text, .int t_length, .ref a_t_passing, .int t_at, .int t_fault, .int t_open, .int t_asked, .int t_byGun, .int t_prizeMost, .ref a_t_order, .ref a_t_times, .int t_listed])), (a_t_text, .inl (cB, 200, .inl t_text))] sz) := by
  refine Met.ofW (cc := cX11_sign) (maxL := 2) (ret := none) (by decide) rfl ?_
  intro p e s m args below meth c s₁ B hml hv
  obtain ⟨rfl, hsz, hP, hK, hN, hZ, hD0⟩ := hv
  have hx := B.exec
  have hb := B.bytes
  have hr := B.returns
  have hts := atoms_spec (ws := wsX11_sign) B.pre
  have hown : s.vm.findClass RX11 = some m.cls := findClass_of_methodNamed B.named
  have hlocks := B.notSynchronized
  subst hsz
  have hD := hD0.self (sz := s.heap.size)
  generalize hAe : va_A [(a_t, .inr (11, [.int t_thrown, .ref a_t_now, .ref a_t_kept, .int t_isKept, .ref a_t_text, .int t_length, .ref a_t_passing, .int t_at, .int t_fault, .int t_open, .int t_asked, .int t_byGun, .int t_prizeMost, .ref a_t_order, .ref a_t_times, .int t_listed])), (a_t_text, .inl (cB, 200, .inl t_text))] s.heap.size = A at hD hZ ⊢
  have hA : ∀ q : Nat, s.heap.size ≤ q → A q := fun q h => by rw [← hAe]; exact Or.inr h
  have hS : va_S A s.heap s.heap [] := va_S.rf
  have hl := lv_entry ([.ref a_t, .int x1]) (n := 2) (Nat.le_of_ble_eq_true rfl)
  rw [lg_entry_eq]
  generalize (lg_sl ([.ref a_t, .int x1]) ++ List.replicate (2 - (lg_sl ([.ref a_t, .int x1])).length) Slot.unset).toArray = ls at hl ⊢
  have hl : lv_has ls 2 [(0, .ref a_t), (1, .int x1)] := hl
  unfold fX11_sign at h
  refine lv_aload_n hx hb dX11_sign_0 rfl (lv_at hl 0 rfl) ?_
  obtain ⟨b1, e2, h⟩ := zz_b h
  refine zVi (As := []) (rest := []) (C := RX11) (wr := [(a_t_text, .inl (cB, 200, .inl t_text))]) [0] [1] 0 ⟨hx, hb, hml, hown, hts⟩ (mX11_isFine l D cB cI cZ a_t a_t_now a_t_kept a_t_text a_t_passing a_t_order a_t_times t_thrown t_isKept t_length t_at t_fault t_open t_asked t_byGun t_prizeMost t_listed s.heap.size b1 e2) (cwV 0 hts gX11_sign_X11_isFine rfl rfl rfl (by decide +kernel) ⟨Nat.le_of_ble_eq_true rfl, Nat.le_of_ble_eq_true rfl⟩) hK hN hZ hP hD hS hA rfl rfl rfl rfl rfl rfl rfl rfl hl.1 rfl (lv_room (Nat.le_of_ble_eq_true rfl)) dX11_sign_1 ⟨Nat.le_of_ble_eq_true rfl, Nat.le_of_ble_eq_true rfl⟩ (fun H locs hP hD hS => ?_)
  have hP : va_P D vwCl [(a_t_text, .inl (cB, 200, .inl t_text)), (a_t, .inr (11, [.int t_thrown, .ref a_t_now, .ref a_t_kept, .int t_isKept, .ref a_t_text, .int t_length, .ref a_t_passing, .int t_at, .int t_fault, .int t_open, .int t_asked, .int t_byGun, .int t_prizeMost, .ref a_t_order, .ref a_t_times, .int t_listed]))] H := hP
  have hD : va_D A [(a_t_text, .inl (cB, 200, .inl t_text)), (a_t, .inr (11, [.int t_thrown, .ref a_t_now, .ref a_t_kept, .int t_isKept, .ref a_t_text, .int t_length, .ref a_t_passing, .int t_at, .int t_fault, .int t_open, .int t_asked, .int t_byGun, .int t_prizeMost, .ref a_t_order, .ref a_t_times, .int t_listed]))] := hD
  refine lv_if_ne (tgt := 8) hx hb dX11_sign_4 (by decide) (fun c3 => ?_) (fun c3 => ?_)
  · have h := zz_f h c3
    refine lv_aload_n hx hb dX11_sign_8 rfl (lv_at hl 0 rfl) ?_
    obtain ⟨⟨r4, t_at_r5⟩, e6, h⟩ := zz_b h
    dsimp only at h
    refine zVi (As := []) (rest := []) (C := RX11) (wr := []) [1, 0] [] 0 ⟨hx, hb, hml, hown, hts⟩ (mX11_look l D cB cI cZ a_t a_t_now a_t_kept a_t_text a_t_passing a_t_order a_t_times t_thrown t_isKept t_length t_at t_fault t_open t_asked t_byGun t_prizeMost t_listed t_text H.size N r4 t_at_r5 e6) (cwV 0 hts gX11_sign_X11_look rfl rfl rfl (by decide +kernel) ⟨Nat.le_of_ble_eq_true rfl, Nat.le_of_ble_eq_true rfl⟩) hK hN hZ hP hD hS hA rfl rfl rfl rfl rfl rfl rfl rfl hl.1 rfl (lv_room (Nat.le_of_ble_eq_true rfl)) dX11_sign_9 ⟨Nat.le_of_ble_eq_true rfl, Nat.le_of_ble_eq_true rfl⟩ (fun H locs hP hD hS => ?_)
    have hP : va_P D vwCl [(a_t, .inr (11, [.int t_thrown, .ref a_t_now, .ref a_t_kept, .int t_isKept, .ref a_t_text, .int t_length, .ref a_t_passing, .int t_at_r5, .int t_fault, .int t_open, .int t_asked, .int t_byGun, .int t_prizeMost, .ref a_t_order, .ref a_t_times, .int t_listed])), (a_t_text, .inl (cB, 200, .inl t_text))] H := hP
    have hD : va_D A [(a_t, .inr (11, [.int t_thrown, .ref a_t_now, .ref a_t_kept, .int t_isKept, .ref a_t_text, .int t_length, .ref a_t_passing, .int t_at_r5, .int t_fault, .int t_open, .int t_asked, .int t_byGun, .int t_prizeMost, .ref a_t_order, .ref a_t_times, .int t_listed])), (a_t_text, .inl (cB, 200, .inl t_text))] := hD
    refine lv_iload_n hx hb dX11_sign_12 rfl (lv_at hl 1 rfl) ?_
    refine lv_icmp_ne (tgt := 29) hx hb dX11_sign_13 (by decide) (fun c7 => ?_) (fun c7 => ?_)
    · have h := zz_f h c7
      refine lv_aload_n hx hb dX11_sign_29 rfl (lv_at hl 0 rfl) ?_
      obtain ⟨t_fault_r8, e9, h⟩ := zz_b h
      refine zVv (As := []) (rest := []) (C := RX11) (wr := [(a_t_text, .inl (cB, 200, .inl t_text))]) [0] [1] 0 ⟨hx, hb, hml, hown, hts⟩ (mX11_wrong l D cB cI cZ a_t a_t_now a_t_kept a_t_text a_t_passing a_t_order a_t_times t_thrown t_isKept t_length t_at_r5 t_fault t_open t_asked t_byGun t_prizeMost t_listed H.size t_fault_r8 e9) (cwV 0 hts gX11_sign_X11_wrong rfl rfl rfl (by decide +kernel) ⟨Nat.le_of_ble_eq_true rfl, Nat.le_of_ble_eq_true rfl⟩) hK hN hZ hP hD hS hA rfl rfl rfl rfl rfl rfl rfl rfl hl.1 rfl (lv_room (Nat.le_of_ble_eq_true rfl)) dX11_sign_30 ⟨Nat.le_of_ble_eq_true rfl, Nat.le_of_ble_eq_true rfl⟩ (fun H locs hP hD hS => ?_)
      have hP : va_P D vwCl [(a_t_text, .inl (cB, 200, .inl t_text)), (a_t, .inr (11, [.int t_thrown, .ref a_t_now, .ref a_t_kept, .int t_isKept, .ref a_t_text, .int t_length, .ref a_t_passing, .int t_at_r5, .int t_fault_r8, .int t_open, .int t_asked, .int t_byGun, .int t_prizeMost, .ref a_t_order, .ref a_t_times, .int t_listed]))] H := hP
      have hD : va_D A [(a_t_text, .inl (cB, 200, .inl t_text)), (a_t, .inr (11, [.int t_thrown, .ref a_t_now, .ref a_t_kept, .int t_isKept, .ref a_t_text, .int t_length, .ref a_t_passing, .int t_at_r5, .int t_fault_r8, .int t_open, .int t_asked, .int t_byGun, .int t_prizeMost, .ref a_t_order, .ref a_t_times, .int t_listed]))] := hD
      obtain ⟨j0_, g_⟩ := Prod.mk.inj (Option.some.inj h)
      have j1_ := g_
      subst j0_
      subst j1_
      exact W.vret hx hb hr (fun t ht hW => ⟨⟨(), rfl, trivial, zPost.of hP hD hK ht hW [1, 0] rfl rfl rfl⟩, hS.F ht⟩) hS.2.2 dX11_sign_33
    · have h := zz_t h c7
      refine lv_aload_n hx hb dX11_sign_16 rfl (lv_at hl 0 rfl) ?_
      refine lv_dup hx hb dX11_sign_17 rfl ?_
      refine va_get (D := D) (ci := 11) (C := RX11) (T := TX11) (N := 16) hx hb hts qX11_sign_X11 hown hK hP 0 rfl rfl 7 (by decide) (hts _ kX11_sign_0) (fun _ h9 => h9) rfl dX11_sign_18 ?_
      refine lv_iconst (v := (nI 1)) hx hb dX11_sign_21 rfl ?_
      refine lv_iadd hx hb dX11_sign_22 ?_
      refine va_put (D := D) (ci := 11) (ty := .int) (C := RX11) (T := TX11) (N := 16) hx hb hts qX11_sign_X11 tyX11 tyX11_ok nmX11 hown hK hP hD hS 0 rfl rfl 7 (by decide) (hts _ kX11_sign_0) (fun _ h9 => h9) rfl (by decide +kernel) rfl (by first | rfl | exact zz_fit) (Nat.le_of_ble_eq_true rfl) dX11_sign_23 (fun H locs hP hD hS => ?_)
      have hP : va_P D vwCl [(a_t, .inr (11, [.int t_thrown, .ref a_t_now, .ref a_t_kept, .int t_isKept, .ref a_t_text, .int t_length, .ref a_t_passing, .int (t_at_r5 + (nI 1)), .int t_fault, .int t_open, .int t_asked, .int t_byGun, .int t_prizeMost, .ref a_t_order, .ref a_t_times, .int t_listed])), (a_t_text, .inl (cB, 200, .inl t_text))] H := hP
      have hD : va_D A [(a_t, .inr (11, [.int t_thrown, .ref a_t_now, .ref a_t_kept, .int t_isKept, .ref a_t_text, .int t_length, .ref a_t_passing, .int (t_at_r5 + (nI 1)), .int t_fault, .int t_open, .int t_asked, .int t_byGun, .int t_prizeMost, .ref a_t_order, .ref a_t_times, .int t_listed])), (a_t_text, .inl (cB, 200, .inl t_text))] := hD
      refine lv_goto (tgt := 33) hx hb dX11_sign_26 (by decide) ?_
      obtain ⟨j0_, g_⟩ := Prod.mk.inj (Option.some.inj h)
      have j1_ := g_
      subst j0_
      subst j1_
      exact W.vret hx hb hr (fun t ht hW => ⟨⟨(), rfl, trivial, zPost.of hP hD hK ht hW [0, 1] rfl rfl rfl⟩, hS.F ht⟩) hS.2.2 dX11_sign_33
  · have h := zz_t h c3
    obtain ⟨j0_, g_⟩ := Prod.mk.inj (Option.some.inj h)
    have j1_ := g_
    subst j0_
    subst j1_
    exact W.vret hx hb hr (fun t ht hW => ⟨⟨(), rfl, trivial, zPost.of hP hD hK ht hW [1, 0] rfl rfl rfl⟩, hS.F ht⟩) hS.2.2 dX11_sign_7
