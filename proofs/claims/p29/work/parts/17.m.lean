/-! RunDeskModel.put -/
theorem dX11_put_0 : decode cX11_put 0 = .ok (.aload_n 0, 1) := by decide +kernel
theorem dX11_put_1 : decode cX11_put 1 = .ok (.getfield 9, 3) := by decide +kernel
theorem dX11_put_4 : decode cX11_put 4 = .ok (.bipush 122, 2) := by decide +kernel
theorem dX11_put_6 : decode cX11_put 6 = .ok (.bipush 24, 2) := by decide +kernel
theorem dX11_put_8 : decode cX11_put 8 = .ok (.iload_n 1, 1) := by decide +kernel
theorem dX11_put_9 : decode cX11_put 9 = .ok (.imul, 1) := by decide +kernel
theorem dX11_put_10 : decode cX11_put 10 = .ok (.iadd, 1) := by decide +kernel
theorem dX11_put_11 : decode cX11_put 11 = .ok (.iload_n 2, 1) := by decide +kernel
theorem dX11_put_12 : decode cX11_put 12 = .ok (.iadd, 1) := by decide +kernel
theorem dX11_put_13 : decode cX11_put 13 = .ok (.iload_n 3, 1) := by decide +kernel
theorem dX11_put_14 : decode cX11_put 14 = .ok (.iastore, 1) := by decide +kernel
theorem dX11_put_15 : decode cX11_put 15 = .ok (.return_, 1) := by decide +kernel
theorem kX11_put_0 : (.fieldLink RX11 9 "RunDeskModel" "now" "[I" : Cond) ∈ wsX11_put := List.mem_of_getElem? (i := 1) (by decide +kernel)
theorem qX11_put_X11 : ∀ w ∈ wsX110, w ∈ wsX11_put := fun _ h => List.mem_cons_of_mem _ (List.mem_append_right _ (h))
set_option maxHeartbeats 4000000 in
set_option maxRecDepth 100000 in
theorem mX11_put (l : Launch) (D : va_G) (cB cI cZ : ClassId) (a_t : Nat) (a_t_now : Nat) (a_t_kept : Nat) (a_t_text : Nat) (a_t_passing : Nat) (a_t_order : Nat) (a_t_times : Nat) (t_thrown : Int32) (t_isKept : Int32) (t_length : Int32) (t_at : Int32) (t_fault : Int32) (t_open : Int32) (t_asked : Int32) (t_byGun : Int32) (t_prizeMost : Int32) (t_listed : Int32) (t_now : Nat → Int32) (sz : Nat) (x1 : Int32) (x2 : Int32) (x3 : Int32) (t_now' : Nat → Int32) (h : fX11_put t_now x1 x2 x3 = some (t_now')) : Met l yX11_put wsX11_put ({ frames := 0, cells := 0, slots := 0, locals := 0 } : Room) (va_Pc [.ref a_t, .int x1, .int x2, .int x3] (zPre D (zT cB cI cZ) [(a_t, .inr (11, [.int t_thrown, .ref a_t_now, .ref a_t_kept, .int t_isKept, .ref a_t_text, .int t_length, .ref a_t_passing, .int t_at, .int t_fault, .int t_open, .int t_asked, .int t_byGun, .int t_prizeMost, .ref a_t_order, .ref a_t_times, .int t_listed])), (a_t_now, .inl (cI, 1562, .inl t_now))] sz)) (zQv D (zT cB cI cZ) [(a_t, .inr (11, [.int t_thrown, .ref a_t_now, .ref a_t_kept, .int t_isKept, .ref a_t_text, .int t_length, .ref a_t_passing, .int t_at, .int t_fault, .int t_open, .int t_asked, .int t_byGun, .int t_prizeMost, .ref a_t_order, .ref a_t_times, .int t_listed])), (a_t_now, .inl (cI, 1562, .inl t_now'))] (va_A [(a_t, .inr (11, [.int t_thrown, .ref a_t_now, .ref a_t_kept, .int t_isKept, .ref a_t_text, .int t_length, .ref a_t_passing, .int t_at, .int t_fault, .int t_open, .int t_asked, .int t_byGun, .int t_prizeMost, .ref a_t_order, .ref a_t_times, .int t_listed])), (a_t_now, .inl (cI, 1562, .inl t_now))] sz)) 0 0 (va_A [(a_t, .inr (11, [.int t_thrown, .ref a_t_now, .ref a_t_kept, .int t_isKept, .ref a_t_text, .int t_length, .ref a_t_passing, .int t_at, .int t_fault, .int t_open, .int t_asked, .int t_byGun, .int t_prizeMost, .ref a_t_order, .ref a_t_times, .int t_listed])), (a_t_now, .inl (cI, 1562, .inl t_now))] sz) := by
  refine Met.ofW (cc := cX11_put) (maxL := 4) (ret := none) (by decide) rfl ?_
  intro p e s m args below meth c s₁ B hml hv
  obtain ⟨rfl, hsz, hP, hK, hN, hZ, hD0⟩ := hv
  have hx := B.exec
  have hb := B.bytes
  have hr := B.returns
  have hts := atoms_spec (ws := wsX11_put) B.pre
  have hown : s.vm.findClass RX11 = some m.cls := findClass_of_methodNamed B.named
  have hlocks := B.notSynchronized
  subst hsz
  have hD := hD0.self (sz := s.heap.size)
  generalize hAe : va_A [(a_t, .inr (11, [.int t_thrown, .ref a_t_now, .ref a_t_kept, .int t_isKept, .ref a_t_text, .int t_length, .ref a_t_passing, .int t_at, .int t_fault, .int t_open, .int t_asked, .int t_byGun, .int t_prizeMost, .ref a_t_order, .ref a_t_times, .int t_listed])), (a_t_now, .inl (cI, 1562, .inl t_now))] s.heap.size = A at hD hZ ⊢
  have hA : ∀ q : Nat, s.heap.size ≤ q → A q := fun q h => by rw [← hAe]; exact Or.inr h
  have hS : va_S A s.heap s.heap [] := va_S.rf
  have hl := lv_entry ([.ref a_t, .int x1, .int x2, .int x3]) (n := 4) (Nat.le_of_ble_eq_true rfl)
  rw [lg_entry_eq]
  generalize (lg_sl ([.ref a_t, .int x1, .int x2, .int x3]) ++ List.replicate (4 - (lg_sl ([.ref a_t, .int x1, .int x2, .int x3])).length) Slot.unset).toArray = ls at hl ⊢
  have hl : lv_has ls 4 [(0, .ref a_t), (1, .int x1), (2, .int x2), (3, .int x3)] := hl
  unfold fX11_put at h
  refine lv_aload_n hx hb dX11_put_0 rfl (lv_at hl 0 rfl) ?_
  refine va_get (D := D) (ci := 11) (C := RX11) (T := TX11) (N := 16) hx hb hts qX11_put_X11 hown hK hP 0 rfl rfl 1 (by decide) (hts _ kX11_put_0) (fun _ h9 => h9) rfl dX11_put_1 ?_
  refine lv_bipush (v := (nI 122)) hx hb dX11_put_4 rfl ?_
  refine lv_bipush (v := (nI 24)) hx hb dX11_put_6 rfl ?_
  refine lv_iload_n hx hb dX11_put_8 rfl (lv_at hl 1 rfl) ?_
  refine lv_imul hx hb dX11_put_9 ?_
  refine lv_iadd hx hb dX11_put_10 ?_
  refine lv_iload_n hx hb dX11_put_11 rfl (lv_at hl 2 rfl) ?_
  refine lv_iadd hx hb dX11_put_12 ?_
  refine lv_iload_n hx hb dX11_put_13 rfl (lv_at hl 3 rfl) ?_
  obtain ⟨i1, h⟩ := zz_i h
  refine va_iast hx hb hK hP hD hS 1 1 rfl rfl i1 dX11_put_14 (fun H locs hP hD hS => ?_)
  have hP : va_P D vwCl [(a_t, .inr (11, [.int t_thrown, .ref a_t_now, .ref a_t_kept, .int t_isKept, .ref a_t_text, .int t_length, .ref a_t_passing, .int t_at, .int t_fault, .int t_open, .int t_asked, .int t_byGun, .int t_prizeMost, .ref a_t_order, .ref a_t_times, .int t_listed])), (a_t_now, .inl (cI, 1562, .inl (upd t_now ((((nI 122) + ((nI 24) * x1)) + x2)).toNatClampNeg x3)))] H := hP
  have hD : va_D A [(a_t, .inr (11, [.int t_thrown, .ref a_t_now, .ref a_t_kept, .int t_isKept, .ref a_t_text, .int t_length, .ref a_t_passing, .int t_at, .int t_fault, .int t_open, .int t_asked, .int t_byGun, .int t_prizeMost, .ref a_t_order, .ref a_t_times, .int t_listed])), (a_t_now, .inl (cI, 1562, .inl (upd t_now ((((nI 122) + ((nI 24) * x1)) + x2)).toNatClampNeg x3)))] := hD
  have j0_ := Option.some.inj h
  subst j0_
  exact W.vret hx hb hr (fun t ht hW => ⟨⟨(), rfl, trivial, zPost.of hP hD hK ht hW [0, 1] rfl rfl rfl⟩, hS.F ht⟩) hS.2.2 dX11_put_15
/-! RunDeskModel.isMat -/
theorem dX11_isMat_0 : decode cX11_isMat 0 = .ok (.iload_n 1, 1) := by decide +kernel
theorem dX11_isMat_1 : decode cX11_isMat 1 = .ok (.ifCond .lt 15, 3) := by decide +kernel
theorem dX11_isMat_4 : decode cX11_isMat 4 = .ok (.iload_n 1, 1) := by decide +kernel
theorem dX11_isMat_5 : decode cX11_isMat 5 = .ok (.aload_n 0, 1) := by decide +kernel
theorem dX11_isMat_6 : decode cX11_isMat 6 = .ok (.invokevirtual 41, 3) := by decide +kernel
theorem dX11_isMat_9 : decode cX11_isMat 9 = .ok (.if_icmp .ge 7, 3) := by decide +kernel
theorem dX11_isMat_12 : decode cX11_isMat 12 = .ok (.iconst 1, 1) := by decide +kernel
theorem dX11_isMat_13 : decode cX11_isMat 13 = .ok (.goto 4, 3) := by decide +kernel
theorem dX11_isMat_16 : decode cX11_isMat 16 = .ok (.iconst 0, 1) := by decide +kernel
theorem dX11_isMat_17 : decode cX11_isMat 17 = .ok (.ireturn, 1) := by decide +kernel
set_option maxRecDepth 20000 in
theorem ggX11_isMat_X11_mats : GoodIn wsX11_isMat wsX11_mats := goodIn_sub (List.forall_mem_cons.mpr ⟨List.mem_cons_of_mem _ (List.mem_append_left _ (List.mem_of_getElem? (i := 4) rfl)), (List.forall_mem_append.mpr ⟨(List.forall_mem_cons.mpr ⟨List.mem_cons_of_mem _ (List.mem_append_left _ (List.mem_of_getElem? (i := 5) rfl)), (fun _ h => nomatch h)⟩), (fun _ h => List.mem_cons_of_mem _ (List.mem_append_right _ (h)))⟩)⟩) (by decide +kernel)
set_option maxRecDepth 20000 in
theorem gX11_isMat_X11_mats : GoodIn wsX11_isMat (wsV RX11 41 RX11 yX11_mats wsX11_mats) := goodIn_app (goodIn_of _ (by decide +kernel)) ggX11_isMat_X11_mats
set_option maxHeartbeats 4000000 in
set_option maxRecDepth 100000 in
theorem mX11_isMat (l : Launch) (D : va_G) (cB cI cZ : ClassId) (a_t : Nat) (a_t_now : Nat) (a_t_kept : Nat) (a_t_text : Nat) (a_t_passing : Nat) (a_t_order : Nat) (a_t_times : Nat) (t_thrown : Int32) (t_isKept : Int32) (t_length : Int32) (t_at : Int32) (t_fault : Int32) (t_open : Int32) (t_asked : Int32) (t_byGun : Int32) (t_prizeMost : Int32) (t_listed : Int32) (t_now : Nat → Int32) (sz : Nat) (x1 : Int32) (b0 : Bool) (h : fX11_isMat t_now x1 = some (b0)) : Met l yX11_isMat wsX11_isMat ({ frames := 1, cells := 0, slots := 0, locals := 20 } : Room) (va_Pc [.ref a_t, .int x1] (zPre D (zT cB cI cZ) [(a_t, .inr (11, [.int t_thrown, .ref a_t_now, .ref a_t_kept, .int t_isKept, .ref a_t_text, .int t_length, .ref a_t_passing, .int t_at, .int t_fault, .int t_open, .int t_asked, .int t_byGun, .int t_prizeMost, .ref a_t_order, .ref a_t_times, .int t_listed])), (a_t_now, .inl (cI, 1562, .inl t_now))] sz)) (zQi (zb b0) D (zT cB cI cZ) [(a_t, .inr (11, [.int t_thrown, .ref a_t_now, .ref a_t_kept, .int t_isKept, .ref a_t_text, .int t_length, .ref a_t_passing, .int t_at, .int t_fault, .int t_open, .int t_asked, .int t_byGun, .int t_prizeMost, .ref a_t_order, .ref a_t_times, .int t_listed])), (a_t_now, .inl (cI, 1562, .inl t_now))] (va_A [(a_t, .inr (11, [.int t_thrown, .ref a_t_now, .ref a_t_kept, .int t_isKept, .ref a_t_text, .int t_length, .ref a_t_passing, .int t_at, .int t_fault, .int t_open, .int t_asked, .int t_byGun, .int t_prizeMost, .ref a_t_order, .ref a_t_times, .int t_listed])), (a_t_now, .inl (cI, 1562, .inl t_now))] sz)) 0 0 (va_A [(a_t, .inr (11, [.int t_thrown, .ref a_t_now, .ref a_t_kept, .int t_isKept, .ref a_t_text, .int t_length, .ref a_t_passing, .int t_at, .int t_fault, .int t_open, .int t_asked, .int t_byGun, .int t_prizeMost, .ref a_t_order, .ref a_t_times, .int t_listed])), (a_t_now, .inl (cI, 1562, .inl t_now))] sz) := by
  refine Met.ofW (cc := cX11_isMat) (maxL := 2) (ret := (some .boolean)) (by decide) rfl ?_
  intro p e s m args below meth c s₁ B hml hv
  obtain ⟨rfl, hsz, hP, hK, hN, hZ, hD0⟩ := hv
  have hx := B.exec
  have hb := B.bytes
  have hr := B.returns
  have hts := atoms_spec (ws := wsX11_isMat) B.pre
  have hown : s.vm.findClass RX11 = some m.cls := findClass_of_methodNamed B.named
  have hlocks := B.notSynchronized
  subst hsz
  have hD := hD0.self (sz := s.heap.size)
  generalize hAe : va_A [(a_t, .inr (11, [.int t_thrown, .ref a_t_now, .ref a_t_kept, .int t_isKept, .ref a_t_text, .int t_length, .ref a_t_passing, .int t_at, .int t_fault, .int t_open, .int t_asked, .int t_byGun, .int t_prizeMost, .ref a_t_order, .ref a_t_times, .int t_listed])), (a_t_now, .inl (cI, 1562, .inl t_now))] s.heap.size = A at hD hZ ⊢
  have hA : ∀ q : Nat, s.heap.size ≤ q → A q := fun q h => by rw [← hAe]; exact Or.inr h
  have hS : va_S A s.heap s.heap [] := va_S.rf
  have hl := lv_entry ([.ref a_t, .int x1]) (n := 2) (Nat.le_of_ble_eq_true rfl)
  rw [lg_entry_eq]
  generalize (lg_sl ([.ref a_t, .int x1]) ++ List.replicate (2 - (lg_sl ([.ref a_t, .int x1])).length) Slot.unset).toArray = ls at hl ⊢
  have hl : lv_has ls 2 [(0, .ref a_t), (1, .int x1)] := hl
  unfold fX11_isMat at h
  refine lv_iload_n hx hb dX11_isMat_0 rfl (lv_at hl 1 rfl) ?_
  refine lv_if_lt (tgt := 16) hx hb dX11_isMat_1 (by decide) (fun c1 => ?_) (fun c1 => ?_)
  · have h := zz_t h c1
    refine lv_iconst (v := (nI 0)) hx hb dX11_isMat_16 rfl ?_
    have j0_ := Option.some.inj h
    subst j0_
    exact W.zret (v := (nI 0)) hx hb hr rfl (fun t ht hW => ⟨⟨_, (), rfl, rfl, zPost.of hP hD hK ht hW [0, 1] rfl rfl rfl⟩, hS.F ht⟩) hS.2.2 dX11_isMat_17
  · have h := zz_f h c1
    refine lv_iload_n hx hb dX11_isMat_4 rfl (lv_at hl 1 rfl) ?_
    refine lv_aload_n hx hb dX11_isMat_5 rfl (lv_at hl 0 rfl) ?_
    obtain ⟨r2, e3, h⟩ := zz_b h
    refine zVi (As := []) (rest := [.int x1]) (C := RX11) (wr := []) [0, 1] [] 0 ⟨hx, hb, hml, hown, hts⟩ (mX11_mats l D cB cI cZ a_t a_t_now a_t_kept a_t_text a_t_passing a_t_order a_t_times t_thrown t_isKept t_length t_at t_fault t_open t_asked t_byGun t_prizeMost t_listed t_now s.heap.size r2 e3) (cwV 0 hts gX11_isMat_X11_mats rfl rfl rfl (by decide +kernel) ⟨Nat.le_of_ble_eq_true rfl, Nat.le_of_ble_eq_true rfl⟩) hK hN hZ hP hD hS hA rfl rfl rfl rfl rfl rfl rfl rfl hl.1 rfl (lv_room (Nat.le_of_ble_eq_true rfl)) dX11_isMat_6 ⟨Nat.le_of_ble_eq_true rfl, Nat.le_of_ble_eq_true rfl⟩ (fun H locs hP hD hS => ?_)
    have hP : va_P D vwCl [(a_t, .inr (11, [.int t_thrown, .ref a_t_now, .ref a_t_kept, .int t_isKept, .ref a_t_text, .int t_length, .ref a_t_passing, .int t_at, .int t_fault, .int t_open, .int t_asked, .int t_byGun, .int t_prizeMost, .ref a_t_order, .ref a_t_times, .int t_listed])), (a_t_now, .inl (cI, 1562, .inl t_now))] H := hP
    have hD : va_D A [(a_t, .inr (11, [.int t_thrown, .ref a_t_now, .ref a_t_kept, .int t_isKept, .ref a_t_text, .int t_length, .ref a_t_passing, .int t_at, .int t_fault, .int t_open, .int t_asked, .int t_byGun, .int t_prizeMost, .ref a_t_order, .ref a_t_times, .int t_listed])), (a_t_now, .inl (cI, 1562, .inl t_now))] := hD
    refine lv_icmp_ge (tgt := 16) hx hb dX11_isMat_9 (by decide) (fun c4 => ?_) (fun c4 => ?_)
    · have h := zz_t h c4
      refine lv_iconst (v := (nI 0)) hx hb dX11_isMat_16 rfl ?_
      have j0_ := Option.some.inj h
      subst j0_
      exact W.zret (v := (nI 0)) hx hb hr rfl (fun t ht hW => ⟨⟨_, (), rfl, rfl, zPost.of hP hD hK ht hW [0, 1] rfl rfl rfl⟩, hS.F ht⟩) hS.2.2 dX11_isMat_17
    · have h := zz_f h c4
      refine lv_iconst (v := (nI 1)) hx hb dX11_isMat_12 rfl ?_
      refine lv_goto (tgt := 17) hx hb dX11_isMat_13 (by decide) ?_
      have j0_ := Option.some.inj h
      subst j0_
      exact W.zret (v := (nI 1)) hx hb hr rfl (fun t ht hW => ⟨⟨_, (), rfl, rfl, zPost.of hP hD hK ht hW [0, 1] rfl rfl rfl⟩, hS.F ht⟩) hS.2.2 dX11_isMat_17
/-! RunDeskModel.isRunner -/
theorem dX11_isRunner_0 : decode cX11_isRunner 0 = .ok (.aload_n 0, 1) := by decide +kernel
theorem dX11_isRunner_1 : decode cX11_isRunner 1 = .ok (.iconst 0, 1) := by decide +kernel
theorem dX11_isRunner_2 : decode cX11_isRunner 2 = .ok (.putfield 37, 3) := by decide +kernel
theorem dX11_isRunner_5 : decode cX11_isRunner 5 = .ok (.iload_n 1, 1) := by decide +kernel
theorem dX11_isRunner_6 : decode cX11_isRunner 6 = .ok (.ifCond .lt 15, 3) := by decide +kernel
theorem dX11_isRunner_9 : decode cX11_isRunner 9 = .ok (.iload_n 1, 1) := by decide +kernel
theorem dX11_isRunner_10 : decode cX11_isRunner 10 = .ok (.aload_n 0, 1) := by decide +kernel
theorem dX11_isRunner_11 : decode cX11_isRunner 11 = .ok (.invokevirtual 45, 3) := by decide +kernel
theorem dX11_isRunner_14 : decode cX11_isRunner 14 = .ok (.if_icmp .ge 7, 3) := by decide +kernel
theorem dX11_isRunner_17 : decode cX11_isRunner 17 = .ok (.iconst 1, 1) := by decide +kernel
theorem dX11_isRunner_18 : decode cX11_isRunner 18 = .ok (.goto 4, 3) := by decide +kernel
theorem dX11_isRunner_21 : decode cX11_isRunner 21 = .ok (.iconst 0, 1) := by decide +kernel
theorem dX11_isRunner_22 : decode cX11_isRunner 22 = .ok (.ireturn, 1) := by decide +kernel
set_option maxRecDepth 20000 in
theorem ggX11_isRunner_X11_runners : GoodIn wsX11_isRunner wsX11_runners := goodIn_sub (List.forall_mem_cons.mpr ⟨List.mem_cons_of_mem _ (List.mem_append_left _ (List.mem_of_getElem? (i := 5) rfl)), (List.forall_mem_append.mpr ⟨(List.forall_mem_cons.mpr ⟨List.mem_cons_of_mem _ (List.mem_append_left _ (List.mem_of_getElem? (i := 6) rfl)), (fun _ h => nomatch h)⟩), (fun _ h => List.mem_cons_of_mem _ (List.mem_append_right _ (h)))⟩)⟩) (by decide +kernel)
set_option maxRecDepth 20000 in
theorem gX11_isRunner_X11_runners : GoodIn wsX11_isRunner (wsV RX11 45 RX11 yX11_runners wsX11_runners) := goodIn_app (goodIn_of _ (by decide +kernel)) ggX11_isRunner_X11_runners
theorem kX11_isRunner_0 : (.fieldLink RX11 37 "RunDeskModel" "thrown" "I" : Cond) ∈ wsX11_isRunner := List.mem_of_getElem? (i := 1) (by decide +kernel)
theorem qX11_isRunner_X11 : ∀ w ∈ wsX110, w ∈ wsX11_isRunner := fun _ h => List.mem_cons_of_mem _ (List.mem_append_right _ (h))
set_option maxHeartbeats 4000000 in
set_option maxRecDepth 100000 in
theorem mX11_isRunner (l : Launch) (D : va_G) (cB cI cZ : ClassId) (a_t : Nat) (a_t_now : Nat) (a_t_kept : Nat) (a_t_text : Nat) (a_t_passing : Nat) (a_t_order : Nat) (a_t_times : Nat) (t_thrown : Int32) (t_isKept : Int32) (t_length : Int32) (t_at : Int32) (t_fault : Int32) (t_open : Int32) (t_asked : Int32) (t_byGun : Int32) (t_prizeMost : Int32) (t_listed : Int32) (t_now : Nat → Int32) (sz : Nat) (x1 : Int32) (b0 : Bool) (t_thrown' : Int32) (h : fX11_isRunner t_thrown t_now x1 = some (b0, t_thrown')) : Met l yX11_isRunner wsX11_isRunner ({ frames := 1, cells := 0, slots := 0, locals := 20 } : Room) (va_Pc [.ref a_t, .int x1] (zPre D (zT cB cI cZ) [(a_t, .inr (11, [.int t_thrown, .ref a_t_now, .ref a_t_kept, .int t_isKept, .ref a_t_text, .int t_length, .ref a_t_passing, .int t_at, .int t_fault, .int t_open, .int t_asked, .int t_byGun, .int t_prizeMost, .ref a_t_order, .ref a_t_times, .int t_listed])), (a_t_now, .inl (cI, 1562, .inl t_now))] sz)) (zQi (zb b0) D (zT cB cI cZ) [(a_t, .inr (11, [.int t_thrown', .ref a_t_now, .ref a_t_kept, .int t_isKept, .ref a_t_text, .int t_length, .ref a_t_passing, .int t_at, .int t_fault, .int t_open, .int t_asked, .int t_byGun, .int t_prizeMost, .ref a_t_order, .ref a_t_times, .int t_listed])), (a_t_now, .inl (cI, 1562, .inl t_now))] (va_A [(a_t, .inr (11, [.int t_thrown, .ref a_t_now, .ref a_t_kept, .int t_isKept, .ref a_t_text, .int t_length, .ref a_t_passing, .int t_at, .int t_fault, .int t_open, .int t_asked, .int t_byGun, .int t_prizeMost, .ref a_t_order, .ref a_t_times, .int t_listed])), (a_t_now, .inl (cI, 1562, .inl t_now))] sz)) 0 0 (va_A [(a_t, .inr (11, [.int t_thrown, .ref a_t_now, .ref a_t_kept, .int t_isKept, .ref a_t_text, .int t_length, .ref a_t_passing, .int t_at, .int t_fault, .int t_open, .int t_asked, .int t_byGun, .int t_prizeMost, .ref a_t_order, .ref a_t_times, .int t_listed])), (a_t_now, .inl (cI, 1562, .inl t_now))] sz) := by
  refine Met.ofW (cc := cX11_isRunner) (maxL := 2) (ret := (some .boolean)) (by decide) rfl ?_
  intro p e s m args below meth c s₁ B hml hv
  obtain ⟨rfl, hsz, hP, hK, hN, hZ, hD0⟩ := hv
  have hx := B.exec
  have hb := B.bytes
  have hr := B.returns
  have hts := atoms_spec (ws := wsX11_isRunner) B.pre
  have hown : s.vm.findClass RX11 = some m.cls := findClass_of_methodNamed B.named
  have hlocks := B.notSynchronized
  subst hsz
  have hD := hD0.self (sz := s.heap.size)
  generalize hAe : va_A [(a_t, .inr (11, [.int t_thrown, .ref a_t_now, .ref a_t_kept, .int t_isKept, .ref a_t_text, .int t_length, .ref a_t_passing, .int t_at, .int t_fault, .int t_open, .int t_asked, .int t_byGun, .int t_prizeMost, .ref a_t_order, .ref a_t_times, .int t_listed])), (a_t_now, .inl (cI, 1562, .inl t_now))] s.heap.size = A at hD hZ ⊢
  have hA : ∀ q : Nat, s.heap.size ≤ q → A q := fun q h => by rw [← hAe]; exact Or.inr h
  have hS : va_S A s.heap s.heap [] := va_S.rf
  have hl := lv_entry ([.ref a_t, .int x1]) (n := 2) (Nat.le_of_ble_eq_true rfl)
  rw [lg_entry_eq]
  generalize (lg_sl ([.ref a_t, .int x1]) ++ List.replicate (2 - (lg_sl ([.ref a_t, .int x1])).length) Slot.unset).toArray = ls at hl ⊢
  have hl : lv_has ls 2 [(0, .ref a_t), (1, .int x1)] := hl
  unfold fX11_isRunner at h
  refine lv_aload_n hx hb dX11_isRunner_0 rfl (lv_at hl 0 rfl) ?_
  refine lv_iconst (v := (nI 0)) hx hb dX11_isRunner_1 rfl ?_
  refine va_put (D := D) (ci := 11) (ty := .int) (C := RX11) (T := TX11) (N := 16) hx hb hts qX11_isRunner_X11 tyX11 tyX11_ok nmX11 hown hK hP hD hS 0 rfl rfl 0 (by decide) (hts _ kX11_isRunner_0) (fun _ h9 => h9) rfl (by decide +kernel) rfl (by first | rfl | exact zz_fit) (Nat.le_of_ble_eq_true rfl) dX11_isRunner_2 (fun H locs hP hD hS => ?_)
  have hP : va_P D vwCl [(a_t, .inr (11, [.int (nI 0), .ref a_t_now, .ref a_t_kept, .int t_isKept, .ref a_t_text, .int t_length, .ref a_t_passing, .int t_at, .int t_fault, .int t_open, .int t_asked, .int t_byGun, .int t_prizeMost, .ref a_t_order, .ref a_t_times, .int t_listed])), (a_t_now, .inl (cI, 1562, .inl t_now))] H := hP
  have hD : va_D A [(a_t, .inr (11, [.int (nI 0), .ref a_t_now, .ref a_t_kept, .int t_isKept, .ref a_t_text, .int t_length, .ref a_t_passing, .int t_at, .int t_fault, .int t_open, .int t_asked, .int t_byGun, .int t_prizeMost, .ref a_t_order, .ref a_t_times, .int t_listed])), (a_t_now, .inl (cI, 1562, .inl t_now))] := hD
  refine lv_iload_n hx hb dX11_isRunner_5 rfl (lv_at hl 1 rfl) ?_
  refine lv_if_lt (tgt := 21) hx hb dX11_isRunner_6 (by decide) (fun c1 => ?_) (fun c1 => ?_)
  · have h := zz_t h c1
    refine lv_iconst (v := (nI 0)) hx hb dX11_isRunner_21 rfl ?_
    obtain ⟨j0_, g_⟩ := Prod.mk.inj (Option.some.inj h)
    have j1_ := g_
    subst j0_
    subst j1_
    exact W.zret (v := (nI 0)) hx hb hr rfl (fun t ht hW => ⟨⟨_, (), rfl, rfl, zPost.of hP hD hK ht hW [0, 1] rfl rfl rfl⟩, hS.F ht⟩) hS.2.2 dX11_isRunner_22
  · have h := zz_f h c1
    refine lv_iload_n hx hb dX11_isRunner_9 rfl (lv_at hl 1 rfl) ?_
    refine lv_aload_n hx hb dX11_isRunner_10 rfl (lv_at hl 0 rfl) ?_
    obtain ⟨r2, e3, h⟩ := zz_b h
    refine zVi (As := []) (rest := [.int x1]) (C := RX11) (wr := []) [0, 1] [] 0 ⟨hx, hb, hml, hown, hts⟩ (mX11_runners l D cB cI cZ a_t a_t_now a_t_kept a_t_text a_t_passing a_t_order a_t_times (nI 0) t_isKept t_length t_at t_fault t_open t_asked t_byGun t_prizeMost t_listed t_now H.size r2 e3) (cwV 0 hts gX11_isRunner_X11_runners rfl rfl rfl (by decide +kernel) ⟨Nat.le_of_ble_eq_true rfl, Nat.le_of_ble_eq_true rfl⟩) hK hN hZ hP hD hS hA rfl rfl rfl rfl rfl rfl rfl rfl hl.1 rfl (lv_room (Nat.le_of_ble_eq_true rfl)) dX11_isRunner_11 ⟨Nat.le_of_ble_eq_true rfl, Nat.le_of_ble_eq_true rfl⟩ (fun H locs hP hD hS => ?_)
    have hP : va_P D vwCl [(a_t, .inr (11, [.int (nI 0), .ref a_t_now, .ref a_t_kept, .int t_isKept, .ref a_t_text, .int t_length, .ref a_t_passing, .int t_at, .int t_fault, .int t_open, .int t_asked, .int t_byGun, .int t_prizeMost, .ref a_t_order, .ref a_t_times, .int t_listed])), (a_t_now, .inl (cI, 1562, .inl t_now))] H := hP
    have hD : va_D A [(a_t, .inr (11, [.int (nI 0), .ref a_t_now, .ref a_t_kept, .int t_isKept, .ref a_t_text, .int t_length, .ref a_t_passing, .int t_at, .int t_fault, .int t_open, .int t_asked, .int t_byGun, .int t_prizeMost, .ref a_t_order, .ref a_t_times, .int t_listed])), (a_t_now, .inl (cI, 1562, .inl t_now))] := hD
    refine lv_icmp_ge (tgt := 21) hx hb dX11_isRunner_14 (by decide) (fun c4 => ?_) (fun c4 => ?_)
    · have h := zz_t h c4
      refine lv_iconst (v := (nI 0)) hx hb dX11_isRunner_21 rfl ?_
      obtain ⟨j0_, g_⟩ := Prod.mk.inj (Option.some.inj h)
      have j1_ := g_
      subst j0_
      subst j1_
      exact W.zret (v := (nI 0)) hx hb hr rfl (fun t ht hW => ⟨⟨_, (), rfl, rfl, zPost.of hP hD hK ht hW [0, 1] rfl rfl rfl⟩, hS.F ht⟩) hS.2.2 dX11_isRunner_22
    · have h := zz_f h c4
      refine lv_iconst (v := (nI 1)) hx hb dX11_isRunner_17 rfl ?_
      refine lv_goto (tgt := 22) hx hb dX11_isRunner_18 (by decide) ?_
      obtain ⟨j0_, g_⟩ := Prod.mk.inj (Option.some.inj h)
      have j1_ := g_
      subst j0_
      subst j1_
      exact W.zret (v := (nI 1)) hx hb hr rfl (fun t ht hW => ⟨⟨_, (), rfl, rfl, zPost.of hP hD hK ht hW [0, 1] rfl rfl rfl⟩, hS.F ht⟩) hS.2.2 dX11_isRunner_22
/-! RunDeskModel.isIn -/
theorem dX11_isIn_0 : decode cX11_isIn 0 = .ok (.iload_n 0, 1) := by decide +kernel
theorem dX11_isIn_1 : decode cX11_isIn 1 = .ok (.iload_n 1, 1) := by decide +kernel
theorem dX11_isIn_2 : decode cX11_isIn 2 = .ok (.if_icmp .lt 12, 3) := by decide +kernel
theorem dX11_isIn_5 : decode cX11_isIn 5 = .ok (.iload_n 0, 1) := by decide +kernel
theorem dX11_isIn_6 : decode cX11_isIn 6 = .ok (.iload_n 2, 1) := by decide +kernel
theorem dX11_isIn_7 : decode cX11_isIn 7 = .ok (.if_icmp .gt 7, 3) := by decide +kernel
theorem dX11_isIn_10 : decode cX11_isIn 10 = .ok (.iconst 1, 1) := by decide +kernel
theorem dX11_isIn_11 : decode cX11_isIn 11 = .ok (.goto 4, 3) := by decide +kernel
theorem dX11_isIn_14 : decode cX11_isIn 14 = .ok (.iconst 0, 1) := by decide +kernel
theorem dX11_isIn_15 : decode cX11_isIn 15 = .ok (.ireturn, 1) := by decide +kernel
set_option maxHeartbeats 4000000 in
set_option maxRecDepth 100000 in
theorem mX11_isIn (l : Launch) (D : va_G) (cB cI cZ : ClassId) (sz : Nat) (x1 : Int32) (x2 : Int32) (x3 : Int32) (b0 : Bool) (h : fX11_isIn x1 x2 x3 = some (b0)) : Met l yX11_isIn wsX11_isIn ({ frames := 0, cells := 0, slots := 0, locals := 0 } : Room) (va_Pc [.int x1, .int x2, .int x3] (zPre D (zT cB cI cZ) [] sz)) (zQi (zb b0) D (zT cB cI cZ) [] (va_A [] sz)) 0 0 (va_A [] sz) := by
  refine Met.ofW (cc := cX11_isIn) (maxL := 3) (ret := (some .boolean)) (by decide) rfl ?_
  intro p e s m args below meth c s₁ B hml hv
  obtain ⟨rfl, hsz, hP, hK, hN, hZ, hD0⟩ := hv
  have hx := B.exec
  have hb := B.bytes
  have hr := B.returns
  have hts := atoms_spec (ws := wsX11_isIn) B.pre
  have hown : s.vm.findClass RX11 = some m.cls := findClass_of_methodNamed B.named
  have hlocks := B.notSynchronized
  subst hsz
  have hD := hD0.self (sz := s.heap.size)
  generalize hAe : va_A [] s.heap.size = A at hD hZ ⊢
  have hA : ∀ q : Nat, s.heap.size ≤ q → A q := fun q h => by rw [← hAe]; exact Or.inr h
  have hS : va_S A s.heap s.heap [] := va_S.rf
  have hl := lv_entry ([.int x1, .int x2, .int x3]) (n := 3) (Nat.le_of_ble_eq_true rfl)
  rw [lg_entry_eq]
  generalize (lg_sl ([.int x1, .int x2, .int x3]) ++ List.replicate (3 - (lg_sl ([.int x1, .int x2, .int x3])).length) Slot.unset).toArray = ls at hl ⊢
  have hl : lv_has ls 3 [(0, .int x1), (1, .int x2), (2, .int x3)] := hl
  unfold fX11_isIn at h
  refine lv_iload_n hx hb dX11_isIn_0 rfl (lv_at hl 0 rfl) ?_
  refine lv_iload_n hx hb dX11_isIn_1 rfl (lv_at hl 1 rfl) ?_
  refine lv_icmp_lt (tgt := 14) hx hb dX11_isIn_2 (by decide) (fun c1 => ?_) (fun c1 => ?_)
  · have h := zz_t h c1
    refine lv_iconst (v := (nI 0)) hx hb dX11_isIn_14 rfl ?_
    have j0_ := Option.some.inj h
    subst j0_
    exact W.zret (v := (nI 0)) hx hb hr rfl (fun t ht hW => ⟨⟨_, (), rfl, rfl, zPost.of hP hD hK ht hW [] rfl rfl rfl⟩, hS.F ht⟩) hS.2.2 dX11_isIn_15
  · have h := zz_f h c1
    refine lv_iload_n hx hb dX11_isIn_5 rfl (lv_at hl 0 rfl) ?_
    refine lv_iload_n hx hb dX11_isIn_6 rfl (lv_at hl 2 rfl) ?_
    refine lv_icmp_gt (tgt := 14) hx hb dX11_isIn_7 (by decide) (fun c2 => ?_) (fun c2 => ?_)
    · have h := zz_t h c2
      refine lv_iconst (v := (nI 0)) hx hb dX11_isIn_14 rfl ?_
      have j0_ := Option.some.inj h
      subst j0_
      exact W.zret (v := (nI 0)) hx hb hr rfl (fun t ht hW => ⟨⟨_, (), rfl, rfl, zPost.of hP hD hK ht hW [] rfl rfl rfl⟩, hS.F ht⟩) hS.2.2 dX11_isIn_15
    · have h := zz_f h c2
      refine lv_iconst (v := (nI 1)) hx hb dX11_isIn_10 rfl ?_
      refine lv_goto (tgt := 15) hx hb dX11_isIn_11 (by decide) ?_
      have j0_ := Option.some.inj h
      subst j0_
      exact W.zret (v := (nI 1)) hx hb hr rfl (fun t ht hW => ⟨⟨_, (), rfl, rfl, zPost.of hP hD hK ht hW [] rfl rfl rfl⟩, hS.F ht⟩) hS.2.2 dX11_isIn_15
/-! RunDeskModel.adds -/
theorem dX11_adds_0 : decode cX11_adds 0 = .ok (.bipush 8, 2) := by decide +kernel
theorem dX11_adds_2 : decode cX11_adds 2 = .ok (.iconst 4, 1) := by decide +kernel
theorem dX11_adds_3 : decode cX11_adds 3 = .ok (.aload_n 0, 1) := by decide +kernel
theorem dX11_adds_4 : decode cX11_adds 4 = .ok (.invokevirtual 41, 3) := by decide +kernel
theorem dX11_adds_7 : decode cX11_adds 7 = .ok (.imul, 1) := by decide +kernel
theorem dX11_adds_8 : decode cX11_adds 8 = .ok (.iadd, 1) := by decide +kernel
theorem dX11_adds_9 : decode cX11_adds 9 = .ok (.istore_n 3, 1) := by decide +kernel
theorem dX11_adds_10 : decode cX11_adds 10 = .ok (.aload_n 0, 1) := by decide +kernel
theorem dX11_adds_11 : decode cX11_adds 11 = .ok (.getfield 9, 3) := by decide +kernel
theorem dX11_adds_14 : decode cX11_adds 14 = .ok (.iload_n 3, 1) := by decide +kernel
theorem dX11_adds_15 : decode cX11_adds 15 = .ok (.iconst 0, 1) := by decide +kernel
theorem dX11_adds_16 : decode cX11_adds 16 = .ok (.iadd, 1) := by decide +kernel
theorem dX11_adds_17 : decode cX11_adds 17 = .ok (.iload_n 1, 1) := by decide +kernel
theorem dX11_adds_18 : decode cX11_adds 18 = .ok (.iastore, 1) := by decide +kernel
theorem dX11_adds_19 : decode cX11_adds 19 = .ok (.aload_n 0, 1) := by decide +kernel
theorem dX11_adds_20 : decode cX11_adds 20 = .ok (.getfield 9, 3) := by decide +kernel
theorem dX11_adds_23 : decode cX11_adds 23 = .ok (.iload_n 3, 1) := by decide +kernel
theorem dX11_adds_24 : decode cX11_adds 24 = .ok (.iconst 1, 1) := by decide +kernel
theorem dX11_adds_25 : decode cX11_adds 25 = .ok (.iadd, 1) := by decide +kernel
theorem dX11_adds_26 : decode cX11_adds 26 = .ok (.iload_n 2, 1) := by decide +kernel
theorem dX11_adds_27 : decode cX11_adds 27 = .ok (.iastore, 1) := by decide +kernel
theorem dX11_adds_28 : decode cX11_adds 28 = .ok (.aload_n 0, 1) := by decide +kernel
theorem dX11_adds_29 : decode cX11_adds 29 = .ok (.getfield 9, 3) := by decide +kernel
theorem dX11_adds_32 : decode cX11_adds 32 = .ok (.iload_n 3, 1) := by decide +kernel
theorem dX11_adds_33 : decode cX11_adds 33 = .ok (.iconst 2, 1) := by decide +kernel
theorem dX11_adds_34 : decode cX11_adds 34 = .ok (.iadd, 1) := by decide +kernel
theorem dX11_adds_35 : decode cX11_adds 35 = .ok (.iconst 0, 1) := by decide +kernel
theorem dX11_adds_36 : decode cX11_adds 36 = .ok (.iastore, 1) := by decide +kernel
theorem dX11_adds_37 : decode cX11_adds 37 = .ok (.aload_n 0, 1) := by decide +kernel
theorem dX11_adds_38 : decode cX11_adds 38 = .ok (.getfield 9, 3) := by decide +kernel
theorem dX11_adds_41 : decode cX11_adds 41 = .ok (.iload_n 3, 1) := by decide +kernel
theorem dX11_adds_42 : decode cX11_adds 42 = .ok (.iconst 3, 1) := by decide +kernel
theorem dX11_adds_43 : decode cX11_adds 43 = .ok (.iadd, 1) := by decide +kernel
theorem dX11_adds_44 : decode cX11_adds 44 = .ok (.iconst (-1), 1) := by decide +kernel
theorem dX11_adds_45 : decode cX11_adds 45 = .ok (.iastore, 1) := by decide +kernel
theorem dX11_adds_46 : decode cX11_adds 46 = .ok (.iconst 0, 1) := by decide +kernel
theorem dX11_adds_47 : decode cX11_adds 47 = .ok (.istore 4, 2) := by decide +kernel
theorem dX11_adds_49 : decode cX11_adds 49 = .ok (.iload 4, 2) := by decide +kernel
theorem dX11_adds_51 : decode cX11_adds 51 = .ok (.aload_n 0, 1) := by decide +kernel
theorem dX11_adds_52 : decode cX11_adds 52 = .ok (.invokevirtual 45, 3) := by decide +kernel
theorem dX11_adds_55 : decode cX11_adds 55 = .ok (.if_icmp .ge 23, 3) := by decide +kernel
theorem dX11_adds_58 : decode cX11_adds 58 = .ok (.aload_n 0, 1) := by decide +kernel
theorem dX11_adds_59 : decode cX11_adds 59 = .ok (.iload 4, 2) := by decide +kernel
theorem dX11_adds_61 : decode cX11_adds 61 = .ok (.bipush 12, 2) := by decide +kernel
theorem dX11_adds_63 : decode cX11_adds 63 = .ok (.aload_n 0, 1) := by decide +kernel
theorem dX11_adds_64 : decode cX11_adds 64 = .ok (.invokevirtual 41, 3) := by decide +kernel
theorem dX11_adds_67 : decode cX11_adds 67 = .ok (.iadd, 1) := by decide +kernel
theorem dX11_adds_68 : decode cX11_adds 68 = .ok (.iconst (-1), 1) := by decide +kernel
theorem dX11_adds_69 : decode cX11_adds 69 = .ok (.invokevirtual 48, 3) := by decide +kernel
theorem dX11_adds_72 : decode cX11_adds 72 = .ok (.iinc 4 1, 3) := by decide +kernel
theorem dX11_adds_75 : decode cX11_adds 75 = .ok (.goto (-26), 3) := by decide +kernel
theorem dX11_adds_78 : decode cX11_adds 78 = .ok (.aload_n 0, 1) := by decide +kernel
theorem dX11_adds_79 : decode cX11_adds 79 = .ok (.getfield 9, 3) := by decide +kernel
theorem dX11_adds_82 : decode cX11_adds 82 = .ok (.iconst 0, 1) := by decide +kernel
theorem dX11_adds_83 : decode cX11_adds 83 = .ok (.dup2, 1) := by decide +kernel
theorem dX11_adds_84 : decode cX11_adds 84 = .ok (.iaload, 1) := by decide +kernel
theorem dX11_adds_85 : decode cX11_adds 85 = .ok (.iconst 1, 1) := by decide +kernel
theorem dX11_adds_86 : decode cX11_adds 86 = .ok (.iadd, 1) := by decide +kernel
theorem dX11_adds_87 : decode cX11_adds 87 = .ok (.iastore, 1) := by decide +kernel
theorem dX11_adds_88 : decode cX11_adds 88 = .ok (.return_, 1) := by decide +kernel
set_option maxRecDepth 20000 in
theorem ggX11_adds_X11_mats : GoodIn wsX11_adds wsX11_mats := goodIn_sub (List.forall_mem_cons.mpr ⟨List.mem_cons_of_mem _ (List.mem_append_left _ (List.mem_of_getElem? (i := 5) rfl)), (List.forall_mem_append.mpr ⟨(List.forall_mem_cons.mpr ⟨List.mem_cons_of_mem _ (List.mem_append_left _ (List.mem_of_getElem? (i := 0) rfl)), (fun _ h => nomatch h)⟩), (fun _ h => List.mem_cons_of_mem _ (List.mem_append_right _ (h)))⟩)⟩) (by decide +kernel)
set_option maxRecDepth 20000 in
theorem gX11_adds_X11_mats : GoodIn wsX11_adds (wsV RX11 41 RX11 yX11_mats wsX11_mats) := goodIn_app (goodIn_of _ (by decide +kernel)) ggX11_adds_X11_mats
set_option maxRecDepth 20000 in
theorem ggX11_adds_X11_runners : GoodIn wsX11_adds wsX11_runners := goodIn_sub (List.forall_mem_cons.mpr ⟨List.mem_cons_of_mem _ (List.mem_append_left _ (List.mem_of_getElem? (i := 9) rfl)), (List.forall_mem_append.mpr ⟨(List.forall_mem_cons.mpr ⟨List.mem_cons_of_mem _ (List.mem_append_left _ (List.mem_of_getElem? (i := 0) rfl)), (fun _ h => nomatch h)⟩), (fun _ h => List.mem_cons_of_mem _ (List.mem_append_right _ (h)))⟩)⟩) (by decide +kernel)
set_option maxRecDepth 20000 in
theorem gX11_adds_X11_runners : GoodIn wsX11_adds (wsV RX11 45 RX11 yX11_runners wsX11_runners) := goodIn_app (goodIn_of _ (by decide +kernel)) ggX11_adds_X11_runners
set_option maxRecDepth 20000 in
theorem ggX11_adds_X11_put : GoodIn wsX11_adds wsX11_put := goodIn_sub (List.forall_mem_cons.mpr ⟨List.mem_cons_of_mem _ (List.mem_append_left _ (List.mem_of_getElem? (i := 13) rfl)), (List.forall_mem_append.mpr ⟨(List.forall_mem_cons.mpr ⟨List.mem_cons_of_mem _ (List.mem_append_left _ (List.mem_of_getElem? (i := 0) rfl)), (fun _ h => nomatch h)⟩), (fun _ h => List.mem_cons_of_mem _ (List.mem_append_right _ (h)))⟩)⟩) (by decide +kernel)
set_option maxRecDepth 20000 in
theorem gX11_adds_X11_put : GoodIn wsX11_adds (wsV RX11 48 RX11 yX11_put wsX11_put) := goodIn_app (goodIn_of _ (by decide +kernel)) ggX11_adds_X11_put
theorem kX11_adds_0 : (.fieldLink RX11 9 "RunDeskModel" "now" "[I" : Cond) ∈ wsX11_adds := List.mem_of_getElem? (i := 1) (by decide +kernel)
theorem qX11_adds_X11 : ∀ w ∈ wsX110, w ∈ wsX11_adds := fun _ h => List.mem_cons_of_mem _ (List.mem_append_right _ (h))
set_option maxHeartbeats 4000000 in
set_option maxRecDepth 100000 in
theorem mX11_adds (l : Launch) (D : va_G) (cB cI cZ : ClassId) (a_t : Nat) (a_t_now : Nat) (a_t_kept : Nat) (a_t_text : Nat) (a_t_passing : Nat) (a_t_order : Nat) (a_t_times : Nat) (t_thrown : Int32) (t_isKept : Int32) (t_length : Int32) (t_at : Int32) (t_fault : Int32) (t_open : Int32) (t_asked : Int32) (t_byGun : Int32) (t_prizeMost : Int32) (t_listed : Int32) (t_now : Nat → Int32) (sz : Nat) (x1 : Int32) (x2 : Int32) (N : Nat) (t_now' : Nat → Int32) (h : fX11_adds N t_now x1 x2 = some (t_now')) : Met l yX11_adds wsX11_adds ({ frames := 1, cells := 0, slots := 0, locals := 23 } : Room) (va_Pc [.ref a_t, .int x1, .int x2] (zPre D (zT cB cI cZ) [(a_t, .inr (11, [.int t_thrown, .ref a_t_now, .ref a_t_kept, .int t_isKept, .ref a_t_text, .int t_length, .ref a_t_passing, .int t_at, .int t_fault, .int t_open, .int t_asked, .int t_byGun, .int t_prizeMost, .ref a_t_order, .ref a_t_times, .int t_listed])), (a_t_now, .inl (cI, 1562, .inl t_now))] sz)) (zQv D (zT cB cI cZ) [(a_t, .inr (11, [.int t_thrown, .ref a_t_now, .ref a_t_kept, .int t_isKept, .ref a_t_text, .int t_length, .ref a_t_passing, .int t_at, .int t_fault, .int t_open, .int t_asked, .int t_byGun, .int t_prizeMost, .ref a_t_order, .ref a_t_times, .int t_listed])), (a_t_now, .inl (cI, 1562, .inl t_now'))] (va_A [(a_t, .inr (11, [.int t_thrown, .ref a_t_now, .ref a_t_kept, .int t_isKept, .ref a_t_text, .int t_length, .ref a_t_passing, .int t_at, .int t_fault, .int t_open, .int t_asked, .int t_byGun, .int t_prizeMost, .ref a_t_order, .ref a_t_times, .int t_listed])), (a_t_now, .inl (cI, 1562, .inl t_now))] sz)) 0 0 (va_A [(a_t, .inr (11, [.int t_thrown, .ref a_t_now, .ref a_t_kept, .int t_isKept, .ref a_t_text, .int t_length, .ref a_t_passing, .int t_at, .int t_fault, .int t_open, .int t_asked, .int t_byGun, .int t_prizeMost, .ref a_t_order, .ref a_t_times, .int t_listed])), (a_t_now, .inl (cI, 1562, .inl t_now))] sz) := by
  refine Met.ofW (cc := cX11_adds) (maxL := 5) (ret := none) (by decide) rfl ?_
  intro p e s m args below meth c s₁ B hml hv
  obtain ⟨rfl, hsz, hP, hK, hN, hZ, hD0⟩ := hv
  have hx := B.exec
  have hb := B.bytes
  have hr := B.returns
  have hts := atoms_spec (ws := wsX11_adds) B.pre
  have hown : s.vm.findClass RX11 = some m.cls := findClass_of_methodNamed B.named
  have hlocks := B.notSynchronized
  subst hsz
  have hD := hD0.self (sz := s.heap.size)
  generalize hAe : va_A [(a_t, .inr (11, [.int t_thrown, .ref a_t_now, .ref a_t_kept, .int t_isKept, .ref a_t_text, .int t_length, .ref a_t_passing, .int t_at, .int t_fault, .int t_open, .int t_asked, .int t_byGun, .int t_prizeMost, .ref a_t_order, .ref a_t_times, .int t_listed])), (a_t_now, .inl (cI, 1562, .inl t_now))] s.heap.size = A at hD hZ ⊢
  have hA : ∀ q : Nat, s.heap.size ≤ q → A q := fun q h => by rw [← hAe]; exact Or.inr h
  have hS : va_S A s.heap s.heap [] := va_S.rf
  have hl := lv_entry ([.ref a_t, .int x1, .int x2]) (n := 5) (Nat.le_of_ble_eq_true rfl)
  rw [lg_entry_eq]
  generalize (lg_sl ([.ref a_t, .int x1, .int x2]) ++ List.replicate (5 - (lg_sl ([.ref a_t, .int x1, .int x2])).length) Slot.unset).toArray = ls at hl ⊢
  have hl : lv_has ls 5 [(0, .ref a_t), (1, .int x1), (2, .int x2)] := hl
  unfold fX11_adds at h
  refine lv_bipush (v := (nI 8)) hx hb dX11_adds_0 rfl ?_
  refine lv_iconst (v := (nI 4)) hx hb dX11_adds_2 rfl ?_
  refine lv_aload_n hx hb dX11_adds_3 rfl (lv_at hl 0 rfl) ?_
  obtain ⟨r1, e2, h⟩ := zz_b h
  refine zVi (As := []) (rest := [.int (nI 4), .int (nI 8)]) (C := RX11) (wr := []) [0, 1] [] 0 ⟨hx, hb, hml, hown, hts⟩ (mX11_mats l D cB cI cZ a_t a_t_now a_t_kept a_t_text a_t_passing a_t_order a_t_times t_thrown t_isKept t_length t_at t_fault t_open t_asked t_byGun t_prizeMost t_listed t_now s.heap.size r1 e2) (cwV 0 hts gX11_adds_X11_mats rfl rfl rfl (by decide +kernel) ⟨Nat.le_of_ble_eq_true rfl, Nat.le_of_ble_eq_true rfl⟩) hK hN hZ hP hD hS hA rfl rfl rfl rfl rfl rfl rfl rfl hl.1 rfl (lv_room (Nat.le_of_ble_eq_true rfl)) dX11_adds_4 ⟨Nat.le_of_ble_eq_true rfl, Nat.le_of_ble_eq_true rfl⟩ (fun H locs hP hD hS => ?_)
  have hP : va_P D vwCl [(a_t, .inr (11, [.int t_thrown, .ref a_t_now, .ref a_t_kept, .int t_isKept, .ref a_t_text, .int t_length, .ref a_t_passing, .int t_at, .int t_fault, .int t_open, .int t_asked, .int t_byGun, .int t_prizeMost, .ref a_t_order, .ref a_t_times, .int t_listed])), (a_t_now, .inl (cI, 1562, .inl t_now))] H := hP
  have hD : va_D A [(a_t, .inr (11, [.int t_thrown, .ref a_t_now, .ref a_t_kept, .int t_isKept, .ref a_t_text, .int t_length, .ref a_t_passing, .int t_at, .int t_fault, .int t_open, .int t_asked, .int t_byGun, .int t_prizeMost, .ref a_t_order, .ref a_t_times, .int t_listed])), (a_t_now, .inl (cI, 1562, .inl t_now))] := hD
  refine lv_imul hx hb dX11_adds_7 ?_
  refine lv_iadd hx hb dX11_adds_8 ?_
  refine lv_istore_n (lv' := [(3, .int ((nI 8) + ((nI 4) * r1))), (0, .ref a_t), (1, .int x1), (2, .int x2)]) hx hb dX11_adds_9 rfl hl (by decide) rfl (fun ls hl => ?_)
  refine lv_aload_n hx hb dX11_adds_10 rfl (lv_at hl 1 rfl) ?_
  refine va_get (D := D) (ci := 11) (C := RX11) (T := TX11) (N := 16) hx hb hts qX11_adds_X11 hown hK hP 0 rfl rfl 1 (by decide) (hts _ kX11_adds_0) (fun _ h9 => h9) rfl dX11_adds_11 ?_
  refine lv_iload_n hx hb dX11_adds_14 rfl (lv_at hl 0 rfl) ?_
  refine lv_iconst (v := (nI 0)) hx hb dX11_adds_15 rfl ?_
  refine lv_iadd hx hb dX11_adds_16 ?_
  refine lv_iload_n hx hb dX11_adds_17 rfl (lv_at hl 2 rfl) ?_
  obtain ⟨i3, h⟩ := zz_i h
  refine va_iast hx hb hK hP hD hS 1 1 rfl rfl i3 dX11_adds_18 (fun H locs hP hD hS => ?_)
  have hP : va_P D vwCl [(a_t, .inr (11, [.int t_thrown, .ref a_t_now, .ref a_t_kept, .int t_isKept, .ref a_t_text, .int t_length, .ref a_t_passing, .int t_at, .int t_fault, .int t_open, .int t_asked, .int t_byGun, .int t_prizeMost, .ref a_t_order, .ref a_t_times, .int t_listed])), (a_t_now, .inl (cI, 1562, .inl (upd t_now ((((nI 8) + ((nI 4) * r1)) + (nI 0))).toNatClampNeg x1)))] H := hP
  have hD : va_D A [(a_t, .inr (11, [.int t_thrown, .ref a_t_now, .ref a_t_kept, .int t_isKept, .ref a_t_text, .int t_length, .ref a_t_passing, .int t_at, .int t_fault, .int t_open, .int t_asked, .int t_byGun, .int t_prizeMost, .ref a_t_order, .ref a_t_times, .int t_listed])), (a_t_now, .inl (cI, 1562, .inl (upd t_now ((((nI 8) + ((nI 4) * r1)) + (nI 0))).toNatClampNeg x1)))] := hD
  refine lv_aload_n hx hb dX11_adds_19 rfl (lv_at hl 1 rfl) ?_
  refine va_get (D := D) (ci := 11) (C := RX11) (T := TX11) (N := 16) hx hb hts qX11_adds_X11 hown hK hP 0 rfl rfl 1 (by decide) (hts _ kX11_adds_0) (fun _ h9 => h9) rfl dX11_adds_20 ?_
  refine lv_iload_n hx hb dX11_adds_23 rfl (lv_at hl 0 rfl) ?_
  refine lv_iconst (v := (nI 1)) hx hb dX11_adds_24 rfl ?_
  refine lv_iadd hx hb dX11_adds_25 ?_
  refine lv_iload_n hx hb dX11_adds_26 rfl (lv_at hl 3 rfl) ?_
  obtain ⟨i4, h⟩ := zz_i h
  refine va_iast hx hb hK hP hD hS 1 1 rfl rfl i4 dX11_adds_27 (fun H locs hP hD hS => ?_)
  have hP : va_P D vwCl [(a_t, .inr (11, [.int t_thrown, .ref a_t_now, .ref a_t_kept, .int t_isKept, .ref a_t_text, .int t_length, .ref a_t_passing, .int t_at, .int t_fault, .int t_open, .int t_asked, .int t_byGun, .int t_prizeMost, .ref a_t_order, .ref a_t_times, .int t_listed])), (a_t_now, .inl (cI, 1562, .inl (upd (upd t_now ((((nI 8) + ((nI 4) * r1)) + (nI 0))).toNatClampNeg x1) ((((nI 8) + ((nI 4) * r1)) + (nI 1))).toNatClampNeg x2)))] H := hP
  have hD : va_D A [(a_t, .inr (11, [.int t_thrown, .ref a_t_now, .ref a_t_kept, .int t_isKept, .ref a_t_text, .int t_length, .ref a_t_passing, .int t_at, .int t_fault, .int t_open, .int t_asked, .int t_byGun, .int t_prizeMost, .ref a_t_order, .ref a_t_times, .int t_listed])), (a_t_now, .inl (cI, 1562, .inl (upd (upd t_now ((((nI 8) + ((nI 4) * r1)) + (nI 0))).toNatClampNeg x1) ((((nI 8) + ((nI 4) * r1)) + (nI 1))).toNatClampNeg x2)))] := hD
  refine lv_aload_n hx hb dX11_adds_28 rfl (lv_at hl 1 rfl) ?_
  refine va_get (D := D) (ci := 11) (C := RX11) (T := TX11) (N := 16) hx hb hts qX11_adds_X11 hown hK hP 0 rfl rfl 1 (by decide) (hts _ kX11_adds_0) (fun _ h9 => h9) rfl dX11_adds_29 ?_
  refine lv_iload_n hx hb dX11_adds_32 rfl (lv_at hl 0 rfl) ?_
  refine lv_iconst (v := (nI 2)) hx hb dX11_adds_33 rfl ?_
  refine lv_iadd hx hb dX11_adds_34 ?_
  refine lv_iconst (v := (nI 0)) hx hb dX11_adds_35 rfl ?_
  obtain ⟨i5, h⟩ := zz_i h
  refine va_iast hx hb hK hP hD hS 1 1 rfl rfl i5 dX11_adds_36 (fun H locs hP hD hS => ?_)
  have hP : va_P D vwCl [(a_t, .inr (11, [.int t_thrown, .ref a_t_now, .ref a_t_kept, .int t_isKept, .ref a_t_text, .int t_length, .ref a_t_passing, .int t_at, .int t_fault, .int t_open, .int t_asked, .int t_byGun, .int t_prizeMost, .ref a_t_order, .ref a_t_times, .int t_listed])), (a_t_now, .inl (cI, 1562, .inl (upd (upd (upd t_now ((((nI 8) + ((nI 4) * r1)) + (nI 0))).toNatClampNeg x1) ((((nI 8) + ((nI 4) * r1)) + (nI 1))).toNatClampNeg x2) ((((nI 8) + ((nI 4) * r1)) + (nI 2))).toNatClampNeg (nI 0))))] H := hP
  have hD : va_D A [(a_t, .inr (11, [.int t_thrown, .ref a_t_now, .ref a_t_kept, .int t_isKept, .ref a_t_text, .int t_length, .ref a_t_passing, .int t_at, .int t_fault, .int t_open, .int t_asked, .int t_byGun, .int t_prizeMost, .ref a_t_order, .ref a_t_times, .int t_listed])), (a_t_now, .inl (cI, 1562, .inl (upd (upd (upd t_now ((((nI 8) + ((nI 4) * r1)) + (nI 0))).toNatClampNeg x1) ((((nI 8) + ((nI 4) * r1)) + (nI 1))).toNatClampNeg x2) ((((nI 8) + ((nI 4) * r1)) + (nI 2))).toNatClampNeg (nI 0))))] := hD
  refine lv_aload_n hx hb dX11_adds_37 rfl (lv_at hl 1 rfl) ?_
  refine va_get (D := D) (ci := 11) (C := RX11) (T := TX11) (N := 16) hx hb hts qX11_adds_X11 hown hK hP 0 rfl rfl 1 (by decide) (hts _ kX11_adds_0) (fun _ h9 => h9) rfl dX11_adds_38 ?_
  refine lv_iload_n hx hb dX11_adds_41 rfl (lv_at hl 0 rfl) ?_
  refine lv_iconst (v := (nI 3)) hx hb dX11_adds_42 rfl ?_
  refine lv_iadd hx hb dX11_adds_43 ?_
  refine lv_iconst (v := (-1 : Int32)) hx hb dX11_adds_44 rfl ?_
  obtain ⟨i6, h⟩ := zz_i h
  refine va_iast hx hb hK hP hD hS 1 1 rfl rfl i6 dX11_adds_45 (fun H locs hP hD hS => ?_)
  have hP : va_P D vwCl [(a_t, .inr (11, [.int t_thrown, .ref a_t_now, .ref a_t_kept, .int t_isKept, .ref a_t_text, .int t_length, .ref a_t_passing, .int t_at, .int t_fault, .int t_open, .int t_asked, .int t_byGun, .int t_prizeMost, .ref a_t_order, .ref a_t_times, .int t_listed])), (a_t_now, .inl (cI, 1562, .inl (upd (upd (upd (upd t_now ((((nI 8) + ((nI 4) * r1)) + (nI 0))).toNatClampNeg x1) ((((nI 8) + ((nI 4) * r1)) + (nI 1))).toNatClampNeg x2) ((((nI 8) + ((nI 4) * r1)) + (nI 2))).toNatClampNeg (nI 0)) ((((nI 8) + ((nI 4) * r1)) + (nI 3))).toNatClampNeg (-1 : Int32))))] H := hP
  have hD : va_D A [(a_t, .inr (11, [.int t_thrown, .ref a_t_now, .ref a_t_kept, .int t_isKept, .ref a_t_text, .int t_length, .ref a_t_passing, .int t_at, .int t_fault, .int t_open, .int t_asked, .int t_byGun, .int t_prizeMost, .ref a_t_order, .ref a_t_times, .int t_listed])), (a_t_now, .inl (cI, 1562, .inl (upd (upd (upd (upd t_now ((((nI 8) + ((nI 4) * r1)) + (nI 0))).toNatClampNeg x1) ((((nI 8) + ((nI 4) * r1)) + (nI 1))).toNatClampNeg x2) ((((nI 8) + ((nI 4) * r1)) + (nI 2))).toNatClampNeg (nI 0)) ((((nI 8) + ((nI 4) * r1)) + (nI 3))).toNatClampNeg (-1 : Int32))))] := hD
  refine lv_iconst (v := (nI 0)) hx hb dX11_adds_46 rfl ?_
  refine lv_istore (lv' := [(4, .int (nI 0)), (3, .int ((nI 8) + ((nI 4) * r1))), (0, .ref a_t), (1, .int x1), (2, .int x2)]) hx hb dX11_adds_47 hl (by decide) rfl (fun ls hl => ?_)
  have X49_78 : ∀ (v4_49 : Int32) (t_now_l49 : Nat → Int32) (H : Heap) (locs : List Loc) (ls : Array Slot), (if zin (nI 0) 1562 then (if zin (nI 0) 1562 then some ((upd t_now_l49 ((nI 0)).toNatClampNeg ((t_now_l49 ((nI 0)).toNatClampNeg) + (nI 1)))) else none) else none) = some (t_now') → va_P D vwCl [(a_t, .inr (11, [.int t_thrown, .ref a_t_now, .ref a_t_kept, .int t_isKept, .ref a_t_text, .int t_length, .ref a_t_passing, .int t_at, .int t_fault, .int t_open, .int t_asked, .int t_byGun, .int t_prizeMost, .ref a_t_order, .ref a_t_times, .int t_listed])), (a_t_now, .inl (cI, 1562, .inl t_now_l49))] H → va_D A [(a_t, .inr (11, [.int t_thrown, .ref a_t_now, .ref a_t_kept, .int t_isKept, .ref a_t_text, .int t_length, .ref a_t_passing, .int t_at, .int t_fault, .int t_open, .int t_asked, .int t_byGun, .int t_prizeMost, .ref a_t_order, .ref a_t_times, .int t_listed])), (a_t_now, .inl (cI, 1562, .inl t_now_l49))] → va_S A s.heap H locs → lv_has ls 5 [(4, .int v4_49), (3, .int ((nI 8) + ((nI 4) * r1))), (0, .ref a_t), (1, .int x1), (2, .int x2)] → W p l e (headSpec wsX11_adds ({ frames := 1, cells := 0, slots := 0, locals := 23 } : Room)).room s m #[Value.ref a_t, Value.int x1, Value.int x2] below meth c H locs 0 0 (MQ below (zQv D (zT cB cI cZ) [(a_t, .inr (11, [.int t_thrown, .ref a_t_now, .ref a_t_kept, .int t_isKept, .ref a_t_text, .int t_length, .ref a_t_passing, .int t_at, .int t_fault, .int t_open, .int t_asked, .int t_byGun, .int t_prizeMost, .ref a_t_order, .ref a_t_times, .int t_listed])), (a_t_now, .inl (cI, 1562, .inl t_now'))] A) #[Value.ref a_t, Value.int x1, Value.int x2] s 0 0 A) (F0 m 78 ls []) := by
    intro v4_49 t_now_l49 H locs ls h hP hD hS hl
    refine lv_aload_n hx hb dX11_adds_78 rfl (lv_at hl 2 rfl) ?_
    refine va_get (D := D) (ci := 11) (C := RX11) (T := TX11) (N := 16) hx hb hts qX11_adds_X11 hown hK hP 0 rfl rfl 1 (by decide) (hts _ kX11_adds_0) (fun _ h9 => h9) rfl dX11_adds_79 ?_
    refine lv_iconst (v := (nI 0)) hx hb dX11_adds_82 rfl ?_
    refine lv_dup2_11 hx hb dX11_adds_83 rfl rfl ?_
    obtain ⟨i7, h⟩ := zz_i h
    refine va_iald hx hb hK hP 1 1 rfl rfl i7 dX11_adds_84 ?_
    refine lv_iconst (v := (nI 1)) hx hb dX11_adds_85 rfl ?_
    refine lv_iadd hx hb dX11_adds_86 ?_
    obtain ⟨i8, h⟩ := zz_i h
    refine va_iast hx hb hK hP hD hS 1 1 rfl rfl i8 dX11_adds_87 (fun H locs hP hD hS => ?_)
    have hP : va_P D vwCl [(a_t, .inr (11, [.int t_thrown, .ref a_t_now, .ref a_t_kept, .int t_isKept, .ref a_t_text, .int t_length, .ref a_t_passing, .int t_at, .int t_fault, .int t_open, .int t_asked, .int t_byGun, .int t_prizeMost, .ref a_t_order, .ref a_t_times, .int t_listed])), (a_t_now, .inl (cI, 1562, .inl (upd t_now_l49 ((nI 0)).toNatClampNeg ((t_now_l49 ((nI 0)).toNatClampNeg) + (nI 1)))))] H := hP
    have hD : va_D A [(a_t, .inr (11, [.int t_thrown, .ref a_t_now, .ref a_t_kept, .int t_isKept, .ref a_t_text, .int t_length, .ref a_t_passing, .int t_at, .int t_fault, .int t_open, .int t_asked, .int t_byGun, .int t_prizeMost, .ref a_t_order, .ref a_t_times, .int t_listed])), (a_t_now, .inl (cI, 1562, .inl (upd t_now_l49 ((nI 0)).toNatClampNeg ((t_now_l49 ((nI 0)).toNatClampNeg) + (nI 1)))))] := hD
    have j0_ := Option.some.inj h
    subst j0_
    exact W.vret hx hb hr (fun t ht hW => ⟨⟨(), rfl, trivial, zPost.of hP hD hK ht hW [0, 1] rfl rfl rfl⟩, hS.F ht⟩) hS.2.2 dX11_adds_88
  have L49 : ∀ (n : Nat) (v4_49 : Int32) (t_now_l49 : Nat → Int32) (H : Heap) (locs : List Loc) (ls : Array Slot), fX11_adds_L49 (fun (v4_49 : Int32) (t_now_l49 : Nat → Int32) => (if zin (nI 0) 1562 then (if zin (nI 0) 1562 then some ((upd t_now_l49 ((nI 0)).toNatClampNeg ((t_now_l49 ((nI 0)).toNatClampNeg) + (nI 1)))) else none) else none)) n v4_49 t_now_l49 = some (t_now') → va_P D vwCl [(a_t, .inr (11, [.int t_thrown, .ref a_t_now, .ref a_t_kept, .int t_isKept, .ref a_t_text, .int t_length, .ref a_t_passing, .int t_at, .int t_fault, .int t_open, .int t_asked, .int t_byGun, .int t_prizeMost, .ref a_t_order, .ref a_t_times, .int t_listed])), (a_t_now, .inl (cI, 1562, .inl t_now_l49))] H → va_D A [(a_t, .inr (11, [.int t_thrown, .ref a_t_now, .ref a_t_kept, .int t_isKept, .ref a_t_text, .int t_length, .ref a_t_passing, .int t_at, .int t_fault, .int t_open, .int t_asked, .int t_byGun, .int t_prizeMost, .ref a_t_order, .ref a_t_times, .int t_listed])), (a_t_now, .inl (cI, 1562, .inl t_now_l49))] → va_S A s.heap H locs → lv_has ls 5 [(4, .int v4_49), (3, .int ((nI 8) + ((nI 4) * r1))), (0, .ref a_t), (1, .int x1), (2, .int x2)] → W p l e (headSpec wsX11_adds ({ frames := 1, cells := 0, slots := 0, locals := 23 } : Room)).room s m #[Value.ref a_t, Value.int x1, Value.int x2] below meth c H locs 0 0 (MQ below (zQv D (zT cB cI cZ) [(a_t, .inr (11, [.int t_thrown, .ref a_t_now, .ref a_t_kept, .int t_isKept, .ref a_t_text, .int t_length, .ref a_t_passing, .int t_at, .int t_fault, .int t_open, .int t_asked, .int t_byGun, .int t_prizeMost, .ref a_t_order, .ref a_t_times, .int t_listed])), (a_t_now, .inl (cI, 1562, .inl t_now'))] A) #[Value.ref a_t, Value.int x1, Value.int x2] s 0 0 A) (F0 m 49 ls []) := by
    intro n
    induction n with
    | zero => intro _ _ H locs ls h hP hD hS hl; cases h
    | succ n49 ih49 =>
      intro v4_49 t_now_l49 H locs ls h hP hD hS hl
      rw [fX11_adds_L49.eq_2] at h
      refine lv_iload hx hb dX11_adds_49 (lv_at hl 0 rfl) ?_
      refine lv_aload_n hx hb dX11_adds_51 rfl (lv_at hl 2 rfl) ?_
      obtain ⟨r9, e10, h⟩ := zz_b h
      refine zVi (As := []) (rest := [.int v4_49]) (C := RX11) (wr := []) [0, 1] [] 0 ⟨hx, hb, hml, hown, hts⟩ (mX11_runners l D cB cI cZ a_t a_t_now a_t_kept a_t_text a_t_passing a_t_order a_t_times t_thrown t_isKept t_length t_at t_fault t_open t_asked t_byGun t_prizeMost t_listed t_now_l49 H.size r9 e10) (cwV 0 hts gX11_adds_X11_runners rfl rfl rfl (by decide +kernel) ⟨Nat.le_of_ble_eq_true rfl, Nat.le_of_ble_eq_true rfl⟩) hK hN hZ hP hD hS hA rfl rfl rfl rfl rfl rfl rfl rfl hl.1 rfl (lv_room (Nat.le_of_ble_eq_true rfl)) dX11_adds_52 ⟨Nat.le_of_ble_eq_true rfl, Nat.le_of_ble_eq_true rfl⟩ (fun H locs hP hD hS => ?_)
      have hP : va_P D vwCl [(a_t, .inr (11, [.int t_thrown, .ref a_t_now, .ref a_t_kept, .int t_isKept, .ref a_t_text, .int t_length, .ref a_t_passing, .int t_at, .int t_fault, .int t_open, .int t_asked, .int t_byGun, .int t_prizeMost, .ref a_t_order, .ref a_t_times, .int t_listed])), (a_t_now, .inl (cI, 1562, .inl t_now_l49))] H := hP
      have hD : va_D A [(a_t, .inr (11, [.int t_thrown, .ref a_t_now, .ref a_t_kept, .int t_isKept, .ref a_t_text, .int t_length, .ref a_t_passing, .int t_at, .int t_fault, .int t_open, .int t_asked, .int t_byGun, .int t_prizeMost, .ref a_t_order, .ref a_t_times, .int t_listed])), (a_t_now, .inl (cI, 1562, .inl t_now_l49))] := hD
      refine lv_icmp_ge (tgt := 78) hx hb dX11_adds_55 (by decide) (fun c11 => ?_) (fun c11 => ?_)
      · have h := zz_t h c11
        exact X49_78 v4_49 t_now_l49 _ _ _ h (hP.sub [0, 1] rfl) (hD.sub [0, 1] rfl rfl) hS (lv_sub hl [0, 1, 2, 3, 4] rfl)
      · have h := zz_f h c11
        refine lv_aload_n hx hb dX11_adds_58 rfl (lv_at hl 2 rfl) ?_
        refine lv_iload hx hb dX11_adds_59 (lv_at hl 0 rfl) ?_
        refine lv_bipush (v := (nI 12)) hx hb dX11_adds_61 rfl ?_
        refine lv_aload_n hx hb dX11_adds_63 rfl (lv_at hl 2 rfl) ?_
        obtain ⟨r12, e13, h⟩ := zz_b h
        refine zVi (As := []) (rest := [.int (nI 12), .int v4_49, .ref a_t]) (C := RX11) (wr := []) [0, 1] [] 0 ⟨hx, hb, hml, hown, hts⟩ (mX11_mats l D cB cI cZ a_t a_t_now a_t_kept a_t_text a_t_passing a_t_order a_t_times t_thrown t_isKept t_length t_at t_fault t_open t_asked t_byGun t_prizeMost t_listed t_now_l49 H.size r12 e13) (cwV 0 hts gX11_adds_X11_mats rfl rfl rfl (by decide +kernel) ⟨Nat.le_of_ble_eq_true rfl, Nat.le_of_ble_eq_true rfl⟩) hK hN hZ hP hD hS hA rfl rfl rfl rfl rfl rfl rfl rfl hl.1 rfl (lv_room (Nat.le_of_ble_eq_true rfl)) dX11_adds_64 ⟨Nat.le_of_ble_eq_true rfl, Nat.le_of_ble_eq_true rfl⟩ (fun H locs hP hD hS => ?_)
        have hP : va_P D vwCl [(a_t, .inr (11, [.int t_thrown, .ref a_t_now, .ref a_t_kept, .int t_isKept, .ref a_t_text, .int t_length, .ref a_t_passing, .int t_at, .int t_fault, .int t_open, .int t_asked, .int t_byGun, .int t_prizeMost, .ref a_t_order, .ref a_t_times, .int t_listed])), (a_t_now, .inl (cI, 1562, .inl t_now_l49))] H := hP
        have hD : va_D A [(a_t, .inr (11, [.int t_thrown, .ref a_t_now, .ref a_t_kept, .int t_isKept, .ref a_t_text, .int t_length, .ref a_t_passing, .int t_at, .int t_fault, .int t_open, .int t_asked, .int t_byGun, .int t_prizeMost, .ref a_t_order, .ref a_t_times, .int t_listed])), (a_t_now, .inl (cI, 1562, .inl t_now_l49))] := hD
        refine lv_iadd hx hb dX11_adds_67 ?_
        refine lv_iconst (v := (-1 : Int32)) hx hb dX11_adds_68 rfl ?_
        obtain ⟨t_now_r14, e15, h⟩ := zz_b h
        refine zVv (As := [.int v4_49, .int ((nI 12) + r12), .int (-1 : Int32)]) (rest := []) (C := RX11) (wr := []) [0, 1] [] 0 ⟨hx, hb, hml, hown, hts⟩ (mX11_put l D cB cI cZ a_t a_t_now a_t_kept a_t_text a_t_passing a_t_order a_t_times t_thrown t_isKept t_length t_at t_fault t_open t_asked t_byGun t_prizeMost t_listed t_now_l49 H.size v4_49 ((nI 12) + r12) (-1 : Int32) t_now_r14 e15) (cwV 3 hts gX11_adds_X11_put rfl rfl rfl (by decide +kernel) ⟨Nat.le_of_ble_eq_true rfl, Nat.le_of_ble_eq_true rfl⟩) hK hN hZ hP hD hS hA rfl rfl rfl rfl rfl rfl rfl rfl hl.1 rfl (lv_room (Nat.le_of_ble_eq_true rfl)) dX11_adds_69 ⟨Nat.le_of_ble_eq_true rfl, Nat.le_of_ble_eq_true rfl⟩ (fun H locs hP hD hS => ?_)
        have hP : va_P D vwCl [(a_t, .inr (11, [.int t_thrown, .ref a_t_now, .ref a_t_kept, .int t_isKept, .ref a_t_text, .int t_length, .ref a_t_passing, .int t_at, .int t_fault, .int t_open, .int t_asked, .int t_byGun, .int t_prizeMost, .ref a_t_order, .ref a_t_times, .int t_listed])), (a_t_now, .inl (cI, 1562, .inl t_now_r14))] H := hP
        have hD : va_D A [(a_t, .inr (11, [.int t_thrown, .ref a_t_now, .ref a_t_kept, .int t_isKept, .ref a_t_text, .int t_length, .ref a_t_passing, .int t_at, .int t_fault, .int t_open, .int t_asked, .int t_byGun, .int t_prizeMost, .ref a_t_order, .ref a_t_times, .int t_listed])), (a_t_now, .inl (cI, 1562, .inl t_now_r14))] := hD
        refine lv_iinc (v := (v4_49 + (nI 1))) (lv' := [(4, .int (v4_49 + (nI 1))), (3, .int ((nI 8) + ((nI 4) * r1))), (0, .ref a_t), (1, .int x1), (2, .int x2)]) hx hb dX11_adds_72 hl (k := 0) rfl rfl (by decide) rfl (fun ls hl => ?_)
        refine lv_goto (tgt := 49) hx hb dX11_adds_75 (by decide) ?_
        exact ih49 (v4_49 + (nI 1)) t_now_r14 _ _ _ h (hP.sub [0, 1] rfl) (hD.sub [0, 1] rfl rfl) hS (lv_sub hl [0, 1, 2, 3, 4] rfl)
  exact L49 N (nI 0) (upd (upd (upd (upd t_now ((((nI 8) + ((nI 4) * r1)) + (nI 0))).toNatClampNeg x1) ((((nI 8) + ((nI 4) * r1)) + (nI 1))).toNatClampNeg x2) ((((nI 8) + ((nI 4) * r1)) + (nI 2))).toNatClampNeg (nI 0)) ((((nI 8) + ((nI 4) * r1)) + (nI 3))).toNatClampNeg (-1 : Int32)) _ _ _ h hP hD hS hl
/-! RunDeskModel.begin -/
theorem dX11_begin_0 : decode cX11_begin 0 = .ok (.iconst 0, 1) := by decide +kernel
theorem dX11_begin_1 : decode cX11_begin 1 = .ok (.istore_n 2, 1) := by decide +kernel
theorem dX11_begin_2 : decode cX11_begin 2 = .ok (.iload_n 2, 1) := by decide +kernel
theorem dX11_begin_3 : decode cX11_begin 3 = .ok (.sipush 1562, 3) := by decide +kernel
theorem dX11_begin_6 : decode cX11_begin 6 = .ok (.if_icmp .ge 16, 3) := by decide +kernel
theorem dX11_begin_9 : decode cX11_begin 9 = .ok (.aload_n 0, 1) := by decide +kernel
theorem dX11_begin_10 : decode cX11_begin 10 = .ok (.getfield 9, 3) := by decide +kernel
theorem dX11_begin_13 : decode cX11_begin 13 = .ok (.iload_n 2, 1) := by decide +kernel
theorem dX11_begin_14 : decode cX11_begin 14 = .ok (.iconst 0, 1) := by decide +kernel
theorem dX11_begin_15 : decode cX11_begin 15 = .ok (.iastore, 1) := by decide +kernel
theorem dX11_begin_16 : decode cX11_begin 16 = .ok (.iinc 2 1, 3) := by decide +kernel
theorem dX11_begin_19 : decode cX11_begin 19 = .ok (.goto (-17), 3) := by decide +kernel
theorem dX11_begin_22 : decode cX11_begin 22 = .ok (.iconst 0, 1) := by decide +kernel
theorem dX11_begin_23 : decode cX11_begin 23 = .ok (.istore_n 2, 1) := by decide +kernel
theorem dX11_begin_24 : decode cX11_begin 24 = .ok (.iload_n 2, 1) := by decide +kernel
theorem dX11_begin_25 : decode cX11_begin 25 = .ok (.bipush 6, 2) := by decide +kernel
theorem dX11_begin_27 : decode cX11_begin 27 = .ok (.if_icmp .ge 19, 3) := by decide +kernel
theorem dX11_begin_30 : decode cX11_begin 30 = .ok (.aload_n 0, 1) := by decide +kernel
theorem dX11_begin_31 : decode cX11_begin 31 = .ok (.getfield 9, 3) := by decide +kernel
theorem dX11_begin_34 : decode cX11_begin 34 = .ok (.bipush 56, 2) := by decide +kernel
theorem dX11_begin_36 : decode cX11_begin 36 = .ok (.iload_n 2, 1) := by decide +kernel
theorem dX11_begin_37 : decode cX11_begin 37 = .ok (.iadd, 1) := by decide +kernel
theorem dX11_begin_38 : decode cX11_begin 38 = .ok (.iconst (-1), 1) := by decide +kernel
theorem dX11_begin_39 : decode cX11_begin 39 = .ok (.iastore, 1) := by decide +kernel
theorem dX11_begin_40 : decode cX11_begin 40 = .ok (.iinc 2 1, 3) := by decide +kernel
theorem dX11_begin_43 : decode cX11_begin 43 = .ok (.goto (-19), 3) := by decide +kernel
theorem dX11_begin_46 : decode cX11_begin 46 = .ok (.aload_n 0, 1) := by decide +kernel
theorem dX11_begin_47 : decode cX11_begin 47 = .ok (.iconst 0, 1) := by decide +kernel
theorem dX11_begin_48 : decode cX11_begin 48 = .ok (.iload_n 1, 1) := by decide +kernel
theorem dX11_begin_49 : decode cX11_begin 49 = .ok (.invokevirtual 33, 3) := by decide +kernel
theorem dX11_begin_52 : decode cX11_begin 52 = .ok (.return_, 1) := by decide +kernel
set_option maxRecDepth 20000 in
theorem ggX11_begin_X11_adds : GoodIn wsX11_begin wsX11_adds := goodIn_sub (List.forall_mem_cons.mpr ⟨List.mem_cons_of_mem _ (List.mem_append_left _ (List.mem_of_getElem? (i := 5) rfl)), (List.forall_mem_append.mpr ⟨(List.forall_mem_cons.mpr ⟨List.mem_cons_of_mem _ (List.mem_append_left _ (List.mem_of_getElem? (i := 0) rfl)), (List.forall_mem_cons.mpr ⟨List.mem_cons_of_mem _ (List.mem_append_left _ (List.mem_of_getElem? (i := 6) rfl)), (List.forall_mem_cons.mpr ⟨List.mem_cons_of_mem _ (List.mem_append_left _ (List.mem_of_getElem? (i := 7) rfl)), (List.forall_mem_cons.mpr ⟨List.mem_cons_of_mem _ (List.mem_append_left _ (List.mem_of_getElem? (i := 8) rfl)), (List.forall_mem_cons.mpr ⟨List.mem_cons_of_mem _ (List.mem_append_left _ (List.mem_of_getElem? (i := 4) rfl)), (List.forall_mem_cons.mpr ⟨List.mem_cons_of_mem _ (List.mem_append_left _ (List.mem_of_getElem? (i := 9) rfl)), (List.forall_mem_cons.mpr ⟨List.mem_cons_of_mem _ (List.mem_append_left _ (List.mem_of_getElem? (i := 10) rfl)), (List.forall_mem_cons.mpr ⟨List.mem_cons_of_mem _ (List.mem_append_left _ (List.mem_of_getElem? (i := 11) rfl)), (List.forall_mem_cons.mpr ⟨List.mem_cons_of_mem _ (List.mem_append_left _ (List.mem_of_getElem? (i := 12) rfl)), (List.forall_mem_cons.mpr ⟨List.mem_cons_of_mem _ (List.mem_append_left _ (List.mem_of_getElem? (i := 13) rfl)), (List.forall_mem_cons.mpr ⟨List.mem_cons_of_mem _ (List.mem_append_left _ (List.mem_of_getElem? (i := 14) rfl)), (List.forall_mem_cons.mpr ⟨List.mem_cons_of_mem _ (List.mem_append_left _ (List.mem_of_getElem? (i := 15) rfl)), (List.forall_mem_cons.mpr ⟨List.mem_cons_of_mem _ (List.mem_append_left _ (List.mem_of_getElem? (i := 16) rfl)), (List.forall_mem_cons.mpr ⟨List.mem_cons_of_mem _ (List.mem_append_left _ (List.mem_of_getElem? (i := 17) rfl)), (fun _ h => nomatch h)⟩)⟩)⟩)⟩)⟩)⟩)⟩)⟩)⟩)⟩)⟩)⟩)⟩)⟩), (fun _ h => List.mem_cons_of_mem _ (List.mem_append_right _ (h)))⟩)⟩) (by decide +kernel)
set_option maxRecDepth 20000 in
theorem gX11_begin_X11_adds : GoodIn wsX11_begin (wsV RX11 33 RX11 yX11_adds wsX11_adds) := goodIn_app (goodIn_of _ (by decide +kernel)) ggX11_begin_X11_adds
theorem kX11_begin_0 : (.fieldLink RX11 9 "RunDeskModel" "now" "[I" : Cond) ∈ wsX11_begin := List.mem_of_getElem? (i := 1) (by decide +kernel)
theorem qX11_begin_X11 : ∀ w ∈ wsX110, w ∈ wsX11_begin := fun _ h => List.mem_cons_of_mem _ (List.mem_append_right _ (h))
set_option maxHeartbeats 4000000 in
set_option maxRecDepth 100000 in
theorem mX11_begin (l : Launch) (D : va_G) (cB cI cZ : ClassId) (a_t : Nat) (a_t_now : Nat) (a_t_kept : Nat) (a_t_text : Nat) (a_t_passing : Nat) (a_t_order : Nat) (a_t_times : Nat) (t_thrown : Int32) (t_isKept : Int32) (t_length : Int32) (t_at : Int32) (t_fault : Int32) (t_open : Int32) (t_asked : Int32) (t_byGun : Int32) (t_prizeMost : Int32) (t_listed : Int32) (t_now : Nat → Int32) (sz : Nat) (x1 : Int32) (N : Nat) (t_now' : Nat → Int32) (h : fX11_begin N t_now x1 = some (t_now')) : Met l yX11_begin wsX11_begin ({ frames := 2, cells := 0, slots := 0, locals := 47 } : Room) (va_Pc [.ref a_t, .int x1] (zPre D (zT cB cI cZ) [(a_t, .inr (11, [.int t_thrown, .ref a_t_now, .ref a_t_kept, .int t_isKept, .ref a_t_text, .int t_length, .ref a_t_passing, .int t_at, .int t_fault, .int t_open, .int t_asked, .int t_byGun, .int t_prizeMost, .ref a_t_order, .ref a_t_times, .int t_listed])), (a_t_now, .inl (cI, 1562, .inl t_now))] sz)) (zQv D (zT cB cI cZ) [(a_t, .inr (11, [.int t_thrown, .ref a_t_now, .ref a_t_kept, .int t_isKept, .ref a_t_text, .int t_length, .ref a_t_passing, .int t_at, .int t_fault, .int t_open, .int t_asked, .int t_byGun, .int t_prizeMost, .ref a_t_order, .ref a_t_times, .int t_listed])), (a_t_now, .inl (cI, 1562, .inl t_now'))] (va_A [(a_t, .inr (11, [.int t_thrown, .ref a_t_now, .ref a_t_kept, .int t_isKept, .ref a_t_text, .int t_length, .ref a_t_passing, .int t_at, .int t_fault, .int t_open, .int t_asked, .int t_byGun, .int t_prizeMost, .ref a_t_order, .ref a_t_times, .int t_listed])), (a_t_now, .inl (cI, 1562, .inl t_now))] sz)) 0 0 (va_A [(a_t, .inr (11, [.int t_thrown, .ref a_t_now, .ref a_t_kept, .int t_isKept, .ref a_t_text, .int t_length, .ref a_t_passing, .int t_at, .int t_fault, .int t_open, .int t_asked, .int t_byGun, .int t_prizeMost, .ref a_t_order, .ref a_t_times, .int t_listed])), (a_t_now, .inl (cI, 1562, .inl t_now))] sz) := by
  refine Met.ofW (cc := cX11_begin) (maxL := 3) (ret := none) (by decide) rfl ?_
  intro p e s m args below meth c s₁ B hml hv
  obtain ⟨rfl, hsz, hP, hK, hN, hZ, hD0⟩ := hv
  have hx := B.exec
  have hb := B.bytes
  have hr := B.returns
  have hts := atoms_spec (ws := wsX11_begin) B.pre
  have hown : s.vm.findClass RX11 = some m.cls := findClass_of_methodNamed B.named
  have hlocks := B.notSynchronized
  subst hsz
  have hD := hD0.self (sz := s.heap.size)
  generalize hAe : va_A [(a_t, .inr (11, [.int t_thrown, .ref a_t_now, .ref a_t_kept, .int t_isKept, .ref a_t_text, .int t_length, .ref a_t_passing, .int t_at, .int t_fault, .int t_open, .int t_asked, .int t_byGun, .int t_prizeMost, .ref a_t_order, .ref a_t_times, .int t_listed])), (a_t_now, .inl (cI, 1562, .inl t_now))] s.heap.size = A at hD hZ ⊢
  have hA : ∀ q : Nat, s.heap.size ≤ q → A q := fun q h => by rw [← hAe]; exact Or.inr h
  have hS : va_S A s.heap s.heap [] := va_S.rf
  have hl := lv_entry ([.ref a_t, .int x1]) (n := 3) (Nat.le_of_ble_eq_true rfl)
  rw [lg_entry_eq]
  generalize (lg_sl ([.ref a_t, .int x1]) ++ List.replicate (3 - (lg_sl ([.ref a_t, .int x1])).length) Slot.unset).toArray = ls at hl ⊢
  have hl : lv_has ls 3 [(0, .ref a_t), (1, .int x1)] := hl
  unfold fX11_begin at h
  refine lv_iconst (v := (nI 0)) hx hb dX11_begin_0 rfl ?_
  refine lv_istore_n (lv' := [(2, .int (nI 0)), (0, .ref a_t), (1, .int x1)]) hx hb dX11_begin_1 rfl hl (by decide) rfl (fun ls hl => ?_)
  have X2_22 : ∀ (v2_2 : Int32) (t_now_l2 : Nat → Int32) (H : Heap) (locs : List Loc) (ls : Array Slot), fX11_begin_L24 (fun (v2_24 : Int32) (t_now_l24 : Nat → Int32) => ((fX11_adds N t_now_l24 (nI 0) x1).bind (fun t_now_r1 => some (t_now_r1)))) N (nI 0) t_now_l2 = some (t_now') → va_P D vwCl [(a_t, .inr (11, [.int t_thrown, .ref a_t_now, .ref a_t_kept, .int t_isKept, .ref a_t_text, .int t_length, .ref a_t_passing, .int t_at, .int t_fault, .int t_open, .int t_asked, .int t_byGun, .int t_prizeMost, .ref a_t_order, .ref a_t_times, .int t_listed])), (a_t_now, .inl (cI, 1562, .inl t_now_l2))] H → va_D A [(a_t, .inr (11, [.int t_thrown, .ref a_t_now, .ref a_t_kept, .int t_isKept, .ref a_t_text, .int t_length, .ref a_t_passing, .int t_at, .int t_fault, .int t_open, .int t_asked, .int t_byGun, .int t_prizeMost, .ref a_t_order, .ref a_t_times, .int t_listed])), (a_t_now, .inl (cI, 1562, .inl t_now_l2))] → va_S A s.heap H locs → lv_has ls 3 [(2, .int v2_2), (0, .ref a_t), (1, .int x1)] → W p l e (headSpec wsX11_begin ({ frames := 2, cells := 0, slots := 0, locals := 47 } : Room)).room s m #[Value.ref a_t, Value.int x1] below meth c H locs 0 0 (MQ below (zQv D (zT cB cI cZ) [(a_t, .inr (11, [.int t_thrown, .ref a_t_now, .ref a_t_kept, .int t_isKept, .ref a_t_text, .int t_length, .ref a_t_passing, .int t_at, .int t_fault, .int t_open, .int t_asked, .int t_byGun, .int t_prizeMost, .ref a_t_order, .ref a_t_times, .int t_listed])), (a_t_now, .inl (cI, 1562, .inl t_now'))] A) #[Value.ref a_t, Value.int x1] s 0 0 A) (F0 m 22 ls []) := by
    intro v2_2 t_now_l2 H locs ls h hP hD hS hl
    refine lv_iconst (v := (nI 0)) hx hb dX11_begin_22 rfl ?_
    refine lv_istore_n (lv' := [(2, .int (nI 0)), (0, .ref a_t), (1, .int x1)]) hx hb dX11_begin_23 rfl hl (by decide) rfl (fun ls hl => ?_)
    have X24_46 : ∀ (v2_24 : Int32) (t_now_l24 : Nat → Int32) (H : Heap) (locs : List Loc) (ls : Array Slot), ((fX11_adds N t_now_l24 (nI 0) x1).bind (fun t_now_r1 => some (t_now_r1))) = some (t_now') → va_P D vwCl [(a_t, .inr (11, [.int t_thrown, .ref a_t_now, .ref a_t_kept, .int t_isKept, .ref a_t_text, .int t_length, .ref a_t_passing, .int t_at, .int t_fault, .int t_open, .int t_asked, .int t_byGun, .int t_prizeMost, .ref a_t_order, .ref a_t_times, .int t_listed])), (a_t_now, .inl (cI, 1562, .inl t_now_l24))] H → va_D A [(a_t, .inr (11, [.int t_thrown, .ref a_t_now, .ref a_t_kept, .int t_isKept, .ref a_t_text, .int t_length, .ref a_t_passing, .int t_at, .int t_fault, .int t_open, .int t_asked, .int t_byGun, .int t_prizeMost, .ref a_t_order, .ref a_t_times, .int t_listed])), (a_t_now, .inl (cI, 1562, .inl t_now_l24))] → va_S A s.heap H locs → lv_has ls 3 [(2, .int v2_24), (0, .ref a_t), (1, .int x1)] → W p l e (headSpec wsX11_begin ({ frames := 2, cells := 0, slots := 0, locals := 47 } : Room)).room s m #[Value.ref a_t, Value.int x1] below meth c H locs 0 0 (MQ below (zQv D (zT cB cI cZ) [(a_t, .inr (11, [.int t_thrown, .ref a_t_now, .ref a_t_kept, .int t_isKept, .ref a_t_text, .int t_length, .ref a_t_passing, .int t_at, .int t_fault, .int t_open, .int t_asked, .int t_byGun, .int t_prizeMost, .ref a_t_order, .ref a_t_times, .int t_listed])), (a_t_now, .inl (cI, 1562, .inl t_now'))] A) #[Value.ref a_t, Value.int x1] s 0 0 A) (F0 m 46 ls []) := by
      intro v2_24 t_now_l24 H locs ls h hP hD hS hl
      refine lv_aload_n hx hb dX11_begin_46 rfl (lv_at hl 1 rfl) ?_
      refine lv_iconst (v := (nI 0)) hx hb dX11_begin_47 rfl ?_
      refine lv_iload_n hx hb dX11_begin_48 rfl (lv_at hl 2 rfl) ?_
      obtain ⟨t_now_r1, e2, h⟩ := zz_b h
      refine zVv (As := [.int (nI 0), .int x1]) (rest := []) (C := RX11) (wr := []) [0, 1] [] 0 ⟨hx, hb, hml, hown, hts⟩ (mX11_adds l D cB cI cZ a_t a_t_now a_t_kept a_t_text a_t_passing a_t_order a_t_times t_thrown t_isKept t_length t_at t_fault t_open t_asked t_byGun t_prizeMost t_listed t_now_l24 H.size (nI 0) x1 N t_now_r1 e2) (cwV 2 hts gX11_begin_X11_adds rfl rfl rfl (by decide +kernel) ⟨Nat.le_of_ble_eq_true rfl, Nat.le_of_ble_eq_true rfl⟩) hK hN hZ hP hD hS hA rfl rfl rfl rfl rfl rfl rfl rfl hl.1 rfl (lv_room (Nat.le_of_ble_eq_true rfl)) dX11_begin_49 ⟨Nat.le_of_ble_eq_true rfl, Nat.le_of_ble_eq_true rfl⟩ (fun H locs hP hD hS => ?_)
      have hP : va_P D vwCl [(a_t, .inr (11, [.int t_thrown, .ref a_t_now, .ref a_t_kept, .int t_isKept, .ref a_t_text, .int t_length, .ref a_t_passing, .int t_at, .int t_fault, .int t_open, .int t_asked, .int t_byGun, .int t_prizeMost, .ref a_t_order, .ref a_t_times, .int t_listed])), (a_t_now, .inl (cI, 1562, .inl t_now_r1))] H := hP
      have hD : va_D A [(a_t, .inr (11, [.int t_thrown, .ref a_t_now, .ref a_t_kept, .int t_isKept, .ref a_t_text, .int t_length, .ref a_t_passing, .int t_at, .int t_fault, .int t_open, .int t_asked, .int t_byGun, .int t_prizeMost, .ref a_t_order, .ref a_t_times, .int t_listed])), (a_t_now, .inl (cI, 1562, .inl t_now_r1))] := hD
      have j0_ := Option.some.inj h
      subst j0_
      exact W.vret hx hb hr (fun t ht hW => ⟨⟨(), rfl, trivial, zPost.of hP hD hK ht hW [0, 1] rfl rfl rfl⟩, hS.F ht⟩) hS.2.2 dX11_begin_52
    have L24 : ∀ (n : Nat) (v2_24 : Int32) (t_now_l24 : Nat → Int32) (H : Heap) (locs : List Loc) (ls : Array Slot), fX11_begin_L24 (fun (v2_24 : Int32) (t_now_l24 : Nat → Int32) => ((fX11_adds N t_now_l24 (nI 0) x1).bind (fun t_now_r1 => some (t_now_r1)))) n v2_24 t_now_l24 = some (t_now') → va_P D vwCl [(a_t, .inr (11, [.int t_thrown, .ref a_t_now, .ref a_t_kept, .int t_isKept, .ref a_t_text, .int t_length, .ref a_t_passing, .int t_at, .int t_fault, .int t_open, .int t_asked, .int t_byGun, .int t_prizeMost, .ref a_t_order, .ref a_t_times, .int t_listed])), (a_t_now, .inl (cI, 1562, .inl t_now_l24))] H → va_D A [(a_t, .inr (11, [.int t_thrown, .ref a_t_now, .ref a_t_kept, .int t_isKept, .ref a_t_text, .int t_length, .ref a_t_passing, .int t_at, .int t_fault, .int t_open, .int t_asked, .int t_byGun, .int t_prizeMost, .ref a_t_order, .ref a_t_times, .int t_listed])), (a_t_now, .inl (cI, 1562, .inl t_now_l24))] → va_S A s.heap H locs → lv_has ls 3 [(2, .int v2_24), (0, .ref a_t), (1, .int x1)] → W p l e (headSpec wsX11_begin ({ frames := 2, cells := 0, slots := 0, locals := 47 } : Room)).room s m #[Value.ref a_t, Value.int x1] below meth c H locs 0 0 (MQ below (zQv D (zT cB cI cZ) [(a_t, .inr (11, [.int t_thrown, .ref a_t_now, .ref a_t_kept, .int t_isKept, .ref a_t_text, .int t_length, .ref a_t_passing, .int t_at, .int t_fault, .int t_open, .int t_asked, .int t_byGun, .int t_prizeMost, .ref a_t_order, .ref a_t_times, .int t_listed])), (a_t_now, .inl (cI, 1562, .inl t_now'))] A) #[Value.ref a_t, Value.int x1] s 0 0 A) (F0 m 24 ls []) := by
      intro n
      induction n with
      | zero => intro _ _ H locs ls h hP hD hS hl; cases h
      | succ n24 ih24 =>
        intro v2_24 t_now_l24 H locs ls h hP hD hS hl
        rw [fX11_begin_L24.eq_2] at h
        refine lv_iload_n hx hb dX11_begin_24 rfl (lv_at hl 0 rfl) ?_
        refine lv_bipush (v := (nI 6)) hx hb dX11_begin_25 rfl ?_
        refine lv_icmp_ge (tgt := 46) hx hb dX11_begin_27 (by decide) (fun c3 => ?_) (fun c3 => ?_)
        · have h := zz_t h c3
          exact X24_46 v2_24 t_now_l24 _ _ _ h (hP.sub [0, 1] rfl) (hD.sub [0, 1] rfl rfl) hS (lv_sub hl [0, 1, 2] rfl)
        · have h := zz_f h c3
          refine lv_aload_n hx hb dX11_begin_30 rfl (lv_at hl 1 rfl) ?_
          refine va_get (D := D) (ci := 11) (C := RX11) (T := TX11) (N := 16) hx hb hts qX11_begin_X11 hown hK hP 0 rfl rfl 1 (by decide) (hts _ kX11_begin_0) (fun _ h9 => h9) rfl dX11_begin_31 ?_
          refine lv_bipush (v := (nI 56)) hx hb dX11_begin_34 rfl ?_
          refine lv_iload_n hx hb dX11_begin_36 rfl (lv_at hl 0 rfl) ?_
          refine lv_iadd hx hb dX11_begin_37 ?_
          refine lv_iconst (v := (-1 : Int32)) hx hb dX11_begin_38 rfl ?_
          obtain ⟨i4, h⟩ := zz_i h
          refine va_iast hx hb hK hP hD hS 1 1 rfl rfl i4 dX11_begin_39 (fun H locs hP hD hS => ?_)
          have hP : va_P D vwCl [(a_t, .inr (11, [.int t_thrown, .ref a_t_now, .ref a_t_kept, .int t_isKept, .ref a_t_text, .int t_length, .ref a_t_passing, .int t_at, .int t_fault, .int t_open, .int t_asked, .int t_byGun, .int t_prizeMost, .ref a_t_order, .ref a_t_times, .int t_listed])), (a_t_now, .inl (cI, 1562, .inl (upd t_now_l24 (((nI 56) + v2_24)).toNatClampNeg (-1 : Int32))))] H := hP
          have hD : va_D A [(a_t, .inr (11, [.int t_thrown, .ref a_t_now, .ref a_t_kept, .int t_isKept, .ref a_t_text, .int t_length, .ref a_t_passing, .int t_at, .int t_fault, .int t_open, .int t_asked, .int t_byGun, .int t_prizeMost, .ref a_t_order, .ref a_t_times, .int t_listed])), (a_t_now, .inl (cI, 1562, .inl (upd t_now_l24 (((nI 56) + v2_24)).toNatClampNeg (-1 : Int32))))] := hD
          refine lv_iinc (v := (v2_24 + (nI 1))) (lv' := [(2, .int (v2_24 + (nI 1))), (0, .ref a_t), (1, .int x1)]) hx hb dX11_begin_40 hl (k := 0) rfl rfl (by decide) rfl (fun ls hl => ?_)
          refine lv_goto (tgt := 24) hx hb dX11_begin_43 (by decide) ?_
          exact ih24 (v2_24 + (nI 1)) (upd t_now_l24 (((nI 56) + v2_24)).toNatClampNeg (-1 : Int32)) _ _ _ h (hP.sub [0, 1] rfl) (hD.sub [0, 1] rfl rfl) hS (lv_sub hl [0, 1, 2] rfl)
    exact L24 N (nI 0) t_now_l2 _ _ _ h hP hD hS hl
  have L2 : ∀ (n : Nat) (v2_2 : Int32) (t_now_l2 : Nat → Int32) (H : Heap) (locs : List Loc) (ls : Array Slot), fX11_begin_L2 (fun (v2_2 : Int32) (t_now_l2 : Nat → Int32) => fX11_begin_L24 (fun (v2_24 : Int32) (t_now_l24 : Nat → Int32) => ((fX11_adds N t_now_l24 (nI 0) x1).bind (fun t_now_r1 => some (t_now_r1)))) N (nI 0) t_now_l2) n v2_2 t_now_l2 = some (t_now') → va_P D vwCl [(a_t, .inr (11, [.int t_thrown, .ref a_t_now, .ref a_t_kept, .int t_isKept, .ref a_t_text, .int t_length, .ref a_t_passing, .int t_at, .int t_fault, .int t_open, .int t_asked, .int t_byGun, .int t_prizeMost, .ref a_t_order, .ref a_t_times, .int t_listed])), (a_t_now, .inl (cI, 1562, .inl t_now_l2))] H → va_D A [(a_t, .inr (11, [.int t_thrown, .ref a_t_now, .ref a_t_kept, .int t_isKept, .ref a_t_text, .int t_length, .ref a_t_passing, .int t_at, .int t_fault, .int t_open, .int t_asked, .int t_byGun, .int t_prizeMost, .ref a_t_order, .ref a_t_times, .int t_listed])), (a_t_now, .inl (cI, 1562, .inl t_now_l2))] → va_S A s.heap H locs → lv_has ls 3 [(2, .int v2_2), (0, .ref a_t), (1, .int x1)] → W p l e (headSpec wsX11_begin ({ frames := 2, cells := 0, slots := 0, locals := 47 } : Room)).room s m #[Value.ref a_t, Value.int x1] below meth c H locs 0 0 (MQ below (zQv D (zT cB cI cZ) [(a_t, .inr (11, [.int t_thrown, .ref a_t_now, .ref a_t_kept, .int t_isKept, .ref a_t_text, .int t_length, .ref a_t_passing, .int t_at, .int t_fault, .int t_open, .int t_asked, .int t_byGun, .int t_prizeMost, .ref a_t_order, .ref a_t_times, .int t_listed])), (a_t_now, .inl (cI, 1562, .inl t_now'))] A) #[Value.ref a_t, Value.int x1] s 0 0 A) (F0 m 2 ls []) := by
    intro n
    induction n with
    | zero => intro _ _ H locs ls h hP hD hS hl; cases h
    | succ n2 ih2 =>
      intro v2_2 t_now_l2 H locs ls h hP hD hS hl
      rw [fX11_begin_L2.eq_2] at h
      refine lv_iload_n hx hb dX11_begin_2 rfl (lv_at hl 0 rfl) ?_
      refine lv_sipush (v := (nI 1562)) hx hb dX11_begin_3 rfl ?_
      refine lv_icmp_ge (tgt := 22) hx hb dX11_begin_6 (by decide) (fun c5 => ?_) (fun c5 => ?_)
      · have h := zz_t h c5
        exact X2_22 v2_2 t_now_l2 _ _ _ h (hP.sub [0, 1] rfl) (hD.sub [0, 1] rfl rfl) hS (lv_sub hl [0, 1, 2] rfl)
      · have h := zz_f h c5
        refine lv_aload_n hx hb dX11_begin_9 rfl (lv_at hl 1 rfl) ?_
        refine va_get (D := D) (ci := 11) (C := RX11) (T := TX11) (N := 16) hx hb hts qX11_begin_X11 hown hK hP 0 rfl rfl 1 (by decide) (hts _ kX11_begin_0) (fun _ h9 => h9) rfl dX11_begin_10 ?_
        refine lv_iload_n hx hb dX11_begin_13 rfl (lv_at hl 0 rfl) ?_
        refine lv_iconst (v := (nI 0)) hx hb dX11_begin_14 rfl ?_
        obtain ⟨i6, h⟩ := zz_i h
        refine va_iast hx hb hK hP hD hS 1 1 rfl rfl i6 dX11_begin_15 (fun H locs hP hD hS => ?_)
        have hP : va_P D vwCl [(a_t, .inr (11, [.int t_thrown, .ref a_t_now, .ref a_t_kept, .int t_isKept, .ref a_t_text, .int t_length, .ref a_t_passing, .int t_at, .int t_fault, .int t_open, .int t_asked, .int t_byGun, .int t_prizeMost, .ref a_t_order, .ref a_t_times, .int t_listed])), (a_t_now, .inl (cI, 1562, .inl (upd t_now_l2 (v2_2).toNatClampNeg (nI 0))))] H := hP
        have hD : va_D A [(a_t, .inr (11, [.int t_thrown, .ref a_t_now, .ref a_t_kept, .int t_isKept, .ref a_t_text, .int t_length, .ref a_t_passing, .int t_at, .int t_fault, .int t_open, .int t_asked, .int t_byGun, .int t_prizeMost, .ref a_t_order, .ref a_t_times, .int t_listed])), (a_t_now, .inl (cI, 1562, .inl (upd t_now_l2 (v2_2).toNatClampNeg (nI 0))))] := hD
        refine lv_iinc (v := (v2_2 + (nI 1))) (lv' := [(2, .int (v2_2 + (nI 1))), (0, .ref a_t), (1, .int x1)]) hx hb dX11_begin_16 hl (k := 0) rfl rfl (by decide) rfl (fun ls hl => ?_)
        refine lv_goto (tgt := 2) hx hb dX11_begin_19 (by decide) ?_
        exact ih2 (v2_2 + (nI 1)) (upd t_now_l2 (v2_2).toNatClampNeg (nI 0)) _ _ _ h (hP.sub [0, 1] rfl) (hD.sub [0, 1] rfl rfl) hS (lv_sub hl [0, 1, 2] rfl)
  exact L2 N (nI 0) t_now _ _ _ h hP hD hS hl
/-! RunDeskModel.way -/
theorem dX11_way_0 : decode cX11_way 0 = .ok (.aload_n 0, 1) := by decide +kernel
theorem dX11_way_1 : decode cX11_way 1 = .ok (.iconst 0, 1) := by decide +kernel
theorem dX11_way_2 : decode cX11_way 2 = .ok (.putfield 37, 3) := by decide +kernel
theorem dX11_way_5 : decode cX11_way 5 = .ok (.iload_n 1, 1) := by decide +kernel
theorem dX11_way_6 : decode cX11_way 6 = .ok (.iconst 1, 1) := by decide +kernel
theorem dX11_way_7 : decode cX11_way 7 = .ok (.sipush 1000, 3) := by decide +kernel
theorem dX11_way_10 : decode cX11_way 10 = .ok (.invokestatic 52, 3) := by decide +kernel
theorem dX11_way_13 : decode cX11_way 13 = .ok (.ifCond .ne 5, 3) := by decide +kernel
theorem dX11_way_16 : decode cX11_way 16 = .ok (.iconst 0, 1) := by decide +kernel
theorem dX11_way_17 : decode cX11_way 17 = .ok (.ireturn, 1) := by decide +kernel
theorem dX11_way_18 : decode cX11_way 18 = .ok (.aload_n 0, 1) := by decide +kernel
theorem dX11_way_19 : decode cX11_way 19 = .ok (.iload_n 1, 1) := by decide +kernel
theorem dX11_way_20 : decode cX11_way 20 = .ok (.invokevirtual 29, 3) := by decide +kernel
theorem dX11_way_23 : decode cX11_way 23 = .ok (.iconst 1, 1) := by decide +kernel
theorem dX11_way_24 : decode cX11_way 24 = .ok (.ireturn, 1) := by decide +kernel
set_option maxRecDepth 20000 in
theorem ggX11_way_X11_isIn : GoodIn wsX11_way wsX11_isIn := goodIn_sub (List.forall_mem_cons.mpr ⟨List.mem_cons_of_mem _ (List.mem_append_left _ (List.mem_append_left _ (List.mem_of_getElem? (l := wsX11_way_r1) (i := 4) rfl))), (fun _ h => nomatch h)⟩) (by decide +kernel)
set_option maxRecDepth 20000 in
theorem gX11_way_X11_isIn : GoodIn wsX11_way (va_wsS RX11 52 yX11_isIn wsX11_isIn) := goodIn_app (goodIn_of _ (by decide +kernel)) ggX11_way_X11_isIn
set_option maxRecDepth 20000 in
theorem ggX11_way_X11_begin : GoodIn wsX11_way wsX11_begin := goodIn_sub (List.forall_mem_cons.mpr ⟨List.mem_cons_of_mem _ (List.mem_append_left _ (List.mem_append_left _ (List.mem_of_getElem? (l := wsX11_way_r1) (i := 8) rfl))), (List.forall_mem_append.mpr ⟨(List.forall_mem_cons.mpr ⟨List.mem_cons_of_mem _ (List.mem_append_left _ (List.mem_append_left _ (List.mem_of_getElem? (l := wsX11_way_r1) (i := 9) rfl))), (List.forall_mem_cons.mpr ⟨List.mem_cons_of_mem _ (List.mem_append_left _ (List.mem_append_left _ (List.mem_of_getElem? (l := wsX11_way_r1) (i := 10) rfl))), (List.forall_mem_cons.mpr ⟨List.mem_cons_of_mem _ (List.mem_append_left _ (List.mem_append_left _ (List.mem_of_getElem? (l := wsX11_way_r1) (i := 11) rfl))), (List.forall_mem_cons.mpr ⟨List.mem_cons_of_mem _ (List.mem_append_left _ (List.mem_append_left _ (List.mem_of_getElem? (l := wsX11_way_r1) (i := 12) rfl))), (List.forall_mem_cons.mpr ⟨List.mem_cons_of_mem _ (List.mem_append_left _ (List.mem_append_left _ (List.mem_of_getElem? (l := wsX11_way_r1) (i := 3) rfl))), (List.forall_mem_cons.mpr ⟨List.mem_cons_of_mem _ (List.mem_append_left _ (List.mem_append_left _ (List.mem_of_getElem? (l := wsX11_way_r1) (i := 13) rfl))), (List.forall_mem_cons.mpr ⟨List.mem_cons_of_mem _ (List.mem_append_left _ (List.mem_append_left _ (List.mem_of_getElem? (l := wsX11_way_r1) (i := 14) rfl))), (List.forall_mem_cons.mpr ⟨List.mem_cons_of_mem _ (List.mem_append_left _ (List.mem_append_left _ (List.mem_of_getElem? (l := wsX11_way_r1) (i := 15) rfl))), (List.forall_mem_cons.mpr ⟨List.mem_cons_of_mem _ (List.mem_append_left _ (List.mem_append_left _ (List.mem_of_getElem? (l := wsX11_way_r1) (i := 16) rfl))), (List.forall_mem_cons.mpr ⟨List.mem_cons_of_mem _ (List.mem_append_left _ (List.mem_append_left _ (List.mem_of_getElem? (l := wsX11_way_r1) (i := 17) rfl))), (List.forall_mem_cons.mpr ⟨List.mem_cons_of_mem _ (List.mem_append_left _ (List.mem_append_left _ (List.mem_of_getElem? (l := wsX11_way_r1) (i := 18) rfl))), (List.forall_mem_cons.mpr ⟨List.mem_cons_of_mem _ (List.mem_append_left _ (List.mem_append_left _ (List.mem_of_getElem? (l := wsX11_way_r1) (i := 19) rfl))), (List.forall_mem_cons.mpr ⟨List.mem_cons_of_mem _ (List.mem_append_left _ (List.mem_append_left _ (List.mem_of_getElem? (l := wsX11_way_r1) (i := 20) rfl))), (List.forall_mem_cons.mpr ⟨List.mem_cons_of_mem _ (List.mem_append_left _ (List.mem_append_left _ (List.mem_of_getElem? (l := wsX11_way_r1) (i := 21) rfl))), (List.forall_mem_cons.mpr ⟨List.mem_cons_of_mem _ (List.mem_append_left _ (List.mem_append_left _ (List.mem_of_getElem? (l := wsX11_way_r1) (i := 22) rfl))), (List.forall_mem_cons.mpr ⟨List.mem_cons_of_mem _ (List.mem_append_left _ (List.mem_append_left _ (List.mem_of_getElem? (l := wsX11_way_r1) (i := 23) rfl))), (List.forall_mem_cons.mpr ⟨List.mem_cons_of_mem _ (List.mem_append_left _ (List.mem_append_right _ (List.mem_of_getElem? (l := wsX11_way_r2) (i := 0) rfl))), (List.forall_mem_cons.mpr ⟨List.mem_cons_of_mem _ (List.mem_append_left _ (List.mem_append_right _ (List.mem_of_getElem? (l := wsX11_way_r2) (i := 1) rfl))), (fun _ h => nomatch h)⟩)⟩)⟩)⟩)⟩)⟩)⟩)⟩)⟩)⟩)⟩)⟩)⟩)⟩)⟩)⟩)⟩)⟩), (fun _ h => List.mem_cons_of_mem _ (List.mem_append_right _ (h)))⟩)⟩) (by decide +kernel)
set_option maxRecDepth 20000 in
theorem gX11_way_X11_begin : GoodIn wsX11_way (wsV RX11 29 RX11 yX11_begin wsX11_begin) := goodIn_app (goodIn_of _ (by decide +kernel)) ggX11_way_X11_begin
theorem kX11_way_0 : (.fieldLink RX11 37 "RunDeskModel" "thrown" "I" : Cond) ∈ wsX11_way := List.mem_of_getElem? (i := 1) (by decide +kernel)
theorem qX11_way_X11 : ∀ w ∈ wsX110, w ∈ wsX11_way := fun _ h => List.mem_cons_of_mem _ (List.mem_append_right _ (h))
set_option maxHeartbeats 4000000 in
set_option maxRecDepth 100000 in
theorem mX11_way (l : Launch) (D : va_G) (cB cI cZ : ClassId) (a_t : Nat) (a_t_now : Nat) (a_t_kept : Nat) (a_t_text : Nat) (a_t_passing : Nat) (a_t_order : Nat) (a_t_times : Nat) (t_thrown : Int32) (t_isKept : Int32) (t_length : Int32) (t_at : Int32) (t_fault : Int32) (t_open : Int32) (t_asked : Int32) (t_byGun : Int32) (t_prizeMost : Int32) (t_listed : Int32) (t_now : Nat → Int32) (sz : Nat) (x1 : Int32) (N : Nat) (b0 : Bool) (t_thrown' : Int32) (t_now' : Nat → Int32) (h : fX11_way N t_thrown t_now x1 = some (b0, t_thrown', t_now')) : Met l yX11_way wsX11_way ({ frames := 3, cells := 0, slots := 0, locals := 69 } : Room) (va_Pc [.ref a_t, .int x1] (zPre D (zT cB cI cZ) [(a_t, .inr (11, [.int t_thrown, .ref a_t_now, .ref a_t_kept, .int t_isKept, .ref a_t_text, .int t_length, .ref a_t_passing, .int t_at, .int t_fault, .int t_open, .int t_asked, .int t_byGun, .int t_prizeMost, .ref a_t_order, .ref a_t_times, .int t_listed])), (a_t_now, .inl (cI, 1562, .inl t_now))] sz)) (zQi (zb b0) D (zT cB cI cZ) [(a_t, .inr (11, [.int t_thrown', .ref a_t_now, .ref a_t_kept, .int t_isKept, .ref a_t_text, .int t_length, .ref a_t_passing, .int t_at, .int t_fault, .int t_open, .int t_asked, .int t_byGun, .int t_prizeMost, .ref a_t_order, .ref a_t_times, .int t_listed])), (a_t_now, .inl (cI, 1562, .inl t_now'))] (va_A [(a_t, .inr (11, [.int t_thrown, .ref a_t_now, .ref a_t_kept, .int t_isKept, .ref a_t_text, .int t_length, .ref a_t_passing, .int t_at, .int t_fault, .int t_open, .int t_asked, .int t_byGun, .int t_prizeMost, .ref a_t_order, .ref a_t_times, .int t_listed])), (a_t_now, .inl (cI, 1562, .inl t_now))] sz)) 0 0 (va_A [(a_t, .inr (11, [.int t_thrown, .ref a_t_now, .ref a_t_kept, .int t_isKept, .ref a_t_text, .int t_length, .ref a_t_passing, .int t_at, .int t_fault, .int t_open, .int t_asked, .int t_byGun, .int t_prizeMost, .ref a_t_order, .ref a_t_times, .int t_listed])), (a_t_now, .inl (cI, 1562, .inl t_now))] sz) := by
  refine Met.ofW (cc := cX11_way) (maxL := 2) (ret := (some .boolean)) (by decide) rfl ?_
  intro p e s m args below meth c s₁ B hml hv
  obtain ⟨rfl, hsz, hP, hK, hN, hZ, hD0⟩ := hv
  have hx := B.exec
  have hb := B.bytes
  have hr := B.returns
  have hts := atoms_spec (ws := wsX11_way) B.pre
  have hown : s.vm.findClass RX11 = some m.cls := findClass_of_methodNamed B.named
  have hlocks := B.notSynchronized
  subst hsz
  have hD := hD0.self (sz := s.heap.size)
  generalize hAe : va_A [(a_t, .inr (11, [.int t_thrown, .ref a_t_now, .ref a_t_kept, .int t_isKept, .ref a_t_text, .int t_length, .ref a_t_passing, .int t_at, .int t_fault, .int t_open, .int t_asked, .int t_byGun, .int t_prizeMost, .ref a_t_order, .ref a_t_times, .int t_listed])), (a_t_now, .inl (cI, 1562, .inl t_now))] s.heap.size = A at hD hZ ⊢
  have hA : ∀ q : Nat, s.heap.size ≤ q → A q := fun q h => by rw [← hAe]; exact Or.inr h
  have hS : va_S A s.heap s.heap [] := va_S.rf
  have hl := lv_entry ([.ref a_t, .int x1]) (n := 2) (Nat.le_of_ble_eq_true rfl)
  rw [lg_entry_eq]
  generalize (lg_sl ([.ref a_t, .int x1]) ++ List.replicate (2 - (lg_sl ([.ref a_t, .int x1])).length) Slot.unset).toArray = ls at hl ⊢
  have hl : lv_has ls 2 [(0, .ref a_t), (1, .int x1)] := hl
  unfold fX11_way at h
  refine lv_aload_n hx hb dX11_way_0 rfl (lv_at hl 0 rfl) ?_
  refine lv_iconst (v := (nI 0)) hx hb dX11_way_1 rfl ?_
  refine va_put (D := D) (ci := 11) (ty := .int) (C := RX11) (T := TX11) (N := 16) hx hb hts qX11_way_X11 tyX11 tyX11_ok nmX11 hown hK hP hD hS 0 rfl rfl 0 (by decide) (hts _ kX11_way_0) (fun _ h9 => h9) rfl (by decide +kernel) rfl (by first | rfl | exact zz_fit) (Nat.le_of_ble_eq_true rfl) dX11_way_2 (fun H locs hP hD hS => ?_)
  have hP : va_P D vwCl [(a_t, .inr (11, [.int (nI 0), .ref a_t_now, .ref a_t_kept, .int t_isKept, .ref a_t_text, .int t_length, .ref a_t_passing, .int t_at, .int t_fault, .int t_open, .int t_asked, .int t_byGun, .int t_prizeMost, .ref a_t_order, .ref a_t_times, .int t_listed])), (a_t_now, .inl (cI, 1562, .inl t_now))] H := hP
  have hD : va_D A [(a_t, .inr (11, [.int (nI 0), .ref a_t_now, .ref a_t_kept, .int t_isKept, .ref a_t_text, .int t_length, .ref a_t_passing, .int t_at, .int t_fault, .int t_open, .int t_asked, .int t_byGun, .int t_prizeMost, .ref a_t_order, .ref a_t_times, .int t_listed])), (a_t_now, .inl (cI, 1562, .inl t_now))] := hD
  refine lv_iload_n hx hb dX11_way_5 rfl (lv_at hl 1 rfl) ?_
  refine lv_iconst (v := (nI 1)) hx hb dX11_way_6 rfl ?_
  refine lv_sipush (v := (nI 1000)) hx hb dX11_way_7 rfl ?_
  obtain ⟨b1, e2, h⟩ := zz_b h
  refine zSi (As := [.int x1, .int (nI 1), .int (nI 1000)]) (rest := []) (wr := [(a_t, .inr (11, [.int (nI 0), .ref a_t_now, .ref a_t_kept, .int t_isKept, .ref a_t_text, .int t_length, .ref a_t_passing, .int t_at, .int t_fault, .int t_open, .int t_asked, .int t_byGun, .int t_prizeMost, .ref a_t_order, .ref a_t_times, .int t_listed])), (a_t_now, .inl (cI, 1562, .inl t_now))]) [] [0, 1] ⟨hx, hb, hml, hown, hts⟩ (mX11_isIn l D cB cI cZ H.size x1 (nI 1) (nI 1000) b1 e2) (va_cwS 3 hts gX11_way_X11_isIn rfl rfl rfl (by decide +kernel) ⟨Nat.le_of_ble_eq_true rfl, Nat.le_of_ble_eq_true rfl⟩) hK hN hZ hP hD hS hA rfl rfl rfl rfl rfl rfl hl.1 rfl (lv_room (Nat.le_of_ble_eq_true rfl)) dX11_way_10 ⟨Nat.le_of_ble_eq_true rfl, Nat.le_of_ble_eq_true rfl⟩ (fun H locs hP hD hS => ?_)
  have hP : va_P D vwCl [(a_t, .inr (11, [.int (nI 0), .ref a_t_now, .ref a_t_kept, .int t_isKept, .ref a_t_text, .int t_length, .ref a_t_passing, .int t_at, .int t_fault, .int t_open, .int t_asked, .int t_byGun, .int t_prizeMost, .ref a_t_order, .ref a_t_times, .int t_listed])), (a_t_now, .inl (cI, 1562, .inl t_now))] H := hP
  have hD : va_D A [(a_t, .inr (11, [.int (nI 0), .ref a_t_now, .ref a_t_kept, .int t_isKept, .ref a_t_text, .int t_length, .ref a_t_passing, .int t_at, .int t_fault, .int t_open, .int t_asked, .int t_byGun, .int t_prizeMost, .ref a_t_order, .ref a_t_times, .int t_listed])), (a_t_now, .inl (cI, 1562, .inl t_now))] := hD
  refine lv_if_ne (tgt := 18) hx hb dX11_way_13 (by decide) (fun c3 => ?_) (fun c3 => ?_)
  · have h := zz_f h c3
    refine lv_aload_n hx hb dX11_way_18 rfl (lv_at hl 0 rfl) ?_
    refine lv_iload_n hx hb dX11_way_19 rfl (lv_at hl 1 rfl) ?_
    obtain ⟨t_now_r4, e5, h⟩ := zz_b h
    refine zVv (As := [.int x1]) (rest := []) (C := RX11) (wr := []) [0, 1] [] 0 ⟨hx, hb, hml, hown, hts⟩ (mX11_begin l D cB cI cZ a_t a_t_now a_t_kept a_t_text a_t_passing a_t_order a_t_times (nI 0) t_isKept t_length t_at t_fault t_open t_asked t_byGun t_prizeMost t_listed t_now H.size x1 N t_now_r4 e5) (cwV 1 hts gX11_way_X11_begin rfl rfl rfl (by decide +kernel) ⟨Nat.le_of_ble_eq_true rfl, Nat.le_of_ble_eq_true rfl⟩) hK hN hZ hP hD hS hA rfl rfl rfl rfl rfl rfl rfl rfl hl.1 rfl (lv_room (Nat.le_of_ble_eq_true rfl)) dX11_way_20 ⟨Nat.le_of_ble_eq_true rfl, Nat.le_of_ble_eq_true rfl⟩ (fun H locs hP hD hS => ?_)
    have hP : va_P D vwCl [(a_t, .inr (11, [.int (nI 0), .ref a_t_now, .ref a_t_kept, .int t_isKept, .ref a_t_text, .int t_length, .ref a_t_passing, .int t_at, .int t_fault, .int t_open, .int t_asked, .int t_byGun, .int t_prizeMost, .ref a_t_order, .ref a_t_times, .int t_listed])), (a_t_now, .inl (cI, 1562, .inl t_now_r4))] H := hP
    have hD : va_D A [(a_t, .inr (11, [.int (nI 0), .ref a_t_now, .ref a_t_kept, .int t_isKept, .ref a_t_text, .int t_length, .ref a_t_passing, .int t_at, .int t_fault, .int t_open, .int t_asked, .int t_byGun, .int t_prizeMost, .ref a_t_order, .ref a_t_times, .int t_listed])), (a_t_now, .inl (cI, 1562, .inl t_now_r4))] := hD
    refine lv_iconst (v := (nI 1)) hx hb dX11_way_23 rfl ?_
    obtain ⟨j0_, g_⟩ := Prod.mk.inj (Option.some.inj h)
    obtain ⟨j1_, g_⟩ := Prod.mk.inj g_
    have j2_ := g_
    subst j0_
    subst j1_
    subst j2_
    exact W.zret (v := (nI 1)) hx hb hr rfl (fun t ht hW => ⟨⟨_, (), rfl, rfl, zPost.of hP hD hK ht hW [0, 1] rfl rfl rfl⟩, hS.F ht⟩) hS.2.2 dX11_way_24
  · have h := zz_t h c3
    refine lv_iconst (v := (nI 0)) hx hb dX11_way_16 rfl ?_
    obtain ⟨j0_, g_⟩ := Prod.mk.inj (Option.some.inj h)
    obtain ⟨j1_, g_⟩ := Prod.mk.inj g_
    have j2_ := g_
    subst j0_
    subst j1_
    subst j2_
    exact W.zret (v := (nI 0)) hx hb hr rfl (fun t ht hW => ⟨⟨_, (), rfl, rfl, zPost.of hP hD hK ht hW [0, 1] rfl rfl rfl⟩, hS.F ht⟩) hS.2.2 dX11_way_17
/-! RunDeskModel.mat -/
theorem dX11_mat_0 : decode cX11_mat 0 = .ok (.aload_n 0, 1) := by decide +kernel
theorem dX11_mat_1 : decode cX11_mat 1 = .ok (.iconst 0, 1) := by decide +kernel
theorem dX11_mat_2 : decode cX11_mat 2 = .ok (.putfield 37, 3) := by decide +kernel
theorem dX11_mat_5 : decode cX11_mat 5 = .ok (.aload_n 0, 1) := by decide +kernel
theorem dX11_mat_6 : decode cX11_mat 6 = .ok (.invokevirtual 41, 3) := by decide +kernel
theorem dX11_mat_9 : decode cX11_mat 9 = .ok (.bipush 12, 2) := by decide +kernel
theorem dX11_mat_11 : decode cX11_mat 11 = .ok (.if_icmp .eq 35, 3) := by decide +kernel
theorem dX11_mat_14 : decode cX11_mat 14 = .ok (.iload_n 1, 1) := by decide +kernel
theorem dX11_mat_15 : decode cX11_mat 15 = .ok (.aload_n 0, 1) := by decide +kernel
theorem dX11_mat_16 : decode cX11_mat 16 = .ok (.aload_n 0, 1) := by decide +kernel
theorem dX11_mat_17 : decode cX11_mat 17 = .ok (.invokevirtual 41, 3) := by decide +kernel
theorem dX11_mat_20 : decode cX11_mat 20 = .ok (.iconst 1, 1) := by decide +kernel
theorem dX11_mat_21 : decode cX11_mat 21 = .ok (.isub, 1) := by decide +kernel
theorem dX11_mat_22 : decode cX11_mat 22 = .ok (.iconst 0, 1) := by decide +kernel
theorem dX11_mat_23 : decode cX11_mat 23 = .ok (.invokevirtual 56, 3) := by decide +kernel
theorem dX11_mat_26 : decode cX11_mat 26 = .ok (.if_icmp .le 20, 3) := by decide +kernel
theorem dX11_mat_29 : decode cX11_mat 29 = .ok (.iload_n 1, 1) := by decide +kernel
theorem dX11_mat_30 : decode cX11_mat 30 = .ok (.ldc 60, 2) := by decide +kernel
theorem dX11_mat_32 : decode cX11_mat 32 = .ok (.if_icmp .gt 14, 3) := by decide +kernel
theorem dX11_mat_35 : decode cX11_mat 35 = .ok (.iload_n 2, 1) := by decide +kernel
theorem dX11_mat_36 : decode cX11_mat 36 = .ok (.iconst 1, 1) := by decide +kernel
theorem dX11_mat_37 : decode cX11_mat 37 = .ok (.sipush 1000, 3) := by decide +kernel
theorem dX11_mat_40 : decode cX11_mat 40 = .ok (.invokestatic 52, 3) := by decide +kernel
theorem dX11_mat_43 : decode cX11_mat 43 = .ok (.ifCond .ne 5, 3) := by decide +kernel
theorem dX11_mat_46 : decode cX11_mat 46 = .ok (.iconst (-1), 1) := by decide +kernel
theorem dX11_mat_47 : decode cX11_mat 47 = .ok (.ireturn, 1) := by decide +kernel
theorem dX11_mat_48 : decode cX11_mat 48 = .ok (.aload_n 0, 1) := by decide +kernel
theorem dX11_mat_49 : decode cX11_mat 49 = .ok (.iload_n 1, 1) := by decide +kernel
theorem dX11_mat_50 : decode cX11_mat 50 = .ok (.iload_n 2, 1) := by decide +kernel
theorem dX11_mat_51 : decode cX11_mat 51 = .ok (.invokevirtual 33, 3) := by decide +kernel
theorem dX11_mat_54 : decode cX11_mat 54 = .ok (.aload_n 0, 1) := by decide +kernel
theorem dX11_mat_55 : decode cX11_mat 55 = .ok (.invokevirtual 41, 3) := by decide +kernel
theorem dX11_mat_58 : decode cX11_mat 58 = .ok (.iconst 1, 1) := by decide +kernel
theorem dX11_mat_59 : decode cX11_mat 59 = .ok (.isub, 1) := by decide +kernel
theorem dX11_mat_60 : decode cX11_mat 60 = .ok (.ireturn, 1) := by decide +kernel
set_option maxRecDepth 20000 in
theorem ggX11_mat_X11_mats : GoodIn wsX11_mat wsX11_mats := goodIn_sub (List.forall_mem_cons.mpr ⟨List.mem_cons_of_mem _ (List.mem_append_left _ (List.mem_append_left _ (List.mem_of_getElem? (l := wsX11_mat_r1) (i := 6) rfl))), (List.forall_mem_append.mpr ⟨(List.forall_mem_cons.mpr ⟨List.mem_cons_of_mem _ (List.mem_append_left _ (List.mem_append_left _ (List.mem_of_getElem? (l := wsX11_mat_r1) (i := 7) rfl))), (fun _ h => nomatch h)⟩), (fun _ h => List.mem_cons_of_mem _ (List.mem_append_right _ (h)))⟩)⟩) (by decide +kernel)
set_option maxRecDepth 20000 in
theorem gX11_mat_X11_mats : GoodIn wsX11_mat (wsV RX11 41 RX11 yX11_mats wsX11_mats) := goodIn_app (goodIn_of _ (by decide +kernel)) ggX11_mat_X11_mats
set_option maxRecDepth 20000 in
theorem ggX11_mat_X11_ofMat : GoodIn wsX11_mat wsX11_ofMat := goodIn_sub (List.forall_mem_cons.mpr ⟨List.mem_cons_of_mem _ (List.mem_append_left _ (List.mem_append_left _ (List.mem_of_getElem? (l := wsX11_mat_r1) (i := 11) rfl))), (List.forall_mem_append.mpr ⟨(List.forall_mem_cons.mpr ⟨List.mem_cons_of_mem _ (List.mem_append_left _ (List.mem_append_left _ (List.mem_of_getElem? (l := wsX11_mat_r1) (i := 7) rfl))), (fun _ h => nomatch h)⟩), (fun _ h => List.mem_cons_of_mem _ (List.mem_append_right _ (h)))⟩)⟩) (by decide +kernel)
set_option maxRecDepth 20000 in
theorem gX11_mat_X11_ofMat : GoodIn wsX11_mat (wsV RX11 56 RX11 yX11_ofMat wsX11_ofMat) := goodIn_app (goodIn_of _ (by decide +kernel)) ggX11_mat_X11_ofMat
set_option maxRecDepth 20000 in
theorem ggX11_mat_X11_isIn : GoodIn wsX11_mat wsX11_isIn := goodIn_sub (List.forall_mem_cons.mpr ⟨List.mem_cons_of_mem _ (List.mem_append_left _ (List.mem_append_left _ (List.mem_of_getElem? (l := wsX11_mat_r1) (i := 14) rfl))), (fun _ h => nomatch h)⟩) (by decide +kernel)
set_option maxRecDepth 20000 in
theorem gX11_mat_X11_isIn : GoodIn wsX11_mat (va_wsS RX11 52 yX11_isIn wsX11_isIn) := goodIn_app (goodIn_of _ (by decide +kernel)) ggX11_mat_X11_isIn
set_option maxRecDepth 20000 in
theorem ggX11_mat_X11_adds : GoodIn wsX11_mat wsX11_adds := goodIn_sub (List.forall_mem_cons.mpr ⟨List.mem_cons_of_mem _ (List.mem_append_left _ (List.mem_append_left _ (List.mem_of_getElem? (l := wsX11_mat_r1) (i := 18) rfl))), (List.forall_mem_append.mpr ⟨(List.forall_mem_cons.mpr ⟨List.mem_cons_of_mem _ (List.mem_append_left _ (List.mem_append_left _ (List.mem_of_getElem? (l := wsX11_mat_r1) (i := 7) rfl))), (List.forall_mem_cons.mpr ⟨List.mem_cons_of_mem _ (List.mem_append_left _ (List.mem_append_left _ (List.mem_of_getElem? (l := wsX11_mat_r1) (i := 2) rfl))), (List.forall_mem_cons.mpr ⟨List.mem_cons_of_mem _ (List.mem_append_left _ (List.mem_append_left _ (List.mem_of_getElem? (l := wsX11_mat_r1) (i := 3) rfl))), (List.forall_mem_cons.mpr ⟨List.mem_cons_of_mem _ (List.mem_append_left _ (List.mem_append_left _ (List.mem_of_getElem? (l := wsX11_mat_r1) (i := 4) rfl))), (List.forall_mem_cons.mpr ⟨List.mem_cons_of_mem _ (List.mem_append_left _ (List.mem_append_left _ (List.mem_of_getElem? (l := wsX11_mat_r1) (i := 5) rfl))), (List.forall_mem_cons.mpr ⟨List.mem_cons_of_mem _ (List.mem_append_left _ (List.mem_append_left _ (List.mem_of_getElem? (l := wsX11_mat_r1) (i := 6) rfl))), (List.forall_mem_cons.mpr ⟨List.mem_cons_of_mem _ (List.mem_append_left _ (List.mem_append_left _ (List.mem_of_getElem? (l := wsX11_mat_r1) (i := 19) rfl))), (List.forall_mem_cons.mpr ⟨List.mem_cons_of_mem _ (List.mem_append_left _ (List.mem_append_left _ (List.mem_of_getElem? (l := wsX11_mat_r1) (i := 20) rfl))), (List.forall_mem_cons.mpr ⟨List.mem_cons_of_mem _ (List.mem_append_left _ (List.mem_append_left _ (List.mem_of_getElem? (l := wsX11_mat_r1) (i := 21) rfl))), (List.forall_mem_cons.mpr ⟨List.mem_cons_of_mem _ (List.mem_append_left _ (List.mem_append_left _ (List.mem_of_getElem? (l := wsX11_mat_r1) (i := 22) rfl))), (List.forall_mem_cons.mpr ⟨List.mem_cons_of_mem _ (List.mem_append_left _ (List.mem_append_left _ (List.mem_of_getElem? (l := wsX11_mat_r1) (i := 23) rfl))), (List.forall_mem_cons.mpr ⟨List.mem_cons_of_mem _ (List.mem_append_left _ (List.mem_append_right _ (List.mem_of_getElem? (l := wsX11_mat_r2) (i := 0) rfl))), (List.forall_mem_cons.mpr ⟨List.mem_cons_of_mem _ (List.mem_append_left _ (List.mem_append_right _ (List.mem_of_getElem? (l := wsX11_mat_r2) (i := 1) rfl))), (List.forall_mem_cons.mpr ⟨List.mem_cons_of_mem _ (List.mem_append_left _ (List.mem_append_right _ (List.mem_of_getElem? (l := wsX11_mat_r2) (i := 2) rfl))), (fun _ h => nomatch h)⟩)⟩)⟩)⟩)⟩)⟩)⟩)⟩)⟩)⟩)⟩)⟩)⟩)⟩), (fun _ h => List.mem_cons_of_mem _ (List.mem_append_right _ (h)))⟩)⟩) (by decide +kernel)
set_option maxRecDepth 20000 in
theorem gX11_mat_X11_adds : GoodIn wsX11_mat (wsV RX11 33 RX11 yX11_adds wsX11_adds) := goodIn_app (goodIn_of _ (by decide +kernel)) ggX11_mat_X11_adds
theorem kX11_mat_0 : (.fieldLink RX11 37 "RunDeskModel" "thrown" "I" : Cond) ∈ wsX11_mat := List.mem_of_getElem? (i := 1) (by decide +kernel)
theorem qX11_mat_X11 : ∀ w ∈ wsX110, w ∈ wsX11_mat := fun _ h => List.mem_cons_of_mem _ (List.mem_append_right _ (h))
theorem kX11_mat_2 : (.constant RX11 60 (100000) : Cond) ∈ wsX11_mat := List.mem_of_getElem? (i := 2) (by decide +kernel)
set_option maxHeartbeats 4000000 in
set_option maxRecDepth 100000 in
theorem mX11_mat (l : Launch) (D : va_G) (cB cI cZ : ClassId) (a_t : Nat) (a_t_now : Nat) (a_t_kept : Nat) (a_t_text : Nat) (a_t_passing : Nat) (a_t_order : Nat) (a_t_times : Nat) (t_thrown : Int32) (t_isKept : Int32) (t_length : Int32) (t_at : Int32) (t_fault : Int32) (t_open : Int32) (t_asked : Int32) (t_byGun : Int32) (t_prizeMost : Int32) (t_listed : Int32) (t_now : Nat → Int32) (sz : Nat) (x1 : Int32) (x2 : Int32) (N : Nat) (r0 : Int32) (t_thrown' : Int32) (t_now' : Nat → Int32) (h : fX11_mat N t_thrown t_now x1 x2 = some (r0, t_thrown', t_now')) : Met l yX11_mat wsX11_mat ({ frames := 2, cells := 0, slots := 0, locals := 47 } : Room) (va_Pc [.ref a_t, .int x1, .int x2] (zPre D (zT cB cI cZ) [(a_t, .inr (11, [.int t_thrown, .ref a_t_now, .ref a_t_kept, .int t_isKept, .ref a_t_text, .int t_length, .ref a_t_passing, .int t_at, .int t_fault, .int t_open, .int t_asked, .int t_byGun, .int t_prizeMost, .ref a_t_order, .ref a_t_times, .int t_listed])), (a_t_now, .inl (cI, 1562, .inl t_now))] sz)) (zQi r0 D (zT cB cI cZ) [(a_t, .inr (11, [.int t_thrown', .ref a_t_now, .ref a_t_kept, .int t_isKept, .ref a_t_text, .int t_length, .ref a_t_passing, .int t_at, .int t_fault, .int t_open, .int t_asked, .int t_byGun, .int t_prizeMost, .ref a_t_order, .ref a_t_times, .int t_listed])), (a_t_now, .inl (cI, 1562, .inl t_now'))] (va_A [(a_t, .inr (11, [.int t_thrown, .ref a_t_now, .ref a_t_kept, .int t_isKept, .ref a_t_text, .int t_length, .ref a_t_passing, .int t_at, .int t_fault, .int t_open, .int t_asked, .int t_byGun, .int t_prizeMost, .ref a_t_order, .ref a_t_times, .int t_listed])), (a_t_now, .inl (cI, 1562, .inl t_now))] sz)) 0 0 (va_A [(a_t, .inr (11, [.int t_thrown, .ref a_t_now, .ref a_t_kept, .int t_isKept, .ref a_t_text, .int t_length, .ref a_t_passing, .int t_at, .int t_fault, .int t_open, .int t_asked, .int t_byGun, .int t_prizeMost, .ref a_t_order, .ref a_t_times, .int t_listed])), (a_t_now, .inl (cI, 1562, .inl t_now))] sz) := by
  refine Met.ofW (cc := cX11_mat) (maxL := 3) (ret := (some .int)) (by decide) rfl ?_
  intro p e s m args below meth c s₁ B hml hv
  obtain ⟨rfl, hsz, hP, hK, hN, hZ, hD0⟩ := hv
  have hx := B.exec
  have hb := B.bytes
  have hr := B.returns
  have hts := atoms_spec (ws := wsX11_mat) B.pre
  have hown : s.vm.findClass RX11 = some m.cls := findClass_of_methodNamed B.named
  have hlocks := B.notSynchronized
  subst hsz
  have hD := hD0.self (sz := s.heap.size)
  generalize hAe : va_A [(a_t, .inr (11, [.int t_thrown, .ref a_t_now, .ref a_t_kept, .int t_isKept, .ref a_t_text, .int t_length, .ref a_t_passing, .int t_at, .int t_fault, .int t_open, .int t_asked, .int t_byGun, .int t_prizeMost, .ref a_t_order, .ref a_t_times, .int t_listed])), (a_t_now, .inl (cI, 1562, .inl t_now))] s.heap.size = A at hD hZ ⊢
  have hA : ∀ q : Nat, s.heap.size ≤ q → A q := fun q h => by rw [← hAe]; exact Or.inr h
  have hS : va_S A s.heap s.heap [] := va_S.rf
  have hl := lv_entry ([.ref a_t, .int x1, .int x2]) (n := 3) (Nat.le_of_ble_eq_true rfl)
  rw [lg_entry_eq]
  generalize (lg_sl ([.ref a_t, .int x1, .int x2]) ++ List.replicate (3 - (lg_sl ([.ref a_t, .int x1, .int x2])).length) Slot.unset).toArray = ls at hl ⊢
  have hl : lv_has ls 3 [(0, .ref a_t), (1, .int x1), (2, .int x2)] := hl
  unfold fX11_mat at h
  refine lv_aload_n hx hb dX11_mat_0 rfl (lv_at hl 0 rfl) ?_
  refine lv_iconst (v := (nI 0)) hx hb dX11_mat_1 rfl ?_
  refine va_put (D := D) (ci := 11) (ty := .int) (C := RX11) (T := TX11) (N := 16) hx hb hts qX11_mat_X11 tyX11 tyX11_ok nmX11 hown hK hP hD hS 0 rfl rfl 0 (by decide) (hts _ kX11_mat_0) (fun _ h9 => h9) rfl (by decide +kernel) rfl (by first | rfl | exact zz_fit) (Nat.le_of_ble_eq_true rfl) dX11_mat_2 (fun H locs hP hD hS => ?_)
  have hP : va_P D vwCl [(a_t, .inr (11, [.int (nI 0), .ref a_t_now, .ref a_t_kept, .int t_isKept, .ref a_t_text, .int t_length, .ref a_t_passing, .int t_at, .int t_fault, .int t_open, .int t_asked, .int t_byGun, .int t_prizeMost, .ref a_t_order, .ref a_t_times, .int t_listed])), (a_t_now, .inl (cI, 1562, .inl t_now))] H := hP
  have hD : va_D A [(a_t, .inr (11, [.int (nI 0), .ref a_t_now, .ref a_t_kept, .int t_isKept, .ref a_t_text, .int t_length, .ref a_t_passing, .int t_at, .int t_fault, .int t_open, .int t_asked, .int t_byGun, .int t_prizeMost, .ref a_t_order, .ref a_t_times, .int t_listed])), (a_t_now, .inl (cI, 1562, .inl t_now))] := hD
  refine lv_aload_n hx hb dX11_mat_5 rfl (lv_at hl 0 rfl) ?_
  obtain ⟨r1, e2, h⟩ := zz_b h
  refine zVi (As := []) (rest := []) (C := RX11) (wr := []) [0, 1] [] 0 ⟨hx, hb, hml, hown, hts⟩ (mX11_mats l D cB cI cZ a_t a_t_now a_t_kept a_t_text a_t_passing a_t_order a_t_times (nI 0) t_isKept t_length t_at t_fault t_open t_asked t_byGun t_prizeMost t_listed t_now H.size r1 e2) (cwV 0 hts gX11_mat_X11_mats rfl rfl rfl (by decide +kernel) ⟨Nat.le_of_ble_eq_true rfl, Nat.le_of_ble_eq_true rfl⟩) hK hN hZ hP hD hS hA rfl rfl rfl rfl rfl rfl rfl rfl hl.1 rfl (lv_room (Nat.le_of_ble_eq_true rfl)) dX11_mat_6 ⟨Nat.le_of_ble_eq_true rfl, Nat.le_of_ble_eq_true rfl⟩ (fun H locs hP hD hS => ?_)
  have hP : va_P D vwCl [(a_t, .inr (11, [.int (nI 0), .ref a_t_now, .ref a_t_kept, .int t_isKept, .ref a_t_text, .int t_length, .ref a_t_passing, .int t_at, .int t_fault, .int t_open, .int t_asked, .int t_byGun, .int t_prizeMost, .ref a_t_order, .ref a_t_times, .int t_listed])), (a_t_now, .inl (cI, 1562, .inl t_now))] H := hP
  have hD : va_D A [(a_t, .inr (11, [.int (nI 0), .ref a_t_now, .ref a_t_kept, .int t_isKept, .ref a_t_text, .int t_length, .ref a_t_passing, .int t_at, .int t_fault, .int t_open, .int t_asked, .int t_byGun, .int t_prizeMost, .ref a_t_order, .ref a_t_times, .int t_listed])), (a_t_now, .inl (cI, 1562, .inl t_now))] := hD
  refine lv_bipush (v := (nI 12)) hx hb dX11_mat_9 rfl ?_
  refine lv_icmp_eq (tgt := 46) hx hb dX11_mat_11 (by decide) (fun c3 => ?_) (fun c3 => ?_)
  · have h := zz_t h c3
    refine lv_iconst (v := (-1 : Int32)) hx hb dX11_mat_46 rfl ?_
    obtain ⟨j0_, g_⟩ := Prod.mk.inj (Option.some.inj h)
    obtain ⟨j1_, g_⟩ := Prod.mk.inj g_
    have j2_ := g_
    subst j0_
    subst j1_
    subst j2_
    exact W.iret (v := (-1 : Int32)) hx hb hr (fun t ht hW => ⟨⟨_, (), rfl, rfl, zPost.of hP hD hK ht hW [0, 1] rfl rfl rfl⟩, hS.F ht⟩) hS.2.2 dX11_mat_47
  · have h := zz_f h c3
    refine lv_iload_n hx hb dX11_mat_14 rfl (lv_at hl 1 rfl) ?_
    refine lv_aload_n hx hb dX11_mat_15 rfl (lv_at hl 0 rfl) ?_
    refine lv_aload_n hx hb dX11_mat_16 rfl (lv_at hl 0 rfl) ?_
    obtain ⟨r4, e5, h⟩ := zz_b h
    refine zVi (As := []) (rest := [.ref a_t, .int x1]) (C := RX11) (wr := []) [0, 1] [] 0 ⟨hx, hb, hml, hown, hts⟩ (mX11_mats l D cB cI cZ a_t a_t_now a_t_kept a_t_text a_t_passing a_t_order a_t_times (nI 0) t_isKept t_length t_at t_fault t_open t_asked t_byGun t_prizeMost t_listed t_now H.size r4 e5) (cwV 0 hts gX11_mat_X11_mats rfl rfl rfl (by decide +kernel) ⟨Nat.le_of_ble_eq_true rfl, Nat.le_of_ble_eq_true rfl⟩) hK hN hZ hP hD hS hA rfl rfl rfl rfl rfl rfl rfl rfl hl.1 rfl (lv_room (Nat.le_of_ble_eq_true rfl)) dX11_mat_17 ⟨Nat.le_of_ble_eq_true rfl, Nat.le_of_ble_eq_true rfl⟩ (fun H locs hP hD hS => ?_)
    have hP : va_P D vwCl [(a_t, .inr (11, [.int (nI 0), .ref a_t_now, .ref a_t_kept, .int t_isKept, .ref a_t_text, .int t_length, .ref a_t_passing, .int t_at, .int t_fault, .int t_open, .int t_asked, .int t_byGun, .int t_prizeMost, .ref a_t_order, .ref a_t_times, .int t_listed])), (a_t_now, .inl (cI, 1562, .inl t_now))] H := hP
    have hD : va_D A [(a_t, .inr (11, [.int (nI 0), .ref a_t_now, .ref a_t_kept, .int t_isKept, .ref a_t_text, .int t_length, .ref a_t_passing, .int t_at, .int t_fault, .int t_open, .int t_asked, .int t_byGun, .int t_prizeMost, .ref a_t_order, .ref a_t_times, .int t_listed])), (a_t_now, .inl (cI, 1562, .inl t_now))] := hD
    refine lv_iconst (v := (nI 1)) hx hb dX11_mat_20 rfl ?_
    refine lv_isub hx hb dX11_mat_21 ?_
    refine lv_iconst (v := (nI 0)) hx hb dX11_mat_22 rfl ?_
    obtain ⟨r6, e7, h⟩ := zz_b h
    refine zVi (As := [.int (r4 - (nI 1)), .int (nI 0)]) (rest := [.int x1]) (C := RX11) (wr := []) [0, 1] [] 0 ⟨hx, hb, hml, hown, hts⟩ (mX11_ofMat l D cB cI cZ a_t a_t_now a_t_kept a_t_text a_t_passing a_t_order a_t_times (nI 0) t_isKept t_length t_at t_fault t_open t_asked t_byGun t_prizeMost t_listed t_now H.size (r4 - (nI 1)) (nI 0) r6 e7) (cwV 2 hts gX11_mat_X11_ofMat rfl rfl rfl (by decide +kernel) ⟨Nat.le_of_ble_eq_true rfl, Nat.le_of_ble_eq_true rfl⟩) hK hN hZ hP hD hS hA rfl rfl rfl rfl rfl rfl rfl rfl hl.1 rfl (lv_room (Nat.le_of_ble_eq_true rfl)) dX11_mat_23 ⟨Nat.le_of_ble_eq_true rfl, Nat.le_of_ble_eq_true rfl⟩ (fun H locs hP hD hS => ?_)
    have hP : va_P D vwCl [(a_t, .inr (11, [.int (nI 0), .ref a_t_now, .ref a_t_kept, .int t_isKept, .ref a_t_text, .int t_length, .ref a_t_passing, .int t_at, .int t_fault, .int t_open, .int t_asked, .int t_byGun, .int t_prizeMost, .ref a_t_order, .ref a_t_times, .int t_listed])), (a_t_now, .inl (cI, 1562, .inl t_now))] H := hP
    have hD : va_D A [(a_t, .inr (11, [.int (nI 0), .ref a_t_now, .ref a_t_kept, .int t_isKept, .ref a_t_text, .int t_length, .ref a_t_passing, .int t_at, .int t_fault, .int t_open, .int t_asked, .int t_byGun, .int t_prizeMost, .ref a_t_order, .ref a_t_times, .int t_listed])), (a_t_now, .inl (cI, 1562, .inl t_now))] := hD
    refine lv_icmp_le (tgt := 46) hx hb dX11_mat_26 (by decide) (fun c8 => ?_) (fun c8 => ?_)
    · have h := zz_t h c8
      refine lv_iconst (v := (-1 : Int32)) hx hb dX11_mat_46 rfl ?_
      obtain ⟨j0_, g_⟩ := Prod.mk.inj (Option.some.inj h)
      obtain ⟨j1_, g_⟩ := Prod.mk.inj g_
      have j2_ := g_
      subst j0_
      subst j1_
      subst j2_
      exact W.iret (v := (-1 : Int32)) hx hb hr (fun t ht hW => ⟨⟨_, (), rfl, rfl, zPost.of hP hD hK ht hW [0, 1] rfl rfl rfl⟩, hS.F ht⟩) hS.2.2 dX11_mat_47
    · have h := zz_f h c8
      refine lv_iload_n hx hb dX11_mat_29 rfl (lv_at hl 1 rfl) ?_
      refine lv_ldc (v := (nI 100000)) hx hb hown (hts _ kX11_mat_2) dX11_mat_30 ?_
      refine lv_icmp_gt (tgt := 46) hx hb dX11_mat_32 (by decide) (fun c9 => ?_) (fun c9 => ?_)
      · have h := zz_t h c9
        refine lv_iconst (v := (-1 : Int32)) hx hb dX11_mat_46 rfl ?_
        obtain ⟨j0_, g_⟩ := Prod.mk.inj (Option.some.inj h)
        obtain ⟨j1_, g_⟩ := Prod.mk.inj g_
        have j2_ := g_
        subst j0_
        subst j1_
        subst j2_
        exact W.iret (v := (-1 : Int32)) hx hb hr (fun t ht hW => ⟨⟨_, (), rfl, rfl, zPost.of hP hD hK ht hW [0, 1] rfl rfl rfl⟩, hS.F ht⟩) hS.2.2 dX11_mat_47
      · have h := zz_f h c9
        refine lv_iload_n hx hb dX11_mat_35 rfl (lv_at hl 2 rfl) ?_
        refine lv_iconst (v := (nI 1)) hx hb dX11_mat_36 rfl ?_
        refine lv_sipush (v := (nI 1000)) hx hb dX11_mat_37 rfl ?_
        obtain ⟨b10, e11, h⟩ := zz_b h
        refine zSi (As := [.int x2, .int (nI 1), .int (nI 1000)]) (rest := []) (wr := [(a_t, .inr (11, [.int (nI 0), .ref a_t_now, .ref a_t_kept, .int t_isKept, .ref a_t_text, .int t_length, .ref a_t_passing, .int t_at, .int t_fault, .int t_open, .int t_asked, .int t_byGun, .int t_prizeMost, .ref a_t_order, .ref a_t_times, .int t_listed])), (a_t_now, .inl (cI, 1562, .inl t_now))]) [] [0, 1] ⟨hx, hb, hml, hown, hts⟩ (mX11_isIn l D cB cI cZ H.size x2 (nI 1) (nI 1000) b10 e11) (va_cwS 3 hts gX11_mat_X11_isIn rfl rfl rfl (by decide +kernel) ⟨Nat.le_of_ble_eq_true rfl, Nat.le_of_ble_eq_true rfl⟩) hK hN hZ hP hD hS hA rfl rfl rfl rfl rfl rfl hl.1 rfl (lv_room (Nat.le_of_ble_eq_true rfl)) dX11_mat_40 ⟨Nat.le_of_ble_eq_true rfl, Nat.le_of_ble_eq_true rfl⟩ (fun H locs hP hD hS => ?_)
        have hP : va_P D vwCl [(a_t, .inr (11, [.int (nI 0), .ref a_t_now, .ref a_t_kept, .int t_isKept, .ref a_t_text, .int t_length, .ref a_t_passing, .int t_at, .int t_fault, .int t_open, .int t_asked, .int t_byGun, .int t_prizeMost, .ref a_t_order, .ref a_t_times, .int t_listed])), (a_t_now, .inl (cI, 1562, .inl t_now))] H := hP
        have hD : va_D A [(a_t, .inr (11, [.int (nI 0), .ref a_t_now, .ref a_t_kept, .int t_isKept, .ref a_t_text, .int t_length, .ref a_t_passing, .int t_at, .int t_fault, .int t_open, .int t_asked, .int t_byGun, .int t_prizeMost, .ref a_t_order, .ref a_t_times, .int t_listed])), (a_t_now, .inl (cI, 1562, .inl t_now))] := hD
        refine lv_if_ne (tgt := 48) hx hb dX11_mat_43 (by decide) (fun c12 => ?_) (fun c12 => ?_)
        · have h := zz_f h c12
          refine lv_aload_n hx hb dX11_mat_48 rfl (lv_at hl 0 rfl) ?_
          refine lv_iload_n hx hb dX11_mat_49 rfl (lv_at hl 1 rfl) ?_
          refine lv_iload_n hx hb dX11_mat_50 rfl (lv_at hl 2 rfl) ?_
          obtain ⟨t_now_r13, e14, h⟩ := zz_b h
          refine zVv (As := [.int x1, .int x2]) (rest := []) (C := RX11) (wr := []) [0, 1] [] 0 ⟨hx, hb, hml, hown, hts⟩ (mX11_adds l D cB cI cZ a_t a_t_now a_t_kept a_t_text a_t_passing a_t_order a_t_times (nI 0) t_isKept t_length t_at t_fault t_open t_asked t_byGun t_prizeMost t_listed t_now H.size x1 x2 N t_now_r13 e14) (cwV 2 hts gX11_mat_X11_adds rfl rfl rfl (by decide +kernel) ⟨Nat.le_of_ble_eq_true rfl, Nat.le_of_ble_eq_true rfl⟩) hK hN hZ hP hD hS hA rfl rfl rfl rfl rfl rfl rfl rfl hl.1 rfl (lv_room (Nat.le_of_ble_eq_true rfl)) dX11_mat_51 ⟨Nat.le_of_ble_eq_true rfl, Nat.le_of_ble_eq_true rfl⟩ (fun H locs hP hD hS => ?_)
          have hP : va_P D vwCl [(a_t, .inr (11, [.int (nI 0), .ref a_t_now, .ref a_t_kept, .int t_isKept, .ref a_t_text, .int t_length, .ref a_t_passing, .int t_at, .int t_fault, .int t_open, .int t_asked, .int t_byGun, .int t_prizeMost, .ref a_t_order, .ref a_t_times, .int t_listed])), (a_t_now, .inl (cI, 1562, .inl t_now_r13))] H := hP
          have hD : va_D A [(a_t, .inr (11, [.int (nI 0), .ref a_t_now, .ref a_t_kept, .int t_isKept, .ref a_t_text, .int t_length, .ref a_t_passing, .int t_at, .int t_fault, .int t_open, .int t_asked, .int t_byGun, .int t_prizeMost, .ref a_t_order, .ref a_t_times, .int t_listed])), (a_t_now, .inl (cI, 1562, .inl t_now_r13))] := hD
          refine lv_aload_n hx hb dX11_mat_54 rfl (lv_at hl 0 rfl) ?_
          obtain ⟨r15, e16, h⟩ := zz_b h
          refine zVi (As := []) (rest := []) (C := RX11) (wr := []) [0, 1] [] 0 ⟨hx, hb, hml, hown, hts⟩ (mX11_mats l D cB cI cZ a_t a_t_now a_t_kept a_t_text a_t_passing a_t_order a_t_times (nI 0) t_isKept t_length t_at t_fault t_open t_asked t_byGun t_prizeMost t_listed t_now_r13 H.size r15 e16) (cwV 0 hts gX11_mat_X11_mats rfl rfl rfl (by decide +kernel) ⟨Nat.le_of_ble_eq_true rfl, Nat.le_of_ble_eq_true rfl⟩) hK hN hZ hP hD hS hA rfl rfl rfl rfl rfl rfl rfl rfl hl.1 rfl (lv_room (Nat.le_of_ble_eq_true rfl)) dX11_mat_55 ⟨Nat.le_of_ble_eq_true rfl, Nat.le_of_ble_eq_true rfl⟩ (fun H locs hP hD hS => ?_)
          have hP : va_P D vwCl [(a_t, .inr (11, [.int (nI 0), .ref a_t_now, .ref a_t_kept, .int t_isKept, .ref a_t_text, .int t_length, .ref a_t_passing, .int t_at, .int t_fault, .int t_open, .int t_asked, .int t_byGun, .int t_prizeMost, .ref a_t_order, .ref a_t_times, .int t_listed])), (a_t_now, .inl (cI, 1562, .inl t_now_r13))] H := hP
          have hD : va_D A [(a_t, .inr (11, [.int (nI 0), .ref a_t_now, .ref a_t_kept, .int t_isKept, .ref a_t_text, .int t_length, .ref a_t_passing, .int t_at, .int t_fault, .int t_open, .int t_asked, .int t_byGun, .int t_prizeMost, .ref a_t_order, .ref a_t_times, .int t_listed])), (a_t_now, .inl (cI, 1562, .inl t_now_r13))] := hD
          refine lv_iconst (v := (nI 1)) hx hb dX11_mat_58 rfl ?_
          refine lv_isub hx hb dX11_mat_59 ?_
          obtain ⟨j0_, g_⟩ := Prod.mk.inj (Option.some.inj h)
          obtain ⟨j1_, g_⟩ := Prod.mk.inj g_
          have j2_ := g_
          subst j0_
          subst j1_
          subst j2_
          exact W.iret (v := (r15 - (nI 1))) hx hb hr (fun t ht hW => ⟨⟨_, (), rfl, rfl, zPost.of hP hD hK ht hW [0, 1] rfl rfl rfl⟩, hS.F ht⟩) hS.2.2 dX11_mat_60
        · have h := zz_t h c12
          refine lv_iconst (v := (-1 : Int32)) hx hb dX11_mat_46 rfl ?_
          obtain ⟨j0_, g_⟩ := Prod.mk.inj (Option.some.inj h)
          obtain ⟨j1_, g_⟩ := Prod.mk.inj g_
          have j2_ := g_
          subst j0_
          subst j1_
          subst j2_
          exact W.iret (v := (-1 : Int32)) hx hb hr (fun t ht hW => ⟨⟨_, (), rfl, rfl, zPost.of hP hD hK ht hW [0, 1] rfl rfl rfl⟩, hS.F ht⟩) hS.2.2 dX11_mat_47
/-! RunDeskModel.runner -/
theorem dX11_runner_0 : decode cX11_runner 0 = .ok (.aload_n 0, 1) := by decide +kernel
theorem dX11_runner_1 : decode cX11_runner 1 = .ok (.iconst 0, 1) := by decide +kernel
theorem dX11_runner_2 : decode cX11_runner 2 = .ok (.putfield 37, 3) := by decide +kernel
theorem dX11_runner_5 : decode cX11_runner 5 = .ok (.aload_n 0, 1) := by decide +kernel
theorem dX11_runner_6 : decode cX11_runner 6 = .ok (.invokevirtual 45, 3) := by decide +kernel
theorem dX11_runner_9 : decode cX11_runner 9 = .ok (.bipush 60, 2) := by decide +kernel
theorem dX11_runner_11 : decode cX11_runner 11 = .ok (.if_icmp .eq 65, 3) := by decide +kernel
theorem dX11_runner_14 : decode cX11_runner 14 = .ok (.iload_n 1, 1) := by decide +kernel
theorem dX11_runner_15 : decode cX11_runner 15 = .ok (.iconst 0, 1) := by decide +kernel
theorem dX11_runner_16 : decode cX11_runner 16 = .ok (.iconst 3, 1) := by decide +kernel
theorem dX11_runner_17 : decode cX11_runner 17 = .ok (.invokestatic 52, 3) := by decide +kernel
theorem dX11_runner_20 : decode cX11_runner 20 = .ok (.ifCond .eq 56, 3) := by decide +kernel
theorem dX11_runner_23 : decode cX11_runner 23 = .ok (.iload_n 2, 1) := by decide +kernel
theorem dX11_runner_24 : decode cX11_runner 24 = .ok (.bipush 60, 2) := by decide +kernel
theorem dX11_runner_26 : decode cX11_runner 26 = .ok (.sipush 2000, 3) := by decide +kernel
theorem dX11_runner_29 : decode cX11_runner 29 = .ok (.invokestatic 52, 3) := by decide +kernel
theorem dX11_runner_32 : decode cX11_runner 32 = .ok (.ifCond .eq 44, 3) := by decide +kernel
theorem dX11_runner_35 : decode cX11_runner 35 = .ok (.iload_n 3, 1) := by decide +kernel
theorem dX11_runner_36 : decode cX11_runner 36 = .ok (.iconst 0, 1) := by decide +kernel
theorem dX11_runner_37 : decode cX11_runner 37 = .ok (.bipush 99, 2) := by decide +kernel
theorem dX11_runner_39 : decode cX11_runner 39 = .ok (.invokestatic 52, 3) := by decide +kernel
theorem dX11_runner_42 : decode cX11_runner 42 = .ok (.ifCond .eq 34, 3) := by decide +kernel
theorem dX11_runner_45 : decode cX11_runner 45 = .ok (.iload 4, 2) := by decide +kernel
theorem dX11_runner_47 : decode cX11_runner 47 = .ok (.iconst 0, 1) := by decide +kernel
theorem dX11_runner_48 : decode cX11_runner 48 = .ok (.iconst 1, 1) := by decide +kernel
theorem dX11_runner_49 : decode cX11_runner 49 = .ok (.invokestatic 52, 3) := by decide +kernel
theorem dX11_runner_52 : decode cX11_runner 52 = .ok (.ifCond .eq 24, 3) := by decide +kernel
theorem dX11_runner_55 : decode cX11_runner 55 = .ok (.iload 5, 2) := by decide +kernel
theorem dX11_runner_57 : decode cX11_runner 57 = .ok (.iconst 0, 1) := by decide +kernel
theorem dX11_runner_58 : decode cX11_runner 58 = .ok (.bipush 9, 2) := by decide +kernel
theorem dX11_runner_60 : decode cX11_runner 60 = .ok (.invokestatic 52, 3) := by decide +kernel
theorem dX11_runner_63 : decode cX11_runner 63 = .ok (.ifCond .eq 13, 3) := by decide +kernel
theorem dX11_runner_66 : decode cX11_runner 66 = .ok (.iload 6, 2) := by decide +kernel
theorem dX11_runner_68 : decode cX11_runner 68 = .ok (.iconst 0, 1) := by decide +kernel
theorem dX11_runner_69 : decode cX11_runner 69 = .ok (.iconst 5, 1) := by decide +kernel
theorem dX11_runner_70 : decode cX11_runner 70 = .ok (.invokestatic 52, 3) := by decide +kernel
theorem dX11_runner_73 : decode cX11_runner 73 = .ok (.ifCond .ne 5, 3) := by decide +kernel
theorem dX11_runner_76 : decode cX11_runner 76 = .ok (.iconst (-1), 1) := by decide +kernel
theorem dX11_runner_77 : decode cX11_runner 77 = .ok (.ireturn, 1) := by decide +kernel
theorem dX11_runner_78 : decode cX11_runner 78 = .ok (.aload_n 0, 1) := by decide +kernel
theorem dX11_runner_79 : decode cX11_runner 79 = .ok (.invokevirtual 45, 3) := by decide +kernel
theorem dX11_runner_82 : decode cX11_runner 82 = .ok (.istore 7, 2) := by decide +kernel
theorem dX11_runner_84 : decode cX11_runner 84 = .ok (.bipush 12, 2) := by decide +kernel
theorem dX11_runner_86 : decode cX11_runner 86 = .ok (.newarray .int, 2) := by decide +kernel
theorem dX11_runner_88 : decode cX11_runner 88 = .ok (.dup, 1) := by decide +kernel
theorem dX11_runner_89 : decode cX11_runner 89 = .ok (.iconst 0, 1) := by decide +kernel
theorem dX11_runner_90 : decode cX11_runner 90 = .ok (.iload_n 1, 1) := by decide +kernel
theorem dX11_runner_91 : decode cX11_runner 91 = .ok (.iastore, 1) := by decide +kernel
theorem dX11_runner_92 : decode cX11_runner 92 = .ok (.dup, 1) := by decide +kernel
theorem dX11_runner_93 : decode cX11_runner 93 = .ok (.iconst 1, 1) := by decide +kernel
theorem dX11_runner_94 : decode cX11_runner 94 = .ok (.iload_n 2, 1) := by decide +kernel
theorem dX11_runner_95 : decode cX11_runner 95 = .ok (.iastore, 1) := by decide +kernel
theorem dX11_runner_96 : decode cX11_runner 96 = .ok (.dup, 1) := by decide +kernel
theorem dX11_runner_97 : decode cX11_runner 97 = .ok (.iconst 2, 1) := by decide +kernel
theorem dX11_runner_98 : decode cX11_runner 98 = .ok (.iload_n 3, 1) := by decide +kernel
theorem dX11_runner_99 : decode cX11_runner 99 = .ok (.iastore, 1) := by decide +kernel
theorem dX11_runner_100 : decode cX11_runner 100 = .ok (.dup, 1) := by decide +kernel
theorem dX11_runner_101 : decode cX11_runner 101 = .ok (.iconst 3, 1) := by decide +kernel
theorem dX11_runner_102 : decode cX11_runner 102 = .ok (.iload 4, 2) := by decide +kernel
theorem dX11_runner_104 : decode cX11_runner 104 = .ok (.iastore, 1) := by decide +kernel
theorem dX11_runner_105 : decode cX11_runner 105 = .ok (.dup, 1) := by decide +kernel
theorem dX11_runner_106 : decode cX11_runner 106 = .ok (.iconst 4, 1) := by decide +kernel
theorem dX11_runner_107 : decode cX11_runner 107 = .ok (.iload 5, 2) := by decide +kernel
theorem dX11_runner_109 : decode cX11_runner 109 = .ok (.iastore, 1) := by decide +kernel
theorem dX11_runner_110 : decode cX11_runner 110 = .ok (.dup, 1) := by decide +kernel
theorem dX11_runner_111 : decode cX11_runner 111 = .ok (.iconst 5, 1) := by decide +kernel
theorem dX11_runner_112 : decode cX11_runner 112 = .ok (.iload 6, 2) := by decide +kernel
theorem dX11_runner_114 : decode cX11_runner 114 = .ok (.iastore, 1) := by decide +kernel
theorem dX11_runner_115 : decode cX11_runner 115 = .ok (.dup, 1) := by decide +kernel
theorem dX11_runner_116 : decode cX11_runner 116 = .ok (.bipush 6, 2) := by decide +kernel
theorem dX11_runner_118 : decode cX11_runner 118 = .ok (.iconst 0, 1) := by decide +kernel
theorem dX11_runner_119 : decode cX11_runner 119 = .ok (.iastore, 1) := by decide +kernel
theorem dX11_runner_120 : decode cX11_runner 120 = .ok (.dup, 1) := by decide +kernel
theorem dX11_runner_121 : decode cX11_runner 121 = .ok (.bipush 7, 2) := by decide +kernel
theorem dX11_runner_123 : decode cX11_runner 123 = .ok (.iconst 0, 1) := by decide +kernel
theorem dX11_runner_124 : decode cX11_runner 124 = .ok (.iastore, 1) := by decide +kernel
theorem dX11_runner_125 : decode cX11_runner 125 = .ok (.dup, 1) := by decide +kernel
theorem dX11_runner_126 : decode cX11_runner 126 = .ok (.bipush 8, 2) := by decide +kernel
theorem dX11_runner_128 : decode cX11_runner 128 = .ok (.iconst 0, 1) := by decide +kernel
theorem dX11_runner_129 : decode cX11_runner 129 = .ok (.iastore, 1) := by decide +kernel
theorem dX11_runner_130 : decode cX11_runner 130 = .ok (.dup, 1) := by decide +kernel
theorem dX11_runner_131 : decode cX11_runner 131 = .ok (.bipush 9, 2) := by decide +kernel
theorem dX11_runner_133 : decode cX11_runner 133 = .ok (.iconst (-1), 1) := by decide +kernel
theorem dX11_runner_134 : decode cX11_runner 134 = .ok (.iastore, 1) := by decide +kernel
theorem dX11_runner_135 : decode cX11_runner 135 = .ok (.dup, 1) := by decide +kernel
theorem dX11_runner_136 : decode cX11_runner 136 = .ok (.bipush 10, 2) := by decide +kernel
theorem dX11_runner_138 : decode cX11_runner 138 = .ok (.iconst 0, 1) := by decide +kernel
theorem dX11_runner_139 : decode cX11_runner 139 = .ok (.iastore, 1) := by decide +kernel
theorem dX11_runner_140 : decode cX11_runner 140 = .ok (.dup, 1) := by decide +kernel
theorem dX11_runner_141 : decode cX11_runner 141 = .ok (.bipush 11, 2) := by decide +kernel
theorem dX11_runner_143 : decode cX11_runner 143 = .ok (.iconst 0, 1) := by decide +kernel
theorem dX11_runner_144 : decode cX11_runner 144 = .ok (.iastore, 1) := by decide +kernel
theorem dX11_runner_145 : decode cX11_runner 145 = .ok (.astore 8, 2) := by decide +kernel
theorem dX11_runner_147 : decode cX11_runner 147 = .ok (.iconst 0, 1) := by decide +kernel
theorem dX11_runner_148 : decode cX11_runner 148 = .ok (.istore 9, 2) := by decide +kernel
theorem dX11_runner_150 : decode cX11_runner 150 = .ok (.iload 9, 2) := by decide +kernel
theorem dX11_runner_152 : decode cX11_runner 152 = .ok (.bipush 12, 2) := by decide +kernel
theorem dX11_runner_154 : decode cX11_runner 154 = .ok (.if_icmp .ge 22, 3) := by decide +kernel
theorem dX11_runner_157 : decode cX11_runner 157 = .ok (.aload_n 0, 1) := by decide +kernel
theorem dX11_runner_158 : decode cX11_runner 158 = .ok (.iload 7, 2) := by decide +kernel
theorem dX11_runner_160 : decode cX11_runner 160 = .ok (.iload 9, 2) := by decide +kernel
theorem dX11_runner_162 : decode cX11_runner 162 = .ok (.aload 8, 2) := by decide +kernel
theorem dX11_runner_164 : decode cX11_runner 164 = .ok (.iload 9, 2) := by decide +kernel
theorem dX11_runner_166 : decode cX11_runner 166 = .ok (.iaload, 1) := by decide +kernel
theorem dX11_runner_167 : decode cX11_runner 167 = .ok (.invokevirtual 48, 3) := by decide +kernel
theorem dX11_runner_170 : decode cX11_runner 170 = .ok (.iinc 9 1, 3) := by decide +kernel
theorem dX11_runner_173 : decode cX11_runner 173 = .ok (.goto (-23), 3) := by decide +kernel
theorem dX11_runner_176 : decode cX11_runner 176 = .ok (.iconst 0, 1) := by decide +kernel
theorem dX11_runner_177 : decode cX11_runner 177 = .ok (.istore 9, 2) := by decide +kernel
theorem dX11_runner_179 : decode cX11_runner 179 = .ok (.iload 9, 2) := by decide +kernel
theorem dX11_runner_181 : decode cX11_runner 181 = .ok (.bipush 12, 2) := by decide +kernel
theorem dX11_runner_183 : decode cX11_runner 183 = .ok (.if_icmp .ge 21, 3) := by decide +kernel
theorem dX11_runner_186 : decode cX11_runner 186 = .ok (.aload_n 0, 1) := by decide +kernel
theorem dX11_runner_187 : decode cX11_runner 187 = .ok (.iload 7, 2) := by decide +kernel
theorem dX11_runner_189 : decode cX11_runner 189 = .ok (.bipush 12, 2) := by decide +kernel
theorem dX11_runner_191 : decode cX11_runner 191 = .ok (.iload 9, 2) := by decide +kernel
theorem dX11_runner_193 : decode cX11_runner 193 = .ok (.iadd, 1) := by decide +kernel
theorem dX11_runner_194 : decode cX11_runner 194 = .ok (.iconst (-1), 1) := by decide +kernel
theorem dX11_runner_195 : decode cX11_runner 195 = .ok (.invokevirtual 48, 3) := by decide +kernel
theorem dX11_runner_198 : decode cX11_runner 198 = .ok (.iinc 9 1, 3) := by decide +kernel
theorem dX11_runner_201 : decode cX11_runner 201 = .ok (.goto (-22), 3) := by decide +kernel
theorem dX11_runner_204 : decode cX11_runner 204 = .ok (.aload_n 0, 1) := by decide +kernel
theorem dX11_runner_205 : decode cX11_runner 205 = .ok (.getfield 9, 3) := by decide +kernel
theorem dX11_runner_208 : decode cX11_runner 208 = .ok (.iconst 1, 1) := by decide +kernel
theorem dX11_runner_209 : decode cX11_runner 209 = .ok (.dup2, 1) := by decide +kernel
theorem dX11_runner_210 : decode cX11_runner 210 = .ok (.iaload, 1) := by decide +kernel
theorem dX11_runner_211 : decode cX11_runner 211 = .ok (.iconst 1, 1) := by decide +kernel
theorem dX11_runner_212 : decode cX11_runner 212 = .ok (.iadd, 1) := by decide +kernel
theorem dX11_runner_213 : decode cX11_runner 213 = .ok (.iastore, 1) := by decide +kernel
theorem dX11_runner_214 : decode cX11_runner 214 = .ok (.iload 7, 2) := by decide +kernel
theorem dX11_runner_216 : decode cX11_runner 216 = .ok (.ireturn, 1) := by decide +kernel
set_option maxRecDepth 20000 in
theorem ggX11_runner_X11_runners : GoodIn wsX11_runner wsX11_runners := goodIn_sub (List.forall_mem_cons.mpr ⟨List.mem_cons_of_mem _ (List.mem_append_left _ (List.mem_of_getElem? (i := 7) rfl)), (List.forall_mem_append.mpr ⟨(List.forall_mem_cons.mpr ⟨List.mem_cons_of_mem _ (List.mem_append_left _ (List.mem_of_getElem? (i := 2) rfl)), (fun _ h => nomatch h)⟩), (fun _ h => List.mem_cons_of_mem _ (List.mem_append_right _ (h)))⟩)⟩) (by decide +kernel)
set_option maxRecDepth 20000 in
theorem gX11_runner_X11_runners : GoodIn wsX11_runner (wsV RX11 45 RX11 yX11_runners wsX11_runners) := goodIn_app (goodIn_of _ (by decide +kernel)) ggX11_runner_X11_runners
set_option maxRecDepth 20000 in
theorem ggX11_runner_X11_isIn : GoodIn wsX11_runner wsX11_isIn := goodIn_sub (List.forall_mem_cons.mpr ⟨List.mem_cons_of_mem _ (List.mem_append_left _ (List.mem_of_getElem? (i := 10) rfl)), (fun _ h => nomatch h)⟩) (by decide +kernel)
set_option maxRecDepth 20000 in
theorem gX11_runner_X11_isIn : GoodIn wsX11_runner (va_wsS RX11 52 yX11_isIn wsX11_isIn) := goodIn_app (goodIn_of _ (by decide +kernel)) ggX11_runner_X11_isIn
set_option maxRecDepth 20000 in
theorem ggX11_runner_X11_put : GoodIn wsX11_runner wsX11_put := goodIn_sub (List.forall_mem_cons.mpr ⟨List.mem_cons_of_mem _ (List.mem_append_left _ (List.mem_of_getElem? (i := 14) rfl)), (List.forall_mem_append.mpr ⟨(List.forall_mem_cons.mpr ⟨List.mem_cons_of_mem _ (List.mem_append_left _ (List.mem_of_getElem? (i := 2) rfl)), (fun _ h => nomatch h)⟩), (fun _ h => List.mem_cons_of_mem _ (List.mem_append_right _ (h)))⟩)⟩) (by decide +kernel)
set_option maxRecDepth 20000 in
theorem gX11_runner_X11_put : GoodIn wsX11_runner (wsV RX11 48 RX11 yX11_put wsX11_put) := goodIn_app (goodIn_of _ (by decide +kernel)) ggX11_runner_X11_put
theorem kX11_runner_0 : (.fieldLink RX11 37 "RunDeskModel" "thrown" "I" : Cond) ∈ wsX11_runner := List.mem_of_getElem? (i := 1) (by decide +kernel)
theorem qX11_runner_X11 : ∀ w ∈ wsX110, w ∈ wsX11_runner := fun _ h => List.mem_cons_of_mem _ (List.mem_append_right _ (h))
theorem kX11_runner_2 : (.arrayClass .int : Cond) ∈ wsX11_runner := List.mem_of_getElem? (i := 2) (by decide +kernel)
theorem kX11_runner_3 : (.fieldLink RX11 9 "RunDeskModel" "now" "[I" : Cond) ∈ wsX11_runner := List.mem_of_getElem? (i := 3) (by decide +kernel)
set_option maxHeartbeats 4000000 in
set_option maxRecDepth 100000 in
theorem mX11_runner (l : Launch) (D : va_G) (cB cI cZ : ClassId) (a_t : Nat) (a_t_now : Nat) (a_t_kept : Nat) (a_t_text : Nat) (a_t_passing : Nat) (a_t_order : Nat) (a_t_times : Nat) (t_thrown : Int32) (t_isKept : Int32) (t_length : Int32) (t_at : Int32) (t_fault : Int32) (t_open : Int32) (t_asked : Int32) (t_byGun : Int32) (t_prizeMost : Int32) (t_listed : Int32) (t_now : Nat → Int32) (sz : Nat) (x1 : Int32) (x2 : Int32) (x3 : Int32) (x4 : Int32) (x5 : Int32) (x6 : Int32) (N : Nat) (r0 : Int32) (t_thrown' : Int32) (t_now' : Nat → Int32) (h : fX11_runner N t_thrown t_now x1 x2 x3 x4 x5 x6 = some (r0, t_thrown', t_now')) : Met l yX11_runner wsX11_runner ({ frames := 1, cells := 1, slots := 12, locals := 23 } : Room) (va_Pc [.ref a_t, .int x1, .int x2, .int x3, .int x4, .int x5, .int x6] (zPre D (zT cB cI cZ) [(a_t, .inr (11, [.int t_thrown, .ref a_t_now, .ref a_t_kept, .int t_isKept, .ref a_t_text, .int t_length, .ref a_t_passing, .int t_at, .int t_fault, .int t_open, .int t_asked, .int t_byGun, .int t_prizeMost, .ref a_t_order, .ref a_t_times, .int t_listed])), (a_t_now, .inl (cI, 1562, .inl t_now))] sz)) (zQi r0 D (zT cB cI cZ) [(a_t, .inr (11, [.int t_thrown', .ref a_t_now, .ref a_t_kept, .int t_isKept, .ref a_t_text, .int t_length, .ref a_t_passing, .int t_at, .int t_fault, .int t_open, .int t_asked, .int t_byGun, .int t_prizeMost, .ref a_t_order, .ref a_t_times, .int t_listed])), (a_t_now, .inl (cI, 1562, .inl t_now'))] (va_A [(a_t, .inr (11, [.int t_thrown, .ref a_t_now, .ref a_t_kept, .int t_isKept, .ref a_t_text, .int t_length, .ref a_t_passing, .int t_at, .int t_fault, .int t_open, .int t_asked, .int t_byGun, .int t_prizeMost, .ref a_t_order, .ref a_t_times, .int t_listed])), (a_t_now, .inl (cI, 1562, .inl t_now))] sz)) 1 12 (va_A [(a_t, .inr (11, [.int t_thrown, .ref a_t_now, .ref a_t_kept, .int t_isKept, .ref a_t_text, .int t_length, .ref a_t_passing, .int t_at, .int t_fault, .int t_open, .int t_asked, .int t_byGun, .int t_prizeMost, .ref a_t_order, .ref a_t_times, .int t_listed])), (a_t_now, .inl (cI, 1562, .inl t_now))] sz) := by
  refine Met.ofW (cc := cX11_runner) (maxL := 10) (ret := (some .int)) (by decide) rfl ?_
  intro p e s m args below meth c s₁ B hml hv
  obtain ⟨rfl, hsz, hP, hK, hN, hZ, hD0⟩ := hv
  have hx := B.exec
  have hb := B.bytes
  have hr := B.returns
  have hts := atoms_spec (ws := wsX11_runner) B.pre
  have hown : s.vm.findClass RX11 = some m.cls := findClass_of_methodNamed B.named
  have hlocks := B.notSynchronized
  subst hsz
  have hD := hD0.self (sz := s.heap.size)
  generalize hAe : va_A [(a_t, .inr (11, [.int t_thrown, .ref a_t_now, .ref a_t_kept, .int t_isKept, .ref a_t_text, .int t_length, .ref a_t_passing, .int t_at, .int t_fault, .int t_open, .int t_asked, .int t_byGun, .int t_prizeMost, .ref a_t_order, .ref a_t_times, .int t_listed])), (a_t_now, .inl (cI, 1562, .inl t_now))] s.heap.size = A at hD hZ ⊢
  have hA : ∀ q : Nat, s.heap.size ≤ q → A q := fun q h => by rw [← hAe]; exact Or.inr h
  have hS : va_S A s.heap s.heap [] := va_S.rf
  have hl := lv_entry ([.ref a_t, .int x1, .int x2, .int x3, .int x4, .int x5, .int x6]) (n := 10) (Nat.le_of_ble_eq_true rfl)
  rw [lg_entry_eq]
  generalize (lg_sl ([.ref a_t, .int x1, .int x2, .int x3, .int x4, .int x5, .int x6]) ++ List.replicate (10 - (lg_sl ([.ref a_t, .int x1, .int x2, .int x3, .int x4, .int x5, .int x6])).length) Slot.unset).toArray = ls at hl ⊢
  have hl : lv_has ls 10 [(0, .ref a_t), (1, .int x1), (2, .int x2), (3, .int x3), (4, .int x4), (5, .int x5), (6, .int x6)] := hl
  unfold fX11_runner at h
  refine lv_aload_n hx hb dX11_runner_0 rfl (lv_at hl 0 rfl) ?_
  refine lv_iconst (v := (nI 0)) hx hb dX11_runner_1 rfl ?_
  refine va_put (D := D) (ci := 11) (ty := .int) (C := RX11) (T := TX11) (N := 16) hx hb hts qX11_runner_X11 tyX11 tyX11_ok nmX11 hown hK hP hD hS 0 rfl rfl 0 (by decide) (hts _ kX11_runner_0) (fun _ h9 => h9) rfl (by decide +kernel) rfl (by first | rfl | exact zz_fit) (Nat.le_of_ble_eq_true rfl) dX11_runner_2 (fun H locs hP hD hS => ?_)
  have hP : va_P D vwCl [(a_t, .inr (11, [.int (nI 0), .ref a_t_now, .ref a_t_kept, .int t_isKept, .ref a_t_text, .int t_length, .ref a_t_passing, .int t_at, .int t_fault, .int t_open, .int t_asked, .int t_byGun, .int t_prizeMost, .ref a_t_order, .ref a_t_times, .int t_listed])), (a_t_now, .inl (cI, 1562, .inl t_now))] H := hP
  have hD : va_D A [(a_t, .inr (11, [.int (nI 0), .ref a_t_now, .ref a_t_kept, .int t_isKept, .ref a_t_text, .int t_length, .ref a_t_passing, .int t_at, .int t_fault, .int t_open, .int t_asked, .int t_byGun, .int t_prizeMost, .ref a_t_order, .ref a_t_times, .int t_listed])), (a_t_now, .inl (cI, 1562, .inl t_now))] := hD
  refine lv_aload_n hx hb dX11_runner_5 rfl (lv_at hl 0 rfl) ?_
  obtain ⟨r1, e2, h⟩ := zz_b h
  refine zVi (As := []) (rest := []) (C := RX11) (wr := []) [0, 1] [] 0 ⟨hx, hb, hml, hown, hts⟩ (mX11_runners l D cB cI cZ a_t a_t_now a_t_kept a_t_text a_t_passing a_t_order a_t_times (nI 0) t_isKept t_length t_at t_fault t_open t_asked t_byGun t_prizeMost t_listed t_now H.size r1 e2) (cwV 0 hts gX11_runner_X11_runners rfl rfl rfl (by decide +kernel) ⟨Nat.le_of_ble_eq_true rfl, Nat.le_of_ble_eq_true rfl⟩) hK hN hZ hP hD hS hA rfl rfl rfl rfl rfl rfl rfl rfl hl.1 rfl (lv_room (Nat.le_of_ble_eq_true rfl)) dX11_runner_6 ⟨Nat.le_of_ble_eq_true rfl, Nat.le_of_ble_eq_true rfl⟩ (fun H locs hP hD hS => ?_)
  have hP : va_P D vwCl [(a_t, .inr (11, [.int (nI 0), .ref a_t_now, .ref a_t_kept, .int t_isKept, .ref a_t_text, .int t_length, .ref a_t_passing, .int t_at, .int t_fault, .int t_open, .int t_asked, .int t_byGun, .int t_prizeMost, .ref a_t_order, .ref a_t_times, .int t_listed])), (a_t_now, .inl (cI, 1562, .inl t_now))] H := hP
  have hD : va_D A [(a_t, .inr (11, [.int (nI 0), .ref a_t_now, .ref a_t_kept, .int t_isKept, .ref a_t_text, .int t_length, .ref a_t_passing, .int t_at, .int t_fault, .int t_open, .int t_asked, .int t_byGun, .int t_prizeMost, .ref a_t_order, .ref a_t_times, .int t_listed])), (a_t_now, .inl (cI, 1562, .inl t_now))] := hD
  refine lv_bipush (v := (nI 60)) hx hb dX11_runner_9 rfl ?_
  refine lv_icmp_eq (tgt := 76) hx hb dX11_runner_11 (by decide) (fun c3 => ?_) (fun c3 => ?_)
  · have h := zz_t h c3
    refine lv_iconst (v := (-1 : Int32)) hx hb dX11_runner_76 rfl ?_
    obtain ⟨j0_, g_⟩ := Prod.mk.inj (Option.some.inj h)
    obtain ⟨j1_, g_⟩ := Prod.mk.inj g_
    have j2_ := g_
    subst j0_
    subst j1_
    subst j2_
    refine W.widen (k := 1) (n := 12) (Nat.le_of_ble_eq_true rfl) (Nat.le_of_ble_eq_true rfl) ?_
    exact W.iret (v := (-1 : Int32)) hx hb hr (fun t ht hW => ⟨⟨_, (), rfl, rfl, zPost.of hP hD hK ht hW [0, 1] rfl rfl rfl⟩, hS.F ht⟩) hS.2.2 dX11_runner_77
  · have h := zz_f h c3
    refine lv_iload_n hx hb dX11_runner_14 rfl (lv_at hl 1 rfl) ?_
    refine lv_iconst (v := (nI 0)) hx hb dX11_runner_15 rfl ?_
    refine lv_iconst (v := (nI 3)) hx hb dX11_runner_16 rfl ?_
    obtain ⟨b4, e5, h⟩ := zz_b h
    refine zSi (As := [.int x1, .int (nI 0), .int (nI 3)]) (rest := []) (wr := [(a_t, .inr (11, [.int (nI 0), .ref a_t_now, .ref a_t_kept, .int t_isKept, .ref a_t_text, .int t_length, .ref a_t_passing, .int t_at, .int t_fault, .int t_open, .int t_asked, .int t_byGun, .int t_prizeMost, .ref a_t_order, .ref a_t_times, .int t_listed])), (a_t_now, .inl (cI, 1562, .inl t_now))]) [] [0, 1] ⟨hx, hb, hml, hown, hts⟩ (mX11_isIn l D cB cI cZ H.size x1 (nI 0) (nI 3) b4 e5) (va_cwS 3 hts gX11_runner_X11_isIn rfl rfl rfl (by decide +kernel) ⟨Nat.le_of_ble_eq_true rfl, Nat.le_of_ble_eq_true rfl⟩) hK hN hZ hP hD hS hA rfl rfl rfl rfl rfl rfl hl.1 rfl (lv_room (Nat.le_of_ble_eq_true rfl)) dX11_runner_17 ⟨Nat.le_of_ble_eq_true rfl, Nat.le_of_ble_eq_true rfl⟩ (fun H locs hP hD hS => ?_)
    have hP : va_P D vwCl [(a_t, .inr (11, [.int (nI 0), .ref a_t_now, .ref a_t_kept, .int t_isKept, .ref a_t_text, .int t_length, .ref a_t_passing, .int t_at, .int t_fault, .int t_open, .int t_asked, .int t_byGun, .int t_prizeMost, .ref a_t_order, .ref a_t_times, .int t_listed])), (a_t_now, .inl (cI, 1562, .inl t_now))] H := hP
    have hD : va_D A [(a_t, .inr (11, [.int (nI 0), .ref a_t_now, .ref a_t_kept, .int t_isKept, .ref a_t_text, .int t_length, .ref a_t_passing, .int t_at, .int t_fault, .int t_open, .int t_asked, .int t_byGun, .int t_prizeMost, .ref a_t_order, .ref a_t_times, .int t_listed])), (a_t_now, .inl (cI, 1562, .inl t_now))] := hD
    refine lv_if_eq (tgt := 76) hx hb dX11_runner_20 (by decide) (fun c6 => ?_) (fun c6 => ?_)
    · have h := zz_t h c6
      refine lv_iconst (v := (-1 : Int32)) hx hb dX11_runner_76 rfl ?_
      obtain ⟨j0_, g_⟩ := Prod.mk.inj (Option.some.inj h)
      obtain ⟨j1_, g_⟩ := Prod.mk.inj g_
      have j2_ := g_
      subst j0_
      subst j1_
      subst j2_
      refine W.widen (k := 1) (n := 12) (Nat.le_of_ble_eq_true rfl) (Nat.le_of_ble_eq_true rfl) ?_
      exact W.iret (v := (-1 : Int32)) hx hb hr (fun t ht hW => ⟨⟨_, (), rfl, rfl, zPost.of hP hD hK ht hW [0, 1] rfl rfl rfl⟩, hS.F ht⟩) hS.2.2 dX11_runner_77
    · have h := zz_f h c6
      refine lv_iload_n hx hb dX11_runner_23 rfl (lv_at hl 2 rfl) ?_
      refine lv_bipush (v := (nI 60)) hx hb dX11_runner_24 rfl ?_
      refine lv_sipush (v := (nI 2000)) hx hb dX11_runner_26 rfl ?_
      obtain ⟨b7, e8, h⟩ := zz_b h
      refine zSi (As := [.int x2, .int (nI 60), .int (nI 2000)]) (rest := []) (wr := [(a_t, .inr (11, [.int (nI 0), .ref a_t_now, .ref a_t_kept, .int t_isKept, .ref a_t_text, .int t_length, .ref a_t_passing, .int t_at, .int t_fault, .int t_open, .int t_asked, .int t_byGun, .int t_prizeMost, .ref a_t_order, .ref a_t_times, .int t_listed])), (a_t_now, .inl (cI, 1562, .inl t_now))]) [] [0, 1] ⟨hx, hb, hml, hown, hts⟩ (mX11_isIn l D cB cI cZ H.size x2 (nI 60) (nI 2000) b7 e8) (va_cwS 3 hts gX11_runner_X11_isIn rfl rfl rfl (by decide +kernel) ⟨Nat.le_of_ble_eq_true rfl, Nat.le_of_ble_eq_true rfl⟩) hK hN hZ hP hD hS hA rfl rfl rfl rfl rfl rfl hl.1 rfl (lv_room (Nat.le_of_ble_eq_true rfl)) dX11_runner_29 ⟨Nat.le_of_ble_eq_true rfl, Nat.le_of_ble_eq_true rfl⟩ (fun H locs hP hD hS => ?_)
      have hP : va_P D vwCl [(a_t, .inr (11, [.int (nI 0), .ref a_t_now, .ref a_t_kept, .int t_isKept, .ref a_t_text, .int t_length, .ref a_t_passing, .int t_at, .int t_fault, .int t_open, .int t_asked, .int t_byGun, .int t_prizeMost, .ref a_t_order, .ref a_t_times, .int t_listed])), (a_t_now, .inl (cI, 1562, .inl t_now))] H := hP
      have hD : va_D A [(a_t, .inr (11, [.int (nI 0), .ref a_t_now, .ref a_t_kept, .int t_isKept, .ref a_t_text, .int t_length, .ref a_t_passing, .int t_at, .int t_fault, .int t_open, .int t_asked, .int t_byGun, .int t_prizeMost, .ref a_t_order, .ref a_t_times, .int t_listed])), (a_t_now, .inl (cI, 1562, .inl t_now))] := hD
      refine lv_if_eq (tgt := 76) hx hb dX11_runner_32 (by decide) (fun c9 => ?_) (fun c9 => ?_)
      · have h := zz_t h c9
        refine lv_iconst (v := (-1 : Int32)) hx hb dX11_runner_76 rfl ?_
        obtain ⟨j0_, g_⟩ := Prod.mk.inj (Option.some.inj h)
        obtain ⟨j1_, g_⟩ := Prod.mk.inj g_
        have j2_ := g_
        subst j0_
        subst j1_
        subst j2_
        refine W.widen (k := 1) (n := 12) (Nat.le_of_ble_eq_true rfl) (Nat.le_of_ble_eq_true rfl) ?_
        exact W.iret (v := (-1 : Int32)) hx hb hr (fun t ht hW => ⟨⟨_, (), rfl, rfl, zPost.of hP hD hK ht hW [0, 1] rfl rfl rfl⟩, hS.F ht⟩) hS.2.2 dX11_runner_77
      · have h := zz_f h c9
        refine lv_iload_n hx hb dX11_runner_35 rfl (lv_at hl 3 rfl) ?_
        refine lv_iconst (v := (nI 0)) hx hb dX11_runner_36 rfl ?_
        refine lv_bipush (v := (nI 99)) hx hb dX11_runner_37 rfl ?_
        obtain ⟨b10, e11, h⟩ := zz_b h
        refine zSi (As := [.int x3, .int (nI 0), .int (nI 99)]) (rest := []) (wr := [(a_t, .inr (11, [.int (nI 0), .ref a_t_now, .ref a_t_kept, .int t_isKept, .ref a_t_text, .int t_length, .ref a_t_passing, .int t_at, .int t_fault, .int t_open, .int t_asked, .int t_byGun, .int t_prizeMost, .ref a_t_order, .ref a_t_times, .int t_listed])), (a_t_now, .inl (cI, 1562, .inl t_now))]) [] [0, 1] ⟨hx, hb, hml, hown, hts⟩ (mX11_isIn l D cB cI cZ H.size x3 (nI 0) (nI 99) b10 e11) (va_cwS 3 hts gX11_runner_X11_isIn rfl rfl rfl (by decide +kernel) ⟨Nat.le_of_ble_eq_true rfl, Nat.le_of_ble_eq_true rfl⟩) hK hN hZ hP hD hS hA rfl rfl rfl rfl rfl rfl hl.1 rfl (lv_room (Nat.le_of_ble_eq_true rfl)) dX11_runner_39 ⟨Nat.le_of_ble_eq_true rfl, Nat.le_of_ble_eq_true rfl⟩ (fun H locs hP hD hS => ?_)
        have hP : va_P D vwCl [(a_t, .inr (11, [.int (nI 0), .ref a_t_now, .ref a_t_kept, .int t_isKept, .ref a_t_text, .int t_length, .ref a_t_passing, .int t_at, .int t_fault, .int t_open, .int t_asked, .int t_byGun, .int t_prizeMost, .ref a_t_order, .ref a_t_times, .int t_listed])), (a_t_now, .inl (cI, 1562, .inl t_now))] H := hP
        have hD : va_D A [(a_t, .inr (11, [.int (nI 0), .ref a_t_now, .ref a_t_kept, .int t_isKept, .ref a_t_text, .int t_length, .ref a_t_passing, .int t_at, .int t_fault, .int t_open, .int t_asked, .int t_byGun, .int t_prizeMost, .ref a_t_order, .ref a_t_times, .int t_listed])), (a_t_now, .inl (cI, 1562, .inl t_now))] := hD
        refine lv_if_eq (tgt := 76) hx hb dX11_runner_42 (by decide) (fun c12 => ?_) (fun c12 => ?_)
        · have h := zz_t h c12
          refine lv_iconst (v := (-1 : Int32)) hx hb dX11_runner_76 rfl ?_
          obtain ⟨j0_, g_⟩ := Prod.mk.inj (Option.some.inj h)
          obtain ⟨j1_, g_⟩ := Prod.mk.inj g_
          have j2_ := g_
          subst j0_
          subst j1_
          subst j2_
          refine W.widen (k := 1) (n := 12) (Nat.le_of_ble_eq_true rfl) (Nat.le_of_ble_eq_true rfl) ?_
          exact W.iret (v := (-1 : Int32)) hx hb hr (fun t ht hW => ⟨⟨_, (), rfl, rfl, zPost.of hP hD hK ht hW [0, 1] rfl rfl rfl⟩, hS.F ht⟩) hS.2.2 dX11_runner_77
        · have h := zz_f h c12
          refine lv_iload hx hb dX11_runner_45 (lv_at hl 4 rfl) ?_
          refine lv_iconst (v := (nI 0)) hx hb dX11_runner_47 rfl ?_
          refine lv_iconst (v := (nI 1)) hx hb dX11_runner_48 rfl ?_
          obtain ⟨b13, e14, h⟩ := zz_b h
          refine zSi (As := [.int x4, .int (nI 0), .int (nI 1)]) (rest := []) (wr := [(a_t, .inr (11, [.int (nI 0), .ref a_t_now, .ref a_t_kept, .int t_isKept, .ref a_t_text, .int t_length, .ref a_t_passing, .int t_at, .int t_fault, .int t_open, .int t_asked, .int t_byGun, .int t_prizeMost, .ref a_t_order, .ref a_t_times, .int t_listed])), (a_t_now, .inl (cI, 1562, .inl t_now))]) [] [0, 1] ⟨hx, hb, hml, hown, hts⟩ (mX11_isIn l D cB cI cZ H.size x4 (nI 0) (nI 1) b13 e14) (va_cwS 3 hts gX11_runner_X11_isIn rfl rfl rfl (by decide +kernel) ⟨Nat.le_of_ble_eq_true rfl, Nat.le_of_ble_eq_true rfl⟩) hK hN hZ hP hD hS hA rfl rfl rfl rfl rfl rfl hl.1 rfl (lv_room (Nat.le_of_ble_eq_true rfl)) dX11_runner_49 ⟨Nat.le_of_ble_eq_true rfl, Nat.le_of_ble_eq_true rfl⟩ (fun H locs hP hD hS => ?_)
          have hP : va_P D vwCl [(a_t, .inr (11, [.int (nI 0), .ref a_t_now, .ref a_t_kept, .int t_isKept, .ref a_t_text, .int t_length, .ref a_t_passing, .int t_at, .int t_fault, .int t_open, .int t_asked, .int t_byGun, .int t_prizeMost, .ref a_t_order, .ref a_t_times, .int t_listed])), (a_t_now, .inl (cI, 1562, .inl t_now))] H := hP
          have hD : va_D A [(a_t, .inr (11, [.int (nI 0), .ref a_t_now, .ref a_t_kept, .int t_isKept, .ref a_t_text, .int t_length, .ref a_t_passing, .int t_at, .int t_fault, .int t_open, .int t_asked, .int t_byGun, .int t_prizeMost, .ref a_t_order, .ref a_t_times, .int t_listed])), (a_t_now, .inl (cI, 1562, .inl t_now))] := hD
          refine lv_if_eq (tgt := 76) hx hb dX11_runner_52 (by decide) (fun c15 => ?_) (fun c15 => ?_)
          · have h := zz_t h c15
            refine lv_iconst (v := (-1 : Int32)) hx hb dX11_runner_76 rfl ?_
            obtain ⟨j0_, g_⟩ := Prod.mk.inj (Option.some.inj h)
            obtain ⟨j1_, g_⟩ := Prod.mk.inj g_
            have j2_ := g_
            subst j0_
            subst j1_
            subst j2_
            refine W.widen (k := 1) (n := 12) (Nat.le_of_ble_eq_true rfl) (Nat.le_of_ble_eq_true rfl) ?_
            exact W.iret (v := (-1 : Int32)) hx hb hr (fun t ht hW => ⟨⟨_, (), rfl, rfl, zPost.of hP hD hK ht hW [0, 1] rfl rfl rfl⟩, hS.F ht⟩) hS.2.2 dX11_runner_77
          · have h := zz_f h c15
            refine lv_iload hx hb dX11_runner_55 (lv_at hl 5 rfl) ?_
            refine lv_iconst (v := (nI 0)) hx hb dX11_runner_57 rfl ?_
            refine lv_bipush (v := (nI 9)) hx hb dX11_runner_58 rfl ?_
            obtain ⟨b16, e17, h⟩ := zz_b h
            refine zSi (As := [.int x5, .int (nI 0), .int (nI 9)]) (rest := []) (wr := [(a_t, .inr (11, [.int (nI 0), .ref a_t_now, .ref a_t_kept, .int t_isKept, .ref a_t_text, .int t_length, .ref a_t_passing, .int t_at, .int t_fault, .int t_open, .int t_asked, .int t_byGun, .int t_prizeMost, .ref a_t_order, .ref a_t_times, .int t_listed])), (a_t_now, .inl (cI, 1562, .inl t_now))]) [] [0, 1] ⟨hx, hb, hml, hown, hts⟩ (mX11_isIn l D cB cI cZ H.size x5 (nI 0) (nI 9) b16 e17) (va_cwS 3 hts gX11_runner_X11_isIn rfl rfl rfl (by decide +kernel) ⟨Nat.le_of_ble_eq_true rfl, Nat.le_of_ble_eq_true rfl⟩) hK hN hZ hP hD hS hA rfl rfl rfl rfl rfl rfl hl.1 rfl (lv_room (Nat.le_of_ble_eq_true rfl)) dX11_runner_60 ⟨Nat.le_of_ble_eq_true rfl, Nat.le_of_ble_eq_true rfl⟩ (fun H locs hP hD hS => ?_)
            have hP : va_P D vwCl [(a_t, .inr (11, [.int (nI 0), .ref a_t_now, .ref a_t_kept, .int t_isKept, .ref a_t_text, .int t_length, .ref a_t_passing, .int t_at, .int t_fault, .int t_open, .int t_asked, .int t_byGun, .int t_prizeMost, .ref a_t_order, .ref a_t_times, .int t_listed])), (a_t_now, .inl (cI, 1562, .inl t_now))] H := hP
            have hD : va_D A [(a_t, .inr (11, [.int (nI 0), .ref a_t_now, .ref a_t_kept, .int t_isKept, .ref a_t_text, .int t_length, .ref a_t_passing, .int t_at, .int t_fault, .int t_open, .int t_asked, .int t_byGun, .int t_prizeMost, .ref a_t_order, .ref a_t_times, .int t_listed])), (a_t_now, .inl (cI, 1562, .inl t_now))] := hD
            refine lv_if_eq (tgt := 76) hx hb dX11_runner_63 (by decide) (fun c18 => ?_) (fun c18 => ?_)
            · have h := zz_t h c18
              refine lv_iconst (v := (-1 : Int32)) hx hb dX11_runner_76 rfl ?_
              obtain ⟨j0_, g_⟩ := Prod.mk.inj (Option.some.inj h)
              obtain ⟨j1_, g_⟩ := Prod.mk.inj g_
              have j2_ := g_
              subst j0_
              subst j1_
              subst j2_
              refine W.widen (k := 1) (n := 12) (Nat.le_of_ble_eq_true rfl) (Nat.le_of_ble_eq_true rfl) ?_
              exact W.iret (v := (-1 : Int32)) hx hb hr (fun t ht hW => ⟨⟨_, (), rfl, rfl, zPost.of hP hD hK ht hW [0, 1] rfl rfl rfl⟩, hS.F ht⟩) hS.2.2 dX11_runner_77
            · have h := zz_f h c18
              refine lv_iload hx hb dX11_runner_66 (lv_at hl 6 rfl) ?_
              refine lv_iconst (v := (nI 0)) hx hb dX11_runner_68 rfl ?_
              refine lv_iconst (v := (nI 5)) hx hb dX11_runner_69 rfl ?_
              obtain ⟨b19, e20, h⟩ := zz_b h
              refine zSi (As := [.int x6, .int (nI 0), .int (nI 5)]) (rest := []) (wr := [(a_t, .inr (11, [.int (nI 0), .ref a_t_now, .ref a_t_kept, .int t_isKept, .ref a_t_text, .int t_length, .ref a_t_passing, .int t_at, .int t_fault, .int t_open, .int t_asked, .int t_byGun, .int t_prizeMost, .ref a_t_order, .ref a_t_times, .int t_listed])), (a_t_now, .inl (cI, 1562, .inl t_now))]) [] [0, 1] ⟨hx, hb, hml, hown, hts⟩ (mX11_isIn l D cB cI cZ H.size x6 (nI 0) (nI 5) b19 e20) (va_cwS 3 hts gX11_runner_X11_isIn rfl rfl rfl (by decide +kernel) ⟨Nat.le_of_ble_eq_true rfl, Nat.le_of_ble_eq_true rfl⟩) hK hN hZ hP hD hS hA rfl rfl rfl rfl rfl rfl hl.1 rfl (lv_room (Nat.le_of_ble_eq_true rfl)) dX11_runner_70 ⟨Nat.le_of_ble_eq_true rfl, Nat.le_of_ble_eq_true rfl⟩ (fun H locs hP hD hS => ?_)
              have hP : va_P D vwCl [(a_t, .inr (11, [.int (nI 0), .ref a_t_now, .ref a_t_kept, .int t_isKept, .ref a_t_text, .int t_length, .ref a_t_passing, .int t_at, .int t_fault, .int t_open, .int t_asked, .int t_byGun, .int t_prizeMost, .ref a_t_order, .ref a_t_times, .int t_listed])), (a_t_now, .inl (cI, 1562, .inl t_now))] H := hP
              have hD : va_D A [(a_t, .inr (11, [.int (nI 0), .ref a_t_now, .ref a_t_kept, .int t_isKept, .ref a_t_text, .int t_length, .ref a_t_passing, .int t_at, .int t_fault, .int t_open, .int t_asked, .int t_byGun, .int t_prizeMost, .ref a_t_order, .ref a_t_times, .int t_listed])), (a_t_now, .inl (cI, 1562, .inl t_now))] := hD
              refine lv_if_ne (tgt := 78) hx hb dX11_runner_73 (by decide) (fun c21 => ?_) (fun c21 => ?_)
              · have h := zz_f h c21
                refine lv_aload_n hx hb dX11_runner_78 rfl (lv_at hl 0 rfl) ?_
                obtain ⟨r22, e23, h⟩ := zz_b h
                refine zVi (As := []) (rest := []) (C := RX11) (wr := []) [0, 1] [] 0 ⟨hx, hb, hml, hown, hts⟩ (mX11_runners l D cB cI cZ a_t a_t_now a_t_kept a_t_text a_t_passing a_t_order a_t_times (nI 0) t_isKept t_length t_at t_fault t_open t_asked t_byGun t_prizeMost t_listed t_now H.size r22 e23) (cwV 0 hts gX11_runner_X11_runners rfl rfl rfl (by decide +kernel) ⟨Nat.le_of_ble_eq_true rfl, Nat.le_of_ble_eq_true rfl⟩) hK hN hZ hP hD hS hA rfl rfl rfl rfl rfl rfl rfl rfl hl.1 rfl (lv_room (Nat.le_of_ble_eq_true rfl)) dX11_runner_79 ⟨Nat.le_of_ble_eq_true rfl, Nat.le_of_ble_eq_true rfl⟩ (fun H locs hP hD hS => ?_)
                have hP : va_P D vwCl [(a_t, .inr (11, [.int (nI 0), .ref a_t_now, .ref a_t_kept, .int t_isKept, .ref a_t_text, .int t_length, .ref a_t_passing, .int t_at, .int t_fault, .int t_open, .int t_asked, .int t_byGun, .int t_prizeMost, .ref a_t_order, .ref a_t_times, .int t_listed])), (a_t_now, .inl (cI, 1562, .inl t_now))] H := hP
                have hD : va_D A [(a_t, .inr (11, [.int (nI 0), .ref a_t_now, .ref a_t_kept, .int t_isKept, .ref a_t_text, .int t_length, .ref a_t_passing, .int t_at, .int t_fault, .int t_open, .int t_asked, .int t_byGun, .int t_prizeMost, .ref a_t_order, .ref a_t_times, .int t_listed])), (a_t_now, .inl (cI, 1562, .inl t_now))] := hD
                refine lv_istore (lv' := [(7, .int r22), (0, .ref a_t), (1, .int x1), (2, .int x2), (3, .int x3), (4, .int x4), (5, .int x5), (6, .int x6)]) hx hb dX11_runner_82 hl (by decide) rfl (fun ls hl => ?_)
                refine lv_bipush (v := (nI 12)) hx hb dX11_runner_84 rfl ?_
                refine znewi (N' := 12) hx hb (hts _ kX11_runner_2) hK hP hD hS hA (by decide) rfl (Nat.le_of_ble_eq_true rfl) (Nat.le_of_ble_eq_true rfl) (Nat.le_of_ble_eq_true rfl) dX11_runner_86 (fun a_new_86 H hP hD hS => ?_)
                have hP : va_P D vwCl [(a_t, .inr (11, [.int (nI 0), .ref a_t_now, .ref a_t_kept, .int t_isKept, .ref a_t_text, .int t_length, .ref a_t_passing, .int t_at, .int t_fault, .int t_open, .int t_asked, .int t_byGun, .int t_prizeMost, .ref a_t_order, .ref a_t_times, .int t_listed])), (a_t_now, .inl (cI, 1562, .inl t_now)), (a_new_86, .inl (cI, 12, .inl (fun _ => 0)))] H := hP
                have hD : va_D A [(a_t, .inr (11, [.int (nI 0), .ref a_t_now, .ref a_t_kept, .int t_isKept, .ref a_t_text, .int t_length, .ref a_t_passing, .int t_at, .int t_fault, .int t_open, .int t_asked, .int t_byGun, .int t_prizeMost, .ref a_t_order, .ref a_t_times, .int t_listed])), (a_t_now, .inl (cI, 1562, .inl t_now)), (a_new_86, .inl (cI, 12, .inl (fun _ => 0)))] := hD
                refine lv_dup hx hb dX11_runner_88 rfl ?_
                refine lv_iconst (v := (nI 0)) hx hb dX11_runner_89 rfl ?_
                refine lv_iload_n hx hb dX11_runner_90 rfl (lv_at hl 2 rfl) ?_
                obtain ⟨i24, h⟩ := zz_i h
                refine va_iast hx hb hK hP hD hS 2 1 rfl rfl i24 dX11_runner_91 (fun H locs hP hD hS => ?_)
                have hP : va_P D vwCl [(a_t, .inr (11, [.int (nI 0), .ref a_t_now, .ref a_t_kept, .int t_isKept, .ref a_t_text, .int t_length, .ref a_t_passing, .int t_at, .int t_fault, .int t_open, .int t_asked, .int t_byGun, .int t_prizeMost, .ref a_t_order, .ref a_t_times, .int t_listed])), (a_t_now, .inl (cI, 1562, .inl t_now)), (a_new_86, .inl (cI, 12, .inl (upd (fun _ => 0) ((nI 0)).toNatClampNeg x1)))] H := hP
                have hD : va_D A [(a_t, .inr (11, [.int (nI 0), .ref a_t_now, .ref a_t_kept, .int t_isKept, .ref a_t_text, .int t_length, .ref a_t_passing, .int t_at, .int t_fault, .int t_open, .int t_asked, .int t_byGun, .int t_prizeMost, .ref a_t_order, .ref a_t_times, .int t_listed])), (a_t_now, .inl (cI, 1562, .inl t_now)), (a_new_86, .inl (cI, 12, .inl (upd (fun _ => 0) ((nI 0)).toNatClampNeg x1)))] := hD
                refine lv_dup hx hb dX11_runner_92 rfl ?_
                refine lv_iconst (v := (nI 1)) hx hb dX11_runner_93 rfl ?_
                refine lv_iload_n hx hb dX11_runner_94 rfl (lv_at hl 3 rfl) ?_
                obtain ⟨i25, h⟩ := zz_i h
                refine va_iast hx hb hK hP hD hS 2 1 rfl rfl i25 dX11_runner_95 (fun H locs hP hD hS => ?_)
                have hP : va_P D vwCl [(a_t, .inr (11, [.int (nI 0), .ref a_t_now, .ref a_t_kept, .int t_isKept, .ref a_t_text, .int t_length, .ref a_t_passing, .int t_at, .int t_fault, .int t_open, .int t_asked, .int t_byGun, .int t_prizeMost, .ref a_t_order, .ref a_t_times, .int t_listed])), (a_t_now, .inl (cI, 1562, .inl t_now)), (a_new_86, .inl (cI, 12, .inl (upd (upd (fun _ => 0) ((nI 0)).toNatClampNeg x1) ((nI 1)).toNatClampNeg x2)))] H := hP
                have hD : va_D A [(a_t, .inr (11, [.int (nI 0), .ref a_t_now, .ref a_t_kept, .int t_isKept, .ref a_t_text, .int t_length, .ref a_t_passing, .int t_at, .int t_fault, .int t_open, .int t_asked, .int t_byGun, .int t_prizeMost, .ref a_t_order, .ref a_t_times, .int t_listed])), (a_t_now, .inl (cI, 1562, .inl t_now)), (a_new_86, .inl (cI, 12, .inl (upd (upd (fun _ => 0) ((nI 0)).toNatClampNeg x1) ((nI 1)).toNatClampNeg x2)))] := hD
                refine lv_dup hx hb dX11_runner_96 rfl ?_
                refine lv_iconst (v := (nI 2)) hx hb dX11_runner_97 rfl ?_
                refine lv_iload_n hx hb dX11_runner_98 rfl (lv_at hl 4 rfl) ?_
                obtain ⟨i26, h⟩ := zz_i h
                refine va_iast hx hb hK hP hD hS 2 1 rfl rfl i26 dX11_runner_99 (fun H locs hP hD hS => ?_)
                have hP : va_P D vwCl [(a_t, .inr (11, [.int (nI 0), .ref a_t_now, .ref a_t_kept, .int t_isKept, .ref a_t_text, .int t_length, .ref a_t_passing, .int t_at, .int t_fault, .int t_open, .int t_asked, .int t_byGun, .int t_prizeMost, .ref a_t_order, .ref a_t_times, .int t_listed])), (a_t_now, .inl (cI, 1562, .inl t_now)), (a_new_86, .inl (cI, 12, .inl (upd (upd (upd (fun _ => 0) ((nI 0)).toNatClampNeg x1) ((nI 1)).toNatClampNeg x2) ((nI 2)).toNatClampNeg x3)))] H := hP
                have hD : va_D A [(a_t, .inr (11, [.int (nI 0), .ref a_t_now, .ref a_t_kept, .int t_isKept, .ref a_t_text, .int t_length, .ref a_t_passing, .int t_at, .int t_fault, .int t_open, .int t_asked, .int t_byGun, .int t_prizeMost, .ref a_t_order, .ref a_t_times, .int t_listed])), (a_t_now, .inl (cI, 1562, .inl t_now)), (a_new_86, .inl (cI, 12, .inl (upd (upd (upd (fun _ => 0) ((nI 0)).toNatClampNeg x1) ((nI 1)).toNatClampNeg x2) ((nI 2)).toNatClampNeg x3)))] := hD
                refine lv_dup hx hb dX11_runner_100 rfl ?_
                refine lv_iconst (v := (nI 3)) hx hb dX11_runner_101 rfl ?_
                refine lv_iload hx hb dX11_runner_102 (lv_at hl 5 rfl) ?_
                obtain ⟨i27, h⟩ := zz_i h
                refine va_iast hx hb hK hP hD hS 2 1 rfl rfl i27 dX11_runner_104 (fun H locs hP hD hS => ?_)
                have hP : va_P D vwCl [(a_t, .inr (11, [.int (nI 0), .ref a_t_now, .ref a_t_kept, .int t_isKept, .ref a_t_text, .int t_length, .ref a_t_passing, .int t_at, .int t_fault, .int t_open, .int t_asked, .int t_byGun, .int t_prizeMost, .ref a_t_order, .ref a_t_times, .int t_listed])), (a_t_now, .inl (cI, 1562, .inl t_now)), (a_new_86, .inl (cI, 12, .inl (upd (upd (upd (upd (fun _ => 0) ((nI 0)).toNatClampNeg x1) ((nI 1)).toNatClampNeg x2) ((nI 2)).toNatClampNeg x3) ((nI 3)).toNatClampNeg x4)))] H := hP
                have hD : va_D A [(a_t, .inr (11, [.int (nI 0), .ref a_t_now, .ref a_t_kept, .int t_isKept, .ref a_t_text, .int t_length, .ref a_t_passing, .int t_at, .int t_fault, .int t_open, .int t_asked, .int t_byGun, .int t_prizeMost, .ref a_t_order, .ref a_t_times, .int t_listed])), (a_t_now, .inl (cI, 1562, .inl t_now)), (a_new_86, .inl (cI, 12, .inl (upd (upd (upd (upd (fun _ => 0) ((nI 0)).toNatClampNeg x1) ((nI 1)).toNatClampNeg x2) ((nI 2)).toNatClampNeg x3) ((nI 3)).toNatClampNeg x4)))] := hD
                refine lv_dup hx hb dX11_runner_105 rfl ?_
                refine lv_iconst (v := (nI 4)) hx hb dX11_runner_106 rfl ?_
                refine lv_iload hx hb dX11_runner_107 (lv_at hl 6 rfl) ?_
                obtain ⟨i28, h⟩ := zz_i h
                refine va_iast hx hb hK hP hD hS 2 1 rfl rfl i28 dX11_runner_109 (fun H locs hP hD hS => ?_)
                have hP : va_P D vwCl [(a_t, .inr (11, [.int (nI 0), .ref a_t_now, .ref a_t_kept, .int t_isKept, .ref a_t_text, .int t_length, .ref a_t_passing, .int t_at, .int t_fault, .int t_open, .int t_asked, .int t_byGun, .int t_prizeMost, .ref a_t_order, .ref a_t_times, .int t_listed])), (a_t_now, .inl (cI, 1562, .inl t_now)), (a_new_86, .inl (cI, 12, .inl (upd (upd (upd (upd (upd (fun _ => 0) ((nI 0)).toNatClampNeg x1) ((nI 1)).toNatClampNeg x2) ((nI 2)).toNatClampNeg x3) ((nI 3)).toNatClampNeg x4) ((nI 4)).toNatClampNeg x5)))] H := hP
                have hD : va_D A [(a_t, .inr (11, [.int (nI 0), .ref a_t_now, .ref a_t_kept, .int t_isKept, .ref a_t_text, .int t_length, .ref a_t_passing, .int t_at, .int t_fault, .int t_open, .int t_asked, .int t_byGun, .int t_prizeMost, .ref a_t_order, .ref a_t_times, .int t_listed])), (a_t_now, .inl (cI, 1562, .inl t_now)), (a_new_86, .inl (cI, 12, .inl (upd (upd (upd (upd (upd (fun _ => 0) ((nI 0)).toNatClampNeg x1) ((nI 1)).toNatClampNeg x2) ((nI 2)).toNatClampNeg x3) ((nI 3)).toNatClampNeg x4) ((nI 4)).toNatClampNeg x5)))] := hD
                refine lv_dup hx hb dX11_runner_110 rfl ?_
                refine lv_iconst (v := (nI 5)) hx hb dX11_runner_111 rfl ?_
                refine lv_iload hx hb dX11_runner_112 (lv_at hl 7 rfl) ?_
                obtain ⟨i29, h⟩ := zz_i h
                refine va_iast hx hb hK hP hD hS 2 1 rfl rfl i29 dX11_runner_114 (fun H locs hP hD hS => ?_)
                have hP : va_P D vwCl [(a_t, .inr (11, [.int (nI 0), .ref a_t_now, .ref a_t_kept, .int t_isKept, .ref a_t_text, .int t_length, .ref a_t_passing, .int t_at, .int t_fault, .int t_open, .int t_asked, .int t_byGun, .int t_prizeMost, .ref a_t_order, .ref a_t_times, .int t_listed])), (a_t_now, .inl (cI, 1562, .inl t_now)), (a_new_86, .inl (cI, 12, .inl (upd (upd (upd (upd (upd (upd (fun _ => 0) ((nI 0)).toNatClampNeg x1) ((nI 1)).toNatClampNeg x2) ((nI 2)).toNatClampNeg x3) ((nI 3)).toNatClampNeg x4) ((nI 4)).toNatClampNeg x5) ((nI 5)).toNatClampNeg x6)))] H := hP
                have hD : va_D A [(a_t, .inr (11, [.int (nI 0), .ref a_t_now, .ref a_t_kept, .int t_isKept, .ref a_t_text, .int t_length, .ref a_t_passing, .int t_at, .int t_fault, .int t_open, .int t_asked, .int t_byGun, .int t_prizeMost, .ref a_t_order, .ref a_t_times, .int t_listed])), (a_t_now, .inl (cI, 1562, .inl t_now)), (a_new_86, .inl (cI, 12, .inl (upd (upd (upd (upd (upd (upd (fun _ => 0) ((nI 0)).toNatClampNeg x1) ((nI 1)).toNatClampNeg x2) ((nI 2)).toNatClampNeg x3) ((nI 3)).toNatClampNeg x4) ((nI 4)).toNatClampNeg x5) ((nI 5)).toNatClampNeg x6)))] := hD
                refine lv_dup hx hb dX11_runner_115 rfl ?_
                refine lv_bipush (v := (nI 6)) hx hb dX11_runner_116 rfl ?_
                refine lv_iconst (v := (nI 0)) hx hb dX11_runner_118 rfl ?_
                obtain ⟨i30, h⟩ := zz_i h
                refine va_iast hx hb hK hP hD hS 2 1 rfl rfl i30 dX11_runner_119 (fun H locs hP hD hS => ?_)
                have hP : va_P D vwCl [(a_t, .inr (11, [.int (nI 0), .ref a_t_now, .ref a_t_kept, .int t_isKept, .ref a_t_text, .int t_length, .ref a_t_passing, .int t_at, .int t_fault, .int t_open, .int t_asked, .int t_byGun, .int t_prizeMost, .ref a_t_order, .ref a_t_times, .int t_listed])), (a_t_now, .inl (cI, 1562, .inl t_now)), (a_new_86, .inl (cI, 12, .inl (upd (upd (upd (upd (upd (upd (upd (fun _ => 0) ((nI 0)).toNatClampNeg x1) ((nI 1)).toNatClampNeg x2) ((nI 2)).toNatClampNeg x3) ((nI 3)).toNatClampNeg x4) ((nI 4)).toNatClampNeg x5) ((nI 5)).toNatClampNeg x6) ((nI 6)).toNatClampNeg (nI 0))))] H := hP
                have hD : va_D A [(a_t, .inr (11, [.int (nI 0), .ref a_t_now, .ref a_t_kept, .int t_isKept, .ref a_t_text, .int t_length, .ref a_t_passing, .int t_at, .int t_fault, .int t_open, .int t_asked, .int t_byGun, .int t_prizeMost, .ref a_t_order, .ref a_t_times, .int t_listed])), (a_t_now, .inl (cI, 1562, .inl t_now)), (a_new_86, .inl (cI, 12, .inl (upd (upd (upd (upd (upd (upd (upd (fun _ => 0) ((nI 0)).toNatClampNeg x1) ((nI 1)).toNatClampNeg x2) ((nI 2)).toNatClampNeg x3) ((nI 3)).toNatClampNeg x4) ((nI 4)).toNatClampNeg x5) ((nI 5)).toNatClampNeg x6) ((nI 6)).toNatClampNeg (nI 0))))] := hD
                refine lv_dup hx hb dX11_runner_120 rfl ?_
                refine lv_bipush (v := (nI 7)) hx hb dX11_runner_121 rfl ?_
                refine lv_iconst (v := (nI 0)) hx hb dX11_runner_123 rfl ?_
                obtain ⟨i31, h⟩ := zz_i h
                refine va_iast hx hb hK hP hD hS 2 1 rfl rfl i31 dX11_runner_124 (fun H locs hP hD hS => ?_)
                have hP : va_P D vwCl [(a_t, .inr (11, [.int (nI 0), .ref a_t_now, .ref a_t_kept, .int t_isKept, .ref a_t_text, .int t_length, .ref a_t_passing, .int t_at, .int t_fault, .int t_open, .int t_asked, .int t_byGun, .int t_prizeMost, .ref a_t_order, .ref a_t_times, .int t_listed])), (a_t_now, .inl (cI, 1562, .inl t_now)), (a_new_86, .inl (cI, 12, .inl (upd (upd (upd (upd (upd (upd (upd (upd (fun _ => 0) ((nI 0)).toNatClampNeg x1) ((nI 1)).toNatClampNeg x2) ((nI 2)).toNatClampNeg x3) ((nI 3)).toNatClampNeg x4) ((nI 4)).toNatClampNeg x5) ((nI 5)).toNatClampNeg x6) ((nI 6)).toNatClampNeg (nI 0)) ((nI 7)).toNatClampNeg (nI 0))))] H := hP
                have hD : va_D A [(a_t, .inr (11, [.int (nI 0), .ref a_t_now, .ref a_t_kept, .int t_isKept, .ref a_t_text, .int t_length, .ref a_t_passing, .int t_at, .int t_fault, .int t_open, .int t_asked, .int t_byGun, .int t_prizeMost, .ref a_t_order, .ref a_t_times, .int t_listed])), (a_t_now, .inl (cI, 1562, .inl t_now)), (a_new_86, .inl (cI, 12, .inl (upd (upd (upd (upd (upd (upd (upd (upd (fun _ => 0) ((nI 0)).toNatClampNeg x1) ((nI 1)).toNatClampNeg x2) ((nI 2)).toNatClampNeg x3) ((nI 3)).toNatClampNeg x4) ((nI 4)).toNatClampNeg x5) ((nI 5)).toNatClampNeg x6) ((nI 6)).toNatClampNeg (nI 0)) ((nI 7)).toNatClampNeg (nI 0))))] := hD
                refine lv_dup hx hb dX11_runner_125 rfl ?_
                refine lv_bipush (v := (nI 8)) hx hb dX11_runner_126 rfl ?_
                refine lv_iconst (v := (nI 0)) hx hb dX11_runner_128 rfl ?_
                obtain ⟨i32, h⟩ := zz_i h
                refine va_iast hx hb hK hP hD hS 2 1 rfl rfl i32 dX11_runner_129 (fun H locs hP hD hS => ?_)
                have hP : va_P D vwCl [(a_t, .inr (11, [.int (nI 0), .ref a_t_now, .ref a_t_kept, .int t_isKept, .ref a_t_text, .int t_length, .ref a_t_passing, .int t_at, .int t_fault, .int t_open, .int t_asked, .int t_byGun, .int t_prizeMost, .ref a_t_order, .ref a_t_times, .int t_listed])), (a_t_now, .inl (cI, 1562, .inl t_now)), (a_new_86, .inl (cI, 12, .inl (upd (upd (upd (upd (upd (upd (upd (upd (upd (fun _ => 0) ((nI 0)).toNatClampNeg x1) ((nI 1)).toNatClampNeg x2) ((nI 2)).toNatClampNeg x3) ((nI 3)).toNatClampNeg x4) ((nI 4)).toNatClampNeg x5) ((nI 5)).toNatClampNeg x6) ((nI 6)).toNatClampNeg (nI 0)) ((nI 7)).toNatClampNeg (nI 0)) ((nI 8)).toNatClampNeg (nI 0))))] H := hP
                have hD : va_D A [(a_t, .inr (11, [.int (nI 0), .ref a_t_now, .ref a_t_kept, .int t_isKept, .ref a_t_text, .int t_length, .ref a_t_passing, .int t_at, .int t_fault, .int t_open, .int t_asked, .int t_byGun, .int t_prizeMost, .ref a_t_order, .ref a_t_times, .int t_listed])), (a_t_now, .inl (cI, 1562, .inl t_now)), (a_new_86, .inl (cI, 12, .inl (upd (upd (upd (upd (upd (upd (upd (upd (upd (fun _ => 0) ((nI 0)).toNatClampNeg x1) ((nI 1)).toNatClampNeg x2) ((nI 2)).toNatClampNeg x3) ((nI 3)).toNatClampNeg x4) ((nI 4)).toNatClampNeg x5) ((nI 5)).toNatClampNeg x6) ((nI 6)).toNatClampNeg (nI 0)) ((nI 7)).toNatClampNeg (nI 0)) ((nI 8)).toNatClampNeg (nI 0))))] := hD
                refine lv_dup hx hb dX11_runner_130 rfl ?_
                refine lv_bipush (v := (nI 9)) hx hb dX11_runner_131 rfl ?_
                refine lv_iconst (v := (-1 : Int32)) hx hb dX11_runner_133 rfl ?_
                obtain ⟨i33, h⟩ := zz_i h
                refine va_iast hx hb hK hP hD hS 2 1 rfl rfl i33 dX11_runner_134 (fun H locs hP hD hS => ?_)
                have hP : va_P D vwCl [(a_t, .inr (11, [.int (nI 0), .ref a_t_now, .ref a_t_kept, .int t_isKept, .ref a_t_text, .int t_length, .ref a_t_passing, .int t_at, .int t_fault, .int t_open, .int t_asked, .int t_byGun, .int t_prizeMost, .ref a_t_order, .ref a_t_times, .int t_listed])), (a_t_now, .inl (cI, 1562, .inl t_now)), (a_new_86, .inl (cI, 12, .inl (upd (upd (upd (upd (upd (upd (upd (upd (upd (upd (fun _ => 0) ((nI 0)).toNatClampNeg x1) ((nI 1)).toNatClampNeg x2) ((nI 2)).toNatClampNeg x3) ((nI 3)).toNatClampNeg x4) ((nI 4)).toNatClampNeg x5) ((nI 5)).toNatClampNeg x6) ((nI 6)).toNatClampNeg (nI 0)) ((nI 7)).toNatClampNeg (nI 0)) ((nI 8)).toNatClampNeg (nI 0)) ((nI 9)).toNatClampNeg (-1 : Int32))))] H := hP
                have hD : va_D A [(a_t, .inr (11, [.int (nI 0), .ref a_t_now, .ref a_t_kept, .int t_isKept, .ref a_t_text, .int t_length, .ref a_t_passing, .int t_at, .int t_fault, .int t_open, .int t_asked, .int t_byGun, .int t_prizeMost, .ref a_t_order, .ref a_t_times, .int t_listed])), (a_t_now, .inl (cI, 1562, .inl t_now)), (a_new_86, .inl (cI, 12, .inl (upd (upd (upd (upd (upd (upd (upd (upd (upd (upd (fun _ => 0) ((nI 0)).toNatClampNeg x1) ((nI 1)).toNatClampNeg x2) ((nI 2)).toNatClampNeg x3) ((nI 3)).toNatClampNeg x4) ((nI 4)).toNatClampNeg x5) ((nI 5)).toNatClampNeg x6) ((nI 6)).toNatClampNeg (nI 0)) ((nI 7)).toNatClampNeg (nI 0)) ((nI 8)).toNatClampNeg (nI 0)) ((nI 9)).toNatClampNeg (-1 : Int32))))] := hD
                refine lv_dup hx hb dX11_runner_135 rfl ?_
                refine lv_bipush (v := (nI 10)) hx hb dX11_runner_136 rfl ?_
                refine lv_iconst (v := (nI 0)) hx hb dX11_runner_138 rfl ?_
                obtain ⟨i34, h⟩ := zz_i h
                refine va_iast hx hb hK hP hD hS 2 1 rfl rfl i34 dX11_runner_139 (fun H locs hP hD hS => ?_)
                have hP : va_P D vwCl [(a_t, .inr (11, [.int (nI 0), .ref a_t_now, .ref a_t_kept, .int t_isKept, .ref a_t_text, .int t_length, .ref a_t_passing, .int t_at, .int t_fault, .int t_open, .int t_asked, .int t_byGun, .int t_prizeMost, .ref a_t_order, .ref a_t_times, .int t_listed])), (a_t_now, .inl (cI, 1562, .inl t_now)), (a_new_86, .inl (cI, 12, .inl (upd (upd (upd (upd (upd (upd (upd (upd (upd (upd (upd (fun _ => 0) ((nI 0)).toNatClampNeg x1) ((nI 1)).toNatClampNeg x2) ((nI 2)).toNatClampNeg x3) ((nI 3)).toNatClampNeg x4) ((nI 4)).toNatClampNeg x5) ((nI 5)).toNatClampNeg x6) ((nI 6)).toNatClampNeg (nI 0)) ((nI 7)).toNatClampNeg (nI 0)) ((nI 8)).toNatClampNeg (nI 0)) ((nI 9)).toNatClampNeg (-1 : Int32)) ((nI 10)).toNatClampNeg (nI 0))))] H := hP
                have hD : va_D A [(a_t, .inr (11, [.int (nI 0), .ref a_t_now, .ref a_t_kept, .int t_isKept, .ref a_t_text, .int t_length, .ref a_t_passing, .int t_at, .int t_fault, .int t_open, .int t_asked, .int t_byGun, .int t_prizeMost, .ref a_t_order, .ref a_t_times, .int t_listed])), (a_t_now, .inl (cI, 1562, .inl t_now)), (a_new_86, .inl (cI, 12, .inl (upd (upd (upd (upd (upd (upd (upd (upd (upd (upd (upd (fun _ => 0) ((nI 0)).toNatClampNeg x1) ((nI 1)).toNatClampNeg x2) ((nI 2)).toNatClampNeg x3) ((nI 3)).toNatClampNeg x4) ((nI 4)).toNatClampNeg x5) ((nI 5)).toNatClampNeg x6) ((nI 6)).toNatClampNeg (nI 0)) ((nI 7)).toNatClampNeg (nI 0)) ((nI 8)).toNatClampNeg (nI 0)) ((nI 9)).toNatClampNeg (-1 : Int32)) ((nI 10)).toNatClampNeg (nI 0))))] := hD
                refine lv_dup hx hb dX11_runner_140 rfl ?_
                refine lv_bipush (v := (nI 11)) hx hb dX11_runner_141 rfl ?_
                refine lv_iconst (v := (nI 0)) hx hb dX11_runner_143 rfl ?_
                obtain ⟨i35, h⟩ := zz_i h
                refine va_iast hx hb hK hP hD hS 2 1 rfl rfl i35 dX11_runner_144 (fun H locs hP hD hS => ?_)
                have hP : va_P D vwCl [(a_t, .inr (11, [.int (nI 0), .ref a_t_now, .ref a_t_kept, .int t_isKept, .ref a_t_text, .int t_length, .ref a_t_passing, .int t_at, .int t_fault, .int t_open, .int t_asked, .int t_byGun, .int t_prizeMost, .ref a_t_order, .ref a_t_times, .int t_listed])), (a_t_now, .inl (cI, 1562, .inl t_now)), (a_new_86, .inl (cI, 12, .inl (upd (upd (upd (upd (upd (upd (upd (upd (upd (upd (upd (upd (fun _ => 0) ((nI 0)).toNatClampNeg x1) ((nI 1)).toNatClampNeg x2) ((nI 2)).toNatClampNeg x3) ((nI 3)).toNatClampNeg x4) ((nI 4)).toNatClampNeg x5) ((nI 5)).toNatClampNeg x6) ((nI 6)).toNatClampNeg (nI 0)) ((nI 7)).toNatClampNeg (nI 0)) ((nI 8)).toNatClampNeg (nI 0)) ((nI 9)).toNatClampNeg (-1 : Int32)) ((nI 10)).toNatClampNeg (nI 0)) ((nI 11)).toNatClampNeg (nI 0))))] H := hP
                have hD : va_D A [(a_t, .inr (11, [.int (nI 0), .ref a_t_now, .ref a_t_kept, .int t_isKept, .ref a_t_text, .int t_length, .ref a_t_passing, .int t_at, .int t_fault, .int t_open, .int t_asked, .int t_byGun, .int t_prizeMost, .ref a_t_order, .ref a_t_times, .int t_listed])), (a_t_now, .inl (cI, 1562, .inl t_now)), (a_new_86, .inl (cI, 12, .inl (upd (upd (upd (upd (upd (upd (upd (upd (upd (upd (upd (upd (fun _ => 0) ((nI 0)).toNatClampNeg x1) ((nI 1)).toNatClampNeg x2) ((nI 2)).toNatClampNeg x3) ((nI 3)).toNatClampNeg x4) ((nI 4)).toNatClampNeg x5) ((nI 5)).toNatClampNeg x6) ((nI 6)).toNatClampNeg (nI 0)) ((nI 7)).toNatClampNeg (nI 0)) ((nI 8)).toNatClampNeg (nI 0)) ((nI 9)).toNatClampNeg (-1 : Int32)) ((nI 10)).toNatClampNeg (nI 0)) ((nI 11)).toNatClampNeg (nI 0))))] := hD
                refine lv_astore (lv' := [(8, .ref a_new_86), (7, .int r22), (0, .ref a_t), (1, .int x1), (2, .int x2), (3, .int x3), (4, .int x4), (5, .int x5), (6, .int x6)]) hx hb dX11_runner_145 hl (by decide) rfl (fun ls hl => ?_)
                refine lv_iconst (v := (nI 0)) hx hb dX11_runner_147 rfl ?_
                refine lv_istore (lv' := [(9, .int (nI 0)), (8, .ref a_new_86), (7, .int r22), (0, .ref a_t), (1, .int x1), (2, .int x2), (3, .int x3), (4, .int x4), (5, .int x5), (6, .int x6)]) hx hb dX11_runner_148 hl (by decide) rfl (fun ls hl => ?_)
                have X150_176 : ∀ (v9_150 : Int32) (t_now_l150 : Nat → Int32) (H : Heap) (locs : List Loc) (ls : Array Slot), fX11_runner_L179 r22 (fun (v9_179 : Int32) (t_now_l179 : Nat → Int32) => (if zin (nI 1) 1562 then (if zin (nI 1) 1562 then some (r22, (nI 0), (upd t_now_l179 ((nI 1)).toNatClampNeg ((t_now_l179 ((nI 1)).toNatClampNeg) + (nI 1)))) else none) else none)) N (nI 0) t_now_l150 = some (r0, t_thrown', t_now') → va_P D vwCl [(a_t, .inr (11, [.int (nI 0), .ref a_t_now, .ref a_t_kept, .int t_isKept, .ref a_t_text, .int t_length, .ref a_t_passing, .int t_at, .int t_fault, .int t_open, .int t_asked, .int t_byGun, .int t_prizeMost, .ref a_t_order, .ref a_t_times, .int t_listed])), (a_t_now, .inl (cI, 1562, .inl t_now_l150)), (a_new_86, .inl (cI, 12, .inl (upd (upd (upd (upd (upd (upd (upd (upd (upd (upd (upd (upd (fun _ => 0) ((nI 0)).toNatClampNeg x1) ((nI 1)).toNatClampNeg x2) ((nI 2)).toNatClampNeg x3) ((nI 3)).toNatClampNeg x4) ((nI 4)).toNatClampNeg x5) ((nI 5)).toNatClampNeg x6) ((nI 6)).toNatClampNeg (nI 0)) ((nI 7)).toNatClampNeg (nI 0)) ((nI 8)).toNatClampNeg (nI 0)) ((nI 9)).toNatClampNeg (-1 : Int32)) ((nI 10)).toNatClampNeg (nI 0)) ((nI 11)).toNatClampNeg (nI 0))))] H → va_D A [(a_t, .inr (11, [.int (nI 0), .ref a_t_now, .ref a_t_kept, .int t_isKept, .ref a_t_text, .int t_length, .ref a_t_passing, .int t_at, .int t_fault, .int t_open, .int t_asked, .int t_byGun, .int t_prizeMost, .ref a_t_order, .ref a_t_times, .int t_listed])), (a_t_now, .inl (cI, 1562, .inl t_now_l150)), (a_new_86, .inl (cI, 12, .inl (upd (upd (upd (upd (upd (upd (upd (upd (upd (upd (upd (upd (fun _ => 0) ((nI 0)).toNatClampNeg x1) ((nI 1)).toNatClampNeg x2) ((nI 2)).toNatClampNeg x3) ((nI 3)).toNatClampNeg x4) ((nI 4)).toNatClampNeg x5) ((nI 5)).toNatClampNeg x6) ((nI 6)).toNatClampNeg (nI 0)) ((nI 7)).toNatClampNeg (nI 0)) ((nI 8)).toNatClampNeg (nI 0)) ((nI 9)).toNatClampNeg (-1 : Int32)) ((nI 10)).toNatClampNeg (nI 0)) ((nI 11)).toNatClampNeg (nI 0))))] → va_S A s.heap H locs → lv_has ls 10 [(9, .int v9_150), (8, .ref a_new_86), (7, .int r22), (0, .ref a_t), (1, .int x1), (2, .int x2), (3, .int x3), (4, .int x4), (5, .int x5), (6, .int x6)] → W p l e (headSpec wsX11_runner ({ frames := 1, cells := 1, slots := 12, locals := 23 } : Room)).room s m #[Value.ref a_t, Value.int x1, Value.int x2, Value.int x3, Value.int x4, Value.int x5, Value.int x6] below meth c H locs 1 12 (MQ below (zQi r0 D (zT cB cI cZ) [(a_t, .inr (11, [.int t_thrown', .ref a_t_now, .ref a_t_kept, .int t_isKept, .ref a_t_text, .int t_length, .ref a_t_passing, .int t_at, .int t_fault, .int t_open, .int t_asked, .int t_byGun, .int t_prizeMost, .ref a_t_order, .ref a_t_times, .int t_listed])), (a_t_now, .inl (cI, 1562, .inl t_now'))] A) #[Value.ref a_t, Value.int x1, Value.int x2, Value.int x3, Value.int x4, Value.int x5, Value.int x6] s 1 12 A) (F0 m 176 ls []) := by
                  intro v9_150 t_now_l150 H locs ls h hP hD hS hl
                  refine lv_iconst (v := (nI 0)) hx hb dX11_runner_176 rfl ?_
                  refine lv_istore (lv' := [(9, .int (nI 0)), (8, .ref a_new_86), (7, .int r22), (0, .ref a_t), (1, .int x1), (2, .int x2), (3, .int x3), (4, .int x4), (5, .int x5), (6, .int x6)]) hx hb dX11_runner_177 hl (by decide) rfl (fun ls hl => ?_)
                  have X179_204 : ∀ (v9_179 : Int32) (t_now_l179 : Nat → Int32) (H : Heap) (locs : List Loc) (ls : Array Slot), (if zin (nI 1) 1562 then (if zin (nI 1) 1562 then some (r22, (nI 0), (upd t_now_l179 ((nI 1)).toNatClampNeg ((t_now_l179 ((nI 1)).toNatClampNeg) + (nI 1)))) else none) else none) = some (r0, t_thrown', t_now') → va_P D vwCl [(a_t, .inr (11, [.int (nI 0), .ref a_t_now, .ref a_t_kept, .int t_isKept, .ref a_t_text, .int t_length, .ref a_t_passing, .int t_at, .int t_fault, .int t_open, .int t_asked, .int t_byGun, .int t_prizeMost, .ref a_t_order, .ref a_t_times, .int t_listed])), (a_t_now, .inl (cI, 1562, .inl t_now_l179)), (a_new_86, .inl (cI, 12, .inl (upd (upd (upd (upd (upd (upd (upd (upd (upd (upd (upd (upd (fun _ => 0) ((nI 0)).toNatClampNeg x1) ((nI 1)).toNatClampNeg x2) ((nI 2)).toNatClampNeg x3) ((nI 3)).toNatClampNeg x4) ((nI 4)).toNatClampNeg x5) ((nI 5)).toNatClampNeg x6) ((nI 6)).toNatClampNeg (nI 0)) ((nI 7)).toNatClampNeg (nI 0)) ((nI 8)).toNatClampNeg (nI 0)) ((nI 9)).toNatClampNeg (-1 : Int32)) ((nI 10)).toNatClampNeg (nI 0)) ((nI 11)).toNatClampNeg (nI 0))))] H → va_D A [(a_t, .inr (11, [.int (nI 0), .ref a_t_now, .ref a_t_kept, .int t_isKept, .ref a_t_text, .int t_length, .ref a_t_passing, .int t_at, .int t_fault, .int t_open, .int t_asked, .int t_byGun, .int t_prizeMost, .ref a_t_order, .ref a_t_times, .int t_listed])), (a_t_now, .inl (cI, 1562, .inl t_now_l179)), (a_new_86, .inl (cI, 12, .inl (upd (upd (upd (upd (upd (upd (upd (upd (upd (upd (upd (upd (fun _ => 0) ((nI 0)).toNatClampNeg x1) ((nI 1)).toNatClampNeg x2) ((nI 2)).toNatClampNeg x3) ((nI 3)).toNatClampNeg x4) ((nI 4)).toNatClampNeg x5) ((nI 5)).toNatClampNeg x6) ((nI 6)).toNatClampNeg (nI 0)) ((nI 7)).toNatClampNeg (nI 0)) ((nI 8)).toNatClampNeg (nI 0)) ((nI 9)).toNatClampNeg (-1 : Int32)) ((nI 10)).toNatClampNeg (nI 0)) ((nI 11)).toNatClampNeg (nI 0))))] → va_S A s.heap H locs → lv_has ls 10 [(9, .int v9_179), (8, .ref a_new_86), (7, .int r22), (0, .ref a_t), (1, .int x1), (2, .int x2), (3, .int x3), (4, .int x4), (5, .int x5), (6, .int x6)] → W p l e (headSpec wsX11_runner ({ frames := 1, cells := 1, slots := 12, locals := 23 } : Room)).room s m #[Value.ref a_t, Value.int x1, Value.int x2, Value.int x3, Value.int x4, Value.int x5, Value.int x6] below meth c H locs 1 12 (MQ below (zQi r0 D (zT cB cI cZ) [(a_t, .inr (11, [.int t_thrown', .ref a_t_now, .ref a_t_kept, .int t_isKept, .ref a_t_text, .int t_length, .ref a_t_passing, .int t_at, .int t_fault, .int t_open, .int t_asked, .int t_byGun, .int t_prizeMost, .ref a_t_order, .ref a_t_times, .int t_listed])), (a_t_now, .inl (cI, 1562, .inl t_now'))] A) #[Value.ref a_t, Value.int x1, Value.int x2, Value.int x3, Value.int x4, Value.int x5, Value.int x6] s 1 12 A) (F0 m 204 ls []) := by
                    intro v9_179 t_now_l179 H locs ls h hP hD hS hl
                    refine lv_aload_n hx hb dX11_runner_204 rfl (lv_at hl 3 rfl) ?_
                    refine va_get (D := D) (ci := 11) (C := RX11) (T := TX11) (N := 16) hx hb hts qX11_runner_X11 hown hK hP 0 rfl rfl 1 (by decide) (hts _ kX11_runner_3) (fun _ h9 => h9) rfl dX11_runner_205 ?_
                    refine lv_iconst (v := (nI 1)) hx hb dX11_runner_208 rfl ?_
                    refine lv_dup2_11 hx hb dX11_runner_209 rfl rfl ?_
                    obtain ⟨i36, h⟩ := zz_i h
                    refine va_iald hx hb hK hP 1 1 rfl rfl i36 dX11_runner_210 ?_
                    refine lv_iconst (v := (nI 1)) hx hb dX11_runner_211 rfl ?_
                    refine lv_iadd hx hb dX11_runner_212 ?_
                    obtain ⟨i37, h⟩ := zz_i h
                    refine va_iast hx hb hK hP hD hS 1 1 rfl rfl i37 dX11_runner_213 (fun H locs hP hD hS => ?_)
                    have hP : va_P D vwCl [(a_t, .inr (11, [.int (nI 0), .ref a_t_now, .ref a_t_kept, .int t_isKept, .ref a_t_text, .int t_length, .ref a_t_passing, .int t_at, .int t_fault, .int t_open, .int t_asked, .int t_byGun, .int t_prizeMost, .ref a_t_order, .ref a_t_times, .int t_listed])), (a_t_now, .inl (cI, 1562, .inl (upd t_now_l179 ((nI 1)).toNatClampNeg ((t_now_l179 ((nI 1)).toNatClampNeg) + (nI 1))))), (a_new_86, .inl (cI, 12, .inl (upd (upd (upd (upd (upd (upd (upd (upd (upd (upd (upd (upd (fun _ => 0) ((nI 0)).toNatClampNeg x1) ((nI 1)).toNatClampNeg x2) ((nI 2)).toNatClampNeg x3) ((nI 3)).toNatClampNeg x4) ((nI 4)).toNatClampNeg x5) ((nI 5)).toNatClampNeg x6) ((nI 6)).toNatClampNeg (nI 0)) ((nI 7)).toNatClampNeg (nI 0)) ((nI 8)).toNatClampNeg (nI 0)) ((nI 9)).toNatClampNeg (-1 : Int32)) ((nI 10)).toNatClampNeg (nI 0)) ((nI 11)).toNatClampNeg (nI 0))))] H := hP
                    have hD : va_D A [(a_t, .inr (11, [.int (nI 0), .ref a_t_now, .ref a_t_kept, .int t_isKept, .ref a_t_text, .int t_length, .ref a_t_passing, .int t_at, .int t_fault, .int t_open, .int t_asked, .int t_byGun, .int t_prizeMost, .ref a_t_order, .ref a_t_times, .int t_listed])), (a_t_now, .inl (cI, 1562, .inl (upd t_now_l179 ((nI 1)).toNatClampNeg ((t_now_l179 ((nI 1)).toNatClampNeg) + (nI 1))))), (a_new_86, .inl (cI, 12, .inl (upd (upd (upd (upd (upd (upd (upd (upd (upd (upd (upd (upd (fun _ => 0) ((nI 0)).toNatClampNeg x1) ((nI 1)).toNatClampNeg x2) ((nI 2)).toNatClampNeg x3) ((nI 3)).toNatClampNeg x4) ((nI 4)).toNatClampNeg x5) ((nI 5)).toNatClampNeg x6) ((nI 6)).toNatClampNeg (nI 0)) ((nI 7)).toNatClampNeg (nI 0)) ((nI 8)).toNatClampNeg (nI 0)) ((nI 9)).toNatClampNeg (-1 : Int32)) ((nI 10)).toNatClampNeg (nI 0)) ((nI 11)).toNatClampNeg (nI 0))))] := hD
                    refine lv_iload hx hb dX11_runner_214 (lv_at hl 2 rfl) ?_
                    obtain ⟨j0_, g_⟩ := Prod.mk.inj (Option.some.inj h)
                    obtain ⟨j1_, g_⟩ := Prod.mk.inj g_
                    have j2_ := g_
                    subst j0_
                    subst j1_
                    subst j2_
                    refine W.widen (k := 1) (n := 12) (Nat.le_of_ble_eq_true rfl) (Nat.le_of_ble_eq_true rfl) ?_
                    exact W.iret (v := r22) hx hb hr (fun t ht hW => ⟨⟨_, (), rfl, rfl, zPost.of hP hD hK ht hW [0, 1] rfl rfl rfl⟩, hS.F ht⟩) hS.2.2 dX11_runner_216
                  have L179 : ∀ (n : Nat) (v9_179 : Int32) (t_now_l179 : Nat → Int32) (H : Heap) (locs : List Loc) (ls : Array Slot), fX11_runner_L179 r22 (fun (v9_179 : Int32) (t_now_l179 : Nat → Int32) => (if zin (nI 1) 1562 then (if zin (nI 1) 1562 then some (r22, (nI 0), (upd t_now_l179 ((nI 1)).toNatClampNeg ((t_now_l179 ((nI 1)).toNatClampNeg) + (nI 1)))) else none) else none)) n v9_179 t_now_l179 = some (r0, t_thrown', t_now') → va_P D vwCl [(a_t, .inr (11, [.int (nI 0), .ref a_t_now, .ref a_t_kept, .int t_isKept, .ref a_t_text, .int t_length, .ref a_t_passing, .int t_at, .int t_fault, .int t_open, .int t_asked, .int t_byGun, .int t_prizeMost, .ref a_t_order, .ref a_t_times, .int t_listed])), (a_t_now, .inl (cI, 1562, .inl t_now_l179)), (a_new_86, .inl (cI, 12, .inl (upd (upd (upd (upd (upd (upd (upd (upd (upd (upd (upd (upd (fun _ => 0) ((nI 0)).toNatClampNeg x1) ((nI 1)).toNatClampNeg x2) ((nI 2)).toNatClampNeg x3) ((nI 3)).toNatClampNeg x4) ((nI 4)).toNatClampNeg x5) ((nI 5)).toNatClampNeg x6) ((nI 6)).toNatClampNeg (nI 0)) ((nI 7)).toNatClampNeg (nI 0)) ((nI 8)).toNatClampNeg (nI 0)) ((nI 9)).toNatClampNeg (-1 : Int32)) ((nI 10)).toNatClampNeg (nI 0)) ((nI 11)).toNatClampNeg (nI 0))))] H → va_D A [(a_t, .inr (11, [.int (nI 0), .ref a_t_now, .ref a_t_kept, .int t_isKept, .ref a_t_text, .int t_length, .ref a_t_passing, .int t_at, .int t_fault, .int t_open, .int t_asked, .int t_byGun, .int t_prizeMost, .ref a_t_order, .ref a_t_times, .int t_listed])), (a_t_now, .inl (cI, 1562, .inl t_now_l179)), (a_new_86, .inl (cI, 12, .inl (upd (upd (upd (upd (upd (upd (upd (upd (upd (upd (upd (upd (fun _ => 0) ((nI 0)).toNatClampNeg x1) ((nI 1)).toNatClampNeg x2) ((nI 2)).toNatClampNeg x3) ((nI 3)).toNatClampNeg x4) ((nI 4)).toNatClampNeg x5) ((nI 5)).toNatClampNeg x6) ((nI 6)).toNatClampNeg (nI 0)) ((nI 7)).toNatClampNeg (nI 0)) ((nI 8)).toNatClampNeg (nI 0)) ((nI 9)).toNatClampNeg (-1 : Int32)) ((nI 10)).toNatClampNeg (nI 0)) ((nI 11)).toNatClampNeg (nI 0))))] → va_S A s.heap H locs → lv_has ls 10 [(9, .int v9_179), (8, .ref a_new_86), (7, .int r22), (0, .ref a_t), (1, .int x1), (2, .int x2), (3, .int x3), (4, .int x4), (5, .int x5), (6, .int x6)] → W p l e (headSpec wsX11_runner ({ frames := 1, cells := 1, slots := 12, locals := 23 } : Room)).room s m #[Value.ref a_t, Value.int x1, Value.int x2, Value.int x3, Value.int x4, Value.int x5, Value.int x6] below meth c H locs 1 12 (MQ below (zQi r0 D (zT cB cI cZ) [(a_t, .inr (11, [.int t_thrown', .ref a_t_now, .ref a_t_kept, .int t_isKept, .ref a_t_text, .int t_length, .ref a_t_passing, .int t_at, .int t_fault, .int t_open, .int t_asked, .int t_byGun, .int t_prizeMost, .ref a_t_order, .ref a_t_times, .int t_listed])), (a_t_now, .inl (cI, 1562, .inl t_now'))] A) #[Value.ref a_t, Value.int x1, Value.int x2, Value.int x3, Value.int x4, Value.int x5, Value.int x6] s 1 12 A) (F0 m 179 ls []) := by
                    intro n
                    induction n with
                    | zero => intro _ _ H locs ls h hP hD hS hl; cases h
                    | succ n179 ih179 =>
                      intro v9_179 t_now_l179 H locs ls h hP hD hS hl
                      rw [fX11_runner_L179.eq_2] at h
                      refine lv_iload hx hb dX11_runner_179 (lv_at hl 0 rfl) ?_
                      refine lv_bipush (v := (nI 12)) hx hb dX11_runner_181 rfl ?_
                      refine lv_icmp_ge (tgt := 204) hx hb dX11_runner_183 (by decide) (fun c38 => ?_) (fun c38 => ?_)
                      · have h := zz_t h c38
                        exact X179_204 v9_179 t_now_l179 _ _ _ h (hP.sub [0, 1, 2] rfl) (hD.sub [0, 1, 2] rfl rfl) hS (lv_sub hl [0, 1, 2, 3, 4, 5, 6, 7, 8, 9] rfl)
                      · have h := zz_f h c38
                        refine lv_aload_n hx hb dX11_runner_186 rfl (lv_at hl 3 rfl) ?_
                        refine lv_iload hx hb dX11_runner_187 (lv_at hl 2 rfl) ?_
                        refine lv_bipush (v := (nI 12)) hx hb dX11_runner_189 rfl ?_
                        refine lv_iload hx hb dX11_runner_191 (lv_at hl 0 rfl) ?_
                        refine lv_iadd hx hb dX11_runner_193 ?_
                        refine lv_iconst (v := (-1 : Int32)) hx hb dX11_runner_194 rfl ?_
                        obtain ⟨t_now_r39, e40, h⟩ := zz_b h
                        refine zVv (As := [.int r22, .int ((nI 12) + v9_179), .int (-1 : Int32)]) (rest := []) (C := RX11) (wr := [(a_new_86, .inl (cI, 12, .inl (upd (upd (upd (upd (upd (upd (upd (upd (upd (upd (upd (upd (fun _ => 0) ((nI 0)).toNatClampNeg x1) ((nI 1)).toNatClampNeg x2) ((nI 2)).toNatClampNeg x3) ((nI 3)).toNatClampNeg x4) ((nI 4)).toNatClampNeg x5) ((nI 5)).toNatClampNeg x6) ((nI 6)).toNatClampNeg (nI 0)) ((nI 7)).toNatClampNeg (nI 0)) ((nI 8)).toNatClampNeg (nI 0)) ((nI 9)).toNatClampNeg (-1 : Int32)) ((nI 10)).toNatClampNeg (nI 0)) ((nI 11)).toNatClampNeg (nI 0))))]) [0, 1] [2] 0 ⟨hx, hb, hml, hown, hts⟩ (mX11_put l D cB cI cZ a_t a_t_now a_t_kept a_t_text a_t_passing a_t_order a_t_times (nI 0) t_isKept t_length t_at t_fault t_open t_asked t_byGun t_prizeMost t_listed t_now_l179 H.size r22 ((nI 12) + v9_179) (-1 : Int32) t_now_r39 e40) (cwV 3 hts gX11_runner_X11_put rfl rfl rfl (by decide +kernel) ⟨Nat.le_of_ble_eq_true rfl, Nat.le_of_ble_eq_true rfl⟩) hK hN hZ hP hD hS hA rfl rfl rfl rfl rfl rfl rfl rfl hl.1 rfl (lv_room (Nat.le_of_ble_eq_true rfl)) dX11_runner_195 ⟨Nat.le_of_ble_eq_true rfl, Nat.le_of_ble_eq_true rfl⟩ (fun H locs hP hD hS => ?_)
                        have hP : va_P D vwCl [(a_new_86, .inl (cI, 12, .inl (upd (upd (upd (upd (upd (upd (upd (upd (upd (upd (upd (upd (fun _ => 0) ((nI 0)).toNatClampNeg x1) ((nI 1)).toNatClampNeg x2) ((nI 2)).toNatClampNeg x3) ((nI 3)).toNatClampNeg x4) ((nI 4)).toNatClampNeg x5) ((nI 5)).toNatClampNeg x6) ((nI 6)).toNatClampNeg (nI 0)) ((nI 7)).toNatClampNeg (nI 0)) ((nI 8)).toNatClampNeg (nI 0)) ((nI 9)).toNatClampNeg (-1 : Int32)) ((nI 10)).toNatClampNeg (nI 0)) ((nI 11)).toNatClampNeg (nI 0)))), (a_t, .inr (11, [.int (nI 0), .ref a_t_now, .ref a_t_kept, .int t_isKept, .ref a_t_text, .int t_length, .ref a_t_passing, .int t_at, .int t_fault, .int t_open, .int t_asked, .int t_byGun, .int t_prizeMost, .ref a_t_order, .ref a_t_times, .int t_listed])), (a_t_now, .inl (cI, 1562, .inl t_now_r39))] H := hP
                        have hD : va_D A [(a_new_86, .inl (cI, 12, .inl (upd (upd (upd (upd (upd (upd (upd (upd (upd (upd (upd (upd (fun _ => 0) ((nI 0)).toNatClampNeg x1) ((nI 1)).toNatClampNeg x2) ((nI 2)).toNatClampNeg x3) ((nI 3)).toNatClampNeg x4) ((nI 4)).toNatClampNeg x5) ((nI 5)).toNatClampNeg x6) ((nI 6)).toNatClampNeg (nI 0)) ((nI 7)).toNatClampNeg (nI 0)) ((nI 8)).toNatClampNeg (nI 0)) ((nI 9)).toNatClampNeg (-1 : Int32)) ((nI 10)).toNatClampNeg (nI 0)) ((nI 11)).toNatClampNeg (nI 0)))), (a_t, .inr (11, [.int (nI 0), .ref a_t_now, .ref a_t_kept, .int t_isKept, .ref a_t_text, .int t_length, .ref a_t_passing, .int t_at, .int t_fault, .int t_open, .int t_asked, .int t_byGun, .int t_prizeMost, .ref a_t_order, .ref a_t_times, .int t_listed])), (a_t_now, .inl (cI, 1562, .inl t_now_r39))] := hD
                        refine lv_iinc (v := (v9_179 + (nI 1))) (lv' := [(9, .int (v9_179 + (nI 1))), (8, .ref a_new_86), (7, .int r22), (0, .ref a_t), (1, .int x1), (2, .int x2), (3, .int x3), (4, .int x4), (5, .int x5), (6, .int x6)]) hx hb dX11_runner_198 hl (k := 0) rfl rfl (by decide) rfl (fun ls hl => ?_)
                        refine lv_goto (tgt := 179) hx hb dX11_runner_201 (by decide) ?_
                        exact ih179 (v9_179 + (nI 1)) t_now_r39 _ _ _ h (hP.sub [1, 2, 0] rfl) (hD.sub [1, 2, 0] rfl rfl) hS (lv_sub hl [0, 1, 2, 3, 4, 5, 6, 7, 8, 9] rfl)
                  exact L179 N (nI 0) t_now_l150 _ _ _ h hP hD hS hl
                have L150 : ∀ (n : Nat) (v9_150 : Int32) (t_now_l150 : Nat → Int32) (H : Heap) (locs : List Loc) (ls : Array Slot), fX11_runner_L150 x1 x2 x3 x4 x5 x6 r22 (fun (v9_150 : Int32) (t_now_l150 : Nat → Int32) => fX11_runner_L179 r22 (fun (v9_179 : Int32) (t_now_l179 : Nat → Int32) => (if zin (nI 1) 1562 then (if zin (nI 1) 1562 then some (r22, (nI 0), (upd t_now_l179 ((nI 1)).toNatClampNeg ((t_now_l179 ((nI 1)).toNatClampNeg) + (nI 1)))) else none) else none)) N (nI 0) t_now_l150) n v9_150 t_now_l150 = some (r0, t_thrown', t_now') → va_P D vwCl [(a_t, .inr (11, [.int (nI 0), .ref a_t_now, .ref a_t_kept, .int t_isKept, .ref a_t_text, .int t_length, .ref a_t_passing, .int t_at, .int t_fault, .int t_open, .int t_asked, .int t_byGun, .int t_prizeMost, .ref a_t_order, .ref a_t_times, .int t_listed])), (a_t_now, .inl (cI, 1562, .inl t_now_l150)), (a_new_86, .inl (cI, 12, .inl (upd (upd (upd (upd (upd (upd (upd (upd (upd (upd (upd (upd (fun _ => 0) ((nI 0)).toNatClampNeg x1) ((nI 1)).toNatClampNeg x2) ((nI 2)).toNatClampNeg x3) ((nI 3)).toNatClampNeg x4) ((nI 4)).toNatClampNeg x5) ((nI 5)).toNatClampNeg x6) ((nI 6)).toNatClampNeg (nI 0)) ((nI 7)).toNatClampNeg (nI 0)) ((nI 8)).toNatClampNeg (nI 0)) ((nI 9)).toNatClampNeg (-1 : Int32)) ((nI 10)).toNatClampNeg (nI 0)) ((nI 11)).toNatClampNeg (nI 0))))] H → va_D A [(a_t, .inr (11, [.int (nI 0), .ref a_t_now, .ref a_t_kept, .int t_isKept, .ref a_t_text, .int t_length, .ref a_t_passing, .int t_at, .int t_fault, .int t_open, .int t_asked, .int t_byGun, .int t_prizeMost, .ref a_t_order, .ref a_t_times, .int t_listed])), (a_t_now, .inl (cI, 1562, .inl t_now_l150)), (a_new_86, .inl (cI, 12, .inl (upd (upd (upd (upd (upd (upd (upd (upd (upd (upd (upd (upd (fun _ => 0) ((nI 0)).toNatClampNeg x1) ((nI 1)).toNatClampNeg x2) ((nI 2)).toNatClampNeg x3) ((nI 3)).toNatClampNeg x4) ((nI 4)).toNatClampNeg x5) ((nI 5)).toNatClampNeg x6) ((nI 6)).toNatClampNeg (nI 0)) ((nI 7)).toNatClampNeg (nI 0)) ((nI 8)).toNatClampNeg (nI 0)) ((nI 9)).toNatClampNeg (-1 : Int32)) ((nI 10)).toNatClampNeg (nI 0)) ((nI 11)).toNatClampNeg (nI 0))))] → va_S A s.heap H locs → lv_has ls 10 [(9, .int v9_150), (8, .ref a_new_86), (7, .int r22), (0, .ref a_t), (1, .int x1), (2, .int x2), (3, .int x3), (4, .int x4), (5, .int x5), (6, .int x6)] → W p l e (headSpec wsX11_runner ({ frames := 1, cells := 1, slots := 12, locals := 23 } : Room)).room s m #[Value.ref a_t, Value.int x1, Value.int x2, Value.int x3, Value.int x4, Value.int x5, Value.int x6] below meth c H locs 1 12 (MQ below (zQi r0 D (zT cB cI cZ) [(a_t, .inr (11, [.int t_thrown', .ref a_t_now, .ref a_t_kept, .int t_isKept, .ref a_t_text, .int t_length, .ref a_t_passing, .int t_at, .int t_fault, .int t_open, .int t_asked, .int t_byGun, .int t_prizeMost, .ref a_t_order, .ref a_t_times, .int t_listed])), (a_t_now, .inl (cI, 1562, .inl t_now'))] A) #[Value.ref a_t, Value.int x1, Value.int x2, Value.int x3, Value.int x4, Value.int x5, Value.int x6] s 1 12 A) (F0 m 150 ls []) := by
                  intro n
                  induction n with
                  | zero => intro _ _ H locs ls h hP hD hS hl; cases h
                  | succ n150 ih150 =>
                    intro v9_150 t_now_l150 H locs ls h hP hD hS hl
                    rw [fX11_runner_L150.eq_2] at h
                    refine lv_iload hx hb dX11_runner_150 (lv_at hl 0 rfl) ?_
                    refine lv_bipush (v := (nI 12)) hx hb dX11_runner_152 rfl ?_
                    refine lv_icmp_ge (tgt := 176) hx hb dX11_runner_154 (by decide) (fun c41 => ?_) (fun c41 => ?_)
                    · have h := zz_t h c41
                      exact X150_176 v9_150 t_now_l150 _ _ _ h (hP.sub [0, 1, 2] rfl) (hD.sub [0, 1, 2] rfl rfl) hS (lv_sub hl [0, 1, 2, 3, 4, 5, 6, 7, 8, 9] rfl)
                    · have h := zz_f h c41
                      refine lv_aload_n hx hb dX11_runner_157 rfl (lv_at hl 3 rfl) ?_
                      refine lv_iload hx hb dX11_runner_158 (lv_at hl 2 rfl) ?_
                      refine lv_iload hx hb dX11_runner_160 (lv_at hl 0 rfl) ?_
                      refine lv_aload hx hb dX11_runner_162 (lv_at hl 1 rfl) ?_
                      refine lv_iload hx hb dX11_runner_164 (lv_at hl 0 rfl) ?_
                      obtain ⟨i42, h⟩ := zz_i h
                      refine va_iald hx hb hK hP 2 1 rfl rfl i42 dX11_runner_166 ?_
                      obtain ⟨t_now_r43, e44, h⟩ := zz_b h
                      refine zVv (As := [.int r22, .int v9_150, .int ((upd (upd (upd (upd (upd (upd (upd (upd (upd (upd (upd (upd (fun _ => 0) ((nI 0)).toNatClampNeg x1) ((nI 1)).toNatClampNeg x2) ((nI 2)).toNatClampNeg x3) ((nI 3)).toNatClampNeg x4) ((nI 4)).toNatClampNeg x5) ((nI 5)).toNatClampNeg x6) ((nI 6)).toNatClampNeg (nI 0)) ((nI 7)).toNatClampNeg (nI 0)) ((nI 8)).toNatClampNeg (nI 0)) ((nI 9)).toNatClampNeg (-1 : Int32)) ((nI 10)).toNatClampNeg (nI 0)) ((nI 11)).toNatClampNeg (nI 0)) (v9_150).toNatClampNeg)]) (rest := []) (C := RX11) (wr := [(a_new_86, .inl (cI, 12, .inl (upd (upd (upd (upd (upd (upd (upd (upd (upd (upd (upd (upd (fun _ => 0) ((nI 0)).toNatClampNeg x1) ((nI 1)).toNatClampNeg x2) ((nI 2)).toNatClampNeg x3) ((nI 3)).toNatClampNeg x4) ((nI 4)).toNatClampNeg x5) ((nI 5)).toNatClampNeg x6) ((nI 6)).toNatClampNeg (nI 0)) ((nI 7)).toNatClampNeg (nI 0)) ((nI 8)).toNatClampNeg (nI 0)) ((nI 9)).toNatClampNeg (-1 : Int32)) ((nI 10)).toNatClampNeg (nI 0)) ((nI 11)).toNatClampNeg (nI 0))))]) [0, 1] [2] 0 ⟨hx, hb, hml, hown, hts⟩ (mX11_put l D cB cI cZ a_t a_t_now a_t_kept a_t_text a_t_passing a_t_order a_t_times (nI 0) t_isKept t_length t_at t_fault t_open t_asked t_byGun t_prizeMost t_listed t_now_l150 H.size r22 v9_150 ((upd (upd (upd (upd (upd (upd (upd (upd (upd (upd (upd (upd (fun _ => 0) ((nI 0)).toNatClampNeg x1) ((nI 1)).toNatClampNeg x2) ((nI 2)).toNatClampNeg x3) ((nI 3)).toNatClampNeg x4) ((nI 4)).toNatClampNeg x5) ((nI 5)).toNatClampNeg x6) ((nI 6)).toNatClampNeg (nI 0)) ((nI 7)).toNatClampNeg (nI 0)) ((nI 8)).toNatClampNeg (nI 0)) ((nI 9)).toNatClampNeg (-1 : Int32)) ((nI 10)).toNatClampNeg (nI 0)) ((nI 11)).toNatClampNeg (nI 0)) (v9_150).toNatClampNeg) t_now_r43 e44) (cwV 3 hts gX11_runner_X11_put rfl rfl rfl (by decide +kernel) ⟨Nat.le_of_ble_eq_true rfl, Nat.le_of_ble_eq_true rfl⟩) hK hN hZ hP hD hS hA rfl rfl rfl rfl rfl rfl rfl rfl hl.1 rfl (lv_room (Nat.le_of_ble_eq_true rfl)) dX11_runner_167 ⟨Nat.le_of_ble_eq_true rfl, Nat.le_of_ble_eq_true rfl⟩ (fun H locs hP hD hS => ?_)
                      have hP : va_P D vwCl [(a_new_86, .inl (cI, 12, .inl (upd (upd (upd (upd (upd (upd (upd (upd (upd (upd (upd (upd (fun _ => 0) ((nI 0)).toNatClampNeg x1) ((nI 1)).toNatClampNeg x2) ((nI 2)).toNatClampNeg x3) ((nI 3)).toNatClampNeg x4) ((nI 4)).toNatClampNeg x5) ((nI 5)).toNatClampNeg x6) ((nI 6)).toNatClampNeg (nI 0)) ((nI 7)).toNatClampNeg (nI 0)) ((nI 8)).toNatClampNeg (nI 0)) ((nI 9)).toNatClampNeg (-1 : Int32)) ((nI 10)).toNatClampNeg (nI 0)) ((nI 11)).toNatClampNeg (nI 0)))), (a_t, .inr (11, [.int (nI 0), .ref a_t_now, .ref a_t_kept, .int t_isKept, .ref a_t_text, .int t_length, .ref a_t_passing, .int t_at, .int t_fault, .int t_open, .int t_asked, .int t_byGun, .int t_prizeMost, .ref a_t_order, .ref a_t_times, .int t_listed])), (a_t_now, .inl (cI, 1562, .inl t_now_r43))] H := hP
                      have hD : va_D A [(a_new_86, .inl (cI, 12, .inl (upd (upd (upd (upd (upd (upd (upd (upd (upd (upd (upd (upd (fun _ => 0) ((nI 0)).toNatClampNeg x1) ((nI 1)).toNatClampNeg x2) ((nI 2)).toNatClampNeg x3) ((nI 3)).toNatClampNeg x4) ((nI 4)).toNatClampNeg x5) ((nI 5)).toNatClampNeg x6) ((nI 6)).toNatClampNeg (nI 0)) ((nI 7)).toNatClampNeg (nI 0)) ((nI 8)).toNatClampNeg (nI 0)) ((nI 9)).toNatClampNeg (-1 : Int32)) ((nI 10)).toNatClampNeg (nI 0)) ((nI 11)).toNatClampNeg (nI 0)))), (a_t, .inr (11, [.int (nI 0), .ref a_t_now, .ref a_t_kept, .int t_isKept, .ref a_t_text, .int t_length, .ref a_t_passing, .int t_at, .int t_fault, .int t_open, .int t_asked, .int t_byGun, .int t_prizeMost, .ref a_t_order, .ref a_t_times, .int t_listed])), (a_t_now, .inl (cI, 1562, .inl t_now_r43))] := hD
                      refine lv_iinc (v := (v9_150 + (nI 1))) (lv' := [(9, .int (v9_150 + (nI 1))), (8, .ref a_new_86), (7, .int r22), (0, .ref a_t), (1, .int x1), (2, .int x2), (3, .int x3), (4, .int x4), (5, .int x5), (6, .int x6)]) hx hb dX11_runner_170 hl (k := 0) rfl rfl (by decide) rfl (fun ls hl => ?_)
                      refine lv_goto (tgt := 150) hx hb dX11_runner_173 (by decide) ?_
                      exact ih150 (v9_150 + (nI 1)) t_now_r43 _ _ _ h (hP.sub [1, 2, 0] rfl) (hD.sub [1, 2, 0] rfl rfl) hS (lv_sub hl [0, 1, 2, 3, 4, 5, 6, 7, 8, 9] rfl)
                exact L150 N (nI 0) t_now _ _ _ h hP hD hS hl
              · have h := zz_t h c21
                refine lv_iconst (v := (-1 : Int32)) hx hb dX11_runner_76 rfl ?_
                obtain ⟨j0_, g_⟩ := Prod.mk.inj (Option.some.inj h)
                obtain ⟨j1_, g_⟩ := Prod.mk.inj g_
                have j2_ := g_
                subst j0_
                subst j1_
                subst j2_
                refine W.widen (k := 1) (n := 12) (Nat.le_of_ble_eq_true rfl) (Nat.le_of_ble_eq_true rfl) ?_
                exact W.iret (v := (-1 : Int32)) hx hb hr (fun t ht hW => ⟨⟨_, (), rfl, rfl, zPost.of hP hD hK ht hW [0, 1] rfl rfl rfl⟩, hS.F ht⟩) hS.2.2 dX11_runner_77
/-! RunDeskModel.gun -/
theorem dX11_gun_0 : decode cX11_gun 0 = .ok (.aload_n 0, 1) := by decide +kernel
theorem dX11_gun_1 : decode cX11_gun 1 = .ok (.iconst 0, 1) := by decide +kernel
theorem dX11_gun_2 : decode cX11_gun 2 = .ok (.putfield 37, 3) := by decide +kernel
theorem dX11_gun_5 : decode cX11_gun 5 = .ok (.iload_n 1, 1) := by decide +kernel
theorem dX11_gun_6 : decode cX11_gun 6 = .ok (.iconst 0, 1) := by decide +kernel
theorem dX11_gun_7 : decode cX11_gun 7 = .ok (.iconst 5, 1) := by decide +kernel
theorem dX11_gun_8 : decode cX11_gun 8 = .ok (.invokestatic 52, 3) := by decide +kernel
theorem dX11_gun_11 : decode cX11_gun 11 = .ok (.ifCond .eq 18, 3) := by decide +kernel
theorem dX11_gun_14 : decode cX11_gun 14 = .ok (.iload_n 2, 1) := by decide +kernel
theorem dX11_gun_15 : decode cX11_gun 15 = .ok (.iconst (-1), 1) := by decide +kernel
theorem dX11_gun_16 : decode cX11_gun 16 = .ok (.if_icmp .eq 15, 3) := by decide +kernel
theorem dX11_gun_19 : decode cX11_gun 19 = .ok (.iload_n 2, 1) := by decide +kernel
theorem dX11_gun_20 : decode cX11_gun 20 = .ok (.iconst 0, 1) := by decide +kernel
theorem dX11_gun_21 : decode cX11_gun 21 = .ok (.ldc 61, 2) := by decide +kernel
theorem dX11_gun_23 : decode cX11_gun 23 = .ok (.invokestatic 52, 3) := by decide +kernel
theorem dX11_gun_26 : decode cX11_gun 26 = .ok (.ifCond .ne 5, 3) := by decide +kernel
theorem dX11_gun_29 : decode cX11_gun 29 = .ok (.iconst 0, 1) := by decide +kernel
theorem dX11_gun_30 : decode cX11_gun 30 = .ok (.ireturn, 1) := by decide +kernel
theorem dX11_gun_31 : decode cX11_gun 31 = .ok (.aload_n 0, 1) := by decide +kernel
theorem dX11_gun_32 : decode cX11_gun 32 = .ok (.getfield 9, 3) := by decide +kernel
theorem dX11_gun_35 : decode cX11_gun 35 = .ok (.bipush 56, 2) := by decide +kernel
theorem dX11_gun_37 : decode cX11_gun 37 = .ok (.iload_n 1, 1) := by decide +kernel
theorem dX11_gun_38 : decode cX11_gun 38 = .ok (.iadd, 1) := by decide +kernel
theorem dX11_gun_39 : decode cX11_gun 39 = .ok (.iload_n 2, 1) := by decide +kernel
theorem dX11_gun_40 : decode cX11_gun 40 = .ok (.iastore, 1) := by decide +kernel
theorem dX11_gun_41 : decode cX11_gun 41 = .ok (.iconst 1, 1) := by decide +kernel
theorem dX11_gun_42 : decode cX11_gun 42 = .ok (.ireturn, 1) := by decide +kernel
set_option maxRecDepth 20000 in
theorem ggX11_gun_X11_isIn : GoodIn wsX11_gun wsX11_isIn := goodIn_sub (List.forall_mem_cons.mpr ⟨List.mem_cons_of_mem _ (List.mem_append_left _ (List.mem_of_getElem? (i := 6) rfl)), (fun _ h => nomatch h)⟩) (by decide +kernel)
set_option maxRecDepth 20000 in
theorem gX11_gun_X11_isIn : GoodIn wsX11_gun (va_wsS RX11 52 yX11_isIn wsX11_isIn) := goodIn_app (goodIn_of _ (by decide +kernel)) ggX11_gun_X11_isIn
theorem kX11_gun_0 : (.fieldLink RX11 37 "RunDeskModel" "thrown" "I" : Cond) ∈ wsX11_gun := List.mem_of_getElem? (i := 1) (by decide +kernel)
theorem qX11_gun_X11 : ∀ w ∈ wsX110, w ∈ wsX11_gun := fun _ h => List.mem_cons_of_mem _ (List.mem_append_right _ (h))
theorem kX11_gun_2 : (.constant RX11 61 (40000) : Cond) ∈ wsX11_gun := List.mem_of_getElem? (i := 2) (by decide +kernel)
theorem kX11_gun_3 : (.fieldLink RX11 9 "RunDeskModel" "now" "[I" : Cond) ∈ wsX11_gun := List.mem_of_getElem? (i := 3) (by decide +kernel)
set_option maxHeartbeats 4000000 in
set_option maxRecDepth 100000 in
theorem mX11_gun (l : Launch) (D : va_G) (cB cI cZ : ClassId) (a_t : Nat) (a_t_now : Nat) (a_t_kept : Nat) (a_t_text : Nat) (a_t_passing : Nat) (a_t_order : Nat) (a_t_times : Nat) (t_thrown : Int32) (t_isKept : Int32) (t_length : Int32) (t_at : Int32) (t_fault : Int32) (t_open : Int32) (t_asked : Int32) (t_byGun : Int32) (t_prizeMost : Int32) (t_listed : Int32) (t_now : Nat → Int32) (sz : Nat) (x1 : Int32) (x2 : Int32) (b0 : Bool) (t_thrown' : Int32) (t_now' : Nat → Int32) (h : fX11_gun t_thrown t_now x1 x2 = some (b0, t_thrown', t_now')) : Met l yX11_gun wsX11_gun ({ frames := 1, cells := 0, slots := 0, locals := 22 } : Room) (va_Pc [.ref a_t, .int x1, .int x2] (zPre D (zT cB cI cZ) [(a_t, .inr (11, [.int t_thrown, .ref a_t_now, .ref a_t_kept, .int t_isKept, .ref a_t_text, .int t_length, .ref a_t_passing, .int t_at, .int t_fault, .int t_open, .int t_asked, .int t_byGun, .int t_prizeMost, .ref a_t_order, .ref a_t_times, .int t_listed])), (a_t_now, .inl (cI, 1562, .inl t_now))] sz)) (zQi (zb b0) D (zT cB cI cZ) [(a_t, .inr (11, [.int t_thrown', .ref a_t_now, .ref a_t_kept, .int t_isKept, .ref a_t_text, .int t_length, .ref a_t_passing, .int t_at, .int t_fault, .int t_open, .int t_asked, .int t_byGun, .int t_prizeMost, .ref a_t_order, .ref a_t_times, .int t_listed])), (a_t_now, .inl (cI, 1562, .inl t_now'))] (va_A [(a_t, .inr (11, [.int t_thrown, .ref a_t_now, .ref a_t_kept, .int t_isKept, .ref a_t_text, .int t_length, .ref a_t_passing, .int t_at, .int t_fault, .int t_open, .int t_asked, .int t_byGun, .int t_prizeMost, .ref a_t_order, .ref a_t_times, .int t_listed])), (a_t_now, .inl (cI, 1562, .inl t_now))] sz)) 0 0 (va_A [(a_t, .inr (11, [.int t_thrown, .ref a_t_now, .ref a_t_kept, .int t_isKept, .ref a_t_text, .int t_length, .ref a_t_passing, .int t_at, .int t_fault, .int t_open, .int t_asked, .int t_byGun, .int t_prizeMost, .ref a_t_order, .ref a_t_times, .int t_listed])), (a_t_now, .inl (cI, 1562, .inl t_now))] sz) := by
  refine Met.ofW (cc := cX11_gun) (maxL := 3) (ret := (some .boolean)) (by decide) rfl ?_
  intro p e s m args below meth c s₁ B hml hv
  obtain ⟨rfl, hsz, hP, hK, hN, hZ, hD0⟩ := hv
  have hx := B.exec
  have hb := B.bytes
  have hr := B.returns
  have hts := atoms_spec (ws := wsX11_gun) B.pre
  have hown : s.vm.findClass RX11 = some m.cls := findClass_of_methodNamed B.named
  have hlocks := B.notSynchronized
  subst hsz
  have hD := hD0.self (sz := s.heap.size)
  generalize hAe : va_A [(a_t, .inr (11, [.int t_thrown, .ref a_t_now, .ref a_t_kept, .int t_isKept, .ref a_t_text, .int t_length, .ref a_t_passing, .int t_at, .int t_fault, .int t_open, .int t_asked, .int t_byGun, .int t_prizeMost, .ref a_t_order, .ref a_t_times, .int t_listed])), (a_t_now, .inl (cI, 1562, .inl t_now))] s.heap.size = A at hD hZ ⊢
  have hA : ∀ q : Nat, s.heap.size ≤ q → A q := fun q h => by rw [← hAe]; exact Or.inr h
  have hS : va_S A s.heap s.heap [] := va_S.rf
  have hl := lv_entry ([.ref a_t, .int x1, .int x2]) (n := 3) (Nat.le_of_ble_eq_true rfl)
  rw [lg_entry_eq]
  generalize (lg_sl ([.ref a_t, .int x1, .int x2]) ++ List.replicate (3 - (lg_sl ([.ref a_t, .int x1, .int x2])).length) Slot.unset).toArray = ls at hl ⊢
  have hl : lv_has ls 3 [(0, .ref a_t), (1, .int x1), (2, .int x2)] := hl
  unfold fX11_gun at h
  refine lv_aload_n hx hb dX11_gun_0 rfl (lv_at hl 0 rfl) ?_
  refine lv_iconst (v := (nI 0)) hx hb dX11_gun_1 rfl ?_
  refine va_put (D := D) (ci := 11) (ty := .int) (C := RX11) (T := TX11) (N := 16) hx hb hts qX11_gun_X11 tyX11 tyX11_ok nmX11 hown hK hP hD hS 0 rfl rfl 0 (by decide) (hts _ kX11_gun_0) (fun _ h9 => h9) rfl (by decide +kernel) rfl (by first | rfl | exact zz_fit) (Nat.le_of_ble_eq_true rfl) dX11_gun_2 (fun H locs hP hD hS => ?_)
  have hP : va_P D vwCl [(a_t, .inr (11, [.int (nI 0), .ref a_t_now, .ref a_t_kept, .int t_isKept, .ref a_t_text, .int t_length, .ref a_t_passing, .int t_at, .int t_fault, .int t_open, .int t_asked, .int t_byGun, .int t_prizeMost, .ref a_t_order, .ref a_t_times, .int t_listed])), (a_t_now, .inl (cI, 1562, .inl t_now))] H := hP
  have hD : va_D A [(a_t, .inr (11, [.int (nI 0), .ref a_t_now, .ref a_t_kept, .int t_isKept, .ref a_t_text, .int t_length, .ref a_t_passing, .int t_at, .int t_fault, .int t_open, .int t_asked, .int t_byGun, .int t_prizeMost, .ref a_t_order, .ref a_t_times, .int t_listed])), (a_t_now, .inl (cI, 1562, .inl t_now))] := hD
  refine lv_iload_n hx hb dX11_gun_5 rfl (lv_at hl 1 rfl) ?_
  refine lv_iconst (v := (nI 0)) hx hb dX11_gun_6 rfl ?_
  refine lv_iconst (v := (nI 5)) hx hb dX11_gun_7 rfl ?_
  obtain ⟨b1, e2, h⟩ := zz_b h
  refine zSi (As := [.int x1, .int (nI 0), .int (nI 5)]) (rest := []) (wr := [(a_t, .inr (11, [.int (nI 0), .ref a_t_now, .ref a_t_kept, .int t_isKept, .ref a_t_text, .int t_length, .ref a_t_passing, .int t_at, .int t_fault, .int t_open, .int t_asked, .int t_byGun, .int t_prizeMost, .ref a_t_order, .ref a_t_times, .int t_listed])), (a_t_now, .inl (cI, 1562, .inl t_now))]) [] [0, 1] ⟨hx, hb, hml, hown, hts⟩ (mX11_isIn l D cB cI cZ H.size x1 (nI 0) (nI 5) b1 e2) (va_cwS 3 hts gX11_gun_X11_isIn rfl rfl rfl (by decide +kernel) ⟨Nat.le_of_ble_eq_true rfl, Nat.le_of_ble_eq_true rfl⟩) hK hN hZ hP hD hS hA rfl rfl rfl rfl rfl rfl hl.1 rfl (lv_room (Nat.le_of_ble_eq_true rfl)) dX11_gun_8 ⟨Nat.le_of_ble_eq_true rfl, Nat.le_of_ble_eq_true rfl⟩ (fun H locs hP hD hS => ?_)
  have hP : va_P D vwCl [(a_t, .inr (11, [.int (nI 0), .ref a_t_now, .ref a_t_kept, .int t_isKept, .ref a_t_text, .int t_length, .ref a_t_passing, .int t_at, .int t_fault, .int t_open, .int t_asked, .int t_byGun, .int t_prizeMost, .ref a_t_order, .ref a_t_times, .int t_listed])), (a_t_now, .inl (cI, 1562, .inl t_now))] H := hP
  have hD : va_D A [(a_t, .inr (11, [.int (nI 0), .ref a_t_now, .ref a_t_kept, .int t_isKept, .ref a_t_text, .int t_length, .ref a_t_passing, .int t_at, .int t_fault, .int t_open, .int t_asked, .int t_byGun, .int t_prizeMost, .ref a_t_order, .ref a_t_times, .int t_listed])), (a_t_now, .inl (cI, 1562, .inl t_now))] := hD
  refine lv_if_eq (tgt := 29) hx hb dX11_gun_11 (by decide) (fun c3 => ?_) (fun c3 => ?_)
  · have h := zz_t h c3
    refine lv_iconst (v := (nI 0)) hx hb dX11_gun_29 rfl ?_
    obtain ⟨j0_, g_⟩ := Prod.mk.inj (Option.some.inj h)
    obtain ⟨j1_, g_⟩ := Prod.mk.inj g_
    have j2_ := g_
    subst j0_
    subst j1_
    subst j2_
    exact W.zret (v := (nI 0)) hx hb hr rfl (fun t ht hW => ⟨⟨_, (), rfl, rfl, zPost.of hP hD hK ht hW [0, 1] rfl rfl rfl⟩, hS.F ht⟩) hS.2.2 dX11_gun_30
  · have h := zz_f h c3
    refine lv_iload_n hx hb dX11_gun_14 rfl (lv_at hl 2 rfl) ?_
    refine lv_iconst (v := (-1 : Int32)) hx hb dX11_gun_15 rfl ?_
    refine lv_icmp_eq (tgt := 31) hx hb dX11_gun_16 (by decide) (fun c4 => ?_) (fun c4 => ?_)
    · have h := zz_t h c4
      refine lv_aload_n hx hb dX11_gun_31 rfl (lv_at hl 0 rfl) ?_
      refine va_get (D := D) (ci := 11) (C := RX11) (T := TX11) (N := 16) hx hb hts qX11_gun_X11 hown hK hP 0 rfl rfl 1 (by decide) (hts _ kX11_gun_3) (fun _ h9 => h9) rfl dX11_gun_32 ?_
      refine lv_bipush (v := (nI 56)) hx hb dX11_gun_35 rfl ?_
      refine lv_iload_n hx hb dX11_gun_37 rfl (lv_at hl 1 rfl) ?_
      refine lv_iadd hx hb dX11_gun_38 ?_
      refine lv_iload_n hx hb dX11_gun_39 rfl (lv_at hl 2 rfl) ?_
      obtain ⟨i5, h⟩ := zz_i h
      refine va_iast hx hb hK hP hD hS 1 1 rfl rfl i5 dX11_gun_40 (fun H locs hP hD hS => ?_)
      have hP : va_P D vwCl [(a_t, .inr (11, [.int (nI 0), .ref a_t_now, .ref a_t_kept, .int t_isKept, .ref a_t_text, .int t_length, .ref a_t_passing, .int t_at, .int t_fault, .int t_open, .int t_asked, .int t_byGun, .int t_prizeMost, .ref a_t_order, .ref a_t_times, .int t_listed])), (a_t_now, .inl (cI, 1562, .inl (upd t_now (((nI 56) + x1)).toNatClampNeg x2)))] H := hP
      have hD : va_D A [(a_t, .inr (11, [.int (nI 0), .ref a_t_now, .ref a_t_kept, .int t_isKept, .ref a_t_text, .int t_length, .ref a_t_passing, .int t_at, .int t_fault, .int t_open, .int t_asked, .int t_byGun, .int t_prizeMost, .ref a_t_order, .ref a_t_times, .int t_listed])), (a_t_now, .inl (cI, 1562, .inl (upd t_now (((nI 56) + x1)).toNatClampNeg x2)))] := hD
      refine lv_iconst (v := (nI 1)) hx hb dX11_gun_41 rfl ?_
      obtain ⟨j0_, g_⟩ := Prod.mk.inj (Option.some.inj h)
      obtain ⟨j1_, g_⟩ := Prod.mk.inj g_
      have j2_ := g_
      subst j0_
      subst j1_
      subst j2_
      exact W.zret (v := (nI 1)) hx hb hr rfl (fun t ht hW => ⟨⟨_, (), rfl, rfl, zPost.of hP hD hK ht hW [0, 1] rfl rfl rfl⟩, hS.F ht⟩) hS.2.2 dX11_gun_42
    · have h := zz_f h c4
      refine lv_iload_n hx hb dX11_gun_19 rfl (lv_at hl 2 rfl) ?_
      refine lv_iconst (v := (nI 0)) hx hb dX11_gun_20 rfl ?_
      refine lv_ldc (v := (nI 40000)) hx hb hown (hts _ kX11_gun_2) dX11_gun_21 ?_
      obtain ⟨b6, e7, h⟩ := zz_b h
      refine zSi (As := [.int x2, .int (nI 0), .int (nI 40000)]) (rest := []) (wr := [(a_t, .inr (11, [.int (nI 0), .ref a_t_now, .ref a_t_kept, .int t_isKept, .ref a_t_text, .int t_length, .ref a_t_passing, .int t_at, .int t_fault, .int t_open, .int t_asked, .int t_byGun, .int t_prizeMost, .ref a_t_order, .ref a_t_times, .int t_listed])), (a_t_now, .inl (cI, 1562, .inl t_now))]) [] [0, 1] ⟨hx, hb, hml, hown, hts⟩ (mX11_isIn l D cB cI cZ H.size x2 (nI 0) (nI 40000) b6 e7) (va_cwS 3 hts gX11_gun_X11_isIn rfl rfl rfl (by decide +kernel) ⟨Nat.le_of_ble_eq_true rfl, Nat.le_of_ble_eq_true rfl⟩) hK hN hZ hP hD hS hA rfl rfl rfl rfl rfl rfl hl.1 rfl (lv_room (Nat.le_of_ble_eq_true rfl)) dX11_gun_23 ⟨Nat.le_of_ble_eq_true rfl, Nat.le_of_ble_eq_true rfl⟩ (fun H locs hP hD hS => ?_)
      have hP : va_P D vwCl [(a_t, .inr (11, [.int (nI 0), .ref a_t_now, .ref a_t_kept, .int t_isKept, .ref a_t_text, .int t_length, .ref a_t_passing, .int t_at, .int t_fault, .int t_open, .int t_asked, .int t_byGun, .int t_prizeMost, .ref a_t_order, .ref a_t_times, .int t_listed])), (a_t_now, .inl (cI, 1562, .inl t_now))] H := hP
      have hD : va_D A [(a_t, .inr (11, [.int (nI 0), .ref a_t_now, .ref a_t_kept, .int t_isKept, .ref a_t_text, .int t_length, .ref a_t_passing, .int t_at, .int t_fault, .int t_open, .int t_asked, .int t_byGun, .int t_prizeMost, .ref a_t_order, .ref a_t_times, .int t_listed])), (a_t_now, .inl (cI, 1562, .inl t_now))] := hD
      refine lv_if_ne (tgt := 31) hx hb dX11_gun_26 (by decide) (fun c8 => ?_) (fun c8 => ?_)
      · have h := zz_f h c8
        refine lv_aload_n hx hb dX11_gun_31 rfl (lv_at hl 0 rfl) ?_
        refine va_get (D := D) (ci := 11) (C := RX11) (T := TX11) (N := 16) hx hb hts qX11_gun_X11 hown hK hP 0 rfl rfl 1 (by decide) (hts _ kX11_gun_3) (fun _ h9 => h9) rfl dX11_gun_32 ?_
        refine lv_bipush (v := (nI 56)) hx hb dX11_gun_35 rfl ?_
        refine lv_iload_n hx hb dX11_gun_37 rfl (lv_at hl 1 rfl) ?_
        refine lv_iadd hx hb dX11_gun_38 ?_
        refine lv_iload_n hx hb dX11_gun_39 rfl (lv_at hl 2 rfl) ?_
        obtain ⟨i9, h⟩ := zz_i h
        refine va_iast hx hb hK hP hD hS 1 1 rfl rfl i9 dX11_gun_40 (fun H locs hP hD hS => ?_)
        have hP : va_P D vwCl [(a_t, .inr (11, [.int (nI 0), .ref a_t_now, .ref a_t_kept, .int t_isKept, .ref a_t_text, .int t_length, .ref a_t_passing, .int t_at, .int t_fault, .int t_open, .int t_asked, .int t_byGun, .int t_prizeMost, .ref a_t_order, .ref a_t_times, .int t_listed])), (a_t_now, .inl (cI, 1562, .inl (upd t_now (((nI 56) + x1)).toNatClampNeg x2)))] H := hP
        have hD : va_D A [(a_t, .inr (11, [.int (nI 0), .ref a_t_now, .ref a_t_kept, .int t_isKept, .ref a_t_text, .int t_length, .ref a_t_passing, .int t_at, .int t_fault, .int t_open, .int t_asked, .int t_byGun, .int t_prizeMost, .ref a_t_order, .ref a_t_times, .int t_listed])), (a_t_now, .inl (cI, 1562, .inl (upd t_now (((nI 56) + x1)).toNatClampNeg x2)))] := hD
        refine lv_iconst (v := (nI 1)) hx hb dX11_gun_41 rfl ?_
        obtain ⟨j0_, g_⟩ := Prod.mk.inj (Option.some.inj h)
        obtain ⟨j1_, g_⟩ := Prod.mk.inj g_
        have j2_ := g_
        subst j0_
        subst j1_
        subst j2_
        exact W.zret (v := (nI 1)) hx hb hr rfl (fun t ht hW => ⟨⟨_, (), rfl, rfl, zPost.of hP hD hK ht hW [0, 1] rfl rfl rfl⟩, hS.F ht⟩) hS.2.2 dX11_gun_42
      · have h := zz_t h c8
        refine lv_iconst (v := (nI 0)) hx hb dX11_gun_29 rfl ?_
        obtain ⟨j0_, g_⟩ := Prod.mk.inj (Option.some.inj h)
        obtain ⟨j1_, g_⟩ := Prod.mk.inj g_
        have j2_ := g_
        subst j0_
        subst j1_
        subst j2_
        exact W.zret (v := (nI 0)) hx hb hr rfl (fun t ht hW => ⟨⟨_, (), rfl, rfl, zPost.of hP hD hK ht hW [0, 1] rfl rfl rfl⟩, hS.F ht⟩) hS.2.2 dX11_gun_30
/-! RunDeskModel.isTorn -/
theorem dX11_isTorn_0 : decode cX11_isTorn 0 = .ok (.aload_n 0, 1) := by decide +kernel
theorem dX11_isTorn_1 : decode cX11_isTorn 1 = .ok (.iload_n 1, 1) := by decide +kernel
theorem dX11_isTorn_2 : decode cX11_isTorn 2 = .ok (.bipush 9, 2) := by decide +kernel
theorem dX11_isTorn_4 : decode cX11_isTorn 4 = .ok (.invokevirtual 62, 3) := by decide +kernel
theorem dX11_isTorn_7 : decode cX11_isTorn 7 = .ok (.iconst (-1), 1) := by decide +kernel
theorem dX11_isTorn_8 : decode cX11_isTorn 8 = .ok (.if_icmp .eq 18, 3) := by decide +kernel
theorem dX11_isTorn_11 : decode cX11_isTorn 11 = .ok (.iload_n 2, 1) := by decide +kernel
theorem dX11_isTorn_12 : decode cX11_isTorn 12 = .ok (.aload_n 0, 1) := by decide +kernel
theorem dX11_isTorn_13 : decode cX11_isTorn 13 = .ok (.iload_n 1, 1) := by decide +kernel
theorem dX11_isTorn_14 : decode cX11_isTorn 14 = .ok (.bipush 9, 2) := by decide +kernel
theorem dX11_isTorn_16 : decode cX11_isTorn 16 = .ok (.invokevirtual 62, 3) := by decide +kernel
theorem dX11_isTorn_19 : decode cX11_isTorn 19 = .ok (.if_icmp .lt 7, 3) := by decide +kernel
theorem dX11_isTorn_22 : decode cX11_isTorn 22 = .ok (.iconst 1, 1) := by decide +kernel
theorem dX11_isTorn_23 : decode cX11_isTorn 23 = .ok (.goto 4, 3) := by decide +kernel
theorem dX11_isTorn_26 : decode cX11_isTorn 26 = .ok (.iconst 0, 1) := by decide +kernel
theorem dX11_isTorn_27 : decode cX11_isTorn 27 = .ok (.ireturn, 1) := by decide +kernel
set_option maxRecDepth 20000 in
theorem ggX11_isTorn_X11_of : GoodIn wsX11_isTorn wsX11_of := goodIn_sub (List.forall_mem_cons.mpr ⟨List.mem_cons_of_mem _ (List.mem_append_left _ (List.mem_of_getElem? (i := 4) rfl)), (List.forall_mem_append.mpr ⟨(List.forall_mem_cons.mpr ⟨List.mem_cons_of_mem _ (List.mem_append_left _ (List.mem_of_getElem? (i := 5) rfl)), (fun _ h => nomatch h)⟩), (fun _ h => List.mem_cons_of_mem _ (List.mem_append_right _ (h)))⟩)⟩) (by decide +kernel)
set_option maxRecDepth 20000 in
theorem gX11_isTorn_X11_of : GoodIn wsX11_isTorn (wsV RX11 62 RX11 yX11_of wsX11_of) := goodIn_app (goodIn_of _ (by decide +kernel)) ggX11_isTorn_X11_of
set_option maxHeartbeats 4000000 in
set_option maxRecDepth 100000 in
theorem mX11_isTorn (l : Launch) (D : va_G) (cB cI cZ : ClassId) (a_t : Nat) (a_t_now : Nat) (a_t_kept : Nat) (a_t_text : Nat) (a_t_passing : Nat) (a_t_order : Nat) (a_t_times : Nat) (t_thrown : Int32) (t_isKept : Int32) (t_length : Int32) (t_at : Int32) (t_fault : Int32) (t_open : Int32) (t_asked : Int32) (t_byGun : Int32) (t_prizeMost : Int32) (t_listed : Int32) (t_now : Nat → Int32) (sz : Nat) (x1 : Int32) (x2 : Int32) (b0 : Bool) (h : fX11_isTorn t_now x1 x2 = some (b0)) : Met l yX11_isTorn wsX11_isTorn ({ frames := 1, cells := 0, slots := 0, locals := 22 } : Room) (va_Pc [.ref a_t, .int x1, .int x2] (zPre D (zT cB cI cZ) [(a_t, .inr (11, [.int t_thrown, .ref a_t_now, .ref a_t_kept, .int t_isKept, .ref a_t_text, .int t_length, .ref a_t_passing, .int t_at, .int t_fault, .int t_open, .int t_asked, .int t_byGun, .int t_prizeMost, .ref a_t_order, .ref a_t_times, .int t_listed])), (a_t_now, .inl (cI, 1562, .inl t_now))] sz)) (zQi (zb b0) D (zT cB cI cZ) [(a_t, .inr (11, [.int t_thrown, .ref a_t_now, .ref a_t_kept, .int t_isKept, .ref a_t_text, .int t_length, .ref a_t_passing, .int t_at, .int t_fault, .int t_open, .int t_asked, .int t_byGun, .int t_prizeMost, .ref a_t_order, .ref a_t_times, .int t_listed])), (a_t_now, .inl (cI, 1562, .inl t_now))] (va_A [(a_t, .inr (11, [.int t_thrown, .ref a_t_now, .ref a_t_kept, .int t_isKept, .ref a_t_text, .int t_length, .ref a_t_passing, .int t_at, .int t_fault, .int t_open, .int t_asked, .int t_byGun, .int t_prizeMost, .ref a_t_order, .ref a_t_times, .int t_listed])), (a_t_now, .inl (cI, 1562, .inl t_now))] sz)) 0 0 (va_A [(a_t, .inr (11, [.int t_thrown, .ref a_t_now, .ref a_t_kept, .int t_isKept, .ref a_t_text, .int t_length, .ref a_t_passing, .int t_at, .int t_fault, .int t_open, .int t_asked, .int t_byGun, .int t_prizeMost, .ref a_t_order, .ref a_t_times, .int t_listed])), (a_t_now, .inl (cI, 1562, .inl t_now))] sz) := by
  refine Met.ofW (cc := cX11_isTorn) (maxL := 3) (ret := (some .boolean)) (by decide) rfl ?_
  intro p e s m args below meth c s₁ B hml hv
  obtain ⟨rfl, hsz, hP, hK, hN, hZ, hD0⟩ := hv
  have hx := B.exec
  have hb := B.bytes
  have hr := B.returns
  have hts := atoms_spec (ws := wsX11_isTorn) B.pre
  have hown : s.vm.findClass RX11 = some m.cls := findClass_of_methodNamed B.named
  have hlocks := B.notSynchronized
  subst hsz
  have hD := hD0.self (sz := s.heap.size)
  generalize hAe : va_A [(a_t, .inr (11, [.int t_thrown, .ref a_t_now, .ref a_t_kept, .int t_isKept, .ref a_t_text, .int t_length, .ref a_t_passing, .int t_at, .int t_fault, .int t_open, .int t_asked, .int t_byGun, .int t_prizeMost, .ref a_t_order, .ref a_t_times, .int t_listed])), (a_t_now, .inl (cI, 1562, .inl t_now))] s.heap.size = A at hD hZ ⊢
  have hA : ∀ q : Nat, s.heap.size ≤ q → A q := fun q h => by rw [← hAe]; exact Or.inr h
  have hS : va_S A s.heap s.heap [] := va_S.rf
  have hl := lv_entry ([.ref a_t, .int x1, .int x2]) (n := 3) (Nat.le_of_ble_eq_true rfl)
  rw [lg_entry_eq]
  generalize (lg_sl ([.ref a_t, .int x1, .int x2]) ++ List.replicate (3 - (lg_sl ([.ref a_t, .int x1, .int x2])).length) Slot.unset).toArray = ls at hl ⊢
  have hl : lv_has ls 3 [(0, .ref a_t), (1, .int x1), (2, .int x2)] := hl
  unfold fX11_isTorn at h
  refine lv_aload_n hx hb dX11_isTorn_0 rfl (lv_at hl 0 rfl) ?_
  refine lv_iload_n hx hb dX11_isTorn_1 rfl (lv_at hl 1 rfl) ?_
  refine lv_bipush (v := (nI 9)) hx hb dX11_isTorn_2 rfl ?_
  obtain ⟨r1, e2, h⟩ := zz_b h
  refine zVi (As := [.int x1, .int (nI 9)]) (rest := []) (C := RX11) (wr := []) [0, 1] [] 0 ⟨hx, hb, hml, hown, hts⟩ (mX11_of l D cB cI cZ a_t a_t_now a_t_kept a_t_text a_t_passing a_t_order a_t_times t_thrown t_isKept t_length t_at t_fault t_open t_asked t_byGun t_prizeMost t_listed t_now s.heap.size x1 (nI 9) r1 e2) (cwV 2 hts gX11_isTorn_X11_of rfl rfl rfl (by decide +kernel) ⟨Nat.le_of_ble_eq_true rfl, Nat.le_of_ble_eq_true rfl⟩) hK hN hZ hP hD hS hA rfl rfl rfl rfl rfl rfl rfl rfl hl.1 rfl (lv_room (Nat.le_of_ble_eq_true rfl)) dX11_isTorn_4 ⟨Nat.le_of_ble_eq_true rfl, Nat.le_of_ble_eq_true rfl⟩ (fun H locs hP hD hS => ?_)
  have hP : va_P D vwCl [(a_t, .inr (11, [.int t_thrown, .ref a_t_now, .ref a_t_kept, .int t_isKept, .ref a_t_text, .int t_length, .ref a_t_passing, .int t_at, .int t_fault, .int t_open, .int t_asked, .int t_byGun, .int t_prizeMost, .ref a_t_order, .ref a_t_times, .int t_listed])), (a_t_now, .inl (cI, 1562, .inl t_now))] H := hP
  have hD : va_D A [(a_t, .inr (11, [.int t_thrown, .ref a_t_now, .ref a_t_kept, .int t_isKept, .ref a_t_text, .int t_length, .ref a_t_passing, .int t_at, .int t_fault, .int t_open, .int t_asked, .int t_byGun, .int t_prizeMost, .ref a_t_order, .ref a_t_times, .int t_listed])), (a_t_now, .inl (cI, 1562, .inl t_now))] := hD
  refine lv_iconst (v := (-1 : Int32)) hx hb dX11_isTorn_7 rfl ?_
  refine lv_icmp_eq (tgt := 26) hx hb dX11_isTorn_8 (by decide) (fun c3 => ?_) (fun c3 => ?_)
  · have h := zz_t h c3
    refine lv_iconst (v := (nI 0)) hx hb dX11_isTorn_26 rfl ?_
    have j0_ := Option.some.inj h
    subst j0_
    exact W.zret (v := (nI 0)) hx hb hr rfl (fun t ht hW => ⟨⟨_, (), rfl, rfl, zPost.of hP hD hK ht hW [0, 1] rfl rfl rfl⟩, hS.F ht⟩) hS.2.2 dX11_isTorn_27
  · have h := zz_f h c3
    refine lv_iload_n hx hb dX11_isTorn_11 rfl (lv_at hl 2 rfl) ?_
    refine lv_aload_n hx hb dX11_isTorn_12 rfl (lv_at hl 0 rfl) ?_
    refine lv_iload_n hx hb dX11_isTorn_13 rfl (lv_at hl 1 rfl) ?_
    refine lv_bipush (v := (nI 9)) hx hb dX11_isTorn_14 rfl ?_
    obtain ⟨r4, e5, h⟩ := zz_b h
    refine zVi (As := [.int x1, .int (nI 9)]) (rest := [.int x2]) (C := RX11) (wr := []) [0, 1] [] 0 ⟨hx, hb, hml, hown, hts⟩ (mX11_of l D cB cI cZ a_t a_t_now a_t_kept a_t_text a_t_passing a_t_order a_t_times t_thrown t_isKept t_length t_at t_fault t_open t_asked t_byGun t_prizeMost t_listed t_now H.size x1 (nI 9) r4 e5) (cwV 2 hts gX11_isTorn_X11_of rfl rfl rfl (by decide +kernel) ⟨Nat.le_of_ble_eq_true rfl, Nat.le_of_ble_eq_true rfl⟩) hK hN hZ hP hD hS hA rfl rfl rfl rfl rfl rfl rfl rfl hl.1 rfl (lv_room (Nat.le_of_ble_eq_true rfl)) dX11_isTorn_16 ⟨Nat.le_of_ble_eq_true rfl, Nat.le_of_ble_eq_true rfl⟩ (fun H locs hP hD hS => ?_)
    have hP : va_P D vwCl [(a_t, .inr (11, [.int t_thrown, .ref a_t_now, .ref a_t_kept, .int t_isKept, .ref a_t_text, .int t_length, .ref a_t_passing, .int t_at, .int t_fault, .int t_open, .int t_asked, .int t_byGun, .int t_prizeMost, .ref a_t_order, .ref a_t_times, .int t_listed])), (a_t_now, .inl (cI, 1562, .inl t_now))] H := hP
    have hD : va_D A [(a_t, .inr (11, [.int t_thrown, .ref a_t_now, .ref a_t_kept, .int t_isKept, .ref a_t_text, .int t_length, .ref a_t_passing, .int t_at, .int t_fault, .int t_open, .int t_asked, .int t_byGun, .int t_prizeMost, .ref a_t_order, .ref a_t_times, .int t_listed])), (a_t_now, .inl (cI, 1562, .inl t_now))] := hD
    refine lv_icmp_lt (tgt := 26) hx hb dX11_isTorn_19 (by decide) (fun c6 => ?_) (fun c6 => ?_)
    · have h := zz_t h c6
      refine lv_iconst (v := (nI 0)) hx hb dX11_isTorn_26 rfl ?_
      have j0_ := Option.some.inj h
      subst j0_
      exact W.zret (v := (nI 0)) hx hb hr rfl (fun t ht hW => ⟨⟨_, (), rfl, rfl, zPost.of hP hD hK ht hW [0, 1] rfl rfl rfl⟩, hS.F ht⟩) hS.2.2 dX11_isTorn_27
    · have h := zz_f h c6
      refine lv_iconst (v := (nI 1)) hx hb dX11_isTorn_22 rfl ?_
      refine lv_goto (tgt := 27) hx hb dX11_isTorn_23 (by decide) ?_
      have j0_ := Option.some.inj h
      subst j0_
      exact W.zret (v := (nI 1)) hx hb hr rfl (fun t ht hW => ⟨⟨_, (), rfl, rfl, zPost.of hP hD hK ht hW [0, 1] rfl rfl rfl⟩, hS.F ht⟩) hS.2.2 dX11_isTorn_27
/-! RunDeskModel.saw -/
theorem dX11_saw_0 : decode cX11_saw 0 = .ok (.aload_n 0, 1) := by decide +kernel
theorem dX11_saw_1 : decode cX11_saw 1 = .ok (.iload_n 1, 1) := by decide +kernel
theorem dX11_saw_2 : decode cX11_saw 2 = .ok (.invokevirtual 65, 3) := by decide +kernel
theorem dX11_saw_5 : decode cX11_saw 5 = .ok (.ifCond .eq 40, 3) := by decide +kernel
theorem dX11_saw_8 : decode cX11_saw 8 = .ok (.aload_n 0, 1) := by decide +kernel
theorem dX11_saw_9 : decode cX11_saw 9 = .ok (.iload_n 2, 1) := by decide +kernel
theorem dX11_saw_10 : decode cX11_saw 10 = .ok (.invokevirtual 69, 3) := by decide +kernel
theorem dX11_saw_13 : decode cX11_saw 13 = .ok (.ifCond .eq 32, 3) := by decide +kernel
theorem dX11_saw_16 : decode cX11_saw 16 = .ok (.iload_n 3, 1) := by decide +kernel
theorem dX11_saw_17 : decode cX11_saw 17 = .ok (.iconst 0, 1) := by decide +kernel
theorem dX11_saw_18 : decode cX11_saw 18 = .ok (.ldc 61, 2) := by decide +kernel
theorem dX11_saw_20 : decode cX11_saw 20 = .ok (.invokestatic 52, 3) := by decide +kernel
theorem dX11_saw_23 : decode cX11_saw 23 = .ok (.ifCond .eq 22, 3) := by decide +kernel
theorem dX11_saw_26 : decode cX11_saw 26 = .ok (.aload_n 0, 1) := by decide +kernel
theorem dX11_saw_27 : decode cX11_saw 27 = .ok (.iload_n 2, 1) := by decide +kernel
theorem dX11_saw_28 : decode cX11_saw 28 = .ok (.iconst 2, 1) := by decide +kernel
theorem dX11_saw_29 : decode cX11_saw 29 = .ok (.invokevirtual 56, 3) := by decide +kernel
theorem dX11_saw_32 : decode cX11_saw 32 = .ok (.iconst 1, 1) := by decide +kernel
theorem dX11_saw_33 : decode cX11_saw 33 = .ok (.if_icmp .eq 12, 3) := by decide +kernel
theorem dX11_saw_36 : decode cX11_saw 36 = .ok (.aload_n 0, 1) := by decide +kernel
theorem dX11_saw_37 : decode cX11_saw 37 = .ok (.iload_n 1, 1) := by decide +kernel
theorem dX11_saw_38 : decode cX11_saw 38 = .ok (.iload_n 2, 1) := by decide +kernel
theorem dX11_saw_39 : decode cX11_saw 39 = .ok (.invokevirtual 72, 3) := by decide +kernel
theorem dX11_saw_42 : decode cX11_saw 42 = .ok (.ifCond .eq 5, 3) := by decide +kernel
theorem dX11_saw_45 : decode cX11_saw 45 = .ok (.iconst (-1), 1) := by decide +kernel
theorem dX11_saw_46 : decode cX11_saw 46 = .ok (.ireturn, 1) := by decide +kernel
theorem dX11_saw_47 : decode cX11_saw 47 = .ok (.aload_n 0, 1) := by decide +kernel
theorem dX11_saw_48 : decode cX11_saw 48 = .ok (.iload_n 1, 1) := by decide +kernel
theorem dX11_saw_49 : decode cX11_saw 49 = .ok (.bipush 12, 2) := by decide +kernel
theorem dX11_saw_51 : decode cX11_saw 51 = .ok (.iload_n 2, 1) := by decide +kernel
theorem dX11_saw_52 : decode cX11_saw 52 = .ok (.iadd, 1) := by decide +kernel
theorem dX11_saw_53 : decode cX11_saw 53 = .ok (.invokevirtual 62, 3) := by decide +kernel
theorem dX11_saw_56 : decode cX11_saw 56 = .ok (.istore 4, 2) := by decide +kernel
theorem dX11_saw_58 : decode cX11_saw 58 = .ok (.iload 4, 2) := by decide +kernel
theorem dX11_saw_60 : decode cX11_saw 60 = .ok (.iconst (-1), 1) := by decide +kernel
theorem dX11_saw_61 : decode cX11_saw 61 = .ok (.if_icmp .eq 11, 3) := by decide +kernel
theorem dX11_saw_64 : decode cX11_saw 64 = .ok (.iload 4, 2) := by decide +kernel
theorem dX11_saw_66 : decode cX11_saw 66 = .ok (.iload_n 3, 1) := by decide +kernel
theorem dX11_saw_67 : decode cX11_saw 67 = .ok (.if_icmp .gt 5, 3) := by decide +kernel
theorem dX11_saw_70 : decode cX11_saw 70 = .ok (.iconst 0, 1) := by decide +kernel
theorem dX11_saw_71 : decode cX11_saw 71 = .ok (.ireturn, 1) := by decide +kernel
theorem dX11_saw_72 : decode cX11_saw 72 = .ok (.aload_n 0, 1) := by decide +kernel
theorem dX11_saw_73 : decode cX11_saw 73 = .ok (.iload_n 1, 1) := by decide +kernel
theorem dX11_saw_74 : decode cX11_saw 74 = .ok (.bipush 12, 2) := by decide +kernel
theorem dX11_saw_76 : decode cX11_saw 76 = .ok (.iload_n 2, 1) := by decide +kernel
theorem dX11_saw_77 : decode cX11_saw 77 = .ok (.iadd, 1) := by decide +kernel
theorem dX11_saw_78 : decode cX11_saw 78 = .ok (.iload_n 3, 1) := by decide +kernel
theorem dX11_saw_79 : decode cX11_saw 79 = .ok (.invokevirtual 48, 3) := by decide +kernel
theorem dX11_saw_82 : decode cX11_saw 82 = .ok (.iconst 1, 1) := by decide +kernel
theorem dX11_saw_83 : decode cX11_saw 83 = .ok (.ireturn, 1) := by decide +kernel
set_option maxRecDepth 20000 in
theorem ggX11_saw_X11_isRunner : GoodIn wsX11_saw wsX11_isRunner := goodIn_sub (List.forall_mem_cons.mpr ⟨List.mem_cons_of_mem _ (List.mem_append_left _ (List.mem_append_left _ (List.mem_of_getElem? (l := wsX11_saw_r1) (i := 5) rfl))), (List.forall_mem_append.mpr ⟨(List.forall_mem_cons.mpr ⟨List.mem_cons_of_mem _ (List.mem_append_left _ (List.mem_append_left _ (List.mem_of_getElem? (l := wsX11_saw_r1) (i := 6) rfl))), (List.forall_mem_cons.mpr ⟨List.mem_cons_of_mem _ (List.mem_append_left _ (List.mem_append_left _ (List.mem_of_getElem? (l := wsX11_saw_r1) (i := 7) rfl))), (List.forall_mem_cons.mpr ⟨List.mem_cons_of_mem _ (List.mem_append_left _ (List.mem_append_left _ (List.mem_of_getElem? (l := wsX11_saw_r1) (i := 8) rfl))), (List.forall_mem_cons.mpr ⟨List.mem_cons_of_mem _ (List.mem_append_left _ (List.mem_append_left _ (List.mem_of_getElem? (l := wsX11_saw_r1) (i := 9) rfl))), (List.forall_mem_cons.mpr ⟨List.mem_cons_of_mem _ (List.mem_append_left _ (List.mem_append_left _ (List.mem_of_getElem? (l := wsX11_saw_r1) (i := 4) rfl))), (List.forall_mem_cons.mpr ⟨List.mem_cons_of_mem _ (List.mem_append_left _ (List.mem_append_left _ (List.mem_of_getElem? (l := wsX11_saw_r1) (i := 10) rfl))), (List.forall_mem_cons.mpr ⟨List.mem_cons_of_mem _ (List.mem_append_left _ (List.mem_append_left _ (List.mem_of_getElem? (l := wsX11_saw_r1) (i := 11) rfl))), (fun _ h => nomatch h)⟩)⟩)⟩)⟩)⟩)⟩)⟩), (fun _ h => List.mem_cons_of_mem _ (List.mem_append_right _ (h)))⟩)⟩) (by decide +kernel)
set_option maxRecDepth 20000 in
theorem gX11_saw_X11_isRunner : GoodIn wsX11_saw (wsV RX11 65 RX11 yX11_isRunner wsX11_isRunner) := goodIn_app (goodIn_of _ (by decide +kernel)) ggX11_saw_X11_isRunner
set_option maxRecDepth 20000 in
theorem ggX11_saw_X11_isMat : GoodIn wsX11_saw wsX11_isMat := goodIn_sub (List.forall_mem_cons.mpr ⟨List.mem_cons_of_mem _ (List.mem_append_left _ (List.mem_append_left _ (List.mem_of_getElem? (l := wsX11_saw_r1) (i := 15) rfl))), (List.forall_mem_append.mpr ⟨(List.forall_mem_cons.mpr ⟨List.mem_cons_of_mem _ (List.mem_append_left _ (List.mem_append_left _ (List.mem_of_getElem? (l := wsX11_saw_r1) (i := 16) rfl))), (List.forall_mem_cons.mpr ⟨List.mem_cons_of_mem _ (List.mem_append_left _ (List.mem_append_left _ (List.mem_of_getElem? (l := wsX11_saw_r1) (i := 17) rfl))), (List.forall_mem_cons.mpr ⟨List.mem_cons_of_mem _ (List.mem_append_left _ (List.mem_append_left _ (List.mem_of_getElem? (l := wsX11_saw_r1) (i := 18) rfl))), (List.forall_mem_cons.mpr ⟨List.mem_cons_of_mem _ (List.mem_append_left _ (List.mem_append_left _ (List.mem_of_getElem? (l := wsX11_saw_r1) (i := 4) rfl))), (List.forall_mem_cons.mpr ⟨List.mem_cons_of_mem _ (List.mem_append_left _ (List.mem_append_left _ (List.mem_of_getElem? (l := wsX11_saw_r1) (i := 19) rfl))), (List.forall_mem_cons.mpr ⟨List.mem_cons_of_mem _ (List.mem_append_left _ (List.mem_append_left _ (List.mem_of_getElem? (l := wsX11_saw_r1) (i := 11) rfl))), (fun _ h => nomatch h)⟩)⟩)⟩)⟩)⟩)⟩), (fun _ h => List.mem_cons_of_mem _ (List.mem_append_right _ (h)))⟩)⟩) (by decide +kernel)
set_option maxRecDepth 20000 in
theorem gX11_saw_X11_isMat : GoodIn wsX11_saw (wsV RX11 69 RX11 yX11_isMat wsX11_isMat) := goodIn_app (goodIn_of _ (by decide +kernel)) ggX11_saw_X11_isMat
set_option maxRecDepth 20000 in
theorem ggX11_saw_X11_isIn : GoodIn wsX11_saw wsX11_isIn := goodIn_sub (List.forall_mem_cons.mpr ⟨List.mem_cons_of_mem _ (List.mem_append_left _ (List.mem_append_left _ (List.mem_of_getElem? (l := wsX11_saw_r1) (i := 22) rfl))), (fun _ h => nomatch h)⟩) (by decide +kernel)
set_option maxRecDepth 20000 in
theorem gX11_saw_X11_isIn : GoodIn wsX11_saw (va_wsS RX11 52 yX11_isIn wsX11_isIn) := goodIn_app (goodIn_of _ (by decide +kernel)) ggX11_saw_X11_isIn
set_option maxRecDepth 20000 in
theorem ggX11_saw_X11_ofMat : GoodIn wsX11_saw wsX11_ofMat := goodIn_sub (List.forall_mem_cons.mpr ⟨List.mem_cons_of_mem _ (List.mem_append_left _ (List.mem_append_right _ (List.mem_of_getElem? (l := wsX11_saw_r2) (i := 2) rfl))), (List.forall_mem_append.mpr ⟨(List.forall_mem_cons.mpr ⟨List.mem_cons_of_mem _ (List.mem_append_left _ (List.mem_append_left _ (List.mem_of_getElem? (l := wsX11_saw_r1) (i := 11) rfl))), (fun _ h => nomatch h)⟩), (fun _ h => List.mem_cons_of_mem _ (List.mem_append_right _ (h)))⟩)⟩) (by decide +kernel)
set_option maxRecDepth 20000 in
theorem gX11_saw_X11_ofMat : GoodIn wsX11_saw (wsV RX11 56 RX11 yX11_ofMat wsX11_ofMat) := goodIn_app (goodIn_of _ (by decide +kernel)) ggX11_saw_X11_ofMat
set_option maxRecDepth 20000 in
theorem ggX11_saw_X11_isTorn : GoodIn wsX11_saw wsX11_isTorn := goodIn_sub (List.forall_mem_cons.mpr ⟨List.mem_cons_of_mem _ (List.mem_append_left _ (List.mem_append_right _ (List.mem_of_getElem? (l := wsX11_saw_r2) (i := 6) rfl))), (List.forall_mem_append.mpr ⟨(List.forall_mem_cons.mpr ⟨List.mem_cons_of_mem _ (List.mem_append_left _ (List.mem_append_right _ (List.mem_of_getElem? (l := wsX11_saw_r2) (i := 7) rfl))), (List.forall_mem_cons.mpr ⟨List.mem_cons_of_mem _ (List.mem_append_left _ (List.mem_append_right _ (List.mem_of_getElem? (l := wsX11_saw_r2) (i := 8) rfl))), (List.forall_mem_cons.mpr ⟨List.mem_cons_of_mem _ (List.mem_append_left _ (List.mem_append_right _ (List.mem_of_getElem? (l := wsX11_saw_r2) (i := 9) rfl))), (List.forall_mem_cons.mpr ⟨List.mem_cons_of_mem _ (List.mem_append_left _ (List.mem_append_left _ (List.mem_of_getElem? (l := wsX11_saw_r1) (i := 4) rfl))), (List.forall_mem_cons.mpr ⟨List.mem_cons_of_mem _ (List.mem_append_left _ (List.mem_append_right _ (List.mem_of_getElem? (l := wsX11_saw_r2) (i := 10) rfl))), (List.forall_mem_cons.mpr ⟨List.mem_cons_of_mem _ (List.mem_append_left _ (List.mem_append_left _ (List.mem_of_getElem? (l := wsX11_saw_r1) (i := 11) rfl))), (fun _ h => nomatch h)⟩)⟩)⟩)⟩)⟩)⟩), (fun _ h => List.mem_cons_of_mem _ (List.mem_append_right _ (h)))⟩)⟩) (by decide +kernel)
set_option maxRecDepth 20000 in
theorem gX11_saw_X11_isTorn : GoodIn wsX11_saw (wsV RX11 72 RX11 yX11_isTorn wsX11_isTorn) := goodIn_app (goodIn_of _ (by decide +kernel)) ggX11_saw_X11_isTorn
set_option maxRecDepth 20000 in
theorem ggX11_saw_X11_of : GoodIn wsX11_saw wsX11_of := goodIn_sub (List.forall_mem_cons.mpr ⟨List.mem_cons_of_mem _ (List.mem_append_left _ (List.mem_append_right _ (List.mem_of_getElem? (l := wsX11_saw_r2) (i := 10) rfl))), (List.forall_mem_append.mpr ⟨(List.forall_mem_cons.mpr ⟨List.mem_cons_of_mem _ (List.mem_append_left _ (List.mem_append_left _ (List.mem_of_getElem? (l := wsX11_saw_r1) (i := 11) rfl))), (fun _ h => nomatch h)⟩), (fun _ h => List.mem_cons_of_mem _ (List.mem_append_right _ (h)))⟩)⟩) (by decide +kernel)
set_option maxRecDepth 20000 in
theorem gX11_saw_X11_of : GoodIn wsX11_saw (wsV RX11 62 RX11 yX11_of wsX11_of) := goodIn_app (goodIn_of _ (by decide +kernel)) ggX11_saw_X11_of
set_option maxRecDepth 20000 in
theorem ggX11_saw_X11_put : GoodIn wsX11_saw wsX11_put := goodIn_sub (List.forall_mem_cons.mpr ⟨List.mem_cons_of_mem _ (List.mem_append_left _ (List.mem_append_right _ (List.mem_of_getElem? (l := wsX11_saw_r2) (i := 14) rfl))), (List.forall_mem_append.mpr ⟨(List.forall_mem_cons.mpr ⟨List.mem_cons_of_mem _ (List.mem_append_left _ (List.mem_append_left _ (List.mem_of_getElem? (l := wsX11_saw_r1) (i := 11) rfl))), (fun _ h => nomatch h)⟩), (fun _ h => List.mem_cons_of_mem _ (List.mem_append_right _ (h)))⟩)⟩) (by decide +kernel)
set_option maxRecDepth 20000 in
theorem gX11_saw_X11_put : GoodIn wsX11_saw (wsV RX11 48 RX11 yX11_put wsX11_put) := goodIn_app (goodIn_of _ (by decide +kernel)) ggX11_saw_X11_put
theorem kX11_saw_0 : (.constant RX11 61 (40000) : Cond) ∈ wsX11_saw := List.mem_of_getElem? (i := 1) (by decide +kernel)
set_option maxHeartbeats 4000000 in
set_option maxRecDepth 100000 in
theorem mX11_saw (l : Launch) (D : va_G) (cB cI cZ : ClassId) (a_t : Nat) (a_t_now : Nat) (a_t_kept : Nat) (a_t_text : Nat) (a_t_passing : Nat) (a_t_order : Nat) (a_t_times : Nat) (t_thrown : Int32) (t_isKept : Int32) (t_length : Int32) (t_at : Int32) (t_fault : Int32) (t_open : Int32) (t_asked : Int32) (t_byGun : Int32) (t_prizeMost : Int32) (t_listed : Int32) (t_now : Nat → Int32) (sz : Nat) (x1 : Int32) (x2 : Int32) (x3 : Int32) (r0 : Int32) (t_thrown' : Int32) (t_now' : Nat → Int32) (h : fX11_saw t_thrown t_now x1 x2 x3 = some (r0, t_thrown', t_now')) : Met l yX11_saw wsX11_saw ({ frames := 2, cells := 0, slots := 0, locals := 44 } : Room) (va_Pc [.ref a_t, .int x1, .int x2, .int x3] (zPre D (zT cB cI cZ) [(a_t, .inr (11, [.int t_thrown, .ref a_t_now, .ref a_t_kept, .int t_isKept, .ref a_t_text, .int t_length, .ref a_t_passing, .int t_at, .int t_fault, .int t_open, .int t_asked, .int t_byGun, .int t_prizeMost, .ref a_t_order, .ref a_t_times, .int t_listed])), (a_t_now, .inl (cI, 1562, .inl t_now))] sz)) (zQi r0 D (zT cB cI cZ) [(a_t, .inr (11, [.int t_thrown', .ref a_t_now, .ref a_t_kept, .int t_isKept, .ref a_t_text, .int t_length, .ref a_t_passing, .int t_at, .int t_fault, .int t_open, .int t_asked, .int t_byGun, .int t_prizeMost, .ref a_t_order, .ref a_t_times, .int t_listed])), (a_t_now, .inl (cI, 1562, .inl t_now'))] (va_A [(a_t, .inr (11, [.int t_thrown, .ref a_t_now, .ref a_t_kept, .int t_isKept, .ref a_t_text, .int t_length, .ref a_t_passing, .int t_at, .int t_fault, .int t_open, .int t_asked, .int t_byGun, .int t_prizeMost, .ref a_t_order, .ref a_t_times, .int t_listed])), (a_t_now, .inl (cI, 1562, .inl t_now))] sz)) 0 0 (va_A [(a_t, .inr (11, [.int t_thrown, .ref a_t_now, .ref a_t_kept, .int t_isKept, .ref a_t_text, .int t_length, .ref a_t_passing, .int t_at, .int t_fault, .int t_open, .int t_asked, .int t_byGun, .int t_prizeMost, .ref a_t_order, .ref a_t_times, .int t_listed])), (a_t_now, .inl (cI, 1562, .inl t_now))] sz) := by
  refine Met.ofW (cc := cX11_saw) (maxL := 5) (ret := (some .int)) (by decide) rfl ?_
  intro p e s m args below meth c s₁ B hml hv
  obtain ⟨rfl, hsz, hP, hK, hN, hZ, hD0⟩ := hv
  have hx := B.exec
  have hb := B.bytes
  have hr := B.returns
  have hts := atoms_spec (ws := wsX11_saw) B.pre
  have hown : s.vm.findClass RX11 = some m.cls := findClass_of_methodNamed B.named
  have hlocks := B.notSynchronized
  subst hsz
  have hD := hD0.self (sz := s.heap.size)
  generalize hAe : va_A [(a_t, .inr (11, [.int t_thrown, .ref a_t_now, .ref a_t_kept, .int t_isKept, .ref a_t_text, .int t_length, .ref a_t_passing, .int t_at, .int t_fault, .int t_open, .int t_asked, .int t_byGun, .int t_prizeMost, .ref a_t_order, .ref a_t_times, .int t_listed])), (a_t_now, .inl (cI, 1562, .inl t_now))] s.heap.size = A at hD hZ ⊢
  have hA : ∀ q : Nat, s.heap.size ≤ q → A q := fun q h => by rw [← hAe]; exact Or.inr h
  have hS : va_S A s.heap s.heap [] := va_S.rf
  have hl := lv_entry ([.ref a_t, .int x1, .int x2, .int x3]) (n := 5) (Nat.le_of_ble_eq_true rfl)
  rw [lg_entry_eq]
  generalize (lg_sl ([.ref a_t, .int x1, .int x2, .int x3]) ++ List.replicate (5 - (lg_sl ([.ref a_t, .int x1, .int x2, .int x3])).length) Slot.unset).toArray = ls at hl ⊢
  have hl : lv_has ls 5 [(0, .ref a_t), (1, .int x1), (2, .int x2), (3, .int x3)] := hl
  unfold fX11_saw at h
  refine lv_aload_n hx hb dX11_saw_0 rfl (lv_at hl 0 rfl) ?_
  refine lv_iload_n hx hb dX11_saw_1 rfl (lv_at hl 1 rfl) ?_
  obtain ⟨⟨b1, t_thrown_r2⟩, e3, h⟩ := zz_b h
  dsimp only at h
  refine zVi (As := [.int x1]) (rest := []) (C := RX11) (wr := []) [0, 1] [] 0 ⟨hx, hb, hml, hown, hts⟩ (mX11_isRunner l D cB cI cZ a_t a_t_now a_t_kept a_t_text a_t_passing a_t_order a_t_times t_thrown t_isKept t_length t_at t_fault t_open t_asked t_byGun t_prizeMost t_listed t_now s.heap.size x1 b1 t_thrown_r2 e3) (cwV 1 hts gX11_saw_X11_isRunner rfl rfl rfl (by decide +kernel) ⟨Nat.le_of_ble_eq_true rfl, Nat.le_of_ble_eq_true rfl⟩) hK hN hZ hP hD hS hA rfl rfl rfl rfl rfl rfl rfl rfl hl.1 rfl (lv_room (Nat.le_of_ble_eq_true rfl)) dX11_saw_2 ⟨Nat.le_of_ble_eq_true rfl, Nat.le_of_ble_eq_true rfl⟩ (fun H locs hP hD hS => ?_)
  have hP : va_P D vwCl [(a_t, .inr (11, [.int t_thrown_r2, .ref a_t_now, .ref a_t_kept, .int t_isKept, .ref a_t_text, .int t_length, .ref a_t_passing, .int t_at, .int t_fault, .int t_open, .int t_asked, .int t_byGun, .int t_prizeMost, .ref a_t_order, .ref a_t_times, .int t_listed])), (a_t_now, .inl (cI, 1562, .inl t_now))] H := hP
  have hD : va_D A [(a_t, .inr (11, [.int t_thrown_r2, .ref a_t_now, .ref a_t_kept, .int t_isKept, .ref a_t_text, .int t_length, .ref a_t_passing, .int t_at, .int t_fault, .int t_open, .int t_asked, .int t_byGun, .int t_prizeMost, .ref a_t_order, .ref a_t_times, .int t_listed])), (a_t_now, .inl (cI, 1562, .inl t_now))] := hD
  refine lv_if_eq (tgt := 45) hx hb dX11_saw_5 (by decide) (fun c4 => ?_) (fun c4 => ?_)
  · have h := zz_t h c4
    refine lv_iconst (v := (-1 : Int32)) hx hb dX11_saw_45 rfl ?_
    obtain ⟨j0_, g_⟩ := Prod.mk.inj (Option.some.inj h)
    obtain ⟨j1_, g_⟩ := Prod.mk.inj g_
    have j2_ := g_
    subst j0_
    subst j1_
    subst j2_
    exact W.iret (v := (-1 : Int32)) hx hb hr (fun t ht hW => ⟨⟨_, (), rfl, rfl, zPost.of hP hD hK ht hW [0, 1] rfl rfl rfl⟩, hS.F ht⟩) hS.2.2 dX11_saw_46
  · have h := zz_f h c4
    refine lv_aload_n hx hb dX11_saw_8 rfl (lv_at hl 0 rfl) ?_
    refine lv_iload_n hx hb dX11_saw_9 rfl (lv_at hl 2 rfl) ?_
    obtain ⟨b5, e6, h⟩ := zz_b h
    refine zVi (As := [.int x2]) (rest := []) (C := RX11) (wr := []) [0, 1] [] 0 ⟨hx, hb, hml, hown, hts⟩ (mX11_isMat l D cB cI cZ a_t a_t_now a_t_kept a_t_text a_t_passing a_t_order a_t_times t_thrown_r2 t_isKept t_length t_at t_fault t_open t_asked t_byGun t_prizeMost t_listed t_now H.size x2 b5 e6) (cwV 1 hts gX11_saw_X11_isMat rfl rfl rfl (by decide +kernel) ⟨Nat.le_of_ble_eq_true rfl, Nat.le_of_ble_eq_true rfl⟩) hK hN hZ hP hD hS hA rfl rfl rfl rfl rfl rfl rfl rfl hl.1 rfl (lv_room (Nat.le_of_ble_eq_true rfl)) dX11_saw_10 ⟨Nat.le_of_ble_eq_true rfl, Nat.le_of_ble_eq_true rfl⟩ (fun H locs hP hD hS => ?_)
    have hP : va_P D vwCl [(a_t, .inr (11, [.int t_thrown_r2, .ref a_t_now, .ref a_t_kept, .int t_isKept, .ref a_t_text, .int t_length, .ref a_t_passing, .int t_at, .int t_fault, .int t_open, .int t_asked, .int t_byGun, .int t_prizeMost, .ref a_t_order, .ref a_t_times, .int t_listed])), (a_t_now, .inl (cI, 1562, .inl t_now))] H := hP
    have hD : va_D A [(a_t, .inr (11, [.int t_thrown_r2, .ref a_t_now, .ref a_t_kept, .int t_isKept, .ref a_t_text, .int t_length, .ref a_t_passing, .int t_at, .int t_fault, .int t_open, .int t_asked, .int t_byGun, .int t_prizeMost, .ref a_t_order, .ref a_t_times, .int t_listed])), (a_t_now, .inl (cI, 1562, .inl t_now))] := hD
    refine lv_if_eq (tgt := 45) hx hb dX11_saw_13 (by decide) (fun c7 => ?_) (fun c7 => ?_)
    · have h := zz_t h c7
      refine lv_iconst (v := (-1 : Int32)) hx hb dX11_saw_45 rfl ?_
      obtain ⟨j0_, g_⟩ := Prod.mk.inj (Option.some.inj h)
      obtain ⟨j1_, g_⟩ := Prod.mk.inj g_
      have j2_ := g_
      subst j0_
      subst j1_
      subst j2_
      exact W.iret (v := (-1 : Int32)) hx hb hr (fun t ht hW => ⟨⟨_, (), rfl, rfl, zPost.of hP hD hK ht hW [0, 1] rfl rfl rfl⟩, hS.F ht⟩) hS.2.2 dX11_saw_46
    · have h := zz_f h c7
      refine lv_iload_n hx hb dX11_saw_16 rfl (lv_at hl 3 rfl) ?_
      refine lv_iconst (v := (nI 0)) hx hb dX11_saw_17 rfl ?_
      refine lv_ldc (v := (nI 40000)) hx hb hown (hts _ kX11_saw_0) dX11_saw_18 ?_
      obtain ⟨b8, e9, h⟩ := zz_b h
      refine zSi (As := [.int x3, .int (nI 0), .int (nI 40000)]) (rest := []) (wr := [(a_t, .inr (11, [.int t_thrown_r2, .ref a_t_now, .ref a_t_kept, .int t_isKept, .ref a_t_text, .int t_length, .ref a_t_passing, .int t_at, .int t_fault, .int t_open, .int t_asked, .int t_byGun, .int t_prizeMost, .ref a_t_order, .ref a_t_times, .int t_listed])), (a_t_now, .inl (cI, 1562, .inl t_now))]) [] [0, 1] ⟨hx, hb, hml, hown, hts⟩ (mX11_isIn l D cB cI cZ H.size x3 (nI 0) (nI 40000) b8 e9) (va_cwS 3 hts gX11_saw_X11_isIn rfl rfl rfl (by decide +kernel) ⟨Nat.le_of_ble_eq_true rfl, Nat.le_of_ble_eq_true rfl⟩) hK hN hZ hP hD hS hA rfl rfl rfl rfl rfl rfl hl.1 rfl (lv_room (Nat.le_of_ble_eq_true rfl)) dX11_saw_20 ⟨Nat.le_of_ble_eq_true rfl, Nat.le_of_ble_eq_true rfl⟩ (fun H locs hP hD hS => ?_)
      have hP : va_P D vwCl [(a_t, .inr (11, [.int t_thrown_r2, .ref a_t_now, .ref a_t_kept, .int t_isKept, .ref a_t_text, .int t_length, .ref a_t_passing, .int t_at, .int t_fault, .int t_open, .int t_asked, .int t_byGun, .int t_prizeMost, .ref a_t_order, .ref a_t_times, .int t_listed])), (a_t_now, .inl (cI, 1562, .inl t_now))] H := hP
      have hD : va_D A [(a_t, .inr (11, [.int t_thrown_r2, .ref a_t_now, .ref a_t_kept, .int t_isKept, .ref a_t_text, .int t_length, .ref a_t_passing, .int t_at, .int t_fault, .int t_open, .int t_asked, .int t_byGun, .int t_prizeMost, .ref a_t_order, .ref a_t_times, .int t_listed])), (a_t_now, .inl (cI, 1562, .inl t_now))] := hD
      refine lv_if_eq (tgt := 45) hx hb dX11_saw_23 (by decide) (fun c10 => ?_) (fun c10 => ?_)
      · have h := zz_t h c10
        refine lv_iconst (v := (-1 : Int32)) hx hb dX11_saw_45 rfl ?_
        obtain ⟨j0_, g_⟩ := Prod.mk.inj (Option.some.inj h)
        obtain ⟨j1_, g_⟩ := Prod.mk.inj g_
        have j2_ := g_
        subst j0_
        subst j1_
        subst j2_
        exact W.iret (v := (-1 : Int32)) hx hb hr (fun t ht hW => ⟨⟨_, (), rfl, rfl, zPost.of hP hD hK ht hW [0, 1] rfl rfl rfl⟩, hS.F ht⟩) hS.2.2 dX11_saw_46
      · have h := zz_f h c10
        refine lv_aload_n hx hb dX11_saw_26 rfl (lv_at hl 0 rfl) ?_
        refine lv_iload_n hx hb dX11_saw_27 rfl (lv_at hl 2 rfl) ?_
        refine lv_iconst (v := (nI 2)) hx hb dX11_saw_28 rfl ?_
        obtain ⟨r11, e12, h⟩ := zz_b h
        refine zVi (As := [.int x2, .int (nI 2)]) (rest := []) (C := RX11) (wr := []) [0, 1] [] 0 ⟨hx, hb, hml, hown, hts⟩ (mX11_ofMat l D cB cI cZ a_t a_t_now a_t_kept a_t_text a_t_passing a_t_order a_t_times t_thrown_r2 t_isKept t_length t_at t_fault t_open t_asked t_byGun t_prizeMost t_listed t_now H.size x2 (nI 2) r11 e12) (cwV 2 hts gX11_saw_X11_ofMat rfl rfl rfl (by decide +kernel) ⟨Nat.le_of_ble_eq_true rfl, Nat.le_of_ble_eq_true rfl⟩) hK hN hZ hP hD hS hA rfl rfl rfl rfl rfl rfl rfl rfl hl.1 rfl (lv_room (Nat.le_of_ble_eq_true rfl)) dX11_saw_29 ⟨Nat.le_of_ble_eq_true rfl, Nat.le_of_ble_eq_true rfl⟩ (fun H locs hP hD hS => ?_)
        have hP : va_P D vwCl [(a_t, .inr (11, [.int t_thrown_r2, .ref a_t_now, .ref a_t_kept, .int t_isKept, .ref a_t_text, .int t_length, .ref a_t_passing, .int t_at, .int t_fault, .int t_open, .int t_asked, .int t_byGun, .int t_prizeMost, .ref a_t_order, .ref a_t_times, .int t_listed])), (a_t_now, .inl (cI, 1562, .inl t_now))] H := hP
        have hD : va_D A [(a_t, .inr (11, [.int t_thrown_r2, .ref a_t_now, .ref a_t_kept, .int t_isKept, .ref a_t_text, .int t_length, .ref a_t_passing, .int t_at, .int t_fault, .int t_open, .int t_asked, .int t_byGun, .int t_prizeMost, .ref a_t_order, .ref a_t_times, .int t_listed])), (a_t_now, .inl (cI, 1562, .inl t_now))] := hD
        refine lv_iconst (v := (nI 1)) hx hb dX11_saw_32 rfl ?_
        refine lv_icmp_eq (tgt := 45) hx hb dX11_saw_33 (by decide) (fun c13 => ?_) (fun c13 => ?_)
        · have h := zz_t h c13
          refine lv_iconst (v := (-1 : Int32)) hx hb dX11_saw_45 rfl ?_
          obtain ⟨j0_, g_⟩ := Prod.mk.inj (Option.some.inj h)
          obtain ⟨j1_, g_⟩ := Prod.mk.inj g_
          have j2_ := g_
          subst j0_
          subst j1_
          subst j2_
          exact W.iret (v := (-1 : Int32)) hx hb hr (fun t ht hW => ⟨⟨_, (), rfl, rfl, zPost.of hP hD hK ht hW [0, 1] rfl rfl rfl⟩, hS.F ht⟩) hS.2.2 dX11_saw_46
        · have h := zz_f h c13
          refine lv_aload_n hx hb dX11_saw_36 rfl (lv_at hl 0 rfl) ?_
          refine lv_iload_n hx hb dX11_saw_37 rfl (lv_at hl 1 rfl) ?_
          refine lv_iload_n hx hb dX11_saw_38 rfl (lv_at hl 2 rfl) ?_
          obtain ⟨b14, e15, h⟩ := zz_b h
          refine zVi (As := [.int x1, .int x2]) (rest := []) (C := RX11) (wr := []) [0, 1] [] 0 ⟨hx, hb, hml, hown, hts⟩ (mX11_isTorn l D cB cI cZ a_t a_t_now a_t_kept a_t_text a_t_passing a_t_order a_t_times t_thrown_r2 t_isKept t_length t_at t_fault t_open t_asked t_byGun t_prizeMost t_listed t_now H.size x1 x2 b14 e15) (cwV 2 hts gX11_saw_X11_isTorn rfl rfl rfl (by decide +kernel) ⟨Nat.le_of_ble_eq_true rfl, Nat.le_of_ble_eq_true rfl⟩) hK hN hZ hP hD hS hA rfl rfl rfl rfl rfl rfl rfl rfl hl.1 rfl (lv_room (Nat.le_of_ble_eq_true rfl)) dX11_saw_39 ⟨Nat.le_of_ble_eq_true rfl, Nat.le_of_ble_eq_true rfl⟩ (fun H locs hP hD hS => ?_)
          have hP : va_P D vwCl [(a_t, .inr (11, [.int t_thrown_r2, .ref a_t_now, .ref a_t_kept, .int t_isKept, .ref a_t_text, .int t_length, .ref a_t_passing, .int t_at, .int t_fault, .int t_open, .int t_asked, .int t_byGun, .int t_prizeMost, .ref a_t_order, .ref a_t_times, .int t_listed])), (a_t_now, .inl (cI, 1562, .inl t_now))] H := hP
          have hD : va_D A [(a_t, .inr (11, [.int t_thrown_r2, .ref a_t_now, .ref a_t_kept, .int t_isKept, .ref a_t_text, .int t_length, .ref a_t_passing, .int t_at, .int t_fault, .int t_open, .int t_asked, .int t_byGun, .int t_prizeMost, .ref a_t_order, .ref a_t_times, .int t_listed])), (a_t_now, .inl (cI, 1562, .inl t_now))] := hD
          refine lv_if_eq (tgt := 47) hx hb dX11_saw_42 (by decide) (fun c16 => ?_) (fun c16 => ?_)
          · have h := zz_t h c16
            refine lv_aload_n hx hb dX11_saw_47 rfl (lv_at hl 0 rfl) ?_
            refine lv_iload_n hx hb dX11_saw_48 rfl (lv_at hl 1 rfl) ?_
            refine lv_bipush (v := (nI 12)) hx hb dX11_saw_49 rfl ?_
            refine lv_iload_n hx hb dX11_saw_51 rfl (lv_at hl 2 rfl) ?_
            refine lv_iadd hx hb dX11_saw_52 ?_
            obtain ⟨r17, e18, h⟩ := zz_b h
            refine zVi (As := [.int x1, .int ((nI 12) + x2)]) (rest := []) (C := RX11) (wr := []) [0, 1] [] 0 ⟨hx, hb, hml, hown, hts⟩ (mX11_of l D cB cI cZ a_t a_t_now a_t_kept a_t_text a_t_passing a_t_order a_t_times t_thrown_r2 t_isKept t_length t_at t_fault t_open t_asked t_byGun t_prizeMost t_listed t_now H.size x1 ((nI 12) + x2) r17 e18) (cwV 2 hts gX11_saw_X11_of rfl rfl rfl (by decide +kernel) ⟨Nat.le_of_ble_eq_true rfl, Nat.le_of_ble_eq_true rfl⟩) hK hN hZ hP hD hS hA rfl rfl rfl rfl rfl rfl rfl rfl hl.1 rfl (lv_room (Nat.le_of_ble_eq_true rfl)) dX11_saw_53 ⟨Nat.le_of_ble_eq_true rfl, Nat.le_of_ble_eq_true rfl⟩ (fun H locs hP hD hS => ?_)
            have hP : va_P D vwCl [(a_t, .inr (11, [.int t_thrown_r2, .ref a_t_now, .ref a_t_kept, .int t_isKept, .ref a_t_text, .int t_length, .ref a_t_passing, .int t_at, .int t_fault, .int t_open, .int t_asked, .int t_byGun, .int t_prizeMost, .ref a_t_order, .ref a_t_times, .int t_listed])), (a_t_now, .inl (cI, 1562, .inl t_now))] H := hP
            have hD : va_D A [(a_t, .inr (11, [.int t_thrown_r2, .ref a_t_now, .ref a_t_kept, .int t_isKept, .ref a_t_text, .int t_length, .ref a_t_passing, .int t_at, .int t_fault, .int t_open, .int t_asked, .int t_byGun, .int t_prizeMost, .ref a_t_order, .ref a_t_times, .int t_listed])), (a_t_now, .inl (cI, 1562, .inl t_now))] := hD
            refine lv_istore (lv' := [(4, .int r17), (0, .ref a_t), (1, .int x1), (2, .int x2), (3, .int x3)]) hx hb dX11_saw_56 hl (by decide) rfl (fun ls hl => ?_)
            refine lv_iload hx hb dX11_saw_58 (lv_at hl 0 rfl) ?_
            refine lv_iconst (v := (-1 : Int32)) hx hb dX11_saw_60 rfl ?_
            refine lv_icmp_eq (tgt := 72) hx hb dX11_saw_61 (by decide) (fun c19 => ?_) (fun c19 => ?_)
            · have h := zz_t h c19
              refine lv_aload_n hx hb dX11_saw_72 rfl (lv_at hl 1 rfl) ?_
              refine lv_iload_n hx hb dX11_saw_73 rfl (lv_at hl 2 rfl) ?_
              refine lv_bipush (v := (nI 12)) hx hb dX11_saw_74 rfl ?_
              refine lv_iload_n hx hb dX11_saw_76 rfl (lv_at hl 3 rfl) ?_
              refine lv_iadd hx hb dX11_saw_77 ?_
              refine lv_iload_n hx hb dX11_saw_78 rfl (lv_at hl 4 rfl) ?_
              obtain ⟨t_now_r20, e21, h⟩ := zz_b h
              refine zVv (As := [.int x1, .int ((nI 12) + x2), .int x3]) (rest := []) (C := RX11) (wr := []) [0, 1] [] 0 ⟨hx, hb, hml, hown, hts⟩ (mX11_put l D cB cI cZ a_t a_t_now a_t_kept a_t_text a_t_passing a_t_order a_t_times t_thrown_r2 t_isKept t_length t_at t_fault t_open t_asked t_byGun t_prizeMost t_listed t_now H.size x1 ((nI 12) + x2) x3 t_now_r20 e21) (cwV 3 hts gX11_saw_X11_put rfl rfl rfl (by decide +kernel) ⟨Nat.le_of_ble_eq_true rfl, Nat.le_of_ble_eq_true rfl⟩) hK hN hZ hP hD hS hA rfl rfl rfl rfl rfl rfl rfl rfl hl.1 rfl (lv_room (Nat.le_of_ble_eq_true rfl)) dX11_saw_79 ⟨Nat.le_of_ble_eq_true rfl, Nat.le_of_ble_eq_true rfl⟩ (fun H locs hP hD hS => ?_)
              have hP : va_P D vwCl [(a_t, .inr (11, [.int t_thrown_r2, .ref a_t_now, .ref a_t_kept, .int t_isKept, .ref a_t_text, .int t_length, .ref a_t_passing, .int t_at, .int t_fault, .int t_open, .int t_asked, .int t_byGun, .int t_prizeMost, .ref a_t_order, .ref a_t_times, .int t_listed])), (a_t_now, .inl (cI, 1562, .inl t_now_r20))] H := hP
              have hD : va_D A [(a_t, .inr (11, [.int t_thrown_r2, .ref a_t_now, .ref a_t_kept, .int t_isKept, .ref a_t_text, .int t_length, .ref a_t_passing, .int t_at, .int t_fault, .int t_open, .int t_asked, .int t_byGun, .int t_prizeMost, .ref a_t_order, .ref a_t_times, .int t_listed])), (a_t_now, .inl (cI, 1562, .inl t_now_r20))] := hD
              refine lv_iconst (v := (nI 1)) hx hb dX11_saw_82 rfl ?_
              obtain ⟨j0_, g_⟩ := Prod.mk.inj (Option.some.inj h)
              obtain ⟨j1_, g_⟩ := Prod.mk.inj g_
              have j2_ := g_
              subst j0_
              subst j1_
              subst j2_
              exact W.iret (v := (nI 1)) hx hb hr (fun t ht hW => ⟨⟨_, (), rfl, rfl, zPost.of hP hD hK ht hW [0, 1] rfl rfl rfl⟩, hS.F ht⟩) hS.2.2 dX11_saw_83
            · have h := zz_f h c19
              refine lv_iload hx hb dX11_saw_64 (lv_at hl 0 rfl) ?_
              refine lv_iload_n hx hb dX11_saw_66 rfl (lv_at hl 4 rfl) ?_
              refine lv_icmp_gt (tgt := 72) hx hb dX11_saw_67 (by decide) (fun c22 => ?_) (fun c22 => ?_)
              · have h := zz_t h c22
                refine lv_aload_n hx hb dX11_saw_72 rfl (lv_at hl 1 rfl) ?_
                refine lv_iload_n hx hb dX11_saw_73 rfl (lv_at hl 2 rfl) ?_
                refine lv_bipush (v := (nI 12)) hx hb dX11_saw_74 rfl ?_
                refine lv_iload_n hx hb dX11_saw_76 rfl (lv_at hl 3 rfl) ?_
                refine lv_iadd hx hb dX11_saw_77 ?_
                refine lv_iload_n hx hb dX11_saw_78 rfl (lv_at hl 4 rfl) ?_
                obtain ⟨t_now_r23, e24, h⟩ := zz_b h
                refine zVv (As := [.int x1, .int ((nI 12) + x2), .int x3]) (rest := []) (C := RX11) (wr := []) [0, 1] [] 0 ⟨hx, hb, hml, hown, hts⟩ (mX11_put l D cB cI cZ a_t a_t_now a_t_kept a_t_text a_t_passing a_t_order a_t_times t_thrown_r2 t_isKept t_length t_at t_fault t_open t_asked t_byGun t_prizeMost t_listed t_now H.size x1 ((nI 12) + x2) x3 t_now_r23 e24) (cwV 3 hts gX11_saw_X11_put rfl rfl rfl (by decide +kernel) ⟨Nat.le_of_ble_eq_true rfl, Nat.le_of_ble_eq_true rfl⟩) hK hN hZ hP hD hS hA rfl rfl rfl rfl rfl rfl rfl rfl hl.1 rfl (lv_room (Nat.le_of_ble_eq_true rfl)) dX11_saw_79 ⟨Nat.le_of_ble_eq_true rfl, Nat.le_of_ble_eq_true rfl⟩ (fun H locs hP hD hS => ?_)
                have hP : va_P D vwCl [(a_t, .inr (11, [.int t_thrown_r2, .ref a_t_now, .ref a_t_kept, .int t_isKept, .ref a_t_text, .int t_length, .ref a_t_passing, .int t_at, .int t_fault, .int t_open, .int t_asked, .int t_byGun, .int t_prizeMost, .ref a_t_order, .ref a_t_times, .int t_listed])), (a_t_now, .inl (cI, 1562, .inl t_now_r23))] H := hP
                have hD : va_D A [(a_t, .inr (11, [.int t_thrown_r2, .ref a_t_now, .ref a_t_kept, .int t_isKept, .ref a_t_text, .int t_length, .ref a_t_passing, .int t_at, .int t_fault, .int t_open, .int t_asked, .int t_byGun, .int t_prizeMost, .ref a_t_order, .ref a_t_times, .int t_listed])), (a_t_now, .inl (cI, 1562, .inl t_now_r23))] := hD
                refine lv_iconst (v := (nI 1)) hx hb dX11_saw_82 rfl ?_
                obtain ⟨j0_, g_⟩ := Prod.mk.inj (Option.some.inj h)
                obtain ⟨j1_, g_⟩ := Prod.mk.inj g_
                have j2_ := g_
                subst j0_
                subst j1_
                subst j2_
                exact W.iret (v := (nI 1)) hx hb hr (fun t ht hW => ⟨⟨_, (), rfl, rfl, zPost.of hP hD hK ht hW [0, 1] rfl rfl rfl⟩, hS.F ht⟩) hS.2.2 dX11_saw_83
              · have h := zz_f h c22
                refine lv_iconst (v := (nI 0)) hx hb dX11_saw_70 rfl ?_
                obtain ⟨j0_, g_⟩ := Prod.mk.inj (Option.some.inj h)
                obtain ⟨j1_, g_⟩ := Prod.mk.inj g_
                have j2_ := g_
                subst j0_
                subst j1_
                subst j2_
                exact W.iret (v := (nI 0)) hx hb hr (fun t ht hW => ⟨⟨_, (), rfl, rfl, zPost.of hP hD hK ht hW [0, 1] rfl rfl rfl⟩, hS.F ht⟩) hS.2.2 dX11_saw_71
          · have h := zz_f h c16
            refine lv_iconst (v := (-1 : Int32)) hx hb dX11_saw_45 rfl ?_
            obtain ⟨j0_, g_⟩ := Prod.mk.inj (Option.some.inj h)
            obtain ⟨j1_, g_⟩ := Prod.mk.inj g_
            have j2_ := g_
            subst j0_
            subst j1_
            subst j2_
            exact W.iret (v := (-1 : Int32)) hx hb hr (fun t ht hW => ⟨⟨_, (), rfl, rfl, zPost.of hP hD hK ht hW [0, 1] rfl rfl rfl⟩, hS.F ht⟩) hS.2.2 dX11_saw_46
/-! RunDeskModel.dead -/
theorem dX11_dead_0 : decode cX11_dead 0 = .ok (.aload_n 0, 1) := by decide +kernel
theorem dX11_dead_1 : decode cX11_dead 1 = .ok (.iconst 0, 1) := by decide +kernel
theorem dX11_dead_2 : decode cX11_dead 2 = .ok (.putfield 37, 3) := by decide +kernel
theorem dX11_dead_5 : decode cX11_dead 5 = .ok (.aload_n 0, 1) := by decide +kernel
theorem dX11_dead_6 : decode cX11_dead 6 = .ok (.iload_n 1, 1) := by decide +kernel
theorem dX11_dead_7 : decode cX11_dead 7 = .ok (.invokevirtual 69, 3) := by decide +kernel
theorem dX11_dead_10 : decode cX11_dead 10 = .ok (.ifCond .ne 5, 3) := by decide +kernel
theorem dX11_dead_13 : decode cX11_dead 13 = .ok (.iconst 0, 1) := by decide +kernel
theorem dX11_dead_14 : decode cX11_dead 14 = .ok (.ireturn, 1) := by decide +kernel
theorem dX11_dead_15 : decode cX11_dead 15 = .ok (.aload_n 0, 1) := by decide +kernel
theorem dX11_dead_16 : decode cX11_dead 16 = .ok (.getfield 9, 3) := by decide +kernel
theorem dX11_dead_19 : decode cX11_dead 19 = .ok (.bipush 8, 2) := by decide +kernel
theorem dX11_dead_21 : decode cX11_dead 21 = .ok (.iconst 4, 1) := by decide +kernel
theorem dX11_dead_22 : decode cX11_dead 22 = .ok (.iload_n 1, 1) := by decide +kernel
theorem dX11_dead_23 : decode cX11_dead 23 = .ok (.imul, 1) := by decide +kernel
theorem dX11_dead_24 : decode cX11_dead 24 = .ok (.iadd, 1) := by decide +kernel
theorem dX11_dead_25 : decode cX11_dead 25 = .ok (.iconst 2, 1) := by decide +kernel
theorem dX11_dead_26 : decode cX11_dead 26 = .ok (.iadd, 1) := by decide +kernel
theorem dX11_dead_27 : decode cX11_dead 27 = .ok (.iload_n 2, 1) := by decide +kernel
theorem dX11_dead_28 : decode cX11_dead 28 = .ok (.ifCond .eq 7, 3) := by decide +kernel
theorem dX11_dead_31 : decode cX11_dead 31 = .ok (.iconst 1, 1) := by decide +kernel
theorem dX11_dead_32 : decode cX11_dead 32 = .ok (.goto 4, 3) := by decide +kernel
theorem dX11_dead_35 : decode cX11_dead 35 = .ok (.iconst 0, 1) := by decide +kernel
theorem dX11_dead_36 : decode cX11_dead 36 = .ok (.iastore, 1) := by decide +kernel
theorem dX11_dead_37 : decode cX11_dead 37 = .ok (.iconst 1, 1) := by decide +kernel
theorem dX11_dead_38 : decode cX11_dead 38 = .ok (.ireturn, 1) := by decide +kernel
set_option maxRecDepth 20000 in
theorem ggX11_dead_X11_isMat : GoodIn wsX11_dead wsX11_isMat := goodIn_sub (List.forall_mem_cons.mpr ⟨List.mem_cons_of_mem _ (List.mem_append_left _ (List.mem_of_getElem? (i := 6) rfl)), (List.forall_mem_append.mpr ⟨(List.forall_mem_cons.mpr ⟨List.mem_cons_of_mem _ (List.mem_append_left _ (List.mem_of_getElem? (i := 7) rfl)), (List.forall_mem_cons.mpr ⟨List.mem_cons_of_mem _ (List.mem_append_left _ (List.mem_of_getElem? (i := 8) rfl)), (List.forall_mem_cons.mpr ⟨List.mem_cons_of_mem _ (List.mem_append_left _ (List.mem_of_getElem? (i := 9) rfl)), (List.forall_mem_cons.mpr ⟨List.mem_cons_of_mem _ (List.mem_append_left _ (List.mem_of_getElem? (i := 5) rfl)), (List.forall_mem_cons.mpr ⟨List.mem_cons_of_mem _ (List.mem_append_left _ (List.mem_of_getElem? (i := 10) rfl)), (List.forall_mem_cons.mpr ⟨List.mem_cons_of_mem _ (List.mem_append_left _ (List.mem_of_getElem? (i := 1) rfl)), (fun _ h => nomatch h)⟩)⟩)⟩)⟩)⟩)⟩), (fun _ h => List.mem_cons_of_mem _ (List.mem_append_right _ (h)))⟩)⟩) (by decide +kernel)
set_option maxRecDepth 20000 in
theorem gX11_dead_X11_isMat : GoodIn wsX11_dead (wsV RX11 69 RX11 yX11_isMat wsX11_isMat) := goodIn_app (goodIn_of _ (by decide +kernel)) ggX11_dead_X11_isMat
theorem kX11_dead_0 : (.fieldLink RX11 37 "RunDeskModel" "thrown" "I" : Cond) ∈ wsX11_dead := List.mem_of_getElem? (i := 1) (by decide +kernel)
theorem qX11_dead_X11 : ∀ w ∈ wsX110, w ∈ wsX11_dead := fun _ h => List.mem_cons_of_mem _ (List.mem_append_right _ (h))
theorem kX11_dead_2 : (.fieldLink RX11 9 "RunDeskModel" "now" "[I" : Cond) ∈ wsX11_dead := List.mem_of_getElem? (i := 2) (by decide +kernel)
set_option maxHeartbeats 4000000 in
set_option maxRecDepth 100000 in
theorem mX11_dead (l : Launch) (D : va_G) (cB cI cZ : ClassId) (a_t : Nat) (a_t_now : Nat) (a_t_kept : Nat) (a_t_text : Nat) (a_t_passing : Nat) (a_t_order : Nat) (a_t_times : Nat) (t_thrown : Int32) (t_isKept : Int32) (t_length : Int32) (t_at : Int32) (t_fault : Int32) (t_open : Int32) (t_asked : Int32) (t_byGun : Int32) (t_prizeMost : Int32) (t_listed : Int32) (t_now : Nat → Int32) (sz : Nat) (x1 : Int32) (x2 : Int32) (b0 : Bool) (t_thrown' : Int32) (t_now' : Nat → Int32) (h : fX11_dead t_thrown t_now x1 x2 = some (b0, t_thrown', t_now')) : Met l yX11_dead wsX11_dead ({ frames := 2, cells := 0, slots := 0, locals := 41 } : Room) (va_Pc [.ref a_t, .int x1, .int x2] (zPre D (zT cB cI cZ) [(a_t, .inr (11, [.int t_thrown, .ref a_t_now, .ref a_t_kept, .int t_isKept, .ref a_t_text, .int t_length, .ref a_t_passing, .int t_at, .int t_fault, .int t_open, .int t_asked, .int t_byGun, .int t_prizeMost, .ref a_t_order, .ref a_t_times, .int t_listed])), (a_t_now, .inl (cI, 1562, .inl t_now))] sz)) (zQi (zb b0) D (zT cB cI cZ) [(a_t, .inr (11, [.int t_thrown', .ref a_t_now, .ref a_t_kept, .int t_isKept, .ref a_t_text, .int t_length, .ref a_t_passing, .int t_at, .int t_fault, .int t_open, .int t_asked, .int t_byGun, .int t_prizeMost, .ref a_t_order, .ref a_t_times, .int t_listed])), (a_t_now, .inl (cI, 1562, .inl t_now'))] (va_A [(a_t, .inr (11, [.int t_thrown, .ref a_t_now, .ref a_t_kept, .int t_isKept, .ref a_t_text, .int t_length, .ref a_t_passing, .int t_at, .int t_fault, .int t_open, .int t_asked, .int t_byGun, .int t_prizeMost, .ref a_t_order, .ref a_t_times, .int t_listed])), (a_t_now, .inl (cI, 1562, .inl t_now))] sz)) 0 0 (va_A [(a_t, .inr (11, [.int t_thrown, .ref a_t_now, .ref a_t_kept, .int t_isKept, .ref a_t_text, .int t_length, .ref a_t_passing, .int t_at, .int t_fault, .int t_open, .int t_asked, .int t_byGun, .int t_prizeMost, .ref a_t_order, .ref a_t_times, .int t_listed])), (a_t_now, .inl (cI, 1562, .inl t_now))] sz) := by
  refine Met.ofW (cc := cX11_dead) (maxL := 3) (ret := (some .boolean)) (by decide) rfl ?_
  intro p e s m args below meth c s₁ B hml hv
  obtain ⟨rfl, hsz, hP, hK, hN, hZ, hD0⟩ := hv
  have hx := B.exec
  have hb := B.bytes
  have hr := B.returns
  have hts := atoms_spec (ws := wsX11_dead) B.pre
  have hown : s.vm.findClass RX11 = some m.cls := findClass_of_methodNamed B.named
  have hlocks := B.notSynchronized
  subst hsz
  have hD := hD0.self (sz := s.heap.size)
  generalize hAe : va_A [(a_t, .inr (11, [.int t_thrown, .ref a_t_now, .ref a_t_kept, .int t_isKept, .ref a_t_text, .int t_length, .ref a_t_passing, .int t_at, .int t_fault, .int t_open, .int t_asked, .int t_byGun, .int t_prizeMost, .ref a_t_order, .ref a_t_times, .int t_listed])), (a_t_now, .inl (cI, 1562, .inl t_now))] s.heap.size = A at hD hZ ⊢
  have hA : ∀ q : Nat, s.heap.size ≤ q → A q := fun q h => by rw [← hAe]; exact Or.inr h
  have hS : va_S A s.heap s.heap [] := va_S.rf
  have hl := lv_entry ([.ref a_t, .int x1, .int x2]) (n := 3) (Nat.le_of_ble_eq_true rfl)
  rw [lg_entry_eq]
  generalize (lg_sl ([.ref a_t, .int x1, .int x2]) ++ List.replicate (3 - (lg_sl ([.ref a_t, .int x1, .int x2])).length) Slot.unset).toArray = ls at hl ⊢
  have hl : lv_has ls 3 [(0, .ref a_t), (1, .int x1), (2, .int x2)] := hl
  unfold fX11_dead at h
  refine lv_aload_n hx hb dX11_dead_0 rfl (lv_at hl 0 rfl) ?_
  refine lv_iconst (v := (nI 0)) hx hb dX11_dead_1 rfl ?_
  refine va_put (D := D) (ci := 11) (ty := .int) (C := RX11) (T := TX11) (N := 16) hx hb hts qX11_dead_X11 tyX11 tyX11_ok nmX11 hown hK hP hD hS 0 rfl rfl 0 (by decide) (hts _ kX11_dead_0) (fun _ h9 => h9) rfl (by decide +kernel) rfl (by first | rfl | exact zz_fit) (Nat.le_of_ble_eq_true rfl) dX11_dead_2 (fun H locs hP hD hS => ?_)
  have hP : va_P D vwCl [(a_t, .inr (11, [.int (nI 0), .ref a_t_now, .ref a_t_kept, .int t_isKept, .ref a_t_text, .int t_length, .ref a_t_passing, .int t_at, .int t_fault, .int t_open, .int t_asked, .int t_byGun, .int t_prizeMost, .ref a_t_order, .ref a_t_times, .int t_listed])), (a_t_now, .inl (cI, 1562, .inl t_now))] H := hP
  have hD : va_D A [(a_t, .inr (11, [.int (nI 0), .ref a_t_now, .ref a_t_kept, .int t_isKept, .ref a_t_text, .int t_length, .ref a_t_passing, .int t_at, .int t_fault, .int t_open, .int t_asked, .int t_byGun, .int t_prizeMost, .ref a_t_order, .ref a_t_times, .int t_listed])), (a_t_now, .inl (cI, 1562, .inl t_now))] := hD
  refine lv_aload_n hx hb dX11_dead_5 rfl (lv_at hl 0 rfl) ?_
  refine lv_iload_n hx hb dX11_dead_6 rfl (lv_at hl 1 rfl) ?_
  obtain ⟨b1, e2, h⟩ := zz_b h
  refine zVi (As := [.int x1]) (rest := []) (C := RX11) (wr := []) [0, 1] [] 0 ⟨hx, hb, hml, hown, hts⟩ (mX11_isMat l D cB cI cZ a_t a_t_now a_t_kept a_t_text a_t_passing a_t_order a_t_times (nI 0) t_isKept t_length t_at t_fault t_open t_asked t_byGun t_prizeMost t_listed t_now H.size x1 b1 e2) (cwV 1 hts gX11_dead_X11_isMat rfl rfl rfl (by decide +kernel) ⟨Nat.le_of_ble_eq_true rfl, Nat.le_of_ble_eq_true rfl⟩) hK hN hZ hP hD hS hA rfl rfl rfl rfl rfl rfl rfl rfl hl.1 rfl (lv_room (Nat.le_of_ble_eq_true rfl)) dX11_dead_7 ⟨Nat.le_of_ble_eq_true rfl, Nat.le_of_ble_eq_true rfl⟩ (fun H locs hP hD hS => ?_)
  have hP : va_P D vwCl [(a_t, .inr (11, [.int (nI 0), .ref a_t_now, .ref a_t_kept, .int t_isKept, .ref a_t_text, .int t_length, .ref a_t_passing, .int t_at, .int t_fault, .int t_open, .int t_asked, .int t_byGun, .int t_prizeMost, .ref a_t_order, .ref a_t_times, .int t_listed])), (a_t_now, .inl (cI, 1562, .inl t_now))] H := hP
  have hD : va_D A [(a_t, .inr (11, [.int (nI 0), .ref a_t_now, .ref a_t_kept, .int t_isKept, .ref a_t_text, .int t_length, .ref a_t_passing, .int t_at, .int t_fault, .int t_open, .int t_asked, .int t_byGun, .int t_prizeMost, .ref a_t_order, .ref a_t_times, .int t_listed])), (a_t_now, .inl (cI, 1562, .inl t_now))] := hD
  refine lv_if_ne (tgt := 15) hx hb dX11_dead_10 (by decide) (fun c3 => ?_) (fun c3 => ?_)
  · have h := zz_f h c3
    refine lv_aload_n hx hb dX11_dead_15 rfl (lv_at hl 0 rfl) ?_
    refine va_get (D := D) (ci := 11) (C := RX11) (T := TX11) (N := 16) hx hb hts qX11_dead_X11 hown hK hP 0 rfl rfl 1 (by decide) (hts _ kX11_dead_2) (fun _ h9 => h9) rfl dX11_dead_16 ?_
    refine lv_bipush (v := (nI 8)) hx hb dX11_dead_19 rfl ?_
    refine lv_iconst (v := (nI 4)) hx hb dX11_dead_21 rfl ?_
    refine lv_iload_n hx hb dX11_dead_22 rfl (lv_at hl 1 rfl) ?_
    refine lv_imul hx hb dX11_dead_23 ?_
    refine lv_iadd hx hb dX11_dead_24 ?_
    refine lv_iconst (v := (nI 2)) hx hb dX11_dead_25 rfl ?_
    refine lv_iadd hx hb dX11_dead_26 ?_
    refine lv_iload_n hx hb dX11_dead_27 rfl (lv_at hl 2 rfl) ?_
    refine lv_if_eq (tgt := 35) hx hb dX11_dead_28 (by decide) (fun c4 => ?_) (fun c4 => ?_)
    · have h := zz_t h c4
      refine lv_iconst (v := (nI 0)) hx hb dX11_dead_35 rfl ?_
      obtain ⟨i5, h⟩ := zz_i h
      refine va_iast hx hb hK hP hD hS 1 1 rfl rfl i5 dX11_dead_36 (fun H locs hP hD hS => ?_)
      have hP : va_P D vwCl [(a_t, .inr (11, [.int (nI 0), .ref a_t_now, .ref a_t_kept, .int t_isKept, .ref a_t_text, .int t_length, .ref a_t_passing, .int t_at, .int t_fault, .int t_open, .int t_asked, .int t_byGun, .int t_prizeMost, .ref a_t_order, .ref a_t_times, .int t_listed])), (a_t_now, .inl (cI, 1562, .inl (upd t_now ((((nI 8) + ((nI 4) * x1)) + (nI 2))).toNatClampNeg (nI 0))))] H := hP
      have hD : va_D A [(a_t, .inr (11, [.int (nI 0), .ref a_t_now, .ref a_t_kept, .int t_isKept, .ref a_t_text, .int t_length, .ref a_t_passing, .int t_at, .int t_fault, .int t_open, .int t_asked, .int t_byGun, .int t_prizeMost, .ref a_t_order, .ref a_t_times, .int t_listed])), (a_t_now, .inl (cI, 1562, .inl (upd t_now ((((nI 8) + ((nI 4) * x1)) + (nI 2))).toNatClampNeg (nI 0))))] := hD
      refine lv_iconst (v := (nI 1)) hx hb dX11_dead_37 rfl ?_
      obtain ⟨j0_, g_⟩ := Prod.mk.inj (Option.some.inj h)
      obtain ⟨j1_, g_⟩ := Prod.mk.inj g_
      have j2_ := g_
      subst j0_
      subst j1_
      subst j2_
      exact W.zret (v := (nI 1)) hx hb hr rfl (fun t ht hW => ⟨⟨_, (), rfl, rfl, zPost.of hP hD hK ht hW [0, 1] rfl rfl rfl⟩, hS.F ht⟩) hS.2.2 dX11_dead_38
    · have h := zz_f h c4
      refine lv_iconst (v := (nI 1)) hx hb dX11_dead_31 rfl ?_
      refine lv_goto (tgt := 36) hx hb dX11_dead_32 (by decide) ?_
      obtain ⟨i6, h⟩ := zz_i h
      refine va_iast hx hb hK hP hD hS 1 1 rfl rfl i6 dX11_dead_36 (fun H locs hP hD hS => ?_)
      have hP : va_P D vwCl [(a_t, .inr (11, [.int (nI 0), .ref a_t_now, .ref a_t_kept, .int t_isKept, .ref a_t_text, .int t_length, .ref a_t_passing, .int t_at, .int t_fault, .int t_open, .int t_asked, .int t_byGun, .int t_prizeMost, .ref a_t_order, .ref a_t_times, .int t_listed])), (a_t_now, .inl (cI, 1562, .inl (upd t_now ((((nI 8) + ((nI 4) * x1)) + (nI 2))).toNatClampNeg (nI 1))))] H := hP
      have hD : va_D A [(a_t, .inr (11, [.int (nI 0), .ref a_t_now, .ref a_t_kept, .int t_isKept, .ref a_t_text, .int t_length, .ref a_t_passing, .int t_at, .int t_fault, .int t_open, .int t_asked, .int t_byGun, .int t_prizeMost, .ref a_t_order, .ref a_t_times, .int t_listed])), (a_t_now, .inl (cI, 1562, .inl (upd t_now ((((nI 8) + ((nI 4) * x1)) + (nI 2))).toNatClampNeg (nI 1))))] := hD
      refine lv_iconst (v := (nI 1)) hx hb dX11_dead_37 rfl ?_
      obtain ⟨j0_, g_⟩ := Prod.mk.inj (Option.some.inj h)
      obtain ⟨j1_, g_⟩ := Prod.mk.inj g_
      have j2_ := g_
      subst j0_
      subst j1_
      subst j2_
      exact W.zret (v := (nI 1)) hx hb hr rfl (fun t ht hW => ⟨⟨_, (), rfl, rfl, zPost.of hP hD hK ht hW [0, 1] rfl rfl rfl⟩, hS.F ht⟩) hS.2.2 dX11_dead_38
  · have h := zz_t h c3
    refine lv_iconst (v := (nI 0)) hx hb dX11_dead_13 rfl ?_
    obtain ⟨j0_, g_⟩ := Prod.mk.inj (Option.some.inj h)
    obtain ⟨j1_, g_⟩ := Prod.mk.inj g_
    have j2_ := g_
    subst j0_
    subst j1_
    subst j2_
    exact W.zret (v := (nI 0)) hx hb hr rfl (fun t ht hW => ⟨⟨_, (), rfl, rfl, zPost.of hP hD hK ht hW [0, 1] rfl rfl rfl⟩, hS.F ht⟩) hS.2.2 dX11_dead_14
/-! RunDeskModel.tear -/
theorem dX11_tear_0 : decode cX11_tear 0 = .ok (.aload_n 0, 1) := by decide +kernel
theorem dX11_tear_1 : decode cX11_tear 1 = .ok (.iload_n 1, 1) := by decide +kernel
theorem dX11_tear_2 : decode cX11_tear 2 = .ok (.invokevirtual 65, 3) := by decide +kernel
theorem dX11_tear_5 : decode cX11_tear 5 = .ok (.ifCond .eq 11, 3) := by decide +kernel
theorem dX11_tear_8 : decode cX11_tear 8 = .ok (.aload_n 0, 1) := by decide +kernel
theorem dX11_tear_9 : decode cX11_tear 9 = .ok (.iload_n 2, 1) := by decide +kernel
theorem dX11_tear_10 : decode cX11_tear 10 = .ok (.invokevirtual 69, 3) := by decide +kernel
theorem dX11_tear_13 : decode cX11_tear 13 = .ok (.ifCond .ne 5, 3) := by decide +kernel
theorem dX11_tear_16 : decode cX11_tear 16 = .ok (.iconst 0, 1) := by decide +kernel
theorem dX11_tear_17 : decode cX11_tear 17 = .ok (.ireturn, 1) := by decide +kernel
theorem dX11_tear_18 : decode cX11_tear 18 = .ok (.aload_n 0, 1) := by decide +kernel
theorem dX11_tear_19 : decode cX11_tear 19 = .ok (.iload_n 1, 1) := by decide +kernel
theorem dX11_tear_20 : decode cX11_tear 20 = .ok (.iload_n 2, 1) := by decide +kernel
theorem dX11_tear_21 : decode cX11_tear 21 = .ok (.invokevirtual 72, 3) := by decide +kernel
theorem dX11_tear_24 : decode cX11_tear 24 = .ok (.ifCond .ne 11, 3) := by decide +kernel
theorem dX11_tear_27 : decode cX11_tear 27 = .ok (.aload_n 0, 1) := by decide +kernel
theorem dX11_tear_28 : decode cX11_tear 28 = .ok (.iload_n 1, 1) := by decide +kernel
theorem dX11_tear_29 : decode cX11_tear 29 = .ok (.bipush 9, 2) := by decide +kernel
theorem dX11_tear_31 : decode cX11_tear 31 = .ok (.iload_n 2, 1) := by decide +kernel
theorem dX11_tear_32 : decode cX11_tear 32 = .ok (.invokevirtual 48, 3) := by decide +kernel
theorem dX11_tear_35 : decode cX11_tear 35 = .ok (.iload_n 2, 1) := by decide +kernel
theorem dX11_tear_36 : decode cX11_tear 36 = .ok (.istore_n 3, 1) := by decide +kernel
theorem dX11_tear_37 : decode cX11_tear 37 = .ok (.iload_n 3, 1) := by decide +kernel
theorem dX11_tear_38 : decode cX11_tear 38 = .ok (.bipush 12, 2) := by decide +kernel
theorem dX11_tear_40 : decode cX11_tear 40 = .ok (.if_icmp .ge 19, 3) := by decide +kernel
theorem dX11_tear_43 : decode cX11_tear 43 = .ok (.aload_n 0, 1) := by decide +kernel
theorem dX11_tear_44 : decode cX11_tear 44 = .ok (.iload_n 1, 1) := by decide +kernel
theorem dX11_tear_45 : decode cX11_tear 45 = .ok (.bipush 12, 2) := by decide +kernel
theorem dX11_tear_47 : decode cX11_tear 47 = .ok (.iload_n 3, 1) := by decide +kernel
theorem dX11_tear_48 : decode cX11_tear 48 = .ok (.iadd, 1) := by decide +kernel
theorem dX11_tear_49 : decode cX11_tear 49 = .ok (.iconst (-1), 1) := by decide +kernel
theorem dX11_tear_50 : decode cX11_tear 50 = .ok (.invokevirtual 48, 3) := by decide +kernel
theorem dX11_tear_53 : decode cX11_tear 53 = .ok (.iinc 3 1, 3) := by decide +kernel
theorem dX11_tear_56 : decode cX11_tear 56 = .ok (.goto (-19), 3) := by decide +kernel
theorem dX11_tear_59 : decode cX11_tear 59 = .ok (.iconst 1, 1) := by decide +kernel
theorem dX11_tear_60 : decode cX11_tear 60 = .ok (.ireturn, 1) := by decide +kernel
set_option maxRecDepth 20000 in
theorem ggX11_tear_X11_isRunner : GoodIn wsX11_tear wsX11_isRunner := goodIn_sub (List.forall_mem_cons.mpr ⟨List.mem_cons_of_mem _ (List.mem_append_left _ (List.mem_append_left _ (List.mem_of_getElem? (l := wsX11_tear_r1) (i := 4) rfl))), (List.forall_mem_append.mpr ⟨(List.forall_mem_cons.mpr ⟨List.mem_cons_of_mem _ (List.mem_append_left _ (List.mem_append_left _ (List.mem_of_getElem? (l := wsX11_tear_r1) (i := 5) rfl))), (List.forall_mem_cons.mpr ⟨List.mem_cons_of_mem _ (List.mem_append_left _ (List.mem_append_left _ (List.mem_of_getElem? (l := wsX11_tear_r1) (i := 6) rfl))), (List.forall_mem_cons.mpr ⟨List.mem_cons_of_mem _ (List.mem_append_left _ (List.mem_append_left _ (List.mem_of_getElem? (l := wsX11_tear_r1) (i := 7) rfl))), (List.forall_mem_cons.mpr ⟨List.mem_cons_of_mem _ (List.mem_append_left _ (List.mem_append_left _ (List.mem_of_getElem? (l := wsX11_tear_r1) (i := 8) rfl))), (List.forall_mem_cons.mpr ⟨List.mem_cons_of_mem _ (List.mem_append_left _ (List.mem_append_left _ (List.mem_of_getElem? (l := wsX11_tear_r1) (i := 3) rfl))), (List.forall_mem_cons.mpr ⟨List.mem_cons_of_mem _ (List.mem_append_left _ (List.mem_append_left _ (List.mem_of_getElem? (l := wsX11_tear_r1) (i := 9) rfl))), (List.forall_mem_cons.mpr ⟨List.mem_cons_of_mem _ (List.mem_append_left _ (List.mem_append_left _ (List.mem_of_getElem? (l := wsX11_tear_r1) (i := 10) rfl))), (fun _ h => nomatch h)⟩)⟩)⟩)⟩)⟩)⟩)⟩), (fun _ h => List.mem_cons_of_mem _ (List.mem_append_right _ (h)))⟩)⟩) (by decide +kernel)
set_option maxRecDepth 20000 in
theorem gX11_tear_X11_isRunner : GoodIn wsX11_tear (wsV RX11 65 RX11 yX11_isRunner wsX11_isRunner) := goodIn_app (goodIn_of _ (by decide +kernel)) ggX11_tear_X11_isRunner
set_option maxRecDepth 20000 in
theorem ggX11_tear_X11_isMat : GoodIn wsX11_tear wsX11_isMat := goodIn_sub (List.forall_mem_cons.mpr ⟨List.mem_cons_of_mem _ (List.mem_append_left _ (List.mem_append_left _ (List.mem_of_getElem? (l := wsX11_tear_r1) (i := 14) rfl))), (List.forall_mem_append.mpr ⟨(List.forall_mem_cons.mpr ⟨List.mem_cons_of_mem _ (List.mem_append_left _ (List.mem_append_left _ (List.mem_of_getElem? (l := wsX11_tear_r1) (i := 15) rfl))), (List.forall_mem_cons.mpr ⟨List.mem_cons_of_mem _ (List.mem_append_left _ (List.mem_append_left _ (List.mem_of_getElem? (l := wsX11_tear_r1) (i := 16) rfl))), (List.forall_mem_cons.mpr ⟨List.mem_cons_of_mem _ (List.mem_append_left _ (List.mem_append_left _ (List.mem_of_getElem? (l := wsX11_tear_r1) (i := 17) rfl))), (List.forall_mem_cons.mpr ⟨List.mem_cons_of_mem _ (List.mem_append_left _ (List.mem_append_left _ (List.mem_of_getElem? (l := wsX11_tear_r1) (i := 3) rfl))), (List.forall_mem_cons.mpr ⟨List.mem_cons_of_mem _ (List.mem_append_left _ (List.mem_append_left _ (List.mem_of_getElem? (l := wsX11_tear_r1) (i := 18) rfl))), (List.forall_mem_cons.mpr ⟨List.mem_cons_of_mem _ (List.mem_append_left _ (List.mem_append_left _ (List.mem_of_getElem? (l := wsX11_tear_r1) (i := 10) rfl))), (fun _ h => nomatch h)⟩)⟩)⟩)⟩)⟩)⟩), (fun _ h => List.mem_cons_of_mem _ (List.mem_append_right _ (h)))⟩)⟩) (by decide +kernel)
set_option maxRecDepth 20000 in
theorem gX11_tear_X11_isMat : GoodIn wsX11_tear (wsV RX11 69 RX11 yX11_isMat wsX11_isMat) := goodIn_app (goodIn_of _ (by decide +kernel)) ggX11_tear_X11_isMat
set_option maxRecDepth 20000 in
theorem ggX11_tear_X11_isTorn : GoodIn wsX11_tear wsX11_isTorn := goodIn_sub (List.forall_mem_cons.mpr ⟨List.mem_cons_of_mem _ (List.mem_append_left _ (List.mem_append_left _ (List.mem_of_getElem? (l := wsX11_tear_r1) (i := 22) rfl))), (List.forall_mem_append.mpr ⟨(List.forall_mem_cons.mpr ⟨List.mem_cons_of_mem _ (List.mem_append_left _ (List.mem_append_left _ (List.mem_of_getElem? (l := wsX11_tear_r1) (i := 23) rfl))), (List.forall_mem_cons.mpr ⟨List.mem_cons_of_mem _ (List.mem_append_left _ (List.mem_append_right _ (List.mem_of_getElem? (l := wsX11_tear_r2) (i := 0) rfl))), (List.forall_mem_cons.mpr ⟨List.mem_cons_of_mem _ (List.mem_append_left _ (List.mem_append_right _ (List.mem_of_getElem? (l := wsX11_tear_r2) (i := 1) rfl))), (List.forall_mem_cons.mpr ⟨List.mem_cons_of_mem _ (List.mem_append_left _ (List.mem_append_left _ (List.mem_of_getElem? (l := wsX11_tear_r1) (i := 3) rfl))), (List.forall_mem_cons.mpr ⟨List.mem_cons_of_mem _ (List.mem_append_left _ (List.mem_append_right _ (List.mem_of_getElem? (l := wsX11_tear_r2) (i := 2) rfl))), (List.forall_mem_cons.mpr ⟨List.mem_cons_of_mem _ (List.mem_append_left _ (List.mem_append_left _ (List.mem_of_getElem? (l := wsX11_tear_r1) (i := 10) rfl))), (fun _ h => nomatch h)⟩)⟩)⟩)⟩)⟩)⟩), (fun _ h => List.mem_cons_of_mem _ (List.mem_append_right _ (h)))⟩)⟩) (by decide +kernel)
set_option maxRecDepth 20000 in
theorem gX11_tear_X11_isTorn : GoodIn wsX11_tear (wsV RX11 72 RX11 yX11_isTorn wsX11_isTorn) := goodIn_app (goodIn_of _ (by decide +kernel)) ggX11_tear_X11_isTorn
set_option maxRecDepth 20000 in
theorem ggX11_tear_X11_put : GoodIn wsX11_tear wsX11_put := goodIn_sub (List.forall_mem_cons.mpr ⟨List.mem_cons_of_mem _ (List.mem_append_left _ (List.mem_append_right _ (List.mem_of_getElem? (l := wsX11_tear_r2) (i := 6) rfl))), (List.forall_mem_append.mpr ⟨(List.forall_mem_cons.mpr ⟨List.mem_cons_of_mem _ (List.mem_append_left _ (List.mem_append_left _ (List.mem_of_getElem? (l := wsX11_tear_r1) (i := 10) rfl))), (fun _ h => nomatch h)⟩), (fun _ h => List.mem_cons_of_mem _ (List.mem_append_right _ (h)))⟩)⟩) (by decide +kernel)
set_option maxRecDepth 20000 in
theorem gX11_tear_X11_put : GoodIn wsX11_tear (wsV RX11 48 RX11 yX11_put wsX11_put) := goodIn_app (goodIn_of _ (by decide +kernel)) ggX11_tear_X11_put
set_option maxHeartbeats 4000000 in
set_option maxRecDepth 100000 in
theorem mX11_tear (l : Launch) (D : va_G) (cB cI cZ : ClassId) (a_t : Nat) (a_t_now : Nat) (a_t_kept : Nat) (a_t_text : Nat) (a_t_passing : Nat) (a_t_order : Nat) (a_t_times : Nat) (t_thrown : Int32) (t_isKept : Int32) (t_length : Int32) (t_at : Int32) (t_fault : Int32) (t_open : Int32) (t_asked : Int32) (t_byGun : Int32) (t_prizeMost : Int32) (t_listed : Int32) (t_now : Nat → Int32) (sz : Nat) (x1 : Int32) (x2 : Int32) (N : Nat) (b0 : Bool) (t_thrown' : Int32) (t_now' : Nat → Int32) (h : fX11_tear N t_thrown t_now x1 x2 = some (b0, t_thrown', t_now')) : Met l yX11_tear wsX11_tear ({ frames := 2, cells := 0, slots := 0, locals := 44 } : Room) (va_Pc [.ref a_t, .int x1, .int x2] (zPre D (zT cB cI cZ) [(a_t, .inr (11, [.int t_thrown, .ref a_t_now, .ref a_t_kept, .int t_isKept, .ref a_t_text, .int t_length, .ref a_t_passing, .int t_at, .int t_fault, .int t_open, .int t_asked, .int t_byGun, .int t_prizeMost, .ref a_t_order, .ref a_t_times, .int t_listed])), (a_t_now, .inl (cI, 1562, .inl t_now))] sz)) (zQi (zb b0) D (zT cB cI cZ) [(a_t, .inr (11, [.int t_thrown', .ref a_t_now, .ref a_t_kept, .int t_isKept, .ref a_t_text, .int t_length, .ref a_t_passing, .int t_at, .int t_fault, .int t_open, .int t_asked, .int t_byGun, .int t_prizeMost, .ref a_t_order, .ref a_t_times, .int t_listed])), (a_t_now, .inl (cI, 1562, .inl t_now'))] (va_A [(a_t, .inr (11, [.int t_thrown, .ref a_t_now, .ref a_t_kept, .int t_isKept, .ref a_t_text, .int t_length, .ref a_t_passing, .int t_at, .int t_fault, .int t_open, .int t_asked, .int t_byGun, .int t_prizeMost, .ref a_t_order, .ref a_t_times, .int t_listed])), (a_t_now, .inl (cI, 1562, .inl t_now))] sz)) 0 0 (va_A [(a_t, .inr (11, [.int t_thrown, .ref a_t_now, .ref a_t_kept, .int t_isKept, .ref a_t_text, .int t_length, .ref a_t_passing, .int t_at, .int t_fault, .int t_open, .int t_asked, .int t_byGun, .int t_prizeMost, .ref a_t_order, .ref a_t_times, .int t_listed])), (a_t_now, .inl (cI, 1562, .inl t_now))] sz) := by
  refine Met.ofW (cc := cX11_tear) (maxL := 4) (ret := (some .boolean)) (by decide) rfl ?_
  intro p e s m args below meth c s₁ B hml hv
  obtain ⟨rfl, hsz, hP, hK, hN, hZ, hD0⟩ := hv
  have hx := B.exec
  have hb := B.bytes
  have hr := B.returns
  have hts := atoms_spec (ws := wsX11_tear) B.pre
  have hown : s.vm.findClass RX11 = some m.cls := findClass_of_methodNamed B.named
  have hlocks := B.notSynchronized
  subst hsz
  have hD := hD0.self (sz := s.heap.size)
  generalize hAe : va_A [(a_t, .inr (11, [.int t_thrown, .ref a_t_now, .ref a_t_kept, .int t_isKept, .ref a_t_text, .int t_length, .ref a_t_passing, .int t_at, .int t_fault, .int t_open, .int t_asked, .int t_byGun, .int t_prizeMost, .ref a_t_order, .ref a_t_times, .int t_listed])), (a_t_now, .inl (cI, 1562, .inl t_now))] s.heap.size = A at hD hZ ⊢
  have hA : ∀ q : Nat, s.heap.size ≤ q → A q := fun q h => by rw [← hAe]; exact Or.inr h
  have hS : va_S A s.heap s.heap [] := va_S.rf
  have hl := lv_entry ([.ref a_t, .int x1, .int x2]) (n := 4) (Nat.le_of_ble_eq_true rfl)
  rw [lg_entry_eq]
  generalize (lg_sl ([.ref a_t, .int x1, .int x2]) ++ List.replicate (4 - (lg_sl ([.ref a_t, .int x1, .int x2])).length) Slot.unset).toArray = ls at hl ⊢
  have hl : lv_has ls 4 [(0, .ref a_t), (1, .int x1), (2, .int x2)] := hl
  unfold fX11_tear at h
  refine lv_aload_n hx hb dX11_tear_0 rfl (lv_at hl 0 rfl) ?_
  refine lv_iload_n hx hb dX11_tear_1 rfl (lv_at hl 1 rfl) ?_
  obtain ⟨⟨b1, t_thrown_r2⟩, e3, h⟩ := zz_b h
  dsimp only at h
  refine zVi (As := [.int x1]) (rest := []) (C := RX11) (wr := []) [0, 1] [] 0 ⟨hx, hb, hml, hown, hts⟩ (mX11_isRunner l D cB cI cZ a_t a_t_now a_t_kept a_t_text a_t_passing a_t_order a_t_times t_thrown t_isKept t_length t_at t_fault t_open t_asked t_byGun t_prizeMost t_listed t_now s.heap.size x1 b1 t_thrown_r2 e3) (cwV 1 hts gX11_tear_X11_isRunner rfl rfl rfl (by decide +kernel) ⟨Nat.le_of_ble_eq_true rfl, Nat.le_of_ble_eq_true rfl⟩) hK hN hZ hP hD hS hA rfl rfl rfl rfl rfl rfl rfl rfl hl.1 rfl (lv_room (Nat.le_of_ble_eq_true rfl)) dX11_tear_2 ⟨Nat.le_of_ble_eq_true rfl, Nat.le_of_ble_eq_true rfl⟩ (fun H locs hP hD hS => ?_)
  have hP : va_P D vwCl [(a_t, .inr (11, [.int t_thrown_r2, .ref a_t_now, .ref a_t_kept, .int t_isKept, .ref a_t_text, .int t_length, .ref a_t_passing, .int t_at, .int t_fault, .int t_open, .int t_asked, .int t_byGun, .int t_prizeMost, .ref a_t_order, .ref a_t_times, .int t_listed])), (a_t_now, .inl (cI, 1562, .inl t_now))] H := hP
  have hD : va_D A [(a_t, .inr (11, [.int t_thrown_r2, .ref a_t_now, .ref a_t_kept, .int t_isKept, .ref a_t_text, .int t_length, .ref a_t_passing, .int t_at, .int t_fault, .int t_open, .int t_asked, .int t_byGun, .int t_prizeMost, .ref a_t_order, .ref a_t_times, .int t_listed])), (a_t_now, .inl (cI, 1562, .inl t_now))] := hD
  refine lv_if_eq (tgt := 16) hx hb dX11_tear_5 (by decide) (fun c4 => ?_) (fun c4 => ?_)
  · have h := zz_t h c4
    refine lv_iconst (v := (nI 0)) hx hb dX11_tear_16 rfl ?_
    obtain ⟨j0_, g_⟩ := Prod.mk.inj (Option.some.inj h)
    obtain ⟨j1_, g_⟩ := Prod.mk.inj g_
    have j2_ := g_
    subst j0_
    subst j1_
    subst j2_
    exact W.zret (v := (nI 0)) hx hb hr rfl (fun t ht hW => ⟨⟨_, (), rfl, rfl, zPost.of hP hD hK ht hW [0, 1] rfl rfl rfl⟩, hS.F ht⟩) hS.2.2 dX11_tear_17
  · have h := zz_f h c4
    refine lv_aload_n hx hb dX11_tear_8 rfl (lv_at hl 0 rfl) ?_
    refine lv_iload_n hx hb dX11_tear_9 rfl (lv_at hl 2 rfl) ?_
    obtain ⟨b5, e6, h⟩ := zz_b h
    refine zVi (As := [.int x2]) (rest := []) (C := RX11) (wr := []) [0, 1] [] 0 ⟨hx, hb, hml, hown, hts⟩ (mX11_isMat l D cB cI cZ a_t a_t_now a_t_kept a_t_text a_t_passing a_t_order a_t_times t_thrown_r2 t_isKept t_length t_at t_fault t_open t_asked t_byGun t_prizeMost t_listed t_now H.size x2 b5 e6) (cwV 1 hts gX11_tear_X11_isMat rfl rfl rfl (by decide +kernel) ⟨Nat.le_of_ble_eq_true rfl, Nat.le_of_ble_eq_true rfl⟩) hK hN hZ hP hD hS hA rfl rfl rfl rfl rfl rfl rfl rfl hl.1 rfl (lv_room (Nat.le_of_ble_eq_true rfl)) dX11_tear_10 ⟨Nat.le_of_ble_eq_true rfl, Nat.le_of_ble_eq_true rfl⟩ (fun H locs hP hD hS => ?_)
    have hP : va_P D vwCl [(a_t, .inr (11, [.int t_thrown_r2, .ref a_t_now, .ref a_t_kept, .int t_isKept, .ref a_t_text, .int t_length, .ref a_t_passing, .int t_at, .int t_fault, .int t_open, .int t_asked, .int t_byGun, .int t_prizeMost, .ref a_t_order, .ref a_t_times, .int t_listed])), (a_t_now, .inl (cI, 1562, .inl t_now))] H := hP
    have hD : va_D A [(a_t, .inr (11, [.int t_thrown_r2, .ref a_t_now, .ref a_t_kept, .int t_isKept, .ref a_t_text, .int t_length, .ref a_t_passing, .int t_at, .int t_fault, .int t_open, .int t_asked, .int t_byGun, .int t_prizeMost, .ref a_t_order, .ref a_t_times, .int t_listed])), (a_t_now, .inl (cI, 1562, .inl t_now))] := hD
    refine lv_if_ne (tgt := 18) hx hb dX11_tear_13 (by decide) (fun c7 => ?_) (fun c7 => ?_)
    · have h := zz_f h c7
      refine lv_aload_n hx hb dX11_tear_18 rfl (lv_at hl 0 rfl) ?_
      refine lv_iload_n hx hb dX11_tear_19 rfl (lv_at hl 1 rfl) ?_
      refine lv_iload_n hx hb dX11_tear_20 rfl (lv_at hl 2 rfl) ?_
      obtain ⟨b8, e9, h⟩ := zz_b h
      refine zVi (As := [.int x1, .int x2]) (rest := []) (C := RX11) (wr := []) [0, 1] [] 0 ⟨hx, hb, hml, hown, hts⟩ (mX11_isTorn l D cB cI cZ a_t a_t_now a_t_kept a_t_text a_t_passing a_t_order a_t_times t_thrown_r2 t_isKept t_length t_at t_fault t_open t_asked t_byGun t_prizeMost t_listed t_now H.size x1 x2 b8 e9) (cwV 2 hts gX11_tear_X11_isTorn rfl rfl rfl (by decide +kernel) ⟨Nat.le_of_ble_eq_true rfl, Nat.le_of_ble_eq_true rfl⟩) hK hN hZ hP hD hS hA rfl rfl rfl rfl rfl rfl rfl rfl hl.1 rfl (lv_room (Nat.le_of_ble_eq_true rfl)) dX11_tear_21 ⟨Nat.le_of_ble_eq_true rfl, Nat.le_of_ble_eq_true rfl⟩ (fun H locs hP hD hS => ?_)
      have hP : va_P D vwCl [(a_t, .inr (11, [.int t_thrown_r2, .ref a_t_now, .ref a_t_kept, .int t_isKept, .ref a_t_text, .int t_length, .ref a_t_passing, .int t_at, .int t_fault, .int t_open, .int t_asked, .int t_byGun, .int t_prizeMost, .ref a_t_order, .ref a_t_times, .int t_listed])), (a_t_now, .inl (cI, 1562, .inl t_now))] H := hP
      have hD : va_D A [(a_t, .inr (11, [.int t_thrown_r2, .ref a_t_now, .ref a_t_kept, .int t_isKept, .ref a_t_text, .int t_length, .ref a_t_passing, .int t_at, .int t_fault, .int t_open, .int t_asked, .int t_byGun, .int t_prizeMost, .ref a_t_order, .ref a_t_times, .int t_listed])), (a_t_now, .inl (cI, 1562, .inl t_now))] := hD
      have J35 : ∀ (t_now_j35 : Nat → Int32) (H : Heap) (locs : List Loc) (ls : Array Slot), fX11_tear_J35 N x1 x2 t_thrown_r2 t_now_j35 = some (b0, t_thrown', t_now') → va_P D vwCl [(a_t, .inr (11, [.int t_thrown_r2, .ref a_t_now, .ref a_t_kept, .int t_isKept, .ref a_t_text, .int t_length, .ref a_t_passing, .int t_at, .int t_fault, .int t_open, .int t_asked, .int t_byGun, .int t_prizeMost, .ref a_t_order, .ref a_t_times, .int t_listed])), (a_t_now, .inl (cI, 1562, .inl t_now_j35))] H → va_D A [(a_t, .inr (11, [.int t_thrown_r2, .ref a_t_now, .ref a_t_kept, .int t_isKept, .ref a_t_text, .int t_length, .ref a_t_passing, .int t_at, .int t_fault, .int t_open, .int t_asked, .int t_byGun, .int t_prizeMost, .ref a_t_order, .ref a_t_times, .int t_listed])), (a_t_now, .inl (cI, 1562, .inl t_now_j35))] → va_S A s.heap H locs → lv_has ls 4 [(0, .ref a_t), (1, .int x1), (2, .int x2)] → W p l e (headSpec wsX11_tear ({ frames := 2, cells := 0, slots := 0, locals := 44 } : Room)).room s m #[Value.ref a_t, Value.int x1, Value.int x2] below meth c H locs 0 0 (MQ below (zQi (zb b0) D (zT cB cI cZ) [(a_t, .inr (11, [.int t_thrown', .ref a_t_now, .ref a_t_kept, .int t_isKept, .ref a_t_text, .int t_length, .ref a_t_passing, .int t_at, .int t_fault, .int t_open, .int t_asked, .int t_byGun, .int t_prizeMost, .ref a_t_order, .ref a_t_times, .int t_listed])), (a_t_now, .inl (cI, 1562, .inl t_now'))] A) #[Value.ref a_t, Value.int x1, Value.int x2] s 0 0 A) (F0 m 35 ls []) := by
        intro t_now_j35 H locs ls h hP hD hS hl
        unfold fX11_tear_J35 at h
        refine lv_iload_n hx hb dX11_tear_35 rfl (lv_at hl 2 rfl) ?_
        refine lv_istore_n (lv' := [(3, .int x2), (0, .ref a_t), (1, .int x1), (2, .int x2)]) hx hb dX11_tear_36 rfl hl (by decide) rfl (fun ls hl => ?_)
        have X37_59 : ∀ (v3_37 : Int32) (t_now_l37 : Nat → Int32) (H : Heap) (locs : List Loc) (ls : Array Slot), some (true, t_thrown_r2, t_now_l37) = some (b0, t_thrown', t_now') → va_P D vwCl [(a_t, .inr (11, [.int t_thrown_r2, .ref a_t_now, .ref a_t_kept, .int t_isKept, .ref a_t_text, .int t_length, .ref a_t_passing, .int t_at, .int t_fault, .int t_open, .int t_asked, .int t_byGun, .int t_prizeMost, .ref a_t_order, .ref a_t_times, .int t_listed])), (a_t_now, .inl (cI, 1562, .inl t_now_l37))] H → va_D A [(a_t, .inr (11, [.int t_thrown_r2, .ref a_t_now, .ref a_t_kept, .int t_isKept, .ref a_t_text, .int t_length, .ref a_t_passing, .int t_at, .int t_fault, .int t_open, .int t_asked, .int t_byGun, .int t_prizeMost, .ref a_t_order, .ref a_t_times, .int t_listed])), (a_t_now, .inl (cI, 1562, .inl t_now_l37))] → va_S A s.heap H locs → lv_has ls 4 [(3, .int v3_37), (0, .ref a_t), (1, .int x1), (2, .int x2)] → W p l e (headSpec wsX11_tear ({ frames := 2, cells := 0, slots := 0, locals := 44 } : Room)).room s m #[Value.ref a_t, Value.int x1, Value.int x2] below meth c H locs 0 0 (MQ below (zQi (zb b0) D (zT cB cI cZ) [(a_t, .inr (11, [.int t_thrown', .ref a_t_now, .ref a_t_kept, .int t_isKept, .ref a_t_text, .int t_length, .ref a_t_passing, .int t_at, .int t_fault, .int t_open, .int t_asked, .int t_byGun, .int t_prizeMost, .ref a_t_order, .ref a_t_times, .int t_listed])), (a_t_now, .inl (cI, 1562, .inl t_now'))] A) #[Value.ref a_t, Value.int x1, Value.int x2] s 0 0 A) (F0 m 59 ls []) := by
          intro v3_37 t_now_l37 H locs ls h hP hD hS hl
          refine lv_iconst (v := (nI 1)) hx hb dX11_tear_59 rfl ?_
          obtain ⟨j0_, g_⟩ := Prod.mk.inj (Option.some.inj h)
          obtain ⟨j1_, g_⟩ := Prod.mk.inj g_
          have j2_ := g_
          subst j0_
          subst j1_
          subst j2_
          exact W.zret (v := (nI 1)) hx hb hr rfl (fun t ht hW => ⟨⟨_, (), rfl, rfl, zPost.of hP hD hK ht hW [0, 1] rfl rfl rfl⟩, hS.F ht⟩) hS.2.2 dX11_tear_60
        have L37 : ∀ (n : Nat) (v3_37 : Int32) (t_now_l37 : Nat → Int32) (H : Heap) (locs : List Loc) (ls : Array Slot), fX11_tear_L37 x1 (fun (v3_37 : Int32) (t_now_l37 : Nat → Int32) => some (true, t_thrown_r2, t_now_l37)) n v3_37 t_now_l37 = some (b0, t_thrown', t_now') → va_P D vwCl [(a_t, .inr (11, [.int t_thrown_r2, .ref a_t_now, .ref a_t_kept, .int t_isKept, .ref a_t_text, .int t_length, .ref a_t_passing, .int t_at, .int t_fault, .int t_open, .int t_asked, .int t_byGun, .int t_prizeMost, .ref a_t_order, .ref a_t_times, .int t_listed])), (a_t_now, .inl (cI, 1562, .inl t_now_l37))] H → va_D A [(a_t, .inr (11, [.int t_thrown_r2, .ref a_t_now, .ref a_t_kept, .int t_isKept, .ref a_t_text, .int t_length, .ref a_t_passing, .int t_at, .int t_fault, .int t_open, .int t_asked, .int t_byGun, .int t_prizeMost, .ref a_t_order, .ref a_t_times, .int t_listed])), (a_t_now, .inl (cI, 1562, .inl t_now_l37))] → va_S A s.heap H locs → lv_has ls 4 [(3, .int v3_37), (0, .ref a_t), (1, .int x1), (2, .int x2)] → W p l e (headSpec wsX11_tear ({ frames := 2, cells := 0, slots := 0, locals := 44 } : Room)).room s m #[Value.ref a_t, Value.int x1, Value.int x2] below meth c H locs 0 0 (MQ below (zQi (zb b0) D (zT cB cI cZ) [(a_t, .inr (11, [.int t_thrown', .ref a_t_now, .ref a_t_kept, .int t_isKept, .ref a_t_text, .int t_length, .ref a_t_passing, .int t_at, .int t_fault, .int t_open, .int t_asked, .int t_byGun, .int t_prizeMost, .ref a_t_order, .ref a_t_times, .int t_listed])), (a_t_now, .inl (cI, 1562, .inl t_now'))] A) #[Value.ref a_t, Value.int x1, Value.int x2] s 0 0 A) (F0 m 37 ls []) := by
          intro n
          induction n with
          | zero => intro _ _ H locs ls h hP hD hS hl; cases h
          | succ n37 ih37 =>
            intro v3_37 t_now_l37 H locs ls h hP hD hS hl
            rw [fX11_tear_L37.eq_2] at h
            refine lv_iload_n hx hb dX11_tear_37 rfl (lv_at hl 0 rfl) ?_
            refine lv_bipush (v := (nI 12)) hx hb dX11_tear_38 rfl ?_
            refine lv_icmp_ge (tgt := 59) hx hb dX11_tear_40 (by decide) (fun c10 => ?_) (fun c10 => ?_)
            · have h := zz_t h c10
              exact X37_59 v3_37 t_now_l37 _ _ _ h (hP.sub [0, 1] rfl) (hD.sub [0, 1] rfl rfl) hS (lv_sub hl [0, 1, 2, 3] rfl)
            · have h := zz_f h c10
              refine lv_aload_n hx hb dX11_tear_43 rfl (lv_at hl 1 rfl) ?_
              refine lv_iload_n hx hb dX11_tear_44 rfl (lv_at hl 2 rfl) ?_
              refine lv_bipush (v := (nI 12)) hx hb dX11_tear_45 rfl ?_
              refine lv_iload_n hx hb dX11_tear_47 rfl (lv_at hl 0 rfl) ?_
              refine lv_iadd hx hb dX11_tear_48 ?_
              refine lv_iconst (v := (-1 : Int32)) hx hb dX11_tear_49 rfl ?_
              obtain ⟨t_now_r11, e12, h⟩ := zz_b h
              refine zVv (As := [.int x1, .int ((nI 12) + v3_37), .int (-1 : Int32)]) (rest := []) (C := RX11) (wr := []) [0, 1] [] 0 ⟨hx, hb, hml, hown, hts⟩ (mX11_put l D cB cI cZ a_t a_t_now a_t_kept a_t_text a_t_passing a_t_order a_t_times t_thrown_r2 t_isKept t_length t_at t_fault t_open t_asked t_byGun t_prizeMost t_listed t_now_l37 H.size x1 ((nI 12) + v3_37) (-1 : Int32) t_now_r11 e12) (cwV 3 hts gX11_tear_X11_put rfl rfl rfl (by decide +kernel) ⟨Nat.le_of_ble_eq_true rfl, Nat.le_of_ble_eq_true rfl⟩) hK hN hZ hP hD hS hA rfl rfl rfl rfl rfl rfl rfl rfl hl.1 rfl (lv_room (Nat.le_of_ble_eq_true rfl)) dX11_tear_50 ⟨Nat.le_of_ble_eq_true rfl, Nat.le_of_ble_eq_true rfl⟩ (fun H locs hP hD hS => ?_)
              have hP : va_P D vwCl [(a_t, .inr (11, [.int t_thrown_r2, .ref a_t_now, .ref a_t_kept, .int t_isKept, .ref a_t_text, .int t_length, .ref a_t_passing, .int t_at, .int t_fault, .int t_open, .int t_asked, .int t_byGun, .int t_prizeMost, .ref a_t_order, .ref a_t_times, .int t_listed])), (a_t_now, .inl (cI, 1562, .inl t_now_r11))] H := hP
              have hD : va_D A [(a_t, .inr (11, [.int t_thrown_r2, .ref a_t_now, .ref a_t_kept, .int t_isKept, .ref a_t_text, .int t_length, .ref a_t_passing, .int t_at, .int t_fault, .int t_open, .int t_asked, .int t_byGun, .int t_prizeMost, .ref a_t_order, .ref a_t_times, .int t_listed])), (a_t_now, .inl (cI, 1562, .inl t_now_r11))] := hD
              refine lv_iinc (v := (v3_37 + (nI 1))) (lv' := [(3, .int (v3_37 + (nI 1))), (0, .ref a_t), (1, .int x1), (2, .int x2)]) hx hb dX11_tear_53 hl (k := 0) rfl rfl (by decide) rfl (fun ls hl => ?_)
              refine lv_goto (tgt := 37) hx hb dX11_tear_56 (by decide) ?_
              exact ih37 (v3_37 + (nI 1)) t_now_r11 _ _ _ h (hP.sub [0, 1] rfl) (hD.sub [0, 1] rfl rfl) hS (lv_sub hl [0, 1, 2, 3] rfl)
        exact L37 N x2 t_now_j35 _ _ _ h hP hD hS hl
      refine lv_if_ne (tgt := 35) hx hb dX11_tear_24 (by decide) (fun c13 => ?_) (fun c13 => ?_)
      · have h := zz_f h c13
        exact J35 t_now _ _ _ h (hP.sub [0, 1] rfl) (hD.sub [0, 1] rfl rfl) hS (lv_sub hl [0, 1, 2] rfl)
      · have h := zz_t h c13
        refine lv_aload_n hx hb dX11_tear_27 rfl (lv_at hl 0 rfl) ?_
        refine lv_iload_n hx hb dX11_tear_28 rfl (lv_at hl 1 rfl) ?_
        refine lv_bipush (v := (nI 9)) hx hb dX11_tear_29 rfl ?_
        refine lv_iload_n hx hb dX11_tear_31 rfl (lv_at hl 2 rfl) ?_
        obtain ⟨t_now_r14, e15, h⟩ := zz_b h
        refine zVv (As := [.int x1, .int (nI 9), .int x2]) (rest := []) (C := RX11) (wr := []) [0, 1] [] 0 ⟨hx, hb, hml, hown, hts⟩ (mX11_put l D cB cI cZ a_t a_t_now a_t_kept a_t_text a_t_passing a_t_order a_t_times t_thrown_r2 t_isKept t_length t_at t_fault t_open t_asked t_byGun t_prizeMost t_listed t_now H.size x1 (nI 9) x2 t_now_r14 e15) (cwV 3 hts gX11_tear_X11_put rfl rfl rfl (by decide +kernel) ⟨Nat.le_of_ble_eq_true rfl, Nat.le_of_ble_eq_true rfl⟩) hK hN hZ hP hD hS hA rfl rfl rfl rfl rfl rfl rfl rfl hl.1 rfl (lv_room (Nat.le_of_ble_eq_true rfl)) dX11_tear_32 ⟨Nat.le_of_ble_eq_true rfl, Nat.le_of_ble_eq_true rfl⟩ (fun H locs hP hD hS => ?_)
        have hP : va_P D vwCl [(a_t, .inr (11, [.int t_thrown_r2, .ref a_t_now, .ref a_t_kept, .int t_isKept, .ref a_t_text, .int t_length, .ref a_t_passing, .int t_at, .int t_fault, .int t_open, .int t_asked, .int t_byGun, .int t_prizeMost, .ref a_t_order, .ref a_t_times, .int t_listed])), (a_t_now, .inl (cI, 1562, .inl t_now_r14))] H := hP
        have hD : va_D A [(a_t, .inr (11, [.int t_thrown_r2, .ref a_t_now, .ref a_t_kept, .int t_isKept, .ref a_t_text, .int t_length, .ref a_t_passing, .int t_at, .int t_fault, .int t_open, .int t_asked, .int t_byGun, .int t_prizeMost, .ref a_t_order, .ref a_t_times, .int t_listed])), (a_t_now, .inl (cI, 1562, .inl t_now_r14))] := hD
        exact J35 t_now_r14 _ _ _ h (hP.sub [0, 1] rfl) (hD.sub [0, 1] rfl rfl) hS (lv_sub hl [0, 1, 2] rfl)
    · have h := zz_t h c7
      refine lv_iconst (v := (nI 0)) hx hb dX11_tear_16 rfl ?_
      obtain ⟨j0_, g_⟩ := Prod.mk.inj (Option.some.inj h)
      obtain ⟨j1_, g_⟩ := Prod.mk.inj g_
      have j2_ := g_
      subst j0_
      subst j1_
      subst j2_
      exact W.zret (v := (nI 0)) hx hb hr rfl (fun t ht hW => ⟨⟨_, (), rfl, rfl, zPost.of hP hD hK ht hW [0, 1] rfl rfl rfl⟩, hS.F ht⟩) hS.2.2 dX11_tear_17
/-! RunDeskModel.drop -/
theorem dX11_drop_0 : decode cX11_drop 0 = .ok (.aload_n 0, 1) := by decide +kernel
theorem dX11_drop_1 : decode cX11_drop 1 = .ok (.iload_n 1, 1) := by decide +kernel
theorem dX11_drop_2 : decode cX11_drop 2 = .ok (.invokevirtual 65, 3) := by decide +kernel
theorem dX11_drop_5 : decode cX11_drop 5 = .ok (.ifCond .ne 5, 3) := by decide +kernel
theorem dX11_drop_8 : decode cX11_drop 8 = .ok (.iconst 0, 1) := by decide +kernel
theorem dX11_drop_9 : decode cX11_drop 9 = .ok (.ireturn, 1) := by decide +kernel
theorem dX11_drop_10 : decode cX11_drop 10 = .ok (.aload_n 0, 1) := by decide +kernel
theorem dX11_drop_11 : decode cX11_drop 11 = .ok (.iload_n 1, 1) := by decide +kernel
theorem dX11_drop_12 : decode cX11_drop 12 = .ok (.bipush 6, 2) := by decide +kernel
theorem dX11_drop_14 : decode cX11_drop 14 = .ok (.iload_n 2, 1) := by decide +kernel
theorem dX11_drop_15 : decode cX11_drop 15 = .ok (.ifCond .eq 7, 3) := by decide +kernel
theorem dX11_drop_18 : decode cX11_drop 18 = .ok (.iconst 1, 1) := by decide +kernel
theorem dX11_drop_19 : decode cX11_drop 19 = .ok (.goto 4, 3) := by decide +kernel
theorem dX11_drop_22 : decode cX11_drop 22 = .ok (.iconst 0, 1) := by decide +kernel
theorem dX11_drop_23 : decode cX11_drop 23 = .ok (.invokevirtual 48, 3) := by decide +kernel
theorem dX11_drop_26 : decode cX11_drop 26 = .ok (.iconst 1, 1) := by decide +kernel
theorem dX11_drop_27 : decode cX11_drop 27 = .ok (.ireturn, 1) := by decide +kernel
set_option maxRecDepth 20000 in
theorem ggX11_drop_X11_isRunner : GoodIn wsX11_drop wsX11_isRunner := goodIn_sub (List.forall_mem_cons.mpr ⟨List.mem_cons_of_mem _ (List.mem_append_left _ (List.mem_of_getElem? (i := 4) rfl)), (List.forall_mem_append.mpr ⟨(List.forall_mem_cons.mpr ⟨List.mem_cons_of_mem _ (List.mem_append_left _ (List.mem_of_getElem? (i := 5) rfl)), (List.forall_mem_cons.mpr ⟨List.mem_cons_of_mem _ (List.mem_append_left _ (List.mem_of_getElem? (i := 6) rfl)), (List.forall_mem_cons.mpr ⟨List.mem_cons_of_mem _ (List.mem_append_left _ (List.mem_of_getElem? (i := 7) rfl)), (List.forall_mem_cons.mpr ⟨List.mem_cons_of_mem _ (List.mem_append_left _ (List.mem_of_getElem? (i := 8) rfl)), (List.forall_mem_cons.mpr ⟨List.mem_cons_of_mem _ (List.mem_append_left _ (List.mem_of_getElem? (i := 3) rfl)), (List.forall_mem_cons.mpr ⟨List.mem_cons_of_mem _ (List.mem_append_left _ (List.mem_of_getElem? (i := 9) rfl)), (List.forall_mem_cons.mpr ⟨List.mem_cons_of_mem _ (List.mem_append_left _ (List.mem_of_getElem? (i := 10) rfl)), (fun _ h => nomatch h)⟩)⟩)⟩)⟩)⟩)⟩)⟩), (fun _ h => List.mem_cons_of_mem _ (List.mem_append_right _ (h)))⟩)⟩) (by decide +kernel)
set_option maxRecDepth 20000 in
theorem gX11_drop_X11_isRunner : GoodIn wsX11_drop (wsV RX11 65 RX11 yX11_isRunner wsX11_isRunner) := goodIn_app (goodIn_of _ (by decide +kernel)) ggX11_drop_X11_isRunner
set_option maxRecDepth 20000 in
theorem ggX11_drop_X11_put : GoodIn wsX11_drop wsX11_put := goodIn_sub (List.forall_mem_cons.mpr ⟨List.mem_cons_of_mem _ (List.mem_append_left _ (List.mem_of_getElem? (i := 14) rfl)), (List.forall_mem_append.mpr ⟨(List.forall_mem_cons.mpr ⟨List.mem_cons_of_mem _ (List.mem_append_left _ (List.mem_of_getElem? (i := 10) rfl)), (fun _ h => nomatch h)⟩), (fun _ h => List.mem_cons_of_mem _ (List.mem_append_right _ (h)))⟩)⟩) (by decide +kernel)
set_option maxRecDepth 20000 in
theorem gX11_drop_X11_put : GoodIn wsX11_drop (wsV RX11 48 RX11 yX11_put wsX11_put) := goodIn_app (goodIn_of _ (by decide +kernel)) ggX11_drop_X11_put
set_option maxHeartbeats 4000000 in
set_option maxRecDepth 100000 in
theorem mX11_drop (l : Launch) (D : va_G) (cB cI cZ : ClassId) (a_t : Nat) (a_t_now : Nat) (a_t_kept : Nat) (a_t_text : Nat) (a_t_passing : Nat) (a_t_order : Nat) (a_t_times : Nat) (t_thrown : Int32) (t_isKept : Int32) (t_length : Int32) (t_at : Int32) (t_fault : Int32) (t_open : Int32) (t_asked : Int32) (t_byGun : Int32) (t_prizeMost : Int32) (t_listed : Int32) (t_now : Nat → Int32) (sz : Nat) (x1 : Int32) (x2 : Int32) (b0 : Bool) (t_thrown' : Int32) (t_now' : Nat → Int32) (h : fX11_drop t_thrown t_now x1 x2 = some (b0, t_thrown', t_now')) : Met l yX11_drop wsX11_drop ({ frames := 2, cells := 0, slots := 0, locals := 41 } : Room) (va_Pc [.ref a_t, .int x1, .int x2] (zPre D (zT cB cI cZ) [(a_t, .inr (11, [.int t_thrown, .ref a_t_now, .ref a_t_kept, .int t_isKept, .ref a_t_text, .int t_length, .ref a_t_passing, .int t_at, .int t_fault, .int t_open, .int t_asked, .int t_byGun, .int t_prizeMost, .ref a_t_order, .ref a_t_times, .int t_listed])), (a_t_now, .inl (cI, 1562, .inl t_now))] sz)) (zQi (zb b0) D (zT cB cI cZ) [(a_t, .inr (11, [.int t_thrown', .ref a_t_now, .ref a_t_kept, .int t_isKept, .ref a_t_text, .int t_length, .ref a_t_passing, .int t_at, .int t_fault, .int t_open, .int t_asked, .int t_byGun, .int t_prizeMost, .ref a_t_order, .ref a_t_times, .int t_listed])), (a_t_now, .inl (cI, 1562, .inl t_now'))] (va_A [(a_t, .inr (11, [.int t_thrown, .ref a_t_now, .ref a_t_kept, .int t_isKept, .ref a_t_text, .int t_length, .ref a_t_passing, .int t_at, .int t_fault, .int t_open, .int t_asked, .int t_byGun, .int t_prizeMost, .ref a_t_order, .ref a_t_times, .int t_listed])), (a_t_now, .inl (cI, 1562, .inl t_now))] sz)) 0 0 (va_A [(a_t, .inr (11, [.int t_thrown, .ref a_t_now, .ref a_t_kept, .int t_isKept, .ref a_t_text, .int t_length, .ref a_t_passing, .int t_at, .int t_fault, .int t_open, .int t_asked, .int t_byGun, .int t_prizeMost, .ref a_t_order, .ref a_t_times, .int t_listed])), (a_t_now, .inl (cI, 1562, .inl t_now))] sz) := by
  refine Met.ofW (cc := cX11_drop) (maxL := 3) (ret := (some .boolean)) (by decide) rfl ?_
  intro p e s m args below meth c s₁ B hml hv
  obtain ⟨rfl, hsz, hP, hK, hN, hZ, hD0⟩ := hv
  have hx := B.exec
  have hb := B.bytes
  have hr := B.returns
  have hts := atoms_spec (ws := wsX11_drop) B.pre
  have hown : s.vm.findClass RX11 = some m.cls := findClass_of_methodNamed B.named
  have hlocks := B.notSynchronized
  subst hsz
  have hD := hD0.self (sz := s.heap.size)
  generalize hAe : va_A [(a_t, .inr (11, [.int t_thrown, .ref a_t_now, .ref a_t_kept, .int t_isKept, .ref a_t_text, .int t_length, .ref a_t_passing, .int t_at, .int t_fault, .int t_open, .int t_asked, .int t_byGun, .int t_prizeMost, .ref a_t_order, .ref a_t_times, .int t_listed])), (a_t_now, .inl (cI, 1562, .inl t_now))] s.heap.size = A at hD hZ ⊢
  have hA : ∀ q : Nat, s.heap.size ≤ q → A q := fun q h => by rw [← hAe]; exact Or.inr h
  have hS : va_S A s.heap s.heap [] := va_S.rf
  have hl := lv_entry ([.ref a_t, .int x1, .int x2]) (n := 3) (Nat.le_of_ble_eq_true rfl)
  rw [lg_entry_eq]
  generalize (lg_sl ([.ref a_t, .int x1, .int x2]) ++ List.replicate (3 - (lg_sl ([.ref a_t, .int x1, .int x2])).length) Slot.unset).toArray = ls at hl ⊢
  have hl : lv_has ls 3 [(0, .ref a_t), (1, .int x1), (2, .int x2)] := hl
  unfold fX11_drop at h
  refine lv_aload_n hx hb dX11_drop_0 rfl (lv_at hl 0 rfl) ?_
  refine lv_iload_n hx hb dX11_drop_1 rfl (lv_at hl 1 rfl) ?_
  obtain ⟨⟨b1, t_thrown_r2⟩, e3, h⟩ := zz_b h
  dsimp only at h
  refine zVi (As := [.int x1]) (rest := []) (C := RX11) (wr := []) [0, 1] [] 0 ⟨hx, hb, hml, hown, hts⟩ (mX11_isRunner l D cB cI cZ a_t a_t_now a_t_kept a_t_text a_t_passing a_t_order a_t_times t_thrown t_isKept t_length t_at t_fault t_open t_asked t_byGun t_prizeMost t_listed t_now s.heap.size x1 b1 t_thrown_r2 e3) (cwV 1 hts gX11_drop_X11_isRunner rfl rfl rfl (by decide +kernel) ⟨Nat.le_of_ble_eq_true rfl, Nat.le_of_ble_eq_true rfl⟩) hK hN hZ hP hD hS hA rfl rfl rfl rfl rfl rfl rfl rfl hl.1 rfl (lv_room (Nat.le_of_ble_eq_true rfl)) dX11_drop_2 ⟨Nat.le_of_ble_eq_true rfl, Nat.le_of_ble_eq_true rfl⟩ (fun H locs hP hD hS => ?_)
  have hP : va_P D vwCl [(a_t, .inr (11, [.int t_thrown_r2, .ref a_t_now, .ref a_t_kept, .int t_isKept, .ref a_t_text, .int t_length, .ref a_t_passing, .int t_at, .int t_fault, .int t_open, .int t_asked, .int t_byGun, .int t_prizeMost, .ref a_t_order, .ref a_t_times, .int t_listed])), (a_t_now, .inl (cI, 1562, .inl t_now))] H := hP
  have hD : va_D A [(a_t, .inr (11, [.int t_thrown_r2, .ref a_t_now, .ref a_t_kept, .int t_isKept, .ref a_t_text, .int t_length, .ref a_t_passing, .int t_at, .int t_fault, .int t_open, .int t_asked, .int t_byGun, .int t_prizeMost, .ref a_t_order, .ref a_t_times, .int t_listed])), (a_t_now, .inl (cI, 1562, .inl t_now))] := hD
  refine lv_if_ne (tgt := 10) hx hb dX11_drop_5 (by decide) (fun c4 => ?_) (fun c4 => ?_)
  · have h := zz_f h c4
    refine lv_aload_n hx hb dX11_drop_10 rfl (lv_at hl 0 rfl) ?_
    refine lv_iload_n hx hb dX11_drop_11 rfl (lv_at hl 1 rfl) ?_
    refine lv_bipush (v := (nI 6)) hx hb dX11_drop_12 rfl ?_
    refine lv_iload_n hx hb dX11_drop_14 rfl (lv_at hl 2 rfl) ?_
    refine lv_if_eq (tgt := 22) hx hb dX11_drop_15 (by decide) (fun c5 => ?_) (fun c5 => ?_)
    · have h := zz_t h c5
      refine lv_iconst (v := (nI 0)) hx hb dX11_drop_22 rfl ?_
      obtain ⟨t_now_r6, e7, h⟩ := zz_b h
      refine zVv (As := [.int x1, .int (nI 6), .int (nI 0)]) (rest := []) (C := RX11) (wr := []) [0, 1] [] 0 ⟨hx, hb, hml, hown, hts⟩ (mX11_put l D cB cI cZ a_t a_t_now a_t_kept a_t_text a_t_passing a_t_order a_t_times t_thrown_r2 t_isKept t_length t_at t_fault t_open t_asked t_byGun t_prizeMost t_listed t_now H.size x1 (nI 6) (nI 0) t_now_r6 e7) (cwV 3 hts gX11_drop_X11_put rfl rfl rfl (by decide +kernel) ⟨Nat.le_of_ble_eq_true rfl, Nat.le_of_ble_eq_true rfl⟩) hK hN hZ hP hD hS hA rfl rfl rfl rfl rfl rfl rfl rfl hl.1 rfl (lv_room (Nat.le_of_ble_eq_true rfl)) dX11_drop_23 ⟨Nat.le_of_ble_eq_true rfl, Nat.le_of_ble_eq_true rfl⟩ (fun H locs hP hD hS => ?_)
      have hP : va_P D vwCl [(a_t, .inr (11, [.int t_thrown_r2, .ref a_t_now, .ref a_t_kept, .int t_isKept, .ref a_t_text, .int t_length, .ref a_t_passing, .int t_at, .int t_fault, .int t_open, .int t_asked, .int t_byGun, .int t_prizeMost, .ref a_t_order, .ref a_t_times, .int t_listed])), (a_t_now, .inl (cI, 1562, .inl t_now_r6))] H := hP
      have hD : va_D A [(a_t, .inr (11, [.int t_thrown_r2, .ref a_t_now, .ref a_t_kept, .int t_isKept, .ref a_t_text, .int t_length, .ref a_t_passing, .int t_at, .int t_fault, .int t_open, .int t_asked, .int t_byGun, .int t_prizeMost, .ref a_t_order, .ref a_t_times, .int t_listed])), (a_t_now, .inl (cI, 1562, .inl t_now_r6))] := hD
      refine lv_iconst (v := (nI 1)) hx hb dX11_drop_26 rfl ?_
      obtain ⟨j0_, g_⟩ := Prod.mk.inj (Option.some.inj h)
      obtain ⟨j1_, g_⟩ := Prod.mk.inj g_
      have j2_ := g_
      subst j0_
      subst j1_
      subst j2_
      exact W.zret (v := (nI 1)) hx hb hr rfl (fun t ht hW => ⟨⟨_, (), rfl, rfl, zPost.of hP hD hK ht hW [0, 1] rfl rfl rfl⟩, hS.F ht⟩) hS.2.2 dX11_drop_27
    · have h := zz_f h c5
      refine lv_iconst (v := (nI 1)) hx hb dX11_drop_18 rfl ?_
      refine lv_goto (tgt := 23) hx hb dX11_drop_19 (by decide) ?_
      obtain ⟨t_now_r8, e9, h⟩ := zz_b h
      refine zVv (As := [.int x1, .int (nI 6), .int (nI 1)]) (rest := []) (C := RX11) (wr := []) [0, 1] [] 0 ⟨hx, hb, hml, hown, hts⟩ (mX11_put l D cB cI cZ a_t a_t_now a_t_kept a_t_text a_t_passing a_t_order a_t_times t_thrown_r2 t_isKept t_length t_at t_fault t_open t_asked t_byGun t_prizeMost t_listed t_now H.size x1 (nI 6) (nI 1) t_now_r8 e9) (cwV 3 hts gX11_drop_X11_put rfl rfl rfl (by decide +kernel) ⟨Nat.le_of_ble_eq_true rfl, Nat.le_of_ble_eq_true rfl⟩) hK hN hZ hP hD hS hA rfl rfl rfl rfl rfl rfl rfl rfl hl.1 rfl (lv_room (Nat.le_of_ble_eq_true rfl)) dX11_drop_23 ⟨Nat.le_of_ble_eq_true rfl, Nat.le_of_ble_eq_true rfl⟩ (fun H locs hP hD hS => ?_)
      have hP : va_P D vwCl [(a_t, .inr (11, [.int t_thrown_r2, .ref a_t_now, .ref a_t_kept, .int t_isKept, .ref a_t_text, .int t_length, .ref a_t_passing, .int t_at, .int t_fault, .int t_open, .int t_asked, .int t_byGun, .int t_prizeMost, .ref a_t_order, .ref a_t_times, .int t_listed])), (a_t_now, .inl (cI, 1562, .inl t_now_r8))] H := hP
      have hD : va_D A [(a_t, .inr (11, [.int t_thrown_r2, .ref a_t_now, .ref a_t_kept, .int t_isKept, .ref a_t_text, .int t_length, .ref a_t_passing, .int t_at, .int t_fault, .int t_open, .int t_asked, .int t_byGun, .int t_prizeMost, .ref a_t_order, .ref a_t_times, .int t_listed])), (a_t_now, .inl (cI, 1562, .inl t_now_r8))] := hD
      refine lv_iconst (v := (nI 1)) hx hb dX11_drop_26 rfl ?_
      obtain ⟨j0_, g_⟩ := Prod.mk.inj (Option.some.inj h)
      obtain ⟨j1_, g_⟩ := Prod.mk.inj g_
      have j2_ := g_
      subst j0_
      subst j1_
      subst j2_
      exact W.zret (v := (nI 1)) hx hb hr rfl (fun t ht hW => ⟨⟨_, (), rfl, rfl, zPost.of hP hD hK ht hW [0, 1] rfl rfl rfl⟩, hS.F ht⟩) hS.2.2 dX11_drop_27
  · have h := zz_t h c4
    refine lv_iconst (v := (nI 0)) hx hb dX11_drop_8 rfl ?_
    obtain ⟨j0_, g_⟩ := Prod.mk.inj (Option.some.inj h)
    obtain ⟨j1_, g_⟩ := Prod.mk.inj g_
    have j2_ := g_
    subst j0_
    subst j1_
    subst j2_
    exact W.zret (v := (nI 0)) hx hb hr rfl (fun t ht hW => ⟨⟨_, (), rfl, rfl, zPost.of hP hD hK ht hW [0, 1] rfl rfl rfl⟩, hS.F ht⟩) hS.2.2 dX11_drop_9
/-! RunDeskModel.cut -/
theorem dX11_cut_0 : decode cX11_cut 0 = .ok (.aload_n 0, 1) := by decide +kernel
theorem dX11_cut_1 : decode cX11_cut 1 = .ok (.iconst 0, 1) := by decide +kernel
theorem dX11_cut_2 : decode cX11_cut 2 = .ok (.putfield 37, 3) := by decide +kernel
theorem dX11_cut_5 : decode cX11_cut 5 = .ok (.aload_n 0, 1) := by decide +kernel
theorem dX11_cut_6 : decode cX11_cut 6 = .ok (.iload_n 1, 1) := by decide +kernel
theorem dX11_cut_7 : decode cX11_cut 7 = .ok (.invokevirtual 69, 3) := by decide +kernel
theorem dX11_cut_10 : decode cX11_cut 10 = .ok (.ifCond .eq 18, 3) := by decide +kernel
theorem dX11_cut_13 : decode cX11_cut 13 = .ok (.iload_n 2, 1) := by decide +kernel
theorem dX11_cut_14 : decode cX11_cut 14 = .ok (.iconst (-1), 1) := by decide +kernel
theorem dX11_cut_15 : decode cX11_cut 15 = .ok (.if_icmp .eq 15, 3) := by decide +kernel
theorem dX11_cut_18 : decode cX11_cut 18 = .ok (.iload_n 2, 1) := by decide +kernel
theorem dX11_cut_19 : decode cX11_cut 19 = .ok (.iconst 0, 1) := by decide +kernel
theorem dX11_cut_20 : decode cX11_cut 20 = .ok (.ldc 61, 2) := by decide +kernel
theorem dX11_cut_22 : decode cX11_cut 22 = .ok (.invokestatic 52, 3) := by decide +kernel
theorem dX11_cut_25 : decode cX11_cut 25 = .ok (.ifCond .ne 5, 3) := by decide +kernel
theorem dX11_cut_28 : decode cX11_cut 28 = .ok (.iconst 0, 1) := by decide +kernel
theorem dX11_cut_29 : decode cX11_cut 29 = .ok (.ireturn, 1) := by decide +kernel
theorem dX11_cut_30 : decode cX11_cut 30 = .ok (.aload_n 0, 1) := by decide +kernel
theorem dX11_cut_31 : decode cX11_cut 31 = .ok (.getfield 9, 3) := by decide +kernel
theorem dX11_cut_34 : decode cX11_cut 34 = .ok (.bipush 8, 2) := by decide +kernel
theorem dX11_cut_36 : decode cX11_cut 36 = .ok (.iconst 4, 1) := by decide +kernel
theorem dX11_cut_37 : decode cX11_cut 37 = .ok (.iload_n 1, 1) := by decide +kernel
theorem dX11_cut_38 : decode cX11_cut 38 = .ok (.imul, 1) := by decide +kernel
theorem dX11_cut_39 : decode cX11_cut 39 = .ok (.iadd, 1) := by decide +kernel
theorem dX11_cut_40 : decode cX11_cut 40 = .ok (.iconst 3, 1) := by decide +kernel
theorem dX11_cut_41 : decode cX11_cut 41 = .ok (.iadd, 1) := by decide +kernel
theorem dX11_cut_42 : decode cX11_cut 42 = .ok (.iload_n 2, 1) := by decide +kernel
theorem dX11_cut_43 : decode cX11_cut 43 = .ok (.iastore, 1) := by decide +kernel
theorem dX11_cut_44 : decode cX11_cut 44 = .ok (.iconst 1, 1) := by decide +kernel
theorem dX11_cut_45 : decode cX11_cut 45 = .ok (.ireturn, 1) := by decide +kernel
set_option maxRecDepth 20000 in
theorem ggX11_cut_X11_isMat : GoodIn wsX11_cut wsX11_isMat := goodIn_sub (List.forall_mem_cons.mpr ⟨List.mem_cons_of_mem _ (List.mem_append_left _ (List.mem_of_getElem? (i := 7) rfl)), (List.forall_mem_append.mpr ⟨(List.forall_mem_cons.mpr ⟨List.mem_cons_of_mem _ (List.mem_append_left _ (List.mem_of_getElem? (i := 8) rfl)), (List.forall_mem_cons.mpr ⟨List.mem_cons_of_mem _ (List.mem_append_left _ (List.mem_of_getElem? (i := 9) rfl)), (List.forall_mem_cons.mpr ⟨List.mem_cons_of_mem _ (List.mem_append_left _ (List.mem_of_getElem? (i := 10) rfl)), (List.forall_mem_cons.mpr ⟨List.mem_cons_of_mem _ (List.mem_append_left _ (List.mem_of_getElem? (i := 6) rfl)), (List.forall_mem_cons.mpr ⟨List.mem_cons_of_mem _ (List.mem_append_left _ (List.mem_of_getElem? (i := 11) rfl)), (List.forall_mem_cons.mpr ⟨List.mem_cons_of_mem _ (List.mem_append_left _ (List.mem_of_getElem? (i := 2) rfl)), (fun _ h => nomatch h)⟩)⟩)⟩)⟩)⟩)⟩), (fun _ h => List.mem_cons_of_mem _ (List.mem_append_right _ (h)))⟩)⟩) (by decide +kernel)
set_option maxRecDepth 20000 in
theorem gX11_cut_X11_isMat : GoodIn wsX11_cut (wsV RX11 69 RX11 yX11_isMat wsX11_isMat) := goodIn_app (goodIn_of _ (by decide +kernel)) ggX11_cut_X11_isMat
set_option maxRecDepth 20000 in
theorem ggX11_cut_X11_isIn : GoodIn wsX11_cut wsX11_isIn := goodIn_sub (List.forall_mem_cons.mpr ⟨List.mem_cons_of_mem _ (List.mem_append_left _ (List.mem_of_getElem? (i := 14) rfl)), (fun _ h => nomatch h)⟩) (by decide +kernel)
set_option maxRecDepth 20000 in
theorem gX11_cut_X11_isIn : GoodIn wsX11_cut (va_wsS RX11 52 yX11_isIn wsX11_isIn) := goodIn_app (goodIn_of _ (by decide +kernel)) ggX11_cut_X11_isIn
theorem kX11_cut_0 : (.fieldLink RX11 37 "RunDeskModel" "thrown" "I" : Cond) ∈ wsX11_cut := List.mem_of_getElem? (i := 1) (by decide +kernel)
theorem qX11_cut_X11 : ∀ w ∈ wsX110, w ∈ wsX11_cut := fun _ h => List.mem_cons_of_mem _ (List.mem_append_right _ (h))
theorem kX11_cut_2 : (.constant RX11 61 (40000) : Cond) ∈ wsX11_cut := List.mem_of_getElem? (i := 2) (by decide +kernel)
theorem kX11_cut_3 : (.fieldLink RX11 9 "RunDeskModel" "now" "[I" : Cond) ∈ wsX11_cut := List.mem_of_getElem? (i := 3) (by decide +kernel)
set_option maxHeartbeats 4000000 in
set_option maxRecDepth 100000 in
theorem mX11_cut (l : Launch) (D : va_G) (cB cI cZ : ClassId) (a_t : Nat) (a_t_now : Nat) (a_t_kept : Nat) (a_t_text : Nat) (a_t_passing : Nat) (a_t_order : Nat) (a_t_times : Nat) (t_thrown : Int32) (t_isKept : Int32) (t_length : Int32) (t_at : Int32) (t_fault : Int32) (t_open : Int32) (t_asked : Int32) (t_byGun : Int32) (t_prizeMost : Int32) (t_listed : Int32) (t_now : Nat → Int32) (sz : Nat) (x1 : Int32) (x2 : Int32) (b0 : Bool) (t_thrown' : Int32) (t_now' : Nat → Int32) (h : fX11_cut t_thrown t_now x1 x2 = some (b0, t_thrown', t_now')) : Met l yX11_cut wsX11_cut ({ frames := 2, cells := 0, slots := 0, locals := 41 } : Room) (va_Pc [.ref a_t, .int x1, .int x2] (zPre D (zT cB cI cZ) [(a_t, .inr (11, [.int t_thrown, .ref a_t_now, .ref a_t_kept, .int t_isKept, .ref a_t_text, .int t_length, .ref a_t_passing, .int t_at, .int t_fault, .int t_open, .int t_asked, .int t_byGun, .int t_prizeMost, .ref a_t_order, .ref a_t_times, .int t_listed])), (a_t_now, .inl (cI, 1562, .inl t_now))] sz)) (zQi (zb b0) D (zT cB cI cZ) [(a_t, .inr (11, [.int t_thrown', .ref a_t_now, .ref a_t_kept, .int t_isKept, .ref a_t_text, .int t_length, .ref a_t_passing, .int t_at, .int t_fault, .int t_open, .int t_asked, .int t_byGun, .int t_prizeMost, .ref a_t_order, .ref a_t_times, .int t_listed])), (a_t_now, .inl (cI, 1562, .inl t_now'))] (va_A [(a_t, .inr (11, [.int t_thrown, .ref a_t_now, .ref a_t_kept, .int t_isKept, .ref a_t_text, .int t_length, .ref a_t_passing, .int t_at, .int t_fault, .int t_open, .int t_asked, .int t_byGun, .int t_prizeMost, .ref a_t_order, .ref a_t_times, .int t_listed])), (a_t_now, .inl (cI, 1562, .inl t_now))] sz)) 0 0 (va_A [(a_t, .inr (11, [.int t_thrown, .ref a_t_now, .ref a_t_kept, .int t_isKept, .ref a_t_text, .int t_length, .ref a_t_passing, .int t_at, .int t_fault, .int t_open, .int t_asked, .int t_byGun, .int t_prizeMost, .ref a_t_order, .ref a_t_times, .int t_listed])), (a_t_now, .inl (cI, 1562, .inl t_now))] sz) := by
  refine Met.ofW (cc := cX11_cut) (maxL := 3) (ret := (some .boolean)) (by decide) rfl ?_
  intro p e s m args below meth c s₁ B hml hv
  obtain ⟨rfl, hsz, hP, hK, hN, hZ, hD0⟩ := hv
  have hx := B.exec
  have hb := B.bytes
  have hr := B.returns
  have hts := atoms_spec (ws := wsX11_cut) B.pre
  have hown : s.vm.findClass RX11 = some m.cls := findClass_of_methodNamed B.named
  have hlocks := B.notSynchronized
  subst hsz
  have hD := hD0.self (sz := s.heap.size)
  generalize hAe : va_A [(a_t, .inr (11, [.int t_thrown, .ref a_t_now, .ref a_t_kept, .int t_isKept, .ref a_t_text, .int t_length, .ref a_t_passing, .int t_at, .int t_fault, .int t_open, .int t_asked, .int t_byGun, .int t_prizeMost, .ref a_t_order, .ref a_t_times, .int t_listed])), (a_t_now, .inl (cI, 1562, .inl t_now))] s.heap.size = A at hD hZ ⊢
  have hA : ∀ q : Nat, s.heap.size ≤ q → A q := fun q h => by rw [← hAe]; exact Or.inr h
  have hS : va_S A s.heap s.heap [] := va_S.rf
  have hl := lv_entry ([.ref a_t, .int x1, .int x2]) (n := 3) (Nat.le_of_ble_eq_true rfl)
  rw [lg_entry_eq]
  generalize (lg_sl ([.ref a_t, .int x1, .int x2]) ++ List.replicate (3 - (lg_sl ([.ref a_t, .int x1, .int x2])).length) Slot.unset).toArray = ls at hl ⊢
  have hl : lv_has ls 3 [(0, .ref a_t), (1, .int x1), (2, .int x2)] := hl
  unfold fX11_cut at h
  refine lv_aload_n hx hb dX11_cut_0 rfl (lv_at hl 0 rfl) ?_
  refine lv_iconst (v := (nI 0)) hx hb dX11_cut_1 rfl ?_
  refine va_put (D := D) (ci := 11) (ty := .int) (C := RX11) (T := TX11) (N := 16) hx hb hts qX11_cut_X11 tyX11 tyX11_ok nmX11 hown hK hP hD hS 0 rfl rfl 0 (by decide) (hts _ kX11_cut_0) (fun _ h9 => h9) rfl (by decide +kernel) rfl (by first | rfl | exact zz_fit) (Nat.le_of_ble_eq_true rfl) dX11_cut_2 (fun H locs hP hD hS => ?_)
  have hP : va_P D vwCl [(a_t, .inr (11, [.int (nI 0), .ref a_t_now, .ref a_t_kept, .int t_isKept, .ref a_t_text, .int t_length, .ref a_t_passing, .int t_at, .int t_fault, .int t_open, .int t_asked, .int t_byGun, .int t_prizeMost, .ref a_t_order, .ref a_t_times, .int t_listed])), (a_t_now, .inl (cI, 1562, .inl t_now))] H := hP
  have hD : va_D A [(a_t, .inr (11, [.int (nI 0), .ref a_t_now, .ref a_t_kept, .int t_isKept, .ref a_t_text, .int t_length, .ref a_t_passing, .int t_at, .int t_fault, .int t_open, .int t_asked, .int t_byGun, .int t_prizeMost, .ref a_t_order, .ref a_t_times, .int t_listed])), (a_t_now, .inl (cI, 1562, .inl t_now))] := hD
  refine lv_aload_n hx hb dX11_cut_5 rfl (lv_at hl 0 rfl) ?_
  refine lv_iload_n hx hb dX11_cut_6 rfl (lv_at hl 1 rfl) ?_
  obtain ⟨b1, e2, h⟩ := zz_b h
  refine zVi (As := [.int x1]) (rest := []) (C := RX11) (wr := []) [0, 1] [] 0 ⟨hx, hb, hml, hown, hts⟩ (mX11_isMat l D cB cI cZ a_t a_t_now a_t_kept a_t_text a_t_passing a_t_order a_t_times (nI 0) t_isKept t_length t_at t_fault t_open t_asked t_byGun t_prizeMost t_listed t_now H.size x1 b1 e2) (cwV 1 hts gX11_cut_X11_isMat rfl rfl rfl (by decide +kernel) ⟨Nat.le_of_ble_eq_true rfl, Nat.le_of_ble_eq_true rfl⟩) hK hN hZ hP hD hS hA rfl rfl rfl rfl rfl rfl rfl rfl hl.1 rfl (lv_room (Nat.le_of_ble_eq_true rfl)) dX11_cut_7 ⟨Nat.le_of_ble_eq_true rfl, Nat.le_of_ble_eq_true rfl⟩ (fun H locs hP hD hS => ?_)
  have hP : va_P D vwCl [(a_t, .inr (11, [.int (nI 0), .ref a_t_now, .ref a_t_kept, .int t_isKept, .ref a_t_text, .int t_length, .ref a_t_passing, .int t_at, .int t_fault, .int t_open, .int t_asked, .int t_byGun, .int t_prizeMost, .ref a_t_order, .ref a_t_times, .int t_listed])), (a_t_now, .inl (cI, 1562, .inl t_now))] H := hP
  have hD : va_D A [(a_t, .inr (11, [.int (nI 0), .ref a_t_now, .ref a_t_kept, .int t_isKept, .ref a_t_text, .int t_length, .ref a_t_passing, .int t_at, .int t_fault, .int t_open, .int t_asked, .int t_byGun, .int t_prizeMost, .ref a_t_order, .ref a_t_times, .int t_listed])), (a_t_now, .inl (cI, 1562, .inl t_now))] := hD
  refine lv_if_eq (tgt := 28) hx hb dX11_cut_10 (by decide) (fun c3 => ?_) (fun c3 => ?_)
  · have h := zz_t h c3
    refine lv_iconst (v := (nI 0)) hx hb dX11_cut_28 rfl ?_
    obtain ⟨j0_, g_⟩ := Prod.mk.inj (Option.some.inj h)
    obtain ⟨j1_, g_⟩ := Prod.mk.inj g_
    have j2_ := g_
    subst j0_
    subst j1_
    subst j2_
    exact W.zret (v := (nI 0)) hx hb hr rfl (fun t ht hW => ⟨⟨_, (), rfl, rfl, zPost.of hP hD hK ht hW [0, 1] rfl rfl rfl⟩, hS.F ht⟩) hS.2.2 dX11_cut_29
  · have h := zz_f h c3
    refine lv_iload_n hx hb dX11_cut_13 rfl (lv_at hl 2 rfl) ?_
    refine lv_iconst (v := (-1 : Int32)) hx hb dX11_cut_14 rfl ?_
    refine lv_icmp_eq (tgt := 30) hx hb dX11_cut_15 (by decide) (fun c4 => ?_) (fun c4 => ?_)
    · have h := zz_t h c4
      refine lv_aload_n hx hb dX11_cut_30 rfl (lv_at hl 0 rfl) ?_
      refine va_get (D := D) (ci := 11) (C := RX11) (T := TX11) (N := 16) hx hb hts qX11_cut_X11 hown hK hP 0 rfl rfl 1 (by decide) (hts _ kX11_cut_3) (fun _ h9 => h9) rfl dX11_cut_31 ?_
      refine lv_bipush (v := (nI 8)) hx hb dX11_cut_34 rfl ?_
      refine lv_iconst (v := (nI 4)) hx hb dX11_cut_36 rfl ?_
      refine lv_iload_n hx hb dX11_cut_37 rfl (lv_at hl 1 rfl) ?_
      refine lv_imul hx hb dX11_cut_38 ?_
      refine lv_iadd hx hb dX11_cut_39 ?_
      refine lv_iconst (v := (nI 3)) hx hb dX11_cut_40 rfl ?_
      refine lv_iadd hx hb dX11_cut_41 ?_
      refine lv_iload_n hx hb dX11_cut_42 rfl (lv_at hl 2 rfl) ?_
      obtain ⟨i5, h⟩ := zz_i h
      refine va_iast hx hb hK hP hD hS 1 1 rfl rfl i5 dX11_cut_43 (fun H locs hP hD hS => ?_)
      have hP : va_P D vwCl [(a_t, .inr (11, [.int (nI 0), .ref a_t_now, .ref a_t_kept, .int t_isKept, .ref a_t_text, .int t_length, .ref a_t_passing, .int t_at, .int t_fault, .int t_open, .int t_asked, .int t_byGun, .int t_prizeMost, .ref a_t_order, .ref a_t_times, .int t_listed])), (a_t_now, .inl (cI, 1562, .inl (upd t_now ((((nI 8) + ((nI 4) * x1)) + (nI 3))).toNatClampNeg x2)))] H := hP
      have hD : va_D A [(a_t, .inr (11, [.int (nI 0), .ref a_t_now, .ref a_t_kept, .int t_isKept, .ref a_t_text, .int t_length, .ref a_t_passing, .int t_at, .int t_fault, .int t_open, .int t_asked, .int t_byGun, .int t_prizeMost, .ref a_t_order, .ref a_t_times, .int t_listed])), (a_t_now, .inl (cI, 1562, .inl (upd t_now ((((nI 8) + ((nI 4) * x1)) + (nI 3))).toNatClampNeg x2)))] := hD
      refine lv_iconst (v := (nI 1)) hx hb dX11_cut_44 rfl ?_
      obtain ⟨j0_, g_⟩ := Prod.mk.inj (Option.some.inj h)
      obtain ⟨j1_, g_⟩ := Prod.mk.inj g_
      have j2_ := g_
      subst j0_
      subst j1_
      subst j2_
      exact W.zret (v := (nI 1)) hx hb hr rfl (fun t ht hW => ⟨⟨_, (), rfl, rfl, zPost.of hP hD hK ht hW [0, 1] rfl rfl rfl⟩, hS.F ht⟩) hS.2.2 dX11_cut_45
    · have h := zz_f h c4
      refine lv_iload_n hx hb dX11_cut_18 rfl (lv_at hl 2 rfl) ?_
      refine lv_iconst (v := (nI 0)) hx hb dX11_cut_19 rfl ?_
      refine lv_ldc (v := (nI 40000)) hx hb hown (hts _ kX11_cut_2) dX11_cut_20 ?_
      obtain ⟨b6, e7, h⟩ := zz_b h
      refine zSi (As := [.int x2, .int (nI 0), .int (nI 40000)]) (rest := []) (wr := [(a_t, .inr (11, [.int (nI 0), .ref a_t_now, .ref a_t_kept, .int t_isKept, .ref a_t_text, .int t_length, .ref a_t_passing, .int t_at, .int t_fault, .int t_open, .int t_asked, .int t_byGun, .int t_prizeMost, .ref a_t_order, .ref a_t_times, .int t_listed])), (a_t_now, .inl (cI, 1562, .inl t_now))]) [] [0, 1] ⟨hx, hb, hml, hown, hts⟩ (mX11_isIn l D cB cI cZ H.size x2 (nI 0) (nI 40000) b6 e7) (va_cwS 3 hts gX11_cut_X11_isIn rfl rfl rfl (by decide +kernel) ⟨Nat.le_of_ble_eq_true rfl, Nat.le_of_ble_eq_true rfl⟩) hK hN hZ hP hD hS hA rfl rfl rfl rfl rfl rfl hl.1 rfl (lv_room (Nat.le_of_ble_eq_true rfl)) dX11_cut_22 ⟨Nat.le_of_ble_eq_true rfl, Nat.le_of_ble_eq_true rfl⟩ (fun H locs hP hD hS => ?_)
      have hP : va_P D vwCl [(a_t, .inr (11, [.int (nI 0), .ref a_t_now, .ref a_t_kept, .int t_isKept, .ref a_t_text, .int t_length, .ref a_t_passing, .int t_at, .int t_fault, .int t_open, .int t_asked, .int t_byGun, .int t_prizeMost, .ref a_t_order, .ref a_t_times, .int t_listed])), (a_t_now, .inl (cI, 1562, .inl t_now))] H := hP
      have hD : va_D A [(a_t, .inr (11, [.int (nI 0), .ref a_t_now, .ref a_t_kept, .int t_isKept, .ref a_t_text, .int t_length, .ref a_t_passing, .int t_at, .int t_fault, .int t_open, .int t_asked, .int t_byGun, .int t_prizeMost, .ref a_t_order, .ref a_t_times, .int t_listed])), (a_t_now, .inl (cI, 1562, .inl t_now))] := hD
      refine lv_if_ne (tgt := 30) hx hb dX11_cut_25 (by decide) (fun c8 => ?_) (fun c8 => ?_)
      · have h := zz_f h c8
        refine lv_aload_n hx hb dX11_cut_30 rfl (lv_at hl 0 rfl) ?_
        refine va_get (D := D) (ci := 11) (C := RX11) (T := TX11) (N := 16) hx hb hts qX11_cut_X11 hown hK hP 0 rfl rfl 1 (by decide) (hts _ kX11_cut_3) (fun _ h9 => h9) rfl dX11_cut_31 ?_
        refine lv_bipush (v := (nI 8)) hx hb dX11_cut_34 rfl ?_
        refine lv_iconst (v := (nI 4)) hx hb dX11_cut_36 rfl ?_
        refine lv_iload_n hx hb dX11_cut_37 rfl (lv_at hl 1 rfl) ?_
        refine lv_imul hx hb dX11_cut_38 ?_
        refine lv_iadd hx hb dX11_cut_39 ?_
        refine lv_iconst (v := (nI 3)) hx hb dX11_cut_40 rfl ?_
        refine lv_iadd hx hb dX11_cut_41 ?_
        refine lv_iload_n hx hb dX11_cut_42 rfl (lv_at hl 2 rfl) ?_
        obtain ⟨i9, h⟩ := zz_i h
        refine va_iast hx hb hK hP hD hS 1 1 rfl rfl i9 dX11_cut_43 (fun H locs hP hD hS => ?_)
        have hP : va_P D vwCl [(a_t, .inr (11, [.int (nI 0), .ref a_t_now, .ref a_t_kept, .int t_isKept, .ref a_t_text, .int t_length, .ref a_t_passing, .int t_at, .int t_fault, .int t_open, .int t_asked, .int t_byGun, .int t_prizeMost, .ref a_t_order, .ref a_t_times, .int t_listed])), (a_t_now, .inl (cI, 1562, .inl (upd t_now ((((nI 8) + ((nI 4) * x1)) + (nI 3))).toNatClampNeg x2)))] H := hP
        have hD : va_D A [(a_t, .inr (11, [.int (nI 0), .ref a_t_now, .ref a_t_kept, .int t_isKept, .ref a_t_text, .int t_length, .ref a_t_passing, .int t_at, .int t_fault, .int t_open, .int t_asked, .int t_byGun, .int t_prizeMost, .ref a_t_order, .ref a_t_times, .int t_listed])), (a_t_now, .inl (cI, 1562, .inl (upd t_now ((((nI 8) + ((nI 4) * x1)) + (nI 3))).toNatClampNeg x2)))] := hD
        refine lv_iconst (v := (nI 1)) hx hb dX11_cut_44 rfl ?_
        obtain ⟨j0_, g_⟩ := Prod.mk.inj (Option.some.inj h)
        obtain ⟨j1_, g_⟩ := Prod.mk.inj g_
        have j2_ := g_
        subst j0_
        subst j1_
        subst j2_
        exact W.zret (v := (nI 1)) hx hb hr rfl (fun t ht hW => ⟨⟨_, (), rfl, rfl, zPost.of hP hD hK ht hW [0, 1] rfl rfl rfl⟩, hS.F ht⟩) hS.2.2 dX11_cut_45
      · have h := zz_t h c8
        refine lv_iconst (v := (nI 0)) hx hb dX11_cut_28 rfl ?_
        obtain ⟨j0_, g_⟩ := Prod.mk.inj (Option.some.inj h)
        obtain ⟨j1_, g_⟩ := Prod.mk.inj g_
        have j2_ := g_
        subst j0_
        subst j1_
        subst j2_
        exact W.zret (v := (nI 0)) hx hb hr rfl (fun t ht hW => ⟨⟨_, (), rfl, rfl, zPost.of hP hD hK ht hW [0, 1] rfl rfl rfl⟩, hS.F ht⟩) hS.2.2 dX11_cut_29
/-! RunDeskModel.wave -/
theorem dX11_wave_0 : decode cX11_wave 0 = .ok (.aload_n 0, 1) := by decide +kernel
theorem dX11_wave_1 : decode cX11_wave 1 = .ok (.iload_n 1, 1) := by decide +kernel
theorem dX11_wave_2 : decode cX11_wave 2 = .ok (.invokevirtual 65, 3) := by decide +kernel
theorem dX11_wave_5 : decode cX11_wave 5 = .ok (.ifCond .ne 5, 3) := by decide +kernel
theorem dX11_wave_8 : decode cX11_wave 8 = .ok (.iconst 0, 1) := by decide +kernel
theorem dX11_wave_9 : decode cX11_wave 9 = .ok (.ireturn, 1) := by decide +kernel
theorem dX11_wave_10 : decode cX11_wave 10 = .ok (.aload_n 0, 1) := by decide +kernel
theorem dX11_wave_11 : decode cX11_wave 11 = .ok (.iload_n 1, 1) := by decide +kernel
theorem dX11_wave_12 : decode cX11_wave 12 = .ok (.bipush 7, 2) := by decide +kernel
theorem dX11_wave_14 : decode cX11_wave 14 = .ok (.iload_n 2, 1) := by decide +kernel
theorem dX11_wave_15 : decode cX11_wave 15 = .ok (.ifCond .eq 7, 3) := by decide +kernel
theorem dX11_wave_18 : decode cX11_wave 18 = .ok (.iconst 1, 1) := by decide +kernel
theorem dX11_wave_19 : decode cX11_wave 19 = .ok (.goto 4, 3) := by decide +kernel
theorem dX11_wave_22 : decode cX11_wave 22 = .ok (.iconst 0, 1) := by decide +kernel
theorem dX11_wave_23 : decode cX11_wave 23 = .ok (.invokevirtual 48, 3) := by decide +kernel
theorem dX11_wave_26 : decode cX11_wave 26 = .ok (.iconst 1, 1) := by decide +kernel
theorem dX11_wave_27 : decode cX11_wave 27 = .ok (.ireturn, 1) := by decide +kernel
set_option maxRecDepth 20000 in
theorem ggX11_wave_X11_isRunner : GoodIn wsX11_wave wsX11_isRunner := goodIn_sub (List.forall_mem_cons.mpr ⟨List.mem_cons_of_mem _ (List.mem_append_left _ (List.mem_of_getElem? (i := 4) rfl)), (List.forall_mem_append.mpr ⟨(List.forall_mem_cons.mpr ⟨List.mem_cons_of_mem _ (List.mem_append_left _ (List.mem_of_getElem? (i := 5) rfl)), (List.forall_mem_cons.mpr ⟨List.mem_cons_of_mem _ (List.mem_append_left _ (List.mem_of_getElem? (i := 6) rfl)), (List.forall_mem_cons.mpr ⟨List.mem_cons_of_mem _ (List.mem_append_left _ (List.mem_of_getElem? (i := 7) rfl)), (List.forall_mem_cons.mpr ⟨List.mem_cons_of_mem _ (List.mem_append_left _ (List.mem_of_getElem? (i := 8) rfl)), (List.forall_mem_cons.mpr ⟨List.mem_cons_of_mem _ (List.mem_append_left _ (List.mem_of_getElem? (i := 3) rfl)), (List.forall_mem_cons.mpr ⟨List.mem_cons_of_mem _ (List.mem_append_left _ (List.mem_of_getElem? (i := 9) rfl)), (List.forall_mem_cons.mpr ⟨List.mem_cons_of_mem _ (List.mem_append_left _ (List.mem_of_getElem? (i := 10) rfl)), (fun _ h => nomatch h)⟩)⟩)⟩)⟩)⟩)⟩)⟩), (fun _ h => List.mem_cons_of_mem _ (List.mem_append_right _ (h)))⟩)⟩) (by decide +kernel)
set_option maxRecDepth 20000 in
theorem gX11_wave_X11_isRunner : GoodIn wsX11_wave (wsV RX11 65 RX11 yX11_isRunner wsX11_isRunner) := goodIn_app (goodIn_of _ (by decide +kernel)) ggX11_wave_X11_isRunner
set_option maxRecDepth 20000 in
theorem ggX11_wave_X11_put : GoodIn wsX11_wave wsX11_put := goodIn_sub (List.forall_mem_cons.mpr ⟨List.mem_cons_of_mem _ (List.mem_append_left _ (List.mem_of_getElem? (i := 14) rfl)), (List.forall_mem_append.mpr ⟨(List.forall_mem_cons.mpr ⟨List.mem_cons_of_mem _ (List.mem_append_left _ (List.mem_of_getElem? (i := 10) rfl)), (fun _ h => nomatch h)⟩), (fun _ h => List.mem_cons_of_mem _ (List.mem_append_right _ (h)))⟩)⟩) (by decide +kernel)
set_option maxRecDepth 20000 in
theorem gX11_wave_X11_put : GoodIn wsX11_wave (wsV RX11 48 RX11 yX11_put wsX11_put) := goodIn_app (goodIn_of _ (by decide +kernel)) ggX11_wave_X11_put
set_option maxHeartbeats 4000000 in
set_option maxRecDepth 100000 in
theorem mX11_wave (l : Launch) (D : va_G) (cB cI cZ : ClassId) (a_t : Nat) (a_t_now : Nat) (a_t_kept : Nat) (a_t_text : Nat) (a_t_passing : Nat) (a_t_order : Nat) (a_t_times : Nat) (t_thrown : Int32) (t_isKept : Int32) (t_length : Int32) (t_at : Int32) (t_fault : Int32) (t_open : Int32) (t_asked : Int32) (t_byGun : Int32) (t_prizeMost : Int32) (t_listed : Int32) (t_now : Nat → Int32) (sz : Nat) (x1 : Int32) (x2 : Int32) (b0 : Bool) (t_thrown' : Int32) (t_now' : Nat → Int32) (h : fX11_wave t_thrown t_now x1 x2 = some (b0, t_thrown', t_now')) : Met l yX11_wave wsX11_wave ({ frames := 2, cells := 0, slots := 0, locals := 41 } : Room) (va_Pc [.ref a_t, .int x1, .int x2] (zPre D (zT cB cI cZ) [(a_t, .inr (11, [.int t_thrown, .ref a_t_now, .ref a_t_kept, .int t_isKept, .ref a_t_text, .int t_length, .ref a_t_passing, .int t_at, .int t_fault, .int t_open, .int t_asked, .int t_byGun, .int t_prizeMost, .ref a_t_order, .ref a_t_times, .int t_listed])), (a_t_now, .inl (cI, 1562, .inl t_now))] sz)) (zQi (zb b0) D (zT cB cI cZ) [(a_t, .inr (11, [.int t_thrown', .ref a_t_now, .ref a_t_kept, .int t_isKept, .ref a_t_text, .int t_length, .ref a_t_passing, .int t_at, .int t_fault, .int t_open, .int t_asked, .int t_byGun, .int t_prizeMost, .ref a_t_order, .ref a_t_times, .int t_listed])), (a_t_now, .inl (cI, 1562, .inl t_now'))] (va_A [(a_t, .inr (11, [.int t_thrown, .ref a_t_now, .ref a_t_kept, .int t_isKept, .ref a_t_text, .int t_length, .ref a_t_passing, .int t_at, .int t_fault, .int t_open, .int t_asked, .int t_byGun, .int t_prizeMost, .ref a_t_order, .ref a_t_times, .int t_listed])), (a_t_now, .inl (cI, 1562, .inl t_now))] sz)) 0 0 (va_A [(a_t, .inr (11, [.int t_thrown, .ref a_t_now, .ref a_t_kept, .int t_isKept, .ref a_t_text, .int t_length, .ref a_t_passing, .int t_at, .int t_fault, .int t_open, .int t_asked, .int t_byGun, .int t_prizeMost, .ref a_t_order, .ref a_t_times, .int t_listed])), (a_t_now, .inl (cI, 1562, .inl t_now))] sz) := by
  refine Met.ofW (cc := cX11_wave) (maxL := 3) (ret := (some .boolean)) (by decide) rfl ?_
  intro p e s m args below meth c s₁ B hml hv
  obtain ⟨rfl, hsz, hP, hK, hN, hZ, hD0⟩ := hv
  have hx := B.exec
  have hb := B.bytes
  have hr := B.returns
  have hts := atoms_spec (ws := wsX11_wave) B.pre
  have hown : s.vm.findClass RX11 = some m.cls := findClass_of_methodNamed B.named
  have hlocks := B.notSynchronized
  subst hsz
  have hD := hD0.self (sz := s.heap.size)
  generalize hAe : va_A [(a_t, .inr (11, [.int t_thrown, .ref a_t_now, .ref a_t_kept, .int t_isKept, .ref a_t_text, .int t_length, .ref a_t_passing, .int t_at, .int t_fault, .int t_open, .int t_asked, .int t_byGun, .int t_prizeMost, .ref a_t_order, .ref a_t_times, .int t_listed])), (a_t_now, .inl (cI, 1562, .inl t_now))] s.heap.size = A at hD hZ ⊢
  have hA : ∀ q : Nat, s.heap.size ≤ q → A q := fun q h => by rw [← hAe]; exact Or.inr h
  have hS : va_S A s.heap s.heap [] := va_S.rf
  have hl := lv_entry ([.ref a_t, .int x1, .int x2]) (n := 3) (Nat.le_of_ble_eq_true rfl)
  rw [lg_entry_eq]
  generalize (lg_sl ([.ref a_t, .int x1, .int x2]) ++ List.replicate (3 - (lg_sl ([.ref a_t, .int x1, .int x2])).length) Slot.unset).toArray = ls at hl ⊢
  have hl : lv_has ls 3 [(0, .ref a_t), (1, .int x1), (2, .int x2)] := hl
  unfold fX11_wave at h
  refine lv_aload_n hx hb dX11_wave_0 rfl (lv_at hl 0 rfl) ?_
  refine lv_iload_n hx hb dX11_wave_1 rfl (lv_at hl 1 rfl) ?_
  obtain ⟨⟨b1, t_thrown_r2⟩, e3, h⟩ := zz_b h
  dsimp only at h
  refine zVi (As := [.int x1]) (rest := []) (C := RX11) (wr := []) [0, 1] [] 0 ⟨hx, hb, hml, hown, hts⟩ (mX11_isRunner l D cB cI cZ a_t a_t_now a_t_kept a_t_text a_t_passing a_t_order a_t_times t_thrown t_isKept t_length t_at t_fault t_open t_asked t_byGun t_prizeMost t_listed t_now s.heap.size x1 b1 t_thrown_r2 e3) (cwV 1 hts gX11_wave_X11_isRunner rfl rfl rfl (by decide +kernel) ⟨Nat.le_of_ble_eq_true rfl, Nat.le_of_ble_eq_true rfl⟩) hK hN hZ hP hD hS hA rfl rfl rfl rfl rfl rfl rfl rfl hl.1 rfl (lv_room (Nat.le_of_ble_eq_true rfl)) dX11_wave_2 ⟨Nat.le_of_ble_eq_true rfl, Nat.le_of_ble_eq_true rfl⟩ (fun H locs hP hD hS => ?_)
  have hP : va_P D vwCl [(a_t, .inr (11, [.int t_thrown_r2, .ref a_t_now, .ref a_t_kept, .int t_isKept, .ref a_t_text, .int t_length, .ref a_t_passing, .int t_at, .int t_fault, .int t_open, .int t_asked, .int t_byGun, .int t_prizeMost, .ref a_t_order, .ref a_t_times, .int t_listed])), (a_t_now, .inl (cI, 1562, .inl t_now))] H := hP
  have hD : va_D A [(a_t, .inr (11, [.int t_thrown_r2, .ref a_t_now, .ref a_t_kept, .int t_isKept, .ref a_t_text, .int t_length, .ref a_t_passing, .int t_at, .int t_fault, .int t_open, .int t_asked, .int t_byGun, .int t_prizeMost, .ref a_t_order, .ref a_t_times, .int t_listed])), (a_t_now, .inl (cI, 1562, .inl t_now))] := hD
  refine lv_if_ne (tgt := 10) hx hb dX11_wave_5 (by decide) (fun c4 => ?_) (fun c4 => ?_)
  · have h := zz_f h c4
    refine lv_aload_n hx hb dX11_wave_10 rfl (lv_at hl 0 rfl) ?_
    refine lv_iload_n hx hb dX11_wave_11 rfl (lv_at hl 1 rfl) ?_
    refine lv_bipush (v := (nI 7)) hx hb dX11_wave_12 rfl ?_
    refine lv_iload_n hx hb dX11_wave_14 rfl (lv_at hl 2 rfl) ?_
    refine lv_if_eq (tgt := 22) hx hb dX11_wave_15 (by decide) (fun c5 => ?_) (fun c5 => ?_)
    · have h := zz_t h c5
      refine lv_iconst (v := (nI 0)) hx hb dX11_wave_22 rfl ?_
      obtain ⟨t_now_r6, e7, h⟩ := zz_b h
      refine zVv (As := [.int x1, .int (nI 7), .int (nI 0)]) (rest := []) (C := RX11) (wr := []) [0, 1] [] 0 ⟨hx, hb, hml, hown, hts⟩ (mX11_put l D cB cI cZ a_t a_t_now a_t_kept a_t_text a_t_passing a_t_order a_t_times t_thrown_r2 t_isKept t_length t_at t_fault t_open t_asked t_byGun t_prizeMost t_listed t_now H.size x1 (nI 7) (nI 0) t_now_r6 e7) (cwV 3 hts gX11_wave_X11_put rfl rfl rfl (by decide +kernel) ⟨Nat.le_of_ble_eq_true rfl, Nat.le_of_ble_eq_true rfl⟩) hK hN hZ hP hD hS hA rfl rfl rfl rfl rfl rfl rfl rfl hl.1 rfl (lv_room (Nat.le_of_ble_eq_true rfl)) dX11_wave_23 ⟨Nat.le_of_ble_eq_true rfl, Nat.le_of_ble_eq_true rfl⟩ (fun H locs hP hD hS => ?_)
      have hP : va_P D vwCl [(a_t, .inr (11, [.int t_thrown_r2, .ref a_t_now, .ref a_t_kept, .int t_isKept, .ref a_t_text, .int t_length, .ref a_t_passing, .int t_at, .int t_fault, .int t_open, .int t_asked, .int t_byGun, .int t_prizeMost, .ref a_t_order, .ref a_t_times, .int t_listed])), (a_t_now, .inl (cI, 1562, .inl t_now_r6))] H := hP
      have hD : va_D A [(a_t, .inr (11, [.int t_thrown_r2, .ref a_t_now, .ref a_t_kept, .int t_isKept, .ref a_t_text, .int t_length, .ref a_t_passing, .int t_at, .int t_fault, .int t_open, .int t_asked, .int t_byGun, .int t_prizeMost, .ref a_t_order, .ref a_t_times, .int t_listed])), (a_t_now, .inl (cI, 1562, .inl t_now_r6))] := hD
      refine lv_iconst (v := (nI 1)) hx hb dX11_wave_26 rfl ?_
      obtain ⟨j0_, g_⟩ := Prod.mk.inj (Option.some.inj h)
      obtain ⟨j1_, g_⟩ := Prod.mk.inj g_
      have j2_ := g_
      subst j0_
      subst j1_
      subst j2_
      exact W.zret (v := (nI 1)) hx hb hr rfl (fun t ht hW => ⟨⟨_, (), rfl, rfl, zPost.of hP hD hK ht hW [0, 1] rfl rfl rfl⟩, hS.F ht⟩) hS.2.2 dX11_wave_27
    · have h := zz_f h c5
      refine lv_iconst (v := (nI 1)) hx hb dX11_wave_18 rfl ?_
      refine lv_goto (tgt := 23) hx hb dX11_wave_19 (by decide) ?_
      obtain ⟨t_now_r8, e9, h⟩ := zz_b h
      refine zVv (As := [.int x1, .int (nI 7), .int (nI 1)]) (rest := []) (C := RX11) (wr := []) [0, 1] [] 0 ⟨hx, hb, hml, hown, hts⟩ (mX11_put l D cB cI cZ a_t a_t_now a_t_kept a_t_text a_t_passing a_t_order a_t_times t_thrown_r2 t_isKept t_length t_at t_fault t_open t_asked t_byGun t_prizeMost t_listed t_now H.size x1 (nI 7) (nI 1) t_now_r8 e9) (cwV 3 hts gX11_wave_X11_put rfl rfl rfl (by decide +kernel) ⟨Nat.le_of_ble_eq_true rfl, Nat.le_of_ble_eq_true rfl⟩) hK hN hZ hP hD hS hA rfl rfl rfl rfl rfl rfl rfl rfl hl.1 rfl (lv_room (Nat.le_of_ble_eq_true rfl)) dX11_wave_23 ⟨Nat.le_of_ble_eq_true rfl, Nat.le_of_ble_eq_true rfl⟩ (fun H locs hP hD hS => ?_)
      have hP : va_P D vwCl [(a_t, .inr (11, [.int t_thrown_r2, .ref a_t_now, .ref a_t_kept, .int t_isKept, .ref a_t_text, .int t_length, .ref a_t_passing, .int t_at, .int t_fault, .int t_open, .int t_asked, .int t_byGun, .int t_prizeMost, .ref a_t_order, .ref a_t_times, .int t_listed])), (a_t_now, .inl (cI, 1562, .inl t_now_r8))] H := hP
      have hD : va_D A [(a_t, .inr (11, [.int t_thrown_r2, .ref a_t_now, .ref a_t_kept, .int t_isKept, .ref a_t_text, .int t_length, .ref a_t_passing, .int t_at, .int t_fault, .int t_open, .int t_asked, .int t_byGun, .int t_prizeMost, .ref a_t_order, .ref a_t_times, .int t_listed])), (a_t_now, .inl (cI, 1562, .inl t_now_r8))] := hD
      refine lv_iconst (v := (nI 1)) hx hb dX11_wave_26 rfl ?_
      obtain ⟨j0_, g_⟩ := Prod.mk.inj (Option.some.inj h)
      obtain ⟨j1_, g_⟩ := Prod.mk.inj g_
      have j2_ := g_
      subst j0_
      subst j1_
      subst j2_
      exact W.zret (v := (nI 1)) hx hb hr rfl (fun t ht hW => ⟨⟨_, (), rfl, rfl, zPost.of hP hD hK ht hW [0, 1] rfl rfl rfl⟩, hS.F ht⟩) hS.2.2 dX11_wave_27
  · have h := zz_t h c4
    refine lv_iconst (v := (nI 0)) hx hb dX11_wave_8 rfl ?_
    obtain ⟨j0_, g_⟩ := Prod.mk.inj (Option.some.inj h)
    obtain ⟨j1_, g_⟩ := Prod.mk.inj g_
    have j2_ := g_
    subst j0_
    subst j1_
    subst j2_
    exact W.zret (v := (nI 0)) hx hb hr rfl (fun t ht hW => ⟨⟨_, (), rfl, rfl, zPost.of hP hD hK ht hW [0, 1] rfl rfl rfl⟩, hS.F ht⟩) hS.2.2 dX11_wave_9
/-! RunDeskModel.strike -/
theorem dX11_strike_0 : decode cX11_strike 0 = .ok (.aload_n 0, 1) := by decide +kernel
theorem dX11_strike_1 : decode cX11_strike 1 = .ok (.iload_n 1, 1) := by decide +kernel
theorem dX11_strike_2 : decode cX11_strike 2 = .ok (.invokevirtual 65, 3) := by decide +kernel
theorem dX11_strike_5 : decode cX11_strike 5 = .ok (.ifCond .eq 14, 3) := by decide +kernel
theorem dX11_strike_8 : decode cX11_strike 8 = .ok (.aload_n 0, 1) := by decide +kernel
theorem dX11_strike_9 : decode cX11_strike 9 = .ok (.iload_n 1, 1) := by decide +kernel
theorem dX11_strike_10 : decode cX11_strike 10 = .ok (.bipush 8, 2) := by decide +kernel
theorem dX11_strike_12 : decode cX11_strike 12 = .ok (.invokevirtual 62, 3) := by decide +kernel
theorem dX11_strike_15 : decode cX11_strike 15 = .ok (.iconst 1, 1) := by decide +kernel
theorem dX11_strike_16 : decode cX11_strike 16 = .ok (.if_icmp .ne 5, 3) := by decide +kernel
theorem dX11_strike_19 : decode cX11_strike 19 = .ok (.iconst 0, 1) := by decide +kernel
theorem dX11_strike_20 : decode cX11_strike 20 = .ok (.ireturn, 1) := by decide +kernel
theorem dX11_strike_21 : decode cX11_strike 21 = .ok (.aload_n 0, 1) := by decide +kernel
theorem dX11_strike_22 : decode cX11_strike 22 = .ok (.iload_n 1, 1) := by decide +kernel
theorem dX11_strike_23 : decode cX11_strike 23 = .ok (.bipush 8, 2) := by decide +kernel
theorem dX11_strike_25 : decode cX11_strike 25 = .ok (.iconst 1, 1) := by decide +kernel
theorem dX11_strike_26 : decode cX11_strike 26 = .ok (.invokevirtual 48, 3) := by decide +kernel
theorem dX11_strike_29 : decode cX11_strike 29 = .ok (.aload_n 0, 1) := by decide +kernel
theorem dX11_strike_30 : decode cX11_strike 30 = .ok (.getfield 9, 3) := by decide +kernel
theorem dX11_strike_33 : decode cX11_strike 33 = .ok (.bipush 62, 2) := by decide +kernel
theorem dX11_strike_35 : decode cX11_strike 35 = .ok (.aload_n 0, 1) := by decide +kernel
theorem dX11_strike_36 : decode cX11_strike 36 = .ok (.getfield 9, 3) := by decide +kernel
theorem dX11_strike_39 : decode cX11_strike 39 = .ok (.iconst 2, 1) := by decide +kernel
theorem dX11_strike_40 : decode cX11_strike 40 = .ok (.iaload, 1) := by decide +kernel
theorem dX11_strike_41 : decode cX11_strike 41 = .ok (.iadd, 1) := by decide +kernel
theorem dX11_strike_42 : decode cX11_strike 42 = .ok (.iload_n 1, 1) := by decide +kernel
theorem dX11_strike_43 : decode cX11_strike 43 = .ok (.iastore, 1) := by decide +kernel
theorem dX11_strike_44 : decode cX11_strike 44 = .ok (.aload_n 0, 1) := by decide +kernel
theorem dX11_strike_45 : decode cX11_strike 45 = .ok (.getfield 9, 3) := by decide +kernel
theorem dX11_strike_48 : decode cX11_strike 48 = .ok (.iconst 2, 1) := by decide +kernel
theorem dX11_strike_49 : decode cX11_strike 49 = .ok (.dup2, 1) := by decide +kernel
theorem dX11_strike_50 : decode cX11_strike 50 = .ok (.iaload, 1) := by decide +kernel
theorem dX11_strike_51 : decode cX11_strike 51 = .ok (.iconst 1, 1) := by decide +kernel
theorem dX11_strike_52 : decode cX11_strike 52 = .ok (.iadd, 1) := by decide +kernel
theorem dX11_strike_53 : decode cX11_strike 53 = .ok (.iastore, 1) := by decide +kernel
theorem dX11_strike_54 : decode cX11_strike 54 = .ok (.iconst 1, 1) := by decide +kernel
theorem dX11_strike_55 : decode cX11_strike 55 = .ok (.ireturn, 1) := by decide +kernel
set_option maxRecDepth 20000 in
theorem ggX11_strike_X11_isRunner : GoodIn wsX11_strike wsX11_isRunner := goodIn_sub (List.forall_mem_cons.mpr ⟨List.mem_cons_of_mem _ (List.mem_append_left _ (List.mem_of_getElem? (i := 5) rfl)), (List.forall_mem_append.mpr ⟨(List.forall_mem_cons.mpr ⟨List.mem_cons_of_mem _ (List.mem_append_left _ (List.mem_of_getElem? (i := 6) rfl)), (List.forall_mem_cons.mpr ⟨List.mem_cons_of_mem _ (List.mem_append_left _ (List.mem_of_getElem? (i := 7) rfl)), (List.forall_mem_cons.mpr ⟨List.mem_cons_of_mem _ (List.mem_append_left _ (List.mem_of_getElem? (i := 8) rfl)), (List.forall_mem_cons.mpr ⟨List.mem_cons_of_mem _ (List.mem_append_left _ (List.mem_of_getElem? (i := 9) rfl)), (List.forall_mem_cons.mpr ⟨List.mem_cons_of_mem _ (List.mem_append_left _ (List.mem_of_getElem? (i := 4) rfl)), (List.forall_mem_cons.mpr ⟨List.mem_cons_of_mem _ (List.mem_append_left _ (List.mem_of_getElem? (i := 10) rfl)), (List.forall_mem_cons.mpr ⟨List.mem_cons_of_mem _ (List.mem_append_left _ (List.mem_of_getElem? (i := 0) rfl)), (fun _ h => nomatch h)⟩)⟩)⟩)⟩)⟩)⟩)⟩), (fun _ h => List.mem_cons_of_mem _ (List.mem_append_right _ (h)))⟩)⟩) (by decide +kernel)
set_option maxRecDepth 20000 in
theorem gX11_strike_X11_isRunner : GoodIn wsX11_strike (wsV RX11 65 RX11 yX11_isRunner wsX11_isRunner) := goodIn_app (goodIn_of _ (by decide +kernel)) ggX11_strike_X11_isRunner
set_option maxRecDepth 20000 in
theorem ggX11_strike_X11_of : GoodIn wsX11_strike wsX11_of := goodIn_sub (List.forall_mem_cons.mpr ⟨List.mem_cons_of_mem _ (List.mem_append_left _ (List.mem_of_getElem? (i := 14) rfl)), (List.forall_mem_append.mpr ⟨(List.forall_mem_cons.mpr ⟨List.mem_cons_of_mem _ (List.mem_append_left _ (List.mem_of_getElem? (i := 0) rfl)), (fun _ h => nomatch h)⟩), (fun _ h => List.mem_cons_of_mem _ (List.mem_append_right _ (h)))⟩)⟩) (by decide +kernel)
set_option maxRecDepth 20000 in
theorem gX11_strike_X11_of : GoodIn wsX11_strike (wsV RX11 62 RX11 yX11_of wsX11_of) := goodIn_app (goodIn_of _ (by decide +kernel)) ggX11_strike_X11_of
set_option maxRecDepth 20000 in
theorem ggX11_strike_X11_put : GoodIn wsX11_strike wsX11_put := goodIn_sub (List.forall_mem_cons.mpr ⟨List.mem_cons_of_mem _ (List.mem_append_left _ (List.mem_of_getElem? (i := 18) rfl)), (List.forall_mem_append.mpr ⟨(List.forall_mem_cons.mpr ⟨List.mem_cons_of_mem _ (List.mem_append_left _ (List.mem_of_getElem? (i := 0) rfl)), (fun _ h => nomatch h)⟩), (fun _ h => List.mem_cons_of_mem _ (List.mem_append_right _ (h)))⟩)⟩) (by decide +kernel)
set_option maxRecDepth 20000 in
theorem gX11_strike_X11_put : GoodIn wsX11_strike (wsV RX11 48 RX11 yX11_put wsX11_put) := goodIn_app (goodIn_of _ (by decide +kernel)) ggX11_strike_X11_put
theorem kX11_strike_0 : (.fieldLink RX11 9 "RunDeskModel" "now" "[I" : Cond) ∈ wsX11_strike := List.mem_of_getElem? (i := 1) (by decide +kernel)
theorem qX11_strike_X11 : ∀ w ∈ wsX110, w ∈ wsX11_strike := fun _ h => List.mem_cons_of_mem _ (List.mem_append_right _ (h))
set_option maxHeartbeats 4000000 in
set_option maxRecDepth 100000 in
theorem mX11_strike (l : Launch) (D : va_G) (cB cI cZ : ClassId) (a_t : Nat) (a_t_now : Nat) (a_t_kept : Nat) (a_t_text : Nat) (a_t_passing : Nat) (a_t_order : Nat) (a_t_times : Nat) (t_thrown : Int32) (t_isKept : Int32) (t_length : Int32) (t_at : Int32) (t_fault : Int32) (t_open : Int32) (t_asked : Int32) (t_byGun : Int32) (t_prizeMost : Int32) (t_listed : Int32) (t_now : Nat → Int32) (sz : Nat) (x1 : Int32) (b0 : Bool) (t_thrown' : Int32) (t_now' : Nat → Int32) (h : fX11_strike t_thrown t_now x1 = some (b0, t_thrown', t_now')) : Met l yX11_strike wsX11_strike ({ frames := 2, cells := 0, slots := 0, locals := 41 } : Room) (va_Pc [.ref a_t, .int x1] (zPre D (zT cB cI cZ) [(a_t, .inr (11, [.int t_thrown, .ref a_t_now, .ref a_t_kept, .int t_isKept, .ref a_t_text, .int t_length, .ref a_t_passing, .int t_at, .int t_fault, .int t_open, .int t_asked, .int t_byGun, .int t_prizeMost, .ref a_t_order, .ref a_t_times, .int t_listed])), (a_t_now, .inl (cI, 1562, .inl t_now))] sz)) (zQi (zb b0) D (zT cB cI cZ) [(a_t, .inr (11, [.int t_thrown', .ref a_t_now, .ref a_t_kept, .int t_isKept, .ref a_t_text, .int t_length, .ref a_t_passing, .int t_at, .int t_fault, .int t_open, .int t_asked, .int t_byGun, .int t_prizeMost, .ref a_t_order, .ref a_t_times, .int t_listed])), (a_t_now, .inl (cI, 1562, .inl t_now'))] (va_A [(a_t, .inr (11, [.int t_thrown, .ref a_t_now, .ref a_t_kept, .int t_isKept, .ref a_t_text, .int t_length, .ref a_t_passing, .int t_at, .int t_fault, .int t_open, .int t_asked, .int t_byGun, .int t_prizeMost, .ref a_t_order, .ref a_t_times, .int t_listed])), (a_t_now, .inl (cI, 1562, .inl t_now))] sz)) 0 0 (va_A [(a_t, .inr (11, [.int t_thrown, .ref a_t_now, .ref a_t_kept, .int t_isKept, .ref a_t_text, .int t_length, .ref a_t_passing, .int t_at, .int t_fault, .int t_open, .int t_asked, .int t_byGun, .int t_prizeMost, .ref a_t_order, .ref a_t_times, .int t_listed])), (a_t_now, .inl (cI, 1562, .inl t_now))] sz) := by
  refine Met.ofW (cc := cX11_strike) (maxL := 2) (ret := (some .boolean)) (by decide) rfl ?_
  intro p e s m args below meth c s₁ B hml hv
  obtain ⟨rfl, hsz, hP, hK, hN, hZ, hD0⟩ := hv
  have hx := B.exec
  have hb := B.bytes
  have hr := B.returns
  have hts := atoms_spec (ws := wsX11_strike) B.pre
  have hown : s.vm.findClass RX11 = some m.cls := findClass_of_methodNamed B.named
  have hlocks := B.notSynchronized
  subst hsz
  have hD := hD0.self (sz := s.heap.size)
  generalize hAe : va_A [(a_t, .inr (11, [.int t_thrown, .ref a_t_now, .ref a_t_kept, .int t_isKept, .ref a_t_text, .int t_length, .ref a_t_passing, .int t_at, .int t_fault, .int t_open, .int t_asked, .int t_byGun, .int t_prizeMost, .ref a_t_order, .ref a_t_times, .int t_listed])), (a_t_now, .inl (cI, 1562, .inl t_now))] s.heap.size = A at hD hZ ⊢
  have hA : ∀ q : Nat, s.heap.size ≤ q → A q := fun q h => by rw [← hAe]; exact Or.inr h
  have hS : va_S A s.heap s.heap [] := va_S.rf
  have hl := lv_entry ([.ref a_t, .int x1]) (n := 2) (Nat.le_of_ble_eq_true rfl)
  rw [lg_entry_eq]
  generalize (lg_sl ([.ref a_t, .int x1]) ++ List.replicate (2 - (lg_sl ([.ref a_t, .int x1])).length) Slot.unset).toArray = ls at hl ⊢
  have hl : lv_has ls 2 [(0, .ref a_t), (1, .int x1)] := hl
  unfold fX11_strike at h
  refine lv_aload_n hx hb dX11_strike_0 rfl (lv_at hl 0 rfl) ?_
  refine lv_iload_n hx hb dX11_strike_1 rfl (lv_at hl 1 rfl) ?_
  obtain ⟨⟨b1, t_thrown_r2⟩, e3, h⟩ := zz_b h
  dsimp only at h
  refine zVi (As := [.int x1]) (rest := []) (C := RX11) (wr := []) [0, 1] [] 0 ⟨hx, hb, hml, hown, hts⟩ (mX11_isRunner l D cB cI cZ a_t a_t_now a_t_kept a_t_text a_t_passing a_t_order a_t_times t_thrown t_isKept t_length t_at t_fault t_open t_asked t_byGun t_prizeMost t_listed t_now s.heap.size x1 b1 t_thrown_r2 e3) (cwV 1 hts gX11_strike_X11_isRunner rfl rfl rfl (by decide +kernel) ⟨Nat.le_of_ble_eq_true rfl, Nat.le_of_ble_eq_true rfl⟩) hK hN hZ hP hD hS hA rfl rfl rfl rfl rfl rfl rfl rfl hl.1 rfl (lv_room (Nat.le_of_ble_eq_true rfl)) dX11_strike_2 ⟨Nat.le_of_ble_eq_true rfl, Nat.le_of_ble_eq_true rfl⟩ (fun H locs hP hD hS => ?_)
  have hP : va_P D vwCl [(a_t, .inr (11, [.int t_thrown_r2, .ref a_t_now, .ref a_t_kept, .int t_isKept, .ref a_t_text, .int t_length, .ref a_t_passing, .int t_at, .int t_fault, .int t_open, .int t_asked, .int t_byGun, .int t_prizeMost, .ref a_t_order, .ref a_t_times, .int t_listed])), (a_t_now, .inl (cI, 1562, .inl t_now))] H := hP
  have hD : va_D A [(a_t, .inr (11, [.int t_thrown_r2, .ref a_t_now, .ref a_t_kept, .int t_isKept, .ref a_t_text, .int t_length, .ref a_t_passing, .int t_at, .int t_fault, .int t_open, .int t_asked, .int t_byGun, .int t_prizeMost, .ref a_t_order, .ref a_t_times, .int t_listed])), (a_t_now, .inl (cI, 1562, .inl t_now))] := hD
  refine lv_if_eq (tgt := 19) hx hb dX11_strike_5 (by decide) (fun c4 => ?_) (fun c4 => ?_)
  · have h := zz_t h c4
    refine lv_iconst (v := (nI 0)) hx hb dX11_strike_19 rfl ?_
    obtain ⟨j0_, g_⟩ := Prod.mk.inj (Option.some.inj h)
    obtain ⟨j1_, g_⟩ := Prod.mk.inj g_
    have j2_ := g_
    subst j0_
    subst j1_
    subst j2_
    exact W.zret (v := (nI 0)) hx hb hr rfl (fun t ht hW => ⟨⟨_, (), rfl, rfl, zPost.of hP hD hK ht hW [0, 1] rfl rfl rfl⟩, hS.F ht⟩) hS.2.2 dX11_strike_20
  · have h := zz_f h c4
    refine lv_aload_n hx hb dX11_strike_8 rfl (lv_at hl 0 rfl) ?_
    refine lv_iload_n hx hb dX11_strike_9 rfl (lv_at hl 1 rfl) ?_
    refine lv_bipush (v := (nI 8)) hx hb dX11_strike_10 rfl ?_
    obtain ⟨r5, e6, h⟩ := zz_b h
    refine zVi (As := [.int x1, .int (nI 8)]) (rest := []) (C := RX11) (wr := []) [0, 1] [] 0 ⟨hx, hb, hml, hown, hts⟩ (mX11_of l D cB cI cZ a_t a_t_now a_t_kept a_t_text a_t_passing a_t_order a_t_times t_thrown_r2 t_isKept t_length t_at t_fault t_open t_asked t_byGun t_prizeMost t_listed t_now H.size x1 (nI 8) r5 e6) (cwV 2 hts gX11_strike_X11_of rfl rfl rfl (by decide +kernel) ⟨Nat.le_of_ble_eq_true rfl, Nat.le_of_ble_eq_true rfl⟩) hK hN hZ hP hD hS hA rfl rfl rfl rfl rfl rfl rfl rfl hl.1 rfl (lv_room (Nat.le_of_ble_eq_true rfl)) dX11_strike_12 ⟨Nat.le_of_ble_eq_true rfl, Nat.le_of_ble_eq_true rfl⟩ (fun H locs hP hD hS => ?_)
    have hP : va_P D vwCl [(a_t, .inr (11, [.int t_thrown_r2, .ref a_t_now, .ref a_t_kept, .int t_isKept, .ref a_t_text, .int t_length, .ref a_t_passing, .int t_at, .int t_fault, .int t_open, .int t_asked, .int t_byGun, .int t_prizeMost, .ref a_t_order, .ref a_t_times, .int t_listed])), (a_t_now, .inl (cI, 1562, .inl t_now))] H := hP
    have hD : va_D A [(a_t, .inr (11, [.int t_thrown_r2, .ref a_t_now, .ref a_t_kept, .int t_isKept, .ref a_t_text, .int t_length, .ref a_t_passing, .int t_at, .int t_fault, .int t_open, .int t_asked, .int t_byGun, .int t_prizeMost, .ref a_t_order, .ref a_t_times, .int t_listed])), (a_t_now, .inl (cI, 1562, .inl t_now))] := hD
    refine lv_iconst (v := (nI 1)) hx hb dX11_strike_15 rfl ?_
    refine lv_icmp_ne (tgt := 21) hx hb dX11_strike_16 (by decide) (fun c7 => ?_) (fun c7 => ?_)
    · have h := zz_f h c7
      refine lv_aload_n hx hb dX11_strike_21 rfl (lv_at hl 0 rfl) ?_
      refine lv_iload_n hx hb dX11_strike_22 rfl (lv_at hl 1 rfl) ?_
      refine lv_bipush (v := (nI 8)) hx hb dX11_strike_23 rfl ?_
      refine lv_iconst (v := (nI 1)) hx hb dX11_strike_25 rfl ?_
      obtain ⟨t_now_r8, e9, h⟩ := zz_b h
      refine zVv (As := [.int x1, .int (nI 8), .int (nI 1)]) (rest := []) (C := RX11) (wr := []) [0, 1] [] 0 ⟨hx, hb, hml, hown, hts⟩ (mX11_put l D cB cI cZ a_t a_t_now a_t_kept a_t_text a_t_passing a_t_order a_t_times t_thrown_r2 t_isKept t_length t_at t_fault t_open t_asked t_byGun t_prizeMost t_listed t_now H.size x1 (nI 8) (nI 1) t_now_r8 e9) (cwV 3 hts gX11_strike_X11_put rfl rfl rfl (by decide +kernel) ⟨Nat.le_of_ble_eq_true rfl, Nat.le_of_ble_eq_true rfl⟩) hK hN hZ hP hD hS hA rfl rfl rfl rfl rfl rfl rfl rfl hl.1 rfl (lv_room (Nat.le_of_ble_eq_true rfl)) dX11_strike_26 ⟨Nat.le_of_ble_eq_true rfl, Nat.le_of_ble_eq_true rfl⟩ (fun H locs hP hD hS => ?_)
      have hP : va_P D vwCl [(a_t, .inr (11, [.int t_thrown_r2, .ref a_t_now, .ref a_t_kept, .int t_isKept, .ref a_t_text, .int t_length, .ref a_t_passing, .int t_at, .int t_fault, .int t_open, .int t_asked, .int t_byGun, .int t_prizeMost, .ref a_t_order, .ref a_t_times, .int t_listed])), (a_t_now, .inl (cI, 1562, .inl t_now_r8))] H := hP
      have hD : va_D A [(a_t, .inr (11, [.int t_thrown_r2, .ref a_t_now, .ref a_t_kept, .int t_isKept, .ref a_t_text, .int t_length, .ref a_t_passing, .int t_at, .int t_fault, .int t_open, .int t_asked, .int t_byGun, .int t_prizeMost, .ref a_t_order, .ref a_t_times, .int t_listed])), (a_t_now, .inl (cI, 1562, .inl t_now_r8))] := hD
      refine lv_aload_n hx hb dX11_strike_29 rfl (lv_at hl 0 rfl) ?_
      refine va_get (D := D) (ci := 11) (C := RX11) (T := TX11) (N := 16) hx hb hts qX11_strike_X11 hown hK hP 0 rfl rfl 1 (by decide) (hts _ kX11_strike_0) (fun _ h9 => h9) rfl dX11_strike_30 ?_
      refine lv_bipush (v := (nI 62)) hx hb dX11_strike_33 rfl ?_
      refine lv_aload_n hx hb dX11_strike_35 rfl (lv_at hl 0 rfl) ?_
      refine va_get (D := D) (ci := 11) (C := RX11) (T := TX11) (N := 16) hx hb hts qX11_strike_X11 hown hK hP 0 rfl rfl 1 (by decide) (hts _ kX11_strike_0) (fun _ h9 => h9) rfl dX11_strike_36 ?_
      refine lv_iconst (v := (nI 2)) hx hb dX11_strike_39 rfl ?_
      obtain ⟨i10, h⟩ := zz_i h
      refine va_iald hx hb hK hP 1 1 rfl rfl i10 dX11_strike_40 ?_
      refine lv_iadd hx hb dX11_strike_41 ?_
      refine lv_iload_n hx hb dX11_strike_42 rfl (lv_at hl 1 rfl) ?_
      obtain ⟨i11, h⟩ := zz_i h
      refine va_iast hx hb hK hP hD hS 1 1 rfl rfl i11 dX11_strike_43 (fun H locs hP hD hS => ?_)
      have hP : va_P D vwCl [(a_t, .inr (11, [.int t_thrown_r2, .ref a_t_now, .ref a_t_kept, .int t_isKept, .ref a_t_text, .int t_length, .ref a_t_passing, .int t_at, .int t_fault, .int t_open, .int t_asked, .int t_byGun, .int t_prizeMost, .ref a_t_order, .ref a_t_times, .int t_listed])), (a_t_now, .inl (cI, 1562, .inl (upd t_now_r8 (((nI 62) + (t_now_r8 ((nI 2)).toNatClampNeg))).toNatClampNeg x1)))] H := hP
      have hD : va_D A [(a_t, .inr (11, [.int t_thrown_r2, .ref a_t_now, .ref a_t_kept, .int t_isKept, .ref a_t_text, .int t_length, .ref a_t_passing, .int t_at, .int t_fault, .int t_open, .int t_asked, .int t_byGun, .int t_prizeMost, .ref a_t_order, .ref a_t_times, .int t_listed])), (a_t_now, .inl (cI, 1562, .inl (upd t_now_r8 (((nI 62) + (t_now_r8 ((nI 2)).toNatClampNeg))).toNatClampNeg x1)))] := hD
      refine lv_aload_n hx hb dX11_strike_44 rfl (lv_at hl 0 rfl) ?_
      refine va_get (D := D) (ci := 11) (C := RX11) (T := TX11) (N := 16) hx hb hts qX11_strike_X11 hown hK hP 0 rfl rfl 1 (by decide) (hts _ kX11_strike_0) (fun _ h9 => h9) rfl dX11_strike_45 ?_
      refine lv_iconst (v := (nI 2)) hx hb dX11_strike_48 rfl ?_
      refine lv_dup2_11 hx hb dX11_strike_49 rfl rfl ?_
      obtain ⟨i12, h⟩ := zz_i h
      refine va_iald hx hb hK hP 1 1 rfl rfl i12 dX11_strike_50 ?_
      refine lv_iconst (v := (nI 1)) hx hb dX11_strike_51 rfl ?_
      refine lv_iadd hx hb dX11_strike_52 ?_
      obtain ⟨i13, h⟩ := zz_i h
      refine va_iast hx hb hK hP hD hS 1 1 rfl rfl i13 dX11_strike_53 (fun H locs hP hD hS => ?_)
      have hP : va_P D vwCl [(a_t, .inr (11, [.int t_thrown_r2, .ref a_t_now, .ref a_t_kept, .int t_isKept, .ref a_t_text, .int t_length, .ref a_t_passing, .int t_at, .int t_fault, .int t_open, .int t_asked, .int t_byGun, .int t_prizeMost, .ref a_t_order, .ref a_t_times, .int t_listed])), (a_t_now, .inl (cI, 1562, .inl (upd (upd t_now_r8 (((nI 62) + (t_now_r8 ((nI 2)).toNatClampNeg))).toNatClampNeg x1) ((nI 2)).toNatClampNeg (((upd t_now_r8 (((nI 62) + (t_now_r8 ((nI 2)).toNatClampNeg))).toNatClampNeg x1) ((nI 2)).toNatClampNeg) + (nI 1)))))] H := hP
      have hD : va_D A [(a_t, .inr (11, [.int t_thrown_r2, .ref a_t_now, .ref a_t_kept, .int t_isKept, .ref a_t_text, .int t_length, .ref a_t_passing, .int t_at, .int t_fault, .int t_open, .int t_asked, .int t_byGun, .int t_prizeMost, .ref a_t_order, .ref a_t_times, .int t_listed])), (a_t_now, .inl (cI, 1562, .inl (upd (upd t_now_r8 (((nI 62) + (t_now_r8 ((nI 2)).toNatClampNeg))).toNatClampNeg x1) ((nI 2)).toNatClampNeg (((upd t_now_r8 (((nI 62) + (t_now_r8 ((nI 2)).toNatClampNeg))).toNatClampNeg x1) ((nI 2)).toNatClampNeg) + (nI 1)))))] := hD
      refine lv_iconst (v := (nI 1)) hx hb dX11_strike_54 rfl ?_
      obtain ⟨j0_, g_⟩ := Prod.mk.inj (Option.some.inj h)
      obtain ⟨j1_, g_⟩ := Prod.mk.inj g_
      have j2_ := g_
      subst j0_
      subst j1_
      subst j2_
      exact W.zret (v := (nI 1)) hx hb hr rfl (fun t ht hW => ⟨⟨_, (), rfl, rfl, zPost.of hP hD hK ht hW [0, 1] rfl rfl rfl⟩, hS.F ht⟩) hS.2.2 dX11_strike_55
    · have h := zz_t h c7
      refine lv_iconst (v := (nI 0)) hx hb dX11_strike_19 rfl ?_
      obtain ⟨j0_, g_⟩ := Prod.mk.inj (Option.some.inj h)
      obtain ⟨j1_, g_⟩ := Prod.mk.inj g_
      have j2_ := g_
      subst j0_
      subst j1_
      subst j2_
      exact W.zret (v := (nI 0)) hx hb hr rfl (fun t ht hW => ⟨⟨_, (), rfl, rfl, zPost.of hP hD hK ht hW [0, 1] rfl rfl rfl⟩, hS.F ht⟩) hS.2.2 dX11_strike_20
/-! RunDeskModel.pardon -/
theorem dX11_pardon_0 : decode cX11_pardon 0 = .ok (.aload_n 0, 1) := by decide +kernel
theorem dX11_pardon_1 : decode cX11_pardon 1 = .ok (.iconst 0, 1) := by decide +kernel
theorem dX11_pardon_2 : decode cX11_pardon 2 = .ok (.putfield 37, 3) := by decide +kernel
theorem dX11_pardon_5 : decode cX11_pardon 5 = .ok (.aload_n 0, 1) := by decide +kernel
theorem dX11_pardon_6 : decode cX11_pardon 6 = .ok (.getfield 9, 3) := by decide +kernel
theorem dX11_pardon_9 : decode cX11_pardon 9 = .ok (.iconst 2, 1) := by decide +kernel
theorem dX11_pardon_10 : decode cX11_pardon 10 = .ok (.iaload, 1) := by decide +kernel
theorem dX11_pardon_11 : decode cX11_pardon 11 = .ok (.ifCond .ne 5, 3) := by decide +kernel
theorem dX11_pardon_14 : decode cX11_pardon 14 = .ok (.iconst (-1), 1) := by decide +kernel
theorem dX11_pardon_15 : decode cX11_pardon 15 = .ok (.ireturn, 1) := by decide +kernel
theorem dX11_pardon_16 : decode cX11_pardon 16 = .ok (.aload_n 0, 1) := by decide +kernel
theorem dX11_pardon_17 : decode cX11_pardon 17 = .ok (.getfield 9, 3) := by decide +kernel
theorem dX11_pardon_20 : decode cX11_pardon 20 = .ok (.iconst 2, 1) := by decide +kernel
theorem dX11_pardon_21 : decode cX11_pardon 21 = .ok (.dup2, 1) := by decide +kernel
theorem dX11_pardon_22 : decode cX11_pardon 22 = .ok (.iaload, 1) := by decide +kernel
theorem dX11_pardon_23 : decode cX11_pardon 23 = .ok (.iconst 1, 1) := by decide +kernel
theorem dX11_pardon_24 : decode cX11_pardon 24 = .ok (.isub, 1) := by decide +kernel
theorem dX11_pardon_25 : decode cX11_pardon 25 = .ok (.iastore, 1) := by decide +kernel
theorem dX11_pardon_26 : decode cX11_pardon 26 = .ok (.aload_n 0, 1) := by decide +kernel
theorem dX11_pardon_27 : decode cX11_pardon 27 = .ok (.getfield 9, 3) := by decide +kernel
theorem dX11_pardon_30 : decode cX11_pardon 30 = .ok (.bipush 62, 2) := by decide +kernel
theorem dX11_pardon_32 : decode cX11_pardon 32 = .ok (.aload_n 0, 1) := by decide +kernel
theorem dX11_pardon_33 : decode cX11_pardon 33 = .ok (.getfield 9, 3) := by decide +kernel
theorem dX11_pardon_36 : decode cX11_pardon 36 = .ok (.iconst 2, 1) := by decide +kernel
theorem dX11_pardon_37 : decode cX11_pardon 37 = .ok (.iaload, 1) := by decide +kernel
theorem dX11_pardon_38 : decode cX11_pardon 38 = .ok (.iadd, 1) := by decide +kernel
theorem dX11_pardon_39 : decode cX11_pardon 39 = .ok (.iaload, 1) := by decide +kernel
theorem dX11_pardon_40 : decode cX11_pardon 40 = .ok (.istore_n 1, 1) := by decide +kernel
theorem dX11_pardon_41 : decode cX11_pardon 41 = .ok (.aload_n 0, 1) := by decide +kernel
theorem dX11_pardon_42 : decode cX11_pardon 42 = .ok (.iload_n 1, 1) := by decide +kernel
theorem dX11_pardon_43 : decode cX11_pardon 43 = .ok (.bipush 8, 2) := by decide +kernel
theorem dX11_pardon_45 : decode cX11_pardon 45 = .ok (.iconst 0, 1) := by decide +kernel
theorem dX11_pardon_46 : decode cX11_pardon 46 = .ok (.invokevirtual 48, 3) := by decide +kernel
theorem dX11_pardon_49 : decode cX11_pardon 49 = .ok (.iload_n 1, 1) := by decide +kernel
theorem dX11_pardon_50 : decode cX11_pardon 50 = .ok (.ireturn, 1) := by decide +kernel
set_option maxRecDepth 20000 in
theorem ggX11_pardon_X11_put : GoodIn wsX11_pardon wsX11_put := goodIn_sub (List.forall_mem_cons.mpr ⟨List.mem_cons_of_mem _ (List.mem_append_left _ (List.mem_of_getElem? (i := 6) rfl)), (List.forall_mem_append.mpr ⟨(List.forall_mem_cons.mpr ⟨List.mem_cons_of_mem _ (List.mem_append_left _ (List.mem_of_getElem? (i := 1) rfl)), (fun _ h => nomatch h)⟩), (fun _ h => List.mem_cons_of_mem _ (List.mem_append_right _ (h)))⟩)⟩) (by decide +kernel)
set_option maxRecDepth 20000 in
theorem gX11_pardon_X11_put : GoodIn wsX11_pardon (wsV RX11 48 RX11 yX11_put wsX11_put) := goodIn_app (goodIn_of _ (by decide +kernel)) ggX11_pardon_X11_put
theorem kX11_pardon_0 : (.fieldLink RX11 37 "RunDeskModel" "thrown" "I" : Cond) ∈ wsX11_pardon := List.mem_of_getElem? (i := 1) (by decide +kernel)
theorem qX11_pardon_X11 : ∀ w ∈ wsX110, w ∈ wsX11_pardon := fun _ h => List.mem_cons_of_mem _ (List.mem_append_right _ (h))
theorem kX11_pardon_2 : (.fieldLink RX11 9 "RunDeskModel" "now" "[I" : Cond) ∈ wsX11_pardon := List.mem_of_getElem? (i := 2) (by decide +kernel)
set_option maxHeartbeats 4000000 in
set_option maxRecDepth 100000 in
theorem mX11_pardon (l : Launch) (D : va_G) (cB cI cZ : ClassId) (a_t : Nat) (a_t_now : Nat) (a_t_kept : Nat) (a_t_text : Nat) (a_t_passing : Nat) (a_t_order : Nat) (a_t_times : Nat) (t_thrown : Int32) (t_isKept : Int32) (t_length : Int32) (t_at : Int32) (t_fault : Int32) (t_open : Int32) (t_asked : Int32) (t_byGun : Int32) (t_prizeMost : Int32) (t_listed : Int32) (t_now : Nat → Int32) (sz : Nat) (r0 : Int32) (t_thrown' : Int32) (t_now' : Nat → Int32) (h : fX11_pardon t_thrown t_now = some (r0, t_thrown', t_now')) : Met l yX11_pardon wsX11_pardon ({ frames := 1, cells := 0, slots := 0, locals := 23 } : Room) (va_Pc [.ref a_t] (zPre D (zT cB cI cZ) [(a_t, .inr (11, [.int t_thrown, .ref a_t_now, .ref a_t_kept, .int t_isKept, .ref a_t_text, .int t_length, .ref a_t_passing, .int t_at, .int t_fault, .int t_open, .int t_asked, .int t_byGun, .int t_prizeMost, .ref a_t_order, .ref a_t_times, .int t_listed])), (a_t_now, .inl (cI, 1562, .inl t_now))] sz)) (zQi r0 D (zT cB cI cZ) [(a_t, .inr (11, [.int t_thrown', .ref a_t_now, .ref a_t_kept, .int t_isKept, .ref a_t_text, .int t_length, .ref a_t_passing, .int t_at, .int t_fault, .int t_open, .int t_asked, .int t_byGun, .int t_prizeMost, .ref a_t_order, .ref a_t_times, .int t_listed])), (a_t_now, .inl (cI, 1562, .inl t_now'))] (va_A [(a_t, .inr (11, [.int t_thrown, .ref a_t_now, .ref a_t_kept, .int t_isKept, .ref a_t_text, .int t_length, .ref a_t_passing, .int t_at, .int t_fault, .int t_open, .int t_asked, .int t_byGun, .int t_prizeMost, .ref a_t_order, .ref a_t_times, .int t_listed])), (a_t_now, .inl (cI, 1562, .inl t_now))] sz)) 0 0 (va_A [(a_t, .inr (11, [.int t_thrown, .ref a_t_now, .ref a_t_kept, .int t_isKept, .ref a_t_text, .int t_length, .ref a_t_passing, .int t_at, .int t_fault, .int t_open, .int t_asked, .int t_byGun, .int t_prizeMost, .ref a_t_order, .ref a_t_times, .int t_listed])), (a_t_now, .inl (cI, 1562, .inl t_now))] sz) := by
  refine Met.ofW (cc := cX11_pardon) (maxL := 2) (ret := (some .int)) (by decide) rfl ?_
  intro p e s m args below meth c s₁ B hml hv
  obtain ⟨rfl, hsz, hP, hK, hN, hZ, hD0⟩ := hv
  have hx := B.exec
  have hb := B.bytes
  have hr := B.returns
  have hts := atoms_spec (ws := wsX11_pardon) B.pre
  have hown : s.vm.findClass RX11 = some m.cls := findClass_of_methodNamed B.named
  have hlocks := B.notSynchronized
  subst hsz
  have hD := hD0.self (sz := s.heap.size)
  generalize hAe : va_A [(a_t, .inr (11, [.int t_thrown, .ref a_t_now, .ref a_t_kept, .int t_isKept, .ref a_t_text, .int t_length, .ref a_t_passing, .int t_at, .int t_fault, .int t_open, .int t_asked, .int t_byGun, .int t_prizeMost, .ref a_t_order, .ref a_t_times, .int t_listed])), (a_t_now, .inl (cI, 1562, .inl t_now))] s.heap.size = A at hD hZ ⊢
  have hA : ∀ q : Nat, s.heap.size ≤ q → A q := fun q h => by rw [← hAe]; exact Or.inr h
  have hS : va_S A s.heap s.heap [] := va_S.rf
  have hl := lv_entry ([.ref a_t]) (n := 2) (Nat.le_of_ble_eq_true rfl)
  rw [lg_entry_eq]
  generalize (lg_sl ([.ref a_t]) ++ List.replicate (2 - (lg_sl ([.ref a_t])).length) Slot.unset).toArray = ls at hl ⊢
  have hl : lv_has ls 2 [(0, .ref a_t)] := hl
  unfold fX11_pardon at h
  refine lv_aload_n hx hb dX11_pardon_0 rfl (lv_at hl 0 rfl) ?_
  refine lv_iconst (v := (nI 0)) hx hb dX11_pardon_1 rfl ?_
  refine va_put (D := D) (ci := 11) (ty := .int) (C := RX11) (T := TX11) (N := 16) hx hb hts qX11_pardon_X11 tyX11 tyX11_ok nmX11 hown hK hP hD hS 0 rfl rfl 0 (by decide) (hts _ kX11_pardon_0) (fun _ h9 => h9) rfl (by decide +kernel) rfl (by first | rfl | exact zz_fit) (Nat.le_of_ble_eq_true rfl) dX11_pardon_2 (fun H locs hP hD hS => ?_)
  have hP : va_P D vwCl [(a_t, .inr (11, [.int (nI 0), .ref a_t_now, .ref a_t_kept, .int t_isKept, .ref a_t_text, .int t_length, .ref a_t_passing, .int t_at, .int t_fault, .int t_open, .int t_asked, .int t_byGun, .int t_prizeMost, .ref a_t_order, .ref a_t_times, .int t_listed])), (a_t_now, .inl (cI, 1562, .inl t_now))] H := hP
  have hD : va_D A [(a_t, .inr (11, [.int (nI 0), .ref a_t_now, .ref a_t_kept, .int t_isKept, .ref a_t_text, .int t_length, .ref a_t_passing, .int t_at, .int t_fault, .int t_open, .int t_asked, .int t_byGun, .int t_prizeMost, .ref a_t_order, .ref a_t_times, .int t_listed])), (a_t_now, .inl (cI, 1562, .inl t_now))] := hD
  refine lv_aload_n hx hb dX11_pardon_5 rfl (lv_at hl 0 rfl) ?_
  refine va_get (D := D) (ci := 11) (C := RX11) (T := TX11) (N := 16) hx hb hts qX11_pardon_X11 hown hK hP 0 rfl rfl 1 (by decide) (hts _ kX11_pardon_2) (fun _ h9 => h9) rfl dX11_pardon_6 ?_
  refine lv_iconst (v := (nI 2)) hx hb dX11_pardon_9 rfl ?_
  obtain ⟨i1, h⟩ := zz_i h
  refine va_iald hx hb hK hP 1 1 rfl rfl i1 dX11_pardon_10 ?_
  refine lv_if_ne (tgt := 16) hx hb dX11_pardon_11 (by decide) (fun c2 => ?_) (fun c2 => ?_)
  · have h := zz_f h c2
    refine lv_aload_n hx hb dX11_pardon_16 rfl (lv_at hl 0 rfl) ?_
    refine va_get (D := D) (ci := 11) (C := RX11) (T := TX11) (N := 16) hx hb hts qX11_pardon_X11 hown hK hP 0 rfl rfl 1 (by decide) (hts _ kX11_pardon_2) (fun _ h9 => h9) rfl dX11_pardon_17 ?_
    refine lv_iconst (v := (nI 2)) hx hb dX11_pardon_20 rfl ?_
    refine lv_dup2_11 hx hb dX11_pardon_21 rfl rfl ?_
    obtain ⟨i3, h⟩ := zz_i h
    refine va_iald hx hb hK hP 1 1 rfl rfl i3 dX11_pardon_22 ?_
    refine lv_iconst (v := (nI 1)) hx hb dX11_pardon_23 rfl ?_
    refine lv_isub hx hb dX11_pardon_24 ?_
    obtain ⟨i4, h⟩ := zz_i h
    refine va_iast hx hb hK hP hD hS 1 1 rfl rfl i4 dX11_pardon_25 (fun H locs hP hD hS => ?_)
    have hP : va_P D vwCl [(a_t, .inr (11, [.int (nI 0), .ref a_t_now, .ref a_t_kept, .int t_isKept, .ref a_t_text, .int t_length, .ref a_t_passing, .int t_at, .int t_fault, .int t_open, .int t_asked, .int t_byGun, .int t_prizeMost, .ref a_t_order, .ref a_t_times, .int t_listed])), (a_t_now, .inl (cI, 1562, .inl (upd t_now ((nI 2)).toNatClampNeg ((t_now ((nI 2)).toNatClampNeg) - (nI 1)))))] H := hP
    have hD : va_D A [(a_t, .inr (11, [.int (nI 0), .ref a_t_now, .ref a_t_kept, .int t_isKept, .ref a_t_text, .int t_length, .ref a_t_passing, .int t_at, .int t_fault, .int t_open, .int t_asked, .int t_byGun, .int t_prizeMost, .ref a_t_order, .ref a_t_times, .int t_listed])), (a_t_now, .inl (cI, 1562, .inl (upd t_now ((nI 2)).toNatClampNeg ((t_now ((nI 2)).toNatClampNeg) - (nI 1)))))] := hD
    refine lv_aload_n hx hb dX11_pardon_26 rfl (lv_at hl 0 rfl) ?_
    refine va_get (D := D) (ci := 11) (C := RX11) (T := TX11) (N := 16) hx hb hts qX11_pardon_X11 hown hK hP 0 rfl rfl 1 (by decide) (hts _ kX11_pardon_2) (fun _ h9 => h9) rfl dX11_pardon_27 ?_
    refine lv_bipush (v := (nI 62)) hx hb dX11_pardon_30 rfl ?_
    refine lv_aload_n hx hb dX11_pardon_32 rfl (lv_at hl 0 rfl) ?_
    refine va_get (D := D) (ci := 11) (C := RX11) (T := TX11) (N := 16) hx hb hts qX11_pardon_X11 hown hK hP 0 rfl rfl 1 (by decide) (hts _ kX11_pardon_2) (fun _ h9 => h9) rfl dX11_pardon_33 ?_
    refine lv_iconst (v := (nI 2)) hx hb dX11_pardon_36 rfl ?_
    obtain ⟨i5, h⟩ := zz_i h
    refine va_iald hx hb hK hP 1 1 rfl rfl i5 dX11_pardon_37 ?_
    refine lv_iadd hx hb dX11_pardon_38 ?_
    obtain ⟨i6, h⟩ := zz_i h
    refine va_iald hx hb hK hP 1 1 rfl rfl i6 dX11_pardon_39 ?_
    refine lv_istore_n (lv' := [(1, .int ((upd t_now ((nI 2)).toNatClampNeg ((t_now ((nI 2)).toNatClampNeg) - (nI 1))) (((nI 62) + ((upd t_now ((nI 2)).toNatClampNeg ((t_now ((nI 2)).toNatClampNeg) - (nI 1))) ((nI 2)).toNatClampNeg))).toNatClampNeg)), (0, .ref a_t)]) hx hb dX11_pardon_40 rfl hl (by decide) rfl (fun ls hl => ?_)
    refine lv_aload_n hx hb dX11_pardon_41 rfl (lv_at hl 1 rfl) ?_
    refine lv_iload_n hx hb dX11_pardon_42 rfl (lv_at hl 0 rfl) ?_
    refine lv_bipush (v := (nI 8)) hx hb dX11_pardon_43 rfl ?_
    refine lv_iconst (v := (nI 0)) hx hb dX11_pardon_45 rfl ?_
    obtain ⟨t_now_r7, e8, h⟩ := zz_b h
    refine zVv (As := [.int ((upd t_now ((nI 2)).toNatClampNeg ((t_now ((nI 2)).toNatClampNeg) - (nI 1))) (((nI 62) + ((upd t_now ((nI 2)).toNatClampNeg ((t_now ((nI 2)).toNatClampNeg) - (nI 1))) ((nI 2)).toNatClampNeg))).toNatClampNeg), .int (nI 8), .int (nI 0)]) (rest := []) (C := RX11) (wr := []) [0, 1] [] 0 ⟨hx, hb, hml, hown, hts⟩ (mX11_put l D cB cI cZ a_t a_t_now a_t_kept a_t_text a_t_passing a_t_order a_t_times (nI 0) t_isKept t_length t_at t_fault t_open t_asked t_byGun t_prizeMost t_listed (upd t_now ((nI 2)).toNatClampNeg ((t_now ((nI 2)).toNatClampNeg) - (nI 1))) H.size ((upd t_now ((nI 2)).toNatClampNeg ((t_now ((nI 2)).toNatClampNeg) - (nI 1))) (((nI 62) + ((upd t_now ((nI 2)).toNatClampNeg ((t_now ((nI 2)).toNatClampNeg) - (nI 1))) ((nI 2)).toNatClampNeg))).toNatClampNeg) (nI 8) (nI 0) t_now_r7 e8) (cwV 3 hts gX11_pardon_X11_put rfl rfl rfl (by decide +kernel) ⟨Nat.le_of_ble_eq_true rfl, Nat.le_of_ble_eq_true rfl⟩) hK hN hZ hP hD hS hA rfl rfl rfl rfl rfl rfl rfl rfl hl.1 rfl (lv_room (Nat.le_of_ble_eq_true rfl)) dX11_pardon_46 ⟨Nat.le_of_ble_eq_true rfl, Nat.le_of_ble_eq_true rfl⟩ (fun H locs hP hD hS => ?_)
    have hP : va_P D vwCl [(a_t, .inr (11, [.int (nI 0), .ref a_t_now, .ref a_t_kept, .int t_isKept, .ref a_t_text, .int t_length, .ref a_t_passing, .int t_at, .int t_fault, .int t_open, .int t_asked, .int t_byGun, .int t_prizeMost, .ref a_t_order, .ref a_t_times, .int t_listed])), (a_t_now, .inl (cI, 1562, .inl t_now_r7))] H := hP
    have hD : va_D A [(a_t, .inr (11, [.int (nI 0), .ref a_t_now, .ref a_t_kept, .int t_isKept, .ref a_t_text, .int t_length, .ref a_t_passing, .int t_at, .int t_fault, .int t_open, .int t_asked, .int t_byGun, .int t_prizeMost, .ref a_t_order, .ref a_t_times, .int t_listed])), (a_t_now, .inl (cI, 1562, .inl t_now_r7))] := hD
    refine lv_iload_n hx hb dX11_pardon_49 rfl (lv_at hl 0 rfl) ?_
    obtain ⟨j0_, g_⟩ := Prod.mk.inj (Option.some.inj h)
    obtain ⟨j1_, g_⟩ := Prod.mk.inj g_
    have j2_ := g_
    subst j0_
    subst j1_
    subst j2_
    exact W.iret (v := ((upd t_now ((nI 2)).toNatClampNeg ((t_now ((nI 2)).toNatClampNeg) - (nI 1))) (((nI 62) + ((upd t_now ((nI 2)).toNatClampNeg ((t_now ((nI 2)).toNatClampNeg) - (nI 1))) ((nI 2)).toNatClampNeg))).toNatClampNeg)) hx hb hr (fun t ht hW => ⟨⟨_, (), rfl, rfl, zPost.of hP hD hK ht hW [0, 1] rfl rfl rfl⟩, hS.F ht⟩) hS.2.2 dX11_pardon_50
  · have h := zz_t h c2
    refine lv_iconst (v := (-1 : Int32)) hx hb dX11_pardon_14 rfl ?_
    obtain ⟨j0_, g_⟩ := Prod.mk.inj (Option.some.inj h)
    obtain ⟨j1_, g_⟩ := Prod.mk.inj g_
    have j2_ := g_
    subst j0_
    subst j1_
    subst j2_
    exact W.iret (v := (-1 : Int32)) hx hb hr (fun t ht hW => ⟨⟨_, (), rfl, rfl, zPost.of hP hD hK ht hW [0, 1] rfl rfl rfl⟩, hS.F ht⟩) hS.2.2 dX11_pardon_15
/-! RunDeskModel.splitOf -/
theorem dX11_splitOf_0 : decode cX11_splitOf 0 = .ok (.aload_n 0, 1) := by decide +kernel
theorem dX11_splitOf_1 : decode cX11_splitOf 1 = .ok (.iload_n 1, 1) := by decide +kernel
theorem dX11_splitOf_2 : decode cX11_splitOf 2 = .ok (.bipush 12, 2) := by decide +kernel
theorem dX11_splitOf_4 : decode cX11_splitOf 4 = .ok (.iload_n 2, 1) := by decide +kernel
theorem dX11_splitOf_5 : decode cX11_splitOf 5 = .ok (.iadd, 1) := by decide +kernel
theorem dX11_splitOf_6 : decode cX11_splitOf 6 = .ok (.invokevirtual 62, 3) := by decide +kernel
theorem dX11_splitOf_9 : decode cX11_splitOf 9 = .ok (.ireturn, 1) := by decide +kernel
set_option maxRecDepth 20000 in
theorem ggX11_splitOf_X11_of : GoodIn wsX11_splitOf wsX11_of := goodIn_sub (List.forall_mem_cons.mpr ⟨List.mem_cons_of_mem _ (List.mem_append_left _ (List.mem_of_getElem? (i := 4) rfl)), (List.forall_mem_append.mpr ⟨(List.forall_mem_cons.mpr ⟨List.mem_cons_of_mem _ (List.mem_append_left _ (List.mem_of_getElem? (i := 5) rfl)), (fun _ h => nomatch h)⟩), (fun _ h => List.mem_cons_of_mem _ (List.mem_append_right _ (h)))⟩)⟩) (by decide +kernel)
set_option maxRecDepth 20000 in
theorem gX11_splitOf_X11_of : GoodIn wsX11_splitOf (wsV RX11 62 RX11 yX11_of wsX11_of) := goodIn_app (goodIn_of _ (by decide +kernel)) ggX11_splitOf_X11_of
set_option maxHeartbeats 4000000 in
set_option maxRecDepth 100000 in
theorem mX11_splitOf (l : Launch) (D : va_G) (cB cI cZ : ClassId) (a_t : Nat) (a_t_now : Nat) (a_t_kept : Nat) (a_t_text : Nat) (a_t_passing : Nat) (a_t_order : Nat) (a_t_times : Nat) (t_thrown : Int32) (t_isKept : Int32) (t_length : Int32) (t_at : Int32) (t_fault : Int32) (t_open : Int32) (t_asked : Int32) (t_byGun : Int32) (t_prizeMost : Int32) (t_listed : Int32) (t_now : Nat → Int32) (sz : Nat) (x1 : Int32) (x2 : Int32) (r0 : Int32) (h : fX11_splitOf t_now x1 x2 = some (r0)) : Met l yX11_splitOf wsX11_splitOf ({ frames := 1, cells := 0, slots := 0, locals := 22 } : Room) (va_Pc [.ref a_t, .int x1, .int x2] (zPre D (zT cB cI cZ) [(a_t, .inr (11, [.int t_thrown, .ref a_t_now, .ref a_t_kept, .int t_isKept, .ref a_t_text, .int t_length, .ref a_t_passing, .int t_at, .int t_fault, .int t_open, .int t_asked, .int t_byGun, .int t_prizeMost, .ref a_t_order, .ref a_t_times, .int t_listed])), (a_t_now, .inl (cI, 1562, .inl t_now))] sz)) (zQi r0 D (zT cB cI cZ) [(a_t, .inr (11, [.int t_thrown, .ref a_t_now, .ref a_t_kept, .int t_isKept, .ref a_t_text, .int t_length, .ref a_t_passing, .int t_at, .int t_fault, .int t_open, .int t_asked, .int t_byGun, .int t_prizeMost, .ref a_t_order, .ref a_t_times, .int t_listed])), (a_t_now, .inl (cI, 1562, .inl t_now))] (va_A [(a_t, .inr (11, [.int t_thrown, .ref a_t_now, .ref a_t_kept, .int t_isKept, .ref a_t_text, .int t_length, .ref a_t_passing, .int t_at, .int t_fault, .int t_open, .int t_asked, .int t_byGun, .int t_prizeMost, .ref a_t_order, .ref a_t_times, .int t_listed])), (a_t_now, .inl (cI, 1562, .inl t_now))] sz)) 0 0 (va_A [(a_t, .inr (11, [.int t_thrown, .ref a_t_now, .ref a_t_kept, .int t_isKept, .ref a_t_text, .int t_length, .ref a_t_passing, .int t_at, .int t_fault, .int t_open, .int t_asked, .int t_byGun, .int t_prizeMost, .ref a_t_order, .ref a_t_times, .int t_listed])), (a_t_now, .inl (cI, 1562, .inl t_now))] sz) := by
  refine Met.ofW (cc := cX11_splitOf) (maxL := 3) (ret := (some .int)) (by decide) rfl ?_
  intro p e s m args below meth c s₁ B hml hv
  obtain ⟨rfl, hsz, hP, hK, hN, hZ, hD0⟩ := hv
  have hx := B.exec
  have hb := B.bytes
  have hr := B.returns
  have hts := atoms_spec (ws := wsX11_splitOf) B.pre
  have hown : s.vm.findClass RX11 = some m.cls := findClass_of_methodNamed B.named
  have hlocks := B.notSynchronized
  subst hsz
  have hD := hD0.self (sz := s.heap.size)
  generalize hAe : va_A [(a_t, .inr (11, [.int t_thrown, .ref a_t_now, .ref a_t_kept, .int t_isKept, .ref a_t_text, .int t_length, .ref a_t_passing, .int t_at, .int t_fault, .int t_open, .int t_asked, .int t_byGun, .int t_prizeMost, .ref a_t_order, .ref a_t_times, .int t_listed])), (a_t_now, .inl (cI, 1562, .inl t_now))] s.heap.size = A at hD hZ ⊢
  have hA : ∀ q : Nat, s.heap.size ≤ q → A q := fun q h => by rw [← hAe]; exact Or.inr h
  have hS : va_S A s.heap s.heap [] := va_S.rf
  have hl := lv_entry ([.ref a_t, .int x1, .int x2]) (n := 3) (Nat.le_of_ble_eq_true rfl)
  rw [lg_entry_eq]
  generalize (lg_sl ([.ref a_t, .int x1, .int x2]) ++ List.replicate (3 - (lg_sl ([.ref a_t, .int x1, .int x2])).length) Slot.unset).toArray = ls at hl ⊢
  have hl : lv_has ls 3 [(0, .ref a_t), (1, .int x1), (2, .int x2)] := hl
  unfold fX11_splitOf at h
  refine lv_aload_n hx hb dX11_splitOf_0 rfl (lv_at hl 0 rfl) ?_
  refine lv_iload_n hx hb dX11_splitOf_1 rfl (lv_at hl 1 rfl) ?_
  refine lv_bipush (v := (nI 12)) hx hb dX11_splitOf_2 rfl ?_
  refine lv_iload_n hx hb dX11_splitOf_4 rfl (lv_at hl 2 rfl) ?_
  refine lv_iadd hx hb dX11_splitOf_5 ?_
  obtain ⟨r1, e2, h⟩ := zz_b h
  refine zVi (As := [.int x1, .int ((nI 12) + x2)]) (rest := []) (C := RX11) (wr := []) [0, 1] [] 0 ⟨hx, hb, hml, hown, hts⟩ (mX11_of l D cB cI cZ a_t a_t_now a_t_kept a_t_text a_t_passing a_t_order a_t_times t_thrown t_isKept t_length t_at t_fault t_open t_asked t_byGun t_prizeMost t_listed t_now s.heap.size x1 ((nI 12) + x2) r1 e2) (cwV 2 hts gX11_splitOf_X11_of rfl rfl rfl (by decide +kernel) ⟨Nat.le_of_ble_eq_true rfl, Nat.le_of_ble_eq_true rfl⟩) hK hN hZ hP hD hS hA rfl rfl rfl rfl rfl rfl rfl rfl hl.1 rfl (lv_room (Nat.le_of_ble_eq_true rfl)) dX11_splitOf_6 ⟨Nat.le_of_ble_eq_true rfl, Nat.le_of_ble_eq_true rfl⟩ (fun H locs hP hD hS => ?_)
  have hP : va_P D vwCl [(a_t, .inr (11, [.int t_thrown, .ref a_t_now, .ref a_t_kept, .int t_isKept, .ref a_t_text, .int t_length, .ref a_t_passing, .int t_at, .int t_fault, .int t_open, .int t_asked, .int t_byGun, .int t_prizeMost, .ref a_t_order, .ref a_t_times, .int t_listed])), (a_t_now, .inl (cI, 1562, .inl t_now))] H := hP
  have hD : va_D A [(a_t, .inr (11, [.int t_thrown, .ref a_t_now, .ref a_t_kept, .int t_isKept, .ref a_t_text, .int t_length, .ref a_t_passing, .int t_at, .int t_fault, .int t_open, .int t_asked, .int t_byGun, .int t_prizeMost, .ref a_t_order, .ref a_t_times, .int t_listed])), (a_t_now, .inl (cI, 1562, .inl t_now))] := hD
  have j0_ := Option.some.inj h
  subst j0_
  exact W.iret (v := r1) hx hb hr (fun t ht hW => ⟨⟨_, (), rfl, rfl, zPost.of hP hD hK ht hW [0, 1] rfl rfl rfl⟩, hS.F ht⟩) hS.2.2 dX11_splitOf_9
/-! RunDeskModel.startOf -/
theorem dX11_startOf_0 : decode cX11_startOf 0 = .ok (.aload_n 0, 1) := by decide +kernel
theorem dX11_startOf_1 : decode cX11_startOf 1 = .ok (.iload_n 1, 1) := by decide +kernel
theorem dX11_startOf_2 : decode cX11_startOf 2 = .ok (.iconst 0, 1) := by decide +kernel
theorem dX11_startOf_3 : decode cX11_startOf 3 = .ok (.invokevirtual 76, 3) := by decide +kernel
theorem dX11_startOf_6 : decode cX11_startOf 6 = .ok (.iconst (-1), 1) := by decide +kernel
theorem dX11_startOf_7 : decode cX11_startOf 7 = .ok (.if_icmp .eq 12, 3) := by decide +kernel
theorem dX11_startOf_10 : decode cX11_startOf 10 = .ok (.aload_n 0, 1) := by decide +kernel
theorem dX11_startOf_11 : decode cX11_startOf 11 = .ok (.iload_n 1, 1) := by decide +kernel
theorem dX11_startOf_12 : decode cX11_startOf 12 = .ok (.iconst 0, 1) := by decide +kernel
theorem dX11_startOf_13 : decode cX11_startOf 13 = .ok (.invokevirtual 76, 3) := by decide +kernel
theorem dX11_startOf_16 : decode cX11_startOf 16 = .ok (.goto 13, 3) := by decide +kernel
theorem dX11_startOf_19 : decode cX11_startOf 19 = .ok (.aload_n 0, 1) := by decide +kernel
theorem dX11_startOf_20 : decode cX11_startOf 20 = .ok (.aload_n 0, 1) := by decide +kernel
theorem dX11_startOf_21 : decode cX11_startOf 21 = .ok (.iload_n 1, 1) := by decide +kernel
theorem dX11_startOf_22 : decode cX11_startOf 22 = .ok (.iconst 5, 1) := by decide +kernel
theorem dX11_startOf_23 : decode cX11_startOf 23 = .ok (.invokevirtual 62, 3) := by decide +kernel
theorem dX11_startOf_26 : decode cX11_startOf 26 = .ok (.invokevirtual 79, 3) := by decide +kernel
theorem dX11_startOf_29 : decode cX11_startOf 29 = .ok (.ireturn, 1) := by decide +kernel
set_option maxRecDepth 20000 in
theorem ggX11_startOf_X11_splitOf : GoodIn wsX11_startOf wsX11_splitOf := goodIn_sub (List.forall_mem_cons.mpr ⟨List.mem_cons_of_mem _ (List.mem_append_left _ (List.mem_of_getElem? (i := 4) rfl)), (List.forall_mem_append.mpr ⟨(List.forall_mem_cons.mpr ⟨List.mem_cons_of_mem _ (List.mem_append_left _ (List.mem_of_getElem? (i := 5) rfl)), (List.forall_mem_cons.mpr ⟨List.mem_cons_of_mem _ (List.mem_append_left _ (List.mem_of_getElem? (i := 6) rfl)), (List.forall_mem_cons.mpr ⟨List.mem_cons_of_mem _ (List.mem_append_left _ (List.mem_of_getElem? (i := 7) rfl)), (List.forall_mem_cons.mpr ⟨List.mem_cons_of_mem _ (List.mem_append_left _ (List.mem_of_getElem? (i := 3) rfl)), (List.forall_mem_cons.mpr ⟨List.mem_cons_of_mem _ (List.mem_append_left _ (List.mem_of_getElem? (i := 8) rfl)), (List.forall_mem_cons.mpr ⟨List.mem_cons_of_mem _ (List.mem_append_left _ (List.mem_of_getElem? (i := 9) rfl)), (fun _ h => nomatch h)⟩)⟩)⟩)⟩)⟩)⟩), (fun _ h => List.mem_cons_of_mem _ (List.mem_append_right _ (h)))⟩)⟩) (by decide +kernel)
set_option maxRecDepth 20000 in
theorem gX11_startOf_X11_splitOf : GoodIn wsX11_startOf (wsV RX11 76 RX11 yX11_splitOf wsX11_splitOf) := goodIn_app (goodIn_of _ (by decide +kernel)) ggX11_startOf_X11_splitOf
set_option maxRecDepth 20000 in
theorem ggX11_startOf_X11_of : GoodIn wsX11_startOf wsX11_of := goodIn_sub (List.forall_mem_cons.mpr ⟨List.mem_cons_of_mem _ (List.mem_append_left _ (List.mem_of_getElem? (i := 8) rfl)), (List.forall_mem_append.mpr ⟨(List.forall_mem_cons.mpr ⟨List.mem_cons_of_mem _ (List.mem_append_left _ (List.mem_of_getElem? (i := 9) rfl)), (fun _ h => nomatch h)⟩), (fun _ h => List.mem_cons_of_mem _ (List.mem_append_right _ (h)))⟩)⟩) (by decide +kernel)
set_option maxRecDepth 20000 in
theorem gX11_startOf_X11_of : GoodIn wsX11_startOf (wsV RX11 62 RX11 yX11_of wsX11_of) := goodIn_app (goodIn_of _ (by decide +kernel)) ggX11_startOf_X11_of
set_option maxRecDepth 20000 in
theorem ggX11_startOf_X11_gunOf : GoodIn wsX11_startOf wsX11_gunOf := goodIn_sub (List.forall_mem_cons.mpr ⟨List.mem_cons_of_mem _ (List.mem_append_left _ (List.mem_of_getElem? (i := 13) rfl)), (List.forall_mem_append.mpr ⟨(List.forall_mem_cons.mpr ⟨List.mem_cons_of_mem _ (List.mem_append_left _ (List.mem_of_getElem? (i := 9) rfl)), (fun _ h => nomatch h)⟩), (fun _ h => List.mem_cons_of_mem _ (List.mem_append_right _ (h)))⟩)⟩) (by decide +kernel)
set_option maxRecDepth 20000 in
theorem gX11_startOf_X11_gunOf : GoodIn wsX11_startOf (wsV RX11 79 RX11 yX11_gunOf wsX11_gunOf) := goodIn_app (goodIn_of _ (by decide +kernel)) ggX11_startOf_X11_gunOf
set_option maxHeartbeats 4000000 in
set_option maxRecDepth 100000 in
theorem mX11_startOf (l : Launch) (D : va_G) (cB cI cZ : ClassId) (a_t : Nat) (a_t_now : Nat) (a_t_kept : Nat) (a_t_text : Nat) (a_t_passing : Nat) (a_t_order : Nat) (a_t_times : Nat) (t_thrown : Int32) (t_isKept : Int32) (t_length : Int32) (t_at : Int32) (t_fault : Int32) (t_open : Int32) (t_asked : Int32) (t_byGun : Int32) (t_prizeMost : Int32) (t_listed : Int32) (t_now : Nat → Int32) (sz : Nat) (x1 : Int32) (r0 : Int32) (h : fX11_startOf t_now x1 = some (r0)) : Met l yX11_startOf wsX11_startOf ({ frames := 2, cells := 0, slots := 0, locals := 44 } : Room) (va_Pc [.ref a_t, .int x1] (zPre D (zT cB cI cZ) [(a_t, .inr (11, [.int t_thrown, .ref a_t_now, .ref a_t_kept, .int t_isKept, .ref a_t_text, .int t_length, .ref a_t_passing, .int t_at, .int t_fault, .int t_open, .int t_asked, .int t_byGun, .int t_prizeMost, .ref a_t_order, .ref a_t_times, .int t_listed])), (a_t_now, .inl (cI, 1562, .inl t_now))] sz)) (zQi r0 D (zT cB cI cZ) [(a_t, .inr (11, [.int t_thrown, .ref a_t_now, .ref a_t_kept, .int t_isKept, .ref a_t_text, .int t_length, .ref a_t_passing, .int t_at, .int t_fault, .int t_open, .int t_asked, .int t_byGun, .int t_prizeMost, .ref a_t_order, .ref a_t_times, .int t_listed])), (a_t_now, .inl (cI, 1562, .inl t_now))] (va_A [(a_t, .inr (11, [.int t_thrown, .ref a_t_now, .ref a_t_kept, .int t_isKept, .ref a_t_text, .int t_length, .ref a_t_passing, .int t_at, .int t_fault, .int t_open, .int t_asked, .int t_byGun, .int t_prizeMost, .ref a_t_order, .ref a_t_times, .int t_listed])), (a_t_now, .inl (cI, 1562, .inl t_now))] sz)) 0 0 (va_A [(a_t, .inr (11, [.int t_thrown, .ref a_t_now, .ref a_t_kept, .int t_isKept, .ref a_t_text, .int t_length, .ref a_t_passing, .int t_at, .int t_fault, .int t_open, .int t_asked, .int t_byGun, .int t_prizeMost, .ref a_t_order, .ref a_t_times, .int t_listed])), (a_t_now, .inl (cI, 1562, .inl t_now))] sz) := by
  refine Met.ofW (cc := cX11_startOf) (maxL := 2) (ret := (some .int)) (by decide) rfl ?_
  intro p e s m args below meth c s₁ B hml hv
  obtain ⟨rfl, hsz, hP, hK, hN, hZ, hD0⟩ := hv
  have hx := B.exec
  have hb := B.bytes
  have hr := B.returns
  have hts := atoms_spec (ws := wsX11_startOf) B.pre
  have hown : s.vm.findClass RX11 = some m.cls := findClass_of_methodNamed B.named
  have hlocks := B.notSynchronized
  subst hsz
  have hD := hD0.self (sz := s.heap.size)
  generalize hAe : va_A [(a_t, .inr (11, [.int t_thrown, .ref a_t_now, .ref a_t_kept, .int t_isKept, .ref a_t_text, .int t_length, .ref a_t_passing, .int t_at, .int t_fault, .int t_open, .int t_asked, .int t_byGun, .int t_prizeMost, .ref a_t_order, .ref a_t_times, .int t_listed])), (a_t_now, .inl (cI, 1562, .inl t_now))] s.heap.size = A at hD hZ ⊢
  have hA : ∀ q : Nat, s.heap.size ≤ q → A q := fun q h => by rw [← hAe]; exact Or.inr h
  have hS : va_S A s.heap s.heap [] := va_S.rf
  have hl := lv_entry ([.ref a_t, .int x1]) (n := 2) (Nat.le_of_ble_eq_true rfl)
  rw [lg_entry_eq]
  generalize (lg_sl ([.ref a_t, .int x1]) ++ List.replicate (2 - (lg_sl ([.ref a_t, .int x1])).length) Slot.unset).toArray = ls at hl ⊢
  have hl : lv_has ls 2 [(0, .ref a_t), (1, .int x1)] := hl
  unfold fX11_startOf at h
  refine lv_aload_n hx hb dX11_startOf_0 rfl (lv_at hl 0 rfl) ?_
  refine lv_iload_n hx hb dX11_startOf_1 rfl (lv_at hl 1 rfl) ?_
  refine lv_iconst (v := (nI 0)) hx hb dX11_startOf_2 rfl ?_
  obtain ⟨r1, e2, h⟩ := zz_b h
  refine zVi (As := [.int x1, .int (nI 0)]) (rest := []) (C := RX11) (wr := []) [0, 1] [] 0 ⟨hx, hb, hml, hown, hts⟩ (mX11_splitOf l D cB cI cZ a_t a_t_now a_t_kept a_t_text a_t_passing a_t_order a_t_times t_thrown t_isKept t_length t_at t_fault t_open t_asked t_byGun t_prizeMost t_listed t_now s.heap.size x1 (nI 0) r1 e2) (cwV 2 hts gX11_startOf_X11_splitOf rfl rfl rfl (by decide +kernel) ⟨Nat.le_of_ble_eq_true rfl, Nat.le_of_ble_eq_true rfl⟩) hK hN hZ hP hD hS hA rfl rfl rfl rfl rfl rfl rfl rfl hl.1 rfl (lv_room (Nat.le_of_ble_eq_true rfl)) dX11_startOf_3 ⟨Nat.le_of_ble_eq_true rfl, Nat.le_of_ble_eq_true rfl⟩ (fun H locs hP hD hS => ?_)
  have hP : va_P D vwCl [(a_t, .inr (11, [.int t_thrown, .ref a_t_now, .ref a_t_kept, .int t_isKept, .ref a_t_text, .int t_length, .ref a_t_passing, .int t_at, .int t_fault, .int t_open, .int t_asked, .int t_byGun, .int t_prizeMost, .ref a_t_order, .ref a_t_times, .int t_listed])), (a_t_now, .inl (cI, 1562, .inl t_now))] H := hP
  have hD : va_D A [(a_t, .inr (11, [.int t_thrown, .ref a_t_now, .ref a_t_kept, .int t_isKept, .ref a_t_text, .int t_length, .ref a_t_passing, .int t_at, .int t_fault, .int t_open, .int t_asked, .int t_byGun, .int t_prizeMost, .ref a_t_order, .ref a_t_times, .int t_listed])), (a_t_now, .inl (cI, 1562, .inl t_now))] := hD
  refine lv_iconst (v := (-1 : Int32)) hx hb dX11_startOf_6 rfl ?_
  refine lv_icmp_eq (tgt := 19) hx hb dX11_startOf_7 (by decide) (fun c3 => ?_) (fun c3 => ?_)
  · have h := zz_t h c3
    refine lv_aload_n hx hb dX11_startOf_19 rfl (lv_at hl 0 rfl) ?_
    refine lv_aload_n hx hb dX11_startOf_20 rfl (lv_at hl 0 rfl) ?_
    refine lv_iload_n hx hb dX11_startOf_21 rfl (lv_at hl 1 rfl) ?_
    refine lv_iconst (v := (nI 5)) hx hb dX11_startOf_22 rfl ?_
    obtain ⟨r4, e5, h⟩ := zz_b h
    refine zVi (As := [.int x1, .int (nI 5)]) (rest := [.ref a_t]) (C := RX11) (wr := []) [0, 1] [] 0 ⟨hx, hb, hml, hown, hts⟩ (mX11_of l D cB cI cZ a_t a_t_now a_t_kept a_t_text a_t_passing a_t_order a_t_times t_thrown t_isKept t_length t_at t_fault t_open t_asked t_byGun t_prizeMost t_listed t_now H.size x1 (nI 5) r4 e5) (cwV 2 hts gX11_startOf_X11_of rfl rfl rfl (by decide +kernel) ⟨Nat.le_of_ble_eq_true rfl, Nat.le_of_ble_eq_true rfl⟩) hK hN hZ hP hD hS hA rfl rfl rfl rfl rfl rfl rfl rfl hl.1 rfl (lv_room (Nat.le_of_ble_eq_true rfl)) dX11_startOf_23 ⟨Nat.le_of_ble_eq_true rfl, Nat.le_of_ble_eq_true rfl⟩ (fun H locs hP hD hS => ?_)
    have hP : va_P D vwCl [(a_t, .inr (11, [.int t_thrown, .ref a_t_now, .ref a_t_kept, .int t_isKept, .ref a_t_text, .int t_length, .ref a_t_passing, .int t_at, .int t_fault, .int t_open, .int t_asked, .int t_byGun, .int t_prizeMost, .ref a_t_order, .ref a_t_times, .int t_listed])), (a_t_now, .inl (cI, 1562, .inl t_now))] H := hP
    have hD : va_D A [(a_t, .inr (11, [.int t_thrown, .ref a_t_now, .ref a_t_kept, .int t_isKept, .ref a_t_text, .int t_length, .ref a_t_passing, .int t_at, .int t_fault, .int t_open, .int t_asked, .int t_byGun, .int t_prizeMost, .ref a_t_order, .ref a_t_times, .int t_listed])), (a_t_now, .inl (cI, 1562, .inl t_now))] := hD
    obtain ⟨r6, e7, h⟩ := zz_b h
    refine zVi (As := [.int r4]) (rest := []) (C := RX11) (wr := []) [0, 1] [] 0 ⟨hx, hb, hml, hown, hts⟩ (mX11_gunOf l D cB cI cZ a_t a_t_now a_t_kept a_t_text a_t_passing a_t_order a_t_times t_thrown t_isKept t_length t_at t_fault t_open t_asked t_byGun t_prizeMost t_listed t_now H.size r4 r6 e7) (cwV 1 hts gX11_startOf_X11_gunOf rfl rfl rfl (by decide +kernel) ⟨Nat.le_of_ble_eq_true rfl, Nat.le_of_ble_eq_true rfl⟩) hK hN hZ hP hD hS hA rfl rfl rfl rfl rfl rfl rfl rfl hl.1 rfl (lv_room (Nat.le_of_ble_eq_true rfl)) dX11_startOf_26 ⟨Nat.le_of_ble_eq_true rfl, Nat.le_of_ble_eq_true rfl⟩ (fun H locs hP hD hS => ?_)
    have hP : va_P D vwCl [(a_t, .inr (11, [.int t_thrown, .ref a_t_now, .ref a_t_kept, .int t_isKept, .ref a_t_text, .int t_length, .ref a_t_passing, .int t_at, .int t_fault, .int t_open, .int t_asked, .int t_byGun, .int t_prizeMost, .ref a_t_order, .ref a_t_times, .int t_listed])), (a_t_now, .inl (cI, 1562, .inl t_now))] H := hP
    have hD : va_D A [(a_t, .inr (11, [.int t_thrown, .ref a_t_now, .ref a_t_kept, .int t_isKept, .ref a_t_text, .int t_length, .ref a_t_passing, .int t_at, .int t_fault, .int t_open, .int t_asked, .int t_byGun, .int t_prizeMost, .ref a_t_order, .ref a_t_times, .int t_listed])), (a_t_now, .inl (cI, 1562, .inl t_now))] := hD
    have j0_ := Option.some.inj h
    subst j0_
    exact W.iret (v := r6) hx hb hr (fun t ht hW => ⟨⟨_, (), rfl, rfl, zPost.of hP hD hK ht hW [0, 1] rfl rfl rfl⟩, hS.F ht⟩) hS.2.2 dX11_startOf_29
  · have h := zz_f h c3
    refine lv_aload_n hx hb dX11_startOf_10 rfl (lv_at hl 0 rfl) ?_
    refine lv_iload_n hx hb dX11_startOf_11 rfl (lv_at hl 1 rfl) ?_
    refine lv_iconst (v := (nI 0)) hx hb dX11_startOf_12 rfl ?_
    obtain ⟨r8, e9, h⟩ := zz_b h
    refine zVi (As := [.int x1, .int (nI 0)]) (rest := []) (C := RX11) (wr := []) [0, 1] [] 0 ⟨hx, hb, hml, hown, hts⟩ (mX11_splitOf l D cB cI cZ a_t a_t_now a_t_kept a_t_text a_t_passing a_t_order a_t_times t_thrown t_isKept t_length t_at t_fault t_open t_asked t_byGun t_prizeMost t_listed t_now H.size x1 (nI 0) r8 e9) (cwV 2 hts gX11_startOf_X11_splitOf rfl rfl rfl (by decide +kernel) ⟨Nat.le_of_ble_eq_true rfl, Nat.le_of_ble_eq_true rfl⟩) hK hN hZ hP hD hS hA rfl rfl rfl rfl rfl rfl rfl rfl hl.1 rfl (lv_room (Nat.le_of_ble_eq_true rfl)) dX11_startOf_13 ⟨Nat.le_of_ble_eq_true rfl, Nat.le_of_ble_eq_true rfl⟩ (fun H locs hP hD hS => ?_)
    have hP : va_P D vwCl [(a_t, .inr (11, [.int t_thrown, .ref a_t_now, .ref a_t_kept, .int t_isKept, .ref a_t_text, .int t_length, .ref a_t_passing, .int t_at, .int t_fault, .int t_open, .int t_asked, .int t_byGun, .int t_prizeMost, .ref a_t_order, .ref a_t_times, .int t_listed])), (a_t_now, .inl (cI, 1562, .inl t_now))] H := hP
    have hD : va_D A [(a_t, .inr (11, [.int t_thrown, .ref a_t_now, .ref a_t_kept, .int t_isKept, .ref a_t_text, .int t_length, .ref a_t_passing, .int t_at, .int t_fault, .int t_open, .int t_asked, .int t_byGun, .int t_prizeMost, .ref a_t_order, .ref a_t_times, .int t_listed])), (a_t_now, .inl (cI, 1562, .inl t_now))] := hD
    refine lv_goto (tgt := 29) hx hb dX11_startOf_16 (by decide) ?_
    have j0_ := Option.some.inj h
    subst j0_
    exact W.iret (v := r8) hx hb hr (fun t ht hW => ⟨⟨_, (), rfl, rfl, zPost.of hP hD hK ht hW [0, 1] rfl rfl rfl⟩, hS.F ht⟩) hS.2.2 dX11_startOf_29
/-! RunDeskModel.seen -/
theorem dX11_seen_0 : decode cX11_seen 0 = .ok (.iload_n 2, 1) := by decide +kernel
theorem dX11_seen_1 : decode cX11_seen 1 = .ok (.ifCond .ne 11, 3) := by decide +kernel
theorem dX11_seen_4 : decode cX11_seen 4 = .ok (.aload_n 0, 1) := by decide +kernel
theorem dX11_seen_5 : decode cX11_seen 5 = .ok (.iload_n 1, 1) := by decide +kernel
theorem dX11_seen_6 : decode cX11_seen 6 = .ok (.invokevirtual 83, 3) := by decide +kernel
theorem dX11_seen_9 : decode cX11_seen 9 = .ok (.goto 9, 3) := by decide +kernel
theorem dX11_seen_12 : decode cX11_seen 12 = .ok (.aload_n 0, 1) := by decide +kernel
theorem dX11_seen_13 : decode cX11_seen 13 = .ok (.iload_n 1, 1) := by decide +kernel
theorem dX11_seen_14 : decode cX11_seen 14 = .ok (.iload_n 2, 1) := by decide +kernel
theorem dX11_seen_15 : decode cX11_seen 15 = .ok (.invokevirtual 76, 3) := by decide +kernel
theorem dX11_seen_18 : decode cX11_seen 18 = .ok (.ireturn, 1) := by decide +kernel
set_option maxRecDepth 20000 in
theorem ggX11_seen_X11_startOf : GoodIn wsX11_seen wsX11_startOf := goodIn_sub (List.forall_mem_cons.mpr ⟨List.mem_cons_of_mem _ (List.mem_append_left _ (List.mem_of_getElem? (i := 4) rfl)), (List.forall_mem_append.mpr ⟨(List.forall_mem_cons.mpr ⟨List.mem_cons_of_mem _ (List.mem_append_left _ (List.mem_of_getElem? (i := 5) rfl)), (List.forall_mem_cons.mpr ⟨List.mem_cons_of_mem _ (List.mem_append_left _ (List.mem_of_getElem? (i := 6) rfl)), (List.forall_mem_cons.mpr ⟨List.mem_cons_of_mem _ (List.mem_append_left _ (List.mem_of_getElem? (i := 7) rfl)), (List.forall_mem_cons.mpr ⟨List.mem_cons_of_mem _ (List.mem_append_left _ (List.mem_of_getElem? (i := 3) rfl)), (List.forall_mem_cons.mpr ⟨List.mem_cons_of_mem _ (List.mem_append_left _ (List.mem_of_getElem? (i := 8) rfl)), (List.forall_mem_cons.mpr ⟨List.mem_cons_of_mem _ (List.mem_append_left _ (List.mem_of_getElem? (i := 9) rfl)), (List.forall_mem_cons.mpr ⟨List.mem_cons_of_mem _ (List.mem_append_left _ (List.mem_of_getElem? (i := 10) rfl)), (List.forall_mem_cons.mpr ⟨List.mem_cons_of_mem _ (List.mem_append_left _ (List.mem_of_getElem? (i := 11) rfl)), (List.forall_mem_cons.mpr ⟨List.mem_cons_of_mem _ (List.mem_append_left _ (List.mem_of_getElem? (i := 12) rfl)), (List.forall_mem_cons.mpr ⟨List.mem_cons_of_mem _ (List.mem_append_left _ (List.mem_of_getElem? (i := 13) rfl)), (List.forall_mem_cons.mpr ⟨List.mem_cons_of_mem _ (List.mem_append_left _ (List.mem_of_getElem? (i := 14) rfl)), (List.forall_mem_cons.mpr ⟨List.mem_cons_of_mem _ (List.mem_append_left _ (List.mem_of_getElem? (i := 15) rfl)), (List.forall_mem_cons.mpr ⟨List.mem_cons_of_mem _ (List.mem_append_left _ (List.mem_of_getElem? (i := 16) rfl)), (List.forall_mem_cons.mpr ⟨List.mem_cons_of_mem _ (List.mem_append_left _ (List.mem_of_getElem? (i := 17) rfl)), (fun _ h => nomatch h)⟩)⟩)⟩)⟩)⟩)⟩)⟩)⟩)⟩)⟩)⟩)⟩)⟩)⟩), (fun _ h => List.mem_cons_of_mem _ (List.mem_append_right _ (h)))⟩)⟩) (by decide +kernel)
set_option maxRecDepth 20000 in
theorem gX11_seen_X11_startOf : GoodIn wsX11_seen (wsV RX11 83 RX11 yX11_startOf wsX11_startOf) := goodIn_app (goodIn_of _ (by decide +kernel)) ggX11_seen_X11_startOf
set_option maxRecDepth 20000 in
theorem ggX11_seen_X11_splitOf : GoodIn wsX11_seen wsX11_splitOf := goodIn_sub (List.forall_mem_cons.mpr ⟨List.mem_cons_of_mem _ (List.mem_append_left _ (List.mem_of_getElem? (i := 8) rfl)), (List.forall_mem_append.mpr ⟨(List.forall_mem_cons.mpr ⟨List.mem_cons_of_mem _ (List.mem_append_left _ (List.mem_of_getElem? (i := 9) rfl)), (List.forall_mem_cons.mpr ⟨List.mem_cons_of_mem _ (List.mem_append_left _ (List.mem_of_getElem? (i := 10) rfl)), (List.forall_mem_cons.mpr ⟨List.mem_cons_of_mem _ (List.mem_append_left _ (List.mem_of_getElem? (i := 11) rfl)), (List.forall_mem_cons.mpr ⟨List.mem_cons_of_mem _ (List.mem_append_left _ (List.mem_of_getElem? (i := 3) rfl)), (List.forall_mem_cons.mpr ⟨List.mem_cons_of_mem _ (List.mem_append_left _ (List.mem_of_getElem? (i := 12) rfl)), (List.forall_mem_cons.mpr ⟨List.mem_cons_of_mem _ (List.mem_append_left _ (List.mem_of_getElem? (i := 13) rfl)), (fun _ h => nomatch h)⟩)⟩)⟩)⟩)⟩)⟩), (fun _ h => List.mem_cons_of_mem _ (List.mem_append_right _ (h)))⟩)⟩) (by decide +kernel)
set_option maxRecDepth 20000 in
theorem gX11_seen_X11_splitOf : GoodIn wsX11_seen (wsV RX11 76 RX11 yX11_splitOf wsX11_splitOf) := goodIn_app (goodIn_of _ (by decide +kernel)) ggX11_seen_X11_splitOf
set_option maxHeartbeats 4000000 in
set_option maxRecDepth 100000 in
theorem mX11_seen (l : Launch) (D : va_G) (cB cI cZ : ClassId) (a_t : Nat) (a_t_now : Nat) (a_t_kept : Nat) (a_t_text : Nat) (a_t_passing : Nat) (a_t_order : Nat) (a_t_times : Nat) (t_thrown : Int32) (t_isKept : Int32) (t_length : Int32) (t_at : Int32) (t_fault : Int32) (t_open : Int32) (t_asked : Int32) (t_byGun : Int32) (t_prizeMost : Int32) (t_listed : Int32) (t_now : Nat → Int32) (sz : Nat) (x1 : Int32) (x2 : Int32) (r0 : Int32) (h : fX11_seen t_now x1 x2 = some (r0)) : Met l yX11_seen wsX11_seen ({ frames := 3, cells := 0, slots := 0, locals := 65 } : Room) (va_Pc [.ref a_t, .int x1, .int x2] (zPre D (zT cB cI cZ) [(a_t, .inr (11, [.int t_thrown, .ref a_t_now, .ref a_t_kept, .int t_isKept, .ref a_t_text, .int t_length, .ref a_t_passing, .int t_at, .int t_fault, .int t_open, .int t_asked, .int t_byGun, .int t_prizeMost, .ref a_t_order, .ref a_t_times, .int t_listed])), (a_t_now, .inl (cI, 1562, .inl t_now))] sz)) (zQi r0 D (zT cB cI cZ) [(a_t, .inr (11, [.int t_thrown, .ref a_t_now, .ref a_t_kept, .int t_isKept, .ref a_t_text, .int t_length, .ref a_t_passing, .int t_at, .int t_fault, .int t_open, .int t_asked, .int t_byGun, .int t_prizeMost, .ref a_t_order, .ref a_t_times, .int t_listed])), (a_t_now, .inl (cI, 1562, .inl t_now))] (va_A [(a_t, .inr (11, [.int t_thrown, .ref a_t_now, .ref a_t_kept, .int t_isKept, .ref a_t_text, .int t_length, .ref a_t_passing, .int t_at, .int t_fault, .int t_open, .int t_asked, .int t_byGun, .int t_prizeMost, .ref a_t_order, .ref a_t_times, .int t_listed])), (a_t_now, .inl (cI, 1562, .inl t_now))] sz)) 0 0 (va_A [(a_t, .inr (11, [.int t_thrown, .ref a_t_now, .ref a_t_kept, .int t_isKept, .ref a_t_text, .int t_length, .ref a_t_passing, .int t_at, .int t_fault, .int t_open, .int t_asked, .int t_byGun, .int t_prizeMost, .ref a_t_order, .ref a_t_times, .int t_listed])), (a_t_now, .inl (cI, 1562, .inl t_now))] sz) := by
  refine Met.ofW (cc := cX11_seen) (maxL := 3) (ret := (some .int)) (by decide) rfl ?_
  intro p e s m args below meth c s₁ B hml hv
  obtain ⟨rfl, hsz, hP, hK, hN, hZ, hD0⟩ := hv
  have hx := B.exec
  have hb := B.bytes
  have hr := B.returns
  have hts := atoms_spec (ws := wsX11_seen) B.pre
  have hown : s.vm.findClass RX11 = some m.cls := findClass_of_methodNamed B.named
  have hlocks := B.notSynchronized
  subst hsz
  have hD := hD0.self (sz := s.heap.size)
  generalize hAe : va_A [(a_t, .inr (11, [.int t_thrown, .ref a_t_now, .ref a_t_kept, .int t_isKept, .ref a_t_text, .int t_length, .ref a_t_passing, .int t_at, .int t_fault, .int t_open, .int t_asked, .int t_byGun, .int t_prizeMost, .ref a_t_order, .ref a_t_times, .int t_listed])), (a_t_now, .inl (cI, 1562, .inl t_now))] s.heap.size = A at hD hZ ⊢
  have hA : ∀ q : Nat, s.heap.size ≤ q → A q := fun q h => by rw [← hAe]; exact Or.inr h
  have hS : va_S A s.heap s.heap [] := va_S.rf
  have hl := lv_entry ([.ref a_t, .int x1, .int x2]) (n := 3) (Nat.le_of_ble_eq_true rfl)
  rw [lg_entry_eq]
  generalize (lg_sl ([.ref a_t, .int x1, .int x2]) ++ List.replicate (3 - (lg_sl ([.ref a_t, .int x1, .int x2])).length) Slot.unset).toArray = ls at hl ⊢
  have hl : lv_has ls 3 [(0, .ref a_t), (1, .int x1), (2, .int x2)] := hl
  unfold fX11_seen at h
  refine lv_iload_n hx hb dX11_seen_0 rfl (lv_at hl 2 rfl) ?_
  refine lv_if_ne (tgt := 12) hx hb dX11_seen_1 (by decide) (fun c1 => ?_) (fun c1 => ?_)
  · have h := zz_f h c1
    refine lv_aload_n hx hb dX11_seen_12 rfl (lv_at hl 0 rfl) ?_
    refine lv_iload_n hx hb dX11_seen_13 rfl (lv_at hl 1 rfl) ?_
    refine lv_iload_n hx hb dX11_seen_14 rfl (lv_at hl 2 rfl) ?_
    obtain ⟨r2, e3, h⟩ := zz_b h
    refine zVi (As := [.int x1, .int x2]) (rest := []) (C := RX11) (wr := []) [0, 1] [] 0 ⟨hx, hb, hml, hown, hts⟩ (mX11_splitOf l D cB cI cZ a_t a_t_now a_t_kept a_t_text a_t_passing a_t_order a_t_times t_thrown t_isKept t_length t_at t_fault t_open t_asked t_byGun t_prizeMost t_listed t_now s.heap.size x1 x2 r2 e3) (cwV 2 hts gX11_seen_X11_splitOf rfl rfl rfl (by decide +kernel) ⟨Nat.le_of_ble_eq_true rfl, Nat.le_of_ble_eq_true rfl⟩) hK hN hZ hP hD hS hA rfl rfl rfl rfl rfl rfl rfl rfl hl.1 rfl (lv_room (Nat.le_of_ble_eq_true rfl)) dX11_seen_15 ⟨Nat.le_of_ble_eq_true rfl, Nat.le_of_ble_eq_true rfl⟩ (fun H locs hP hD hS => ?_)
    have hP : va_P D vwCl [(a_t, .inr (11, [.int t_thrown, .ref a_t_now, .ref a_t_kept, .int t_isKept, .ref a_t_text, .int t_length, .ref a_t_passing, .int t_at, .int t_fault, .int t_open, .int t_asked, .int t_byGun, .int t_prizeMost, .ref a_t_order, .ref a_t_times, .int t_listed])), (a_t_now, .inl (cI, 1562, .inl t_now))] H := hP
    have hD : va_D A [(a_t, .inr (11, [.int t_thrown, .ref a_t_now, .ref a_t_kept, .int t_isKept, .ref a_t_text, .int t_length, .ref a_t_passing, .int t_at, .int t_fault, .int t_open, .int t_asked, .int t_byGun, .int t_prizeMost, .ref a_t_order, .ref a_t_times, .int t_listed])), (a_t_now, .inl (cI, 1562, .inl t_now))] := hD
    have j0_ := Option.some.inj h
    subst j0_
    exact W.iret (v := r2) hx hb hr (fun t ht hW => ⟨⟨_, (), rfl, rfl, zPost.of hP hD hK ht hW [0, 1] rfl rfl rfl⟩, hS.F ht⟩) hS.2.2 dX11_seen_18
  · have h := zz_t h c1
    refine lv_aload_n hx hb dX11_seen_4 rfl (lv_at hl 0 rfl) ?_
    refine lv_iload_n hx hb dX11_seen_5 rfl (lv_at hl 1 rfl) ?_
    obtain ⟨r4, e5, h⟩ := zz_b h
    refine zVi (As := [.int x1]) (rest := []) (C := RX11) (wr := []) [0, 1] [] 0 ⟨hx, hb, hml, hown, hts⟩ (mX11_startOf l D cB cI cZ a_t a_t_now a_t_kept a_t_text a_t_passing a_t_order a_t_times t_thrown t_isKept t_length t_at t_fault t_open t_asked t_byGun t_prizeMost t_listed t_now s.heap.size x1 r4 e5) (cwV 1 hts gX11_seen_X11_startOf rfl rfl rfl (by decide +kernel) ⟨Nat.le_of_ble_eq_true rfl, Nat.le_of_ble_eq_true rfl⟩) hK hN hZ hP hD hS hA rfl rfl rfl rfl rfl rfl rfl rfl hl.1 rfl (lv_room (Nat.le_of_ble_eq_true rfl)) dX11_seen_6 ⟨Nat.le_of_ble_eq_true rfl, Nat.le_of_ble_eq_true rfl⟩ (fun H locs hP hD hS => ?_)
    have hP : va_P D vwCl [(a_t, .inr (11, [.int t_thrown, .ref a_t_now, .ref a_t_kept, .int t_isKept, .ref a_t_text, .int t_length, .ref a_t_passing, .int t_at, .int t_fault, .int t_open, .int t_asked, .int t_byGun, .int t_prizeMost, .ref a_t_order, .ref a_t_times, .int t_listed])), (a_t_now, .inl (cI, 1562, .inl t_now))] H := hP
    have hD : va_D A [(a_t, .inr (11, [.int t_thrown, .ref a_t_now, .ref a_t_kept, .int t_isKept, .ref a_t_text, .int t_length, .ref a_t_passing, .int t_at, .int t_fault, .int t_open, .int t_asked, .int t_byGun, .int t_prizeMost, .ref a_t_order, .ref a_t_times, .int t_listed])), (a_t_now, .inl (cI, 1562, .inl t_now))] := hD
    refine lv_goto (tgt := 18) hx hb dX11_seen_9 (by decide) ?_
    have j0_ := Option.some.inj h
    subst j0_
    exact W.iret (v := r4) hx hb hr (fun t ht hW => ⟨⟨_, (), rfl, rfl, zPost.of hP hD hK ht hW [0, 1] rfl rfl rfl⟩, hS.F ht⟩) hS.2.2 dX11_seen_18
