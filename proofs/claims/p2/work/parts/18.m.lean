/-! RunDeskModel.dead -/
theorem dX11_dead_0 : decode cX11_dead 0 = .ok (.aload_n 0, 1) := by decide +kernel
theorem dX11_dead_1 : decode cX11_dead 1 = .ok (.iconst 0, 1) := by decide +kernel
theorem dX11_dead_2 : decode cX11_dead 2 = .ok (.putfield 37, 3) := by decide +kernel
theorem dX11_dead_5 : decode cX11_dead 5 = .ok (.aload_n 0, 1) := by decide +kernel
theorem dX11_dead_6 : decode cX11_dead 6 = .ok (.iload_n 1, 1) := by decide +kernel
theorem dX11_dead_7 : decode cX11_dead 7 = .ok (.invokevirtual 69, 3) := by decide +kernel
theorem dX11_dead_10 : decode cX11_dead 10 = .ok (.ifCond .ne 5, 3) := by decide +kernel
theorem dX11_dead_13 : decode cX11_dead 13 = .ok (.iconst 0, 1) := by decide +kernel
theorem dX11_dead_14 : decode cX11_dead 14 = .ok (.ireturn, 1) := by decide +kernel
theorem dX11_dead_15 : decode cX11_dead 15 = .ok (.aload_n 0, 1) := by decide +kernel
theorem dX11_dead_16 : decode cX11_dead 16 = .ok (.getfield 9, 3) := by decide +kernel
theorem dX11_dead_19 : decode cX11_dead 19 = .ok (.bipush 8, 2) := by decide +kernel
theorem dX11_dead_21 : decode cX11_dead 21 = .ok (.iconst 4, 1) := by decide +kernel
theorem dX11_dead_22 : decode cX11_dead 22 = .ok (.iload_n 1, 1) := by decide +kernel
theorem dX11_dead_23 : decode cX11_dead 23 = .ok (.imul, 1) := by decide +kernel
theorem dX11_dead_24 : decode cX11_dead 24 = .ok (.iadd, 1) := by decide +kernel
theorem dX11_dead_25 : decode cX11_dead 25 = .ok (.iconst 2, 1) := by decide +kernel
theorem dX11_dead_26 : decode cX11_dead 26 = .ok (.iadd, 1) := by decide +kernel
theorem dX11_dead_27 : decode cX11_dead 27 = .ok (.iload_n 2, 1) := by decide +kernel
theorem dX11_dead_28 : decode cX11_dead 28 = .ok (.ifCond .eq 7, 3) := by decide +kernel
theorem dX11_dead_31 : decode cX11_dead 31 = .ok (.iconst 1, 1) := by decide +kernel
theorem dX11_dead_32 : decode cX11_dead 32 = .ok (.goto 4, 3) := by decide +kernel
theorem dX11_dead_35 : decode cX11_dead 35 = .ok (.iconst 0, 1) := by decide +kernel
theorem dX11_dead_36 : decode cX11_dead 36 = .ok (.iastore, 1) := by decide +kernel
theorem dX11_dead_37 : decode cX11_dead 37 = .ok (.iconst 1, 1) := by decide +kernel
theorem dX11_dead_38 : decode cX11_dead 38 = .ok (.ireturn, 1) := by decide +kernel
set_option maxRecDepth 20000 in
theorem ggX11_dead_X11_isMat : GoodIn wsX11_dead wsX11_isMat := goodIn_r _ [7, 8, 9, 10, 6, 11, 2, 12, 13, 14, 15, 16, 17, 18, 19, 20, 21, 22, 23, 24, 25, 26, 27] (by decide +kernel) (by decide +kernel)
set_option maxRecDepth 20000 in
theorem gX11_dead_X11_isMat : GoodIn wsX11_dead (wsV RX11 69 RX11 yX11_isMat wsX11_isMat) := goodIn_app (goodIn_of _ (by decide +kernel)) ggX11_dead_X11_isMat
def fX11_dead (t_thrown : Int32) (t_now : Nat → Int32) (x1 : Int32) (x2 : Int32) : Option (Bool × Int32 × (Nat → Int32)) := ((fX11_isMat t_now x1).bind (fun b1 => (if (zb b1) = 0 then some (false, (0 : Int32), t_now) else (if x2 = 0 then (if zin (((8 : Int32) + ((4 : Int32) * x1)) + (2 : Int32)) 1562 then some (true, (0 : Int32), (upd t_now ((((8 : Int32) + ((4 : Int32) * x1)) + (2 : Int32))).toNatClampNeg (0 : Int32))) else none) else (if zin (((8 : Int32) + ((4 : Int32) * x1)) + (2 : Int32)) 1562 then some (true, (0 : Int32), (upd t_now ((((8 : Int32) + ((4 : Int32) * x1)) + (2 : Int32))).toNatClampNeg (1 : Int32))) else none)))))
theorem kX11_dead_0 : (.fieldLink RX11 37 "RunDeskModel" "thrown" "I" : Cond) ∈ wsX11_dead := List.mem_of_getElem? (i := 1) (by decide +kernel)
theorem qX11_dead_X11 : ∀ w ∈ wsX110, w ∈ wsX11_dead := fun _ h => List.mem_cons_of_mem _ (List.mem_append_right _ (h))
theorem kX11_dead_2 : (.fieldLink RX11 9 "RunDeskModel" "now" "[I" : Cond) ∈ wsX11_dead := List.mem_of_getElem? (i := 2) (by decide +kernel)
set_option maxHeartbeats 4000000 in
set_option maxRecDepth 100000 in
theorem mX11_dead (l : Launch) (D : va_G) (cB cI cZ : ClassId) (a_t : Nat) (a_t_now : Nat) (a_t_kept : Nat) (a_t_text : Nat) (a_t_passing : Nat) (a_t_order : Nat) (a_t_times : Nat) (t_thrown : Int32) (t_isKept : Int32) (t_length : Int32) (t_at : Int32) (t_fault : Int32) (t_open : Int32) (t_asked : Int32) (t_byGun : Int32) (t_prizeMost : Int32) (t_listed : Int32) (t_now : Nat → Int32) (sz : Nat) (x1 : Int32) (x2 : Int32) (b0 : Bool) (t_thrown' : Int32) (t_now' : Nat → Int32) (h : fX11_dead t_thrown t_now x1 x2 = some (b0, t_thrown', t_now')) : Met l yX11_dead wsX11_dead ({ frames := 2, cells := 0, slots := 0, locals := 41 } : Room) (va_Pc [.ref a_t, .int x1, .int x2] (zPre D (zT cB cI cZ) [(a_t, .inr (11, [.int t_thrown, .ref a_t_now, .ref a_t_kept, .int t_isKept, .ref a_t_text, .int t_length, .ref a_t_passing, .int t_at, .int t_fault, .int t_open, .int t_asked, .int t_byGun, .int t_prizeMost, .ref a_t_order, .ref a_t_times, .int t_listed])), (a_t_now, .inl (cI, 1562, .inl t_now))] sz)) (zQi (zb b0) D (zT cB cI cZ) [(a_t, .inr (11, [.int t_thrown', .ref a_t_now, .ref a_t_kept, .int t_isKept, .ref a_t_text, .int t_length, .ref a_t_passing, .int t_at, .int t_fault, .int t_open, .int t_asked, .int t_byGun, .int t_prizeMost, .ref a_t_order, .ref a_t_times, .int t_listed])), (a_t_now, .inl (cI, 1562, .inl t_now'))] (va_A [(a_t, .inr (11, [.int t_thrown, .ref a_t_now, .ref a_t_kept, .int t_isKept, .ref a_t_text, .int t_length, .ref a_t_passing, .int t_at, .int t_fault, .int t_open, .int t_asked, .int t_byGun, .int t_prizeMost, .ref a_t_order, .ref a_t_times, .int t_listed])), (a_t_now, .inl (cI, 1562, .inl t_now))] sz)) 0 0 (va_A [(a_t, .inr (11, [.int t_thrown, .ref a_t_now, .ref a_t_kept, .int t_isKept, .ref a_t_text, .int t_length, .ref a_t_passing, .int t_at, .int t_fault, .int t_open, .int t_asked, .int t_byGun, .int t_prizeMost, .ref a_t_order, .ref a_t_times, .int t_listed])), (a_t_now, .inl (cI, 1562, .inl t_now))] sz) := by
  refine Met.ofW (cc := cX11_dead) (maxL := 3) (ret := (some .boolean)) (by decide) rfl ?_
  intro p e s m args below meth c s₁ B hml hv
  obtain ⟨rfl, hsz, hP, hK, hN, hZ, hD0⟩ := hv
  have hx := B.exec
  have hb := B.bytes
  have hr := B.returns
  have hts := atoms_spec (ws := wsX11_dead) B.pre
  have hown : s.vm.findClass RX11 = some m.cls := findClass_of_methodNamed B.named
  have hlocks := B.notSynchronized
  subst hsz
  have hD := hD0.self (sz := s.heap.size)
  generalize hAe : va_A [(a_t, .inr (11, [.int t_thrown, .ref a_t_now, .ref a_t_kept, .int t_isKept, .ref a_t_text, .int t_length, .ref a_t_passing, .int t_at, .int t_fault, .int t_open, .int t_asked, .int t_byGun, .int t_prizeMost, .ref a_t_order, .ref a_t_times, .int t_listed])), (a_t_now, .inl (cI, 1562, .inl t_now))] s.heap.size = A at hD hZ ⊢
  have hA : ∀ q : Nat, s.heap.size ≤ q → A q := fun q h => by rw [← hAe]; exact Or.inr h
  have hS : va_S A s.heap s.heap [] := va_S.rf
  have hl := lv_entry ([.ref a_t, .int x1, .int x2]) (n := 3) (Nat.le_of_ble_eq_true rfl)
  rw [lg_entry_eq]
  generalize (lg_sl ([.ref a_t, .int x1, .int x2]) ++ List.replicate (3 - (lg_sl ([.ref a_t, .int x1, .int x2])).length) Slot.unset).toArray = ls at hl ⊢
  have hl : lv_has ls 3 [(0, .ref a_t), (1, .int x1), (2, .int x2)] := hl
  unfold fX11_dead at h
  refine lv_aload_n hx hb dX11_dead_0 rfl (lv_at hl 0 rfl) ?_
  refine lv_iconst (v := (0 : Int32)) hx hb dX11_dead_1 rfl ?_
  refine va_put (D := D) (ci := 11) (ty := .int) (C := RX11) (T := TX11) (N := 16) hx hb hts qX11_dead_X11 tyX11 tyX11_ok nmX11 hown hK hP hD hS 0 rfl rfl 0 (by decide) (hts _ kX11_dead_0) (fun _ h9 => h9) rfl (by decide +kernel) rfl (by first | rfl | exact zz_fit) (Nat.le_of_ble_eq_true rfl) dX11_dead_2 (fun H locs hP hD hS => ?_)
  have hP : va_P D vwCl [(a_t, .inr (11, [.int (0 : Int32), .ref a_t_now, .ref a_t_kept, .int t_isKept, .ref a_t_text, .int t_length, .ref a_t_passing, .int t_at, .int t_fault, .int t_open, .int t_asked, .int t_byGun, .int t_prizeMost, .ref a_t_order, .ref a_t_times, .int t_listed])), (a_t_now, .inl (cI, 1562, .inl t_now))] H := hP
  have hD : va_D A [(a_t, .inr (11, [.int (0 : Int32), .ref a_t_now, .ref a_t_kept, .int t_isKept, .ref a_t_text, .int t_length, .ref a_t_passing, .int t_at, .int t_fault, .int t_open, .int t_asked, .int t_byGun, .int t_prizeMost, .ref a_t_order, .ref a_t_times, .int t_listed])), (a_t_now, .inl (cI, 1562, .inl t_now))] := hD
  refine lv_aload_n hx hb dX11_dead_5 rfl (lv_at hl 0 rfl) ?_
  refine lv_iload_n hx hb dX11_dead_6 rfl (lv_at hl 1 rfl) ?_
  obtain ⟨b1, e2, h⟩ := zz_b h
  refine zVi (As := [.int x1]) (rest := []) (C := RX11) (wr := []) [0, 1] [] 0 ⟨hx, hb, hml, hown, hts⟩ (mX11_isMat l D cB cI cZ a_t a_t_now a_t_kept a_t_text a_t_passing a_t_order a_t_times (0 : Int32) t_isKept t_length t_at t_fault t_open t_asked t_byGun t_prizeMost t_listed t_now H.size x1 b1 e2) (cwV 1 hts gX11_dead_X11_isMat rfl rfl rfl (by decide +kernel) ⟨Nat.le_of_ble_eq_true rfl, Nat.le_of_ble_eq_true rfl⟩) hK hN hZ hP hD hS hA rfl rfl rfl rfl rfl rfl rfl rfl hl.1 rfl (lv_room (Nat.le_of_ble_eq_true rfl)) dX11_dead_7 ⟨Nat.le_of_ble_eq_true rfl, Nat.le_of_ble_eq_true rfl⟩ (fun H locs hP hD hS => ?_)
  have hP : va_P D vwCl [(a_t, .inr (11, [.int (0 : Int32), .ref a_t_now, .ref a_t_kept, .int t_isKept, .ref a_t_text, .int t_length, .ref a_t_passing, .int t_at, .int t_fault, .int t_open, .int t_asked, .int t_byGun, .int t_prizeMost, .ref a_t_order, .ref a_t_times, .int t_listed])), (a_t_now, .inl (cI, 1562, .inl t_now))] H := hP
  have hD : va_D A [(a_t, .inr (11, [.int (0 : Int32), .ref a_t_now, .ref a_t_kept, .int t_isKept, .ref a_t_text, .int t_length, .ref a_t_passing, .int t_at, .int t_fault, .int t_open, .int t_asked, .int t_byGun, .int t_prizeMost, .ref a_t_order, .ref a_t_times, .int t_listed])), (a_t_now, .inl (cI, 1562, .inl t_now))] := hD
  refine lv_if_ne (tgt := 15) hx hb dX11_dead_10 (by decide) (fun c3 => ?_) (fun c3 => ?_)
  · have h := zz_f h c3
    refine lv_aload_n hx hb dX11_dead_15 rfl (lv_at hl 0 rfl) ?_
    refine va_get (D := D) (ci := 11) (C := RX11) (T := TX11) (N := 16) hx hb hts qX11_dead_X11 hown hK hP 0 rfl rfl 1 (by decide) (hts _ kX11_dead_2) (fun _ h9 => h9) rfl dX11_dead_16 ?_
    refine lv_bipush (v := (8 : Int32)) hx hb dX11_dead_19 rfl ?_
    refine lv_iconst (v := (4 : Int32)) hx hb dX11_dead_21 rfl ?_
    refine lv_iload_n hx hb dX11_dead_22 rfl (lv_at hl 1 rfl) ?_
    refine lv_imul hx hb dX11_dead_23 ?_
    refine lv_iadd hx hb dX11_dead_24 ?_
    refine lv_iconst (v := (2 : Int32)) hx hb dX11_dead_25 rfl ?_
    refine lv_iadd hx hb dX11_dead_26 ?_
    refine lv_iload_n hx hb dX11_dead_27 rfl (lv_at hl 2 rfl) ?_
    refine lv_if_eq (tgt := 35) hx hb dX11_dead_28 (by decide) (fun c4 => ?_) (fun c4 => ?_)
    · have h := zz_t h c4
      refine lv_iconst (v := (0 : Int32)) hx hb dX11_dead_35 rfl ?_
      obtain ⟨i5, h⟩ := zz_i h
      refine va_iast hx hb hK hP hD hS 1 1 rfl rfl i5 dX11_dead_36 (fun H locs hP hD hS => ?_)
      have hP : va_P D vwCl [(a_t, .inr (11, [.int (0 : Int32), .ref a_t_now, .ref a_t_kept, .int t_isKept, .ref a_t_text, .int t_length, .ref a_t_passing, .int t_at, .int t_fault, .int t_open, .int t_asked, .int t_byGun, .int t_prizeMost, .ref a_t_order, .ref a_t_times, .int t_listed])), (a_t_now, .inl (cI, 1562, .inl (upd t_now ((((8 : Int32) + ((4 : Int32) * x1)) + (2 : Int32))).toNatClampNeg (0 : Int32))))] H := hP
      have hD : va_D A [(a_t, .inr (11, [.int (0 : Int32), .ref a_t_now, .ref a_t_kept, .int t_isKept, .ref a_t_text, .int t_length, .ref a_t_passing, .int t_at, .int t_fault, .int t_open, .int t_asked, .int t_byGun, .int t_prizeMost, .ref a_t_order, .ref a_t_times, .int t_listed])), (a_t_now, .inl (cI, 1562, .inl (upd t_now ((((8 : Int32) + ((4 : Int32) * x1)) + (2 : Int32))).toNatClampNeg (0 : Int32))))] := hD
      refine lv_iconst (v := (1 : Int32)) hx hb dX11_dead_37 rfl ?_
      obtain ⟨j0_, g_⟩ := Prod.mk.inj (Option.some.inj h)
      obtain ⟨j1_, g_⟩ := Prod.mk.inj g_
      have j2_ := g_
      subst j0_
      subst j1_
      subst j2_
      exact W.zret (v := (1 : Int32)) hx hb hr rfl (fun t ht hW => ⟨⟨_, (), rfl, rfl, zPost.of hP hD hK ht hW [0, 1] rfl rfl rfl⟩, hS.F ht⟩) hS.2.2 dX11_dead_38
    · have h := zz_f h c4
      refine lv_iconst (v := (1 : Int32)) hx hb dX11_dead_31 rfl ?_
      refine lv_goto (tgt := 36) hx hb dX11_dead_32 (by decide) ?_
      obtain ⟨i6, h⟩ := zz_i h
      refine va_iast hx hb hK hP hD hS 1 1 rfl rfl i6 dX11_dead_36 (fun H locs hP hD hS => ?_)
      have hP : va_P D vwCl [(a_t, .inr (11, [.int (0 : Int32), .ref a_t_now, .ref a_t_kept, .int t_isKept, .ref a_t_text, .int t_length, .ref a_t_passing, .int t_at, .int t_fault, .int t_open, .int t_asked, .int t_byGun, .int t_prizeMost, .ref a_t_order, .ref a_t_times, .int t_listed])), (a_t_now, .inl (cI, 1562, .inl (upd t_now ((((8 : Int32) + ((4 : Int32) * x1)) + (2 : Int32))).toNatClampNeg (1 : Int32))))] H := hP
      have hD : va_D A [(a_t, .inr (11, [.int (0 : Int32), .ref a_t_now, .ref a_t_kept, .int t_isKept, .ref a_t_text, .int t_length, .ref a_t_passing, .int t_at, .int t_fault, .int t_open, .int t_asked, .int t_byGun, .int t_prizeMost, .ref a_t_order, .ref a_t_times, .int t_listed])), (a_t_now, .inl (cI, 1562, .inl (upd t_now ((((8 : Int32) + ((4 : Int32) * x1)) + (2 : Int32))).toNatClampNeg (1 : Int32))))] := hD
      refine lv_iconst (v := (1 : Int32)) hx hb dX11_dead_37 rfl ?_
      obtain ⟨j0_, g_⟩ := Prod.mk.inj (Option.some.inj h)
      obtain ⟨j1_, g_⟩ := Prod.mk.inj g_
      have j2_ := g_
      subst j0_
      subst j1_
      subst j2_
      exact W.zret (v := (1 : Int32)) hx hb hr rfl (fun t ht hW => ⟨⟨_, (), rfl, rfl, zPost.of hP hD hK ht hW [0, 1] rfl rfl rfl⟩, hS.F ht⟩) hS.2.2 dX11_dead_38
  · have h := zz_t h c3
    refine lv_iconst (v := (0 : Int32)) hx hb dX11_dead_13 rfl ?_
    obtain ⟨j0_, g_⟩ := Prod.mk.inj (Option.some.inj h)
    obtain ⟨j1_, g_⟩ := Prod.mk.inj g_
    have j2_ := g_
    subst j0_
    subst j1_
    subst j2_
    exact W.zret (v := (0 : Int32)) hx hb hr rfl (fun t ht hW => ⟨⟨_, (), rfl, rfl, zPost.of hP hD hK ht hW [0, 1] rfl rfl rfl⟩, hS.F ht⟩) hS.2.2 dX11_dead_14
/-! RunDeskModel.tear -/
theorem dX11_tear_0 : decode cX11_tear 0 = .ok (.aload_n 0, 1) := by decide +kernel
theorem dX11_tear_1 : decode cX11_tear 1 = .ok (.iload_n 1, 1) := by decide +kernel
theorem dX11_tear_2 : decode cX11_tear 2 = .ok (.invokevirtual 65, 3) := by decide +kernel
theorem dX11_tear_5 : decode cX11_tear 5 = .ok (.ifCond .eq 11, 3) := by decide +kernel
theorem dX11_tear_8 : decode cX11_tear 8 = .ok (.aload_n 0, 1) := by decide +kernel
theorem dX11_tear_9 : decode cX11_tear 9 = .ok (.iload_n 2, 1) := by decide +kernel
theorem dX11_tear_10 : decode cX11_tear 10 = .ok (.invokevirtual 69, 3) := by decide +kernel
theorem dX11_tear_13 : decode cX11_tear 13 = .ok (.ifCond .ne 5, 3) := by decide +kernel
theorem dX11_tear_16 : decode cX11_tear 16 = .ok (.iconst 0, 1) := by decide +kernel
theorem dX11_tear_17 : decode cX11_tear 17 = .ok (.ireturn, 1) := by decide +kernel
theorem dX11_tear_18 : decode cX11_tear 18 = .ok (.aload_n 0, 1) := by decide +kernel
theorem dX11_tear_19 : decode cX11_tear 19 = .ok (.iload_n 1, 1) := by decide +kernel
theorem dX11_tear_20 : decode cX11_tear 20 = .ok (.iload_n 2, 1) := by decide +kernel
theorem dX11_tear_21 : decode cX11_tear 21 = .ok (.invokevirtual 72, 3) := by decide +kernel
theorem dX11_tear_24 : decode cX11_tear 24 = .ok (.ifCond .ne 11, 3) := by decide +kernel
theorem dX11_tear_27 : decode cX11_tear 27 = .ok (.aload_n 0, 1) := by decide +kernel
theorem dX11_tear_28 : decode cX11_tear 28 = .ok (.iload_n 1, 1) := by decide +kernel
theorem dX11_tear_29 : decode cX11_tear 29 = .ok (.bipush 9, 2) := by decide +kernel
theorem dX11_tear_31 : decode cX11_tear 31 = .ok (.iload_n 2, 1) := by decide +kernel
theorem dX11_tear_32 : decode cX11_tear 32 = .ok (.invokevirtual 48, 3) := by decide +kernel
theorem dX11_tear_35 : decode cX11_tear 35 = .ok (.iload_n 2, 1) := by decide +kernel
theorem dX11_tear_36 : decode cX11_tear 36 = .ok (.istore_n 3, 1) := by decide +kernel
theorem dX11_tear_37 : decode cX11_tear 37 = .ok (.iload_n 3, 1) := by decide +kernel
theorem dX11_tear_38 : decode cX11_tear 38 = .ok (.bipush 12, 2) := by decide +kernel
theorem dX11_tear_40 : decode cX11_tear 40 = .ok (.if_icmp .ge 19, 3) := by decide +kernel
theorem dX11_tear_43 : decode cX11_tear 43 = .ok (.aload_n 0, 1) := by decide +kernel
theorem dX11_tear_44 : decode cX11_tear 44 = .ok (.iload_n 1, 1) := by decide +kernel
theorem dX11_tear_45 : decode cX11_tear 45 = .ok (.bipush 12, 2) := by decide +kernel
theorem dX11_tear_47 : decode cX11_tear 47 = .ok (.iload_n 3, 1) := by decide +kernel
theorem dX11_tear_48 : decode cX11_tear 48 = .ok (.iadd, 1) := by decide +kernel
theorem dX11_tear_49 : decode cX11_tear 49 = .ok (.iconst (-1), 1) := by decide +kernel
theorem dX11_tear_50 : decode cX11_tear 50 = .ok (.invokevirtual 48, 3) := by decide +kernel
theorem dX11_tear_53 : decode cX11_tear 53 = .ok (.iinc 3 1, 3) := by decide +kernel
theorem dX11_tear_56 : decode cX11_tear 56 = .ok (.goto (-19), 3) := by decide +kernel
theorem dX11_tear_59 : decode cX11_tear 59 = .ok (.iconst 1, 1) := by decide +kernel
theorem dX11_tear_60 : decode cX11_tear 60 = .ok (.ireturn, 1) := by decide +kernel
set_option maxRecDepth 20000 in
theorem ggX11_tear_X11_isRunner : GoodIn wsX11_tear wsX11_isRunner := goodIn_r _ [5, 6, 7, 8, 9, 4, 10, 11, 32, 33, 34, 35, 36, 37, 38, 39, 40, 41, 42, 43, 44, 45, 46, 47] (by decide +kernel) (by decide +kernel)
set_option maxRecDepth 20000 in
theorem gX11_tear_X11_isRunner : GoodIn wsX11_tear (wsV RX11 65 RX11 yX11_isRunner wsX11_isRunner) := goodIn_app (goodIn_of _ (by decide +kernel)) ggX11_tear_X11_isRunner
set_option maxRecDepth 20000 in
theorem ggX11_tear_X11_isMat : GoodIn wsX11_tear wsX11_isMat := goodIn_r _ [15, 16, 17, 18, 4, 19, 11, 32, 33, 34, 35, 36, 37, 38, 39, 40, 41, 42, 43, 44, 45, 46, 47] (by decide +kernel) (by decide +kernel)
set_option maxRecDepth 20000 in
theorem gX11_tear_X11_isMat : GoodIn wsX11_tear (wsV RX11 69 RX11 yX11_isMat wsX11_isMat) := goodIn_app (goodIn_of _ (by decide +kernel)) ggX11_tear_X11_isMat
set_option maxRecDepth 20000 in
theorem ggX11_tear_X11_isTorn : GoodIn wsX11_tear wsX11_isTorn := goodIn_r _ [23, 24, 25, 26, 4, 27, 11, 32, 33, 34, 35, 36, 37, 38, 39, 40, 41, 42, 43, 44, 45, 46, 47] (by decide +kernel) (by decide +kernel)
set_option maxRecDepth 20000 in
theorem gX11_tear_X11_isTorn : GoodIn wsX11_tear (wsV RX11 72 RX11 yX11_isTorn wsX11_isTorn) := goodIn_app (goodIn_of _ (by decide +kernel)) ggX11_tear_X11_isTorn
set_option maxRecDepth 20000 in
theorem ggX11_tear_X11_put : GoodIn wsX11_tear wsX11_put := goodIn_r _ [31, 11, 32, 33, 34, 35, 36, 37, 38, 39, 40, 41, 42, 43, 44, 45, 46, 47] (by decide +kernel) (by decide +kernel)
set_option maxRecDepth 20000 in
theorem gX11_tear_X11_put : GoodIn wsX11_tear (wsV RX11 48 RX11 yX11_put wsX11_put) := goodIn_app (goodIn_of _ (by decide +kernel)) ggX11_tear_X11_put
def fX11_tear_L37 (x1 : Int32) (K37_59 : Int32 → (Nat → Int32) → Option (Bool × Int32 × (Nat → Int32))) : Nat → Int32 → (Nat → Int32) → Option (Bool × Int32 × (Nat → Int32))
  | 0, _, _ => none
  | n37 + 1, v3_37, t_now_37 => (if (12 : Int32) ≤ v3_37 then (K37_59 v3_37 t_now_37) else ((fX11_put t_now_37 x1 ((12 : Int32) + v3_37) (-1 : Int32)).bind (fun t_now_12 => (fX11_tear_L37 x1 K37_59 n37 (v3_37 + (1 : Int32)) t_now_12))))
def fX11_tear_L37 (x1 : Int32) (K37_59 : Int32 → (Nat → Int32) → Option (Bool × Int32 × (Nat → Int32))) : Nat → Int32 → (Nat → Int32) → Option (Bool × Int32 × (Nat → Int32))
  | 0, _, _ => none
  | n37 + 1, v3_37, t_now_37 => (if (12 : Int32) ≤ v3_37 then (K37_59 v3_37 t_now_37) else ((fX11_put t_now_37 x1 ((12 : Int32) + v3_37) (-1 : Int32)).bind (fun t_now_17 => (fX11_tear_L37 x1 K37_59 n37 (v3_37 + (1 : Int32)) t_now_17))))
def fX11_tear (N : Nat) (t_thrown : Int32) (t_now : Nat → Int32) (x1 : Int32) (x2 : Int32) : Option (Bool × Int32 × (Nat → Int32)) := ((fX11_isRunner t_thrown t_now x1).bind (fun (b1, t_thrown_2) => (if (zb b1) = 0 then some (false, t_thrown_2, t_now) else ((fX11_isMat t_now x2).bind (fun b5 => (if (zb b5) = 0 then some (false, t_thrown_2, t_now) else ((fX11_isTorn t_now x1 x2).bind (fun b8 => (if (zb b8) = 0 then ((fX11_put t_now x1 (9 : Int32) x2).bind (fun t_now_14 => fX11_tear_L37 x1 (fun (v3_37 : Int32) (t_now_37 : Nat → Int32) => some (true, t_thrown_2, t_now_37)) N x2 t_now_14)) else fX11_tear_L37 x1 (fun (v3_37 : Int32) (t_now_37 : Nat → Int32) => some (true, t_thrown_2, t_now_37)) N x2 t_now)))))))))
set_option maxHeartbeats 4000000 in
set_option maxRecDepth 100000 in
theorem mX11_tear (l : Launch) (D : va_G) (cB cI cZ : ClassId) (a_t : Nat) (a_t_now : Nat) (a_t_kept : Nat) (a_t_text : Nat) (a_t_passing : Nat) (a_t_order : Nat) (a_t_times : Nat) (t_thrown : Int32) (t_isKept : Int32) (t_length : Int32) (t_at : Int32) (t_fault : Int32) (t_open : Int32) (t_asked : Int32) (t_byGun : Int32) (t_prizeMost : Int32) (t_listed : Int32) (t_now : Nat → Int32) (sz : Nat) (x1 : Int32) (x2 : Int32) (N : Nat) (b0 : Bool) (t_thrown' : Int32) (t_now' : Nat → Int32) (h : fX11_tear N t_thrown t_now x1 x2 = some (b0, t_thrown', t_now')) : Met l yX11_tear wsX11_tear ({ frames := 2, cells := 0, slots := 0, locals := 44 } : Room) (va_Pc [.ref a_t, .int x1, .int x2] (zPre D (zT cB cI cZ) [(a_t, .inr (11, [.int t_thrown, .ref a_t_now, .ref a_t_kept, .int t_isKept, .ref a_t_text, .int t_length, .ref a_t_passing, .int t_at, .int t_fault, .int t_open, .int t_asked, .int t_byGun, .int t_prizeMost, .ref a_t_order, .ref a_t_times, .int t_listed])), (a_t_now, .inl (cI, 1562, .inl t_now))] sz)) (zQi (zb b0) D (zT cB cI cZ) [(a_t, .inr (11, [.int t_thrown', .ref a_t_now, .ref a_t_kept, .int t_isKept, .ref a_t_text, .int t_length, .ref a_t_passing, .int t_at, .int t_fault, .int t_open, .int t_asked, .int t_byGun, .int t_prizeMost, .ref a_t_order, .ref a_t_times, .int t_listed])), (a_t_now, .inl (cI, 1562, .inl t_now'))] (va_A [(a_t, .inr (11, [.int t_thrown, .ref a_t_now, .ref a_t_kept, .int t_isKept, .ref a_t_text, .int t_length, .ref a_t_passing, .int t_at, .int t_fault, .int t_open, .int t_asked, .int t_byGun, .int t_prizeMost, .ref a_t_order, .ref a_t_times, .int t_listed])), (a_t_now, .inl (cI, 1562, .inl t_now))] sz)) 0 0 (va_A [(a_t, .inr (11, [.int t_thrown, .ref a_t_now, .ref a_t_kept, .int t_isKept, .ref a_t_text, .int t_length, .ref a_t_passing, .int t_at, .int t_fault, .int t_open, .int t_asked, .int t_byGun, .int t_prizeMost, .ref a_t_order, .ref a_t_times, .int t_listed])), (a_t_now, .inl (cI, 1562, .inl t_now))] sz) := by
  refine Met.ofW (cc := cX11_tear) (maxL := 4) (ret := (some .boolean)) (by decide) rfl ?_
  intro p e s m args below meth c s₁ B hml hv
  obtain ⟨rfl, hsz, hP, hK, hN, hZ, hD0⟩ := hv
  have hx := B.exec
  have hb := B.bytes
  have hr := B.returns
  have hts := atoms_spec (ws := wsX11_tear) B.pre
  have hown : s.vm.findClass RX11 = some m.cls := findClass_of_methodNamed B.named
  have hlocks := B.notSynchronized
  subst hsz
  have hD := hD0.self (sz := s.heap.size)
  generalize hAe : va_A [(a_t, .inr (11, [.int t_thrown, .ref a_t_now, .ref a_t_kept, .int t_isKept, .ref a_t_text, .int t_length, .ref a_t_passing, .int t_at, .int t_fault, .int t_open, .int t_asked, .int t_byGun, .int t_prizeMost, .ref a_t_order, .ref a_t_times, .int t_listed])), (a_t_now, .inl (cI, 1562, .inl t_now))] s.heap.size = A at hD hZ ⊢
  have hA : ∀ q : Nat, s.heap.size ≤ q → A q := fun q h => by rw [← hAe]; exact Or.inr h
  have hS : va_S A s.heap s.heap [] := va_S.rf
  have hl := lv_entry ([.ref a_t, .int x1, .int x2]) (n := 4) (Nat.le_of_ble_eq_true rfl)
  rw [lg_entry_eq]
  generalize (lg_sl ([.ref a_t, .int x1, .int x2]) ++ List.replicate (4 - (lg_sl ([.ref a_t, .int x1, .int x2])).length) Slot.unset).toArray = ls at hl ⊢
  have hl : lv_has ls 4 [(0, .ref a_t), (1, .int x1), (2, .int x2)] := hl
  unfold fX11_tear at h
  refine lv_aload_n hx hb dX11_tear_0 rfl (lv_at hl 0 rfl) ?_
  refine lv_iload_n hx hb dX11_tear_1 rfl (lv_at hl 1 rfl) ?_
  obtain ⟨⟨b1, t_thrown_2⟩, e3, h⟩ := zz_b h
  dsimp only at h
  refine zVi (As := [.int x1]) (rest := []) (C := RX11) (wr := []) [0, 1] [] 0 ⟨hx, hb, hml, hown, hts⟩ (mX11_isRunner l D cB cI cZ a_t a_t_now a_t_kept a_t_text a_t_passing a_t_order a_t_times t_thrown t_isKept t_length t_at t_fault t_open t_asked t_byGun t_prizeMost t_listed t_now s.heap.size x1 b1 t_thrown_2 e3) (cwV 1 hts gX11_tear_X11_isRunner rfl rfl rfl (by decide +kernel) ⟨Nat.le_of_ble_eq_true rfl, Nat.le_of_ble_eq_true rfl⟩) hK hN hZ hP hD hS hA rfl rfl rfl rfl rfl rfl rfl rfl hl.1 rfl (lv_room (Nat.le_of_ble_eq_true rfl)) dX11_tear_2 ⟨Nat.le_of_ble_eq_true rfl, Nat.le_of_ble_eq_true rfl⟩ (fun H locs hP hD hS => ?_)
  have hP : va_P D vwCl [(a_t, .inr (11, [.int t_thrown_2, .ref a_t_now, .ref a_t_kept, .int t_isKept, .ref a_t_text, .int t_length, .ref a_t_passing, .int t_at, .int t_fault, .int t_open, .int t_asked, .int t_byGun, .int t_prizeMost, .ref a_t_order, .ref a_t_times, .int t_listed])), (a_t_now, .inl (cI, 1562, .inl t_now))] H := hP
  have hD : va_D A [(a_t, .inr (11, [.int t_thrown_2, .ref a_t_now, .ref a_t_kept, .int t_isKept, .ref a_t_text, .int t_length, .ref a_t_passing, .int t_at, .int t_fault, .int t_open, .int t_asked, .int t_byGun, .int t_prizeMost, .ref a_t_order, .ref a_t_times, .int t_listed])), (a_t_now, .inl (cI, 1562, .inl t_now))] := hD
  refine lv_if_eq (tgt := 16) hx hb dX11_tear_5 (by decide) (fun c4 => ?_) (fun c4 => ?_)
  · have h := zz_t h c4
    refine lv_iconst (v := (0 : Int32)) hx hb dX11_tear_16 rfl ?_
    obtain ⟨j0_, g_⟩ := Prod.mk.inj (Option.some.inj h)
    obtain ⟨j1_, g_⟩ := Prod.mk.inj g_
    have j2_ := g_
    subst j0_
    subst j1_
    subst j2_
    exact W.zret (v := (0 : Int32)) hx hb hr rfl (fun t ht hW => ⟨⟨_, (), rfl, rfl, zPost.of hP hD hK ht hW [0, 1] rfl rfl rfl⟩, hS.F ht⟩) hS.2.2 dX11_tear_17
  · have h := zz_f h c4
    refine lv_aload_n hx hb dX11_tear_8 rfl (lv_at hl 0 rfl) ?_
    refine lv_iload_n hx hb dX11_tear_9 rfl (lv_at hl 2 rfl) ?_
    obtain ⟨b5, e6, h⟩ := zz_b h
    refine zVi (As := [.int x2]) (rest := []) (C := RX11) (wr := []) [0, 1] [] 0 ⟨hx, hb, hml, hown, hts⟩ (mX11_isMat l D cB cI cZ a_t a_t_now a_t_kept a_t_text a_t_passing a_t_order a_t_times t_thrown_2 t_isKept t_length t_at t_fault t_open t_asked t_byGun t_prizeMost t_listed t_now H.size x2 b5 e6) (cwV 1 hts gX11_tear_X11_isMat rfl rfl rfl (by decide +kernel) ⟨Nat.le_of_ble_eq_true rfl, Nat.le_of_ble_eq_true rfl⟩) hK hN hZ hP hD hS hA rfl rfl rfl rfl rfl rfl rfl rfl hl.1 rfl (lv_room (Nat.le_of_ble_eq_true rfl)) dX11_tear_10 ⟨Nat.le_of_ble_eq_true rfl, Nat.le_of_ble_eq_true rfl⟩ (fun H locs hP hD hS => ?_)
    have hP : va_P D vwCl [(a_t, .inr (11, [.int t_thrown_2, .ref a_t_now, .ref a_t_kept, .int t_isKept, .ref a_t_text, .int t_length, .ref a_t_passing, .int t_at, .int t_fault, .int t_open, .int t_asked, .int t_byGun, .int t_prizeMost, .ref a_t_order, .ref a_t_times, .int t_listed])), (a_t_now, .inl (cI, 1562, .inl t_now))] H := hP
    have hD : va_D A [(a_t, .inr (11, [.int t_thrown_2, .ref a_t_now, .ref a_t_kept, .int t_isKept, .ref a_t_text, .int t_length, .ref a_t_passing, .int t_at, .int t_fault, .int t_open, .int t_asked, .int t_byGun, .int t_prizeMost, .ref a_t_order, .ref a_t_times, .int t_listed])), (a_t_now, .inl (cI, 1562, .inl t_now))] := hD
    refine lv_if_ne (tgt := 18) hx hb dX11_tear_13 (by decide) (fun c7 => ?_) (fun c7 => ?_)
    · have h := zz_f h c7
      refine lv_aload_n hx hb dX11_tear_18 rfl (lv_at hl 0 rfl) ?_
      refine lv_iload_n hx hb dX11_tear_19 rfl (lv_at hl 1 rfl) ?_
      refine lv_iload_n hx hb dX11_tear_20 rfl (lv_at hl 2 rfl) ?_
      obtain ⟨b8, e9, h⟩ := zz_b h
      refine zVi (As := [.int x1, .int x2]) (rest := []) (C := RX11) (wr := []) [0, 1] [] 0 ⟨hx, hb, hml, hown, hts⟩ (mX11_isTorn l D cB cI cZ a_t a_t_now a_t_kept a_t_text a_t_passing a_t_order a_t_times t_thrown_2 t_isKept t_length t_at t_fault t_open t_asked t_byGun t_prizeMost t_listed t_now H.size x1 x2 b8 e9) (cwV 2 hts gX11_tear_X11_isTorn rfl rfl rfl (by decide +kernel) ⟨Nat.le_of_ble_eq_true rfl, Nat.le_of_ble_eq_true rfl⟩) hK hN hZ hP hD hS hA rfl rfl rfl rfl rfl rfl rfl rfl hl.1 rfl (lv_room (Nat.le_of_ble_eq_true rfl)) dX11_tear_21 ⟨Nat.le_of_ble_eq_true rfl, Nat.le_of_ble_eq_true rfl⟩ (fun H locs hP hD hS => ?_)
      have hP : va_P D vwCl [(a_t, .inr (11, [.int t_thrown_2, .ref a_t_now, .ref a_t_kept, .int t_isKept, .ref a_t_text, .int t_length, .ref a_t_passing, .int t_at, .int t_fault, .int t_open, .int t_asked, .int t_byGun, .int t_prizeMost, .ref a_t_order, .ref a_t_times, .int t_listed])), (a_t_now, .inl (cI, 1562, .inl t_now))] H := hP
      have hD : va_D A [(a_t, .inr (11, [.int t_thrown_2, .ref a_t_now, .ref a_t_kept, .int t_isKept, .ref a_t_text, .int t_length, .ref a_t_passing, .int t_at, .int t_fault, .int t_open, .int t_asked, .int t_byGun, .int t_prizeMost, .ref a_t_order, .ref a_t_times, .int t_listed])), (a_t_now, .inl (cI, 1562, .inl t_now))] := hD
      refine lv_if_ne (tgt := 35) hx hb dX11_tear_24 (by decide) (fun c10 => ?_) (fun c10 => ?_)
      · have h := zz_f h c10
        refine lv_iload_n hx hb dX11_tear_35 rfl (lv_at hl 2 rfl) ?_
        refine lv_istore_n (lv' := [(3, .int x2), (0, .ref a_t), (1, .int x1), (2, .int x2)]) hx hb dX11_tear_36 rfl hl (by decide) rfl (fun ls hl => ?_)
        have L37 : ∀ (n : Nat) (v3_37 : Int32) (t_now_37 : Nat → Int32) (H : Heap) (locs : List Loc) (ls : Array Slot), fX11_tear_L37 x1 (fun (v3_37 : Int32) (t_now_37 : Nat → Int32) => some (true, t_thrown_2, t_now_37)) n v3_37 t_now_37 = some (b0, t_thrown', t_now') → va_P D vwCl [(a_t, .inr (11, [.int t_thrown_2, .ref a_t_now, .ref a_t_kept, .int t_isKept, .ref a_t_text, .int t_length, .ref a_t_passing, .int t_at, .int t_fault, .int t_open, .int t_asked, .int t_byGun, .int t_prizeMost, .ref a_t_order, .ref a_t_times, .int t_listed])), (a_t_now, .inl (cI, 1562, .inl t_now_37))] H → va_D A [(a_t, .inr (11, [.int t_thrown_2, .ref a_t_now, .ref a_t_kept, .int t_isKept, .ref a_t_text, .int t_length, .ref a_t_passing, .int t_at, .int t_fault, .int t_open, .int t_asked, .int t_byGun, .int t_prizeMost, .ref a_t_order, .ref a_t_times, .int t_listed])), (a_t_now, .inl (cI, 1562, .inl t_now_37))] → va_S A s.heap H locs → lv_has ls 4 [(3, .int v3_37), (0, .ref a_t), (1, .int x1), (2, .int x2)] → W p l e (headSpec wsX11_tear ({ frames := 2, cells := 0, slots := 0, locals := 44 } : Room)).room s m #[Value.ref a_t, Value.int x1, Value.int x2] below meth c H locs 0 0 (MQ below (zQi (zb b0) D (zT cB cI cZ) [(a_t, .inr (11, [.int t_thrown', .ref a_t_now, .ref a_t_kept, .int t_isKept, .ref a_t_text, .int t_length, .ref a_t_passing, .int t_at, .int t_fault, .int t_open, .int t_asked, .int t_byGun, .int t_prizeMost, .ref a_t_order, .ref a_t_times, .int t_listed])), (a_t_now, .inl (cI, 1562, .inl t_now'))] A) #[Value.ref a_t, Value.int x1, Value.int x2] s 0 0 A) (F0 m 37 ls []) := by
          intro n
          induction n with
          | zero => intro _ _ H locs ls h hP hD hS hl; cases h
          | succ n37 ih37 =>
            intro v3_37 t_now_37 H locs ls h hP hD hS hl
            rw [fX11_tear_L37.eq_2] at h
            refine lv_iload_n hx hb dX11_tear_37 rfl (lv_at hl 0 rfl) ?_
            refine lv_bipush (v := (12 : Int32)) hx hb dX11_tear_38 rfl ?_
            refine lv_icmp_ge (tgt := 59) hx hb dX11_tear_40 (by decide) (fun c11 => ?_) (fun c11 => ?_)
            · have h := zz_t h c11
              refine lv_iconst (v := (1 : Int32)) hx hb dX11_tear_59 rfl ?_
              obtain ⟨j0_, g_⟩ := Prod.mk.inj (Option.some.inj h)
              obtain ⟨j1_, g_⟩ := Prod.mk.inj g_
              have j2_ := g_
              subst j0_
              subst j1_
              subst j2_
              exact W.zret (v := (1 : Int32)) hx hb hr rfl (fun t ht hW => ⟨⟨_, (), rfl, rfl, zPost.of hP hD hK ht hW [0, 1] rfl rfl rfl⟩, hS.F ht⟩) hS.2.2 dX11_tear_60
            · have h := zz_f h c11
              refine lv_aload_n hx hb dX11_tear_43 rfl (lv_at hl 1 rfl) ?_
              refine lv_iload_n hx hb dX11_tear_44 rfl (lv_at hl 2 rfl) ?_
              refine lv_bipush (v := (12 : Int32)) hx hb dX11_tear_45 rfl ?_
              refine lv_iload_n hx hb dX11_tear_47 rfl (lv_at hl 0 rfl) ?_
              refine lv_iadd hx hb dX11_tear_48 ?_
              refine lv_iconst (v := (-1 : Int32)) hx hb dX11_tear_49 rfl ?_
              obtain ⟨t_now_12, e13, h⟩ := zz_b h
              refine zVv (As := [.int x1, .int ((12 : Int32) + v3_37), .int (-1 : Int32)]) (rest := []) (C := RX11) (wr := []) [0, 1] [] 0 ⟨hx, hb, hml, hown, hts⟩ (mX11_put l D cB cI cZ a_t a_t_now a_t_kept a_t_text a_t_passing a_t_order a_t_times t_thrown_2 t_isKept t_length t_at t_fault t_open t_asked t_byGun t_prizeMost t_listed t_now_37 H.size x1 ((12 : Int32) + v3_37) (-1 : Int32) t_now_12 e13) (cwV 3 hts gX11_tear_X11_put rfl rfl rfl (by decide +kernel) ⟨Nat.le_of_ble_eq_true rfl, Nat.le_of_ble_eq_true rfl⟩) hK hN hZ hP hD hS hA rfl rfl rfl rfl rfl rfl rfl rfl hl.1 rfl (lv_room (Nat.le_of_ble_eq_true rfl)) dX11_tear_50 ⟨Nat.le_of_ble_eq_true rfl, Nat.le_of_ble_eq_true rfl⟩ (fun H locs hP hD hS => ?_)
              have hP : va_P D vwCl [(a_t, .inr (11, [.int t_thrown_2, .ref a_t_now, .ref a_t_kept, .int t_isKept, .ref a_t_text, .int t_length, .ref a_t_passing, .int t_at, .int t_fault, .int t_open, .int t_asked, .int t_byGun, .int t_prizeMost, .ref a_t_order, .ref a_t_times, .int t_listed])), (a_t_now, .inl (cI, 1562, .inl t_now_12))] H := hP
              have hD : va_D A [(a_t, .inr (11, [.int t_thrown_2, .ref a_t_now, .ref a_t_kept, .int t_isKept, .ref a_t_text, .int t_length, .ref a_t_passing, .int t_at, .int t_fault, .int t_open, .int t_asked, .int t_byGun, .int t_prizeMost, .ref a_t_order, .ref a_t_times, .int t_listed])), (a_t_now, .inl (cI, 1562, .inl t_now_12))] := hD
              refine lv_iinc (v := (v3_37 + (1 : Int32))) (lv' := [(3, .int (v3_37 + (1 : Int32))), (0, .ref a_t), (1, .int x1), (2, .int x2)]) hx hb dX11_tear_53 hl (k := 0) rfl rfl (by decide) rfl (fun ls hl => ?_)
              refine lv_goto (tgt := 37) hx hb dX11_tear_56 (by decide) ?_
              exact ih37 (v3_37 + (1 : Int32)) t_now_12 _ _ _ h (hP.sub [0, 1] rfl) (hD.sub [0, 1] rfl rfl) hS (lv_sub hl [0, 1, 2, 3] rfl)
        exact L37 N x2 t_now _ _ _ h hP hD hS hl
      · have h := zz_t h c10
        refine lv_aload_n hx hb dX11_tear_27 rfl (lv_at hl 0 rfl) ?_
        refine lv_iload_n hx hb dX11_tear_28 rfl (lv_at hl 1 rfl) ?_
        refine lv_bipush (v := (9 : Int32)) hx hb dX11_tear_29 rfl ?_
        refine lv_iload_n hx hb dX11_tear_31 rfl (lv_at hl 2 rfl) ?_
        obtain ⟨t_now_14, e15, h⟩ := zz_b h
        refine zVv (As := [.int x1, .int (9 : Int32), .int x2]) (rest := []) (C := RX11) (wr := []) [0, 1] [] 0 ⟨hx, hb, hml, hown, hts⟩ (mX11_put l D cB cI cZ a_t a_t_now a_t_kept a_t_text a_t_passing a_t_order a_t_times t_thrown_2 t_isKept t_length t_at t_fault t_open t_asked t_byGun t_prizeMost t_listed t_now H.size x1 (9 : Int32) x2 t_now_14 e15) (cwV 3 hts gX11_tear_X11_put rfl rfl rfl (by decide +kernel) ⟨Nat.le_of_ble_eq_true rfl, Nat.le_of_ble_eq_true rfl⟩) hK hN hZ hP hD hS hA rfl rfl rfl rfl rfl rfl rfl rfl hl.1 rfl (lv_room (Nat.le_of_ble_eq_true rfl)) dX11_tear_32 ⟨Nat.le_of_ble_eq_true rfl, Nat.le_of_ble_eq_true rfl⟩ (fun H locs hP hD hS => ?_)
        have hP : va_P D vwCl [(a_t, .inr (11, [.int t_thrown_2, .ref a_t_now, .ref a_t_kept, .int t_isKept, .ref a_t_text, .int t_length, .ref a_t_passing, .int t_at, .int t_fault, .int t_open, .int t_asked, .int t_byGun, .int t_prizeMost, .ref a_t_order, .ref a_t_times, .int t_listed])), (a_t_now, .inl (cI, 1562, .inl t_now_14))] H := hP
        have hD : va_D A [(a_t, .inr (11, [.int t_thrown_2, .ref a_t_now, .ref a_t_kept, .int t_isKept, .ref a_t_text, .int t_length, .ref a_t_passing, .int t_at, .int t_fault, .int t_open, .int t_asked, .int t_byGun, .int t_prizeMost, .ref a_t_order, .ref a_t_times, .int t_listed])), (a_t_now, .inl (cI, 1562, .inl t_now_14))] := hD
        refine lv_iload_n hx hb dX11_tear_35 rfl (lv_at hl 2 rfl) ?_
        refine lv_istore_n (lv' := [(3, .int x2), (0, .ref a_t), (1, .int x1), (2, .int x2)]) hx hb dX11_tear_36 rfl hl (by decide) rfl (fun ls hl => ?_)
        have L37 : ∀ (n : Nat) (v3_37 : Int32) (t_now_37 : Nat → Int32) (H : Heap) (locs : List Loc) (ls : Array Slot), fX11_tear_L37 x1 (fun (v3_37 : Int32) (t_now_37 : Nat → Int32) => some (true, t_thrown_2, t_now_37)) n v3_37 t_now_37 = some (b0, t_thrown', t_now') → va_P D vwCl [(a_t, .inr (11, [.int t_thrown_2, .ref a_t_now, .ref a_t_kept, .int t_isKept, .ref a_t_text, .int t_length, .ref a_t_passing, .int t_at, .int t_fault, .int t_open, .int t_asked, .int t_byGun, .int t_prizeMost, .ref a_t_order, .ref a_t_times, .int t_listed])), (a_t_now, .inl (cI, 1562, .inl t_now_37))] H → va_D A [(a_t, .inr (11, [.int t_thrown_2, .ref a_t_now, .ref a_t_kept, .int t_isKept, .ref a_t_text, .int t_length, .ref a_t_passing, .int t_at, .int t_fault, .int t_open, .int t_asked, .int t_byGun, .int t_prizeMost, .ref a_t_order, .ref a_t_times, .int t_listed])), (a_t_now, .inl (cI, 1562, .inl t_now_37))] → va_S A s.heap H locs → lv_has ls 4 [(3, .int v3_37), (0, .ref a_t), (1, .int x1), (2, .int x2)] → W p l e (headSpec wsX11_tear ({ frames := 2, cells := 0, slots := 0, locals := 44 } : Room)).room s m #[Value.ref a_t, Value.int x1, Value.int x2] below meth c H locs 0 0 (MQ below (zQi (zb b0) D (zT cB cI cZ) [(a_t, .inr (11, [.int t_thrown', .ref a_t_now, .ref a_t_kept, .int t_isKept, .ref a_t_text, .int t_length, .ref a_t_passing, .int t_at, .int t_fault, .int t_open, .int t_asked, .int t_byGun, .int t_prizeMost, .ref a_t_order, .ref a_t_times, .int t_listed])), (a_t_now, .inl (cI, 1562, .inl t_now'))] A) #[Value.ref a_t, Value.int x1, Value.int x2] s 0 0 A) (F0 m 37 ls []) := by
          intro n
          induction n with
          | zero => intro _ _ H locs ls h hP hD hS hl; cases h
          | succ n37 ih37 =>
            intro v3_37 t_now_37 H locs ls h hP hD hS hl
            rw [fX11_tear_L37.eq_2] at h
            refine lv_iload_n hx hb dX11_tear_37 rfl (lv_at hl 0 rfl) ?_
            refine lv_bipush (v := (12 : Int32)) hx hb dX11_tear_38 rfl ?_
            refine lv_icmp_ge (tgt := 59) hx hb dX11_tear_40 (by decide) (fun c16 => ?_) (fun c16 => ?_)
            · have h := zz_t h c16
              refine lv_iconst (v := (1 : Int32)) hx hb dX11_tear_59 rfl ?_
              obtain ⟨j0_, g_⟩ := Prod.mk.inj (Option.some.inj h)
              obtain ⟨j1_, g_⟩ := Prod.mk.inj g_
              have j2_ := g_
              subst j0_
              subst j1_
              subst j2_
              exact W.zret (v := (1 : Int32)) hx hb hr rfl (fun t ht hW => ⟨⟨_, (), rfl, rfl, zPost.of hP hD hK ht hW [0, 1] rfl rfl rfl⟩, hS.F ht⟩) hS.2.2 dX11_tear_60
            · have h := zz_f h c16
              refine lv_aload_n hx hb dX11_tear_43 rfl (lv_at hl 1 rfl) ?_
              refine lv_iload_n hx hb dX11_tear_44 rfl (lv_at hl 2 rfl) ?_
              refine lv_bipush (v := (12 : Int32)) hx hb dX11_tear_45 rfl ?_
              refine lv_iload_n hx hb dX11_tear_47 rfl (lv_at hl 0 rfl) ?_
              refine lv_iadd hx hb dX11_tear_48 ?_
              refine lv_iconst (v := (-1 : Int32)) hx hb dX11_tear_49 rfl ?_
              obtain ⟨t_now_17, e18, h⟩ := zz_b h
              refine zVv (As := [.int x1, .int ((12 : Int32) + v3_37), .int (-1 : Int32)]) (rest := []) (C := RX11) (wr := []) [0, 1] [] 0 ⟨hx, hb, hml, hown, hts⟩ (mX11_put l D cB cI cZ a_t a_t_now a_t_kept a_t_text a_t_passing a_t_order a_t_times t_thrown_2 t_isKept t_length t_at t_fault t_open t_asked t_byGun t_prizeMost t_listed t_now_37 H.size x1 ((12 : Int32) + v3_37) (-1 : Int32) t_now_17 e18) (cwV 3 hts gX11_tear_X11_put rfl rfl rfl (by decide +kernel) ⟨Nat.le_of_ble_eq_true rfl, Nat.le_of_ble_eq_true rfl⟩) hK hN hZ hP hD hS hA rfl rfl rfl rfl rfl rfl rfl rfl hl.1 rfl (lv_room (Nat.le_of_ble_eq_true rfl)) dX11_tear_50 ⟨Nat.le_of_ble_eq_true rfl, Nat.le_of_ble_eq_true rfl⟩ (fun H locs hP hD hS => ?_)
              have hP : va_P D vwCl [(a_t, .inr (11, [.int t_thrown_2, .ref a_t_now, .ref a_t_kept, .int t_isKept, .ref a_t_text, .int t_length, .ref a_t_passing, .int t_at, .int t_fault, .int t_open, .int t_asked, .int t_byGun, .int t_prizeMost, .ref a_t_order, .ref a_t_times, .int t_listed])), (a_t_now, .inl (cI, 1562, .inl t_now_17))] H := hP
              have hD : va_D A [(a_t, .inr (11, [.int t_thrown_2, .ref a_t_now, .ref a_t_kept, .int t_isKept, .ref a_t_text, .int t_length, .ref a_t_passing, .int t_at, .int t_fault, .int t_open, .int t_asked, .int t_byGun, .int t_prizeMost, .ref a_t_order, .ref a_t_times, .int t_listed])), (a_t_now, .inl (cI, 1562, .inl t_now_17))] := hD
              refine lv_iinc (v := (v3_37 + (1 : Int32))) (lv' := [(3, .int (v3_37 + (1 : Int32))), (0, .ref a_t), (1, .int x1), (2, .int x2)]) hx hb dX11_tear_53 hl (k := 0) rfl rfl (by decide) rfl (fun ls hl => ?_)
              refine lv_goto (tgt := 37) hx hb dX11_tear_56 (by decide) ?_
              exact ih37 (v3_37 + (1 : Int32)) t_now_17 _ _ _ h (hP.sub [0, 1] rfl) (hD.sub [0, 1] rfl rfl) hS (lv_sub hl [0, 1, 2, 3] rfl)
        exact L37 N x2 t_now_14 _ _ _ h hP hD hS hl
    · have h := zz_t h c7
      refine lv_iconst (v := (0 : Int32)) hx hb dX11_tear_16 rfl ?_
      obtain ⟨j0_, g_⟩ := Prod.mk.inj (Option.some.inj h)
      obtain ⟨j1_, g_⟩ := Prod.mk.inj g_
      have j2_ := g_
      subst j0_
      subst j1_
      subst j2_
      exact W.zret (v := (0 : Int32)) hx hb hr rfl (fun t ht hW => ⟨⟨_, (), rfl, rfl, zPost.of hP hD hK ht hW [0, 1] rfl rfl rfl⟩, hS.F ht⟩) hS.2.2 dX11_tear_17
/-! RunDeskModel.drop -/
theorem dX11_drop_0 : decode cX11_drop 0 = .ok (.aload_n 0, 1) := by decide +kernel
theorem dX11_drop_1 : decode cX11_drop 1 = .ok (.iload_n 1, 1) := by decide +kernel
theorem dX11_drop_2 : decode cX11_drop 2 = .ok (.invokevirtual 65, 3) := by decide +kernel
theorem dX11_drop_5 : decode cX11_drop 5 = .ok (.ifCond .ne 5, 3) := by decide +kernel
theorem dX11_drop_8 : decode cX11_drop 8 = .ok (.iconst 0, 1) := by decide +kernel
theorem dX11_drop_9 : decode cX11_drop 9 = .ok (.ireturn, 1) := by decide +kernel
theorem dX11_drop_10 : decode cX11_drop 10 = .ok (.aload_n 0, 1) := by decide +kernel
theorem dX11_drop_11 : decode cX11_drop 11 = .ok (.iload_n 1, 1) := by decide +kernel
theorem dX11_drop_12 : decode cX11_drop 12 = .ok (.bipush 6, 2) := by decide +kernel
theorem dX11_drop_14 : decode cX11_drop 14 = .ok (.iload_n 2, 1) := by decide +kernel
theorem dX11_drop_15 : decode cX11_drop 15 = .ok (.ifCond .eq 7, 3) := by decide +kernel
theorem dX11_drop_18 : decode cX11_drop 18 = .ok (.iconst 1, 1) := by decide +kernel
theorem dX11_drop_19 : decode cX11_drop 19 = .ok (.goto 4, 3) := by decide +kernel
theorem dX11_drop_22 : decode cX11_drop 22 = .ok (.iconst 0, 1) := by decide +kernel
theorem dX11_drop_23 : decode cX11_drop 23 = .ok (.invokevirtual 48, 3) := by decide +kernel
theorem dX11_drop_26 : decode cX11_drop 26 = .ok (.iconst 1, 1) := by decide +kernel
theorem dX11_drop_27 : decode cX11_drop 27 = .ok (.ireturn, 1) := by decide +kernel
set_option maxRecDepth 20000 in
theorem ggX11_drop_X11_isRunner : GoodIn wsX11_drop wsX11_isRunner := goodIn_r _ [5, 6, 7, 8, 9, 4, 10, 11, 16, 17, 18, 19, 20, 21, 22, 23, 24, 25, 26, 27, 28, 29, 30, 31] (by decide +kernel) (by decide +kernel)
set_option maxRecDepth 20000 in
theorem gX11_drop_X11_isRunner : GoodIn wsX11_drop (wsV RX11 65 RX11 yX11_isRunner wsX11_isRunner) := goodIn_app (goodIn_of _ (by decide +kernel)) ggX11_drop_X11_isRunner
set_option maxRecDepth 20000 in
theorem ggX11_drop_X11_put : GoodIn wsX11_drop wsX11_put := goodIn_r _ [15, 11, 16, 17, 18, 19, 20, 21, 22, 23, 24, 25, 26, 27, 28, 29, 30, 31] (by decide +kernel) (by decide +kernel)
set_option maxRecDepth 20000 in
theorem gX11_drop_X11_put : GoodIn wsX11_drop (wsV RX11 48 RX11 yX11_put wsX11_put) := goodIn_app (goodIn_of _ (by decide +kernel)) ggX11_drop_X11_put
def fX11_drop (t_thrown : Int32) (t_now : Nat → Int32) (x1 : Int32) (x2 : Int32) : Option (Bool × Int32 × (Nat → Int32)) := ((fX11_isRunner t_thrown t_now x1).bind (fun (b1, t_thrown_2) => (if (zb b1) = 0 then some (false, t_thrown_2, t_now) else (if x2 = 0 then ((fX11_put t_now x1 (6 : Int32) (0 : Int32)).bind (fun t_now_6 => some (true, t_thrown_2, t_now_6))) else ((fX11_put t_now x1 (6 : Int32) (1 : Int32)).bind (fun t_now_8 => some (true, t_thrown_2, t_now_8)))))))
set_option maxHeartbeats 4000000 in
set_option maxRecDepth 100000 in
theorem mX11_drop (l : Launch) (D : va_G) (cB cI cZ : ClassId) (a_t : Nat) (a_t_now : Nat) (a_t_kept : Nat) (a_t_text : Nat) (a_t_passing : Nat) (a_t_order : Nat) (a_t_times : Nat) (t_thrown : Int32) (t_isKept : Int32) (t_length : Int32) (t_at : Int32) (t_fault : Int32) (t_open : Int32) (t_asked : Int32) (t_byGun : Int32) (t_prizeMost : Int32) (t_listed : Int32) (t_now : Nat → Int32) (sz : Nat) (x1 : Int32) (x2 : Int32) (b0 : Bool) (t_thrown' : Int32) (t_now' : Nat → Int32) (h : fX11_drop t_thrown t_now x1 x2 = some (b0, t_thrown', t_now')) : Met l yX11_drop wsX11_drop ({ frames := 2, cells := 0, slots := 0, locals := 41 } : Room) (va_Pc [.ref a_t, .int x1, .int x2] (zPre D (zT cB cI cZ) [(a_t, .inr (11, [.int t_thrown, .ref a_t_now, .ref a_t_kept, .int t_isKept, .ref a_t_text, .int t_length, .ref a_t_passing, .int t_at, .int t_fault, .int t_open, .int t_asked, .int t_byGun, .int t_prizeMost, .ref a_t_order, .ref a_t_times, .int t_listed])), (a_t_now, .inl (cI, 1562, .inl t_now))] sz)) (zQi (zb b0) D (zT cB cI cZ) [(a_t, .inr (11, [.int t_thrown', .ref a_t_now, .ref a_t_kept, .int t_isKept, .ref a_t_text, .int t_length, .ref a_t_passing, .int t_at, .int t_fault, .int t_open, .int t_asked, .int t_byGun, .int t_prizeMost, .ref a_t_order, .ref a_t_times, .int t_listed])), (a_t_now, .inl (cI, 1562, .inl t_now'))] (va_A [(a_t, .inr (11, [.int t_thrown, .ref a_t_now, .ref a_t_kept, .int t_isKept, .ref a_t_text, .int t_length, .ref a_t_passing, .int t_at, .int t_fault, .int t_open, .int t_asked, .int t_byGun, .int t_prizeMost, .ref a_t_order, .ref a_t_times, .int t_listed])), (a_t_now, .inl (cI, 1562, .inl t_now))] sz)) 0 0 (va_A [(a_t, .inr (11, [.int t_thrown, .ref a_t_now, .ref a_t_kept, .int t_isKept, .ref a_t_text, .int t_length, .ref a_t_passing, .int t_at, .int t_fault, .int t_open, .int t_asked, .int t_byGun, .int t_prizeMost, .ref a_t_order, .ref a_t_times, .int t_listed])), (a_t_now, .inl (cI, 1562, .inl t_now))] sz) := by
  refine Met.ofW (cc := cX11_drop) (maxL := 3) (ret := (some .boolean)) (by decide) rfl ?_
  intro p e s m args below meth c s₁ B hml hv
  obtain ⟨rfl, hsz, hP, hK, hN, hZ, hD0⟩ := hv
  have hx := B.exec
  have hb := B.bytes
  have hr := B.returns
  have hts := atoms_spec (ws := wsX11_drop) B.pre
  have hown : s.vm.findClass RX11 = some m.cls := findClass_of_methodNamed B.named
  have hlocks := B.notSynchronized
  subst hsz
  have hD := hD0.self (sz := s.heap.size)
  generalize hAe : va_A [(a_t, .inr (11, [.int t_thrown, .ref a_t_now, .ref a_t_kept, .int t_isKept, .ref a_t_text, .int t_length, .ref a_t_passing, .int t_at, .int t_fault, .int t_open, .int t_asked, .int t_byGun, .int t_prizeMost, .ref a_t_order, .ref a_t_times, .int t_listed])), (a_t_now, .inl (cI, 1562, .inl t_now))] s.heap.size = A at hD hZ ⊢
  have hA : ∀ q : Nat, s.heap.size ≤ q → A q := fun q h => by rw [← hAe]; exact Or.inr h
  have hS : va_S A s.heap s.heap [] := va_S.rf
  have hl := lv_entry ([.ref a_t, .int x1, .int x2]) (n := 3) (Nat.le_of_ble_eq_true rfl)
  rw [lg_entry_eq]
  generalize (lg_sl ([.ref a_t, .int x1, .int x2]) ++ List.replicate (3 - (lg_sl ([.ref a_t, .int x1, .int x2])).length) Slot.unset).toArray = ls at hl ⊢
  have hl : lv_has ls 3 [(0, .ref a_t), (1, .int x1), (2, .int x2)] := hl
  unfold fX11_drop at h
  refine lv_aload_n hx hb dX11_drop_0 rfl (lv_at hl 0 rfl) ?_
  refine lv_iload_n hx hb dX11_drop_1 rfl (lv_at hl 1 rfl) ?_
  obtain ⟨⟨b1, t_thrown_2⟩, e3, h⟩ := zz_b h
  dsimp only at h
  refine zVi (As := [.int x1]) (rest := []) (C := RX11) (wr := []) [0, 1] [] 0 ⟨hx, hb, hml, hown, hts⟩ (mX11_isRunner l D cB cI cZ a_t a_t_now a_t_kept a_t_text a_t_passing a_t_order a_t_times t_thrown t_isKept t_length t_at t_fault t_open t_asked t_byGun t_prizeMost t_listed t_now s.heap.size x1 b1 t_thrown_2 e3) (cwV 1 hts gX11_drop_X11_isRunner rfl rfl rfl (by decide +kernel) ⟨Nat.le_of_ble_eq_true rfl, Nat.le_of_ble_eq_true rfl⟩) hK hN hZ hP hD hS hA rfl rfl rfl rfl rfl rfl rfl rfl hl.1 rfl (lv_room (Nat.le_of_ble_eq_true rfl)) dX11_drop_2 ⟨Nat.le_of_ble_eq_true rfl, Nat.le_of_ble_eq_true rfl⟩ (fun H locs hP hD hS => ?_)
  have hP : va_P D vwCl [(a_t, .inr (11, [.int t_thrown_2, .ref a_t_now, .ref a_t_kept, .int t_isKept, .ref a_t_text, .int t_length, .ref a_t_passing, .int t_at, .int t_fault, .int t_open, .int t_asked, .int t_byGun, .int t_prizeMost, .ref a_t_order, .ref a_t_times, .int t_listed])), (a_t_now, .inl (cI, 1562, .inl t_now))] H := hP
  have hD : va_D A [(a_t, .inr (11, [.int t_thrown_2, .ref a_t_now, .ref a_t_kept, .int t_isKept, .ref a_t_text, .int t_length, .ref a_t_passing, .int t_at, .int t_fault, .int t_open, .int t_asked, .int t_byGun, .int t_prizeMost, .ref a_t_order, .ref a_t_times, .int t_listed])), (a_t_now, .inl (cI, 1562, .inl t_now))] := hD
  refine lv_if_ne (tgt := 10) hx hb dX11_drop_5 (by decide) (fun c4 => ?_) (fun c4 => ?_)
  · have h := zz_f h c4
    refine lv_aload_n hx hb dX11_drop_10 rfl (lv_at hl 0 rfl) ?_
    refine lv_iload_n hx hb dX11_drop_11 rfl (lv_at hl 1 rfl) ?_
    refine lv_bipush (v := (6 : Int32)) hx hb dX11_drop_12 rfl ?_
    refine lv_iload_n hx hb dX11_drop_14 rfl (lv_at hl 2 rfl) ?_
    refine lv_if_eq (tgt := 22) hx hb dX11_drop_15 (by decide) (fun c5 => ?_) (fun c5 => ?_)
    · have h := zz_t h c5
      refine lv_iconst (v := (0 : Int32)) hx hb dX11_drop_22 rfl ?_
      obtain ⟨t_now_6, e7, h⟩ := zz_b h
      refine zVv (As := [.int x1, .int (6 : Int32), .int (0 : Int32)]) (rest := []) (C := RX11) (wr := []) [0, 1] [] 0 ⟨hx, hb, hml, hown, hts⟩ (mX11_put l D cB cI cZ a_t a_t_now a_t_kept a_t_text a_t_passing a_t_order a_t_times t_thrown_2 t_isKept t_length t_at t_fault t_open t_asked t_byGun t_prizeMost t_listed t_now H.size x1 (6 : Int32) (0 : Int32) t_now_6 e7) (cwV 3 hts gX11_drop_X11_put rfl rfl rfl (by decide +kernel) ⟨Nat.le_of_ble_eq_true rfl, Nat.le_of_ble_eq_true rfl⟩) hK hN hZ hP hD hS hA rfl rfl rfl rfl rfl rfl rfl rfl hl.1 rfl (lv_room (Nat.le_of_ble_eq_true rfl)) dX11_drop_23 ⟨Nat.le_of_ble_eq_true rfl, Nat.le_of_ble_eq_true rfl⟩ (fun H locs hP hD hS => ?_)
      have hP : va_P D vwCl [(a_t, .inr (11, [.int t_thrown_2, .ref a_t_now, .ref a_t_kept, .int t_isKept, .ref a_t_text, .int t_length, .ref a_t_passing, .int t_at, .int t_fault, .int t_open, .int t_asked, .int t_byGun, .int t_prizeMost, .ref a_t_order, .ref a_t_times, .int t_listed])), (a_t_now, .inl (cI, 1562, .inl t_now_6))] H := hP
      have hD : va_D A [(a_t, .inr (11, [.int t_thrown_2, .ref a_t_now, .ref a_t_kept, .int t_isKept, .ref a_t_text, .int t_length, .ref a_t_passing, .int t_at, .int t_fault, .int t_open, .int t_asked, .int t_byGun, .int t_prizeMost, .ref a_t_order, .ref a_t_times, .int t_listed])), (a_t_now, .inl (cI, 1562, .inl t_now_6))] := hD
      refine lv_iconst (v := (1 : Int32)) hx hb dX11_drop_26 rfl ?_
      obtain ⟨j0_, g_⟩ := Prod.mk.inj (Option.some.inj h)
      obtain ⟨j1_, g_⟩ := Prod.mk.inj g_
      have j2_ := g_
      subst j0_
      subst j1_
      subst j2_
      exact W.zret (v := (1 : Int32)) hx hb hr rfl (fun t ht hW => ⟨⟨_, (), rfl, rfl, zPost.of hP hD hK ht hW [0, 1] rfl rfl rfl⟩, hS.F ht⟩) hS.2.2 dX11_drop_27
    · have h := zz_f h c5
      refine lv_iconst (v := (1 : Int32)) hx hb dX11_drop_18 rfl ?_
      refine lv_goto (tgt := 23) hx hb dX11_drop_19 (by decide) ?_
      obtain ⟨t_now_8, e9, h⟩ := zz_b h
      refine zVv (As := [.int x1, .int (6 : Int32), .int (1 : Int32)]) (rest := []) (C := RX11) (wr := []) [0, 1] [] 0 ⟨hx, hb, hml, hown, hts⟩ (mX11_put l D cB cI cZ a_t a_t_now a_t_kept a_t_text a_t_passing a_t_order a_t_times t_thrown_2 t_isKept t_length t_at t_fault t_open t_asked t_byGun t_prizeMost t_listed t_now H.size x1 (6 : Int32) (1 : Int32) t_now_8 e9) (cwV 3 hts gX11_drop_X11_put rfl rfl rfl (by decide +kernel) ⟨Nat.le_of_ble_eq_true rfl, Nat.le_of_ble_eq_true rfl⟩) hK hN hZ hP hD hS hA rfl rfl rfl rfl rfl rfl rfl rfl hl.1 rfl (lv_room (Nat.le_of_ble_eq_true rfl)) dX11_drop_23 ⟨Nat.le_of_ble_eq_true rfl, Nat.le_of_ble_eq_true rfl⟩ (fun H locs hP hD hS => ?_)
      have hP : va_P D vwCl [(a_t, .inr (11, [.int t_thrown_2, .ref a_t_now, .ref a_t_kept, .int t_isKept, .ref a_t_text, .int t_length, .ref a_t_passing, .int t_at, .int t_fault, .int t_open, .int t_asked, .int t_byGun, .int t_prizeMost, .ref a_t_order, .ref a_t_times, .int t_listed])), (a_t_now, .inl (cI, 1562, .inl t_now_8))] H := hP
      have hD : va_D A [(a_t, .inr (11, [.int t_thrown_2, .ref a_t_now, .ref a_t_kept, .int t_isKept, .ref a_t_text, .int t_length, .ref a_t_passing, .int t_at, .int t_fault, .int t_open, .int t_asked, .int t_byGun, .int t_prizeMost, .ref a_t_order, .ref a_t_times, .int t_listed])), (a_t_now, .inl (cI, 1562, .inl t_now_8))] := hD
      refine lv_iconst (v := (1 : Int32)) hx hb dX11_drop_26 rfl ?_
      obtain ⟨j0_, g_⟩ := Prod.mk.inj (Option.some.inj h)
      obtain ⟨j1_, g_⟩ := Prod.mk.inj g_
      have j2_ := g_
      subst j0_
      subst j1_
      subst j2_
      exact W.zret (v := (1 : Int32)) hx hb hr rfl (fun t ht hW => ⟨⟨_, (), rfl, rfl, zPost.of hP hD hK ht hW [0, 1] rfl rfl rfl⟩, hS.F ht⟩) hS.2.2 dX11_drop_27
  · have h := zz_t h c4
    refine lv_iconst (v := (0 : Int32)) hx hb dX11_drop_8 rfl ?_
    obtain ⟨j0_, g_⟩ := Prod.mk.inj (Option.some.inj h)
    obtain ⟨j1_, g_⟩ := Prod.mk.inj g_
    have j2_ := g_
    subst j0_
    subst j1_
    subst j2_
    exact W.zret (v := (0 : Int32)) hx hb hr rfl (fun t ht hW => ⟨⟨_, (), rfl, rfl, zPost.of hP hD hK ht hW [0, 1] rfl rfl rfl⟩, hS.F ht⟩) hS.2.2 dX11_drop_9
/-! RunDeskModel.cut -/
theorem dX11_cut_0 : decode cX11_cut 0 = .ok (.aload_n 0, 1) := by decide +kernel
theorem dX11_cut_1 : decode cX11_cut 1 = .ok (.iconst 0, 1) := by decide +kernel
theorem dX11_cut_2 : decode cX11_cut 2 = .ok (.putfield 37, 3) := by decide +kernel
theorem dX11_cut_5 : decode cX11_cut 5 = .ok (.aload_n 0, 1) := by decide +kernel
theorem dX11_cut_6 : decode cX11_cut 6 = .ok (.iload_n 1, 1) := by decide +kernel
theorem dX11_cut_7 : decode cX11_cut 7 = .ok (.invokevirtual 69, 3) := by decide +kernel
theorem dX11_cut_10 : decode cX11_cut 10 = .ok (.ifCond .eq 18, 3) := by decide +kernel
theorem dX11_cut_13 : decode cX11_cut 13 = .ok (.iload_n 2, 1) := by decide +kernel
theorem dX11_cut_14 : decode cX11_cut 14 = .ok (.iconst (-1), 1) := by decide +kernel
theorem dX11_cut_15 : decode cX11_cut 15 = .ok (.if_icmp .eq 15, 3) := by decide +kernel
theorem dX11_cut_18 : decode cX11_cut 18 = .ok (.iload_n 2, 1) := by decide +kernel
theorem dX11_cut_19 : decode cX11_cut 19 = .ok (.iconst 0, 1) := by decide +kernel
theorem dX11_cut_20 : decode cX11_cut 20 = .ok (.ldc 61, 2) := by decide +kernel
theorem dX11_cut_22 : decode cX11_cut 22 = .ok (.invokestatic 52, 3) := by decide +kernel
theorem dX11_cut_25 : decode cX11_cut 25 = .ok (.ifCond .ne 5, 3) := by decide +kernel
theorem dX11_cut_28 : decode cX11_cut 28 = .ok (.iconst 0, 1) := by decide +kernel
theorem dX11_cut_29 : decode cX11_cut 29 = .ok (.ireturn, 1) := by decide +kernel
theorem dX11_cut_30 : decode cX11_cut 30 = .ok (.aload_n 0, 1) := by decide +kernel
theorem dX11_cut_31 : decode cX11_cut 31 = .ok (.getfield 9, 3) := by decide +kernel
theorem dX11_cut_34 : decode cX11_cut 34 = .ok (.bipush 8, 2) := by decide +kernel
theorem dX11_cut_36 : decode cX11_cut 36 = .ok (.iconst 4, 1) := by decide +kernel
theorem dX11_cut_37 : decode cX11_cut 37 = .ok (.iload_n 1, 1) := by decide +kernel
theorem dX11_cut_38 : decode cX11_cut 38 = .ok (.imul, 1) := by decide +kernel
theorem dX11_cut_39 : decode cX11_cut 39 = .ok (.iadd, 1) := by decide +kernel
theorem dX11_cut_40 : decode cX11_cut 40 = .ok (.iconst 3, 1) := by decide +kernel
theorem dX11_cut_41 : decode cX11_cut 41 = .ok (.iadd, 1) := by decide +kernel
theorem dX11_cut_42 : decode cX11_cut 42 = .ok (.iload_n 2, 1) := by decide +kernel
theorem dX11_cut_43 : decode cX11_cut 43 = .ok (.iastore, 1) := by decide +kernel
theorem dX11_cut_44 : decode cX11_cut 44 = .ok (.iconst 1, 1) := by decide +kernel
theorem dX11_cut_45 : decode cX11_cut 45 = .ok (.ireturn, 1) := by decide +kernel
set_option maxRecDepth 20000 in
theorem ggX11_cut_X11_isMat : GoodIn wsX11_cut wsX11_isMat := goodIn_r _ [8, 9, 10, 11, 7, 12, 3, 16, 17, 18, 19, 20, 21, 22, 23, 24, 25, 26, 27, 28, 29, 30, 31] (by decide +kernel) (by decide +kernel)
set_option maxRecDepth 20000 in
theorem gX11_cut_X11_isMat : GoodIn wsX11_cut (wsV RX11 69 RX11 yX11_isMat wsX11_isMat) := goodIn_app (goodIn_of _ (by decide +kernel)) ggX11_cut_X11_isMat
set_option maxRecDepth 20000 in
theorem ggX11_cut_X11_isIn : GoodIn wsX11_cut wsX11_isIn := goodIn_r _ [15] (by decide +kernel) (by decide +kernel)
set_option maxRecDepth 20000 in
theorem gX11_cut_X11_isIn : GoodIn wsX11_cut (va_wsS RX11 52 yX11_isIn wsX11_isIn) := goodIn_app (goodIn_of _ (by decide +kernel)) ggX11_cut_X11_isIn
def fX11_cut (t_thrown : Int32) (t_now : Nat → Int32) (x1 : Int32) (x2 : Int32) : Option (Bool × Int32 × (Nat → Int32)) := ((fX11_isMat t_now x1).bind (fun b1 => (if (zb b1) = 0 then some (false, (0 : Int32), t_now) else (if x2 = (-1 : Int32) then (if zin (((8 : Int32) + ((4 : Int32) * x1)) + (3 : Int32)) 1562 then some (true, (0 : Int32), (upd t_now ((((8 : Int32) + ((4 : Int32) * x1)) + (3 : Int32))).toNatClampNeg x2)) else none) else ((fX11_isIn x2 (0 : Int32) (40000 : Int32)).bind (fun b6 => (if (zb b6) = 0 then some (false, (0 : Int32), t_now) else (if zin (((8 : Int32) + ((4 : Int32) * x1)) + (3 : Int32)) 1562 then some (true, (0 : Int32), (upd t_now ((((8 : Int32) + ((4 : Int32) * x1)) + (3 : Int32))).toNatClampNeg x2)) else none))))))))
theorem kX11_cut_0 : (.fieldLink RX11 37 "RunDeskModel" "thrown" "I" : Cond) ∈ wsX11_cut := List.mem_of_getElem? (i := 1) (by decide +kernel)
theorem qX11_cut_X11 : ∀ w ∈ wsX110, w ∈ wsX11_cut := fun _ h => List.mem_cons_of_mem _ (List.mem_append_right _ (h))
theorem kX11_cut_2 : (.constant RX11 61 (40000) : Cond) ∈ wsX11_cut := List.mem_of_getElem? (i := 2) (by decide +kernel)
theorem kX11_cut_3 : (.fieldLink RX11 9 "RunDeskModel" "now" "[I" : Cond) ∈ wsX11_cut := List.mem_of_getElem? (i := 3) (by decide +kernel)
set_option maxHeartbeats 4000000 in
set_option maxRecDepth 100000 in
theorem mX11_cut (l : Launch) (D : va_G) (cB cI cZ : ClassId) (a_t : Nat) (a_t_now : Nat) (a_t_kept : Nat) (a_t_text : Nat) (a_t_passing : Nat) (a_t_order : Nat) (a_t_times : Nat) (t_thrown : Int32) (t_isKept : Int32) (t_length : Int32) (t_at : Int32) (t_fault : Int32) (t_open : Int32) (t_asked : Int32) (t_byGun : Int32) (t_prizeMost : Int32) (t_listed : Int32) (t_now : Nat → Int32) (sz : Nat) (x1 : Int32) (x2 : Int32) (b0 : Bool) (t_thrown' : Int32) (t_now' : Nat → Int32) (h : fX11_cut t_thrown t_now x1 x2 = some (b0, t_thrown', t_now')) : Met l yX11_cut wsX11_cut ({ frames := 2, cells := 0, slots := 0, locals := 41 } : Room) (va_Pc [.ref a_t, .int x1, .int x2] (zPre D (zT cB cI cZ) [(a_t, .inr (11, [.int t_thrown, .ref a_t_now, .ref a_t_kept, .int t_isKept, .ref a_t_text, .int t_length, .ref a_t_passing, .int t_at, .int t_fault, .int t_open, .int t_asked, .int t_byGun, .int t_prizeMost, .ref a_t_order, .ref a_t_times, .int t_listed])), (a_t_now, .inl (cI, 1562, .inl t_now))] sz)) (zQi (zb b0) D (zT cB cI cZ) [(a_t, .inr (11, [.int t_thrown', .ref a_t_now, .ref a_t_kept, .int t_isKept, .ref a_t_text, .int t_length, .ref a_t_passing, .int t_at, .int t_fault, .int t_open, .int t_asked, .int t_byGun, .int t_prizeMost, .ref a_t_order, .ref a_t_times, .int t_listed])), (a_t_now, .inl (cI, 1562, .inl t_now'))] (va_A [(a_t, .inr (11, [.int t_thrown, .ref a_t_now, .ref a_t_kept, .int t_isKept, .ref a_t_text, .int t_length, .ref a_t_passing, .int t_at, .int t_fault, .int t_open, .int t_asked, .int t_byGun, .int t_prizeMost, .ref a_t_order, .ref a_t_times, .int t_listed])), (a_t_now, .inl (cI, 1562, .inl t_now))] sz)) 0 0 (va_A [(a_t, .inr (11, [.int t_thrown, .ref a_t_now, .ref a_t_kept, .int t_isKept, .ref a_t_text, .int t_length, .ref a_t_passing, .int t_at, .int t_fault, .int t_open, .int t_asked, .int t_byGun, .int t_prizeMost, .ref a_t_order, .ref a_t_times, .int t_listed])), (a_t_now, .inl (cI, 1562, .inl t_now))] sz) := by
  refine Met.ofW (cc := cX11_cut) (maxL := 3) (ret := (some .boolean)) (by decide) rfl ?_
  intro p e s m args below meth c s₁ B hml hv
  obtain ⟨rfl, hsz, hP, hK, hN, hZ, hD0⟩ := hv
  have hx := B.exec
  have hb := B.bytes
  have hr := B.returns
  have hts := atoms_spec (ws := wsX11_cut) B.pre
  have hown : s.vm.findClass RX11 = some m.cls := findClass_of_methodNamed B.named
  have hlocks := B.notSynchronized
  subst hsz
  have hD := hD0.self (sz := s.heap.size)
  generalize hAe : va_A [(a_t, .inr (11, [.int t_thrown, .ref a_t_now, .ref a_t_kept, .int t_isKept, .ref a_t_text, .int t_length, .ref a_t_passing, .int t_at, .int t_fault, .int t_open, .int t_asked, .int t_byGun, .int t_prizeMost, .ref a_t_order, .ref a_t_times, .int t_listed])), (a_t_now, .inl (cI, 1562, .inl t_now))] s.heap.size = A at hD hZ ⊢
  have hA : ∀ q : Nat, s.heap.size ≤ q → A q := fun q h => by rw [← hAe]; exact Or.inr h
  have hS : va_S A s.heap s.heap [] := va_S.rf
  have hl := lv_entry ([.ref a_t, .int x1, .int x2]) (n := 3) (Nat.le_of_ble_eq_true rfl)
  rw [lg_entry_eq]
  generalize (lg_sl ([.ref a_t, .int x1, .int x2]) ++ List.replicate (3 - (lg_sl ([.ref a_t, .int x1, .int x2])).length) Slot.unset).toArray = ls at hl ⊢
  have hl : lv_has ls 3 [(0, .ref a_t), (1, .int x1), (2, .int x2)] := hl
  unfold fX11_cut at h
  refine lv_aload_n hx hb dX11_cut_0 rfl (lv_at hl 0 rfl) ?_
  refine lv_iconst (v := (0 : Int32)) hx hb dX11_cut_1 rfl ?_
  refine va_put (D := D) (ci := 11) (ty := .int) (C := RX11) (T := TX11) (N := 16) hx hb hts qX11_cut_X11 tyX11 tyX11_ok nmX11 hown hK hP hD hS 0 rfl rfl 0 (by decide) (hts _ kX11_cut_0) (fun _ h9 => h9) rfl (by decide +kernel) rfl (by first | rfl | exact zz_fit) (Nat.le_of_ble_eq_true rfl) dX11_cut_2 (fun H locs hP hD hS => ?_)
  have hP : va_P D vwCl [(a_t, .inr (11, [.int (0 : Int32), .ref a_t_now, .ref a_t_kept, .int t_isKept, .ref a_t_text, .int t_length, .ref a_t_passing, .int t_at, .int t_fault, .int t_open, .int t_asked, .int t_byGun, .int t_prizeMost, .ref a_t_order, .ref a_t_times, .int t_listed])), (a_t_now, .inl (cI, 1562, .inl t_now))] H := hP
  have hD : va_D A [(a_t, .inr (11, [.int (0 : Int32), .ref a_t_now, .ref a_t_kept, .int t_isKept, .ref a_t_text, .int t_length, .ref a_t_passing, .int t_at, .int t_fault, .int t_open, .int t_asked, .int t_byGun, .int t_prizeMost, .ref a_t_order, .ref a_t_times, .int t_listed])), (a_t_now, .inl (cI, 1562, .inl t_now))] := hD
  refine lv_aload_n hx hb dX11_cut_5 rfl (lv_at hl 0 rfl) ?_
  refine lv_iload_n hx hb dX11_cut_6 rfl (lv_at hl 1 rfl) ?_
  obtain ⟨b1, e2, h⟩ := zz_b h
  refine zVi (As := [.int x1]) (rest := []) (C := RX11) (wr := []) [0, 1] [] 0 ⟨hx, hb, hml, hown, hts⟩ (mX11_isMat l D cB cI cZ a_t a_t_now a_t_kept a_t_text a_t_passing a_t_order a_t_times (0 : Int32) t_isKept t_length t_at t_fault t_open t_asked t_byGun t_prizeMost t_listed t_now H.size x1 b1 e2) (cwV 1 hts gX11_cut_X11_isMat rfl rfl rfl (by decide +kernel) ⟨Nat.le_of_ble_eq_true rfl, Nat.le_of_ble_eq_true rfl⟩) hK hN hZ hP hD hS hA rfl rfl rfl rfl rfl rfl rfl rfl hl.1 rfl (lv_room (Nat.le_of_ble_eq_true rfl)) dX11_cut_7 ⟨Nat.le_of_ble_eq_true rfl, Nat.le_of_ble_eq_true rfl⟩ (fun H locs hP hD hS => ?_)
  have hP : va_P D vwCl [(a_t, .inr (11, [.int (0 : Int32), .ref a_t_now, .ref a_t_kept, .int t_isKept, .ref a_t_text, .int t_length, .ref a_t_passing, .int t_at, .int t_fault, .int t_open, .int t_asked, .int t_byGun, .int t_prizeMost, .ref a_t_order, .ref a_t_times, .int t_listed])), (a_t_now, .inl (cI, 1562, .inl t_now))] H := hP
  have hD : va_D A [(a_t, .inr (11, [.int (0 : Int32), .ref a_t_now, .ref a_t_kept, .int t_isKept, .ref a_t_text, .int t_length, .ref a_t_passing, .int t_at, .int t_fault, .int t_open, .int t_asked, .int t_byGun, .int t_prizeMost, .ref a_t_order, .ref a_t_times, .int t_listed])), (a_t_now, .inl (cI, 1562, .inl t_now))] := hD
  refine lv_if_eq (tgt := 28) hx hb dX11_cut_10 (by decide) (fun c3 => ?_) (fun c3 => ?_)
  · have h := zz_t h c3
    refine lv_iconst (v := (0 : Int32)) hx hb dX11_cut_28 rfl ?_
    obtain ⟨j0_, g_⟩ := Prod.mk.inj (Option.some.inj h)
    obtain ⟨j1_, g_⟩ := Prod.mk.inj g_
    have j2_ := g_
    subst j0_
    subst j1_
    subst j2_
    exact W.zret (v := (0 : Int32)) hx hb hr rfl (fun t ht hW => ⟨⟨_, (), rfl, rfl, zPost.of hP hD hK ht hW [0, 1] rfl rfl rfl⟩, hS.F ht⟩) hS.2.2 dX11_cut_29
  · have h := zz_f h c3
    refine lv_iload_n hx hb dX11_cut_13 rfl (lv_at hl 2 rfl) ?_
    refine lv_iconst (v := (-1 : Int32)) hx hb dX11_cut_14 rfl ?_
    refine lv_icmp_eq (tgt := 30) hx hb dX11_cut_15 (by decide) (fun c4 => ?_) (fun c4 => ?_)
    · have h := zz_t h c4
      refine lv_aload_n hx hb dX11_cut_30 rfl (lv_at hl 0 rfl) ?_
      refine va_get (D := D) (ci := 11) (C := RX11) (T := TX11) (N := 16) hx hb hts qX11_cut_X11 hown hK hP 0 rfl rfl 1 (by decide) (hts _ kX11_cut_3) (fun _ h9 => h9) rfl dX11_cut_31 ?_
      refine lv_bipush (v := (8 : Int32)) hx hb dX11_cut_34 rfl ?_
      refine lv_iconst (v := (4 : Int32)) hx hb dX11_cut_36 rfl ?_
      refine lv_iload_n hx hb dX11_cut_37 rfl (lv_at hl 1 rfl) ?_
      refine lv_imul hx hb dX11_cut_38 ?_
      refine lv_iadd hx hb dX11_cut_39 ?_
      refine lv_iconst (v := (3 : Int32)) hx hb dX11_cut_40 rfl ?_
      refine lv_iadd hx hb dX11_cut_41 ?_
      refine lv_iload_n hx hb dX11_cut_42 rfl (lv_at hl 2 rfl) ?_
      obtain ⟨i5, h⟩ := zz_i h
      refine va_iast hx hb hK hP hD hS 1 1 rfl rfl i5 dX11_cut_43 (fun H locs hP hD hS => ?_)
      have hP : va_P D vwCl [(a_t, .inr (11, [.int (0 : Int32), .ref a_t_now, .ref a_t_kept, .int t_isKept, .ref a_t_text, .int t_length, .ref a_t_passing, .int t_at, .int t_fault, .int t_open, .int t_asked, .int t_byGun, .int t_prizeMost, .ref a_t_order, .ref a_t_times, .int t_listed])), (a_t_now, .inl (cI, 1562, .inl (upd t_now ((((8 : Int32) + ((4 : Int32) * x1)) + (3 : Int32))).toNatClampNeg x2)))] H := hP
      have hD : va_D A [(a_t, .inr (11, [.int (0 : Int32), .ref a_t_now, .ref a_t_kept, .int t_isKept, .ref a_t_text, .int t_length, .ref a_t_passing, .int t_at, .int t_fault, .int t_open, .int t_asked, .int t_byGun, .int t_prizeMost, .ref a_t_order, .ref a_t_times, .int t_listed])), (a_t_now, .inl (cI, 1562, .inl (upd t_now ((((8 : Int32) + ((4 : Int32) * x1)) + (3 : Int32))).toNatClampNeg x2)))] := hD
      refine lv_iconst (v := (1 : Int32)) hx hb dX11_cut_44 rfl ?_
      obtain ⟨j0_, g_⟩ := Prod.mk.inj (Option.some.inj h)
      obtain ⟨j1_, g_⟩ := Prod.mk.inj g_
      have j2_ := g_
      subst j0_
      subst j1_
      subst j2_
      exact W.zret (v := (1 : Int32)) hx hb hr rfl (fun t ht hW => ⟨⟨_, (), rfl, rfl, zPost.of hP hD hK ht hW [0, 1] rfl rfl rfl⟩, hS.F ht⟩) hS.2.2 dX11_cut_45
    · have h := zz_f h c4
      refine lv_iload_n hx hb dX11_cut_18 rfl (lv_at hl 2 rfl) ?_
      refine lv_iconst (v := (0 : Int32)) hx hb dX11_cut_19 rfl ?_
      refine lv_ldc (v := (40000 : Int32)) hx hb hown (hts _ kX11_cut_2) dX11_cut_20 ?_
      obtain ⟨b6, e7, h⟩ := zz_b h
      refine zSi (As := [.int x2, .int (0 : Int32), .int (40000 : Int32)]) (rest := []) (wr := [(a_t, .inr (11, [.int (0 : Int32), .ref a_t_now, .ref a_t_kept, .int t_isKept, .ref a_t_text, .int t_length, .ref a_t_passing, .int t_at, .int t_fault, .int t_open, .int t_asked, .int t_byGun, .int t_prizeMost, .ref a_t_order, .ref a_t_times, .int t_listed])), (a_t_now, .inl (cI, 1562, .inl t_now))]) [] [0, 1] ⟨hx, hb, hml, hown, hts⟩ (mX11_isIn l D cB cI cZ H.size x2 (0 : Int32) (40000 : Int32) b6 e7) (va_cwS 3 hts gX11_cut_X11_isIn rfl rfl rfl (by decide +kernel) ⟨Nat.le_of_ble_eq_true rfl, Nat.le_of_ble_eq_true rfl⟩) hK hN hZ hP hD hS hA rfl rfl rfl rfl rfl rfl hl.1 rfl (lv_room (Nat.le_of_ble_eq_true rfl)) dX11_cut_22 ⟨Nat.le_of_ble_eq_true rfl, Nat.le_of_ble_eq_true rfl⟩ (fun H locs hP hD hS => ?_)
      have hP : va_P D vwCl [(a_t, .inr (11, [.int (0 : Int32), .ref a_t_now, .ref a_t_kept, .int t_isKept, .ref a_t_text, .int t_length, .ref a_t_passing, .int t_at, .int t_fault, .int t_open, .int t_asked, .int t_byGun, .int t_prizeMost, .ref a_t_order, .ref a_t_times, .int t_listed])), (a_t_now, .inl (cI, 1562, .inl t_now))] H := hP
      have hD : va_D A [(a_t, .inr (11, [.int (0 : Int32), .ref a_t_now, .ref a_t_kept, .int t_isKept, .ref a_t_text, .int t_length, .ref a_t_passing, .int t_at, .int t_fault, .int t_open, .int t_asked, .int t_byGun, .int t_prizeMost, .ref a_t_order, .ref a_t_times, .int t_listed])), (a_t_now, .inl (cI, 1562, .inl t_now))] := hD
      refine lv_if_ne (tgt := 30) hx hb dX11_cut_25 (by decide) (fun c8 => ?_) (fun c8 => ?_)
      · have h := zz_f h c8
        refine lv_aload_n hx hb dX11_cut_30 rfl (lv_at hl 0 rfl) ?_
        refine va_get (D := D) (ci := 11) (C := RX11) (T := TX11) (N := 16) hx hb hts qX11_cut_X11 hown hK hP 0 rfl rfl 1 (by decide) (hts _ kX11_cut_3) (fun _ h9 => h9) rfl dX11_cut_31 ?_
        refine lv_bipush (v := (8 : Int32)) hx hb dX11_cut_34 rfl ?_
        refine lv_iconst (v := (4 : Int32)) hx hb dX11_cut_36 rfl ?_
        refine lv_iload_n hx hb dX11_cut_37 rfl (lv_at hl 1 rfl) ?_
        refine lv_imul hx hb dX11_cut_38 ?_
        refine lv_iadd hx hb dX11_cut_39 ?_
        refine lv_iconst (v := (3 : Int32)) hx hb dX11_cut_40 rfl ?_
        refine lv_iadd hx hb dX11_cut_41 ?_
        refine lv_iload_n hx hb dX11_cut_42 rfl (lv_at hl 2 rfl) ?_
        obtain ⟨i9, h⟩ := zz_i h
        refine va_iast hx hb hK hP hD hS 1 1 rfl rfl i9 dX11_cut_43 (fun H locs hP hD hS => ?_)
        have hP : va_P D vwCl [(a_t, .inr (11, [.int (0 : Int32), .ref a_t_now, .ref a_t_kept, .int t_isKept, .ref a_t_text, .int t_length, .ref a_t_passing, .int t_at, .int t_fault, .int t_open, .int t_asked, .int t_byGun, .int t_prizeMost, .ref a_t_order, .ref a_t_times, .int t_listed])), (a_t_now, .inl (cI, 1562, .inl (upd t_now ((((8 : Int32) + ((4 : Int32) * x1)) + (3 : Int32))).toNatClampNeg x2)))] H := hP
        have hD : va_D A [(a_t, .inr (11, [.int (0 : Int32), .ref a_t_now, .ref a_t_kept, .int t_isKept, .ref a_t_text, .int t_length, .ref a_t_passing, .int t_at, .int t_fault, .int t_open, .int t_asked, .int t_byGun, .int t_prizeMost, .ref a_t_order, .ref a_t_times, .int t_listed])), (a_t_now, .inl (cI, 1562, .inl (upd t_now ((((8 : Int32) + ((4 : Int32) * x1)) + (3 : Int32))).toNatClampNeg x2)))] := hD
        refine lv_iconst (v := (1 : Int32)) hx hb dX11_cut_44 rfl ?_
        obtain ⟨j0_, g_⟩ := Prod.mk.inj (Option.some.inj h)
        obtain ⟨j1_, g_⟩ := Prod.mk.inj g_
        have j2_ := g_
        subst j0_
        subst j1_
        subst j2_
        exact W.zret (v := (1 : Int32)) hx hb hr rfl (fun t ht hW => ⟨⟨_, (), rfl, rfl, zPost.of hP hD hK ht hW [0, 1] rfl rfl rfl⟩, hS.F ht⟩) hS.2.2 dX11_cut_45
      · have h := zz_t h c8
        refine lv_iconst (v := (0 : Int32)) hx hb dX11_cut_28 rfl ?_
        obtain ⟨j0_, g_⟩ := Prod.mk.inj (Option.some.inj h)
        obtain ⟨j1_, g_⟩ := Prod.mk.inj g_
        have j2_ := g_
        subst j0_
        subst j1_
        subst j2_
        exact W.zret (v := (0 : Int32)) hx hb hr rfl (fun t ht hW => ⟨⟨_, (), rfl, rfl, zPost.of hP hD hK ht hW [0, 1] rfl rfl rfl⟩, hS.F ht⟩) hS.2.2 dX11_cut_29
/-! RunDeskModel.wave -/
theorem dX11_wave_0 : decode cX11_wave 0 = .ok (.aload_n 0, 1) := by decide +kernel
theorem dX11_wave_1 : decode cX11_wave 1 = .ok (.iload_n 1, 1) := by decide +kernel
theorem dX11_wave_2 : decode cX11_wave 2 = .ok (.invokevirtual 65, 3) := by decide +kernel
theorem dX11_wave_5 : decode cX11_wave 5 = .ok (.ifCond .ne 5, 3) := by decide +kernel
theorem dX11_wave_8 : decode cX11_wave 8 = .ok (.iconst 0, 1) := by decide +kernel
theorem dX11_wave_9 : decode cX11_wave 9 = .ok (.ireturn, 1) := by decide +kernel
theorem dX11_wave_10 : decode cX11_wave 10 = .ok (.aload_n 0, 1) := by decide +kernel
theorem dX11_wave_11 : decode cX11_wave 11 = .ok (.iload_n 1, 1) := by decide +kernel
theorem dX11_wave_12 : decode cX11_wave 12 = .ok (.bipush 7, 2) := by decide +kernel
theorem dX11_wave_14 : decode cX11_wave 14 = .ok (.iload_n 2, 1) := by decide +kernel
theorem dX11_wave_15 : decode cX11_wave 15 = .ok (.ifCond .eq 7, 3) := by decide +kernel
theorem dX11_wave_18 : decode cX11_wave 18 = .ok (.iconst 1, 1) := by decide +kernel
theorem dX11_wave_19 : decode cX11_wave 19 = .ok (.goto 4, 3) := by decide +kernel
theorem dX11_wave_22 : decode cX11_wave 22 = .ok (.iconst 0, 1) := by decide +kernel
theorem dX11_wave_23 : decode cX11_wave 23 = .ok (.invokevirtual 48, 3) := by decide +kernel
theorem dX11_wave_26 : decode cX11_wave 26 = .ok (.iconst 1, 1) := by decide +kernel
theorem dX11_wave_27 : decode cX11_wave 27 = .ok (.ireturn, 1) := by decide +kernel
set_option maxRecDepth 20000 in
theorem ggX11_wave_X11_isRunner : GoodIn wsX11_wave wsX11_isRunner := goodIn_r _ [5, 6, 7, 8, 9, 4, 10, 11, 16, 17, 18, 19, 20, 21, 22, 23, 24, 25, 26, 27, 28, 29, 30, 31] (by decide +kernel) (by decide +kernel)
set_option maxRecDepth 20000 in
theorem gX11_wave_X11_isRunner : GoodIn wsX11_wave (wsV RX11 65 RX11 yX11_isRunner wsX11_isRunner) := goodIn_app (goodIn_of _ (by decide +kernel)) ggX11_wave_X11_isRunner
set_option maxRecDepth 20000 in
theorem ggX11_wave_X11_put : GoodIn wsX11_wave wsX11_put := goodIn_r _ [15, 11, 16, 17, 18, 19, 20, 21, 22, 23, 24, 25, 26, 27, 28, 29, 30, 31] (by decide +kernel) (by decide +kernel)
set_option maxRecDepth 20000 in
theorem gX11_wave_X11_put : GoodIn wsX11_wave (wsV RX11 48 RX11 yX11_put wsX11_put) := goodIn_app (goodIn_of _ (by decide +kernel)) ggX11_wave_X11_put
def fX11_wave (t_thrown : Int32) (t_now : Nat → Int32) (x1 : Int32) (x2 : Int32) : Option (Bool × Int32 × (Nat → Int32)) := ((fX11_isRunner t_thrown t_now x1).bind (fun (b1, t_thrown_2) => (if (zb b1) = 0 then some (false, t_thrown_2, t_now) else (if x2 = 0 then ((fX11_put t_now x1 (7 : Int32) (0 : Int32)).bind (fun t_now_6 => some (true, t_thrown_2, t_now_6))) else ((fX11_put t_now x1 (7 : Int32) (1 : Int32)).bind (fun t_now_8 => some (true, t_thrown_2, t_now_8)))))))
set_option maxHeartbeats 4000000 in
set_option maxRecDepth 100000 in
theorem mX11_wave (l : Launch) (D : va_G) (cB cI cZ : ClassId) (a_t : Nat) (a_t_now : Nat) (a_t_kept : Nat) (a_t_text : Nat) (a_t_passing : Nat) (a_t_order : Nat) (a_t_times : Nat) (t_thrown : Int32) (t_isKept : Int32) (t_length : Int32) (t_at : Int32) (t_fault : Int32) (t_open : Int32) (t_asked : Int32) (t_byGun : Int32) (t_prizeMost : Int32) (t_listed : Int32) (t_now : Nat → Int32) (sz : Nat) (x1 : Int32) (x2 : Int32) (b0 : Bool) (t_thrown' : Int32) (t_now' : Nat → Int32) (h : fX11_wave t_thrown t_now x1 x2 = some (b0, t_thrown', t_now')) : Met l yX11_wave wsX11_wave ({ frames := 2, cells := 0, slots := 0, locals := 41 } : Room) (va_Pc [.ref a_t, .int x1, .int x2] (zPre D (zT cB cI cZ) [(a_t, .inr (11, [.int t_thrown, .ref a_t_now, .ref a_t_kept, .int t_isKept, .ref a_t_text, .int t_length, .ref a_t_passing, .int t_at, .int t_fault, .int t_open, .int t_asked, .int t_byGun, .int t_prizeMost, .ref a_t_order, .ref a_t_times, .int t_listed])), (a_t_now, .inl (cI, 1562, .inl t_now))] sz)) (zQi (zb b0) D (zT cB cI cZ) [(a_t, .inr (11, [.int t_thrown', .ref a_t_now, .ref a_t_kept, .int t_isKept, .ref a_t_text, .int t_length, .ref a_t_passing, .int t_at, .int t_fault, .int t_open, .int t_asked, .int t_byGun, .int t_prizeMost, .ref a_t_order, .ref a_t_times, .int t_listed])), (a_t_now, .inl (cI, 1562, .inl t_now'))] (va_A [(a_t, .inr (11, [.int t_thrown, .ref a_t_now, .ref a_t_kept, .int t_isKept, .ref a_t_text, .int t_length, .ref a_t_passing, .int t_at, .int t_fault, .int t_open, .int t_asked, .int t_byGun, .int t_prizeMost, .ref a_t_order, .ref a_t_times, .int t_listed])), (a_t_now, .inl (cI, 1562, .inl t_now))] sz)) 0 0 (va_A [(a_t, .inr (11, [.int t_thrown, .ref a_t_now, .ref a_t_kept, .int t_isKept, .ref a_t_text, .int t_length, .ref a_t_passing, .int t_at, .int t_fault, .int t_open, .int t_asked, .int t_byGun, .int t_prizeMost, .ref a_t_order, .ref a_t_times, .int t_listed])), (a_t_now, .inl (cI, 1562, .inl t_now))] sz) := by
  refine Met.ofW (cc := cX11_wave) (maxL := 3) (ret := (some .boolean)) (by decide) rfl ?_
  intro p e s m args below meth c s₁ B hml hv
  obtain ⟨rfl, hsz, hP, hK, hN, hZ, hD0⟩ := hv
  have hx := B.exec
  have hb := B.bytes
  have hr := B.returns
  have hts := atoms_spec (ws := wsX11_wave) B.pre
  have hown : s.vm.findClass RX11 = some m.cls := findClass_of_methodNamed B.named
  have hlocks := B.notSynchronized
  subst hsz
  have hD := hD0.self (sz := s.heap.size)
  generalize hAe : va_A [(a_t, .inr (11, [.int t_thrown, .ref a_t_now, .ref a_t_kept, .int t_isKept, .ref a_t_text, .int t_length, .ref a_t_passing, .int t_at, .int t_fault, .int t_open, .int t_asked, .int t_byGun, .int t_prizeMost, .ref a_t_order, .ref a_t_times, .int t_listed])), (a_t_now, .inl (cI, 1562, .inl t_now))] s.heap.size = A at hD hZ ⊢
  have hA : ∀ q : Nat, s.heap.size ≤ q → A q := fun q h => by rw [← hAe]; exact Or.inr h
  have hS : va_S A s.heap s.heap [] := va_S.rf
  have hl := lv_entry ([.ref a_t, .int x1, .int x2]) (n := 3) (Nat.le_of_ble_eq_true rfl)
  rw [lg_entry_eq]
  generalize (lg_sl ([.ref a_t, .int x1, .int x2]) ++ List.replicate (3 - (lg_sl ([.ref a_t, .int x1, .int x2])).length) Slot.unset).toArray = ls at hl ⊢
  have hl : lv_has ls 3 [(0, .ref a_t), (1, .int x1), (2, .int x2)] := hl
  unfold fX11_wave at h
  refine lv_aload_n hx hb dX11_wave_0 rfl (lv_at hl 0 rfl) ?_
  refine lv_iload_n hx hb dX11_wave_1 rfl (lv_at hl 1 rfl) ?_
  obtain ⟨⟨b1, t_thrown_2⟩, e3, h⟩ := zz_b h
  dsimp only at h
  refine zVi (As := [.int x1]) (rest := []) (C := RX11) (wr := []) [0, 1] [] 0 ⟨hx, hb, hml, hown, hts⟩ (mX11_isRunner l D cB cI cZ a_t a_t_now a_t_kept a_t_text a_t_passing a_t_order a_t_times t_thrown t_isKept t_length t_at t_fault t_open t_asked t_byGun t_prizeMost t_listed t_now s.heap.size x1 b1 t_thrown_2 e3) (cwV 1 hts gX11_wave_X11_isRunner rfl rfl rfl (by decide +kernel) ⟨Nat.le_of_ble_eq_true rfl, Nat.le_of_ble_eq_true rfl⟩) hK hN hZ hP hD hS hA rfl rfl rfl rfl rfl rfl rfl rfl hl.1 rfl (lv_room (Nat.le_of_ble_eq_true rfl)) dX11_wave_2 ⟨Nat.le_of_ble_eq_true rfl, Nat.le_of_ble_eq_true rfl⟩ (fun H locs hP hD hS => ?_)
  have hP : va_P D vwCl [(a_t, .inr (11, [.int t_thrown_2, .ref a_t_now, .ref a_t_kept, .int t_isKept, .ref a_t_text, .int t_length, .ref a_t_passing, .int t_at, .int t_fault, .int t_open, .int t_asked, .int t_byGun, .int t_prizeMost, .ref a_t_order, .ref a_t_times, .int t_listed])), (a_t_now, .inl (cI, 1562, .inl t_now))] H := hP
  have hD : va_D A [(a_t, .inr (11, [.int t_thrown_2, .ref a_t_now, .ref a_t_kept, .int t_isKept, .ref a_t_text, .int t_length, .ref a_t_passing, .int t_at, .int t_fault, .int t_open, .int t_asked, .int t_byGun, .int t_prizeMost, .ref a_t_order, .ref a_t_times, .int t_listed])), (a_t_now, .inl (cI, 1562, .inl t_now))] := hD
  refine lv_if_ne (tgt := 10) hx hb dX11_wave_5 (by decide) (fun c4 => ?_) (fun c4 => ?_)
  · have h := zz_f h c4
    refine lv_aload_n hx hb dX11_wave_10 rfl (lv_at hl 0 rfl) ?_
    refine lv_iload_n hx hb dX11_wave_11 rfl (lv_at hl 1 rfl) ?_
    refine lv_bipush (v := (7 : Int32)) hx hb dX11_wave_12 rfl ?_
    refine lv_iload_n hx hb dX11_wave_14 rfl (lv_at hl 2 rfl) ?_
    refine lv_if_eq (tgt := 22) hx hb dX11_wave_15 (by decide) (fun c5 => ?_) (fun c5 => ?_)
    · have h := zz_t h c5
      refine lv_iconst (v := (0 : Int32)) hx hb dX11_wave_22 rfl ?_
      obtain ⟨t_now_6, e7, h⟩ := zz_b h
      refine zVv (As := [.int x1, .int (7 : Int32), .int (0 : Int32)]) (rest := []) (C := RX11) (wr := []) [0, 1] [] 0 ⟨hx, hb, hml, hown, hts⟩ (mX11_put l D cB cI cZ a_t a_t_now a_t_kept a_t_text a_t_passing a_t_order a_t_times t_thrown_2 t_isKept t_length t_at t_fault t_open t_asked t_byGun t_prizeMost t_listed t_now H.size x1 (7 : Int32) (0 : Int32) t_now_6 e7) (cwV 3 hts gX11_wave_X11_put rfl rfl rfl (by decide +kernel) ⟨Nat.le_of_ble_eq_true rfl, Nat.le_of_ble_eq_true rfl⟩) hK hN hZ hP hD hS hA rfl rfl rfl rfl rfl rfl rfl rfl hl.1 rfl (lv_room (Nat.le_of_ble_eq_true rfl)) dX11_wave_23 ⟨Nat.le_of_ble_eq_true rfl, Nat.le_of_ble_eq_true rfl⟩ (fun H locs hP hD hS => ?_)
      have hP : va_P D vwCl [(a_t, .inr (11, [.int t_thrown_2, .ref a_t_now, .ref a_t_kept, .int t_isKept, .ref a_t_text, .int t_length, .ref a_t_passing, .int t_at, .int t_fault, .int t_open, .int t_asked, .int t_byGun, .int t_prizeMost, .ref a_t_order, .ref a_t_times, .int t_listed])), (a_t_now, .inl (cI, 1562, .inl t_now_6))] H := hP
      have hD : va_D A [(a_t, .inr (11, [.int t_thrown_2, .ref a_t_now, .ref a_t_kept, .int t_isKept, .ref a_t_text, .int t_length, .ref a_t_passing, .int t_at, .int t_fault, .int t_open, .int t_asked, .int t_byGun, .int t_prizeMost, .ref a_t_order, .ref a_t_times, .int t_listed])), (a_t_now, .inl (cI, 1562, .inl t_now_6))] := hD
      refine lv_iconst (v := (1 : Int32)) hx hb dX11_wave_26 rfl ?_
      obtain ⟨j0_, g_⟩ := Prod.mk.inj (Option.some.inj h)
      obtain ⟨j1_, g_⟩ := Prod.mk.inj g_
      have j2_ := g_
      subst j0_
      subst j1_
      subst j2_
      exact W.zret (v := (1 : Int32)) hx hb hr rfl (fun t ht hW => ⟨⟨_, (), rfl, rfl, zPost.of hP hD hK ht hW [0, 1] rfl rfl rfl⟩, hS.F ht⟩) hS.2.2 dX11_wave_27
    · have h := zz_f h c5
      refine lv_iconst (v := (1 : Int32)) hx hb dX11_wave_18 rfl ?_
      refine lv_goto (tgt := 23) hx hb dX11_wave_19 (by decide) ?_
      obtain ⟨t_now_8, e9, h⟩ := zz_b h
      refine zVv (As := [.int x1, .int (7 : Int32), .int (1 : Int32)]) (rest := []) (C := RX11) (wr := []) [0, 1] [] 0 ⟨hx, hb, hml, hown, hts⟩ (mX11_put l D cB cI cZ a_t a_t_now a_t_kept a_t_text a_t_passing a_t_order a_t_times t_thrown_2 t_isKept t_length t_at t_fault t_open t_asked t_byGun t_prizeMost t_listed t_now H.size x1 (7 : Int32) (1 : Int32) t_now_8 e9) (cwV 3 hts gX11_wave_X11_put rfl rfl rfl (by decide +kernel) ⟨Nat.le_of_ble_eq_true rfl, Nat.le_of_ble_eq_true rfl⟩) hK hN hZ hP hD hS hA rfl rfl rfl rfl rfl rfl rfl rfl hl.1 rfl (lv_room (Nat.le_of_ble_eq_true rfl)) dX11_wave_23 ⟨Nat.le_of_ble_eq_true rfl, Nat.le_of_ble_eq_true rfl⟩ (fun H locs hP hD hS => ?_)
      have hP : va_P D vwCl [(a_t, .inr (11, [.int t_thrown_2, .ref a_t_now, .ref a_t_kept, .int t_isKept, .ref a_t_text, .int t_length, .ref a_t_passing, .int t_at, .int t_fault, .int t_open, .int t_asked, .int t_byGun, .int t_prizeMost, .ref a_t_order, .ref a_t_times, .int t_listed])), (a_t_now, .inl (cI, 1562, .inl t_now_8))] H := hP
      have hD : va_D A [(a_t, .inr (11, [.int t_thrown_2, .ref a_t_now, .ref a_t_kept, .int t_isKept, .ref a_t_text, .int t_length, .ref a_t_passing, .int t_at, .int t_fault, .int t_open, .int t_asked, .int t_byGun, .int t_prizeMost, .ref a_t_order, .ref a_t_times, .int t_listed])), (a_t_now, .inl (cI, 1562, .inl t_now_8))] := hD
      refine lv_iconst (v := (1 : Int32)) hx hb dX11_wave_26 rfl ?_
      obtain ⟨j0_, g_⟩ := Prod.mk.inj (Option.some.inj h)
      obtain ⟨j1_, g_⟩ := Prod.mk.inj g_
      have j2_ := g_
      subst j0_
      subst j1_
      subst j2_
      exact W.zret (v := (1 : Int32)) hx hb hr rfl (fun t ht hW => ⟨⟨_, (), rfl, rfl, zPost.of hP hD hK ht hW [0, 1] rfl rfl rfl⟩, hS.F ht⟩) hS.2.2 dX11_wave_27
  · have h := zz_t h c4
    refine lv_iconst (v := (0 : Int32)) hx hb dX11_wave_8 rfl ?_
    obtain ⟨j0_, g_⟩ := Prod.mk.inj (Option.some.inj h)
    obtain ⟨j1_, g_⟩ := Prod.mk.inj g_
    have j2_ := g_
    subst j0_
    subst j1_
    subst j2_
    exact W.zret (v := (0 : Int32)) hx hb hr rfl (fun t ht hW => ⟨⟨_, (), rfl, rfl, zPost.of hP hD hK ht hW [0, 1] rfl rfl rfl⟩, hS.F ht⟩) hS.2.2 dX11_wave_9
/-! RunDeskModel.strike -/
theorem dX11_strike_0 : decode cX11_strike 0 = .ok (.aload_n 0, 1) := by decide +kernel
theorem dX11_strike_1 : decode cX11_strike 1 = .ok (.iload_n 1, 1) := by decide +kernel
theorem dX11_strike_2 : decode cX11_strike 2 = .ok (.invokevirtual 65, 3) := by decide +kernel
theorem dX11_strike_5 : decode cX11_strike 5 = .ok (.ifCond .eq 14, 3) := by decide +kernel
theorem dX11_strike_8 : decode cX11_strike 8 = .ok (.aload_n 0, 1) := by decide +kernel
theorem dX11_strike_9 : decode cX11_strike 9 = .ok (.iload_n 1, 1) := by decide +kernel
theorem dX11_strike_10 : decode cX11_strike 10 = .ok (.bipush 8, 2) := by decide +kernel
theorem dX11_strike_12 : decode cX11_strike 12 = .ok (.invokevirtual 62, 3) := by decide +kernel
theorem dX11_strike_15 : decode cX11_strike 15 = .ok (.iconst 1, 1) := by decide +kernel
theorem dX11_strike_16 : decode cX11_strike 16 = .ok (.if_icmp .ne 5, 3) := by decide +kernel
theorem dX11_strike_19 : decode cX11_strike 19 = .ok (.iconst 0, 1) := by decide +kernel
theorem dX11_strike_20 : decode cX11_strike 20 = .ok (.ireturn, 1) := by decide +kernel
theorem dX11_strike_21 : decode cX11_strike 21 = .ok (.aload_n 0, 1) := by decide +kernel
theorem dX11_strike_22 : decode cX11_strike 22 = .ok (.iload_n 1, 1) := by decide +kernel
theorem dX11_strike_23 : decode cX11_strike 23 = .ok (.bipush 8, 2) := by decide +kernel
theorem dX11_strike_25 : decode cX11_strike 25 = .ok (.iconst 1, 1) := by decide +kernel
theorem dX11_strike_26 : decode cX11_strike 26 = .ok (.invokevirtual 48, 3) := by decide +kernel
theorem dX11_strike_29 : decode cX11_strike 29 = .ok (.aload_n 0, 1) := by decide +kernel
theorem dX11_strike_30 : decode cX11_strike 30 = .ok (.getfield 9, 3) := by decide +kernel
theorem dX11_strike_33 : decode cX11_strike 33 = .ok (.bipush 62, 2) := by decide +kernel
theorem dX11_strike_35 : decode cX11_strike 35 = .ok (.aload_n 0, 1) := by decide +kernel
theorem dX11_strike_36 : decode cX11_strike 36 = .ok (.getfield 9, 3) := by decide +kernel
theorem dX11_strike_39 : decode cX11_strike 39 = .ok (.iconst 2, 1) := by decide +kernel
theorem dX11_strike_40 : decode cX11_strike 40 = .ok (.iaload, 1) := by decide +kernel
theorem dX11_strike_41 : decode cX11_strike 41 = .ok (.iadd, 1) := by decide +kernel
theorem dX11_strike_42 : decode cX11_strike 42 = .ok (.iload_n 1, 1) := by decide +kernel
theorem dX11_strike_43 : decode cX11_strike 43 = .ok (.iastore, 1) := by decide +kernel
theorem dX11_strike_44 : decode cX11_strike 44 = .ok (.aload_n 0, 1) := by decide +kernel
theorem dX11_strike_45 : decode cX11_strike 45 = .ok (.getfield 9, 3) := by decide +kernel
theorem dX11_strike_48 : decode cX11_strike 48 = .ok (.iconst 2, 1) := by decide +kernel
theorem dX11_strike_49 : decode cX11_strike 49 = .ok (.dup2, 1) := by decide +kernel
theorem dX11_strike_50 : decode cX11_strike 50 = .ok (.iaload, 1) := by decide +kernel
theorem dX11_strike_51 : decode cX11_strike 51 = .ok (.iconst 1, 1) := by decide +kernel
theorem dX11_strike_52 : decode cX11_strike 52 = .ok (.iadd, 1) := by decide +kernel
theorem dX11_strike_53 : decode cX11_strike 53 = .ok (.iastore, 1) := by decide +kernel
theorem dX11_strike_54 : decode cX11_strike 54 = .ok (.iconst 1, 1) := by decide +kernel
theorem dX11_strike_55 : decode cX11_strike 55 = .ok (.ireturn, 1) := by decide +kernel
set_option maxRecDepth 20000 in
theorem ggX11_strike_X11_isRunner : GoodIn wsX11_strike wsX11_isRunner := goodIn_r _ [6, 7, 8, 9, 10, 5, 11, 1, 20, 21, 22, 23, 24, 25, 26, 27, 28, 29, 30, 31, 32, 33, 34, 35] (by decide +kernel) (by decide +kernel)
set_option maxRecDepth 20000 in
theorem gX11_strike_X11_isRunner : GoodIn wsX11_strike (wsV RX11 65 RX11 yX11_isRunner wsX11_isRunner) := goodIn_app (goodIn_of _ (by decide +kernel)) ggX11_strike_X11_isRunner
set_option maxRecDepth 20000 in
theorem ggX11_strike_X11_of : GoodIn wsX11_strike wsX11_of := goodIn_r _ [15, 1, 20, 21, 22, 23, 24, 25, 26, 27, 28, 29, 30, 31, 32, 33, 34, 35] (by decide +kernel) (by decide +kernel)
set_option maxRecDepth 20000 in
theorem gX11_strike_X11_of : GoodIn wsX11_strike (wsV RX11 62 RX11 yX11_of wsX11_of) := goodIn_app (goodIn_of _ (by decide +kernel)) ggX11_strike_X11_of
set_option maxRecDepth 20000 in
theorem ggX11_strike_X11_put : GoodIn wsX11_strike wsX11_put := goodIn_r _ [19, 1, 20, 21, 22, 23, 24, 25, 26, 27, 28, 29, 30, 31, 32, 33, 34, 35] (by decide +kernel) (by decide +kernel)
set_option maxRecDepth 20000 in
theorem gX11_strike_X11_put : GoodIn wsX11_strike (wsV RX11 48 RX11 yX11_put wsX11_put) := goodIn_app (goodIn_of _ (by decide +kernel)) ggX11_strike_X11_put
def fX11_strike (t_thrown : Int32) (t_now : Nat → Int32) (x1 : Int32) : Option (Bool × Int32 × (Nat → Int32)) := ((fX11_isRunner t_thrown t_now x1).bind (fun (b1, t_thrown_2) => (if (zb b1) = 0 then some (false, t_thrown_2, t_now) else ((fX11_of t_now x1 (8 : Int32)).bind (fun r5 => (if r5 = (1 : Int32) then some (false, t_thrown_2, t_now) else ((fX11_put t_now x1 (8 : Int32) (1 : Int32)).bind (fun t_now_8 => (if zin (2 : Int32) 1562 then (if zin ((62 : Int32) + (t_now_8 ((2 : Int32)).toNatClampNeg)) 1562 then (if zin (2 : Int32) 1562 then (if zin (2 : Int32) 1562 then some (true, t_thrown_2, (upd (upd t_now_8 (((62 : Int32) + (t_now_8 ((2 : Int32)).toNatClampNeg))).toNatClampNeg x1) ((2 : Int32)).toNatClampNeg (((upd t_now_8 (((62 : Int32) + (t_now_8 ((2 : Int32)).toNatClampNeg))).toNatClampNeg x1) ((2 : Int32)).toNatClampNeg) + (1 : Int32)))) else none) else none) else none) else none)))))))))
theorem kX11_strike_0 : (.fieldLink RX11 9 "RunDeskModel" "now" "[I" : Cond) ∈ wsX11_strike := List.mem_of_getElem? (i := 1) (by decide +kernel)
theorem qX11_strike_X11 : ∀ w ∈ wsX110, w ∈ wsX11_strike := fun _ h => List.mem_cons_of_mem _ (List.mem_append_right _ (h))
set_option maxHeartbeats 4000000 in
set_option maxRecDepth 100000 in
theorem mX11_strike (l : Launch) (D : va_G) (cB cI cZ : ClassId) (a_t : Nat) (a_t_now : Nat) (a_t_kept : Nat) (a_t_text : Nat) (a_t_passing : Nat) (a_t_order : Nat) (a_t_times : Nat) (t_thrown : Int32) (t_isKept : Int32) (t_length : Int32) (t_at : Int32) (t_fault : Int32) (t_open : Int32) (t_asked : Int32) (t_byGun : Int32) (t_prizeMost : Int32) (t_listed : Int32) (t_now : Nat → Int32) (sz : Nat) (x1 : Int32) (b0 : Bool) (t_thrown' : Int32) (t_now' : Nat → Int32) (h : fX11_strike t_thrown t_now x1 = some (b0, t_thrown', t_now')) : Met l yX11_strike wsX11_strike ({ frames := 2, cells := 0, slots := 0, locals := 41 } : Room) (va_Pc [.ref a_t, .int x1] (zPre D (zT cB cI cZ) [(a_t, .inr (11, [.int t_thrown, .ref a_t_now, .ref a_t_kept, .int t_isKept, .ref a_t_text, .int t_length, .ref a_t_passing, .int t_at, .int t_fault, .int t_open, .int t_asked, .int t_byGun, .int t_prizeMost, .ref a_t_order, .ref a_t_times, .int t_listed])), (a_t_now, .inl (cI, 1562, .inl t_now))] sz)) (zQi (zb b0) D (zT cB cI cZ) [(a_t, .inr (11, [.int t_thrown', .ref a_t_now, .ref a_t_kept, .int t_isKept, .ref a_t_text, .int t_length, .ref a_t_passing, .int t_at, .int t_fault, .int t_open, .int t_asked, .int t_byGun, .int t_prizeMost, .ref a_t_order, .ref a_t_times, .int t_listed])), (a_t_now, .inl (cI, 1562, .inl t_now'))] (va_A [(a_t, .inr (11, [.int t_thrown, .ref a_t_now, .ref a_t_kept, .int t_isKept, .ref a_t_text, .int t_length, .ref a_t_passing, .int t_at, .int t_fault, .int t_open, .int t_asked, .int t_byGun, .int t_prizeMost, .ref a_t_order, .ref a_t_times, .int t_listed])), (a_t_now, .inl (cI, 1562, .inl t_now))] sz)) 0 0 (va_A [(a_t, .inr (11, [.int t_thrown, .ref a_t_now, .ref a_t_kept, .int t_isKept, .ref a_t_text, .int t_length, .ref a_t_passing, .int t_at, .int t_fault, .int t_open, .int t_asked, .int t_byGun, .int t_prizeMost, .ref a_t_order, .ref a_t_times, .int t_listed])), (a_t_now, .inl (cI, 1562, .inl t_now))] sz) := by
  refine Met.ofW (cc := cX11_strike) (maxL := 2) (ret := (some .boolean)) (by decide) rfl ?_
  intro p e s m args below meth c s₁ B hml hv
  obtain ⟨rfl, hsz, hP, hK, hN, hZ, hD0⟩ := hv
  have hx := B.exec
  have hb := B.bytes
  have hr := B.returns
  have hts := atoms_spec (ws := wsX11_strike) B.pre
  have hown : s.vm.findClass RX11 = some m.cls := findClass_of_methodNamed B.named
  have hlocks := B.notSynchronized
  subst hsz
  have hD := hD0.self (sz := s.heap.size)
  generalize hAe : va_A [(a_t, .inr (11, [.int t_thrown, .ref a_t_now, .ref a_t_kept, .int t_isKept, .ref a_t_text, .int t_length, .ref a_t_passing, .int t_at, .int t_fault, .int t_open, .int t_asked, .int t_byGun, .int t_prizeMost, .ref a_t_order, .ref a_t_times, .int t_listed])), (a_t_now, .inl (cI, 1562, .inl t_now))] s.heap.size = A at hD hZ ⊢
  have hA : ∀ q : Nat, s.heap.size ≤ q → A q := fun q h => by rw [← hAe]; exact Or.inr h
  have hS : va_S A s.heap s.heap [] := va_S.rf
  have hl := lv_entry ([.ref a_t, .int x1]) (n := 2) (Nat.le_of_ble_eq_true rfl)
  rw [lg_entry_eq]
  generalize (lg_sl ([.ref a_t, .int x1]) ++ List.replicate (2 - (lg_sl ([.ref a_t, .int x1])).length) Slot.unset).toArray = ls at hl ⊢
  have hl : lv_has ls 2 [(0, .ref a_t), (1, .int x1)] := hl
  unfold fX11_strike at h
  refine lv_aload_n hx hb dX11_strike_0 rfl (lv_at hl 0 rfl) ?_
  refine lv_iload_n hx hb dX11_strike_1 rfl (lv_at hl 1 rfl) ?_
  obtain ⟨⟨b1, t_thrown_2⟩, e3, h⟩ := zz_b h
  dsimp only at h
  refine zVi (As := [.int x1]) (rest := []) (C := RX11) (wr := []) [0, 1] [] 0 ⟨hx, hb, hml, hown, hts⟩ (mX11_isRunner l D cB cI cZ a_t a_t_now a_t_kept a_t_text a_t_passing a_t_order a_t_times t_thrown t_isKept t_length t_at t_fault t_open t_asked t_byGun t_prizeMost t_listed t_now s.heap.size x1 b1 t_thrown_2 e3) (cwV 1 hts gX11_strike_X11_isRunner rfl rfl rfl (by decide +kernel) ⟨Nat.le_of_ble_eq_true rfl, Nat.le_of_ble_eq_true rfl⟩) hK hN hZ hP hD hS hA rfl rfl rfl rfl rfl rfl rfl rfl hl.1 rfl (lv_room (Nat.le_of_ble_eq_true rfl)) dX11_strike_2 ⟨Nat.le_of_ble_eq_true rfl, Nat.le_of_ble_eq_true rfl⟩ (fun H locs hP hD hS => ?_)
  have hP : va_P D vwCl [(a_t, .inr (11, [.int t_thrown_2, .ref a_t_now, .ref a_t_kept, .int t_isKept, .ref a_t_text, .int t_length, .ref a_t_passing, .int t_at, .int t_fault, .int t_open, .int t_asked, .int t_byGun, .int t_prizeMost, .ref a_t_order, .ref a_t_times, .int t_listed])), (a_t_now, .inl (cI, 1562, .inl t_now))] H := hP
  have hD : va_D A [(a_t, .inr (11, [.int t_thrown_2, .ref a_t_now, .ref a_t_kept, .int t_isKept, .ref a_t_text, .int t_length, .ref a_t_passing, .int t_at, .int t_fault, .int t_open, .int t_asked, .int t_byGun, .int t_prizeMost, .ref a_t_order, .ref a_t_times, .int t_listed])), (a_t_now, .inl (cI, 1562, .inl t_now))] := hD
  refine lv_if_eq (tgt := 19) hx hb dX11_strike_5 (by decide) (fun c4 => ?_) (fun c4 => ?_)
  · have h := zz_t h c4
    refine lv_iconst (v := (0 : Int32)) hx hb dX11_strike_19 rfl ?_
    obtain ⟨j0_, g_⟩ := Prod.mk.inj (Option.some.inj h)
    obtain ⟨j1_, g_⟩ := Prod.mk.inj g_
    have j2_ := g_
    subst j0_
    subst j1_
    subst j2_
    exact W.zret (v := (0 : Int32)) hx hb hr rfl (fun t ht hW => ⟨⟨_, (), rfl, rfl, zPost.of hP hD hK ht hW [0, 1] rfl rfl rfl⟩, hS.F ht⟩) hS.2.2 dX11_strike_20
  · have h := zz_f h c4
    refine lv_aload_n hx hb dX11_strike_8 rfl (lv_at hl 0 rfl) ?_
    refine lv_iload_n hx hb dX11_strike_9 rfl (lv_at hl 1 rfl) ?_
    refine lv_bipush (v := (8 : Int32)) hx hb dX11_strike_10 rfl ?_
    obtain ⟨r5, e6, h⟩ := zz_b h
    refine zVi (As := [.int x1, .int (8 : Int32)]) (rest := []) (C := RX11) (wr := []) [0, 1] [] 0 ⟨hx, hb, hml, hown, hts⟩ (mX11_of l D cB cI cZ a_t a_t_now a_t_kept a_t_text a_t_passing a_t_order a_t_times t_thrown_2 t_isKept t_length t_at t_fault t_open t_asked t_byGun t_prizeMost t_listed t_now H.size x1 (8 : Int32) r5 e6) (cwV 2 hts gX11_strike_X11_of rfl rfl rfl (by decide +kernel) ⟨Nat.le_of_ble_eq_true rfl, Nat.le_of_ble_eq_true rfl⟩) hK hN hZ hP hD hS hA rfl rfl rfl rfl rfl rfl rfl rfl hl.1 rfl (lv_room (Nat.le_of_ble_eq_true rfl)) dX11_strike_12 ⟨Nat.le_of_ble_eq_true rfl, Nat.le_of_ble_eq_true rfl⟩ (fun H locs hP hD hS => ?_)
    have hP : va_P D vwCl [(a_t, .inr (11, [.int t_thrown_2, .ref a_t_now, .ref a_t_kept, .int t_isKept, .ref a_t_text, .int t_length, .ref a_t_passing, .int t_at, .int t_fault, .int t_open, .int t_asked, .int t_byGun, .int t_prizeMost, .ref a_t_order, .ref a_t_times, .int t_listed])), (a_t_now, .inl (cI, 1562, .inl t_now))] H := hP
    have hD : va_D A [(a_t, .inr (11, [.int t_thrown_2, .ref a_t_now, .ref a_t_kept, .int t_isKept, .ref a_t_text, .int t_length, .ref a_t_passing, .int t_at, .int t_fault, .int t_open, .int t_asked, .int t_byGun, .int t_prizeMost, .ref a_t_order, .ref a_t_times, .int t_listed])), (a_t_now, .inl (cI, 1562, .inl t_now))] := hD
    refine lv_iconst (v := (1 : Int32)) hx hb dX11_strike_15 rfl ?_
    refine lv_icmp_ne (tgt := 21) hx hb dX11_strike_16 (by decide) (fun c7 => ?_) (fun c7 => ?_)
    · have h := zz_f h c7
      refine lv_aload_n hx hb dX11_strike_21 rfl (lv_at hl 0 rfl) ?_
      refine lv_iload_n hx hb dX11_strike_22 rfl (lv_at hl 1 rfl) ?_
      refine lv_bipush (v := (8 : Int32)) hx hb dX11_strike_23 rfl ?_
      refine lv_iconst (v := (1 : Int32)) hx hb dX11_strike_25 rfl ?_
      obtain ⟨t_now_8, e9, h⟩ := zz_b h
      refine zVv (As := [.int x1, .int (8 : Int32), .int (1 : Int32)]) (rest := []) (C := RX11) (wr := []) [0, 1] [] 0 ⟨hx, hb, hml, hown, hts⟩ (mX11_put l D cB cI cZ a_t a_t_now a_t_kept a_t_text a_t_passing a_t_order a_t_times t_thrown_2 t_isKept t_length t_at t_fault t_open t_asked t_byGun t_prizeMost t_listed t_now H.size x1 (8 : Int32) (1 : Int32) t_now_8 e9) (cwV 3 hts gX11_strike_X11_put rfl rfl rfl (by decide +kernel) ⟨Nat.le_of_ble_eq_true rfl, Nat.le_of_ble_eq_true rfl⟩) hK hN hZ hP hD hS hA rfl rfl rfl rfl rfl rfl rfl rfl hl.1 rfl (lv_room (Nat.le_of_ble_eq_true rfl)) dX11_strike_26 ⟨Nat.le_of_ble_eq_true rfl, Nat.le_of_ble_eq_true rfl⟩ (fun H locs hP hD hS => ?_)
      have hP : va_P D vwCl [(a_t, .inr (11, [.int t_thrown_2, .ref a_t_now, .ref a_t_kept, .int t_isKept, .ref a_t_text, .int t_length, .ref a_t_passing, .int t_at, .int t_fault, .int t_open, .int t_asked, .int t_byGun, .int t_prizeMost, .ref a_t_order, .ref a_t_times, .int t_listed])), (a_t_now, .inl (cI, 1562, .inl t_now_8))] H := hP
      have hD : va_D A [(a_t, .inr (11, [.int t_thrown_2, .ref a_t_now, .ref a_t_kept, .int t_isKept, .ref a_t_text, .int t_length, .ref a_t_passing, .int t_at, .int t_fault, .int t_open, .int t_asked, .int t_byGun, .int t_prizeMost, .ref a_t_order, .ref a_t_times, .int t_listed])), (a_t_now, .inl (cI, 1562, .inl t_now_8))] := hD
      refine lv_aload_n hx hb dX11_strike_29 rfl (lv_at hl 0 rfl) ?_
      refine va_get (D := D) (ci := 11) (C := RX11) (T := TX11) (N := 16) hx hb hts qX11_strike_X11 hown hK hP 0 rfl rfl 1 (by decide) (hts _ kX11_strike_0) (fun _ h9 => h9) rfl dX11_strike_30 ?_
      refine lv_bipush (v := (62 : Int32)) hx hb dX11_strike_33 rfl ?_
      refine lv_aload_n hx hb dX11_strike_35 rfl (lv_at hl 0 rfl) ?_
      refine va_get (D := D) (ci := 11) (C := RX11) (T := TX11) (N := 16) hx hb hts qX11_strike_X11 hown hK hP 0 rfl rfl 1 (by decide) (hts _ kX11_strike_0) (fun _ h9 => h9) rfl dX11_strike_36 ?_
      refine lv_iconst (v := (2 : Int32)) hx hb dX11_strike_39 rfl ?_
      obtain ⟨i10, h⟩ := zz_i h
      refine va_iald hx hb hK hP 1 1 rfl rfl i10 dX11_strike_40 ?_
      refine lv_iadd hx hb dX11_strike_41 ?_
      refine lv_iload_n hx hb dX11_strike_42 rfl (lv_at hl 1 rfl) ?_
      obtain ⟨i11, h⟩ := zz_i h
      refine va_iast hx hb hK hP hD hS 1 1 rfl rfl i11 dX11_strike_43 (fun H locs hP hD hS => ?_)
      have hP : va_P D vwCl [(a_t, .inr (11, [.int t_thrown_2, .ref a_t_now, .ref a_t_kept, .int t_isKept, .ref a_t_text, .int t_length, .ref a_t_passing, .int t_at, .int t_fault, .int t_open, .int t_asked, .int t_byGun, .int t_prizeMost, .ref a_t_order, .ref a_t_times, .int t_listed])), (a_t_now, .inl (cI, 1562, .inl (upd t_now_8 (((62 : Int32) + (t_now_8 ((2 : Int32)).toNatClampNeg))).toNatClampNeg x1)))] H := hP
      have hD : va_D A [(a_t, .inr (11, [.int t_thrown_2, .ref a_t_now, .ref a_t_kept, .int t_isKept, .ref a_t_text, .int t_length, .ref a_t_passing, .int t_at, .int t_fault, .int t_open, .int t_asked, .int t_byGun, .int t_prizeMost, .ref a_t_order, .ref a_t_times, .int t_listed])), (a_t_now, .inl (cI, 1562, .inl (upd t_now_8 (((62 : Int32) + (t_now_8 ((2 : Int32)).toNatClampNeg))).toNatClampNeg x1)))] := hD
      refine lv_aload_n hx hb dX11_strike_44 rfl (lv_at hl 0 rfl) ?_
      refine va_get (D := D) (ci := 11) (C := RX11) (T := TX11) (N := 16) hx hb hts qX11_strike_X11 hown hK hP 0 rfl rfl 1 (by decide) (hts _ kX11_strike_0) (fun _ h9 => h9) rfl dX11_strike_45 ?_
      refine lv_iconst (v := (2 : Int32)) hx hb dX11_strike_48 rfl ?_
      refine lv_dup2_11 hx hb dX11_strike_49 rfl rfl ?_
      obtain ⟨i12, h⟩ := zz_i h
      refine va_iald hx hb hK hP 1 1 rfl rfl i12 dX11_strike_50 ?_
      refine lv_iconst (v := (1 : Int32)) hx hb dX11_strike_51 rfl ?_
      refine lv_iadd hx hb dX11_strike_52 ?_
      obtain ⟨i13, h⟩ := zz_i h
      refine va_iast hx hb hK hP hD hS 1 1 rfl rfl i13 dX11_strike_53 (fun H locs hP hD hS => ?_)
      have hP : va_P D vwCl [(a_t, .inr (11, [.int t_thrown_2, .ref a_t_now, .ref a_t_kept, .int t_isKept, .ref a_t_text, .int t_length, .ref a_t_passing, .int t_at, .int t_fault, .int t_open, .int t_asked, .int t_byGun, .int t_prizeMost, .ref a_t_order, .ref a_t_times, .int t_listed])), (a_t_now, .inl (cI, 1562, .inl (upd (upd t_now_8 (((62 : Int32) + (t_now_8 ((2 : Int32)).toNatClampNeg))).toNatClampNeg x1) ((2 : Int32)).toNatClampNeg (((upd t_now_8 (((62 : Int32) + (t_now_8 ((2 : Int32)).toNatClampNeg))).toNatClampNeg x1) ((2 : Int32)).toNatClampNeg) + (1 : Int32)))))] H := hP
      have hD : va_D A [(a_t, .inr (11, [.int t_thrown_2, .ref a_t_now, .ref a_t_kept, .int t_isKept, .ref a_t_text, .int t_length, .ref a_t_passing, .int t_at, .int t_fault, .int t_open, .int t_asked, .int t_byGun, .int t_prizeMost, .ref a_t_order, .ref a_t_times, .int t_listed])), (a_t_now, .inl (cI, 1562, .inl (upd (upd t_now_8 (((62 : Int32) + (t_now_8 ((2 : Int32)).toNatClampNeg))).toNatClampNeg x1) ((2 : Int32)).toNatClampNeg (((upd t_now_8 (((62 : Int32) + (t_now_8 ((2 : Int32)).toNatClampNeg))).toNatClampNeg x1) ((2 : Int32)).toNatClampNeg) + (1 : Int32)))))] := hD
      refine lv_iconst (v := (1 : Int32)) hx hb dX11_strike_54 rfl ?_
      obtain ⟨j0_, g_⟩ := Prod.mk.inj (Option.some.inj h)
      obtain ⟨j1_, g_⟩ := Prod.mk.inj g_
      have j2_ := g_
      subst j0_
      subst j1_
      subst j2_
      exact W.zret (v := (1 : Int32)) hx hb hr rfl (fun t ht hW => ⟨⟨_, (), rfl, rfl, zPost.of hP hD hK ht hW [0, 1] rfl rfl rfl⟩, hS.F ht⟩) hS.2.2 dX11_strike_55
    · have h := zz_t h c7
      refine lv_iconst (v := (0 : Int32)) hx hb dX11_strike_19 rfl ?_
      obtain ⟨j0_, g_⟩ := Prod.mk.inj (Option.some.inj h)
      obtain ⟨j1_, g_⟩ := Prod.mk.inj g_
      have j2_ := g_
      subst j0_
      subst j1_
      subst j2_
      exact W.zret (v := (0 : Int32)) hx hb hr rfl (fun t ht hW => ⟨⟨_, (), rfl, rfl, zPost.of hP hD hK ht hW [0, 1] rfl rfl rfl⟩, hS.F ht⟩) hS.2.2 dX11_strike_20
/-! RunDeskModel.pardon -/
theorem dX11_pardon_0 : decode cX11_pardon 0 = .ok (.aload_n 0, 1) := by decide +kernel
theorem dX11_pardon_1 : decode cX11_pardon 1 = .ok (.iconst 0, 1) := by decide +kernel
theorem dX11_pardon_2 : decode cX11_pardon 2 = .ok (.putfield 37, 3) := by decide +kernel
theorem dX11_pardon_5 : decode cX11_pardon 5 = .ok (.aload_n 0, 1) := by decide +kernel
theorem dX11_pardon_6 : decode cX11_pardon 6 = .ok (.getfield 9, 3) := by decide +kernel
theorem dX11_pardon_9 : decode cX11_pardon 9 = .ok (.iconst 2, 1) := by decide +kernel
theorem dX11_pardon_10 : decode cX11_pardon 10 = .ok (.iaload, 1) := by decide +kernel
theorem dX11_pardon_11 : decode cX11_pardon 11 = .ok (.ifCond .ne 5, 3) := by decide +kernel
theorem dX11_pardon_14 : decode cX11_pardon 14 = .ok (.iconst (-1), 1) := by decide +kernel
theorem dX11_pardon_15 : decode cX11_pardon 15 = .ok (.ireturn, 1) := by decide +kernel
theorem dX11_pardon_16 : decode cX11_pardon 16 = .ok (.aload_n 0, 1) := by decide +kernel
theorem dX11_pardon_17 : decode cX11_pardon 17 = .ok (.getfield 9, 3) := by decide +kernel
theorem dX11_pardon_20 : decode cX11_pardon 20 = .ok (.iconst 2, 1) := by decide +kernel
theorem dX11_pardon_21 : decode cX11_pardon 21 = .ok (.dup2, 1) := by decide +kernel
theorem dX11_pardon_22 : decode cX11_pardon 22 = .ok (.iaload, 1) := by decide +kernel
theorem dX11_pardon_23 : decode cX11_pardon 23 = .ok (.iconst 1, 1) := by decide +kernel
theorem dX11_pardon_24 : decode cX11_pardon 24 = .ok (.isub, 1) := by decide +kernel
theorem dX11_pardon_25 : decode cX11_pardon 25 = .ok (.iastore, 1) := by decide +kernel
theorem dX11_pardon_26 : decode cX11_pardon 26 = .ok (.aload_n 0, 1) := by decide +kernel
theorem dX11_pardon_27 : decode cX11_pardon 27 = .ok (.getfield 9, 3) := by decide +kernel
theorem dX11_pardon_30 : decode cX11_pardon 30 = .ok (.bipush 62, 2) := by decide +kernel
theorem dX11_pardon_32 : decode cX11_pardon 32 = .ok (.aload_n 0, 1) := by decide +kernel
theorem dX11_pardon_33 : decode cX11_pardon 33 = .ok (.getfield 9, 3) := by decide +kernel
theorem dX11_pardon_36 : decode cX11_pardon 36 = .ok (.iconst 2, 1) := by decide +kernel
theorem dX11_pardon_37 : decode cX11_pardon 37 = .ok (.iaload, 1) := by decide +kernel
theorem dX11_pardon_38 : decode cX11_pardon 38 = .ok (.iadd, 1) := by decide +kernel
theorem dX11_pardon_39 : decode cX11_pardon 39 = .ok (.iaload, 1) := by decide +kernel
theorem dX11_pardon_40 : decode cX11_pardon 40 = .ok (.istore_n 1, 1) := by decide +kernel
theorem dX11_pardon_41 : decode cX11_pardon 41 = .ok (.aload_n 0, 1) := by decide +kernel
theorem dX11_pardon_42 : decode cX11_pardon 42 = .ok (.iload_n 1, 1) := by decide +kernel
theorem dX11_pardon_43 : decode cX11_pardon 43 = .ok (.bipush 8, 2) := by decide +kernel
theorem dX11_pardon_45 : decode cX11_pardon 45 = .ok (.iconst 0, 1) := by decide +kernel
theorem dX11_pardon_46 : decode cX11_pardon 46 = .ok (.invokevirtual 48, 3) := by decide +kernel
theorem dX11_pardon_49 : decode cX11_pardon 49 = .ok (.iload_n 1, 1) := by decide +kernel
theorem dX11_pardon_50 : decode cX11_pardon 50 = .ok (.ireturn, 1) := by decide +kernel
set_option maxRecDepth 20000 in
theorem ggX11_pardon_X11_put : GoodIn wsX11_pardon wsX11_put := goodIn_r _ [7, 2, 8, 9, 10, 11, 12, 13, 14, 15, 16, 17, 18, 19, 20, 21, 22, 23] (by decide +kernel) (by decide +kernel)
set_option maxRecDepth 20000 in
theorem gX11_pardon_X11_put : GoodIn wsX11_pardon (wsV RX11 48 RX11 yX11_put wsX11_put) := goodIn_app (goodIn_of _ (by decide +kernel)) ggX11_pardon_X11_put
def fX11_pardon (t_thrown : Int32) (t_now : Nat → Int32) : Option (Int32 × Int32 × (Nat → Int32)) := (if zin (2 : Int32) 1562 then (if (t_now ((2 : Int32)).toNatClampNeg) = 0 then some ((-1 : Int32), (0 : Int32), t_now) else (if zin (2 : Int32) 1562 then (if zin (2 : Int32) 1562 then (if zin (2 : Int32) 1562 then (if zin ((62 : Int32) + ((upd t_now ((2 : Int32)).toNatClampNeg ((t_now ((2 : Int32)).toNatClampNeg) - (1 : Int32))) ((2 : Int32)).toNatClampNeg)) 1562 then ((fX11_put (upd t_now ((2 : Int32)).toNatClampNeg ((t_now ((2 : Int32)).toNatClampNeg) - (1 : Int32))) ((upd t_now ((2 : Int32)).toNatClampNeg ((t_now ((2 : Int32)).toNatClampNeg) - (1 : Int32))) (((62 : Int32) + ((upd t_now ((2 : Int32)).toNatClampNeg ((t_now ((2 : Int32)).toNatClampNeg) - (1 : Int32))) ((2 : Int32)).toNatClampNeg))).toNatClampNeg) (8 : Int32) (0 : Int32)).bind (fun t_now_7 => some (((upd t_now ((2 : Int32)).toNatClampNeg ((t_now ((2 : Int32)).toNatClampNeg) - (1 : Int32))) (((62 : Int32) + ((upd t_now ((2 : Int32)).toNatClampNeg ((t_now ((2 : Int32)).toNatClampNeg) - (1 : Int32))) ((2 : Int32)).toNatClampNeg))).toNatClampNeg), (0 : Int32), t_now_7))) else none) else none) else none) else none)) else none)
theorem kX11_pardon_0 : (.fieldLink RX11 37 "RunDeskModel" "thrown" "I" : Cond) ∈ wsX11_pardon := List.mem_of_getElem? (i := 1) (by decide +kernel)
theorem qX11_pardon_X11 : ∀ w ∈ wsX110, w ∈ wsX11_pardon := fun _ h => List.mem_cons_of_mem _ (List.mem_append_right _ (h))
theorem kX11_pardon_2 : (.fieldLink RX11 9 "RunDeskModel" "now" "[I" : Cond) ∈ wsX11_pardon := List.mem_of_getElem? (i := 2) (by decide +kernel)
set_option maxHeartbeats 4000000 in
set_option maxRecDepth 100000 in
theorem mX11_pardon (l : Launch) (D : va_G) (cB cI cZ : ClassId) (a_t : Nat) (a_t_now : Nat) (a_t_kept : Nat) (a_t_text : Nat) (a_t_passing : Nat) (a_t_order : Nat) (a_t_times : Nat) (t_thrown : Int32) (t_isKept : Int32) (t_length : Int32) (t_at : Int32) (t_fault : Int32) (t_open : Int32) (t_asked : Int32) (t_byGun : Int32) (t_prizeMost : Int32) (t_listed : Int32) (t_now : Nat → Int32) (sz : Nat) (r0 : Int32) (t_thrown' : Int32) (t_now' : Nat → Int32) (h : fX11_pardon t_thrown t_now = some (r0, t_thrown', t_now')) : Met l yX11_pardon wsX11_pardon ({ frames := 1, cells := 0, slots := 0, locals := 23 } : Room) (va_Pc [.ref a_t] (zPre D (zT cB cI cZ) [(a_t, .inr (11, [.int t_thrown, .ref a_t_now, .ref a_t_kept, .int t_isKept, .ref a_t_text, .int t_length, .ref a_t_passing, .int t_at, .int t_fault, .int t_open, .int t_asked, .int t_byGun, .int t_prizeMost, .ref a_t_order, .ref a_t_times, .int t_listed])), (a_t_now, .inl (cI, 1562, .inl t_now))] sz)) (zQi r0 D (zT cB cI cZ) [(a_t, .inr (11, [.int t_thrown', .ref a_t_now, .ref a_t_kept, .int t_isKept, .ref a_t_text, .int t_length, .ref a_t_passing, .int t_at, .int t_fault, .int t_open, .int t_asked, .int t_byGun, .int t_prizeMost, .ref a_t_order, .ref a_t_times, .int t_listed])), (a_t_now, .inl (cI, 1562, .inl t_now'))] (va_A [(a_t, .inr (11, [.int t_thrown, .ref a_t_now, .ref a_t_kept, .int t_isKept, .ref a_t_text, .int t_length, .ref a_t_passing, .int t_at, .int t_fault, .int t_open, .int t_asked, .int t_byGun, .int t_prizeMost, .ref a_t_order, .ref a_t_times, .int t_listed])), (a_t_now, .inl (cI, 1562, .inl t_now))] sz)) 0 0 (va_A [(a_t, .inr (11, [.int t_thrown, .ref a_t_now, .ref a_t_kept, .int t_isKept, .ref a_t_text, .int t_length, .ref a_t_passing, .int t_at, .int t_fault, .int t_open, .int t_asked, .int t_byGun, .int t_prizeMost, .ref a_t_order, .ref a_t_times, .int t_listed])), (a_t_now, .inl (cI, 1562, .inl t_now))] sz) := by
  refine Met.ofW (cc := cX11_pardon) (maxL := 2) (ret := (some .int)) (by decide) rfl ?_
  intro p e s m args below meth c s₁ B hml hv
  obtain ⟨rfl, hsz, hP, hK, hN, hZ, hD0⟩ := hv
  have hx := B.exec
  have hb := B.bytes
  have hr := B.returns
  have hts := atoms_spec (ws := wsX11_pardon) B.pre
  have hown : s.vm.findClass RX11 = some m.cls := findClass_of_methodNamed B.named
  have hlocks := B.notSynchronized
  subst hsz
  have hD := hD0.self (sz := s.heap.size)
  generalize hAe : va_A [(a_t, .inr (11, [.int t_thrown, .ref a_t_now, .ref a_t_kept, .int t_isKept, .ref a_t_text, .int t_length, .ref a_t_passing, .int t_at, .int t_fault, .int t_open, .int t_asked, .int t_byGun, .int t_prizeMost, .ref a_t_order, .ref a_t_times, .int t_listed])), (a_t_now, .inl (cI, 1562, .inl t_now))] s.heap.size = A at hD hZ ⊢
  have hA : ∀ q : Nat, s.heap.size ≤ q → A q := fun q h => by rw [← hAe]; exact Or.inr h
  have hS : va_S A s.heap s.heap [] := va_S.rf
  have hl := lv_entry ([.ref a_t]) (n := 2) (Nat.le_of_ble_eq_true rfl)
  rw [lg_entry_eq]
  generalize (lg_sl ([.ref a_t]) ++ List.replicate (2 - (lg_sl ([.ref a_t])).length) Slot.unset).toArray = ls at hl ⊢
  have hl : lv_has ls 2 [(0, .ref a_t)] := hl
  unfold fX11_pardon at h
  refine lv_aload_n hx hb dX11_pardon_0 rfl (lv_at hl 0 rfl) ?_
  refine lv_iconst (v := (0 : Int32)) hx hb dX11_pardon_1 rfl ?_
  refine va_put (D := D) (ci := 11) (ty := .int) (C := RX11) (T := TX11) (N := 16) hx hb hts qX11_pardon_X11 tyX11 tyX11_ok nmX11 hown hK hP hD hS 0 rfl rfl 0 (by decide) (hts _ kX11_pardon_0) (fun _ h9 => h9) rfl (by decide +kernel) rfl (by first | rfl | exact zz_fit) (Nat.le_of_ble_eq_true rfl) dX11_pardon_2 (fun H locs hP hD hS => ?_)
  have hP : va_P D vwCl [(a_t, .inr (11, [.int (0 : Int32), .ref a_t_now, .ref a_t_kept, .int t_isKept, .ref a_t_text, .int t_length, .ref a_t_passing, .int t_at, .int t_fault, .int t_open, .int t_asked, .int t_byGun, .int t_prizeMost, .ref a_t_order, .ref a_t_times, .int t_listed])), (a_t_now, .inl (cI, 1562, .inl t_now))] H := hP
  have hD : va_D A [(a_t, .inr (11, [.int (0 : Int32), .ref a_t_now, .ref a_t_kept, .int t_isKept, .ref a_t_text, .int t_length, .ref a_t_passing, .int t_at, .int t_fault, .int t_open, .int t_asked, .int t_byGun, .int t_prizeMost, .ref a_t_order, .ref a_t_times, .int t_listed])), (a_t_now, .inl (cI, 1562, .inl t_now))] := hD
  refine lv_aload_n hx hb dX11_pardon_5 rfl (lv_at hl 0 rfl) ?_
  refine va_get (D := D) (ci := 11) (C := RX11) (T := TX11) (N := 16) hx hb hts qX11_pardon_X11 hown hK hP 0 rfl rfl 1 (by decide) (hts _ kX11_pardon_2) (fun _ h9 => h9) rfl dX11_pardon_6 ?_
  refine lv_iconst (v := (2 : Int32)) hx hb dX11_pardon_9 rfl ?_
  obtain ⟨i1, h⟩ := zz_i h
  refine va_iald hx hb hK hP 1 1 rfl rfl i1 dX11_pardon_10 ?_
  refine lv_if_ne (tgt := 16) hx hb dX11_pardon_11 (by decide) (fun c2 => ?_) (fun c2 => ?_)
  · have h := zz_f h c2
    refine lv_aload_n hx hb dX11_pardon_16 rfl (lv_at hl 0 rfl) ?_
    refine va_get (D := D) (ci := 11) (C := RX11) (T := TX11) (N := 16) hx hb hts qX11_pardon_X11 hown hK hP 0 rfl rfl 1 (by decide) (hts _ kX11_pardon_2) (fun _ h9 => h9) rfl dX11_pardon_17 ?_
    refine lv_iconst (v := (2 : Int32)) hx hb dX11_pardon_20 rfl ?_
    refine lv_dup2_11 hx hb dX11_pardon_21 rfl rfl ?_
    obtain ⟨i3, h⟩ := zz_i h
    refine va_iald hx hb hK hP 1 1 rfl rfl i3 dX11_pardon_22 ?_
    refine lv_iconst (v := (1 : Int32)) hx hb dX11_pardon_23 rfl ?_
    refine lv_isub hx hb dX11_pardon_24 ?_
    obtain ⟨i4, h⟩ := zz_i h
    refine va_iast hx hb hK hP hD hS 1 1 rfl rfl i4 dX11_pardon_25 (fun H locs hP hD hS => ?_)
    have hP : va_P D vwCl [(a_t, .inr (11, [.int (0 : Int32), .ref a_t_now, .ref a_t_kept, .int t_isKept, .ref a_t_text, .int t_length, .ref a_t_passing, .int t_at, .int t_fault, .int t_open, .int t_asked, .int t_byGun, .int t_prizeMost, .ref a_t_order, .ref a_t_times, .int t_listed])), (a_t_now, .inl (cI, 1562, .inl (upd t_now ((2 : Int32)).toNatClampNeg ((t_now ((2 : Int32)).toNatClampNeg) - (1 : Int32)))))] H := hP
    have hD : va_D A [(a_t, .inr (11, [.int (0 : Int32), .ref a_t_now, .ref a_t_kept, .int t_isKept, .ref a_t_text, .int t_length, .ref a_t_passing, .int t_at, .int t_fault, .int t_open, .int t_asked, .int t_byGun, .int t_prizeMost, .ref a_t_order, .ref a_t_times, .int t_listed])), (a_t_now, .inl (cI, 1562, .inl (upd t_now ((2 : Int32)).toNatClampNeg ((t_now ((2 : Int32)).toNatClampNeg) - (1 : Int32)))))] := hD
    refine lv_aload_n hx hb dX11_pardon_26 rfl (lv_at hl 0 rfl) ?_
    refine va_get (D := D) (ci := 11) (C := RX11) (T := TX11) (N := 16) hx hb hts qX11_pardon_X11 hown hK hP 0 rfl rfl 1 (by decide) (hts _ kX11_pardon_2) (fun _ h9 => h9) rfl dX11_pardon_27 ?_
    refine lv_bipush (v := (62 : Int32)) hx hb dX11_pardon_30 rfl ?_
    refine lv_aload_n hx hb dX11_pardon_32 rfl (lv_at hl 0 rfl) ?_
    refine va_get (D := D) (ci := 11) (C := RX11) (T := TX11) (N := 16) hx hb hts qX11_pardon_X11 hown hK hP 0 rfl rfl 1 (by decide) (hts _ kX11_pardon_2) (fun _ h9 => h9) rfl dX11_pardon_33 ?_
    refine lv_iconst (v := (2 : Int32)) hx hb dX11_pardon_36 rfl ?_
    obtain ⟨i5, h⟩ := zz_i h
    refine va_iald hx hb hK hP 1 1 rfl rfl i5 dX11_pardon_37 ?_
    refine lv_iadd hx hb dX11_pardon_38 ?_
    obtain ⟨i6, h⟩ := zz_i h
    refine va_iald hx hb hK hP 1 1 rfl rfl i6 dX11_pardon_39 ?_
    refine lv_istore_n (lv' := [(1, .int ((upd t_now ((2 : Int32)).toNatClampNeg ((t_now ((2 : Int32)).toNatClampNeg) - (1 : Int32))) (((62 : Int32) + ((upd t_now ((2 : Int32)).toNatClampNeg ((t_now ((2 : Int32)).toNatClampNeg) - (1 : Int32))) ((2 : Int32)).toNatClampNeg))).toNatClampNeg)), (0, .ref a_t)]) hx hb dX11_pardon_40 rfl hl (by decide) rfl (fun ls hl => ?_)
    refine lv_aload_n hx hb dX11_pardon_41 rfl (lv_at hl 1 rfl) ?_
    refine lv_iload_n hx hb dX11_pardon_42 rfl (lv_at hl 0 rfl) ?_
    refine lv_bipush (v := (8 : Int32)) hx hb dX11_pardon_43 rfl ?_
    refine lv_iconst (v := (0 : Int32)) hx hb dX11_pardon_45 rfl ?_
    obtain ⟨t_now_7, e8, h⟩ := zz_b h
    refine zVv (As := [.int ((upd t_now ((2 : Int32)).toNatClampNeg ((t_now ((2 : Int32)).toNatClampNeg) - (1 : Int32))) (((62 : Int32) + ((upd t_now ((2 : Int32)).toNatClampNeg ((t_now ((2 : Int32)).toNatClampNeg) - (1 : Int32))) ((2 : Int32)).toNatClampNeg))).toNatClampNeg), .int (8 : Int32), .int (0 : Int32)]) (rest := []) (C := RX11) (wr := []) [0, 1] [] 0 ⟨hx, hb, hml, hown, hts⟩ (mX11_put l D cB cI cZ a_t a_t_now a_t_kept a_t_text a_t_passing a_t_order a_t_times (0 : Int32) t_isKept t_length t_at t_fault t_open t_asked t_byGun t_prizeMost t_listed (upd t_now ((2 : Int32)).toNatClampNeg ((t_now ((2 : Int32)).toNatClampNeg) - (1 : Int32))) H.size ((upd t_now ((2 : Int32)).toNatClampNeg ((t_now ((2 : Int32)).toNatClampNeg) - (1 : Int32))) (((62 : Int32) + ((upd t_now ((2 : Int32)).toNatClampNeg ((t_now ((2 : Int32)).toNatClampNeg) - (1 : Int32))) ((2 : Int32)).toNatClampNeg))).toNatClampNeg) (8 : Int32) (0 : Int32) t_now_7 e8) (cwV 3 hts gX11_pardon_X11_put rfl rfl rfl (by decide +kernel) ⟨Nat.le_of_ble_eq_true rfl, Nat.le_of_ble_eq_true rfl⟩) hK hN hZ hP hD hS hA rfl rfl rfl rfl rfl rfl rfl rfl hl.1 rfl (lv_room (Nat.le_of_ble_eq_true rfl)) dX11_pardon_46 ⟨Nat.le_of_ble_eq_true rfl, Nat.le_of_ble_eq_true rfl⟩ (fun H locs hP hD hS => ?_)
    have hP : va_P D vwCl [(a_t, .inr (11, [.int (0 : Int32), .ref a_t_now, .ref a_t_kept, .int t_isKept, .ref a_t_text, .int t_length, .ref a_t_passing, .int t_at, .int t_fault, .int t_open, .int t_asked, .int t_byGun, .int t_prizeMost, .ref a_t_order, .ref a_t_times, .int t_listed])), (a_t_now, .inl (cI, 1562, .inl t_now_7))] H := hP
    have hD : va_D A [(a_t, .inr (11, [.int (0 : Int32), .ref a_t_now, .ref a_t_kept, .int t_isKept, .ref a_t_text, .int t_length, .ref a_t_passing, .int t_at, .int t_fault, .int t_open, .int t_asked, .int t_byGun, .int t_prizeMost, .ref a_t_order, .ref a_t_times, .int t_listed])), (a_t_now, .inl (cI, 1562, .inl t_now_7))] := hD
    refine lv_iload_n hx hb dX11_pardon_49 rfl (lv_at hl 0 rfl) ?_
    obtain ⟨j0_, g_⟩ := Prod.mk.inj (Option.some.inj h)
    obtain ⟨j1_, g_⟩ := Prod.mk.inj g_
    have j2_ := g_
    subst j0_
    subst j1_
    subst j2_
    exact W.iret (v := ((upd t_now ((2 : Int32)).toNatClampNeg ((t_now ((2 : Int32)).toNatClampNeg) - (1 : Int32))) (((62 : Int32) + ((upd t_now ((2 : Int32)).toNatClampNeg ((t_now ((2 : Int32)).toNatClampNeg) - (1 : Int32))) ((2 : Int32)).toNatClampNeg))).toNatClampNeg)) hx hb hr (fun t ht hW => ⟨⟨_, (), rfl, rfl, zPost.of hP hD hK ht hW [0, 1] rfl rfl rfl⟩, hS.F ht⟩) hS.2.2 dX11_pardon_50
  · have h := zz_t h c2
    refine lv_iconst (v := (-1 : Int32)) hx hb dX11_pardon_14 rfl ?_
    obtain ⟨j0_, g_⟩ := Prod.mk.inj (Option.some.inj h)
    obtain ⟨j1_, g_⟩ := Prod.mk.inj g_
    have j2_ := g_
    subst j0_
    subst j1_
    subst j2_
    exact W.iret (v := (-1 : Int32)) hx hb hr (fun t ht hW => ⟨⟨_, (), rfl, rfl, zPost.of hP hD hK ht hW [0, 1] rfl rfl rfl⟩, hS.F ht⟩) hS.2.2 dX11_pardon_15
/-! RunDeskModel.splitOf -/
theorem dX11_splitOf_0 : decode cX11_splitOf 0 = .ok (.aload_n 0, 1) := by decide +kernel
theorem dX11_splitOf_1 : decode cX11_splitOf 1 = .ok (.iload_n 1, 1) := by decide +kernel
theorem dX11_splitOf_2 : decode cX11_splitOf 2 = .ok (.bipush 12, 2) := by decide +kernel
theorem dX11_splitOf_4 : decode cX11_splitOf 4 = .ok (.iload_n 2, 1) := by decide +kernel
theorem dX11_splitOf_5 : decode cX11_splitOf 5 = .ok (.iadd, 1) := by decide +kernel
theorem dX11_splitOf_6 : decode cX11_splitOf 6 = .ok (.invokevirtual 62, 3) := by decide +kernel
theorem dX11_splitOf_9 : decode cX11_splitOf 9 = .ok (.ireturn, 1) := by decide +kernel
set_option maxRecDepth 20000 in
theorem ggX11_splitOf_X11_of : GoodIn wsX11_splitOf wsX11_of := goodIn_r _ [5, 6, 7, 8, 9, 10, 11, 12, 13, 14, 15, 16, 17, 18, 19, 20, 21, 22] (by decide +kernel) (by decide +kernel)
set_option maxRecDepth 20000 in
theorem gX11_splitOf_X11_of : GoodIn wsX11_splitOf (wsV RX11 62 RX11 yX11_of wsX11_of) := goodIn_app (goodIn_of _ (by decide +kernel)) ggX11_splitOf_X11_of
def fX11_splitOf (t_now : Nat → Int32) (x1 : Int32) (x2 : Int32) : Option (Int32) := ((fX11_of t_now x1 ((12 : Int32) + x2)).bind (fun r1 => some (r1)))
set_option maxHeartbeats 4000000 in
set_option maxRecDepth 100000 in
theorem mX11_splitOf (l : Launch) (D : va_G) (cB cI cZ : ClassId) (a_t : Nat) (a_t_now : Nat) (a_t_kept : Nat) (a_t_text : Nat) (a_t_passing : Nat) (a_t_order : Nat) (a_t_times : Nat) (t_thrown : Int32) (t_isKept : Int32) (t_length : Int32) (t_at : Int32) (t_fault : Int32) (t_open : Int32) (t_asked : Int32) (t_byGun : Int32) (t_prizeMost : Int32) (t_listed : Int32) (t_now : Nat → Int32) (sz : Nat) (x1 : Int32) (x2 : Int32) (r0 : Int32) (h : fX11_splitOf t_now x1 x2 = some (r0)) : Met l yX11_splitOf wsX11_splitOf ({ frames := 1, cells := 0, slots := 0, locals := 22 } : Room) (va_Pc [.ref a_t, .int x1, .int x2] (zPre D (zT cB cI cZ) [(a_t, .inr (11, [.int t_thrown, .ref a_t_now, .ref a_t_kept, .int t_isKept, .ref a_t_text, .int t_length, .ref a_t_passing, .int t_at, .int t_fault, .int t_open, .int t_asked, .int t_byGun, .int t_prizeMost, .ref a_t_order, .ref a_t_times, .int t_listed])), (a_t_now, .inl (cI, 1562, .inl t_now))] sz)) (zQi r0 D (zT cB cI cZ) [(a_t, .inr (11, [.int t_thrown, .ref a_t_now, .ref a_t_kept, .int t_isKept, .ref a_t_text, .int t_length, .ref a_t_passing, .int t_at, .int t_fault, .int t_open, .int t_asked, .int t_byGun, .int t_prizeMost, .ref a_t_order, .ref a_t_times, .int t_listed])), (a_t_now, .inl (cI, 1562, .inl t_now))] (va_A [(a_t, .inr (11, [.int t_thrown, .ref a_t_now, .ref a_t_kept, .int t_isKept, .ref a_t_text, .int t_length, .ref a_t_passing, .int t_at, .int t_fault, .int t_open, .int t_asked, .int t_byGun, .int t_prizeMost, .ref a_t_order, .ref a_t_times, .int t_listed])), (a_t_now, .inl (cI, 1562, .inl t_now))] sz)) 0 0 (va_A [(a_t, .inr (11, [.int t_thrown, .ref a_t_now, .ref a_t_kept, .int t_isKept, .ref a_t_text, .int t_length, .ref a_t_passing, .int t_at, .int t_fault, .int t_open, .int t_asked, .int t_byGun, .int t_prizeMost, .ref a_t_order, .ref a_t_times, .int t_listed])), (a_t_now, .inl (cI, 1562, .inl t_now))] sz) := by
  refine Met.ofW (cc := cX11_splitOf) (maxL := 3) (ret := (some .int)) (by decide) rfl ?_
  intro p e s m args below meth c s₁ B hml hv
  obtain ⟨rfl, hsz, hP, hK, hN, hZ, hD0⟩ := hv
  have hx := B.exec
  have hb := B.bytes
  have hr := B.returns
  have hts := atoms_spec (ws := wsX11_splitOf) B.pre
  have hown : s.vm.findClass RX11 = some m.cls := findClass_of_methodNamed B.named
  have hlocks := B.notSynchronized
  subst hsz
  have hD := hD0.self (sz := s.heap.size)
  generalize hAe : va_A [(a_t, .inr (11, [.int t_thrown, .ref a_t_now, .ref a_t_kept, .int t_isKept, .ref a_t_text, .int t_length, .ref a_t_passing, .int t_at, .int t_fault, .int t_open, .int t_asked, .int t_byGun, .int t_prizeMost, .ref a_t_order, .ref a_t_times, .int t_listed])), (a_t_now, .inl (cI, 1562, .inl t_now))] s.heap.size = A at hD hZ ⊢
  have hA : ∀ q : Nat, s.heap.size ≤ q → A q := fun q h => by rw [← hAe]; exact Or.inr h
  have hS : va_S A s.heap s.heap [] := va_S.rf
  have hl := lv_entry ([.ref a_t, .int x1, .int x2]) (n := 3) (Nat.le_of_ble_eq_true rfl)
  rw [lg_entry_eq]
  generalize (lg_sl ([.ref a_t, .int x1, .int x2]) ++ List.replicate (3 - (lg_sl ([.ref a_t, .int x1, .int x2])).length) Slot.unset).toArray = ls at hl ⊢
  have hl : lv_has ls 3 [(0, .ref a_t), (1, .int x1), (2, .int x2)] := hl
  unfold fX11_splitOf at h
  refine lv_aload_n hx hb dX11_splitOf_0 rfl (lv_at hl 0 rfl) ?_
  refine lv_iload_n hx hb dX11_splitOf_1 rfl (lv_at hl 1 rfl) ?_
  refine lv_bipush (v := (12 : Int32)) hx hb dX11_splitOf_2 rfl ?_
  refine lv_iload_n hx hb dX11_splitOf_4 rfl (lv_at hl 2 rfl) ?_
  refine lv_iadd hx hb dX11_splitOf_5 ?_
  obtain ⟨r1, e2, h⟩ := zz_b h
  refine zVi (As := [.int x1, .int ((12 : Int32) + x2)]) (rest := []) (C := RX11) (wr := []) [0, 1] [] 0 ⟨hx, hb, hml, hown, hts⟩ (mX11_of l D cB cI cZ a_t a_t_now a_t_kept a_t_text a_t_passing a_t_order a_t_times t_thrown t_isKept t_length t_at t_fault t_open t_asked t_byGun t_prizeMost t_listed t_now s.heap.size x1 ((12 : Int32) + x2) r1 e2) (cwV 2 hts gX11_splitOf_X11_of rfl rfl rfl (by decide +kernel) ⟨Nat.le_of_ble_eq_true rfl, Nat.le_of_ble_eq_true rfl⟩) hK hN hZ hP hD hS hA rfl rfl rfl rfl rfl rfl rfl rfl hl.1 rfl (lv_room (Nat.le_of_ble_eq_true rfl)) dX11_splitOf_6 ⟨Nat.le_of_ble_eq_true rfl, Nat.le_of_ble_eq_true rfl⟩ (fun H locs hP hD hS => ?_)
  have hP : va_P D vwCl [(a_t, .inr (11, [.int t_thrown, .ref a_t_now, .ref a_t_kept, .int t_isKept, .ref a_t_text, .int t_length, .ref a_t_passing, .int t_at, .int t_fault, .int t_open, .int t_asked, .int t_byGun, .int t_prizeMost, .ref a_t_order, .ref a_t_times, .int t_listed])), (a_t_now, .inl (cI, 1562, .inl t_now))] H := hP
  have hD : va_D A [(a_t, .inr (11, [.int t_thrown, .ref a_t_now, .ref a_t_kept, .int t_isKept, .ref a_t_text, .int t_length, .ref a_t_passing, .int t_at, .int t_fault, .int t_open, .int t_asked, .int t_byGun, .int t_prizeMost, .ref a_t_order, .ref a_t_times, .int t_listed])), (a_t_now, .inl (cI, 1562, .inl t_now))] := hD
  have j0_ := Option.some.inj h
  subst j0_
  exact W.iret (v := r1) hx hb hr (fun t ht hW => ⟨⟨_, (), rfl, rfl, zPost.of hP hD hK ht hW [0, 1] rfl rfl rfl⟩, hS.F ht⟩) hS.2.2 dX11_splitOf_9
/-! RunDeskModel.startOf -/
theorem dX11_startOf_0 : decode cX11_startOf 0 = .ok (.aload_n 0, 1) := by decide +kernel
theorem dX11_startOf_1 : decode cX11_startOf 1 = .ok (.iload_n 1, 1) := by decide +kernel
theorem dX11_startOf_2 : decode cX11_startOf 2 = .ok (.iconst 0, 1) := by decide +kernel
theorem dX11_startOf_3 : decode cX11_startOf 3 = .ok (.invokevirtual 76, 3) := by decide +kernel
theorem dX11_startOf_6 : decode cX11_startOf 6 = .ok (.iconst (-1), 1) := by decide +kernel
theorem dX11_startOf_7 : decode cX11_startOf 7 = .ok (.if_icmp .eq 12, 3) := by decide +kernel
theorem dX11_startOf_10 : decode cX11_startOf 10 = .ok (.aload_n 0, 1) := by decide +kernel
theorem dX11_startOf_11 : decode cX11_startOf 11 = .ok (.iload_n 1, 1) := by decide +kernel
theorem dX11_startOf_12 : decode cX11_startOf 12 = .ok (.iconst 0, 1) := by decide +kernel
theorem dX11_startOf_13 : decode cX11_startOf 13 = .ok (.invokevirtual 76, 3) := by decide +kernel
theorem dX11_startOf_16 : decode cX11_startOf 16 = .ok (.goto 13, 3) := by decide +kernel
theorem dX11_startOf_19 : decode cX11_startOf 19 = .ok (.aload_n 0, 1) := by decide +kernel
theorem dX11_startOf_20 : decode cX11_startOf 20 = .ok (.aload_n 0, 1) := by decide +kernel
theorem dX11_startOf_21 : decode cX11_startOf 21 = .ok (.iload_n 1, 1) := by decide +kernel
theorem dX11_startOf_22 : decode cX11_startOf 22 = .ok (.iconst 5, 1) := by decide +kernel
theorem dX11_startOf_23 : decode cX11_startOf 23 = .ok (.invokevirtual 62, 3) := by decide +kernel
theorem dX11_startOf_26 : decode cX11_startOf 26 = .ok (.invokevirtual 79, 3) := by decide +kernel
theorem dX11_startOf_29 : decode cX11_startOf 29 = .ok (.ireturn, 1) := by decide +kernel
set_option maxRecDepth 20000 in
theorem ggX11_startOf_X11_splitOf : GoodIn wsX11_startOf wsX11_splitOf := goodIn_r _ [5, 6, 7, 8, 4, 9, 10, 15, 16, 17, 18, 19, 20, 21, 22, 23, 24, 25, 26, 27, 28, 29, 30] (by decide +kernel) (by decide +kernel)
set_option maxRecDepth 20000 in
theorem gX11_startOf_X11_splitOf : GoodIn wsX11_startOf (wsV RX11 76 RX11 yX11_splitOf wsX11_splitOf) := goodIn_app (goodIn_of _ (by decide +kernel)) ggX11_startOf_X11_splitOf
set_option maxRecDepth 20000 in
theorem ggX11_startOf_X11_of : GoodIn wsX11_startOf wsX11_of := goodIn_r _ [9, 10, 15, 16, 17, 18, 19, 20, 21, 22, 23, 24, 25, 26, 27, 28, 29, 30] (by decide +kernel) (by decide +kernel)
set_option maxRecDepth 20000 in
theorem gX11_startOf_X11_of : GoodIn wsX11_startOf (wsV RX11 62 RX11 yX11_of wsX11_of) := goodIn_app (goodIn_of _ (by decide +kernel)) ggX11_startOf_X11_of
set_option maxRecDepth 20000 in
theorem ggX11_startOf_X11_gunOf : GoodIn wsX11_startOf wsX11_gunOf := goodIn_r _ [14, 10, 15, 16, 17, 18, 19, 20, 21, 22, 23, 24, 25, 26, 27, 28, 29, 30] (by decide +kernel) (by decide +kernel)
set_option maxRecDepth 20000 in
theorem gX11_startOf_X11_gunOf : GoodIn wsX11_startOf (wsV RX11 79 RX11 yX11_gunOf wsX11_gunOf) := goodIn_app (goodIn_of _ (by decide +kernel)) ggX11_startOf_X11_gunOf
def fX11_startOf (t_now : Nat → Int32) (x1 : Int32) : Option (Int32) := ((fX11_splitOf t_now x1 (0 : Int32)).bind (fun r1 => (if r1 = (-1 : Int32) then ((fX11_of t_now x1 (5 : Int32)).bind (fun r4 => ((fX11_gunOf t_now r4).bind (fun r6 => some (r6))))) else ((fX11_splitOf t_now x1 (0 : Int32)).bind (fun r8 => some (r8))))))
set_option maxHeartbeats 4000000 in
set_option maxRecDepth 100000 in
theorem mX11_startOf (l : Launch) (D : va_G) (cB cI cZ : ClassId) (a_t : Nat) (a_t_now : Nat) (a_t_kept : Nat) (a_t_text : Nat) (a_t_passing : Nat) (a_t_order : Nat) (a_t_times : Nat) (t_thrown : Int32) (t_isKept : Int32) (t_length : Int32) (t_at : Int32) (t_fault : Int32) (t_open : Int32) (t_asked : Int32) (t_byGun : Int32) (t_prizeMost : Int32) (t_listed : Int32) (t_now : Nat → Int32) (sz : Nat) (x1 : Int32) (r0 : Int32) (h : fX11_startOf t_now x1 = some (r0)) : Met l yX11_startOf wsX11_startOf ({ frames := 2, cells := 0, slots := 0, locals := 44 } : Room) (va_Pc [.ref a_t, .int x1] (zPre D (zT cB cI cZ) [(a_t, .inr (11, [.int t_thrown, .ref a_t_now, .ref a_t_kept, .int t_isKept, .ref a_t_text, .int t_length, .ref a_t_passing, .int t_at, .int t_fault, .int t_open, .int t_asked, .int t_byGun, .int t_prizeMost, .ref a_t_order, .ref a_t_times, .int t_listed])), (a_t_now, .inl (cI, 1562, .inl t_now))] sz)) (zQi r0 D (zT cB cI cZ) [(a_t, .inr (11, [.int t_thrown, .ref a_t_now, .ref a_t_kept, .int t_isKept, .ref a_t_text, .int t_length, .ref a_t_passing, .int t_at, .int t_fault, .int t_open, .int t_asked, .int t_byGun, .int t_prizeMost, .ref a_t_order, .ref a_t_times, .int t_listed])), (a_t_now, .inl (cI, 1562, .inl t_now))] (va_A [(a_t, .inr (11, [.int t_thrown, .ref a_t_now, .ref a_t_kept, .int t_isKept, .ref a_t_text, .int t_length, .ref a_t_passing, .int t_at, .int t_fault, .int t_open, .int t_asked, .int t_byGun, .int t_prizeMost, .ref a_t_order, .ref a_t_times, .int t_listed])), (a_t_now, .inl (cI, 1562, .inl t_now))] sz)) 0 0 (va_A [(a_t, .inr (11, [.int t_thrown, .ref a_t_now, .ref a_t_kept, .int t_isKept, .ref a_t_text, .int t_length, .ref a_t_passing, .int t_at, .int t_fault, .int t_open, .int t_asked, .int t_byGun, .int t_prizeMost, .ref a_t_order, .ref a_t_times, .int t_listed])), (a_t_now, .inl (cI, 1562, .inl t_now))] sz) := by
  refine Met.ofW (cc := cX11_startOf) (maxL := 2) (ret := (some .int)) (by decide) rfl ?_
  intro p e s m args below meth c s₁ B hml hv
  obtain ⟨rfl, hsz, hP, hK, hN, hZ, hD0⟩ := hv
  have hx := B.exec
  have hb := B.bytes
  have hr := B.returns
  have hts := atoms_spec (ws := wsX11_startOf) B.pre
  have hown : s.vm.findClass RX11 = some m.cls := findClass_of_methodNamed B.named
  have hlocks := B.notSynchronized
  subst hsz
  have hD := hD0.self (sz := s.heap.size)
  generalize hAe : va_A [(a_t, .inr (11, [.int t_thrown, .ref a_t_now, .ref a_t_kept, .int t_isKept, .ref a_t_text, .int t_length, .ref a_t_passing, .int t_at, .int t_fault, .int t_open, .int t_asked, .int t_byGun, .int t_prizeMost, .ref a_t_order, .ref a_t_times, .int t_listed])), (a_t_now, .inl (cI, 1562, .inl t_now))] s.heap.size = A at hD hZ ⊢
  have hA : ∀ q : Nat, s.heap.size ≤ q → A q := fun q h => by rw [← hAe]; exact Or.inr h
  have hS : va_S A s.heap s.heap [] := va_S.rf
  have hl := lv_entry ([.ref a_t, .int x1]) (n := 2) (Nat.le_of_ble_eq_true rfl)
  rw [lg_entry_eq]
  generalize (lg_sl ([.ref a_t, .int x1]) ++ List.replicate (2 - (lg_sl ([.ref a_t, .int x1])).length) Slot.unset).toArray = ls at hl ⊢
  have hl : lv_has ls 2 [(0, .ref a_t), (1, .int x1)] := hl
  unfold fX11_startOf at h
  refine lv_aload_n hx hb dX11_startOf_0 rfl (lv_at hl 0 rfl) ?_
  refine lv_iload_n hx hb dX11_startOf_1 rfl (lv_at hl 1 rfl) ?_
  refine lv_iconst (v := (0 : Int32)) hx hb dX11_startOf_2 rfl ?_
  obtain ⟨r1, e2, h⟩ := zz_b h
  refine zVi (As := [.int x1, .int (0 : Int32)]) (rest := []) (C := RX11) (wr := []) [0, 1] [] 0 ⟨hx, hb, hml, hown, hts⟩ (mX11_splitOf l D cB cI cZ a_t a_t_now a_t_kept a_t_text a_t_passing a_t_order a_t_times t_thrown t_isKept t_length t_at t_fault t_open t_asked t_byGun t_prizeMost t_listed t_now s.heap.size x1 (0 : Int32) r1 e2) (cwV 2 hts gX11_startOf_X11_splitOf rfl rfl rfl (by decide +kernel) ⟨Nat.le_of_ble_eq_true rfl, Nat.le_of_ble_eq_true rfl⟩) hK hN hZ hP hD hS hA rfl rfl rfl rfl rfl rfl rfl rfl hl.1 rfl (lv_room (Nat.le_of_ble_eq_true rfl)) dX11_startOf_3 ⟨Nat.le_of_ble_eq_true rfl, Nat.le_of_ble_eq_true rfl⟩ (fun H locs hP hD hS => ?_)
  have hP : va_P D vwCl [(a_t, .inr (11, [.int t_thrown, .ref a_t_now, .ref a_t_kept, .int t_isKept, .ref a_t_text, .int t_length, .ref a_t_passing, .int t_at, .int t_fault, .int t_open, .int t_asked, .int t_byGun, .int t_prizeMost, .ref a_t_order, .ref a_t_times, .int t_listed])), (a_t_now, .inl (cI, 1562, .inl t_now))] H := hP
  have hD : va_D A [(a_t, .inr (11, [.int t_thrown, .ref a_t_now, .ref a_t_kept, .int t_isKept, .ref a_t_text, .int t_length, .ref a_t_passing, .int t_at, .int t_fault, .int t_open, .int t_asked, .int t_byGun, .int t_prizeMost, .ref a_t_order, .ref a_t_times, .int t_listed])), (a_t_now, .inl (cI, 1562, .inl t_now))] := hD
  refine lv_iconst (v := (-1 : Int32)) hx hb dX11_startOf_6 rfl ?_
  refine lv_icmp_eq (tgt := 19) hx hb dX11_startOf_7 (by decide) (fun c3 => ?_) (fun c3 => ?_)
  · have h := zz_t h c3
    refine lv_aload_n hx hb dX11_startOf_19 rfl (lv_at hl 0 rfl) ?_
    refine lv_aload_n hx hb dX11_startOf_20 rfl (lv_at hl 0 rfl) ?_
    refine lv_iload_n hx hb dX11_startOf_21 rfl (lv_at hl 1 rfl) ?_
    refine lv_iconst (v := (5 : Int32)) hx hb dX11_startOf_22 rfl ?_
    obtain ⟨r4, e5, h⟩ := zz_b h
    refine zVi (As := [.int x1, .int (5 : Int32)]) (rest := [.ref a_t]) (C := RX11) (wr := []) [0, 1] [] 0 ⟨hx, hb, hml, hown, hts⟩ (mX11_of l D cB cI cZ a_t a_t_now a_t_kept a_t_text a_t_passing a_t_order a_t_times t_thrown t_isKept t_length t_at t_fault t_open t_asked t_byGun t_prizeMost t_listed t_now H.size x1 (5 : Int32) r4 e5) (cwV 2 hts gX11_startOf_X11_of rfl rfl rfl (by decide +kernel) ⟨Nat.le_of_ble_eq_true rfl, Nat.le_of_ble_eq_true rfl⟩) hK hN hZ hP hD hS hA rfl rfl rfl rfl rfl rfl rfl rfl hl.1 rfl (lv_room (Nat.le_of_ble_eq_true rfl)) dX11_startOf_23 ⟨Nat.le_of_ble_eq_true rfl, Nat.le_of_ble_eq_true rfl⟩ (fun H locs hP hD hS => ?_)
    have hP : va_P D vwCl [(a_t, .inr (11, [.int t_thrown, .ref a_t_now, .ref a_t_kept, .int t_isKept, .ref a_t_text, .int t_length, .ref a_t_passing, .int t_at, .int t_fault, .int t_open, .int t_asked, .int t_byGun, .int t_prizeMost, .ref a_t_order, .ref a_t_times, .int t_listed])), (a_t_now, .inl (cI, 1562, .inl t_now))] H := hP
    have hD : va_D A [(a_t, .inr (11, [.int t_thrown, .ref a_t_now, .ref a_t_kept, .int t_isKept, .ref a_t_text, .int t_length, .ref a_t_passing, .int t_at, .int t_fault, .int t_open, .int t_asked, .int t_byGun, .int t_prizeMost, .ref a_t_order, .ref a_t_times, .int t_listed])), (a_t_now, .inl (cI, 1562, .inl t_now))] := hD
    obtain ⟨r6, e7, h⟩ := zz_b h
    refine zVi (As := [.int r4]) (rest := []) (C := RX11) (wr := []) [0, 1] [] 0 ⟨hx, hb, hml, hown, hts⟩ (mX11_gunOf l D cB cI cZ a_t a_t_now a_t_kept a_t_text a_t_passing a_t_order a_t_times t_thrown t_isKept t_length t_at t_fault t_open t_asked t_byGun t_prizeMost t_listed t_now H.size r4 r6 e7) (cwV 1 hts gX11_startOf_X11_gunOf rfl rfl rfl (by decide +kernel) ⟨Nat.le_of_ble_eq_true rfl, Nat.le_of_ble_eq_true rfl⟩) hK hN hZ hP hD hS hA rfl rfl rfl rfl rfl rfl rfl rfl hl.1 rfl (lv_room (Nat.le_of_ble_eq_true rfl)) dX11_startOf_26 ⟨Nat.le_of_ble_eq_true rfl, Nat.le_of_ble_eq_true rfl⟩ (fun H locs hP hD hS => ?_)
    have hP : va_P D vwCl [(a_t, .inr (11, [.int t_thrown, .ref a_t_now, .ref a_t_kept, .int t_isKept, .ref a_t_text, .int t_length, .ref a_t_passing, .int t_at, .int t_fault, .int t_open, .int t_asked, .int t_byGun, .int t_prizeMost, .ref a_t_order, .ref a_t_times, .int t_listed])), (a_t_now, .inl (cI, 1562, .inl t_now))] H := hP
    have hD : va_D A [(a_t, .inr (11, [.int t_thrown, .ref a_t_now, .ref a_t_kept, .int t_isKept, .ref a_t_text, .int t_length, .ref a_t_passing, .int t_at, .int t_fault, .int t_open, .int t_asked, .int t_byGun, .int t_prizeMost, .ref a_t_order, .ref a_t_times, .int t_listed])), (a_t_now, .inl (cI, 1562, .inl t_now))] := hD
    have j0_ := Option.some.inj h
    subst j0_
    exact W.iret (v := r6) hx hb hr (fun t ht hW => ⟨⟨_, (), rfl, rfl, zPost.of hP hD hK ht hW [0, 1] rfl rfl rfl⟩, hS.F ht⟩) hS.2.2 dX11_startOf_29
  · have h := zz_f h c3
    refine lv_aload_n hx hb dX11_startOf_10 rfl (lv_at hl 0 rfl) ?_
    refine lv_iload_n hx hb dX11_startOf_11 rfl (lv_at hl 1 rfl) ?_
    refine lv_iconst (v := (0 : Int32)) hx hb dX11_startOf_12 rfl ?_
    obtain ⟨r8, e9, h⟩ := zz_b h
    refine zVi (As := [.int x1, .int (0 : Int32)]) (rest := []) (C := RX11) (wr := []) [0, 1] [] 0 ⟨hx, hb, hml, hown, hts⟩ (mX11_splitOf l D cB cI cZ a_t a_t_now a_t_kept a_t_text a_t_passing a_t_order a_t_times t_thrown t_isKept t_length t_at t_fault t_open t_asked t_byGun t_prizeMost t_listed t_now H.size x1 (0 : Int32) r8 e9) (cwV 2 hts gX11_startOf_X11_splitOf rfl rfl rfl (by decide +kernel) ⟨Nat.le_of_ble_eq_true rfl, Nat.le_of_ble_eq_true rfl⟩) hK hN hZ hP hD hS hA rfl rfl rfl rfl rfl rfl rfl rfl hl.1 rfl (lv_room (Nat.le_of_ble_eq_true rfl)) dX11_startOf_13 ⟨Nat.le_of_ble_eq_true rfl, Nat.le_of_ble_eq_true rfl⟩ (fun H locs hP hD hS => ?_)
    have hP : va_P D vwCl [(a_t, .inr (11, [.int t_thrown, .ref a_t_now, .ref a_t_kept, .int t_isKept, .ref a_t_text, .int t_length, .ref a_t_passing, .int t_at, .int t_fault, .int t_open, .int t_asked, .int t_byGun, .int t_prizeMost, .ref a_t_order, .ref a_t_times, .int t_listed])), (a_t_now, .inl (cI, 1562, .inl t_now))] H := hP
    have hD : va_D A [(a_t, .inr (11, [.int t_thrown, .ref a_t_now, .ref a_t_kept, .int t_isKept, .ref a_t_text, .int t_length, .ref a_t_passing, .int t_at, .int t_fault, .int t_open, .int t_asked, .int t_byGun, .int t_prizeMost, .ref a_t_order, .ref a_t_times, .int t_listed])), (a_t_now, .inl (cI, 1562, .inl t_now))] := hD
    refine lv_goto (tgt := 29) hx hb dX11_startOf_16 (by decide) ?_
    have j0_ := Option.some.inj h
    subst j0_
    exact W.iret (v := r8) hx hb hr (fun t ht hW => ⟨⟨_, (), rfl, rfl, zPost.of hP hD hK ht hW [0, 1] rfl rfl rfl⟩, hS.F ht⟩) hS.2.2 dX11_startOf_29
/-! RunDeskModel.seen -/
theorem dX11_seen_0 : decode cX11_seen 0 = .ok (.iload_n 2, 1) := by decide +kernel
theorem dX11_seen_1 : decode cX11_seen 1 = .ok (.ifCond .ne 11, 3) := by decide +kernel
theorem dX11_seen_4 : decode cX11_seen 4 = .ok (.aload_n 0, 1) := by decide +kernel
theorem dX11_seen_5 : decode cX11_seen 5 = .ok (.iload_n 1, 1) := by decide +kernel
theorem dX11_seen_6 : decode cX11_seen 6 = .ok (.invokevirtual 83, 3) := by decide +kernel
theorem dX11_seen_9 : decode cX11_seen 9 = .ok (.goto 9, 3) := by decide +kernel
theorem dX11_seen_12 : decode cX11_seen 12 = .ok (.aload_n 0, 1) := by decide +kernel
theorem dX11_seen_13 : decode cX11_seen 13 = .ok (.iload_n 1, 1) := by decide +kernel
theorem dX11_seen_14 : decode cX11_seen 14 = .ok (.iload_n 2, 1) := by decide +kernel
theorem dX11_seen_15 : decode cX11_seen 15 = .ok (.invokevirtual 76, 3) := by decide +kernel
theorem dX11_seen_18 : decode cX11_seen 18 = .ok (.ireturn, 1) := by decide +kernel
set_option maxRecDepth 20000 in
theorem ggX11_seen_X11_startOf : GoodIn wsX11_seen wsX11_startOf := goodIn_r _ [5, 6, 7, 8, 4, 9, 10, 11, 12, 13, 14, 15, 16, 17, 18, 19, 20, 21, 22, 23, 24, 25, 26, 27, 28, 29, 30, 31, 32, 33, 34] (by decide +kernel) (by decide +kernel)
set_option maxRecDepth 20000 in
theorem gX11_seen_X11_startOf : GoodIn wsX11_seen (wsV RX11 83 RX11 yX11_startOf wsX11_startOf) := goodIn_app (goodIn_of _ (by decide +kernel)) ggX11_seen_X11_startOf
set_option maxRecDepth 20000 in
theorem ggX11_seen_X11_splitOf : GoodIn wsX11_seen wsX11_splitOf := goodIn_r _ [9, 10, 11, 12, 4, 13, 14, 19, 20, 21, 22, 23, 24, 25, 26, 27, 28, 29, 30, 31, 32, 33, 34] (by decide +kernel) (by decide +kernel)
set_option maxRecDepth 20000 in
theorem gX11_seen_X11_splitOf : GoodIn wsX11_seen (wsV RX11 76 RX11 yX11_splitOf wsX11_splitOf) := goodIn_app (goodIn_of _ (by decide +kernel)) ggX11_seen_X11_splitOf
def fX11_seen (t_now : Nat → Int32) (x1 : Int32) (x2 : Int32) : Option (Int32) := (if x2 = 0 then ((fX11_startOf t_now x1).bind (fun r4 => some (r4))) else ((fX11_splitOf t_now x1 x2).bind (fun r2 => some (r2))))
set_option maxHeartbeats 4000000 in
set_option maxRecDepth 100000 in
theorem mX11_seen (l : Launch) (D : va_G) (cB cI cZ : ClassId) (a_t : Nat) (a_t_now : Nat) (a_t_kept : Nat) (a_t_text : Nat) (a_t_passing : Nat) (a_t_order : Nat) (a_t_times : Nat) (t_thrown : Int32) (t_isKept : Int32) (t_length : Int32) (t_at : Int32) (t_fault : Int32) (t_open : Int32) (t_asked : Int32) (t_byGun : Int32) (t_prizeMost : Int32) (t_listed : Int32) (t_now : Nat → Int32) (sz : Nat) (x1 : Int32) (x2 : Int32) (r0 : Int32) (h : fX11_seen t_now x1 x2 = some (r0)) : Met l yX11_seen wsX11_seen ({ frames := 3, cells := 0, slots := 0, locals := 65 } : Room) (va_Pc [.ref a_t, .int x1, .int x2] (zPre D (zT cB cI cZ) [(a_t, .inr (11, [.int t_thrown, .ref a_t_now, .ref a_t_kept, .int t_isKept, .ref a_t_text, .int t_length, .ref a_t_passing, .int t_at, .int t_fault, .int t_open, .int t_asked, .int t_byGun, .int t_prizeMost, .ref a_t_order, .ref a_t_times, .int t_listed])), (a_t_now, .inl (cI, 1562, .inl t_now))] sz)) (zQi r0 D (zT cB cI cZ) [(a_t, .inr (11, [.int t_thrown, .ref a_t_now, .ref a_t_kept, .int t_isKept, .ref a_t_text, .int t_length, .ref a_t_passing, .int t_at, .int t_fault, .int t_open, .int t_asked, .int t_byGun, .int t_prizeMost, .ref a_t_order, .ref a_t_times, .int t_listed])), (a_t_now, .inl (cI, 1562, .inl t_now))] (va_A [(a_t, .inr (11, [.int t_thrown, .ref a_t_now, .ref a_t_kept, .int t_isKept, .ref a_t_text, .int t_length, .ref a_t_passing, .int t_at, .int t_fault, .int t_open, .int t_asked, .int t_byGun, .int t_prizeMost, .ref a_t_order, .ref a_t_times, .int t_listed])), (a_t_now, .inl (cI, 1562, .inl t_now))] sz)) 0 0 (va_A [(a_t, .inr (11, [.int t_thrown, .ref a_t_now, .ref a_t_kept, .int t_isKept, .ref a_t_text, .int t_length, .ref a_t_passing, .int t_at, .int t_fault, .int t_open, .int t_asked, .int t_byGun, .int t_prizeMost, .ref a_t_order, .ref a_t_times, .int t_listed])), (a_t_now, .inl (cI, 1562, .inl t_now))] sz) := by
  refine Met.ofW (cc := cX11_seen) (maxL := 3) (ret := (some .int)) (by decide) rfl ?_
  intro p e s m args below meth c s₁ B hml hv
  obtain ⟨rfl, hsz, hP, hK, hN, hZ, hD0⟩ := hv
  have hx := B.exec
  have hb := B.bytes
  have hr := B.returns
  have hts := atoms_spec (ws := wsX11_seen) B.pre
  have hown : s.vm.findClass RX11 = some m.cls := findClass_of_methodNamed B.named
  have hlocks := B.notSynchronized
  subst hsz
  have hD := hD0.self (sz := s.heap.size)
  generalize hAe : va_A [(a_t, .inr (11, [.int t_thrown, .ref a_t_now, .ref a_t_kept, .int t_isKept, .ref a_t_text, .int t_length, .ref a_t_passing, .int t_at, .int t_fault, .int t_open, .int t_asked, .int t_byGun, .int t_prizeMost, .ref a_t_order, .ref a_t_times, .int t_listed])), (a_t_now, .inl (cI, 1562, .inl t_now))] s.heap.size = A at hD hZ ⊢
  have hA : ∀ q : Nat, s.heap.size ≤ q → A q := fun q h => by rw [← hAe]; exact Or.inr h
  have hS : va_S A s.heap s.heap [] := va_S.rf
  have hl := lv_entry ([.ref a_t, .int x1, .int x2]) (n := 3) (Nat.le_of_ble_eq_true rfl)
  rw [lg_entry_eq]
  generalize (lg_sl ([.ref a_t, .int x1, .int x2]) ++ List.replicate (3 - (lg_sl ([.ref a_t, .int x1, .int x2])).length) Slot.unset).toArray = ls at hl ⊢
  have hl : lv_has ls 3 [(0, .ref a_t), (1, .int x1), (2, .int x2)] := hl
  unfold fX11_seen at h
  refine lv_iload_n hx hb dX11_seen_0 rfl (lv_at hl 2 rfl) ?_
  refine lv_if_ne (tgt := 12) hx hb dX11_seen_1 (by decide) (fun c1 => ?_) (fun c1 => ?_)
  · have h := zz_f h c1
    refine lv_aload_n hx hb dX11_seen_12 rfl (lv_at hl 0 rfl) ?_
    refine lv_iload_n hx hb dX11_seen_13 rfl (lv_at hl 1 rfl) ?_
    refine lv_iload_n hx hb dX11_seen_14 rfl (lv_at hl 2 rfl) ?_
    obtain ⟨r2, e3, h⟩ := zz_b h
    refine zVi (As := [.int x1, .int x2]) (rest := []) (C := RX11) (wr := []) [0, 1] [] 0 ⟨hx, hb, hml, hown, hts⟩ (mX11_splitOf l D cB cI cZ a_t a_t_now a_t_kept a_t_text a_t_passing a_t_order a_t_times t_thrown t_isKept t_length t_at t_fault t_open t_asked t_byGun t_prizeMost t_listed t_now s.heap.size x1 x2 r2 e3) (cwV 2 hts gX11_seen_X11_splitOf rfl rfl rfl (by decide +kernel) ⟨Nat.le_of_ble_eq_true rfl, Nat.le_of_ble_eq_true rfl⟩) hK hN hZ hP hD hS hA rfl rfl rfl rfl rfl rfl rfl rfl hl.1 rfl (lv_room (Nat.le_of_ble_eq_true rfl)) dX11_seen_15 ⟨Nat.le_of_ble_eq_true rfl, Nat.le_of_ble_eq_true rfl⟩ (fun H locs hP hD hS => ?_)
    have hP : va_P D vwCl [(a_t, .inr (11, [.int t_thrown, .ref a_t_now, .ref a_t_kept, .int t_isKept, .ref a_t_text, .int t_length, .ref a_t_passing, .int t_at, .int t_fault, .int t_open, .int t_asked, .int t_byGun, .int t_prizeMost, .ref a_t_order, .ref a_t_times, .int t_listed])), (a_t_now, .inl (cI, 1562, .inl t_now))] H := hP
    have hD : va_D A [(a_t, .inr (11, [.int t_thrown, .ref a_t_now, .ref a_t_kept, .int t_isKept, .ref a_t_text, .int t_length, .ref a_t_passing, .int t_at, .int t_fault, .int t_open, .int t_asked, .int t_byGun, .int t_prizeMost, .ref a_t_order, .ref a_t_times, .int t_listed])), (a_t_now, .inl (cI, 1562, .inl t_now))] := hD
    have j0_ := Option.some.inj h
    subst j0_
    exact W.iret (v := r2) hx hb hr (fun t ht hW => ⟨⟨_, (), rfl, rfl, zPost.of hP hD hK ht hW [0, 1] rfl rfl rfl⟩, hS.F ht⟩) hS.2.2 dX11_seen_18
  · have h := zz_t h c1
    refine lv_aload_n hx hb dX11_seen_4 rfl (lv_at hl 0 rfl) ?_
    refine lv_iload_n hx hb dX11_seen_5 rfl (lv_at hl 1 rfl) ?_
    obtain ⟨r4, e5, h⟩ := zz_b h
    refine zVi (As := [.int x1]) (rest := []) (C := RX11) (wr := []) [0, 1] [] 0 ⟨hx, hb, hml, hown, hts⟩ (mX11_startOf l D cB cI cZ a_t a_t_now a_t_kept a_t_text a_t_passing a_t_order a_t_times t_thrown t_isKept t_length t_at t_fault t_open t_asked t_byGun t_prizeMost t_listed t_now s.heap.size x1 r4 e5) (cwV 1 hts gX11_seen_X11_startOf rfl rfl rfl (by decide +kernel) ⟨Nat.le_of_ble_eq_true rfl, Nat.le_of_ble_eq_true rfl⟩) hK hN hZ hP hD hS hA rfl rfl rfl rfl rfl rfl rfl rfl hl.1 rfl (lv_room (Nat.le_of_ble_eq_true rfl)) dX11_seen_6 ⟨Nat.le_of_ble_eq_true rfl, Nat.le_of_ble_eq_true rfl⟩ (fun H locs hP hD hS => ?_)
    have hP : va_P D vwCl [(a_t, .inr (11, [.int t_thrown, .ref a_t_now, .ref a_t_kept, .int t_isKept, .ref a_t_text, .int t_length, .ref a_t_passing, .int t_at, .int t_fault, .int t_open, .int t_asked, .int t_byGun, .int t_prizeMost, .ref a_t_order, .ref a_t_times, .int t_listed])), (a_t_now, .inl (cI, 1562, .inl t_now))] H := hP
    have hD : va_D A [(a_t, .inr (11, [.int t_thrown, .ref a_t_now, .ref a_t_kept, .int t_isKept, .ref a_t_text, .int t_length, .ref a_t_passing, .int t_at, .int t_fault, .int t_open, .int t_asked, .int t_byGun, .int t_prizeMost, .ref a_t_order, .ref a_t_times, .int t_listed])), (a_t_now, .inl (cI, 1562, .inl t_now))] := hD
    refine lv_goto (tgt := 18) hx hb dX11_seen_9 (by decide) ?_
    have j0_ := Option.some.inj h
    subst j0_
    exact W.iret (v := r4) hx hb hr (fun t ht hW => ⟨⟨_, (), rfl, rfl, zPost.of hP hD hK ht hW [0, 1] rfl rfl rfl⟩, hS.F ht⟩) hS.2.2 dX11_seen_18
/-! RunDeskModel.isOut -/
theorem dX11_isOut_0 : decode cX11_isOut 0 = .ok (.iconst 0, 1) := by decide +kernel
theorem dX11_isOut_1 : decode cX11_isOut 1 = .ok (.istore_n 2, 1) := by decide +kernel
theorem dX11_isOut_2 : decode cX11_isOut 2 = .ok (.iconst 0, 1) := by decide +kernel
theorem dX11_isOut_3 : decode cX11_isOut 3 = .ok (.istore_n 3, 1) := by decide +kernel
theorem dX11_isOut_4 : decode cX11_isOut 4 = .ok (.iload_n 3, 1) := by decide +kernel
theorem dX11_isOut_5 : decode cX11_isOut 5 = .ok (.aload_n 0, 1) := by decide +kernel
theorem dX11_isOut_6 : decode cX11_isOut 6 = .ok (.invokevirtual 41, 3) := by decide +kernel
theorem dX11_isOut_9 : decode cX11_isOut 9 = .ok (.if_icmp .ge 44, 3) := by decide +kernel
theorem dX11_isOut_12 : decode cX11_isOut 12 = .ok (.iload_n 2, 1) := by decide +kernel
theorem dX11_isOut_13 : decode cX11_isOut 13 = .ok (.ifCond .ne 28, 3) := by decide +kernel
theorem dX11_isOut_16 : decode cX11_isOut 16 = .ok (.aload_n 0, 1) := by decide +kernel
theorem dX11_isOut_17 : decode cX11_isOut 17 = .ok (.iload_n 3, 1) := by decide +kernel
theorem dX11_isOut_18 : decode cX11_isOut 18 = .ok (.iconst 3, 1) := by decide +kernel
theorem dX11_isOut_19 : decode cX11_isOut 19 = .ok (.invokevirtual 56, 3) := by decide +kernel
theorem dX11_isOut_22 : decode cX11_isOut 22 = .ok (.iconst (-1), 1) := by decide +kernel
theorem dX11_isOut_23 : decode cX11_isOut 23 = .ok (.if_icmp .eq 22, 3) := by decide +kernel
theorem dX11_isOut_26 : decode cX11_isOut 26 = .ok (.aload_n 0, 1) := by decide +kernel
theorem dX11_isOut_27 : decode cX11_isOut 27 = .ok (.iload_n 1, 1) := by decide +kernel
theorem dX11_isOut_28 : decode cX11_isOut 28 = .ok (.iload_n 3, 1) := by decide +kernel
theorem dX11_isOut_29 : decode cX11_isOut 29 = .ok (.invokevirtual 76, 3) := by decide +kernel
theorem dX11_isOut_32 : decode cX11_isOut 32 = .ok (.aload_n 0, 1) := by decide +kernel
theorem dX11_isOut_33 : decode cX11_isOut 33 = .ok (.iload_n 3, 1) := by decide +kernel
theorem dX11_isOut_34 : decode cX11_isOut 34 = .ok (.iconst 3, 1) := by decide +kernel
theorem dX11_isOut_35 : decode cX11_isOut 35 = .ok (.invokevirtual 56, 3) := by decide +kernel
theorem dX11_isOut_38 : decode cX11_isOut 38 = .ok (.if_icmp .le 7, 3) := by decide +kernel
theorem dX11_isOut_41 : decode cX11_isOut 41 = .ok (.iconst 1, 1) := by decide +kernel
theorem dX11_isOut_42 : decode cX11_isOut 42 = .ok (.goto 4, 3) := by decide +kernel
theorem dX11_isOut_45 : decode cX11_isOut 45 = .ok (.iconst 0, 1) := by decide +kernel
theorem dX11_isOut_46 : decode cX11_isOut 46 = .ok (.istore_n 2, 1) := by decide +kernel
theorem dX11_isOut_47 : decode cX11_isOut 47 = .ok (.iinc 3 1, 3) := by decide +kernel
theorem dX11_isOut_50 : decode cX11_isOut 50 = .ok (.goto (-46), 3) := by decide +kernel
theorem dX11_isOut_53 : decode cX11_isOut 53 = .ok (.iload_n 2, 1) := by decide +kernel
theorem dX11_isOut_54 : decode cX11_isOut 54 = .ok (.ifCond .eq 17, 3) := by decide +kernel
theorem dX11_isOut_57 : decode cX11_isOut 57 = .ok (.aload_n 0, 1) := by decide +kernel
theorem dX11_isOut_58 : decode cX11_isOut 58 = .ok (.iload_n 1, 1) := by decide +kernel
theorem dX11_isOut_59 : decode cX11_isOut 59 = .ok (.bipush 7, 2) := by decide +kernel
theorem dX11_isOut_61 : decode cX11_isOut 61 = .ok (.invokevirtual 62, 3) := by decide +kernel
theorem dX11_isOut_64 : decode cX11_isOut 64 = .ok (.ifCond .ne 7, 3) := by decide +kernel
theorem dX11_isOut_67 : decode cX11_isOut 67 = .ok (.iconst 1, 1) := by decide +kernel
theorem dX11_isOut_68 : decode cX11_isOut 68 = .ok (.goto 4, 3) := by decide +kernel
theorem dX11_isOut_71 : decode cX11_isOut 71 = .ok (.iconst 0, 1) := by decide +kernel
theorem dX11_isOut_72 : decode cX11_isOut 72 = .ok (.ireturn, 1) := by decide +kernel
set_option maxRecDepth 20000 in
theorem ggX11_isOut_X11_mats : GoodIn wsX11_isOut wsX11_mats := goodIn_r _ [5, 6, 19, 20, 21, 22, 23, 24, 25, 26, 27, 28, 29, 30, 31, 32, 33, 34] (by decide +kernel) (by decide +kernel)
set_option maxRecDepth 20000 in
theorem gX11_isOut_X11_mats : GoodIn wsX11_isOut (wsV RX11 41 RX11 yX11_mats wsX11_mats) := goodIn_app (goodIn_of _ (by decide +kernel)) ggX11_isOut_X11_mats
set_option maxRecDepth 20000 in
theorem ggX11_isOut_X11_ofMat : GoodIn wsX11_isOut wsX11_ofMat := goodIn_r _ [10, 6, 19, 20, 21, 22, 23, 24, 25, 26, 27, 28, 29, 30, 31, 32, 33, 34] (by decide +kernel) (by decide +kernel)
set_option maxRecDepth 20000 in
theorem gX11_isOut_X11_ofMat : GoodIn wsX11_isOut (wsV RX11 56 RX11 yX11_ofMat wsX11_ofMat) := goodIn_app (goodIn_of _ (by decide +kernel)) ggX11_isOut_X11_ofMat
set_option maxRecDepth 20000 in
theorem ggX11_isOut_X11_splitOf : GoodIn wsX11_isOut wsX11_splitOf := goodIn_r _ [14, 15, 16, 17, 4, 18, 6, 19, 20, 21, 22, 23, 24, 25, 26, 27, 28, 29, 30, 31, 32, 33, 34] (by decide +kernel) (by decide +kernel)
set_option maxRecDepth 20000 in
theorem gX11_isOut_X11_splitOf : GoodIn wsX11_isOut (wsV RX11 76 RX11 yX11_splitOf wsX11_splitOf) := goodIn_app (goodIn_of _ (by decide +kernel)) ggX11_isOut_X11_splitOf
set_option maxRecDepth 20000 in
theorem ggX11_isOut_X11_of : GoodIn wsX11_isOut wsX11_of := goodIn_r _ [18, 6, 19, 20, 21, 22, 23, 24, 25, 26, 27, 28, 29, 30, 31, 32, 33, 34] (by decide +kernel) (by decide +kernel)
set_option maxRecDepth 20000 in
theorem gX11_isOut_X11_of : GoodIn wsX11_isOut (wsV RX11 62 RX11 yX11_of wsX11_of) := goodIn_app (goodIn_of _ (by decide +kernel)) ggX11_isOut_X11_of
def fX11_isOut_L4 (t_now : Nat → Int32) (x1 : Int32) (K4_53 : Bool → Int32 → Option (Bool)) : Nat → Bool → Int32 → Option (Bool)
  | 0, _, _ => none
  | n4 + 1, v2_4, v3_4 => ((fX11_mats t_now).bind (fun r1 => (if r1 ≤ v3_4 then (K4_53 v2_4 v3_4) else (if (zb v2_4) = 0 then ((fX11_ofMat t_now v3_4 (3 : Int32)).bind (fun r9 => (if r9 = (-1 : Int32) then (fX11_isOut_L4 t_now x1 K4_53 n4 false (v3_4 + (1 : Int32))) else ((fX11_splitOf t_now x1 v3_4).bind (fun r12 => ((fX11_ofMat t_now v3_4 (3 : Int32)).bind (fun r14 => (if r12 ≤ r14 then (fX11_isOut_L4 t_now x1 K4_53 n4 false (v3_4 + (1 : Int32))) else (fX11_isOut_L4 t_now x1 K4_53 n4 true (v3_4 + (1 : Int32))))))))))) else (fX11_isOut_L4 t_now x1 K4_53 n4 true (v3_4 + (1 : Int32)))))))
def fX11_isOut (N : Nat) (t_now : Nat → Int32) (x1 : Int32) : Option (Bool) := fX11_isOut_L4 t_now x1 (fun (v2_4 : Bool) (v3_4 : Int32) => (if (zb v2_4) = 0 then some (false) else ((fX11_of t_now x1 (7 : Int32)).bind (fun r18 => (if r18 = 0 then some (true) else some (false)))))) N false (0 : Int32)
set_option maxHeartbeats 4000000 in
set_option maxRecDepth 100000 in
theorem mX11_isOut (l : Launch) (D : va_G) (cB cI cZ : ClassId) (a_t : Nat) (a_t_now : Nat) (a_t_kept : Nat) (a_t_text : Nat) (a_t_passing : Nat) (a_t_order : Nat) (a_t_times : Nat) (t_thrown : Int32) (t_isKept : Int32) (t_length : Int32) (t_at : Int32) (t_fault : Int32) (t_open : Int32) (t_asked : Int32) (t_byGun : Int32) (t_prizeMost : Int32) (t_listed : Int32) (t_now : Nat → Int32) (sz : Nat) (x1 : Int32) (N : Nat) (b0 : Bool) (h : fX11_isOut N t_now x1 = some (b0)) : Met l yX11_isOut wsX11_isOut ({ frames := 2, cells := 0, slots := 0, locals := 44 } : Room) (va_Pc [.ref a_t, .int x1] (zPre D (zT cB cI cZ) [(a_t, .inr (11, [.int t_thrown, .ref a_t_now, .ref a_t_kept, .int t_isKept, .ref a_t_text, .int t_length, .ref a_t_passing, .int t_at, .int t_fault, .int t_open, .int t_asked, .int t_byGun, .int t_prizeMost, .ref a_t_order, .ref a_t_times, .int t_listed])), (a_t_now, .inl (cI, 1562, .inl t_now))] sz)) (zQi (zb b0) D (zT cB cI cZ) [(a_t, .inr (11, [.int t_thrown, .ref a_t_now, .ref a_t_kept, .int t_isKept, .ref a_t_text, .int t_length, .ref a_t_passing, .int t_at, .int t_fault, .int t_open, .int t_asked, .int t_byGun, .int t_prizeMost, .ref a_t_order, .ref a_t_times, .int t_listed])), (a_t_now, .inl (cI, 1562, .inl t_now))] (va_A [(a_t, .inr (11, [.int t_thrown, .ref a_t_now, .ref a_t_kept, .int t_isKept, .ref a_t_text, .int t_length, .ref a_t_passing, .int t_at, .int t_fault, .int t_open, .int t_asked, .int t_byGun, .int t_prizeMost, .ref a_t_order, .ref a_t_times, .int t_listed])), (a_t_now, .inl (cI, 1562, .inl t_now))] sz)) 0 0 (va_A [(a_t, .inr (11, [.int t_thrown, .ref a_t_now, .ref a_t_kept, .int t_isKept, .ref a_t_text, .int t_length, .ref a_t_passing, .int t_at, .int t_fault, .int t_open, .int t_asked, .int t_byGun, .int t_prizeMost, .ref a_t_order, .ref a_t_times, .int t_listed])), (a_t_now, .inl (cI, 1562, .inl t_now))] sz) := by
  refine Met.ofW (cc := cX11_isOut) (maxL := 4) (ret := (some .boolean)) (by decide) rfl ?_
  intro p e s m args below meth c s₁ B hml hv
  obtain ⟨rfl, hsz, hP, hK, hN, hZ, hD0⟩ := hv
  have hx := B.exec
  have hb := B.bytes
  have hr := B.returns
  have hts := atoms_spec (ws := wsX11_isOut) B.pre
  have hown : s.vm.findClass RX11 = some m.cls := findClass_of_methodNamed B.named
  have hlocks := B.notSynchronized
  subst hsz
  have hD := hD0.self (sz := s.heap.size)
  generalize hAe : va_A [(a_t, .inr (11, [.int t_thrown, .ref a_t_now, .ref a_t_kept, .int t_isKept, .ref a_t_text, .int t_length, .ref a_t_passing, .int t_at, .int t_fault, .int t_open, .int t_asked, .int t_byGun, .int t_prizeMost, .ref a_t_order, .ref a_t_times, .int t_listed])), (a_t_now, .inl (cI, 1562, .inl t_now))] s.heap.size = A at hD hZ ⊢
  have hA : ∀ q : Nat, s.heap.size ≤ q → A q := fun q h => by rw [← hAe]; exact Or.inr h
  have hS : va_S A s.heap s.heap [] := va_S.rf
  have hl := lv_entry ([.ref a_t, .int x1]) (n := 4) (Nat.le_of_ble_eq_true rfl)
  rw [lg_entry_eq]
  generalize (lg_sl ([.ref a_t, .int x1]) ++ List.replicate (4 - (lg_sl ([.ref a_t, .int x1])).length) Slot.unset).toArray = ls at hl ⊢
  have hl : lv_has ls 4 [(0, .ref a_t), (1, .int x1)] := hl
  unfold fX11_isOut at h
  refine lv_iconst (v := (0 : Int32)) hx hb dX11_isOut_0 rfl ?_
  refine lv_istore_n (lv' := [(2, .int (0 : Int32)), (0, .ref a_t), (1, .int x1)]) hx hb dX11_isOut_1 rfl hl (by decide) rfl (fun ls hl => ?_)
  refine lv_iconst (v := (0 : Int32)) hx hb dX11_isOut_2 rfl ?_
  refine lv_istore_n (lv' := [(3, .int (0 : Int32)), (2, .int (0 : Int32)), (0, .ref a_t), (1, .int x1)]) hx hb dX11_isOut_3 rfl hl (by decide) rfl (fun ls hl => ?_)
  have L4 : ∀ (n : Nat) (v2_4 : Bool) (v3_4 : Int32) (H : Heap) (locs : List Loc) (ls : Array Slot), fX11_isOut_L4 t_now x1 (fun (v2_4 : Bool) (v3_4 : Int32) => (if (zb v2_4) = 0 then some (false) else ((fX11_of t_now x1 (7 : Int32)).bind (fun r18 => (if r18 = 0 then some (true) else some (false)))))) n v2_4 v3_4 = some (b0) → va_P D vwCl [(a_t, .inr (11, [.int t_thrown, .ref a_t_now, .ref a_t_kept, .int t_isKept, .ref a_t_text, .int t_length, .ref a_t_passing, .int t_at, .int t_fault, .int t_open, .int t_asked, .int t_byGun, .int t_prizeMost, .ref a_t_order, .ref a_t_times, .int t_listed])), (a_t_now, .inl (cI, 1562, .inl t_now))] H → va_D A [(a_t, .inr (11, [.int t_thrown, .ref a_t_now, .ref a_t_kept, .int t_isKept, .ref a_t_text, .int t_length, .ref a_t_passing, .int t_at, .int t_fault, .int t_open, .int t_asked, .int t_byGun, .int t_prizeMost, .ref a_t_order, .ref a_t_times, .int t_listed])), (a_t_now, .inl (cI, 1562, .inl t_now))] → va_S A s.heap H locs → lv_has ls 4 [(3, .int v3_4), (2, .int (zb v2_4)), (0, .ref a_t), (1, .int x1)] → W p l e (headSpec wsX11_isOut ({ frames := 2, cells := 0, slots := 0, locals := 44 } : Room)).room s m #[Value.ref a_t, Value.int x1] below meth c H locs 0 0 (MQ below (zQi (zb b0) D (zT cB cI cZ) [(a_t, .inr (11, [.int t_thrown, .ref a_t_now, .ref a_t_kept, .int t_isKept, .ref a_t_text, .int t_length, .ref a_t_passing, .int t_at, .int t_fault, .int t_open, .int t_asked, .int t_byGun, .int t_prizeMost, .ref a_t_order, .ref a_t_times, .int t_listed])), (a_t_now, .inl (cI, 1562, .inl t_now))] A) #[Value.ref a_t, Value.int x1] s 0 0 A) (F0 m 4 ls []) := by
    intro n
    induction n with
    | zero => intro _ _ H locs ls h hP hD hS hl; cases h
    | succ n4 ih4 =>
      intro v2_4 v3_4 H locs ls h hP hD hS hl
      rw [fX11_isOut_L4.eq_2] at h
      refine lv_iload_n hx hb dX11_isOut_4 rfl (lv_at hl 0 rfl) ?_
      refine lv_aload_n hx hb dX11_isOut_5 rfl (lv_at hl 2 rfl) ?_
      obtain ⟨r1, e2, h⟩ := zz_b h
      refine zVi (As := []) (rest := [.int v3_4]) (C := RX11) (wr := []) [0, 1] [] 0 ⟨hx, hb, hml, hown, hts⟩ (mX11_mats l D cB cI cZ a_t a_t_now a_t_kept a_t_text a_t_passing a_t_order a_t_times t_thrown t_isKept t_length t_at t_fault t_open t_asked t_byGun t_prizeMost t_listed t_now H.size r1 e2) (cwV 0 hts gX11_isOut_X11_mats rfl rfl rfl (by decide +kernel) ⟨Nat.le_of_ble_eq_true rfl, Nat.le_of_ble_eq_true rfl⟩) hK hN hZ hP hD hS hA rfl rfl rfl rfl rfl rfl rfl rfl hl.1 rfl (lv_room (Nat.le_of_ble_eq_true rfl)) dX11_isOut_6 ⟨Nat.le_of_ble_eq_true rfl, Nat.le_of_ble_eq_true rfl⟩ (fun H locs hP hD hS => ?_)
      have hP : va_P D vwCl [(a_t, .inr (11, [.int t_thrown, .ref a_t_now, .ref a_t_kept, .int t_isKept, .ref a_t_text, .int t_length, .ref a_t_passing, .int t_at, .int t_fault, .int t_open, .int t_asked, .int t_byGun, .int t_prizeMost, .ref a_t_order, .ref a_t_times, .int t_listed])), (a_t_now, .inl (cI, 1562, .inl t_now))] H := hP
      have hD : va_D A [(a_t, .inr (11, [.int t_thrown, .ref a_t_now, .ref a_t_kept, .int t_isKept, .ref a_t_text, .int t_length, .ref a_t_passing, .int t_at, .int t_fault, .int t_open, .int t_asked, .int t_byGun, .int t_prizeMost, .ref a_t_order, .ref a_t_times, .int t_listed])), (a_t_now, .inl (cI, 1562, .inl t_now))] := hD
      refine lv_icmp_ge (tgt := 53) hx hb dX11_isOut_9 (by decide) (fun c3 => ?_) (fun c3 => ?_)
      · have h := zz_t h c3
        refine lv_iload_n hx hb dX11_isOut_53 rfl (lv_at hl 1 rfl) ?_
        refine lv_if_eq (tgt := 71) hx hb dX11_isOut_54 (by decide) (fun c4 => ?_) (fun c4 => ?_)
        · have h := zz_t h c4
          refine lv_iconst (v := (0 : Int32)) hx hb dX11_isOut_71 rfl ?_
          have j0_ := Option.some.inj h
          subst j0_
          exact W.zret (v := (0 : Int32)) hx hb hr rfl (fun t ht hW => ⟨⟨_, (), rfl, rfl, zPost.of hP hD hK ht hW [0, 1] rfl rfl rfl⟩, hS.F ht⟩) hS.2.2 dX11_isOut_72
        · have h := zz_f h c4
          refine lv_aload_n hx hb dX11_isOut_57 rfl (lv_at hl 2 rfl) ?_
          refine lv_iload_n hx hb dX11_isOut_58 rfl (lv_at hl 3 rfl) ?_
          refine lv_bipush (v := (7 : Int32)) hx hb dX11_isOut_59 rfl ?_
          obtain ⟨r5, e6, h⟩ := zz_b h
          refine zVi (As := [.int x1, .int (7 : Int32)]) (rest := []) (C := RX11) (wr := []) [0, 1] [] 0 ⟨hx, hb, hml, hown, hts⟩ (mX11_of l D cB cI cZ a_t a_t_now a_t_kept a_t_text a_t_passing a_t_order a_t_times t_thrown t_isKept t_length t_at t_fault t_open t_asked t_byGun t_prizeMost t_listed t_now H.size x1 (7 : Int32) r5 e6) (cwV 2 hts gX11_isOut_X11_of rfl rfl rfl (by decide +kernel) ⟨Nat.le_of_ble_eq_true rfl, Nat.le_of_ble_eq_true rfl⟩) hK hN hZ hP hD hS hA rfl rfl rfl rfl rfl rfl rfl rfl hl.1 rfl (lv_room (Nat.le_of_ble_eq_true rfl)) dX11_isOut_61 ⟨Nat.le_of_ble_eq_true rfl, Nat.le_of_ble_eq_true rfl⟩ (fun H locs hP hD hS => ?_)
          have hP : va_P D vwCl [(a_t, .inr (11, [.int t_thrown, .ref a_t_now, .ref a_t_kept, .int t_isKept, .ref a_t_text, .int t_length, .ref a_t_passing, .int t_at, .int t_fault, .int t_open, .int t_asked, .int t_byGun, .int t_prizeMost, .ref a_t_order, .ref a_t_times, .int t_listed])), (a_t_now, .inl (cI, 1562, .inl t_now))] H := hP
          have hD : va_D A [(a_t, .inr (11, [.int t_thrown, .ref a_t_now, .ref a_t_kept, .int t_isKept, .ref a_t_text, .int t_length, .ref a_t_passing, .int t_at, .int t_fault, .int t_open, .int t_asked, .int t_byGun, .int t_prizeMost, .ref a_t_order, .ref a_t_times, .int t_listed])), (a_t_now, .inl (cI, 1562, .inl t_now))] := hD
          refine lv_if_ne (tgt := 71) hx hb dX11_isOut_64 (by decide) (fun c7 => ?_) (fun c7 => ?_)
          · have h := zz_f h c7
            refine lv_iconst (v := (0 : Int32)) hx hb dX11_isOut_71 rfl ?_
            have j0_ := Option.some.inj h
            subst j0_
            exact W.zret (v := (0 : Int32)) hx hb hr rfl (fun t ht hW => ⟨⟨_, (), rfl, rfl, zPost.of hP hD hK ht hW [0, 1] rfl rfl rfl⟩, hS.F ht⟩) hS.2.2 dX11_isOut_72
          · have h := zz_t h c7
            refine lv_iconst (v := (1 : Int32)) hx hb dX11_isOut_67 rfl ?_
            refine lv_goto (tgt := 72) hx hb dX11_isOut_68 (by decide) ?_
            have j0_ := Option.some.inj h
            subst j0_
            exact W.zret (v := (1 : Int32)) hx hb hr rfl (fun t ht hW => ⟨⟨_, (), rfl, rfl, zPost.of hP hD hK ht hW [0, 1] rfl rfl rfl⟩, hS.F ht⟩) hS.2.2 dX11_isOut_72
      · have h := zz_f h c3
        refine lv_iload_n hx hb dX11_isOut_12 rfl (lv_at hl 1 rfl) ?_
        refine lv_if_ne (tgt := 41) hx hb dX11_isOut_13 (by decide) (fun c8 => ?_) (fun c8 => ?_)
        · have h := zz_f h c8
          refine lv_iconst (v := (1 : Int32)) hx hb dX11_isOut_41 rfl ?_
          refine lv_goto (tgt := 46) hx hb dX11_isOut_42 (by decide) ?_
          refine lv_istore_n (lv' := [(2, .int (1 : Int32)), (3, .int v3_4), (0, .ref a_t), (1, .int x1)]) hx hb dX11_isOut_46 rfl hl (by decide) rfl (fun ls hl => ?_)
          refine lv_iinc (v := (v3_4 + (1 : Int32))) (lv' := [(3, .int (v3_4 + (1 : Int32))), (2, .int (1 : Int32)), (0, .ref a_t), (1, .int x1)]) hx hb dX11_isOut_47 hl (k := 1) rfl rfl (by decide) rfl (fun ls hl => ?_)
          refine lv_goto (tgt := 4) hx hb dX11_isOut_50 (by decide) ?_
          exact ih4 true (v3_4 + (1 : Int32)) _ _ _ h (hP.sub [0, 1] rfl) (hD.sub [0, 1] rfl rfl) hS (lv_sub hl [0, 1, 2, 3] rfl)
        · have h := zz_t h c8
          refine lv_aload_n hx hb dX11_isOut_16 rfl (lv_at hl 2 rfl) ?_
          refine lv_iload_n hx hb dX11_isOut_17 rfl (lv_at hl 0 rfl) ?_
          refine lv_iconst (v := (3 : Int32)) hx hb dX11_isOut_18 rfl ?_
          obtain ⟨r9, e10, h⟩ := zz_b h
          refine zVi (As := [.int v3_4, .int (3 : Int32)]) (rest := []) (C := RX11) (wr := []) [0, 1] [] 0 ⟨hx, hb, hml, hown, hts⟩ (mX11_ofMat l D cB cI cZ a_t a_t_now a_t_kept a_t_text a_t_passing a_t_order a_t_times t_thrown t_isKept t_length t_at t_fault t_open t_asked t_byGun t_prizeMost t_listed t_now H.size v3_4 (3 : Int32) r9 e10) (cwV 2 hts gX11_isOut_X11_ofMat rfl rfl rfl (by decide +kernel) ⟨Nat.le_of_ble_eq_true rfl, Nat.le_of_ble_eq_true rfl⟩) hK hN hZ hP hD hS hA rfl rfl rfl rfl rfl rfl rfl rfl hl.1 rfl (lv_room (Nat.le_of_ble_eq_true rfl)) dX11_isOut_19 ⟨Nat.le_of_ble_eq_true rfl, Nat.le_of_ble_eq_true rfl⟩ (fun H locs hP hD hS => ?_)
          have hP : va_P D vwCl [(a_t, .inr (11, [.int t_thrown, .ref a_t_now, .ref a_t_kept, .int t_isKept, .ref a_t_text, .int t_length, .ref a_t_passing, .int t_at, .int t_fault, .int t_open, .int t_asked, .int t_byGun, .int t_prizeMost, .ref a_t_order, .ref a_t_times, .int t_listed])), (a_t_now, .inl (cI, 1562, .inl t_now))] H := hP
          have hD : va_D A [(a_t, .inr (11, [.int t_thrown, .ref a_t_now, .ref a_t_kept, .int t_isKept, .ref a_t_text, .int t_length, .ref a_t_passing, .int t_at, .int t_fault, .int t_open, .int t_asked, .int t_byGun, .int t_prizeMost, .ref a_t_order, .ref a_t_times, .int t_listed])), (a_t_now, .inl (cI, 1562, .inl t_now))] := hD
          refine lv_iconst (v := (-1 : Int32)) hx hb dX11_isOut_22 rfl ?_
          refine lv_icmp_eq (tgt := 45) hx hb dX11_isOut_23 (by decide) (fun c11 => ?_) (fun c11 => ?_)
          · have h := zz_t h c11
            refine lv_iconst (v := (0 : Int32)) hx hb dX11_isOut_45 rfl ?_
            refine lv_istore_n (lv' := [(2, .int (0 : Int32)), (3, .int v3_4), (0, .ref a_t), (1, .int x1)]) hx hb dX11_isOut_46 rfl hl (by decide) rfl (fun ls hl => ?_)
            refine lv_iinc (v := (v3_4 + (1 : Int32))) (lv' := [(3, .int (v3_4 + (1 : Int32))), (2, .int (0 : Int32)), (0, .ref a_t), (1, .int x1)]) hx hb dX11_isOut_47 hl (k := 1) rfl rfl (by decide) rfl (fun ls hl => ?_)
            refine lv_goto (tgt := 4) hx hb dX11_isOut_50 (by decide) ?_
            exact ih4 false (v3_4 + (1 : Int32)) _ _ _ h (hP.sub [0, 1] rfl) (hD.sub [0, 1] rfl rfl) hS (lv_sub hl [0, 1, 2, 3] rfl)
          · have h := zz_f h c11
            refine lv_aload_n hx hb dX11_isOut_26 rfl (lv_at hl 2 rfl) ?_
            refine lv_iload_n hx hb dX11_isOut_27 rfl (lv_at hl 3 rfl) ?_
            refine lv_iload_n hx hb dX11_isOut_28 rfl (lv_at hl 0 rfl) ?_
            obtain ⟨r12, e13, h⟩ := zz_b h
            refine zVi (As := [.int x1, .int v3_4]) (rest := []) (C := RX11) (wr := []) [0, 1] [] 0 ⟨hx, hb, hml, hown, hts⟩ (mX11_splitOf l D cB cI cZ a_t a_t_now a_t_kept a_t_text a_t_passing a_t_order a_t_times t_thrown t_isKept t_length t_at t_fault t_open t_asked t_byGun t_prizeMost t_listed t_now H.size x1 v3_4 r12 e13) (cwV 2 hts gX11_isOut_X11_splitOf rfl rfl rfl (by decide +kernel) ⟨Nat.le_of_ble_eq_true rfl, Nat.le_of_ble_eq_true rfl⟩) hK hN hZ hP hD hS hA rfl rfl rfl rfl rfl rfl rfl rfl hl.1 rfl (lv_room (Nat.le_of_ble_eq_true rfl)) dX11_isOut_29 ⟨Nat.le_of_ble_eq_true rfl, Nat.le_of_ble_eq_true rfl⟩ (fun H locs hP hD hS => ?_)
            have hP : va_P D vwCl [(a_t, .inr (11, [.int t_thrown, .ref a_t_now, .ref a_t_kept, .int t_isKept, .ref a_t_text, .int t_length, .ref a_t_passing, .int t_at, .int t_fault, .int t_open, .int t_asked, .int t_byGun, .int t_prizeMost, .ref a_t_order, .ref a_t_times, .int t_listed])), (a_t_now, .inl (cI, 1562, .inl t_now))] H := hP
            have hD : va_D A [(a_t, .inr (11, [.int t_thrown, .ref a_t_now, .ref a_t_kept, .int t_isKept, .ref a_t_text, .int t_length, .ref a_t_passing, .int t_at, .int t_fault, .int t_open, .int t_asked, .int t_byGun, .int t_prizeMost, .ref a_t_order, .ref a_t_times, .int t_listed])), (a_t_now, .inl (cI, 1562, .inl t_now))] := hD
            refine lv_aload_n hx hb dX11_isOut_32 rfl (lv_at hl 2 rfl) ?_
            refine lv_iload_n hx hb dX11_isOut_33 rfl (lv_at hl 0 rfl) ?_
            refine lv_iconst (v := (3 : Int32)) hx hb dX11_isOut_34 rfl ?_
            obtain ⟨r14, e15, h⟩ := zz_b h
            refine zVi (As := [.int v3_4, .int (3 : Int32)]) (rest := [.int r12]) (C := RX11) (wr := []) [0, 1] [] 0 ⟨hx, hb, hml, hown, hts⟩ (mX11_ofMat l D cB cI cZ a_t a_t_now a_t_kept a_t_text a_t_passing a_t_order a_t_times t_thrown t_isKept t_length t_at t_fault t_open t_asked t_byGun t_prizeMost t_listed t_now H.size v3_4 (3 : Int32) r14 e15) (cwV 2 hts gX11_isOut_X11_ofMat rfl rfl rfl (by decide +kernel) ⟨Nat.le_of_ble_eq_true rfl, Nat.le_of_ble_eq_true rfl⟩) hK hN hZ hP hD hS hA rfl rfl rfl rfl rfl rfl rfl rfl hl.1 rfl (lv_room (Nat.le_of_ble_eq_true rfl)) dX11_isOut_35 ⟨Nat.le_of_ble_eq_true rfl, Nat.le_of_ble_eq_true rfl⟩ (fun H locs hP hD hS => ?_)
            have hP : va_P D vwCl [(a_t, .inr (11, [.int t_thrown, .ref a_t_now, .ref a_t_kept, .int t_isKept, .ref a_t_text, .int t_length, .ref a_t_passing, .int t_at, .int t_fault, .int t_open, .int t_asked, .int t_byGun, .int t_prizeMost, .ref a_t_order, .ref a_t_times, .int t_listed])), (a_t_now, .inl (cI, 1562, .inl t_now))] H := hP
            have hD : va_D A [(a_t, .inr (11, [.int t_thrown, .ref a_t_now, .ref a_t_kept, .int t_isKept, .ref a_t_text, .int t_length, .ref a_t_passing, .int t_at, .int t_fault, .int t_open, .int t_asked, .int t_byGun, .int t_prizeMost, .ref a_t_order, .ref a_t_times, .int t_listed])), (a_t_now, .inl (cI, 1562, .inl t_now))] := hD
            refine lv_icmp_le (tgt := 45) hx hb dX11_isOut_38 (by decide) (fun c16 => ?_) (fun c16 => ?_)
            · have h := zz_t h c16
              refine lv_iconst (v := (0 : Int32)) hx hb dX11_isOut_45 rfl ?_
              refine lv_istore_n (lv' := [(2, .int (0 : Int32)), (3, .int v3_4), (0, .ref a_t), (1, .int x1)]) hx hb dX11_isOut_46 rfl hl (by decide) rfl (fun ls hl => ?_)
              refine lv_iinc (v := (v3_4 + (1 : Int32))) (lv' := [(3, .int (v3_4 + (1 : Int32))), (2, .int (0 : Int32)), (0, .ref a_t), (1, .int x1)]) hx hb dX11_isOut_47 hl (k := 1) rfl rfl (by decide) rfl (fun ls hl => ?_)
              refine lv_goto (tgt := 4) hx hb dX11_isOut_50 (by decide) ?_
              exact ih4 false (v3_4 + (1 : Int32)) _ _ _ h (hP.sub [0, 1] rfl) (hD.sub [0, 1] rfl rfl) hS (lv_sub hl [0, 1, 2, 3] rfl)
            · have h := zz_f h c16
              refine lv_iconst (v := (1 : Int32)) hx hb dX11_isOut_41 rfl ?_
              refine lv_goto (tgt := 46) hx hb dX11_isOut_42 (by decide) ?_
              refine lv_istore_n (lv' := [(2, .int (1 : Int32)), (3, .int v3_4), (0, .ref a_t), (1, .int x1)]) hx hb dX11_isOut_46 rfl hl (by decide) rfl (fun ls hl => ?_)
              refine lv_iinc (v := (v3_4 + (1 : Int32))) (lv' := [(3, .int (v3_4 + (1 : Int32))), (2, .int (1 : Int32)), (0, .ref a_t), (1, .int x1)]) hx hb dX11_isOut_47 hl (k := 1) rfl rfl (by decide) rfl (fun ls hl => ?_)
              refine lv_goto (tgt := 4) hx hb dX11_isOut_50 (by decide) ?_
              exact ih4 true (v3_4 + (1 : Int32)) _ _ _ h (hP.sub [0, 1] rfl) (hD.sub [0, 1] rfl rfl) hS (lv_sub hl [0, 1, 2, 3] rfl)
  exact L4 N false (0 : Int32) _ _ _ h hP hD hS hl
/-! RunDeskModel.stateOf -/
theorem dX11_stateOf_0 : decode cX11_stateOf 0 = .ok (.aload_n 0, 1) := by decide +kernel
theorem dX11_stateOf_1 : decode cX11_stateOf 1 = .ok (.iload_n 1, 1) := by decide +kernel
theorem dX11_stateOf_2 : decode cX11_stateOf 2 = .ok (.bipush 8, 2) := by decide +kernel
theorem dX11_stateOf_4 : decode cX11_stateOf 4 = .ok (.invokevirtual 62, 3) := by decide +kernel
theorem dX11_stateOf_7 : decode cX11_stateOf 7 = .ok (.iconst 1, 1) := by decide +kernel
theorem dX11_stateOf_8 : decode cX11_stateOf 8 = .ok (.if_icmp .ne 5, 3) := by decide +kernel
theorem dX11_stateOf_11 : decode cX11_stateOf 11 = .ok (.iconst 4, 1) := by decide +kernel
theorem dX11_stateOf_12 : decode cX11_stateOf 12 = .ok (.ireturn, 1) := by decide +kernel
theorem dX11_stateOf_13 : decode cX11_stateOf 13 = .ok (.aload_n 0, 1) := by decide +kernel
theorem dX11_stateOf_14 : decode cX11_stateOf 14 = .ok (.iload_n 1, 1) := by decide +kernel
theorem dX11_stateOf_15 : decode cX11_stateOf 15 = .ok (.bipush 6, 2) := by decide +kernel
theorem dX11_stateOf_17 : decode cX11_stateOf 17 = .ok (.invokevirtual 62, 3) := by decide +kernel
theorem dX11_stateOf_20 : decode cX11_stateOf 20 = .ok (.iconst 1, 1) := by decide +kernel
theorem dX11_stateOf_21 : decode cX11_stateOf 21 = .ok (.if_icmp .ne 5, 3) := by decide +kernel
theorem dX11_stateOf_24 : decode cX11_stateOf 24 = .ok (.iconst 3, 1) := by decide +kernel
theorem dX11_stateOf_25 : decode cX11_stateOf 25 = .ok (.ireturn, 1) := by decide +kernel
theorem dX11_stateOf_26 : decode cX11_stateOf 26 = .ok (.aload_n 0, 1) := by decide +kernel
theorem dX11_stateOf_27 : decode cX11_stateOf 27 = .ok (.iload_n 1, 1) := by decide +kernel
theorem dX11_stateOf_28 : decode cX11_stateOf 28 = .ok (.invokevirtual 86, 3) := by decide +kernel
theorem dX11_stateOf_31 : decode cX11_stateOf 31 = .ok (.ifCond .eq 5, 3) := by decide +kernel
theorem dX11_stateOf_34 : decode cX11_stateOf 34 = .ok (.iconst 5, 1) := by decide +kernel
theorem dX11_stateOf_35 : decode cX11_stateOf 35 = .ok (.ireturn, 1) := by decide +kernel
theorem dX11_stateOf_36 : decode cX11_stateOf 36 = .ok (.aload_n 0, 1) := by decide +kernel
theorem dX11_stateOf_37 : decode cX11_stateOf 37 = .ok (.invokevirtual 41, 3) := by decide +kernel
theorem dX11_stateOf_40 : decode cX11_stateOf 40 = .ok (.iconst 1, 1) := by decide +kernel
theorem dX11_stateOf_41 : decode cX11_stateOf 41 = .ok (.if_icmp .le 20, 3) := by decide +kernel
theorem dX11_stateOf_44 : decode cX11_stateOf 44 = .ok (.aload_n 0, 1) := by decide +kernel
theorem dX11_stateOf_45 : decode cX11_stateOf 45 = .ok (.iload_n 1, 1) := by decide +kernel
theorem dX11_stateOf_46 : decode cX11_stateOf 46 = .ok (.aload_n 0, 1) := by decide +kernel
theorem dX11_stateOf_47 : decode cX11_stateOf 47 = .ok (.invokevirtual 41, 3) := by decide +kernel
theorem dX11_stateOf_50 : decode cX11_stateOf 50 = .ok (.iconst 1, 1) := by decide +kernel
theorem dX11_stateOf_51 : decode cX11_stateOf 51 = .ok (.isub, 1) := by decide +kernel
theorem dX11_stateOf_52 : decode cX11_stateOf 52 = .ok (.invokevirtual 76, 3) := by decide +kernel
theorem dX11_stateOf_55 : decode cX11_stateOf 55 = .ok (.iconst (-1), 1) := by decide +kernel
theorem dX11_stateOf_56 : decode cX11_stateOf 56 = .ok (.if_icmp .eq 5, 3) := by decide +kernel
theorem dX11_stateOf_59 : decode cX11_stateOf 59 = .ok (.iconst 2, 1) := by decide +kernel
theorem dX11_stateOf_60 : decode cX11_stateOf 60 = .ok (.ireturn, 1) := by decide +kernel
theorem dX11_stateOf_61 : decode cX11_stateOf 61 = .ok (.aload_n 0, 1) := by decide +kernel
theorem dX11_stateOf_62 : decode cX11_stateOf 62 = .ok (.iload_n 1, 1) := by decide +kernel
theorem dX11_stateOf_63 : decode cX11_stateOf 63 = .ok (.invokevirtual 83, 3) := by decide +kernel
theorem dX11_stateOf_66 : decode cX11_stateOf 66 = .ok (.iconst (-1), 1) := by decide +kernel
theorem dX11_stateOf_67 : decode cX11_stateOf 67 = .ok (.if_icmp .eq 7, 3) := by decide +kernel
theorem dX11_stateOf_70 : decode cX11_stateOf 70 = .ok (.iconst 1, 1) := by decide +kernel
theorem dX11_stateOf_71 : decode cX11_stateOf 71 = .ok (.goto 4, 3) := by decide +kernel
theorem dX11_stateOf_74 : decode cX11_stateOf 74 = .ok (.iconst 0, 1) := by decide +kernel
theorem dX11_stateOf_75 : decode cX11_stateOf 75 = .ok (.ireturn, 1) := by decide +kernel
set_option maxRecDepth 20000 in
theorem ggX11_stateOf_X11_of : GoodIn wsX11_stateOf wsX11_of := goodIn_r _ [5, 6, 31, 32, 33, 34, 35, 36, 37, 38, 39, 40, 41, 42, 43, 44, 45, 46] (by decide +kernel) (by decide +kernel)
set_option maxRecDepth 20000 in
theorem gX11_stateOf_X11_of : GoodIn wsX11_stateOf (wsV RX11 62 RX11 yX11_of wsX11_of) := goodIn_app (goodIn_of _ (by decide +kernel)) ggX11_stateOf_X11_of
set_option maxRecDepth 20000 in
theorem ggX11_stateOf_X11_isOut : GoodIn wsX11_stateOf wsX11_isOut := goodIn_r _ [10, 11, 12, 13, 4, 14, 6, 15, 16, 17, 18, 19, 20, 21, 22, 1, 2, 3, 5, 31, 32, 33, 34, 35, 36, 37, 38, 39, 40, 41, 42, 43, 44, 45, 46] (by decide +kernel) (by decide +kernel)
set_option maxRecDepth 20000 in
theorem gX11_stateOf_X11_isOut : GoodIn wsX11_stateOf (wsV RX11 86 RX11 yX11_isOut wsX11_isOut) := goodIn_app (goodIn_of _ (by decide +kernel)) ggX11_stateOf_X11_isOut
set_option maxRecDepth 20000 in
theorem ggX11_stateOf_X11_mats : GoodIn wsX11_stateOf wsX11_mats := goodIn_r _ [14, 6, 31, 32, 33, 34, 35, 36, 37, 38, 39, 40, 41, 42, 43, 44, 45, 46] (by decide +kernel) (by decide +kernel)
set_option maxRecDepth 20000 in
theorem gX11_stateOf_X11_mats : GoodIn wsX11_stateOf (wsV RX11 41 RX11 yX11_mats wsX11_mats) := goodIn_app (goodIn_of _ (by decide +kernel)) ggX11_stateOf_X11_mats
set_option maxRecDepth 20000 in
theorem ggX11_stateOf_X11_splitOf : GoodIn wsX11_stateOf wsX11_splitOf := goodIn_r _ [22, 1, 2, 3, 4, 5, 6, 31, 32, 33, 34, 35, 36, 37, 38, 39, 40, 41, 42, 43, 44, 45, 46] (by decide +kernel) (by decide +kernel)
set_option maxRecDepth 20000 in
theorem gX11_stateOf_X11_splitOf : GoodIn wsX11_stateOf (wsV RX11 76 RX11 yX11_splitOf wsX11_splitOf) := goodIn_app (goodIn_of _ (by decide +kernel)) ggX11_stateOf_X11_splitOf
set_option maxRecDepth 20000 in
theorem ggX11_stateOf_X11_startOf : GoodIn wsX11_stateOf wsX11_startOf := goodIn_r _ [26, 19, 20, 21, 4, 22, 1, 2, 3, 5, 6, 27, 28, 29, 30, 31, 32, 33, 34, 35, 36, 37, 38, 39, 40, 41, 42, 43, 44, 45, 46] (by decide +kernel) (by decide +kernel)
set_option maxRecDepth 20000 in
theorem gX11_stateOf_X11_startOf : GoodIn wsX11_stateOf (wsV RX11 83 RX11 yX11_startOf wsX11_startOf) := goodIn_app (goodIn_of _ (by decide +kernel)) ggX11_stateOf_X11_startOf
def fX11_stateOf (N : Nat) (t_now : Nat → Int32) (x1 : Int32) : Option (Int32) := ((fX11_of t_now x1 (8 : Int32)).bind (fun r1 => (if r1 = (1 : Int32) then some ((4 : Int32)) else ((fX11_of t_now x1 (6 : Int32)).bind (fun r4 => (if r4 = (1 : Int32) then some ((3 : Int32)) else ((fX11_isOut N t_now x1).bind (fun b7 => (if (zb b7) = 0 then ((fX11_mats t_now).bind (fun r10 => (if r10 ≤ (1 : Int32) then ((fX11_startOf t_now x1).bind (fun r13 => (if r13 = (-1 : Int32) then some ((0 : Int32)) else some ((1 : Int32))))) else ((fX11_mats t_now).bind (fun r16 => ((fX11_splitOf t_now x1 (r16 - (1 : Int32))).bind (fun r18 => (if r18 = (-1 : Int32) then ((fX11_startOf t_now x1).bind (fun r21 => (if r21 = (-1 : Int32) then some ((0 : Int32)) else some ((1 : Int32))))) else some ((2 : Int32)))))))))) else some ((5 : Int32)))))))))))
set_option maxHeartbeats 4000000 in
set_option maxRecDepth 100000 in
theorem mX11_stateOf (l : Launch) (D : va_G) (cB cI cZ : ClassId) (a_t : Nat) (a_t_now : Nat) (a_t_kept : Nat) (a_t_text : Nat) (a_t_passing : Nat) (a_t_order : Nat) (a_t_times : Nat) (t_thrown : Int32) (t_isKept : Int32) (t_length : Int32) (t_at : Int32) (t_fault : Int32) (t_open : Int32) (t_asked : Int32) (t_byGun : Int32) (t_prizeMost : Int32) (t_listed : Int32) (t_now : Nat → Int32) (sz : Nat) (x1 : Int32) (N : Nat) (r0 : Int32) (h : fX11_stateOf N t_now x1 = some (r0)) : Met l yX11_stateOf wsX11_stateOf ({ frames := 3, cells := 0, slots := 0, locals := 67 } : Room) (va_Pc [.ref a_t, .int x1] (zPre D (zT cB cI cZ) [(a_t, .inr (11, [.int t_thrown, .ref a_t_now, .ref a_t_kept, .int t_isKept, .ref a_t_text, .int t_length, .ref a_t_passing, .int t_at, .int t_fault, .int t_open, .int t_asked, .int t_byGun, .int t_prizeMost, .ref a_t_order, .ref a_t_times, .int t_listed])), (a_t_now, .inl (cI, 1562, .inl t_now))] sz)) (zQi r0 D (zT cB cI cZ) [(a_t, .inr (11, [.int t_thrown, .ref a_t_now, .ref a_t_kept, .int t_isKept, .ref a_t_text, .int t_length, .ref a_t_passing, .int t_at, .int t_fault, .int t_open, .int t_asked, .int t_byGun, .int t_prizeMost, .ref a_t_order, .ref a_t_times, .int t_listed])), (a_t_now, .inl (cI, 1562, .inl t_now))] (va_A [(a_t, .inr (11, [.int t_thrown, .ref a_t_now, .ref a_t_kept, .int t_isKept, .ref a_t_text, .int t_length, .ref a_t_passing, .int t_at, .int t_fault, .int t_open, .int t_asked, .int t_byGun, .int t_prizeMost, .ref a_t_order, .ref a_t_times, .int t_listed])), (a_t_now, .inl (cI, 1562, .inl t_now))] sz)) 0 0 (va_A [(a_t, .inr (11, [.int t_thrown, .ref a_t_now, .ref a_t_kept, .int t_isKept, .ref a_t_text, .int t_length, .ref a_t_passing, .int t_at, .int t_fault, .int t_open, .int t_asked, .int t_byGun, .int t_prizeMost, .ref a_t_order, .ref a_t_times, .int t_listed])), (a_t_now, .inl (cI, 1562, .inl t_now))] sz) := by
  refine Met.ofW (cc := cX11_stateOf) (maxL := 2) (ret := (some .int)) (by decide) rfl ?_
  intro p e s m args below meth c s₁ B hml hv
  obtain ⟨rfl, hsz, hP, hK, hN, hZ, hD0⟩ := hv
  have hx := B.exec
  have hb := B.bytes
  have hr := B.returns
  have hts := atoms_spec (ws := wsX11_stateOf) B.pre
  have hown : s.vm.findClass RX11 = some m.cls := findClass_of_methodNamed B.named
  have hlocks := B.notSynchronized
  subst hsz
  have hD := hD0.self (sz := s.heap.size)
  generalize hAe : va_A [(a_t, .inr (11, [.int t_thrown, .ref a_t_now, .ref a_t_kept, .int t_isKept, .ref a_t_text, .int t_length, .ref a_t_passing, .int t_at, .int t_fault, .int t_open, .int t_asked, .int t_byGun, .int t_prizeMost, .ref a_t_order, .ref a_t_times, .int t_listed])), (a_t_now, .inl (cI, 1562, .inl t_now))] s.heap.size = A at hD hZ ⊢
  have hA : ∀ q : Nat, s.heap.size ≤ q → A q := fun q h => by rw [← hAe]; exact Or.inr h
  have hS : va_S A s.heap s.heap [] := va_S.rf
  have hl := lv_entry ([.ref a_t, .int x1]) (n := 2) (Nat.le_of_ble_eq_true rfl)
  rw [lg_entry_eq]
  generalize (lg_sl ([.ref a_t, .int x1]) ++ List.replicate (2 - (lg_sl ([.ref a_t, .int x1])).length) Slot.unset).toArray = ls at hl ⊢
  have hl : lv_has ls 2 [(0, .ref a_t), (1, .int x1)] := hl
  unfold fX11_stateOf at h
  refine lv_aload_n hx hb dX11_stateOf_0 rfl (lv_at hl 0 rfl) ?_
  refine lv_iload_n hx hb dX11_stateOf_1 rfl (lv_at hl 1 rfl) ?_
  refine lv_bipush (v := (8 : Int32)) hx hb dX11_stateOf_2 rfl ?_
  obtain ⟨r1, e2, h⟩ := zz_b h
  refine zVi (As := [.int x1, .int (8 : Int32)]) (rest := []) (C := RX11) (wr := []) [0, 1] [] 0 ⟨hx, hb, hml, hown, hts⟩ (mX11_of l D cB cI cZ a_t a_t_now a_t_kept a_t_text a_t_passing a_t_order a_t_times t_thrown t_isKept t_length t_at t_fault t_open t_asked t_byGun t_prizeMost t_listed t_now s.heap.size x1 (8 : Int32) r1 e2) (cwV 2 hts gX11_stateOf_X11_of rfl rfl rfl (by decide +kernel) ⟨Nat.le_of_ble_eq_true rfl, Nat.le_of_ble_eq_true rfl⟩) hK hN hZ hP hD hS hA rfl rfl rfl rfl rfl rfl rfl rfl hl.1 rfl (lv_room (Nat.le_of_ble_eq_true rfl)) dX11_stateOf_4 ⟨Nat.le_of_ble_eq_true rfl, Nat.le_of_ble_eq_true rfl⟩ (fun H locs hP hD hS => ?_)
  have hP : va_P D vwCl [(a_t, .inr (11, [.int t_thrown, .ref a_t_now, .ref a_t_kept, .int t_isKept, .ref a_t_text, .int t_length, .ref a_t_passing, .int t_at, .int t_fault, .int t_open, .int t_asked, .int t_byGun, .int t_prizeMost, .ref a_t_order, .ref a_t_times, .int t_listed])), (a_t_now, .inl (cI, 1562, .inl t_now))] H := hP
  have hD : va_D A [(a_t, .inr (11, [.int t_thrown, .ref a_t_now, .ref a_t_kept, .int t_isKept, .ref a_t_text, .int t_length, .ref a_t_passing, .int t_at, .int t_fault, .int t_open, .int t_asked, .int t_byGun, .int t_prizeMost, .ref a_t_order, .ref a_t_times, .int t_listed])), (a_t_now, .inl (cI, 1562, .inl t_now))] := hD
  refine lv_iconst (v := (1 : Int32)) hx hb dX11_stateOf_7 rfl ?_
  refine lv_icmp_ne (tgt := 13) hx hb dX11_stateOf_8 (by decide) (fun c3 => ?_) (fun c3 => ?_)
  · have h := zz_f h c3
    refine lv_aload_n hx hb dX11_stateOf_13 rfl (lv_at hl 0 rfl) ?_
    refine lv_iload_n hx hb dX11_stateOf_14 rfl (lv_at hl 1 rfl) ?_
    refine lv_bipush (v := (6 : Int32)) hx hb dX11_stateOf_15 rfl ?_
    obtain ⟨r4, e5, h⟩ := zz_b h
    refine zVi (As := [.int x1, .int (6 : Int32)]) (rest := []) (C := RX11) (wr := []) [0, 1] [] 0 ⟨hx, hb, hml, hown, hts⟩ (mX11_of l D cB cI cZ a_t a_t_now a_t_kept a_t_text a_t_passing a_t_order a_t_times t_thrown t_isKept t_length t_at t_fault t_open t_asked t_byGun t_prizeMost t_listed t_now H.size x1 (6 : Int32) r4 e5) (cwV 2 hts gX11_stateOf_X11_of rfl rfl rfl (by decide +kernel) ⟨Nat.le_of_ble_eq_true rfl, Nat.le_of_ble_eq_true rfl⟩) hK hN hZ hP hD hS hA rfl rfl rfl rfl rfl rfl rfl rfl hl.1 rfl (lv_room (Nat.le_of_ble_eq_true rfl)) dX11_stateOf_17 ⟨Nat.le_of_ble_eq_true rfl, Nat.le_of_ble_eq_true rfl⟩ (fun H locs hP hD hS => ?_)
    have hP : va_P D vwCl [(a_t, .inr (11, [.int t_thrown, .ref a_t_now, .ref a_t_kept, .int t_isKept, .ref a_t_text, .int t_length, .ref a_t_passing, .int t_at, .int t_fault, .int t_open, .int t_asked, .int t_byGun, .int t_prizeMost, .ref a_t_order, .ref a_t_times, .int t_listed])), (a_t_now, .inl (cI, 1562, .inl t_now))] H := hP
    have hD : va_D A [(a_t, .inr (11, [.int t_thrown, .ref a_t_now, .ref a_t_kept, .int t_isKept, .ref a_t_text, .int t_length, .ref a_t_passing, .int t_at, .int t_fault, .int t_open, .int t_asked, .int t_byGun, .int t_prizeMost, .ref a_t_order, .ref a_t_times, .int t_listed])), (a_t_now, .inl (cI, 1562, .inl t_now))] := hD
    refine lv_iconst (v := (1 : Int32)) hx hb dX11_stateOf_20 rfl ?_
    refine lv_icmp_ne (tgt := 26) hx hb dX11_stateOf_21 (by decide) (fun c6 => ?_) (fun c6 => ?_)
    · have h := zz_f h c6
      refine lv_aload_n hx hb dX11_stateOf_26 rfl (lv_at hl 0 rfl) ?_
      refine lv_iload_n hx hb dX11_stateOf_27 rfl (lv_at hl 1 rfl) ?_
      obtain ⟨b7, e8, h⟩ := zz_b h
      refine zVi (As := [.int x1]) (rest := []) (C := RX11) (wr := []) [0, 1] [] 0 ⟨hx, hb, hml, hown, hts⟩ (mX11_isOut l D cB cI cZ a_t a_t_now a_t_kept a_t_text a_t_passing a_t_order a_t_times t_thrown t_isKept t_length t_at t_fault t_open t_asked t_byGun t_prizeMost t_listed t_now H.size x1 N b7 e8) (cwV 1 hts gX11_stateOf_X11_isOut rfl rfl rfl (by decide +kernel) ⟨Nat.le_of_ble_eq_true rfl, Nat.le_of_ble_eq_true rfl⟩) hK hN hZ hP hD hS hA rfl rfl rfl rfl rfl rfl rfl rfl hl.1 rfl (lv_room (Nat.le_of_ble_eq_true rfl)) dX11_stateOf_28 ⟨Nat.le_of_ble_eq_true rfl, Nat.le_of_ble_eq_true rfl⟩ (fun H locs hP hD hS => ?_)
      have hP : va_P D vwCl [(a_t, .inr (11, [.int t_thrown, .ref a_t_now, .ref a_t_kept, .int t_isKept, .ref a_t_text, .int t_length, .ref a_t_passing, .int t_at, .int t_fault, .int t_open, .int t_asked, .int t_byGun, .int t_prizeMost, .ref a_t_order, .ref a_t_times, .int t_listed])), (a_t_now, .inl (cI, 1562, .inl t_now))] H := hP
      have hD : va_D A [(a_t, .inr (11, [.int t_thrown, .ref a_t_now, .ref a_t_kept, .int t_isKept, .ref a_t_text, .int t_length, .ref a_t_passing, .int t_at, .int t_fault, .int t_open, .int t_asked, .int t_byGun, .int t_prizeMost, .ref a_t_order, .ref a_t_times, .int t_listed])), (a_t_now, .inl (cI, 1562, .inl t_now))] := hD
      refine lv_if_eq (tgt := 36) hx hb dX11_stateOf_31 (by decide) (fun c9 => ?_) (fun c9 => ?_)
      · have h := zz_t h c9
        refine lv_aload_n hx hb dX11_stateOf_36 rfl (lv_at hl 0 rfl) ?_
        obtain ⟨r10, e11, h⟩ := zz_b h
        refine zVi (As := []) (rest := []) (C := RX11) (wr := []) [0, 1] [] 0 ⟨hx, hb, hml, hown, hts⟩ (mX11_mats l D cB cI cZ a_t a_t_now a_t_kept a_t_text a_t_passing a_t_order a_t_times t_thrown t_isKept t_length t_at t_fault t_open t_asked t_byGun t_prizeMost t_listed t_now H.size r10 e11) (cwV 0 hts gX11_stateOf_X11_mats rfl rfl rfl (by decide +kernel) ⟨Nat.le_of_ble_eq_true rfl, Nat.le_of_ble_eq_true rfl⟩) hK hN hZ hP hD hS hA rfl rfl rfl rfl rfl rfl rfl rfl hl.1 rfl (lv_room (Nat.le_of_ble_eq_true rfl)) dX11_stateOf_37 ⟨Nat.le_of_ble_eq_true rfl, Nat.le_of_ble_eq_true rfl⟩ (fun H locs hP hD hS => ?_)
        have hP : va_P D vwCl [(a_t, .inr (11, [.int t_thrown, .ref a_t_now, .ref a_t_kept, .int t_isKept, .ref a_t_text, .int t_length, .ref a_t_passing, .int t_at, .int t_fault, .int t_open, .int t_asked, .int t_byGun, .int t_prizeMost, .ref a_t_order, .ref a_t_times, .int t_listed])), (a_t_now, .inl (cI, 1562, .inl t_now))] H := hP
        have hD : va_D A [(a_t, .inr (11, [.int t_thrown, .ref a_t_now, .ref a_t_kept, .int t_isKept, .ref a_t_text, .int t_length, .ref a_t_passing, .int t_at, .int t_fault, .int t_open, .int t_asked, .int t_byGun, .int t_prizeMost, .ref a_t_order, .ref a_t_times, .int t_listed])), (a_t_now, .inl (cI, 1562, .inl t_now))] := hD
        refine lv_iconst (v := (1 : Int32)) hx hb dX11_stateOf_40 rfl ?_
        refine lv_icmp_le (tgt := 61) hx hb dX11_stateOf_41 (by decide) (fun c12 => ?_) (fun c12 => ?_)
        · have h := zz_t h c12
          refine lv_aload_n hx hb dX11_stateOf_61 rfl (lv_at hl 0 rfl) ?_
          refine lv_iload_n hx hb dX11_stateOf_62 rfl (lv_at hl 1 rfl) ?_
          obtain ⟨r13, e14, h⟩ := zz_b h
          refine zVi (As := [.int x1]) (rest := []) (C := RX11) (wr := []) [0, 1] [] 0 ⟨hx, hb, hml, hown, hts⟩ (mX11_startOf l D cB cI cZ a_t a_t_now a_t_kept a_t_text a_t_passing a_t_order a_t_times t_thrown t_isKept t_length t_at t_fault t_open t_asked t_byGun t_prizeMost t_listed t_now H.size x1 r13 e14) (cwV 1 hts gX11_stateOf_X11_startOf rfl rfl rfl (by decide +kernel) ⟨Nat.le_of_ble_eq_true rfl, Nat.le_of_ble_eq_true rfl⟩) hK hN hZ hP hD hS hA rfl rfl rfl rfl rfl rfl rfl rfl hl.1 rfl (lv_room (Nat.le_of_ble_eq_true rfl)) dX11_stateOf_63 ⟨Nat.le_of_ble_eq_true rfl, Nat.le_of_ble_eq_true rfl⟩ (fun H locs hP hD hS => ?_)
          have hP : va_P D vwCl [(a_t, .inr (11, [.int t_thrown, .ref a_t_now, .ref a_t_kept, .int t_isKept, .ref a_t_text, .int t_length, .ref a_t_passing, .int t_at, .int t_fault, .int t_open, .int t_asked, .int t_byGun, .int t_prizeMost, .ref a_t_order, .ref a_t_times, .int t_listed])), (a_t_now, .inl (cI, 1562, .inl t_now))] H := hP
          have hD : va_D A [(a_t, .inr (11, [.int t_thrown, .ref a_t_now, .ref a_t_kept, .int t_isKept, .ref a_t_text, .int t_length, .ref a_t_passing, .int t_at, .int t_fault, .int t_open, .int t_asked, .int t_byGun, .int t_prizeMost, .ref a_t_order, .ref a_t_times, .int t_listed])), (a_t_now, .inl (cI, 1562, .inl t_now))] := hD
          refine lv_iconst (v := (-1 : Int32)) hx hb dX11_stateOf_66 rfl ?_
          refine lv_icmp_eq (tgt := 74) hx hb dX11_stateOf_67 (by decide) (fun c15 => ?_) (fun c15 => ?_)
          · have h := zz_t h c15
            refine lv_iconst (v := (0 : Int32)) hx hb dX11_stateOf_74 rfl ?_
            have j0_ := Option.some.inj h
            subst j0_
            exact W.iret (v := (0 : Int32)) hx hb hr (fun t ht hW => ⟨⟨_, (), rfl, rfl, zPost.of hP hD hK ht hW [0, 1] rfl rfl rfl⟩, hS.F ht⟩) hS.2.2 dX11_stateOf_75
          · have h := zz_f h c15
            refine lv_iconst (v := (1 : Int32)) hx hb dX11_stateOf_70 rfl ?_
            refine lv_goto (tgt := 75) hx hb dX11_stateOf_71 (by decide) ?_
            have j0_ := Option.some.inj h
            subst j0_
            exact W.iret (v := (1 : Int32)) hx hb hr (fun t ht hW => ⟨⟨_, (), rfl, rfl, zPost.of hP hD hK ht hW [0, 1] rfl rfl rfl⟩, hS.F ht⟩) hS.2.2 dX11_stateOf_75
        · have h := zz_f h c12
          refine lv_aload_n hx hb dX11_stateOf_44 rfl (lv_at hl 0 rfl) ?_
          refine lv_iload_n hx hb dX11_stateOf_45 rfl (lv_at hl 1 rfl) ?_
          refine lv_aload_n hx hb dX11_stateOf_46 rfl (lv_at hl 0 rfl) ?_
          obtain ⟨r16, e17, h⟩ := zz_b h
          refine zVi (As := []) (rest := [.int x1, .ref a_t]) (C := RX11) (wr := []) [0, 1] [] 0 ⟨hx, hb, hml, hown, hts⟩ (mX11_mats l D cB cI cZ a_t a_t_now a_t_kept a_t_text a_t_passing a_t_order a_t_times t_thrown t_isKept t_length t_at t_fault t_open t_asked t_byGun t_prizeMost t_listed t_now H.size r16 e17) (cwV 0 hts gX11_stateOf_X11_mats rfl rfl rfl (by decide +kernel) ⟨Nat.le_of_ble_eq_true rfl, Nat.le_of_ble_eq_true rfl⟩) hK hN hZ hP hD hS hA rfl rfl rfl rfl rfl rfl rfl rfl hl.1 rfl (lv_room (Nat.le_of_ble_eq_true rfl)) dX11_stateOf_47 ⟨Nat.le_of_ble_eq_true rfl, Nat.le_of_ble_eq_true rfl⟩ (fun H locs hP hD hS => ?_)
          have hP : va_P D vwCl [(a_t, .inr (11, [.int t_thrown, .ref a_t_now, .ref a_t_kept, .int t_isKept, .ref a_t_text, .int t_length, .ref a_t_passing, .int t_at, .int t_fault, .int t_open, .int t_asked, .int t_byGun, .int t_prizeMost, .ref a_t_order, .ref a_t_times, .int t_listed])), (a_t_now, .inl (cI, 1562, .inl t_now))] H := hP
          have hD : va_D A [(a_t, .inr (11, [.int t_thrown, .ref a_t_now, .ref a_t_kept, .int t_isKept, .ref a_t_text, .int t_length, .ref a_t_passing, .int t_at, .int t_fault, .int t_open, .int t_asked, .int t_byGun, .int t_prizeMost, .ref a_t_order, .ref a_t_times, .int t_listed])), (a_t_now, .inl (cI, 1562, .inl t_now))] := hD
          refine lv_iconst (v := (1 : Int32)) hx hb dX11_stateOf_50 rfl ?_
          refine lv_isub hx hb dX11_stateOf_51 ?_
          obtain ⟨r18, e19, h⟩ := zz_b h
          refine zVi (As := [.int x1, .int (r16 - (1 : Int32))]) (rest := []) (C := RX11) (wr := []) [0, 1] [] 0 ⟨hx, hb, hml, hown, hts⟩ (mX11_splitOf l D cB cI cZ a_t a_t_now a_t_kept a_t_text a_t_passing a_t_order a_t_times t_thrown t_isKept t_length t_at t_fault t_open t_asked t_byGun t_prizeMost t_listed t_now H.size x1 (r16 - (1 : Int32)) r18 e19) (cwV 2 hts gX11_stateOf_X11_splitOf rfl rfl rfl (by decide +kernel) ⟨Nat.le_of_ble_eq_true rfl, Nat.le_of_ble_eq_true rfl⟩) hK hN hZ hP hD hS hA rfl rfl rfl rfl rfl rfl rfl rfl hl.1 rfl (lv_room (Nat.le_of_ble_eq_true rfl)) dX11_stateOf_52 ⟨Nat.le_of_ble_eq_true rfl, Nat.le_of_ble_eq_true rfl⟩ (fun H locs hP hD hS => ?_)
          have hP : va_P D vwCl [(a_t, .inr (11, [.int t_thrown, .ref a_t_now, .ref a_t_kept, .int t_isKept, .ref a_t_text, .int t_length, .ref a_t_passing, .int t_at, .int t_fault, .int t_open, .int t_asked, .int t_byGun, .int t_prizeMost, .ref a_t_order, .ref a_t_times, .int t_listed])), (a_t_now, .inl (cI, 1562, .inl t_now))] H := hP
          have hD : va_D A [(a_t, .inr (11, [.int t_thrown, .ref a_t_now, .ref a_t_kept, .int t_isKept, .ref a_t_text, .int t_length, .ref a_t_passing, .int t_at, .int t_fault, .int t_open, .int t_asked, .int t_byGun, .int t_prizeMost, .ref a_t_order, .ref a_t_times, .int t_listed])), (a_t_now, .inl (cI, 1562, .inl t_now))] := hD
          refine lv_iconst (v := (-1 : Int32)) hx hb dX11_stateOf_55 rfl ?_
          refine lv_icmp_eq (tgt := 61) hx hb dX11_stateOf_56 (by decide) (fun c20 => ?_) (fun c20 => ?_)
          · have h := zz_t h c20
            refine lv_aload_n hx hb dX11_stateOf_61 rfl (lv_at hl 0 rfl) ?_
            refine lv_iload_n hx hb dX11_stateOf_62 rfl (lv_at hl 1 rfl) ?_
            obtain ⟨r21, e22, h⟩ := zz_b h
            refine zVi (As := [.int x1]) (rest := []) (C := RX11) (wr := []) [0, 1] [] 0 ⟨hx, hb, hml, hown, hts⟩ (mX11_startOf l D cB cI cZ a_t a_t_now a_t_kept a_t_text a_t_passing a_t_order a_t_times t_thrown t_isKept t_length t_at t_fault t_open t_asked t_byGun t_prizeMost t_listed t_now H.size x1 r21 e22) (cwV 1 hts gX11_stateOf_X11_startOf rfl rfl rfl (by decide +kernel) ⟨Nat.le_of_ble_eq_true rfl, Nat.le_of_ble_eq_true rfl⟩) hK hN hZ hP hD hS hA rfl rfl rfl rfl rfl rfl rfl rfl hl.1 rfl (lv_room (Nat.le_of_ble_eq_true rfl)) dX11_stateOf_63 ⟨Nat.le_of_ble_eq_true rfl, Nat.le_of_ble_eq_true rfl⟩ (fun H locs hP hD hS => ?_)
            have hP : va_P D vwCl [(a_t, .inr (11, [.int t_thrown, .ref a_t_now, .ref a_t_kept, .int t_isKept, .ref a_t_text, .int t_length, .ref a_t_passing, .int t_at, .int t_fault, .int t_open, .int t_asked, .int t_byGun, .int t_prizeMost, .ref a_t_order, .ref a_t_times, .int t_listed])), (a_t_now, .inl (cI, 1562, .inl t_now))] H := hP
            have hD : va_D A [(a_t, .inr (11, [.int t_thrown, .ref a_t_now, .ref a_t_kept, .int t_isKept, .ref a_t_text, .int t_length, .ref a_t_passing, .int t_at, .int t_fault, .int t_open, .int t_asked, .int t_byGun, .int t_prizeMost, .ref a_t_order, .ref a_t_times, .int t_listed])), (a_t_now, .inl (cI, 1562, .inl t_now))] := hD
            refine lv_iconst (v := (-1 : Int32)) hx hb dX11_stateOf_66 rfl ?_
            refine lv_icmp_eq (tgt := 74) hx hb dX11_stateOf_67 (by decide) (fun c23 => ?_) (fun c23 => ?_)
            · have h := zz_t h c23
              refine lv_iconst (v := (0 : Int32)) hx hb dX11_stateOf_74 rfl ?_
              have j0_ := Option.some.inj h
              subst j0_
              exact W.iret (v := (0 : Int32)) hx hb hr (fun t ht hW => ⟨⟨_, (), rfl, rfl, zPost.of hP hD hK ht hW [0, 1] rfl rfl rfl⟩, hS.F ht⟩) hS.2.2 dX11_stateOf_75
            · have h := zz_f h c23
              refine lv_iconst (v := (1 : Int32)) hx hb dX11_stateOf_70 rfl ?_
              refine lv_goto (tgt := 75) hx hb dX11_stateOf_71 (by decide) ?_
              have j0_ := Option.some.inj h
              subst j0_
              exact W.iret (v := (1 : Int32)) hx hb hr (fun t ht hW => ⟨⟨_, (), rfl, rfl, zPost.of hP hD hK ht hW [0, 1] rfl rfl rfl⟩, hS.F ht⟩) hS.2.2 dX11_stateOf_75
          · have h := zz_f h c20
            refine lv_iconst (v := (2 : Int32)) hx hb dX11_stateOf_59 rfl ?_
            have j0_ := Option.some.inj h
            subst j0_
            exact W.iret (v := (2 : Int32)) hx hb hr (fun t ht hW => ⟨⟨_, (), rfl, rfl, zPost.of hP hD hK ht hW [0, 1] rfl rfl rfl⟩, hS.F ht⟩) hS.2.2 dX11_stateOf_60
      · have h := zz_f h c9
        refine lv_iconst (v := (5 : Int32)) hx hb dX11_stateOf_34 rfl ?_
        have j0_ := Option.some.inj h
        subst j0_
        exact W.iret (v := (5 : Int32)) hx hb hr (fun t ht hW => ⟨⟨_, (), rfl, rfl, zPost.of hP hD hK ht hW [0, 1] rfl rfl rfl⟩, hS.F ht⟩) hS.2.2 dX11_stateOf_35
    · have h := zz_t h c6
      refine lv_iconst (v := (3 : Int32)) hx hb dX11_stateOf_24 rfl ?_
      have j0_ := Option.some.inj h
      subst j0_
      exact W.iret (v := (3 : Int32)) hx hb hr (fun t ht hW => ⟨⟨_, (), rfl, rfl, zPost.of hP hD hK ht hW [0, 1] rfl rfl rfl⟩, hS.F ht⟩) hS.2.2 dX11_stateOf_25
  · have h := zz_t h c3
    refine lv_iconst (v := (4 : Int32)) hx hb dX11_stateOf_11 rfl ?_
    have j0_ := Option.some.inj h
    subst j0_
    exact W.iret (v := (4 : Int32)) hx hb hr (fun t ht hW => ⟨⟨_, (), rfl, rfl, zPost.of hP hD hK ht hW [0, 1] rfl rfl rfl⟩, hS.F ht⟩) hS.2.2 dX11_stateOf_12
/-! RunDeskModel.timeFrom -/
theorem dX11_timeFrom_0 : decode cX11_timeFrom 0 = .ok (.aload_n 0, 1) := by decide +kernel
theorem dX11_timeFrom_1 : decode cX11_timeFrom 1 = .ok (.iload_n 1, 1) := by decide +kernel
theorem dX11_timeFrom_2 : decode cX11_timeFrom 2 = .ok (.invokevirtual 89, 3) := by decide +kernel
theorem dX11_timeFrom_5 : decode cX11_timeFrom 5 = .ok (.iconst 2, 1) := by decide +kernel
theorem dX11_timeFrom_6 : decode cX11_timeFrom 6 = .ok (.if_icmp .ne 8, 3) := by decide +kernel
theorem dX11_timeFrom_9 : decode cX11_timeFrom 9 = .ok (.iload_n 2, 1) := by decide +kernel
theorem dX11_timeFrom_10 : decode cX11_timeFrom 10 = .ok (.iconst (-1), 1) := by decide +kernel
theorem dX11_timeFrom_11 : decode cX11_timeFrom 11 = .ok (.if_icmp .ne 5, 3) := by decide +kernel
theorem dX11_timeFrom_14 : decode cX11_timeFrom 14 = .ok (.iconst (-1), 1) := by decide +kernel
theorem dX11_timeFrom_15 : decode cX11_timeFrom 15 = .ok (.ireturn, 1) := by decide +kernel
theorem dX11_timeFrom_16 : decode cX11_timeFrom 16 = .ok (.aload_n 0, 1) := by decide +kernel
theorem dX11_timeFrom_17 : decode cX11_timeFrom 17 = .ok (.iload_n 1, 1) := by decide +kernel
theorem dX11_timeFrom_18 : decode cX11_timeFrom 18 = .ok (.aload_n 0, 1) := by decide +kernel
theorem dX11_timeFrom_19 : decode cX11_timeFrom 19 = .ok (.invokevirtual 41, 3) := by decide +kernel
theorem dX11_timeFrom_22 : decode cX11_timeFrom 22 = .ok (.iconst 1, 1) := by decide +kernel
theorem dX11_timeFrom_23 : decode cX11_timeFrom 23 = .ok (.isub, 1) := by decide +kernel
theorem dX11_timeFrom_24 : decode cX11_timeFrom 24 = .ok (.invokevirtual 76, 3) := by decide +kernel
theorem dX11_timeFrom_27 : decode cX11_timeFrom 27 = .ok (.iload_n 2, 1) := by decide +kernel
theorem dX11_timeFrom_28 : decode cX11_timeFrom 28 = .ok (.isub, 1) := by decide +kernel
theorem dX11_timeFrom_29 : decode cX11_timeFrom 29 = .ok (.istore_n 3, 1) := by decide +kernel
theorem dX11_timeFrom_30 : decode cX11_timeFrom 30 = .ok (.iload_n 3, 1) := by decide +kernel
theorem dX11_timeFrom_31 : decode cX11_timeFrom 31 = .ok (.ifCond .ge 7, 3) := by decide +kernel
theorem dX11_timeFrom_34 : decode cX11_timeFrom 34 = .ok (.iconst (-1), 1) := by decide +kernel
theorem dX11_timeFrom_35 : decode cX11_timeFrom 35 = .ok (.goto 4, 3) := by decide +kernel
theorem dX11_timeFrom_38 : decode cX11_timeFrom 38 = .ok (.iload_n 3, 1) := by decide +kernel
theorem dX11_timeFrom_39 : decode cX11_timeFrom 39 = .ok (.ireturn, 1) := by decide +kernel
set_option maxRecDepth 20000 in
theorem ggX11_timeFrom_X11_stateOf : GoodIn wsX11_timeFrom wsX11_stateOf := goodIn_r _ [5, 6, 7, 8, 4, 9, 10, 11, 12, 13, 14, 15, 16, 17, 18, 19, 20, 21, 22, 23, 24, 25, 26, 27, 28, 29, 30, 31, 32, 33, 34, 35, 36, 37, 38, 39, 40, 41, 42, 43, 44, 45, 46, 47, 48, 49, 50] (by decide +kernel) (by decide +kernel)
set_option maxRecDepth 20000 in
theorem gX11_timeFrom_X11_stateOf : GoodIn wsX11_timeFrom (wsV RX11 89 RX11 yX11_stateOf wsX11_stateOf) := goodIn_app (goodIn_of _ (by decide +kernel)) ggX11_timeFrom_X11_stateOf
set_option maxRecDepth 20000 in
theorem ggX11_timeFrom_X11_mats : GoodIn wsX11_timeFrom wsX11_mats := goodIn_r _ [18, 10, 35, 36, 37, 38, 39, 40, 41, 42, 43, 44, 45, 46, 47, 48, 49, 50] (by decide +kernel) (by decide +kernel)
set_option maxRecDepth 20000 in
theorem gX11_timeFrom_X11_mats : GoodIn wsX11_timeFrom (wsV RX11 41 RX11 yX11_mats wsX11_mats) := goodIn_app (goodIn_of _ (by decide +kernel)) ggX11_timeFrom_X11_mats
set_option maxRecDepth 20000 in
theorem ggX11_timeFrom_X11_splitOf : GoodIn wsX11_timeFrom wsX11_splitOf := goodIn_r _ [26, 6, 7, 8, 4, 9, 10, 35, 36, 37, 38, 39, 40, 41, 42, 43, 44, 45, 46, 47, 48, 49, 50] (by decide +kernel) (by decide +kernel)
set_option maxRecDepth 20000 in
theorem gX11_timeFrom_X11_splitOf : GoodIn wsX11_timeFrom (wsV RX11 76 RX11 yX11_splitOf wsX11_splitOf) := goodIn_app (goodIn_of _ (by decide +kernel)) ggX11_timeFrom_X11_splitOf
def fX11_timeFrom (N : Nat) (t_now : Nat → Int32) (x1 : Int32) (x2 : Int32) : Option (Int32) := ((fX11_stateOf N t_now x1).bind (fun r1 => (if r1 = (2 : Int32) then (if x2 = (-1 : Int32) then some ((-1 : Int32)) else ((fX11_mats t_now).bind (fun r5 => ((fX11_splitOf t_now x1 (r5 - (1 : Int32))).bind (fun r7 => (if 0 ≤ (r7 - x2) then some ((r7 - x2)) else some ((-1 : Int32)))))))) else some ((-1 : Int32)))))
set_option maxHeartbeats 4000000 in
set_option maxRecDepth 100000 in
theorem mX11_timeFrom (l : Launch) (D : va_G) (cB cI cZ : ClassId) (a_t : Nat) (a_t_now : Nat) (a_t_kept : Nat) (a_t_text : Nat) (a_t_passing : Nat) (a_t_order : Nat) (a_t_times : Nat) (t_thrown : Int32) (t_isKept : Int32) (t_length : Int32) (t_at : Int32) (t_fault : Int32) (t_open : Int32) (t_asked : Int32) (t_byGun : Int32) (t_prizeMost : Int32) (t_listed : Int32) (t_now : Nat → Int32) (sz : Nat) (x1 : Int32) (x2 : Int32) (N : Nat) (r0 : Int32) (h : fX11_timeFrom N t_now x1 x2 = some (r0)) : Met l yX11_timeFrom wsX11_timeFrom ({ frames := 4, cells := 0, slots := 0, locals := 88 } : Room) (va_Pc [.ref a_t, .int x1, .int x2] (zPre D (zT cB cI cZ) [(a_t, .inr (11, [.int t_thrown, .ref a_t_now, .ref a_t_kept, .int t_isKept, .ref a_t_text, .int t_length, .ref a_t_passing, .int t_at, .int t_fault, .int t_open, .int t_asked, .int t_byGun, .int t_prizeMost, .ref a_t_order, .ref a_t_times, .int t_listed])), (a_t_now, .inl (cI, 1562, .inl t_now))] sz)) (zQi r0 D (zT cB cI cZ) [(a_t, .inr (11, [.int t_thrown, .ref a_t_now, .ref a_t_kept, .int t_isKept, .ref a_t_text, .int t_length, .ref a_t_passing, .int t_at, .int t_fault, .int t_open, .int t_asked, .int t_byGun, .int t_prizeMost, .ref a_t_order, .ref a_t_times, .int t_listed])), (a_t_now, .inl (cI, 1562, .inl t_now))] (va_A [(a_t, .inr (11, [.int t_thrown, .ref a_t_now, .ref a_t_kept, .int t_isKept, .ref a_t_text, .int t_length, .ref a_t_passing, .int t_at, .int t_fault, .int t_open, .int t_asked, .int t_byGun, .int t_prizeMost, .ref a_t_order, .ref a_t_times, .int t_listed])), (a_t_now, .inl (cI, 1562, .inl t_now))] sz)) 0 0 (va_A [(a_t, .inr (11, [.int t_thrown, .ref a_t_now, .ref a_t_kept, .int t_isKept, .ref a_t_text, .int t_length, .ref a_t_passing, .int t_at, .int t_fault, .int t_open, .int t_asked, .int t_byGun, .int t_prizeMost, .ref a_t_order, .ref a_t_times, .int t_listed])), (a_t_now, .inl (cI, 1562, .inl t_now))] sz) := by
  refine Met.ofW (cc := cX11_timeFrom) (maxL := 4) (ret := (some .int)) (by decide) rfl ?_
  intro p e s m args below meth c s₁ B hml hv
  obtain ⟨rfl, hsz, hP, hK, hN, hZ, hD0⟩ := hv
  have hx := B.exec
  have hb := B.bytes
  have hr := B.returns
  have hts := atoms_spec (ws := wsX11_timeFrom) B.pre
  have hown : s.vm.findClass RX11 = some m.cls := findClass_of_methodNamed B.named
  have hlocks := B.notSynchronized
  subst hsz
  have hD := hD0.self (sz := s.heap.size)
  generalize hAe : va_A [(a_t, .inr (11, [.int t_thrown, .ref a_t_now, .ref a_t_kept, .int t_isKept, .ref a_t_text, .int t_length, .ref a_t_passing, .int t_at, .int t_fault, .int t_open, .int t_asked, .int t_byGun, .int t_prizeMost, .ref a_t_order, .ref a_t_times, .int t_listed])), (a_t_now, .inl (cI, 1562, .inl t_now))] s.heap.size = A at hD hZ ⊢
  have hA : ∀ q : Nat, s.heap.size ≤ q → A q := fun q h => by rw [← hAe]; exact Or.inr h
  have hS : va_S A s.heap s.heap [] := va_S.rf
  have hl := lv_entry ([.ref a_t, .int x1, .int x2]) (n := 4) (Nat.le_of_ble_eq_true rfl)
  rw [lg_entry_eq]
  generalize (lg_sl ([.ref a_t, .int x1, .int x2]) ++ List.replicate (4 - (lg_sl ([.ref a_t, .int x1, .int x2])).length) Slot.unset).toArray = ls at hl ⊢
  have hl : lv_has ls 4 [(0, .ref a_t), (1, .int x1), (2, .int x2)] := hl
  unfold fX11_timeFrom at h
  refine lv_aload_n hx hb dX11_timeFrom_0 rfl (lv_at hl 0 rfl) ?_
  refine lv_iload_n hx hb dX11_timeFrom_1 rfl (lv_at hl 1 rfl) ?_
  obtain ⟨r1, e2, h⟩ := zz_b h
  refine zVi (As := [.int x1]) (rest := []) (C := RX11) (wr := []) [0, 1] [] 0 ⟨hx, hb, hml, hown, hts⟩ (mX11_stateOf l D cB cI cZ a_t a_t_now a_t_kept a_t_text a_t_passing a_t_order a_t_times t_thrown t_isKept t_length t_at t_fault t_open t_asked t_byGun t_prizeMost t_listed t_now s.heap.size x1 N r1 e2) (cwV 1 hts gX11_timeFrom_X11_stateOf rfl rfl rfl (by decide +kernel) ⟨Nat.le_of_ble_eq_true rfl, Nat.le_of_ble_eq_true rfl⟩) hK hN hZ hP hD hS hA rfl rfl rfl rfl rfl rfl rfl rfl hl.1 rfl (lv_room (Nat.le_of_ble_eq_true rfl)) dX11_timeFrom_2 ⟨Nat.le_of_ble_eq_true rfl, Nat.le_of_ble_eq_true rfl⟩ (fun H locs hP hD hS => ?_)
  have hP : va_P D vwCl [(a_t, .inr (11, [.int t_thrown, .ref a_t_now, .ref a_t_kept, .int t_isKept, .ref a_t_text, .int t_length, .ref a_t_passing, .int t_at, .int t_fault, .int t_open, .int t_asked, .int t_byGun, .int t_prizeMost, .ref a_t_order, .ref a_t_times, .int t_listed])), (a_t_now, .inl (cI, 1562, .inl t_now))] H := hP
  have hD : va_D A [(a_t, .inr (11, [.int t_thrown, .ref a_t_now, .ref a_t_kept, .int t_isKept, .ref a_t_text, .int t_length, .ref a_t_passing, .int t_at, .int t_fault, .int t_open, .int t_asked, .int t_byGun, .int t_prizeMost, .ref a_t_order, .ref a_t_times, .int t_listed])), (a_t_now, .inl (cI, 1562, .inl t_now))] := hD
  refine lv_iconst (v := (2 : Int32)) hx hb dX11_timeFrom_5 rfl ?_
  refine lv_icmp_ne (tgt := 14) hx hb dX11_timeFrom_6 (by decide) (fun c3 => ?_) (fun c3 => ?_)
  · have h := zz_f h c3
    refine lv_iconst (v := (-1 : Int32)) hx hb dX11_timeFrom_14 rfl ?_
    have j0_ := Option.some.inj h
    subst j0_
    exact W.iret (v := (-1 : Int32)) hx hb hr (fun t ht hW => ⟨⟨_, (), rfl, rfl, zPost.of hP hD hK ht hW [0, 1] rfl rfl rfl⟩, hS.F ht⟩) hS.2.2 dX11_timeFrom_15
  · have h := zz_t h c3
    refine lv_iload_n hx hb dX11_timeFrom_9 rfl (lv_at hl 2 rfl) ?_
    refine lv_iconst (v := (-1 : Int32)) hx hb dX11_timeFrom_10 rfl ?_
    refine lv_icmp_ne (tgt := 16) hx hb dX11_timeFrom_11 (by decide) (fun c4 => ?_) (fun c4 => ?_)
    · have h := zz_f h c4
      refine lv_aload_n hx hb dX11_timeFrom_16 rfl (lv_at hl 0 rfl) ?_
      refine lv_iload_n hx hb dX11_timeFrom_17 rfl (lv_at hl 1 rfl) ?_
      refine lv_aload_n hx hb dX11_timeFrom_18 rfl (lv_at hl 0 rfl) ?_
      obtain ⟨r5, e6, h⟩ := zz_b h
      refine zVi (As := []) (rest := [.int x1, .ref a_t]) (C := RX11) (wr := []) [0, 1] [] 0 ⟨hx, hb, hml, hown, hts⟩ (mX11_mats l D cB cI cZ a_t a_t_now a_t_kept a_t_text a_t_passing a_t_order a_t_times t_thrown t_isKept t_length t_at t_fault t_open t_asked t_byGun t_prizeMost t_listed t_now H.size r5 e6) (cwV 0 hts gX11_timeFrom_X11_mats rfl rfl rfl (by decide +kernel) ⟨Nat.le_of_ble_eq_true rfl, Nat.le_of_ble_eq_true rfl⟩) hK hN hZ hP hD hS hA rfl rfl rfl rfl rfl rfl rfl rfl hl.1 rfl (lv_room (Nat.le_of_ble_eq_true rfl)) dX11_timeFrom_19 ⟨Nat.le_of_ble_eq_true rfl, Nat.le_of_ble_eq_true rfl⟩ (fun H locs hP hD hS => ?_)
      have hP : va_P D vwCl [(a_t, .inr (11, [.int t_thrown, .ref a_t_now, .ref a_t_kept, .int t_isKept, .ref a_t_text, .int t_length, .ref a_t_passing, .int t_at, .int t_fault, .int t_open, .int t_asked, .int t_byGun, .int t_prizeMost, .ref a_t_order, .ref a_t_times, .int t_listed])), (a_t_now, .inl (cI, 1562, .inl t_now))] H := hP
      have hD : va_D A [(a_t, .inr (11, [.int t_thrown, .ref a_t_now, .ref a_t_kept, .int t_isKept, .ref a_t_text, .int t_length, .ref a_t_passing, .int t_at, .int t_fault, .int t_open, .int t_asked, .int t_byGun, .int t_prizeMost, .ref a_t_order, .ref a_t_times, .int t_listed])), (a_t_now, .inl (cI, 1562, .inl t_now))] := hD
      refine lv_iconst (v := (1 : Int32)) hx hb dX11_timeFrom_22 rfl ?_
      refine lv_isub hx hb dX11_timeFrom_23 ?_
      obtain ⟨r7, e8, h⟩ := zz_b h
      refine zVi (As := [.int x1, .int (r5 - (1 : Int32))]) (rest := []) (C := RX11) (wr := []) [0, 1] [] 0 ⟨hx, hb, hml, hown, hts⟩ (mX11_splitOf l D cB cI cZ a_t a_t_now a_t_kept a_t_text a_t_passing a_t_order a_t_times t_thrown t_isKept t_length t_at t_fault t_open t_asked t_byGun t_prizeMost t_listed t_now H.size x1 (r5 - (1 : Int32)) r7 e8) (cwV 2 hts gX11_timeFrom_X11_splitOf rfl rfl rfl (by decide +kernel) ⟨Nat.le_of_ble_eq_true rfl, Nat.le_of_ble_eq_true rfl⟩) hK hN hZ hP hD hS hA rfl rfl rfl rfl rfl rfl rfl rfl hl.1 rfl (lv_room (Nat.le_of_ble_eq_true rfl)) dX11_timeFrom_24 ⟨Nat.le_of_ble_eq_true rfl, Nat.le_of_ble_eq_true rfl⟩ (fun H locs hP hD hS => ?_)
      have hP : va_P D vwCl [(a_t, .inr (11, [.int t_thrown, .ref a_t_now, .ref a_t_kept, .int t_isKept, .ref a_t_text, .int t_length, .ref a_t_passing, .int t_at, .int t_fault, .int t_open, .int t_asked, .int t_byGun, .int t_prizeMost, .ref a_t_order, .ref a_t_times, .int t_listed])), (a_t_now, .inl (cI, 1562, .inl t_now))] H := hP
      have hD : va_D A [(a_t, .inr (11, [.int t_thrown, .ref a_t_now, .ref a_t_kept, .int t_isKept, .ref a_t_text, .int t_length, .ref a_t_passing, .int t_at, .int t_fault, .int t_open, .int t_asked, .int t_byGun, .int t_prizeMost, .ref a_t_order, .ref a_t_times, .int t_listed])), (a_t_now, .inl (cI, 1562, .inl t_now))] := hD
      refine lv_iload_n hx hb dX11_timeFrom_27 rfl (lv_at hl 2 rfl) ?_
      refine lv_isub hx hb dX11_timeFrom_28 ?_
      refine lv_istore_n (lv' := [(3, .int (r7 - x2)), (0, .ref a_t), (1, .int x1), (2, .int x2)]) hx hb dX11_timeFrom_29 rfl hl (by decide) rfl (fun ls hl => ?_)
      refine lv_iload_n hx hb dX11_timeFrom_30 rfl (lv_at hl 0 rfl) ?_
      refine lv_if_ge (tgt := 38) hx hb dX11_timeFrom_31 (by decide) (fun c9 => ?_) (fun c9 => ?_)
      · have h := zz_t h c9
        refine lv_iload_n hx hb dX11_timeFrom_38 rfl (lv_at hl 0 rfl) ?_
        have j0_ := Option.some.inj h
        subst j0_
        exact W.iret (v := (r7 - x2)) hx hb hr (fun t ht hW => ⟨⟨_, (), rfl, rfl, zPost.of hP hD hK ht hW [0, 1] rfl rfl rfl⟩, hS.F ht⟩) hS.2.2 dX11_timeFrom_39
      · have h := zz_f h c9
        refine lv_iconst (v := (-1 : Int32)) hx hb dX11_timeFrom_34 rfl ?_
        refine lv_goto (tgt := 39) hx hb dX11_timeFrom_35 (by decide) ?_
        have j0_ := Option.some.inj h
        subst j0_
        exact W.iret (v := (-1 : Int32)) hx hb hr (fun t ht hW => ⟨⟨_, (), rfl, rfl, zPost.of hP hD hK ht hW [0, 1] rfl rfl rfl⟩, hS.F ht⟩) hS.2.2 dX11_timeFrom_39
    · have h := zz_t h c4
      refine lv_iconst (v := (-1 : Int32)) hx hb dX11_timeFrom_14 rfl ?_
      have j0_ := Option.some.inj h
      subst j0_
      exact W.iret (v := (-1 : Int32)) hx hb hr (fun t ht hW => ⟨⟨_, (), rfl, rfl, zPost.of hP hD hK ht hW [0, 1] rfl rfl rfl⟩, hS.F ht⟩) hS.2.2 dX11_timeFrom_15
/-! RunDeskModel.timeOf -/
theorem dX11_timeOf_0 : decode cX11_timeOf 0 = .ok (.aload_n 0, 1) := by decide +kernel
theorem dX11_timeOf_1 : decode cX11_timeOf 1 = .ok (.iload_n 1, 1) := by decide +kernel
theorem dX11_timeOf_2 : decode cX11_timeOf 2 = .ok (.iload_n 2, 1) := by decide +kernel
theorem dX11_timeOf_3 : decode cX11_timeOf 3 = .ok (.ifCond .eq 16, 3) := by decide +kernel
theorem dX11_timeOf_6 : decode cX11_timeOf 6 = .ok (.aload_n 0, 1) := by decide +kernel
theorem dX11_timeOf_7 : decode cX11_timeOf 7 = .ok (.aload_n 0, 1) := by decide +kernel
theorem dX11_timeOf_8 : decode cX11_timeOf 8 = .ok (.iload_n 1, 1) := by decide +kernel
theorem dX11_timeOf_9 : decode cX11_timeOf 9 = .ok (.iconst 5, 1) := by decide +kernel
theorem dX11_timeOf_10 : decode cX11_timeOf 10 = .ok (.invokevirtual 62, 3) := by decide +kernel
theorem dX11_timeOf_13 : decode cX11_timeOf 13 = .ok (.invokevirtual 79, 3) := by decide +kernel
theorem dX11_timeOf_16 : decode cX11_timeOf 16 = .ok (.goto 8, 3) := by decide +kernel
theorem dX11_timeOf_19 : decode cX11_timeOf 19 = .ok (.aload_n 0, 1) := by decide +kernel
theorem dX11_timeOf_20 : decode cX11_timeOf 20 = .ok (.iload_n 1, 1) := by decide +kernel
theorem dX11_timeOf_21 : decode cX11_timeOf 21 = .ok (.invokevirtual 83, 3) := by decide +kernel
theorem dX11_timeOf_24 : decode cX11_timeOf 24 = .ok (.invokevirtual 92, 3) := by decide +kernel
theorem dX11_timeOf_27 : decode cX11_timeOf 27 = .ok (.ireturn, 1) := by decide +kernel
set_option maxRecDepth 20000 in
theorem ggX11_timeOf_X11_of : GoodIn wsX11_timeOf wsX11_of := goodIn_r _ [5, 6, 39, 40, 41, 42, 43, 44, 45, 46, 47, 48, 49, 50, 51, 52, 53, 54] (by decide +kernel) (by decide +kernel)
set_option maxRecDepth 20000 in
theorem gX11_timeOf_X11_of : GoodIn wsX11_timeOf (wsV RX11 62 RX11 yX11_of wsX11_of) := goodIn_app (goodIn_of _ (by decide +kernel)) ggX11_timeOf_X11_of
set_option maxRecDepth 20000 in
theorem ggX11_timeOf_X11_gunOf : GoodIn wsX11_timeOf wsX11_gunOf := goodIn_r _ [10, 6, 39, 40, 41, 42, 43, 44, 45, 46, 47, 48, 49, 50, 51, 52, 53, 54] (by decide +kernel) (by decide +kernel)
set_option maxRecDepth 20000 in
theorem gX11_timeOf_X11_gunOf : GoodIn wsX11_timeOf (wsV RX11 79 RX11 yX11_gunOf wsX11_gunOf) := goodIn_app (goodIn_of _ (by decide +kernel)) ggX11_timeOf_X11_gunOf
set_option maxRecDepth 20000 in
theorem ggX11_timeOf_X11_startOf : GoodIn wsX11_timeOf wsX11_startOf := goodIn_r _ [14, 15, 16, 17, 4, 18, 1, 2, 3, 5, 6, 7, 8, 9, 10, 39, 40, 41, 42, 43, 44, 45, 46, 47, 48, 49, 50, 51, 52, 53, 54] (by decide +kernel) (by decide +kernel)
set_option maxRecDepth 20000 in
theorem gX11_timeOf_X11_startOf : GoodIn wsX11_timeOf (wsV RX11 83 RX11 yX11_startOf wsX11_startOf) := goodIn_app (goodIn_of _ (by decide +kernel)) ggX11_timeOf_X11_startOf
set_option maxRecDepth 20000 in
theorem ggX11_timeOf_X11_timeFrom : GoodIn wsX11_timeOf wsX11_timeFrom := goodIn_r _ [22, 23, 24, 25, 4, 26, 1, 2, 3, 5, 6, 27, 28, 29, 30, 31, 32, 33, 34, 35, 36, 37, 38, 15, 16, 17, 18, 11, 12, 13, 14, 7, 8, 9, 10, 39, 40, 41, 42, 43, 44, 45, 46, 47, 48, 49, 50, 51, 52, 53, 54] (by decide +kernel) (by decide +kernel)
set_option maxRecDepth 20000 in
theorem gX11_timeOf_X11_timeFrom : GoodIn wsX11_timeOf (wsV RX11 92 RX11 yX11_timeFrom wsX11_timeFrom) := goodIn_app (goodIn_of _ (by decide +kernel)) ggX11_timeOf_X11_timeFrom
def fX11_timeOf (N : Nat) (t_now : Nat → Int32) (x1 : Int32) (x2 : Int32) : Option (Int32) := (if x2 = 0 then ((fX11_startOf t_now x1).bind (fun r2 => ((fX11_timeFrom N t_now x1 r2).bind (fun r4 => some (r4))))) else ((fX11_of t_now x1 (5 : Int32)).bind (fun r6 => ((fX11_gunOf t_now r6).bind (fun r8 => ((fX11_timeFrom N t_now x1 r8).bind (fun r10 => some (r10))))))))
set_option maxHeartbeats 4000000 in
set_option maxRecDepth 100000 in
theorem mX11_timeOf (l : Launch) (D : va_G) (cB cI cZ : ClassId) (a_t : Nat) (a_t_now : Nat) (a_t_kept : Nat) (a_t_text : Nat) (a_t_passing : Nat) (a_t_order : Nat) (a_t_times : Nat) (t_thrown : Int32) (t_isKept : Int32) (t_length : Int32) (t_at : Int32) (t_fault : Int32) (t_open : Int32) (t_asked : Int32) (t_byGun : Int32) (t_prizeMost : Int32) (t_listed : Int32) (t_now : Nat → Int32) (sz : Nat) (x1 : Int32) (x2 : Int32) (N : Nat) (r0 : Int32) (h : fX11_timeOf N t_now x1 x2 = some (r0)) : Met l yX11_timeOf wsX11_timeOf ({ frames := 5, cells := 0, slots := 0, locals := 111 } : Room) (va_Pc [.ref a_t, .int x1, .int x2] (zPre D (zT cB cI cZ) [(a_t, .inr (11, [.int t_thrown, .ref a_t_now, .ref a_t_kept, .int t_isKept, .ref a_t_text, .int t_length, .ref a_t_passing, .int t_at, .int t_fault, .int t_open, .int t_asked, .int t_byGun, .int t_prizeMost, .ref a_t_order, .ref a_t_times, .int t_listed])), (a_t_now, .inl (cI, 1562, .inl t_now))] sz)) (zQi r0 D (zT cB cI cZ) [(a_t, .inr (11, [.int t_thrown, .ref a_t_now, .ref a_t_kept, .int t_isKept, .ref a_t_text, .int t_length, .ref a_t_passing, .int t_at, .int t_fault, .int t_open, .int t_asked, .int t_byGun, .int t_prizeMost, .ref a_t_order, .ref a_t_times, .int t_listed])), (a_t_now, .inl (cI, 1562, .inl t_now))] (va_A [(a_t, .inr (11, [.int t_thrown, .ref a_t_now, .ref a_t_kept, .int t_isKept, .ref a_t_text, .int t_length, .ref a_t_passing, .int t_at, .int t_fault, .int t_open, .int t_asked, .int t_byGun, .int t_prizeMost, .ref a_t_order, .ref a_t_times, .int t_listed])), (a_t_now, .inl (cI, 1562, .inl t_now))] sz)) 0 0 (va_A [(a_t, .inr (11, [.int t_thrown, .ref a_t_now, .ref a_t_kept, .int t_isKept, .ref a_t_text, .int t_length, .ref a_t_passing, .int t_at, .int t_fault, .int t_open, .int t_asked, .int t_byGun, .int t_prizeMost, .ref a_t_order, .ref a_t_times, .int t_listed])), (a_t_now, .inl (cI, 1562, .inl t_now))] sz) := by
  refine Met.ofW (cc := cX11_timeOf) (maxL := 3) (ret := (some .int)) (by decide) rfl ?_
  intro p e s m args below meth c s₁ B hml hv
  obtain ⟨rfl, hsz, hP, hK, hN, hZ, hD0⟩ := hv
  have hx := B.exec
  have hb := B.bytes
  have hr := B.returns
  have hts := atoms_spec (ws := wsX11_timeOf) B.pre
  have hown : s.vm.findClass RX11 = some m.cls := findClass_of_methodNamed B.named
  have hlocks := B.notSynchronized
  subst hsz
  have hD := hD0.self (sz := s.heap.size)
  generalize hAe : va_A [(a_t, .inr (11, [.int t_thrown, .ref a_t_now, .ref a_t_kept, .int t_isKept, .ref a_t_text, .int t_length, .ref a_t_passing, .int t_at, .int t_fault, .int t_open, .int t_asked, .int t_byGun, .int t_prizeMost, .ref a_t_order, .ref a_t_times, .int t_listed])), (a_t_now, .inl (cI, 1562, .inl t_now))] s.heap.size = A at hD hZ ⊢
  have hA : ∀ q : Nat, s.heap.size ≤ q → A q := fun q h => by rw [← hAe]; exact Or.inr h
  have hS : va_S A s.heap s.heap [] := va_S.rf
  have hl := lv_entry ([.ref a_t, .int x1, .int x2]) (n := 3) (Nat.le_of_ble_eq_true rfl)
  rw [lg_entry_eq]
  generalize (lg_sl ([.ref a_t, .int x1, .int x2]) ++ List.replicate (3 - (lg_sl ([.ref a_t, .int x1, .int x2])).length) Slot.unset).toArray = ls at hl ⊢
  have hl : lv_has ls 3 [(0, .ref a_t), (1, .int x1), (2, .int x2)] := hl
  unfold fX11_timeOf at h
  refine lv_aload_n hx hb dX11_timeOf_0 rfl (lv_at hl 0 rfl) ?_
  refine lv_iload_n hx hb dX11_timeOf_1 rfl (lv_at hl 1 rfl) ?_
  refine lv_iload_n hx hb dX11_timeOf_2 rfl (lv_at hl 2 rfl) ?_
  refine lv_if_eq (tgt := 19) hx hb dX11_timeOf_3 (by decide) (fun c1 => ?_) (fun c1 => ?_)
  · have h := zz_t h c1
    refine lv_aload_n hx hb dX11_timeOf_19 rfl (lv_at hl 0 rfl) ?_
    refine lv_iload_n hx hb dX11_timeOf_20 rfl (lv_at hl 1 rfl) ?_
    obtain ⟨r2, e3, h⟩ := zz_b h
    refine zVi (As := [.int x1]) (rest := [.int x1, .ref a_t]) (C := RX11) (wr := []) [0, 1] [] 0 ⟨hx, hb, hml, hown, hts⟩ (mX11_startOf l D cB cI cZ a_t a_t_now a_t_kept a_t_text a_t_passing a_t_order a_t_times t_thrown t_isKept t_length t_at t_fault t_open t_asked t_byGun t_prizeMost t_listed t_now s.heap.size x1 r2 e3) (cwV 1 hts gX11_timeOf_X11_startOf rfl rfl rfl (by decide +kernel) ⟨Nat.le_of_ble_eq_true rfl, Nat.le_of_ble_eq_true rfl⟩) hK hN hZ hP hD hS hA rfl rfl rfl rfl rfl rfl rfl rfl hl.1 rfl (lv_room (Nat.le_of_ble_eq_true rfl)) dX11_timeOf_21 ⟨Nat.le_of_ble_eq_true rfl, Nat.le_of_ble_eq_true rfl⟩ (fun H locs hP hD hS => ?_)
    have hP : va_P D vwCl [(a_t, .inr (11, [.int t_thrown, .ref a_t_now, .ref a_t_kept, .int t_isKept, .ref a_t_text, .int t_length, .ref a_t_passing, .int t_at, .int t_fault, .int t_open, .int t_asked, .int t_byGun, .int t_prizeMost, .ref a_t_order, .ref a_t_times, .int t_listed])), (a_t_now, .inl (cI, 1562, .inl t_now))] H := hP
    have hD : va_D A [(a_t, .inr (11, [.int t_thrown, .ref a_t_now, .ref a_t_kept, .int t_isKept, .ref a_t_text, .int t_length, .ref a_t_passing, .int t_at, .int t_fault, .int t_open, .int t_asked, .int t_byGun, .int t_prizeMost, .ref a_t_order, .ref a_t_times, .int t_listed])), (a_t_now, .inl (cI, 1562, .inl t_now))] := hD
    obtain ⟨r4, e5, h⟩ := zz_b h
    refine zVi (As := [.int x1, .int r2]) (rest := []) (C := RX11) (wr := []) [0, 1] [] 0 ⟨hx, hb, hml, hown, hts⟩ (mX11_timeFrom l D cB cI cZ a_t a_t_now a_t_kept a_t_text a_t_passing a_t_order a_t_times t_thrown t_isKept t_length t_at t_fault t_open t_asked t_byGun t_prizeMost t_listed t_now H.size x1 r2 N r4 e5) (cwV 2 hts gX11_timeOf_X11_timeFrom rfl rfl rfl (by decide +kernel) ⟨Nat.le_of_ble_eq_true rfl, Nat.le_of_ble_eq_true rfl⟩) hK hN hZ hP hD hS hA rfl rfl rfl rfl rfl rfl rfl rfl hl.1 rfl (lv_room (Nat.le_of_ble_eq_true rfl)) dX11_timeOf_24 ⟨Nat.le_of_ble_eq_true rfl, Nat.le_of_ble_eq_true rfl⟩ (fun H locs hP hD hS => ?_)
    have hP : va_P D vwCl [(a_t, .inr (11, [.int t_thrown, .ref a_t_now, .ref a_t_kept, .int t_isKept, .ref a_t_text, .int t_length, .ref a_t_passing, .int t_at, .int t_fault, .int t_open, .int t_asked, .int t_byGun, .int t_prizeMost, .ref a_t_order, .ref a_t_times, .int t_listed])), (a_t_now, .inl (cI, 1562, .inl t_now))] H := hP
    have hD : va_D A [(a_t, .inr (11, [.int t_thrown, .ref a_t_now, .ref a_t_kept, .int t_isKept, .ref a_t_text, .int t_length, .ref a_t_passing, .int t_at, .int t_fault, .int t_open, .int t_asked, .int t_byGun, .int t_prizeMost, .ref a_t_order, .ref a_t_times, .int t_listed])), (a_t_now, .inl (cI, 1562, .inl t_now))] := hD
    have j0_ := Option.some.inj h
    subst j0_
    exact W.iret (v := r4) hx hb hr (fun t ht hW => ⟨⟨_, (), rfl, rfl, zPost.of hP hD hK ht hW [0, 1] rfl rfl rfl⟩, hS.F ht⟩) hS.2.2 dX11_timeOf_27
  · have h := zz_f h c1
    refine lv_aload_n hx hb dX11_timeOf_6 rfl (lv_at hl 0 rfl) ?_
    refine lv_aload_n hx hb dX11_timeOf_7 rfl (lv_at hl 0 rfl) ?_
    refine lv_iload_n hx hb dX11_timeOf_8 rfl (lv_at hl 1 rfl) ?_
    refine lv_iconst (v := (5 : Int32)) hx hb dX11_timeOf_9 rfl ?_
    obtain ⟨r6, e7, h⟩ := zz_b h
    refine zVi (As := [.int x1, .int (5 : Int32)]) (rest := [.ref a_t, .int x1, .ref a_t]) (C := RX11) (wr := []) [0, 1] [] 0 ⟨hx, hb, hml, hown, hts⟩ (mX11_of l D cB cI cZ a_t a_t_now a_t_kept a_t_text a_t_passing a_t_order a_t_times t_thrown t_isKept t_length t_at t_fault t_open t_asked t_byGun t_prizeMost t_listed t_now s.heap.size x1 (5 : Int32) r6 e7) (cwV 2 hts gX11_timeOf_X11_of rfl rfl rfl (by decide +kernel) ⟨Nat.le_of_ble_eq_true rfl, Nat.le_of_ble_eq_true rfl⟩) hK hN hZ hP hD hS hA rfl rfl rfl rfl rfl rfl rfl rfl hl.1 rfl (lv_room (Nat.le_of_ble_eq_true rfl)) dX11_timeOf_10 ⟨Nat.le_of_ble_eq_true rfl, Nat.le_of_ble_eq_true rfl⟩ (fun H locs hP hD hS => ?_)
    have hP : va_P D vwCl [(a_t, .inr (11, [.int t_thrown, .ref a_t_now, .ref a_t_kept, .int t_isKept, .ref a_t_text, .int t_length, .ref a_t_passing, .int t_at, .int t_fault, .int t_open, .int t_asked, .int t_byGun, .int t_prizeMost, .ref a_t_order, .ref a_t_times, .int t_listed])), (a_t_now, .inl (cI, 1562, .inl t_now))] H := hP
    have hD : va_D A [(a_t, .inr (11, [.int t_thrown, .ref a_t_now, .ref a_t_kept, .int t_isKept, .ref a_t_text, .int t_length, .ref a_t_passing, .int t_at, .int t_fault, .int t_open, .int t_asked, .int t_byGun, .int t_prizeMost, .ref a_t_order, .ref a_t_times, .int t_listed])), (a_t_now, .inl (cI, 1562, .inl t_now))] := hD
    obtain ⟨r8, e9, h⟩ := zz_b h
    refine zVi (As := [.int r6]) (rest := [.int x1, .ref a_t]) (C := RX11) (wr := []) [0, 1] [] 0 ⟨hx, hb, hml, hown, hts⟩ (mX11_gunOf l D cB cI cZ a_t a_t_now a_t_kept a_t_text a_t_passing a_t_order a_t_times t_thrown t_isKept t_length t_at t_fault t_open t_asked t_byGun t_prizeMost t_listed t_now H.size r6 r8 e9) (cwV 1 hts gX11_timeOf_X11_gunOf rfl rfl rfl (by decide +kernel) ⟨Nat.le_of_ble_eq_true rfl, Nat.le_of_ble_eq_true rfl⟩) hK hN hZ hP hD hS hA rfl rfl rfl rfl rfl rfl rfl rfl hl.1 rfl (lv_room (Nat.le_of_ble_eq_true rfl)) dX11_timeOf_13 ⟨Nat.le_of_ble_eq_true rfl, Nat.le_of_ble_eq_true rfl⟩ (fun H locs hP hD hS => ?_)
    have hP : va_P D vwCl [(a_t, .inr (11, [.int t_thrown, .ref a_t_now, .ref a_t_kept, .int t_isKept, .ref a_t_text, .int t_length, .ref a_t_passing, .int t_at, .int t_fault, .int t_open, .int t_asked, .int t_byGun, .int t_prizeMost, .ref a_t_order, .ref a_t_times, .int t_listed])), (a_t_now, .inl (cI, 1562, .inl t_now))] H := hP
    have hD : va_D A [(a_t, .inr (11, [.int t_thrown, .ref a_t_now, .ref a_t_kept, .int t_isKept, .ref a_t_text, .int t_length, .ref a_t_passing, .int t_at, .int t_fault, .int t_open, .int t_asked, .int t_byGun, .int t_prizeMost, .ref a_t_order, .ref a_t_times, .int t_listed])), (a_t_now, .inl (cI, 1562, .inl t_now))] := hD
    refine lv_goto (tgt := 24) hx hb dX11_timeOf_16 (by decide) ?_
    obtain ⟨r10, e11, h⟩ := zz_b h
    refine zVi (As := [.int x1, .int r8]) (rest := []) (C := RX11) (wr := []) [0, 1] [] 0 ⟨hx, hb, hml, hown, hts⟩ (mX11_timeFrom l D cB cI cZ a_t a_t_now a_t_kept a_t_text a_t_passing a_t_order a_t_times t_thrown t_isKept t_length t_at t_fault t_open t_asked t_byGun t_prizeMost t_listed t_now H.size x1 r8 N r10 e11) (cwV 2 hts gX11_timeOf_X11_timeFrom rfl rfl rfl (by decide +kernel) ⟨Nat.le_of_ble_eq_true rfl, Nat.le_of_ble_eq_true rfl⟩) hK hN hZ hP hD hS hA rfl rfl rfl rfl rfl rfl rfl rfl hl.1 rfl (lv_room (Nat.le_of_ble_eq_true rfl)) dX11_timeOf_24 ⟨Nat.le_of_ble_eq_true rfl, Nat.le_of_ble_eq_true rfl⟩ (fun H locs hP hD hS => ?_)
    have hP : va_P D vwCl [(a_t, .inr (11, [.int t_thrown, .ref a_t_now, .ref a_t_kept, .int t_isKept, .ref a_t_text, .int t_length, .ref a_t_passing, .int t_at, .int t_fault, .int t_open, .int t_asked, .int t_byGun, .int t_prizeMost, .ref a_t_order, .ref a_t_times, .int t_listed])), (a_t_now, .inl (cI, 1562, .inl t_now))] H := hP
    have hD : va_D A [(a_t, .inr (11, [.int t_thrown, .ref a_t_now, .ref a_t_kept, .int t_isKept, .ref a_t_text, .int t_length, .ref a_t_passing, .int t_at, .int t_fault, .int t_open, .int t_asked, .int t_byGun, .int t_prizeMost, .ref a_t_order, .ref a_t_times, .int t_listed])), (a_t_now, .inl (cI, 1562, .inl t_now))] := hD
    have j0_ := Option.some.inj h
    subst j0_
    exact W.iret (v := r10) hx hb hr (fun t ht hW => ⟨⟨_, (), rfl, rfl, zPost.of hP hD hK ht hW [0, 1] rfl rfl rfl⟩, hS.F ht⟩) hS.2.2 dX11_timeOf_27
/-! RunDeskModel.wayLength -/
theorem dX11_wayLength_0 : decode cX11_wayLength 0 = .ok (.aload_n 0, 1) := by decide +kernel
theorem dX11_wayLength_1 : decode cX11_wayLength 1 = .ok (.aload_n 0, 1) := by decide +kernel
theorem dX11_wayLength_2 : decode cX11_wayLength 2 = .ok (.invokevirtual 41, 3) := by decide +kernel
theorem dX11_wayLength_5 : decode cX11_wayLength 5 = .ok (.iconst 1, 1) := by decide +kernel
theorem dX11_wayLength_6 : decode cX11_wayLength 6 = .ok (.isub, 1) := by decide +kernel
theorem dX11_wayLength_7 : decode cX11_wayLength 7 = .ok (.iconst 0, 1) := by decide +kernel
theorem dX11_wayLength_8 : decode cX11_wayLength 8 = .ok (.invokevirtual 56, 3) := by decide +kernel
theorem dX11_wayLength_11 : decode cX11_wayLength 11 = .ok (.ireturn, 1) := by decide +kernel
set_option maxRecDepth 20000 in
theorem ggX11_wayLength_X11_mats : GoodIn wsX11_wayLength wsX11_mats := goodIn_r _ [5, 6, 11, 12, 13, 14, 15, 16, 17, 18, 19, 20, 21, 22, 23, 24, 25, 26] (by decide +kernel) (by decide +kernel)
set_option maxRecDepth 20000 in
theorem gX11_wayLength_X11_mats : GoodIn wsX11_wayLength (wsV RX11 41 RX11 yX11_mats wsX11_mats) := goodIn_app (goodIn_of _ (by decide +kernel)) ggX11_wayLength_X11_mats
set_option maxRecDepth 20000 in
theorem ggX11_wayLength_X11_ofMat : GoodIn wsX11_wayLength wsX11_ofMat := goodIn_r _ [10, 6, 11, 12, 13, 14, 15, 16, 17, 18, 19, 20, 21, 22, 23, 24, 25, 26] (by decide +kernel) (by decide +kernel)
set_option maxRecDepth 20000 in
theorem gX11_wayLength_X11_ofMat : GoodIn wsX11_wayLength (wsV RX11 56 RX11 yX11_ofMat wsX11_ofMat) := goodIn_app (goodIn_of _ (by decide +kernel)) ggX11_wayLength_X11_ofMat
def fX11_wayLength (t_now : Nat → Int32) : Option (Int32) := ((fX11_mats t_now).bind (fun r1 => ((fX11_ofMat t_now (r1 - (1 : Int32)) (0 : Int32)).bind (fun r3 => some (r3)))))
set_option maxHeartbeats 4000000 in
set_option maxRecDepth 100000 in
theorem mX11_wayLength (l : Launch) (D : va_G) (cB cI cZ : ClassId) (a_t : Nat) (a_t_now : Nat) (a_t_kept : Nat) (a_t_text : Nat) (a_t_passing : Nat) (a_t_order : Nat) (a_t_times : Nat) (t_thrown : Int32) (t_isKept : Int32) (t_length : Int32) (t_at : Int32) (t_fault : Int32) (t_open : Int32) (t_asked : Int32) (t_byGun : Int32) (t_prizeMost : Int32) (t_listed : Int32) (t_now : Nat → Int32) (sz : Nat) (r0 : Int32) (h : fX11_wayLength t_now = some (r0)) : Met l yX11_wayLength wsX11_wayLength ({ frames := 1, cells := 0, slots := 0, locals := 22 } : Room) (va_Pc [.ref a_t] (zPre D (zT cB cI cZ) [(a_t, .inr (11, [.int t_thrown, .ref a_t_now, .ref a_t_kept, .int t_isKept, .ref a_t_text, .int t_length, .ref a_t_passing, .int t_at, .int t_fault, .int t_open, .int t_asked, .int t_byGun, .int t_prizeMost, .ref a_t_order, .ref a_t_times, .int t_listed])), (a_t_now, .inl (cI, 1562, .inl t_now))] sz)) (zQi r0 D (zT cB cI cZ) [(a_t, .inr (11, [.int t_thrown, .ref a_t_now, .ref a_t_kept, .int t_isKept, .ref a_t_text, .int t_length, .ref a_t_passing, .int t_at, .int t_fault, .int t_open, .int t_asked, .int t_byGun, .int t_prizeMost, .ref a_t_order, .ref a_t_times, .int t_listed])), (a_t_now, .inl (cI, 1562, .inl t_now))] (va_A [(a_t, .inr (11, [.int t_thrown, .ref a_t_now, .ref a_t_kept, .int t_isKept, .ref a_t_text, .int t_length, .ref a_t_passing, .int t_at, .int t_fault, .int t_open, .int t_asked, .int t_byGun, .int t_prizeMost, .ref a_t_order, .ref a_t_times, .int t_listed])), (a_t_now, .inl (cI, 1562, .inl t_now))] sz)) 0 0 (va_A [(a_t, .inr (11, [.int t_thrown, .ref a_t_now, .ref a_t_kept, .int t_isKept, .ref a_t_text, .int t_length, .ref a_t_passing, .int t_at, .int t_fault, .int t_open, .int t_asked, .int t_byGun, .int t_prizeMost, .ref a_t_order, .ref a_t_times, .int t_listed])), (a_t_now, .inl (cI, 1562, .inl t_now))] sz) := by
  refine Met.ofW (cc := cX11_wayLength) (maxL := 1) (ret := (some .int)) (by decide) rfl ?_
  intro p e s m args below meth c s₁ B hml hv
  obtain ⟨rfl, hsz, hP, hK, hN, hZ, hD0⟩ := hv
  have hx := B.exec
  have hb := B.bytes
  have hr := B.returns
  have hts := atoms_spec (ws := wsX11_wayLength) B.pre
  have hown : s.vm.findClass RX11 = some m.cls := findClass_of_methodNamed B.named
  have hlocks := B.notSynchronized
  subst hsz
  have hD := hD0.self (sz := s.heap.size)
  generalize hAe : va_A [(a_t, .inr (11, [.int t_thrown, .ref a_t_now, .ref a_t_kept, .int t_isKept, .ref a_t_text, .int t_length, .ref a_t_passing, .int t_at, .int t_fault, .int t_open, .int t_asked, .int t_byGun, .int t_prizeMost, .ref a_t_order, .ref a_t_times, .int t_listed])), (a_t_now, .inl (cI, 1562, .inl t_now))] s.heap.size = A at hD hZ ⊢
  have hA : ∀ q : Nat, s.heap.size ≤ q → A q := fun q h => by rw [← hAe]; exact Or.inr h
  have hS : va_S A s.heap s.heap [] := va_S.rf
  have hl := lv_entry ([.ref a_t]) (n := 1) (Nat.le_of_ble_eq_true rfl)
  rw [lg_entry_eq]
  generalize (lg_sl ([.ref a_t]) ++ List.replicate (1 - (lg_sl ([.ref a_t])).length) Slot.unset).toArray = ls at hl ⊢
  have hl : lv_has ls 1 [(0, .ref a_t)] := hl
  unfold fX11_wayLength at h
  refine lv_aload_n hx hb dX11_wayLength_0 rfl (lv_at hl 0 rfl) ?_
  refine lv_aload_n hx hb dX11_wayLength_1 rfl (lv_at hl 0 rfl) ?_
  obtain ⟨r1, e2, h⟩ := zz_b h
  refine zVi (As := []) (rest := [.ref a_t]) (C := RX11) (wr := []) [0, 1] [] 0 ⟨hx, hb, hml, hown, hts⟩ (mX11_mats l D cB cI cZ a_t a_t_now a_t_kept a_t_text a_t_passing a_t_order a_t_times t_thrown t_isKept t_length t_at t_fault t_open t_asked t_byGun t_prizeMost t_listed t_now s.heap.size r1 e2) (cwV 0 hts gX11_wayLength_X11_mats rfl rfl rfl (by decide +kernel) ⟨Nat.le_of_ble_eq_true rfl, Nat.le_of_ble_eq_true rfl⟩) hK hN hZ hP hD hS hA rfl rfl rfl rfl rfl rfl rfl rfl hl.1 rfl (lv_room (Nat.le_of_ble_eq_true rfl)) dX11_wayLength_2 ⟨Nat.le_of_ble_eq_true rfl, Nat.le_of_ble_eq_true rfl⟩ (fun H locs hP hD hS => ?_)
  have hP : va_P D vwCl [(a_t, .inr (11, [.int t_thrown, .ref a_t_now, .ref a_t_kept, .int t_isKept, .ref a_t_text, .int t_length, .ref a_t_passing, .int t_at, .int t_fault, .int t_open, .int t_asked, .int t_byGun, .int t_prizeMost, .ref a_t_order, .ref a_t_times, .int t_listed])), (a_t_now, .inl (cI, 1562, .inl t_now))] H := hP
  have hD : va_D A [(a_t, .inr (11, [.int t_thrown, .ref a_t_now, .ref a_t_kept, .int t_isKept, .ref a_t_text, .int t_length, .ref a_t_passing, .int t_at, .int t_fault, .int t_open, .int t_asked, .int t_byGun, .int t_prizeMost, .ref a_t_order, .ref a_t_times, .int t_listed])), (a_t_now, .inl (cI, 1562, .inl t_now))] := hD
  refine lv_iconst (v := (1 : Int32)) hx hb dX11_wayLength_5 rfl ?_
  refine lv_isub hx hb dX11_wayLength_6 ?_
  refine lv_iconst (v := (0 : Int32)) hx hb dX11_wayLength_7 rfl ?_
  obtain ⟨r3, e4, h⟩ := zz_b h
  refine zVi (As := [.int (r1 - (1 : Int32)), .int (0 : Int32)]) (rest := []) (C := RX11) (wr := []) [0, 1] [] 0 ⟨hx, hb, hml, hown, hts⟩ (mX11_ofMat l D cB cI cZ a_t a_t_now a_t_kept a_t_text a_t_passing a_t_order a_t_times t_thrown t_isKept t_length t_at t_fault t_open t_asked t_byGun t_prizeMost t_listed t_now H.size (r1 - (1 : Int32)) (0 : Int32) r3 e4) (cwV 2 hts gX11_wayLength_X11_ofMat rfl rfl rfl (by decide +kernel) ⟨Nat.le_of_ble_eq_true rfl, Nat.le_of_ble_eq_true rfl⟩) hK hN hZ hP hD hS hA rfl rfl rfl rfl rfl rfl rfl rfl hl.1 rfl (lv_room (Nat.le_of_ble_eq_true rfl)) dX11_wayLength_8 ⟨Nat.le_of_ble_eq_true rfl, Nat.le_of_ble_eq_true rfl⟩ (fun H locs hP hD hS => ?_)
  have hP : va_P D vwCl [(a_t, .inr (11, [.int t_thrown, .ref a_t_now, .ref a_t_kept, .int t_isKept, .ref a_t_text, .int t_length, .ref a_t_passing, .int t_at, .int t_fault, .int t_open, .int t_asked, .int t_byGun, .int t_prizeMost, .ref a_t_order, .ref a_t_times, .int t_listed])), (a_t_now, .inl (cI, 1562, .inl t_now))] H := hP
  have hD : va_D A [(a_t, .inr (11, [.int t_thrown, .ref a_t_now, .ref a_t_kept, .int t_isKept, .ref a_t_text, .int t_length, .ref a_t_passing, .int t_at, .int t_fault, .int t_open, .int t_asked, .int t_byGun, .int t_prizeMost, .ref a_t_order, .ref a_t_times, .int t_listed])), (a_t_now, .inl (cI, 1562, .inl t_now))] := hD
  have j0_ := Option.some.inj h
  subst j0_
  exact W.iret (v := r3) hx hb hr (fun t ht hW => ⟨⟨_, (), rfl, rfl, zPost.of hP hD hK ht hW [0, 1] rfl rfl rfl⟩, hS.F ht⟩) hS.2.2 dX11_wayLength_11
/-! RunDeskModel.made -/
theorem dX11_made_0 : decode cX11_made 0 = .ok (.iload_n 0, 1) := by decide +kernel
theorem dX11_made_1 : decode cX11_made 1 = .ok (.i2l, 1) := by decide +kernel
theorem dX11_made_2 : decode cX11_made 2 = .ok (.iload_n 1, 1) := by decide +kernel
theorem dX11_made_3 : decode cX11_made 3 = .ok (.i2l, 1) := by decide +kernel
theorem dX11_made_4 : decode cX11_made 4 = .ok (.lmul, 1) := by decide +kernel
theorem dX11_made_5 : decode cX11_made 5 = .ok (.ldc2_w 108, 3) := by decide +kernel
theorem dX11_made_8 : decode cX11_made 8 = .ok (.ldiv, 1) := by decide +kernel
theorem dX11_made_9 : decode cX11_made 9 = .ok (.l2i, 1) := by decide +kernel
theorem dX11_made_10 : decode cX11_made 10 = .ok (.ireturn, 1) := by decide +kernel
def fX11_made (x1 : Int32) (x2 : Int32) : Option (Int32) := some (((((x1).toInt64 * (x2).toInt64) / (1000 : Int64))).toInt32)
theorem kX11_made_0 : (.constantLong RX11 108 (1000) : Cond) ∈ wsX11_made := List.mem_of_getElem? (i := 1) (by decide +kernel)
set_option maxHeartbeats 4000000 in
set_option maxRecDepth 100000 in
theorem mX11_made (l : Launch) (D : va_G) (cB cI cZ : ClassId) (sz : Nat) (x1 : Int32) (x2 : Int32) (r0 : Int32) (h : fX11_made x1 x2 = some (r0)) : Met l yX11_made wsX11_made ({ frames := 0, cells := 0, slots := 0, locals := 0 } : Room) (va_Pc [.int x1, .int x2] (zPre D (zT cB cI cZ) [] sz)) (zQi r0 D (zT cB cI cZ) [] (va_A [] sz)) 0 0 (va_A [] sz) := by
  refine Met.ofW (cc := cX11_made) (maxL := 2) (ret := (some .int)) (by decide) rfl ?_
  intro p e s m args below meth c s₁ B hml hv
  obtain ⟨rfl, hsz, hP, hK, hN, hZ, hD0⟩ := hv
  have hx := B.exec
  have hb := B.bytes
  have hr := B.returns
  have hts := atoms_spec (ws := wsX11_made) B.pre
  have hown : s.vm.findClass RX11 = some m.cls := findClass_of_methodNamed B.named
  have hlocks := B.notSynchronized
  subst hsz
  have hD := hD0.self (sz := s.heap.size)
  generalize hAe : va_A [] s.heap.size = A at hD hZ ⊢
  have hA : ∀ q : Nat, s.heap.size ≤ q → A q := fun q h => by rw [← hAe]; exact Or.inr h
  have hS : va_S A s.heap s.heap [] := va_S.rf
  have hl := lv_entry ([.int x1, .int x2]) (n := 2) (Nat.le_of_ble_eq_true rfl)
  rw [lg_entry_eq]
  generalize (lg_sl ([.int x1, .int x2]) ++ List.replicate (2 - (lg_sl ([.int x1, .int x2])).length) Slot.unset).toArray = ls at hl ⊢
  have hl : lv_has ls 2 [(0, .int x1), (1, .int x2)] := hl
  unfold fX11_made at h
  refine lv_iload_n hx hb dX11_made_0 rfl (lv_at hl 0 rfl) ?_
  refine lv_i2l hx hb dX11_made_1 rfl ?_
  refine lv_iload_n hx hb dX11_made_2 rfl (lv_at hl 1 rfl) ?_
  refine lv_i2l hx hb dX11_made_3 rfl ?_
  refine lv_lmul hx hb dX11_made_4 ?_
  refine lv_ldc2 (v := (1000 : Int64)) hx hb hown (hts _ kX11_made_0) dX11_made_5 ?_
  refine lv_ldiv hx hb dX11_made_8 (by decide) ?_
  refine lv_l2i hx hb dX11_made_9 rfl ?_
  have j0_ := Option.some.inj h
  subst j0_
  exact W.iret (v := ((((x1).toInt64 * (x2).toInt64) / (1000 : Int64))).toInt32) hx hb hr (fun t ht hW => ⟨⟨_, (), rfl, rfl, zPost.of hP hD hK ht hW [] rfl rfl rfl⟩, hS.F ht⟩) hS.2.2 dX11_made_10
/-! RunDeskModel.told -/
theorem dX11_told_0 : decode cX11_told 0 = .ok (.aload_n 0, 1) := by decide +kernel
theorem dX11_told_1 : decode cX11_told 1 = .ok (.iload_n 1, 1) := by decide +kernel
theorem dX11_told_2 : decode cX11_told 2 = .ok (.invokevirtual 65, 3) := by decide +kernel
theorem dX11_told_5 : decode cX11_told 5 = .ok (.ifCond .ne 5, 3) := by decide +kernel
theorem dX11_told_8 : decode cX11_told 8 = .ok (.iconst (-1), 1) := by decide +kernel
theorem dX11_told_9 : decode cX11_told 9 = .ok (.ireturn, 1) := by decide +kernel
theorem dX11_told_10 : decode cX11_told 10 = .ok (.iload_n 2, 1) := by decide +kernel
theorem dX11_told_11 : decode cX11_told 11 = .ok (.tableswitch 220 0 13 #[69, 69, 69, 69, 69, 69, 76, 82, 88, 124, 131, 138, 167, 212], 69) := by decide +kernel
theorem dX11_told_80 : decode cX11_told 80 = .ok (.aload_n 0, 1) := by decide +kernel
theorem dX11_told_81 : decode cX11_told 81 = .ok (.iload_n 1, 1) := by decide +kernel
theorem dX11_told_82 : decode cX11_told 82 = .ok (.iload_n 2, 1) := by decide +kernel
theorem dX11_told_83 : decode cX11_told 83 = .ok (.invokevirtual 62, 3) := by decide +kernel
theorem dX11_told_86 : decode cX11_told 86 = .ok (.ireturn, 1) := by decide +kernel
theorem dX11_told_87 : decode cX11_told 87 = .ok (.aload_n 0, 1) := by decide +kernel
theorem dX11_told_88 : decode cX11_told 88 = .ok (.iload_n 1, 1) := by decide +kernel
theorem dX11_told_89 : decode cX11_told 89 = .ok (.invokevirtual 89, 3) := by decide +kernel
theorem dX11_told_92 : decode cX11_told 92 = .ok (.ireturn, 1) := by decide +kernel
theorem dX11_told_93 : decode cX11_told 93 = .ok (.aload_n 0, 1) := by decide +kernel
theorem dX11_told_94 : decode cX11_told 94 = .ok (.iload_n 1, 1) := by decide +kernel
theorem dX11_told_95 : decode cX11_told 95 = .ok (.invokevirtual 83, 3) := by decide +kernel
theorem dX11_told_98 : decode cX11_told 98 = .ok (.ireturn, 1) := by decide +kernel
theorem dX11_told_99 : decode cX11_told 99 = .ok (.iconst (-1), 1) := by decide +kernel
theorem dX11_told_100 : decode cX11_told 100 = .ok (.istore_n 3, 1) := by decide +kernel
theorem dX11_told_101 : decode cX11_told 101 = .ok (.iconst 0, 1) := by decide +kernel
theorem dX11_told_102 : decode cX11_told 102 = .ok (.istore 4, 2) := by decide +kernel
theorem dX11_told_104 : decode cX11_told 104 = .ok (.iload 4, 2) := by decide +kernel
theorem dX11_told_106 : decode cX11_told 106 = .ok (.aload_n 0, 1) := by decide +kernel
theorem dX11_told_107 : decode cX11_told 107 = .ok (.invokevirtual 41, 3) := by decide +kernel
theorem dX11_told_110 : decode cX11_told 110 = .ok (.if_icmp .ge 23, 3) := by decide +kernel
theorem dX11_told_113 : decode cX11_told 113 = .ok (.aload_n 0, 1) := by decide +kernel
theorem dX11_told_114 : decode cX11_told 114 = .ok (.iload_n 1, 1) := by decide +kernel
theorem dX11_told_115 : decode cX11_told 115 = .ok (.iload 4, 2) := by decide +kernel
theorem dX11_told_117 : decode cX11_told 117 = .ok (.invokevirtual 95, 3) := by decide +kernel
theorem dX11_told_120 : decode cX11_told 120 = .ok (.iconst (-1), 1) := by decide +kernel
theorem dX11_told_121 : decode cX11_told 121 = .ok (.if_icmp .eq 6, 3) := by decide +kernel
theorem dX11_told_124 : decode cX11_told 124 = .ok (.iload 4, 2) := by decide +kernel
theorem dX11_told_126 : decode cX11_told 126 = .ok (.istore_n 3, 1) := by decide +kernel
theorem dX11_told_127 : decode cX11_told 127 = .ok (.iinc 4 1, 3) := by decide +kernel
theorem dX11_told_130 : decode cX11_told 130 = .ok (.goto (-26), 3) := by decide +kernel
theorem dX11_told_133 : decode cX11_told 133 = .ok (.iload_n 3, 1) := by decide +kernel
theorem dX11_told_134 : decode cX11_told 134 = .ok (.ireturn, 1) := by decide +kernel
theorem dX11_told_135 : decode cX11_told 135 = .ok (.aload_n 0, 1) := by decide +kernel
theorem dX11_told_136 : decode cX11_told 136 = .ok (.iload_n 1, 1) := by decide +kernel
theorem dX11_told_137 : decode cX11_told 137 = .ok (.iconst 0, 1) := by decide +kernel
theorem dX11_told_138 : decode cX11_told 138 = .ok (.invokevirtual 98, 3) := by decide +kernel
theorem dX11_told_141 : decode cX11_told 141 = .ok (.ireturn, 1) := by decide +kernel
theorem dX11_told_142 : decode cX11_told 142 = .ok (.aload_n 0, 1) := by decide +kernel
theorem dX11_told_143 : decode cX11_told 143 = .ok (.iload_n 1, 1) := by decide +kernel
theorem dX11_told_144 : decode cX11_told 144 = .ok (.iconst 1, 1) := by decide +kernel
theorem dX11_told_145 : decode cX11_told 145 = .ok (.invokevirtual 98, 3) := by decide +kernel
theorem dX11_told_148 : decode cX11_told 148 = .ok (.ireturn, 1) := by decide +kernel
theorem dX11_told_149 : decode cX11_told 149 = .ok (.aload_n 0, 1) := by decide +kernel
theorem dX11_told_150 : decode cX11_told 150 = .ok (.iload_n 1, 1) := by decide +kernel
theorem dX11_told_151 : decode cX11_told 151 = .ok (.invokevirtual 83, 3) := by decide +kernel
theorem dX11_told_154 : decode cX11_told 154 = .ok (.iconst (-1), 1) := by decide +kernel
theorem dX11_told_155 : decode cX11_told 155 = .ok (.if_icmp .eq 21, 3) := by decide +kernel
theorem dX11_told_158 : decode cX11_told 158 = .ok (.aload_n 0, 1) := by decide +kernel
theorem dX11_told_159 : decode cX11_told 159 = .ok (.iload_n 1, 1) := by decide +kernel
theorem dX11_told_160 : decode cX11_told 160 = .ok (.iconst 0, 1) := by decide +kernel
theorem dX11_told_161 : decode cX11_told 161 = .ok (.invokevirtual 76, 3) := by decide +kernel
theorem dX11_told_164 : decode cX11_told 164 = .ok (.iconst (-1), 1) := by decide +kernel
theorem dX11_told_165 : decode cX11_told 165 = .ok (.if_icmp .ne 7, 3) := by decide +kernel
theorem dX11_told_168 : decode cX11_told 168 = .ok (.iconst 1, 1) := by decide +kernel
theorem dX11_told_169 : decode cX11_told 169 = .ok (.goto 8, 3) := by decide +kernel
theorem dX11_told_172 : decode cX11_told 172 = .ok (.iconst 0, 1) := by decide +kernel
theorem dX11_told_173 : decode cX11_told 173 = .ok (.goto 4, 3) := by decide +kernel
theorem dX11_told_176 : decode cX11_told 176 = .ok (.iconst (-1), 1) := by decide +kernel
theorem dX11_told_177 : decode cX11_told 177 = .ok (.ireturn, 1) := by decide +kernel
theorem dX11_told_178 : decode cX11_told 178 = .ok (.aload_n 0, 1) := by decide +kernel
theorem dX11_told_179 : decode cX11_told 179 = .ok (.iload_n 1, 1) := by decide +kernel
theorem dX11_told_180 : decode cX11_told 180 = .ok (.iconst 0, 1) := by decide +kernel
theorem dX11_told_181 : decode cX11_told 181 = .ok (.invokevirtual 62, 3) := by decide +kernel
theorem dX11_told_184 : decode cX11_told 184 = .ok (.iconst 1, 1) := by decide +kernel
theorem dX11_told_185 : decode cX11_told 185 = .ok (.if_icmp .ne 13, 3) := by decide +kernel
theorem dX11_told_188 : decode cX11_told 188 = .ok (.aload_n 0, 1) := by decide +kernel
theorem dX11_told_189 : decode cX11_told 189 = .ok (.iload_n 1, 1) := by decide +kernel
theorem dX11_told_190 : decode cX11_told 190 = .ok (.iconst 0, 1) := by decide +kernel
theorem dX11_told_191 : decode cX11_told 191 = .ok (.invokevirtual 98, 3) := by decide +kernel
theorem dX11_told_194 : decode cX11_told 194 = .ok (.iconst (-1), 1) := by decide +kernel
theorem dX11_told_195 : decode cX11_told 195 = .ok (.if_icmp .ne 7, 3) := by decide +kernel
theorem dX11_told_198 : decode cX11_told 198 = .ok (.iconst (-1), 1) := by decide +kernel
theorem dX11_told_199 : decode cX11_told 199 = .ok (.goto 23, 3) := by decide +kernel
theorem dX11_told_202 : decode cX11_told 202 = .ok (.aload_n 0, 1) := by decide +kernel
theorem dX11_told_203 : decode cX11_told 203 = .ok (.iload_n 1, 1) := by decide +kernel
theorem dX11_told_204 : decode cX11_told 204 = .ok (.iconst 0, 1) := by decide +kernel
theorem dX11_told_205 : decode cX11_told 205 = .ok (.invokevirtual 98, 3) := by decide +kernel
theorem dX11_told_208 : decode cX11_told 208 = .ok (.aload_n 0, 1) := by decide +kernel
theorem dX11_told_209 : decode cX11_told 209 = .ok (.invokevirtual 102, 3) := by decide +kernel
theorem dX11_told_212 : decode cX11_told 212 = .ok (.aload_n 0, 1) := by decide +kernel
theorem dX11_told_213 : decode cX11_told 213 = .ok (.iload_n 1, 1) := by decide +kernel
theorem dX11_told_214 : decode cX11_told 214 = .ok (.iconst 1, 1) := by decide +kernel
theorem dX11_told_215 : decode cX11_told 215 = .ok (.invokevirtual 62, 3) := by decide +kernel
theorem dX11_told_218 : decode cX11_told 218 = .ok (.invokestatic 105, 3) := by decide +kernel
theorem dX11_told_221 : decode cX11_told 221 = .ok (.isub, 1) := by decide +kernel
theorem dX11_told_222 : decode cX11_told 222 = .ok (.ireturn, 1) := by decide +kernel
theorem dX11_told_223 : decode cX11_told 223 = .ok (.aload_n 0, 1) := by decide +kernel
theorem dX11_told_224 : decode cX11_told 224 = .ok (.iload_n 1, 1) := by decide +kernel
theorem dX11_told_225 : decode cX11_told 225 = .ok (.bipush 9, 2) := by decide +kernel
theorem dX11_told_227 : decode cX11_told 227 = .ok (.invokevirtual 62, 3) := by decide +kernel
theorem dX11_told_230 : decode cX11_told 230 = .ok (.ireturn, 1) := by decide +kernel
theorem dX11_told_231 : decode cX11_told 231 = .ok (.iconst (-1), 1) := by decide +kernel
theorem dX11_told_232 : decode cX11_told 232 = .ok (.ireturn, 1) := by decide +kernel
set_option maxRecDepth 20000 in
theorem ggX11_told_X11_isRunner : GoodIn wsX11_told wsX11_isRunner := goodIn_r _ [5, 6, 7, 8, 9, 4, 10, 11, 64, 65, 66, 67, 68, 69, 70, 71, 72, 73, 74, 75, 76, 77, 78, 79] (by decide +kernel) (by decide +kernel)
set_option maxRecDepth 20000 in
theorem gX11_told_X11_isRunner : GoodIn wsX11_told (wsV RX11 65 RX11 yX11_isRunner wsX11_isRunner) := goodIn_app (goodIn_of _ (by decide +kernel)) ggX11_told_X11_isRunner
set_option maxRecDepth 20000 in
theorem ggX11_told_X11_of : GoodIn wsX11_told wsX11_of := goodIn_r _ [15, 11, 64, 65, 66, 67, 68, 69, 70, 71, 72, 73, 74, 75, 76, 77, 78, 79] (by decide +kernel) (by decide +kernel)
set_option maxRecDepth 20000 in
theorem gX11_told_X11_of : GoodIn wsX11_told (wsV RX11 62 RX11 yX11_of wsX11_of) := goodIn_app (goodIn_of _ (by decide +kernel)) ggX11_told_X11_of
set_option maxRecDepth 20000 in
theorem ggX11_told_X11_stateOf : GoodIn wsX11_told wsX11_stateOf := goodIn_r _ [19, 12, 13, 14, 4, 15, 11, 20, 21, 22, 23, 24, 25, 26, 27, 28, 29, 30, 31, 32, 33, 34, 35, 36, 37, 38, 39, 40, 41, 42, 43, 64, 65, 66, 67, 68, 69, 70, 71, 72, 73, 74, 75, 76, 77, 78, 79] (by decide +kernel) (by decide +kernel)
set_option maxRecDepth 20000 in
theorem gX11_told_X11_stateOf : GoodIn wsX11_told (wsV RX11 89 RX11 yX11_stateOf wsX11_stateOf) := goodIn_app (goodIn_of _ (by decide +kernel)) ggX11_told_X11_stateOf
set_option maxRecDepth 20000 in
theorem ggX11_told_X11_startOf : GoodIn wsX11_told wsX11_startOf := goodIn_r _ [39, 32, 33, 34, 4, 35, 12, 13, 14, 15, 11, 40, 41, 42, 43, 64, 65, 66, 67, 68, 69, 70, 71, 72, 73, 74, 75, 76, 77, 78, 79] (by decide +kernel) (by decide +kernel)
set_option maxRecDepth 20000 in
theorem gX11_told_X11_startOf : GoodIn wsX11_told (wsV RX11 83 RX11 yX11_startOf wsX11_startOf) := goodIn_app (goodIn_of _ (by decide +kernel)) ggX11_told_X11_startOf
set_option maxRecDepth 20000 in
theorem ggX11_told_X11_mats : GoodIn wsX11_told wsX11_mats := goodIn_r _ [27, 11, 64, 65, 66, 67, 68, 69, 70, 71, 72, 73, 74, 75, 76, 77, 78, 79] (by decide +kernel) (by decide +kernel)
set_option maxRecDepth 20000 in
theorem gX11_told_X11_mats : GoodIn wsX11_told (wsV RX11 41 RX11 yX11_mats wsX11_mats) := goodIn_app (goodIn_of _ (by decide +kernel)) ggX11_told_X11_mats
set_option maxRecDepth 20000 in
theorem ggX11_told_X11_seen : GoodIn wsX11_told wsX11_seen := goodIn_r _ [47, 36, 37, 38, 4, 39, 32, 33, 34, 35, 12, 13, 14, 15, 11, 40, 41, 42, 43, 64, 65, 66, 67, 68, 69, 70, 71, 72, 73, 74, 75, 76, 77, 78, 79] (by decide +kernel) (by decide +kernel)
set_option maxRecDepth 20000 in
theorem gX11_told_X11_seen : GoodIn wsX11_told (wsV RX11 95 RX11 yX11_seen wsX11_seen) := goodIn_app (goodIn_of _ (by decide +kernel)) ggX11_told_X11_seen
set_option maxRecDepth 20000 in
theorem ggX11_told_X11_timeOf : GoodIn wsX11_told wsX11_timeOf := goodIn_r _ [51, 12, 13, 14, 4, 15, 11, 40, 41, 42, 43, 36, 37, 38, 39, 32, 33, 34, 35, 52, 53, 54, 55, 16, 17, 18, 19, 20, 21, 22, 23, 24, 25, 26, 27, 28, 29, 30, 31, 64, 65, 66, 67, 68, 69, 70, 71, 72, 73, 74, 75, 76, 77, 78, 79] (by decide +kernel) (by decide +kernel)
set_option maxRecDepth 20000 in
theorem gX11_told_X11_timeOf : GoodIn wsX11_told (wsV RX11 98 RX11 yX11_timeOf wsX11_timeOf) := goodIn_app (goodIn_of _ (by decide +kernel)) ggX11_told_X11_timeOf
set_option maxRecDepth 20000 in
theorem ggX11_told_X11_splitOf : GoodIn wsX11_told wsX11_splitOf := goodIn_r _ [35, 12, 13, 14, 4, 15, 11, 64, 65, 66, 67, 68, 69, 70, 71, 72, 73, 74, 75, 76, 77, 78, 79] (by decide +kernel) (by decide +kernel)
set_option maxRecDepth 20000 in
theorem gX11_told_X11_splitOf : GoodIn wsX11_told (wsV RX11 76 RX11 yX11_splitOf wsX11_splitOf) := goodIn_app (goodIn_of _ (by decide +kernel)) ggX11_told_X11_splitOf
set_option maxRecDepth 20000 in
theorem ggX11_told_X11_wayLength : GoodIn wsX11_told wsX11_wayLength := goodIn_r _ [59, 24, 25, 26, 4, 27, 11, 28, 29, 30, 31, 64, 65, 66, 67, 68, 69, 70, 71, 72, 73, 74, 75, 76, 77, 78, 79] (by decide +kernel) (by decide +kernel)
set_option maxRecDepth 20000 in
theorem gX11_told_X11_wayLength : GoodIn wsX11_told (wsV RX11 102 RX11 yX11_wayLength wsX11_wayLength) := goodIn_app (goodIn_of _ (by decide +kernel)) ggX11_told_X11_wayLength
set_option maxRecDepth 20000 in
theorem ggX11_told_X11_made : GoodIn wsX11_told wsX11_made := goodIn_r _ [62, 63] (by decide +kernel) (by decide +kernel)
set_option maxRecDepth 20000 in
theorem gX11_told_X11_made : GoodIn wsX11_told (va_wsS RX11 105 yX11_made wsX11_made) := goodIn_app (goodIn_of _ (by decide +kernel)) ggX11_told_X11_made
def fX11_told_L104 (t_now : Nat → Int32) (x1 : Int32) (K104_133 : Int32 → Int32 → Option (Int32 × Int32)) : Nat → Int32 → Int32 → Option (Int32 × Int32)
  | 0, _, _ => none
  | n104 + 1, v3_104, v4_104 => ((fX11_mats t_now).bind (fun r30 => (if r30 ≤ v4_104 then (K104_133 v3_104 v4_104) else ((fX11_seen t_now x1 v4_104).bind (fun r33 => (if r33 = (-1 : Int32) then (fX11_told_L104 t_now x1 K104_133 n104 v3_104 (v4_104 + (1 : Int32))) else (fX11_told_L104 t_now x1 K104_133 n104 v4_104 (v4_104 + (1 : Int32)))))))))
def fX11_told (N : Nat) (t_thrown : Int32) (t_now : Nat → Int32) (x1 : Int32) (x2 : Int32) : Option (Int32 × Int32) := ((fX11_isRunner t_thrown t_now x1).bind (fun (b1, t_thrown_2) => (if (zb b1) = 0 then some ((-1 : Int32), t_thrown_2) else (if x2 = (0 : Int32) then ((fX11_of t_now x1 x2).bind (fun r6 => some (r6, t_thrown_2))) else (if x2 = (1 : Int32) then ((fX11_of t_now x1 x2).bind (fun r9 => some (r9, t_thrown_2))) else (if x2 = (2 : Int32) then ((fX11_of t_now x1 x2).bind (fun r12 => some (r12, t_thrown_2))) else (if x2 = (3 : Int32) then ((fX11_of t_now x1 x2).bind (fun r15 => some (r15, t_thrown_2))) else (if x2 = (4 : Int32) then ((fX11_of t_now x1 x2).bind (fun r18 => some (r18, t_thrown_2))) else (if x2 = (5 : Int32) then ((fX11_of t_now x1 x2).bind (fun r21 => some (r21, t_thrown_2))) else (if x2 = (6 : Int32) then ((fX11_stateOf N t_now x1).bind (fun r24 => some (r24, t_thrown_2))) else (if x2 = (7 : Int32) then ((fX11_startOf t_now x1).bind (fun r27 => some (r27, t_thrown_2))) else (if x2 = (8 : Int32) then fX11_told_L104 t_now x1 (fun (v3_104 : Int32) (v4_104 : Int32) => some (v3_104, t_thrown_2)) N (-1 : Int32) (0 : Int32) else (if x2 = (9 : Int32) then ((fX11_timeOf N t_now x1 (0 : Int32)).bind (fun r37 => some (r37, t_thrown_2))) else (if x2 = (10 : Int32) then ((fX11_timeOf N t_now x1 (1 : Int32)).bind (fun r40 => some (r40, t_thrown_2))) else (if x2 = (11 : Int32) then ((fX11_startOf t_now x1).bind (fun r43 => (if r43 = (-1 : Int32) then some ((-1 : Int32), t_thrown_2) else ((fX11_splitOf t_now x1 (0 : Int32)).bind (fun r46 => (if r46 = (-1 : Int32) then some ((1 : Int32), t_thrown_2) else some ((0 : Int32), t_thrown_2))))))) else (if x2 = (12 : Int32) then ((fX11_of t_now x1 (0 : Int32)).bind (fun r50 => (if r50 = (1 : Int32) then ((fX11_timeOf N t_now x1 (0 : Int32)).bind (fun r53 => (if r53 = (-1 : Int32) then some ((-1 : Int32), t_thrown_2) else ((fX11_timeOf N t_now x1 (0 : Int32)).bind (fun r56 => ((fX11_wayLength t_now).bind (fun r58 => ((fX11_of t_now x1 (1 : Int32)).bind (fun r60 => ((fX11_made r58 r60).bind (fun r62 => some ((r56 - r62), t_thrown_2)))))))))))) else some ((-1 : Int32), t_thrown_2)))) else (if x2 = (13 : Int32) then ((fX11_of t_now x1 (9 : Int32)).bind (fun r65 => some (r65, t_thrown_2))) else some ((-1 : Int32), t_thrown_2))))))))))))))))))
set_option maxHeartbeats 4000000 in
set_option maxRecDepth 100000 in
theorem mX11_told (l : Launch) (D : va_G) (cB cI cZ : ClassId) (a_t : Nat) (a_t_now : Nat) (a_t_kept : Nat) (a_t_text : Nat) (a_t_passing : Nat) (a_t_order : Nat) (a_t_times : Nat) (t_thrown : Int32) (t_isKept : Int32) (t_length : Int32) (t_at : Int32) (t_fault : Int32) (t_open : Int32) (t_asked : Int32) (t_byGun : Int32) (t_prizeMost : Int32) (t_listed : Int32) (t_now : Nat → Int32) (sz : Nat) (x1 : Int32) (x2 : Int32) (N : Nat) (r0 : Int32) (t_thrown' : Int32) (h : fX11_told N t_thrown t_now x1 x2 = some (r0, t_thrown')) : Met l yX11_told wsX11_told ({ frames := 6, cells := 0, slots := 0, locals := 133 } : Room) (va_Pc [.ref a_t, .int x1, .int x2] (zPre D (zT cB cI cZ) [(a_t, .inr (11, [.int t_thrown, .ref a_t_now, .ref a_t_kept, .int t_isKept, .ref a_t_text, .int t_length, .ref a_t_passing, .int t_at, .int t_fault, .int t_open, .int t_asked, .int t_byGun, .int t_prizeMost, .ref a_t_order, .ref a_t_times, .int t_listed])), (a_t_now, .inl (cI, 1562, .inl t_now))] sz)) (zQi r0 D (zT cB cI cZ) [(a_t, .inr (11, [.int t_thrown', .ref a_t_now, .ref a_t_kept, .int t_isKept, .ref a_t_text, .int t_length, .ref a_t_passing, .int t_at, .int t_fault, .int t_open, .int t_asked, .int t_byGun, .int t_prizeMost, .ref a_t_order, .ref a_t_times, .int t_listed])), (a_t_now, .inl (cI, 1562, .inl t_now))] (va_A [(a_t, .inr (11, [.int t_thrown, .ref a_t_now, .ref a_t_kept, .int t_isKept, .ref a_t_text, .int t_length, .ref a_t_passing, .int t_at, .int t_fault, .int t_open, .int t_asked, .int t_byGun, .int t_prizeMost, .ref a_t_order, .ref a_t_times, .int t_listed])), (a_t_now, .inl (cI, 1562, .inl t_now))] sz)) 0 0 (va_A [(a_t, .inr (11, [.int t_thrown, .ref a_t_now, .ref a_t_kept, .int t_isKept, .ref a_t_text, .int t_length, .ref a_t_passing, .int t_at, .int t_fault, .int t_open, .int t_asked, .int t_byGun, .int t_prizeMost, .ref a_t_order, .ref a_t_times, .int t_listed])), (a_t_now, .inl (cI, 1562, .inl t_now))] sz) := by
  refine Met.ofW (cc := cX11_told) (maxL := 5) (ret := (some .int)) (by decide) rfl ?_
  intro p e s m args below meth c s₁ B hml hv
  obtain ⟨rfl, hsz, hP, hK, hN, hZ, hD0⟩ := hv
  have hx := B.exec
  have hb := B.bytes
  have hr := B.returns
  have hts := atoms_spec (ws := wsX11_told) B.pre
  have hown : s.vm.findClass RX11 = some m.cls := findClass_of_methodNamed B.named
  have hlocks := B.notSynchronized
  subst hsz
  have hD := hD0.self (sz := s.heap.size)
  generalize hAe : va_A [(a_t, .inr (11, [.int t_thrown, .ref a_t_now, .ref a_t_kept, .int t_isKept, .ref a_t_text, .int t_length, .ref a_t_passing, .int t_at, .int t_fault, .int t_open, .int t_asked, .int t_byGun, .int t_prizeMost, .ref a_t_order, .ref a_t_times, .int t_listed])), (a_t_now, .inl (cI, 1562, .inl t_now))] s.heap.size = A at hD hZ ⊢
  have hA : ∀ q : Nat, s.heap.size ≤ q → A q := fun q h => by rw [← hAe]; exact Or.inr h
  have hS : va_S A s.heap s.heap [] := va_S.rf
  have hl := lv_entry ([.ref a_t, .int x1, .int x2]) (n := 5) (Nat.le_of_ble_eq_true rfl)
  rw [lg_entry_eq]
  generalize (lg_sl ([.ref a_t, .int x1, .int x2]) ++ List.replicate (5 - (lg_sl ([.ref a_t, .int x1, .int x2])).length) Slot.unset).toArray = ls at hl ⊢
  have hl : lv_has ls 5 [(0, .ref a_t), (1, .int x1), (2, .int x2)] := hl
  unfold fX11_told at h
  refine lv_aload_n hx hb dX11_told_0 rfl (lv_at hl 0 rfl) ?_
  refine lv_iload_n hx hb dX11_told_1 rfl (lv_at hl 1 rfl) ?_
  obtain ⟨⟨b1, t_thrown_2⟩, e3, h⟩ := zz_b h
  dsimp only at h
  refine zVi (As := [.int x1]) (rest := []) (C := RX11) (wr := []) [0, 1] [] 0 ⟨hx, hb, hml, hown, hts⟩ (mX11_isRunner l D cB cI cZ a_t a_t_now a_t_kept a_t_text a_t_passing a_t_order a_t_times t_thrown t_isKept t_length t_at t_fault t_open t_asked t_byGun t_prizeMost t_listed t_now s.heap.size x1 b1 t_thrown_2 e3) (cwV 1 hts gX11_told_X11_isRunner rfl rfl rfl (by decide +kernel) ⟨Nat.le_of_ble_eq_true rfl, Nat.le_of_ble_eq_true rfl⟩) hK hN hZ hP hD hS hA rfl rfl rfl rfl rfl rfl rfl rfl hl.1 rfl (lv_room (Nat.le_of_ble_eq_true rfl)) dX11_told_2 ⟨Nat.le_of_ble_eq_true rfl, Nat.le_of_ble_eq_true rfl⟩ (fun H locs hP hD hS => ?_)
  have hP : va_P D vwCl [(a_t, .inr (11, [.int t_thrown_2, .ref a_t_now, .ref a_t_kept, .int t_isKept, .ref a_t_text, .int t_length, .ref a_t_passing, .int t_at, .int t_fault, .int t_open, .int t_asked, .int t_byGun, .int t_prizeMost, .ref a_t_order, .ref a_t_times, .int t_listed])), (a_t_now, .inl (cI, 1562, .inl t_now))] H := hP
  have hD : va_D A [(a_t, .inr (11, [.int t_thrown_2, .ref a_t_now, .ref a_t_kept, .int t_isKept, .ref a_t_text, .int t_length, .ref a_t_passing, .int t_at, .int t_fault, .int t_open, .int t_asked, .int t_byGun, .int t_prizeMost, .ref a_t_order, .ref a_t_times, .int t_listed])), (a_t_now, .inl (cI, 1562, .inl t_now))] := hD
  refine lv_if_ne (tgt := 10) hx hb dX11_told_5 (by decide) (fun c4 => ?_) (fun c4 => ?_)
  · have h := zz_f h c4
    refine lv_iload_n hx hb dX11_told_10 rfl (lv_at hl 2 rfl) ?_
    by_cases c5 : x2 = (0 : Int32)
    · have h := zz_t h c5
      refine lv_tableIn (off := 69) (tgt := 80) hx hb dX11_told_11 (by rw [c5]; decide) (by rw [c5]; decide) (by rw [c5]; rfl) (by decide) ?_
      refine lv_aload_n hx hb dX11_told_80 rfl (lv_at hl 0 rfl) ?_
      refine lv_iload_n hx hb dX11_told_81 rfl (lv_at hl 1 rfl) ?_
      refine lv_iload_n hx hb dX11_told_82 rfl (lv_at hl 2 rfl) ?_
      obtain ⟨r6, e7, h⟩ := zz_b h
      refine zVi (As := [.int x1, .int x2]) (rest := []) (C := RX11) (wr := []) [0, 1] [] 0 ⟨hx, hb, hml, hown, hts⟩ (mX11_of l D cB cI cZ a_t a_t_now a_t_kept a_t_text a_t_passing a_t_order a_t_times t_thrown_2 t_isKept t_length t_at t_fault t_open t_asked t_byGun t_prizeMost t_listed t_now H.size x1 x2 r6 e7) (cwV 2 hts gX11_told_X11_of rfl rfl rfl (by decide +kernel) ⟨Nat.le_of_ble_eq_true rfl, Nat.le_of_ble_eq_true rfl⟩) hK hN hZ hP hD hS hA rfl rfl rfl rfl rfl rfl rfl rfl hl.1 rfl (lv_room (Nat.le_of_ble_eq_true rfl)) dX11_told_83 ⟨Nat.le_of_ble_eq_true rfl, Nat.le_of_ble_eq_true rfl⟩ (fun H locs hP hD hS => ?_)
      have hP : va_P D vwCl [(a_t, .inr (11, [.int t_thrown_2, .ref a_t_now, .ref a_t_kept, .int t_isKept, .ref a_t_text, .int t_length, .ref a_t_passing, .int t_at, .int t_fault, .int t_open, .int t_asked, .int t_byGun, .int t_prizeMost, .ref a_t_order, .ref a_t_times, .int t_listed])), (a_t_now, .inl (cI, 1562, .inl t_now))] H := hP
      have hD : va_D A [(a_t, .inr (11, [.int t_thrown_2, .ref a_t_now, .ref a_t_kept, .int t_isKept, .ref a_t_text, .int t_length, .ref a_t_passing, .int t_at, .int t_fault, .int t_open, .int t_asked, .int t_byGun, .int t_prizeMost, .ref a_t_order, .ref a_t_times, .int t_listed])), (a_t_now, .inl (cI, 1562, .inl t_now))] := hD
      obtain ⟨j0_, g_⟩ := Prod.mk.inj (Option.some.inj h)
      have j1_ := g_
      subst j0_
      subst j1_
      exact W.iret (v := r6) hx hb hr (fun t ht hW => ⟨⟨_, (), rfl, rfl, zPost.of hP hD hK ht hW [0, 1] rfl rfl rfl⟩, hS.F ht⟩) hS.2.2 dX11_told_86
    · have h := zz_f h c5
      by_cases c8 : x2 = (1 : Int32)
      · have h := zz_t h c8
        refine lv_tableIn (off := 69) (tgt := 80) hx hb dX11_told_11 (by rw [c8]; decide) (by rw [c8]; decide) (by rw [c8]; rfl) (by decide) ?_
        refine lv_aload_n hx hb dX11_told_80 rfl (lv_at hl 0 rfl) ?_
        refine lv_iload_n hx hb dX11_told_81 rfl (lv_at hl 1 rfl) ?_
        refine lv_iload_n hx hb dX11_told_82 rfl (lv_at hl 2 rfl) ?_
        obtain ⟨r9, e10, h⟩ := zz_b h
        refine zVi (As := [.int x1, .int x2]) (rest := []) (C := RX11) (wr := []) [0, 1] [] 0 ⟨hx, hb, hml, hown, hts⟩ (mX11_of l D cB cI cZ a_t a_t_now a_t_kept a_t_text a_t_passing a_t_order a_t_times t_thrown_2 t_isKept t_length t_at t_fault t_open t_asked t_byGun t_prizeMost t_listed t_now H.size x1 x2 r9 e10) (cwV 2 hts gX11_told_X11_of rfl rfl rfl (by decide +kernel) ⟨Nat.le_of_ble_eq_true rfl, Nat.le_of_ble_eq_true rfl⟩) hK hN hZ hP hD hS hA rfl rfl rfl rfl rfl rfl rfl rfl hl.1 rfl (lv_room (Nat.le_of_ble_eq_true rfl)) dX11_told_83 ⟨Nat.le_of_ble_eq_true rfl, Nat.le_of_ble_eq_true rfl⟩ (fun H locs hP hD hS => ?_)
        have hP : va_P D vwCl [(a_t, .inr (11, [.int t_thrown_2, .ref a_t_now, .ref a_t_kept, .int t_isKept, .ref a_t_text, .int t_length, .ref a_t_passing, .int t_at, .int t_fault, .int t_open, .int t_asked, .int t_byGun, .int t_prizeMost, .ref a_t_order, .ref a_t_times, .int t_listed])), (a_t_now, .inl (cI, 1562, .inl t_now))] H := hP
        have hD : va_D A [(a_t, .inr (11, [.int t_thrown_2, .ref a_t_now, .ref a_t_kept, .int t_isKept, .ref a_t_text, .int t_length, .ref a_t_passing, .int t_at, .int t_fault, .int t_open, .int t_asked, .int t_byGun, .int t_prizeMost, .ref a_t_order, .ref a_t_times, .int t_listed])), (a_t_now, .inl (cI, 1562, .inl t_now))] := hD
        obtain ⟨j0_, g_⟩ := Prod.mk.inj (Option.some.inj h)
        have j1_ := g_
        subst j0_
        subst j1_
        exact W.iret (v := r9) hx hb hr (fun t ht hW => ⟨⟨_, (), rfl, rfl, zPost.of hP hD hK ht hW [0, 1] rfl rfl rfl⟩, hS.F ht⟩) hS.2.2 dX11_told_86
      · have h := zz_f h c8
        by_cases c11 : x2 = (2 : Int32)
        · have h := zz_t h c11
          refine lv_tableIn (off := 69) (tgt := 80) hx hb dX11_told_11 (by rw [c11]; decide) (by rw [c11]; decide) (by rw [c11]; rfl) (by decide) ?_
          refine lv_aload_n hx hb dX11_told_80 rfl (lv_at hl 0 rfl) ?_
          refine lv_iload_n hx hb dX11_told_81 rfl (lv_at hl 1 rfl) ?_
          refine lv_iload_n hx hb dX11_told_82 rfl (lv_at hl 2 rfl) ?_
          obtain ⟨r12, e13, h⟩ := zz_b h
          refine zVi (As := [.int x1, .int x2]) (rest := []) (C := RX11) (wr := []) [0, 1] [] 0 ⟨hx, hb, hml, hown, hts⟩ (mX11_of l D cB cI cZ a_t a_t_now a_t_kept a_t_text a_t_passing a_t_order a_t_times t_thrown_2 t_isKept t_length t_at t_fault t_open t_asked t_byGun t_prizeMost t_listed t_now H.size x1 x2 r12 e13) (cwV 2 hts gX11_told_X11_of rfl rfl rfl (by decide +kernel) ⟨Nat.le_of_ble_eq_true rfl, Nat.le_of_ble_eq_true rfl⟩) hK hN hZ hP hD hS hA rfl rfl rfl rfl rfl rfl rfl rfl hl.1 rfl (lv_room (Nat.le_of_ble_eq_true rfl)) dX11_told_83 ⟨Nat.le_of_ble_eq_true rfl, Nat.le_of_ble_eq_true rfl⟩ (fun H locs hP hD hS => ?_)
          have hP : va_P D vwCl [(a_t, .inr (11, [.int t_thrown_2, .ref a_t_now, .ref a_t_kept, .int t_isKept, .ref a_t_text, .int t_length, .ref a_t_passing, .int t_at, .int t_fault, .int t_open, .int t_asked, .int t_byGun, .int t_prizeMost, .ref a_t_order, .ref a_t_times, .int t_listed])), (a_t_now, .inl (cI, 1562, .inl t_now))] H := hP
          have hD : va_D A [(a_t, .inr (11, [.int t_thrown_2, .ref a_t_now, .ref a_t_kept, .int t_isKept, .ref a_t_text, .int t_length, .ref a_t_passing, .int t_at, .int t_fault, .int t_open, .int t_asked, .int t_byGun, .int t_prizeMost, .ref a_t_order, .ref a_t_times, .int t_listed])), (a_t_now, .inl (cI, 1562, .inl t_now))] := hD
          obtain ⟨j0_, g_⟩ := Prod.mk.inj (Option.some.inj h)
          have j1_ := g_
          subst j0_
          subst j1_
          exact W.iret (v := r12) hx hb hr (fun t ht hW => ⟨⟨_, (), rfl, rfl, zPost.of hP hD hK ht hW [0, 1] rfl rfl rfl⟩, hS.F ht⟩) hS.2.2 dX11_told_86
        · have h := zz_f h c11
          by_cases c14 : x2 = (3 : Int32)
          · have h := zz_t h c14
            refine lv_tableIn (off := 69) (tgt := 80) hx hb dX11_told_11 (by rw [c14]; decide) (by rw [c14]; decide) (by rw [c14]; rfl) (by decide) ?_
            refine lv_aload_n hx hb dX11_told_80 rfl (lv_at hl 0 rfl) ?_
            refine lv_iload_n hx hb dX11_told_81 rfl (lv_at hl 1 rfl) ?_
            refine lv_iload_n hx hb dX11_told_82 rfl (lv_at hl 2 rfl) ?_
            obtain ⟨r15, e16, h⟩ := zz_b h
            refine zVi (As := [.int x1, .int x2]) (rest := []) (C := RX11) (wr := []) [0, 1] [] 0 ⟨hx, hb, hml, hown, hts⟩ (mX11_of l D cB cI cZ a_t a_t_now a_t_kept a_t_text a_t_passing a_t_order a_t_times t_thrown_2 t_isKept t_length t_at t_fault t_open t_asked t_byGun t_prizeMost t_listed t_now H.size x1 x2 r15 e16) (cwV 2 hts gX11_told_X11_of rfl rfl rfl (by decide +kernel) ⟨Nat.le_of_ble_eq_true rfl, Nat.le_of_ble_eq_true rfl⟩) hK hN hZ hP hD hS hA rfl rfl rfl rfl rfl rfl rfl rfl hl.1 rfl (lv_room (Nat.le_of_ble_eq_true rfl)) dX11_told_83 ⟨Nat.le_of_ble_eq_true rfl, Nat.le_of_ble_eq_true rfl⟩ (fun H locs hP hD hS => ?_)
            have hP : va_P D vwCl [(a_t, .inr (11, [.int t_thrown_2, .ref a_t_now, .ref a_t_kept, .int t_isKept, .ref a_t_text, .int t_length, .ref a_t_passing, .int t_at, .int t_fault, .int t_open, .int t_asked, .int t_byGun, .int t_prizeMost, .ref a_t_order, .ref a_t_times, .int t_listed])), (a_t_now, .inl (cI, 1562, .inl t_now))] H := hP
            have hD : va_D A [(a_t, .inr (11, [.int t_thrown_2, .ref a_t_now, .ref a_t_kept, .int t_isKept, .ref a_t_text, .int t_length, .ref a_t_passing, .int t_at, .int t_fault, .int t_open, .int t_asked, .int t_byGun, .int t_prizeMost, .ref a_t_order, .ref a_t_times, .int t_listed])), (a_t_now, .inl (cI, 1562, .inl t_now))] := hD
            obtain ⟨j0_, g_⟩ := Prod.mk.inj (Option.some.inj h)
            have j1_ := g_
            subst j0_
            subst j1_
            exact W.iret (v := r15) hx hb hr (fun t ht hW => ⟨⟨_, (), rfl, rfl, zPost.of hP hD hK ht hW [0, 1] rfl rfl rfl⟩, hS.F ht⟩) hS.2.2 dX11_told_86
          · have h := zz_f h c14
            by_cases c17 : x2 = (4 : Int32)
            · have h := zz_t h c17
              refine lv_tableIn (off := 69) (tgt := 80) hx hb dX11_told_11 (by rw [c17]; decide) (by rw [c17]; decide) (by rw [c17]; rfl) (by decide) ?_
              refine lv_aload_n hx hb dX11_told_80 rfl (lv_at hl 0 rfl) ?_
              refine lv_iload_n hx hb dX11_told_81 rfl (lv_at hl 1 rfl) ?_
              refine lv_iload_n hx hb dX11_told_82 rfl (lv_at hl 2 rfl) ?_
              obtain ⟨r18, e19, h⟩ := zz_b h
              refine zVi (As := [.int x1, .int x2]) (rest := []) (C := RX11) (wr := []) [0, 1] [] 0 ⟨hx, hb, hml, hown, hts⟩ (mX11_of l D cB cI cZ a_t a_t_now a_t_kept a_t_text a_t_passing a_t_order a_t_times t_thrown_2 t_isKept t_length t_at t_fault t_open t_asked t_byGun t_prizeMost t_listed t_now H.size x1 x2 r18 e19) (cwV 2 hts gX11_told_X11_of rfl rfl rfl (by decide +kernel) ⟨Nat.le_of_ble_eq_true rfl, Nat.le_of_ble_eq_true rfl⟩) hK hN hZ hP hD hS hA rfl rfl rfl rfl rfl rfl rfl rfl hl.1 rfl (lv_room (Nat.le_of_ble_eq_true rfl)) dX11_told_83 ⟨Nat.le_of_ble_eq_true rfl, Nat.le_of_ble_eq_true rfl⟩ (fun H locs hP hD hS => ?_)
              have hP : va_P D vwCl [(a_t, .inr (11, [.int t_thrown_2, .ref a_t_now, .ref a_t_kept, .int t_isKept, .ref a_t_text, .int t_length, .ref a_t_passing, .int t_at, .int t_fault, .int t_open, .int t_asked, .int t_byGun, .int t_prizeMost, .ref a_t_order, .ref a_t_times, .int t_listed])), (a_t_now, .inl (cI, 1562, .inl t_now))] H := hP
              have hD : va_D A [(a_t, .inr (11, [.int t_thrown_2, .ref a_t_now, .ref a_t_kept, .int t_isKept, .ref a_t_text, .int t_length, .ref a_t_passing, .int t_at, .int t_fault, .int t_open, .int t_asked, .int t_byGun, .int t_prizeMost, .ref a_t_order, .ref a_t_times, .int t_listed])), (a_t_now, .inl (cI, 1562, .inl t_now))] := hD
              obtain ⟨j0_, g_⟩ := Prod.mk.inj (Option.some.inj h)
              have j1_ := g_
              subst j0_
              subst j1_
              exact W.iret (v := r18) hx hb hr (fun t ht hW => ⟨⟨_, (), rfl, rfl, zPost.of hP hD hK ht hW [0, 1] rfl rfl rfl⟩, hS.F ht⟩) hS.2.2 dX11_told_86
            · have h := zz_f h c17
              by_cases c20 : x2 = (5 : Int32)
              · have h := zz_t h c20
                refine lv_tableIn (off := 69) (tgt := 80) hx hb dX11_told_11 (by rw [c20]; decide) (by rw [c20]; decide) (by rw [c20]; rfl) (by decide) ?_
                refine lv_aload_n hx hb dX11_told_80 rfl (lv_at hl 0 rfl) ?_
                refine lv_iload_n hx hb dX11_told_81 rfl (lv_at hl 1 rfl) ?_
                refine lv_iload_n hx hb dX11_told_82 rfl (lv_at hl 2 rfl) ?_
                obtain ⟨r21, e22, h⟩ := zz_b h
                refine zVi (As := [.int x1, .int x2]) (rest := []) (C := RX11) (wr := []) [0, 1] [] 0 ⟨hx, hb, hml, hown, hts⟩ (mX11_of l D cB cI cZ a_t a_t_now a_t_kept a_t_text a_t_passing a_t_order a_t_times t_thrown_2 t_isKept t_length t_at t_fault t_open t_asked t_byGun t_prizeMost t_listed t_now H.size x1 x2 r21 e22) (cwV 2 hts gX11_told_X11_of rfl rfl rfl (by decide +kernel) ⟨Nat.le_of_ble_eq_true rfl, Nat.le_of_ble_eq_true rfl⟩) hK hN hZ hP hD hS hA rfl rfl rfl rfl rfl rfl rfl rfl hl.1 rfl (lv_room (Nat.le_of_ble_eq_true rfl)) dX11_told_83 ⟨Nat.le_of_ble_eq_true rfl, Nat.le_of_ble_eq_true rfl⟩ (fun H locs hP hD hS => ?_)
                have hP : va_P D vwCl [(a_t, .inr (11, [.int t_thrown_2, .ref a_t_now, .ref a_t_kept, .int t_isKept, .ref a_t_text, .int t_length, .ref a_t_passing, .int t_at, .int t_fault, .int t_open, .int t_asked, .int t_byGun, .int t_prizeMost, .ref a_t_order, .ref a_t_times, .int t_listed])), (a_t_now, .inl (cI, 1562, .inl t_now))] H := hP
                have hD : va_D A [(a_t, .inr (11, [.int t_thrown_2, .ref a_t_now, .ref a_t_kept, .int t_isKept, .ref a_t_text, .int t_length, .ref a_t_passing, .int t_at, .int t_fault, .int t_open, .int t_asked, .int t_byGun, .int t_prizeMost, .ref a_t_order, .ref a_t_times, .int t_listed])), (a_t_now, .inl (cI, 1562, .inl t_now))] := hD
                obtain ⟨j0_, g_⟩ := Prod.mk.inj (Option.some.inj h)
                have j1_ := g_
                subst j0_
                subst j1_
                exact W.iret (v := r21) hx hb hr (fun t ht hW => ⟨⟨_, (), rfl, rfl, zPost.of hP hD hK ht hW [0, 1] rfl rfl rfl⟩, hS.F ht⟩) hS.2.2 dX11_told_86
              · have h := zz_f h c20
                by_cases c23 : x2 = (6 : Int32)
                · have h := zz_t h c23
                  refine lv_tableIn (off := 76) (tgt := 87) hx hb dX11_told_11 (by rw [c23]; decide) (by rw [c23]; decide) (by rw [c23]; rfl) (by decide) ?_
                  refine lv_aload_n hx hb dX11_told_87 rfl (lv_at hl 0 rfl) ?_
                  refine lv_iload_n hx hb dX11_told_88 rfl (lv_at hl 1 rfl) ?_
                  obtain ⟨r24, e25, h⟩ := zz_b h
                  refine zVi (As := [.int x1]) (rest := []) (C := RX11) (wr := []) [0, 1] [] 0 ⟨hx, hb, hml, hown, hts⟩ (mX11_stateOf l D cB cI cZ a_t a_t_now a_t_kept a_t_text a_t_passing a_t_order a_t_times t_thrown_2 t_isKept t_length t_at t_fault t_open t_asked t_byGun t_prizeMost t_listed t_now H.size x1 N r24 e25) (cwV 1 hts gX11_told_X11_stateOf rfl rfl rfl (by decide +kernel) ⟨Nat.le_of_ble_eq_true rfl, Nat.le_of_ble_eq_true rfl⟩) hK hN hZ hP hD hS hA rfl rfl rfl rfl rfl rfl rfl rfl hl.1 rfl (lv_room (Nat.le_of_ble_eq_true rfl)) dX11_told_89 ⟨Nat.le_of_ble_eq_true rfl, Nat.le_of_ble_eq_true rfl⟩ (fun H locs hP hD hS => ?_)
                  have hP : va_P D vwCl [(a_t, .inr (11, [.int t_thrown_2, .ref a_t_now, .ref a_t_kept, .int t_isKept, .ref a_t_text, .int t_length, .ref a_t_passing, .int t_at, .int t_fault, .int t_open, .int t_asked, .int t_byGun, .int t_prizeMost, .ref a_t_order, .ref a_t_times, .int t_listed])), (a_t_now, .inl (cI, 1562, .inl t_now))] H := hP
                  have hD : va_D A [(a_t, .inr (11, [.int t_thrown_2, .ref a_t_now, .ref a_t_kept, .int t_isKept, .ref a_t_text, .int t_length, .ref a_t_passing, .int t_at, .int t_fault, .int t_open, .int t_asked, .int t_byGun, .int t_prizeMost, .ref a_t_order, .ref a_t_times, .int t_listed])), (a_t_now, .inl (cI, 1562, .inl t_now))] := hD
                  obtain ⟨j0_, g_⟩ := Prod.mk.inj (Option.some.inj h)
                  have j1_ := g_
                  subst j0_
                  subst j1_
                  exact W.iret (v := r24) hx hb hr (fun t ht hW => ⟨⟨_, (), rfl, rfl, zPost.of hP hD hK ht hW [0, 1] rfl rfl rfl⟩, hS.F ht⟩) hS.2.2 dX11_told_92
                · have h := zz_f h c23
                  by_cases c26 : x2 = (7 : Int32)
                  · have h := zz_t h c26
                    refine lv_tableIn (off := 82) (tgt := 93) hx hb dX11_told_11 (by rw [c26]; decide) (by rw [c26]; decide) (by rw [c26]; rfl) (by decide) ?_
                    refine lv_aload_n hx hb dX11_told_93 rfl (lv_at hl 0 rfl) ?_
                    refine lv_iload_n hx hb dX11_told_94 rfl (lv_at hl 1 rfl) ?_
                    obtain ⟨r27, e28, h⟩ := zz_b h
                    refine zVi (As := [.int x1]) (rest := []) (C := RX11) (wr := []) [0, 1] [] 0 ⟨hx, hb, hml, hown, hts⟩ (mX11_startOf l D cB cI cZ a_t a_t_now a_t_kept a_t_text a_t_passing a_t_order a_t_times t_thrown_2 t_isKept t_length t_at t_fault t_open t_asked t_byGun t_prizeMost t_listed t_now H.size x1 r27 e28) (cwV 1 hts gX11_told_X11_startOf rfl rfl rfl (by decide +kernel) ⟨Nat.le_of_ble_eq_true rfl, Nat.le_of_ble_eq_true rfl⟩) hK hN hZ hP hD hS hA rfl rfl rfl rfl rfl rfl rfl rfl hl.1 rfl (lv_room (Nat.le_of_ble_eq_true rfl)) dX11_told_95 ⟨Nat.le_of_ble_eq_true rfl, Nat.le_of_ble_eq_true rfl⟩ (fun H locs hP hD hS => ?_)
                    have hP : va_P D vwCl [(a_t, .inr (11, [.int t_thrown_2, .ref a_t_now, .ref a_t_kept, .int t_isKept, .ref a_t_text, .int t_length, .ref a_t_passing, .int t_at, .int t_fault, .int t_open, .int t_asked, .int t_byGun, .int t_prizeMost, .ref a_t_order, .ref a_t_times, .int t_listed])), (a_t_now, .inl (cI, 1562, .inl t_now))] H := hP
                    have hD : va_D A [(a_t, .inr (11, [.int t_thrown_2, .ref a_t_now, .ref a_t_kept, .int t_isKept, .ref a_t_text, .int t_length, .ref a_t_passing, .int t_at, .int t_fault, .int t_open, .int t_asked, .int t_byGun, .int t_prizeMost, .ref a_t_order, .ref a_t_times, .int t_listed])), (a_t_now, .inl (cI, 1562, .inl t_now))] := hD
                    obtain ⟨j0_, g_⟩ := Prod.mk.inj (Option.some.inj h)
                    have j1_ := g_
                    subst j0_
                    subst j1_
                    exact W.iret (v := r27) hx hb hr (fun t ht hW => ⟨⟨_, (), rfl, rfl, zPost.of hP hD hK ht hW [0, 1] rfl rfl rfl⟩, hS.F ht⟩) hS.2.2 dX11_told_98
                  · have h := zz_f h c26
                    by_cases c29 : x2 = (8 : Int32)
                    · have h := zz_t h c29
                      refine lv_tableIn (off := 88) (tgt := 99) hx hb dX11_told_11 (by rw [c29]; decide) (by rw [c29]; decide) (by rw [c29]; rfl) (by decide) ?_
                      refine lv_iconst (v := (-1 : Int32)) hx hb dX11_told_99 rfl ?_
                      refine lv_istore_n (lv' := [(3, .int (-1 : Int32)), (0, .ref a_t), (1, .int x1), (2, .int x2)]) hx hb dX11_told_100 rfl hl (by decide) rfl (fun ls hl => ?_)
                      refine lv_iconst (v := (0 : Int32)) hx hb dX11_told_101 rfl ?_
                      refine lv_istore (lv' := [(4, .int (0 : Int32)), (3, .int (-1 : Int32)), (0, .ref a_t), (1, .int x1), (2, .int x2)]) hx hb dX11_told_102 hl (by decide) rfl (fun ls hl => ?_)
                      have L104 : ∀ (n : Nat) (v3_104 : Int32) (v4_104 : Int32) (H : Heap) (locs : List Loc) (ls : Array Slot), fX11_told_L104 t_now x1 (fun (v3_104 : Int32) (v4_104 : Int32) => some (v3_104, t_thrown_2)) n v3_104 v4_104 = some (r0, t_thrown') → va_P D vwCl [(a_t, .inr (11, [.int t_thrown_2, .ref a_t_now, .ref a_t_kept, .int t_isKept, .ref a_t_text, .int t_length, .ref a_t_passing, .int t_at, .int t_fault, .int t_open, .int t_asked, .int t_byGun, .int t_prizeMost, .ref a_t_order, .ref a_t_times, .int t_listed])), (a_t_now, .inl (cI, 1562, .inl t_now))] H → va_D A [(a_t, .inr (11, [.int t_thrown_2, .ref a_t_now, .ref a_t_kept, .int t_isKept, .ref a_t_text, .int t_length, .ref a_t_passing, .int t_at, .int t_fault, .int t_open, .int t_asked, .int t_byGun, .int t_prizeMost, .ref a_t_order, .ref a_t_times, .int t_listed])), (a_t_now, .inl (cI, 1562, .inl t_now))] → va_S A s.heap H locs → lv_has ls 5 [(4, .int v4_104), (3, .int v3_104), (0, .ref a_t), (1, .int x1), (2, .int x2)] → W p l e (headSpec wsX11_told ({ frames := 6, cells := 0, slots := 0, locals := 133 } : Room)).room s m #[Value.ref a_t, Value.int x1, Value.int x2] below meth c H locs 0 0 (MQ below (zQi r0 D (zT cB cI cZ) [(a_t, .inr (11, [.int t_thrown', .ref a_t_now, .ref a_t_kept, .int t_isKept, .ref a_t_text, .int t_length, .ref a_t_passing, .int t_at, .int t_fault, .int t_open, .int t_asked, .int t_byGun, .int t_prizeMost, .ref a_t_order, .ref a_t_times, .int t_listed])), (a_t_now, .inl (cI, 1562, .inl t_now))] A) #[Value.ref a_t, Value.int x1, Value.int x2] s 0 0 A) (F0 m 104 ls []) := by
                        intro n
                        induction n with
                        | zero => intro _ _ H locs ls h hP hD hS hl; cases h
                        | succ n104 ih104 =>
                          intro v3_104 v4_104 H locs ls h hP hD hS hl
                          rw [fX11_told_L104.eq_2] at h
                          refine lv_iload hx hb dX11_told_104 (lv_at hl 0 rfl) ?_
                          refine lv_aload_n hx hb dX11_told_106 rfl (lv_at hl 2 rfl) ?_
                          obtain ⟨r30, e31, h⟩ := zz_b h
                          refine zVi (As := []) (rest := [.int v4_104]) (C := RX11) (wr := []) [0, 1] [] 0 ⟨hx, hb, hml, hown, hts⟩ (mX11_mats l D cB cI cZ a_t a_t_now a_t_kept a_t_text a_t_passing a_t_order a_t_times t_thrown_2 t_isKept t_length t_at t_fault t_open t_asked t_byGun t_prizeMost t_listed t_now H.size r30 e31) (cwV 0 hts gX11_told_X11_mats rfl rfl rfl (by decide +kernel) ⟨Nat.le_of_ble_eq_true rfl, Nat.le_of_ble_eq_true rfl⟩) hK hN hZ hP hD hS hA rfl rfl rfl rfl rfl rfl rfl rfl hl.1 rfl (lv_room (Nat.le_of_ble_eq_true rfl)) dX11_told_107 ⟨Nat.le_of_ble_eq_true rfl, Nat.le_of_ble_eq_true rfl⟩ (fun H locs hP hD hS => ?_)
                          have hP : va_P D vwCl [(a_t, .inr (11, [.int t_thrown_2, .ref a_t_now, .ref a_t_kept, .int t_isKept, .ref a_t_text, .int t_length, .ref a_t_passing, .int t_at, .int t_fault, .int t_open, .int t_asked, .int t_byGun, .int t_prizeMost, .ref a_t_order, .ref a_t_times, .int t_listed])), (a_t_now, .inl (cI, 1562, .inl t_now))] H := hP
                          have hD : va_D A [(a_t, .inr (11, [.int t_thrown_2, .ref a_t_now, .ref a_t_kept, .int t_isKept, .ref a_t_text, .int t_length, .ref a_t_passing, .int t_at, .int t_fault, .int t_open, .int t_asked, .int t_byGun, .int t_prizeMost, .ref a_t_order, .ref a_t_times, .int t_listed])), (a_t_now, .inl (cI, 1562, .inl t_now))] := hD
                          refine lv_icmp_ge (tgt := 133) hx hb dX11_told_110 (by decide) (fun c32 => ?_) (fun c32 => ?_)
                          · have h := zz_t h c32
                            refine lv_iload_n hx hb dX11_told_133 rfl (lv_at hl 1 rfl) ?_
                            obtain ⟨j0_, g_⟩ := Prod.mk.inj (Option.some.inj h)
                            have j1_ := g_
                            subst j0_
                            subst j1_
                            exact W.iret (v := v3_104) hx hb hr (fun t ht hW => ⟨⟨_, (), rfl, rfl, zPost.of hP hD hK ht hW [0, 1] rfl rfl rfl⟩, hS.F ht⟩) hS.2.2 dX11_told_134
                          · have h := zz_f h c32
                            refine lv_aload_n hx hb dX11_told_113 rfl (lv_at hl 2 rfl) ?_
                            refine lv_iload_n hx hb dX11_told_114 rfl (lv_at hl 3 rfl) ?_
                            refine lv_iload hx hb dX11_told_115 (lv_at hl 0 rfl) ?_
                            obtain ⟨r33, e34, h⟩ := zz_b h
                            refine zVi (As := [.int x1, .int v4_104]) (rest := []) (C := RX11) (wr := []) [0, 1] [] 0 ⟨hx, hb, hml, hown, hts⟩ (mX11_seen l D cB cI cZ a_t a_t_now a_t_kept a_t_text a_t_passing a_t_order a_t_times t_thrown_2 t_isKept t_length t_at t_fault t_open t_asked t_byGun t_prizeMost t_listed t_now H.size x1 v4_104 r33 e34) (cwV 2 hts gX11_told_X11_seen rfl rfl rfl (by decide +kernel) ⟨Nat.le_of_ble_eq_true rfl, Nat.le_of_ble_eq_true rfl⟩) hK hN hZ hP hD hS hA rfl rfl rfl rfl rfl rfl rfl rfl hl.1 rfl (lv_room (Nat.le_of_ble_eq_true rfl)) dX11_told_117 ⟨Nat.le_of_ble_eq_true rfl, Nat.le_of_ble_eq_true rfl⟩ (fun H locs hP hD hS => ?_)
                            have hP : va_P D vwCl [(a_t, .inr (11, [.int t_thrown_2, .ref a_t_now, .ref a_t_kept, .int t_isKept, .ref a_t_text, .int t_length, .ref a_t_passing, .int t_at, .int t_fault, .int t_open, .int t_asked, .int t_byGun, .int t_prizeMost, .ref a_t_order, .ref a_t_times, .int t_listed])), (a_t_now, .inl (cI, 1562, .inl t_now))] H := hP
                            have hD : va_D A [(a_t, .inr (11, [.int t_thrown_2, .ref a_t_now, .ref a_t_kept, .int t_isKept, .ref a_t_text, .int t_length, .ref a_t_passing, .int t_at, .int t_fault, .int t_open, .int t_asked, .int t_byGun, .int t_prizeMost, .ref a_t_order, .ref a_t_times, .int t_listed])), (a_t_now, .inl (cI, 1562, .inl t_now))] := hD
                            refine lv_iconst (v := (-1 : Int32)) hx hb dX11_told_120 rfl ?_
                            refine lv_icmp_eq (tgt := 127) hx hb dX11_told_121 (by decide) (fun c35 => ?_) (fun c35 => ?_)
                            · have h := zz_t h c35
                              refine lv_iinc (v := (v4_104 + (1 : Int32))) (lv' := [(4, .int (v4_104 + (1 : Int32))), (3, .int v3_104), (0, .ref a_t), (1, .int x1), (2, .int x2)]) hx hb dX11_told_127 hl (k := 0) rfl rfl (by decide) rfl (fun ls hl => ?_)
                              refine lv_goto (tgt := 104) hx hb dX11_told_130 (by decide) ?_
                              exact ih104 v3_104 (v4_104 + (1 : Int32)) _ _ _ h (hP.sub [0, 1] rfl) (hD.sub [0, 1] rfl rfl) hS (lv_sub hl [0, 1, 2, 3, 4] rfl)
                            · have h := zz_f h c35
                              refine lv_iload hx hb dX11_told_124 (lv_at hl 0 rfl) ?_
                              refine lv_istore_n (lv' := [(3, .int v4_104), (4, .int v4_104), (0, .ref a_t), (1, .int x1), (2, .int x2)]) hx hb dX11_told_126 rfl hl (by decide) rfl (fun ls hl => ?_)
                              refine lv_iinc (v := (v4_104 + (1 : Int32))) (lv' := [(4, .int (v4_104 + (1 : Int32))), (3, .int v4_104), (0, .ref a_t), (1, .int x1), (2, .int x2)]) hx hb dX11_told_127 hl (k := 1) rfl rfl (by decide) rfl (fun ls hl => ?_)
                              refine lv_goto (tgt := 104) hx hb dX11_told_130 (by decide) ?_
                              exact ih104 v4_104 (v4_104 + (1 : Int32)) _ _ _ h (hP.sub [0, 1] rfl) (hD.sub [0, 1] rfl rfl) hS (lv_sub hl [0, 1, 2, 3, 4] rfl)
                      exact L104 N (-1 : Int32) (0 : Int32) _ _ _ h hP hD hS hl
                    · have h := zz_f h c29
                      by_cases c36 : x2 = (9 : Int32)
                      · have h := zz_t h c36
                        refine lv_tableIn (off := 124) (tgt := 135) hx hb dX11_told_11 (by rw [c36]; decide) (by rw [c36]; decide) (by rw [c36]; rfl) (by decide) ?_
                        refine lv_aload_n hx hb dX11_told_135 rfl (lv_at hl 0 rfl) ?_
                        refine lv_iload_n hx hb dX11_told_136 rfl (lv_at hl 1 rfl) ?_
                        refine lv_iconst (v := (0 : Int32)) hx hb dX11_told_137 rfl ?_
                        obtain ⟨r37, e38, h⟩ := zz_b h
                        refine zVi (As := [.int x1, .int (0 : Int32)]) (rest := []) (C := RX11) (wr := []) [0, 1] [] 0 ⟨hx, hb, hml, hown, hts⟩ (mX11_timeOf l D cB cI cZ a_t a_t_now a_t_kept a_t_text a_t_passing a_t_order a_t_times t_thrown_2 t_isKept t_length t_at t_fault t_open t_asked t_byGun t_prizeMost t_listed t_now H.size x1 (0 : Int32) N r37 e38) (cwV 2 hts gX11_told_X11_timeOf rfl rfl rfl (by decide +kernel) ⟨Nat.le_of_ble_eq_true rfl, Nat.le_of_ble_eq_true rfl⟩) hK hN hZ hP hD hS hA rfl rfl rfl rfl rfl rfl rfl rfl hl.1 rfl (lv_room (Nat.le_of_ble_eq_true rfl)) dX11_told_138 ⟨Nat.le_of_ble_eq_true rfl, Nat.le_of_ble_eq_true rfl⟩ (fun H locs hP hD hS => ?_)
                        have hP : va_P D vwCl [(a_t, .inr (11, [.int t_thrown_2, .ref a_t_now, .ref a_t_kept, .int t_isKept, .ref a_t_text, .int t_length, .ref a_t_passing, .int t_at, .int t_fault, .int t_open, .int t_asked, .int t_byGun, .int t_prizeMost, .ref a_t_order, .ref a_t_times, .int t_listed])), (a_t_now, .inl (cI, 1562, .inl t_now))] H := hP
                        have hD : va_D A [(a_t, .inr (11, [.int t_thrown_2, .ref a_t_now, .ref a_t_kept, .int t_isKept, .ref a_t_text, .int t_length, .ref a_t_passing, .int t_at, .int t_fault, .int t_open, .int t_asked, .int t_byGun, .int t_prizeMost, .ref a_t_order, .ref a_t_times, .int t_listed])), (a_t_now, .inl (cI, 1562, .inl t_now))] := hD
                        obtain ⟨j0_, g_⟩ := Prod.mk.inj (Option.some.inj h)
                        have j1_ := g_
                        subst j0_
                        subst j1_
                        exact W.iret (v := r37) hx hb hr (fun t ht hW => ⟨⟨_, (), rfl, rfl, zPost.of hP hD hK ht hW [0, 1] rfl rfl rfl⟩, hS.F ht⟩) hS.2.2 dX11_told_141
                      · have h := zz_f h c36
                        by_cases c39 : x2 = (10 : Int32)
                        · have h := zz_t h c39
                          refine lv_tableIn (off := 131) (tgt := 142) hx hb dX11_told_11 (by rw [c39]; decide) (by rw [c39]; decide) (by rw [c39]; rfl) (by decide) ?_
                          refine lv_aload_n hx hb dX11_told_142 rfl (lv_at hl 0 rfl) ?_
                          refine lv_iload_n hx hb dX11_told_143 rfl (lv_at hl 1 rfl) ?_
                          refine lv_iconst (v := (1 : Int32)) hx hb dX11_told_144 rfl ?_
                          obtain ⟨r40, e41, h⟩ := zz_b h
                          refine zVi (As := [.int x1, .int (1 : Int32)]) (rest := []) (C := RX11) (wr := []) [0, 1] [] 0 ⟨hx, hb, hml, hown, hts⟩ (mX11_timeOf l D cB cI cZ a_t a_t_now a_t_kept a_t_text a_t_passing a_t_order a_t_times t_thrown_2 t_isKept t_length t_at t_fault t_open t_asked t_byGun t_prizeMost t_listed t_now H.size x1 (1 : Int32) N r40 e41) (cwV 2 hts gX11_told_X11_timeOf rfl rfl rfl (by decide +kernel) ⟨Nat.le_of_ble_eq_true rfl, Nat.le_of_ble_eq_true rfl⟩) hK hN hZ hP hD hS hA rfl rfl rfl rfl rfl rfl rfl rfl hl.1 rfl (lv_room (Nat.le_of_ble_eq_true rfl)) dX11_told_145 ⟨Nat.le_of_ble_eq_true rfl, Nat.le_of_ble_eq_true rfl⟩ (fun H locs hP hD hS => ?_)
                          have hP : va_P D vwCl [(a_t, .inr (11, [.int t_thrown_2, .ref a_t_now, .ref a_t_kept, .int t_isKept, .ref a_t_text, .int t_length, .ref a_t_passing, .int t_at, .int t_fault, .int t_open, .int t_asked, .int t_byGun, .int t_prizeMost, .ref a_t_order, .ref a_t_times, .int t_listed])), (a_t_now, .inl (cI, 1562, .inl t_now))] H := hP
                          have hD : va_D A [(a_t, .inr (11, [.int t_thrown_2, .ref a_t_now, .ref a_t_kept, .int t_isKept, .ref a_t_text, .int t_length, .ref a_t_passing, .int t_at, .int t_fault, .int t_open, .int t_asked, .int t_byGun, .int t_prizeMost, .ref a_t_order, .ref a_t_times, .int t_listed])), (a_t_now, .inl (cI, 1562, .inl t_now))] := hD
                          obtain ⟨j0_, g_⟩ := Prod.mk.inj (Option.some.inj h)
                          have j1_ := g_
                          subst j0_
                          subst j1_
                          exact W.iret (v := r40) hx hb hr (fun t ht hW => ⟨⟨_, (), rfl, rfl, zPost.of hP hD hK ht hW [0, 1] rfl rfl rfl⟩, hS.F ht⟩) hS.2.2 dX11_told_148
                        · have h := zz_f h c39
                          by_cases c42 : x2 = (11 : Int32)
                          · have h := zz_t h c42
                            refine lv_tableIn (off := 138) (tgt := 149) hx hb dX11_told_11 (by rw [c42]; decide) (by rw [c42]; decide) (by rw [c42]; rfl) (by decide) ?_
                            refine lv_aload_n hx hb dX11_told_149 rfl (lv_at hl 0 rfl) ?_
                            refine lv_iload_n hx hb dX11_told_150 rfl (lv_at hl 1 rfl) ?_
                            obtain ⟨r43, e44, h⟩ := zz_b h
                            refine zVi (As := [.int x1]) (rest := []) (C := RX11) (wr := []) [0, 1] [] 0 ⟨hx, hb, hml, hown, hts⟩ (mX11_startOf l D cB cI cZ a_t a_t_now a_t_kept a_t_text a_t_passing a_t_order a_t_times t_thrown_2 t_isKept t_length t_at t_fault t_open t_asked t_byGun t_prizeMost t_listed t_now H.size x1 r43 e44) (cwV 1 hts gX11_told_X11_startOf rfl rfl rfl (by decide +kernel) ⟨Nat.le_of_ble_eq_true rfl, Nat.le_of_ble_eq_true rfl⟩) hK hN hZ hP hD hS hA rfl rfl rfl rfl rfl rfl rfl rfl hl.1 rfl (lv_room (Nat.le_of_ble_eq_true rfl)) dX11_told_151 ⟨Nat.le_of_ble_eq_true rfl, Nat.le_of_ble_eq_true rfl⟩ (fun H locs hP hD hS => ?_)
                            have hP : va_P D vwCl [(a_t, .inr (11, [.int t_thrown_2, .ref a_t_now, .ref a_t_kept, .int t_isKept, .ref a_t_text, .int t_length, .ref a_t_passing, .int t_at, .int t_fault, .int t_open, .int t_asked, .int t_byGun, .int t_prizeMost, .ref a_t_order, .ref a_t_times, .int t_listed])), (a_t_now, .inl (cI, 1562, .inl t_now))] H := hP
                            have hD : va_D A [(a_t, .inr (11, [.int t_thrown_2, .ref a_t_now, .ref a_t_kept, .int t_isKept, .ref a_t_text, .int t_length, .ref a_t_passing, .int t_at, .int t_fault, .int t_open, .int t_asked, .int t_byGun, .int t_prizeMost, .ref a_t_order, .ref a_t_times, .int t_listed])), (a_t_now, .inl (cI, 1562, .inl t_now))] := hD
                            refine lv_iconst (v := (-1 : Int32)) hx hb dX11_told_154 rfl ?_
                            refine lv_icmp_eq (tgt := 176) hx hb dX11_told_155 (by decide) (fun c45 => ?_) (fun c45 => ?_)
                            · have h := zz_t h c45
                              refine lv_iconst (v := (-1 : Int32)) hx hb dX11_told_176 rfl ?_
                              obtain ⟨j0_, g_⟩ := Prod.mk.inj (Option.some.inj h)
                              have j1_ := g_
                              subst j0_
                              subst j1_
                              exact W.iret (v := (-1 : Int32)) hx hb hr (fun t ht hW => ⟨⟨_, (), rfl, rfl, zPost.of hP hD hK ht hW [0, 1] rfl rfl rfl⟩, hS.F ht⟩) hS.2.2 dX11_told_177
                            · have h := zz_f h c45
                              refine lv_aload_n hx hb dX11_told_158 rfl (lv_at hl 0 rfl) ?_
                              refine lv_iload_n hx hb dX11_told_159 rfl (lv_at hl 1 rfl) ?_
                              refine lv_iconst (v := (0 : Int32)) hx hb dX11_told_160 rfl ?_
                              obtain ⟨r46, e47, h⟩ := zz_b h
                              refine zVi (As := [.int x1, .int (0 : Int32)]) (rest := []) (C := RX11) (wr := []) [0, 1] [] 0 ⟨hx, hb, hml, hown, hts⟩ (mX11_splitOf l D cB cI cZ a_t a_t_now a_t_kept a_t_text a_t_passing a_t_order a_t_times t_thrown_2 t_isKept t_length t_at t_fault t_open t_asked t_byGun t_prizeMost t_listed t_now H.size x1 (0 : Int32) r46 e47) (cwV 2 hts gX11_told_X11_splitOf rfl rfl rfl (by decide +kernel) ⟨Nat.le_of_ble_eq_true rfl, Nat.le_of_ble_eq_true rfl⟩) hK hN hZ hP hD hS hA rfl rfl rfl rfl rfl rfl rfl rfl hl.1 rfl (lv_room (Nat.le_of_ble_eq_true rfl)) dX11_told_161 ⟨Nat.le_of_ble_eq_true rfl, Nat.le_of_ble_eq_true rfl⟩ (fun H locs hP hD hS => ?_)
                              have hP : va_P D vwCl [(a_t, .inr (11, [.int t_thrown_2, .ref a_t_now, .ref a_t_kept, .int t_isKept, .ref a_t_text, .int t_length, .ref a_t_passing, .int t_at, .int t_fault, .int t_open, .int t_asked, .int t_byGun, .int t_prizeMost, .ref a_t_order, .ref a_t_times, .int t_listed])), (a_t_now, .inl (cI, 1562, .inl t_now))] H := hP
                              have hD : va_D A [(a_t, .inr (11, [.int t_thrown_2, .ref a_t_now, .ref a_t_kept, .int t_isKept, .ref a_t_text, .int t_length, .ref a_t_passing, .int t_at, .int t_fault, .int t_open, .int t_asked, .int t_byGun, .int t_prizeMost, .ref a_t_order, .ref a_t_times, .int t_listed])), (a_t_now, .inl (cI, 1562, .inl t_now))] := hD
                              refine lv_iconst (v := (-1 : Int32)) hx hb dX11_told_164 rfl ?_
                              refine lv_icmp_ne (tgt := 172) hx hb dX11_told_165 (by decide) (fun c48 => ?_) (fun c48 => ?_)
                              · have h := zz_f h c48
                                refine lv_iconst (v := (0 : Int32)) hx hb dX11_told_172 rfl ?_
                                refine lv_goto (tgt := 177) hx hb dX11_told_173 (by decide) ?_
                                obtain ⟨j0_, g_⟩ := Prod.mk.inj (Option.some.inj h)
                                have j1_ := g_
                                subst j0_
                                subst j1_
                                exact W.iret (v := (0 : Int32)) hx hb hr (fun t ht hW => ⟨⟨_, (), rfl, rfl, zPost.of hP hD hK ht hW [0, 1] rfl rfl rfl⟩, hS.F ht⟩) hS.2.2 dX11_told_177
                              · have h := zz_t h c48
                                refine lv_iconst (v := (1 : Int32)) hx hb dX11_told_168 rfl ?_
                                refine lv_goto (tgt := 177) hx hb dX11_told_169 (by decide) ?_
                                obtain ⟨j0_, g_⟩ := Prod.mk.inj (Option.some.inj h)
                                have j1_ := g_
                                subst j0_
                                subst j1_
                                exact W.iret (v := (1 : Int32)) hx hb hr (fun t ht hW => ⟨⟨_, (), rfl, rfl, zPost.of hP hD hK ht hW [0, 1] rfl rfl rfl⟩, hS.F ht⟩) hS.2.2 dX11_told_177
                          · have h := zz_f h c42
                            by_cases c49 : x2 = (12 : Int32)
                            · have h := zz_t h c49
                              refine lv_tableIn (off := 167) (tgt := 178) hx hb dX11_told_11 (by rw [c49]; decide) (by rw [c49]; decide) (by rw [c49]; rfl) (by decide) ?_
                              refine lv_aload_n hx hb dX11_told_178 rfl (lv_at hl 0 rfl) ?_
                              refine lv_iload_n hx hb dX11_told_179 rfl (lv_at hl 1 rfl) ?_
                              refine lv_iconst (v := (0 : Int32)) hx hb dX11_told_180 rfl ?_
                              obtain ⟨r50, e51, h⟩ := zz_b h
                              refine zVi (As := [.int x1, .int (0 : Int32)]) (rest := []) (C := RX11) (wr := []) [0, 1] [] 0 ⟨hx, hb, hml, hown, hts⟩ (mX11_of l D cB cI cZ a_t a_t_now a_t_kept a_t_text a_t_passing a_t_order a_t_times t_thrown_2 t_isKept t_length t_at t_fault t_open t_asked t_byGun t_prizeMost t_listed t_now H.size x1 (0 : Int32) r50 e51) (cwV 2 hts gX11_told_X11_of rfl rfl rfl (by decide +kernel) ⟨Nat.le_of_ble_eq_true rfl, Nat.le_of_ble_eq_true rfl⟩) hK hN hZ hP hD hS hA rfl rfl rfl rfl rfl rfl rfl rfl hl.1 rfl (lv_room (Nat.le_of_ble_eq_true rfl)) dX11_told_181 ⟨Nat.le_of_ble_eq_true rfl, Nat.le_of_ble_eq_true rfl⟩ (fun H locs hP hD hS => ?_)
                              have hP : va_P D vwCl [(a_t, .inr (11, [.int t_thrown_2, .ref a_t_now, .ref a_t_kept, .int t_isKept, .ref a_t_text, .int t_length, .ref a_t_passing, .int t_at, .int t_fault, .int t_open, .int t_asked, .int t_byGun, .int t_prizeMost, .ref a_t_order, .ref a_t_times, .int t_listed])), (a_t_now, .inl (cI, 1562, .inl t_now))] H := hP
                              have hD : va_D A [(a_t, .inr (11, [.int t_thrown_2, .ref a_t_now, .ref a_t_kept, .int t_isKept, .ref a_t_text, .int t_length, .ref a_t_passing, .int t_at, .int t_fault, .int t_open, .int t_asked, .int t_byGun, .int t_prizeMost, .ref a_t_order, .ref a_t_times, .int t_listed])), (a_t_now, .inl (cI, 1562, .inl t_now))] := hD
                              refine lv_iconst (v := (1 : Int32)) hx hb dX11_told_184 rfl ?_
                              refine lv_icmp_ne (tgt := 198) hx hb dX11_told_185 (by decide) (fun c52 => ?_) (fun c52 => ?_)
                              · have h := zz_f h c52
                                refine lv_iconst (v := (-1 : Int32)) hx hb dX11_told_198 rfl ?_
                                refine lv_goto (tgt := 222) hx hb dX11_told_199 (by decide) ?_
                                obtain ⟨j0_, g_⟩ := Prod.mk.inj (Option.some.inj h)
                                have j1_ := g_
                                subst j0_
                                subst j1_
                                exact W.iret (v := (-1 : Int32)) hx hb hr (fun t ht hW => ⟨⟨_, (), rfl, rfl, zPost.of hP hD hK ht hW [0, 1] rfl rfl rfl⟩, hS.F ht⟩) hS.2.2 dX11_told_222
                              · have h := zz_t h c52
                                refine lv_aload_n hx hb dX11_told_188 rfl (lv_at hl 0 rfl) ?_
                                refine lv_iload_n hx hb dX11_told_189 rfl (lv_at hl 1 rfl) ?_
                                refine lv_iconst (v := (0 : Int32)) hx hb dX11_told_190 rfl ?_
                                obtain ⟨r53, e54, h⟩ := zz_b h
                                refine zVi (As := [.int x1, .int (0 : Int32)]) (rest := []) (C := RX11) (wr := []) [0, 1] [] 0 ⟨hx, hb, hml, hown, hts⟩ (mX11_timeOf l D cB cI cZ a_t a_t_now a_t_kept a_t_text a_t_passing a_t_order a_t_times t_thrown_2 t_isKept t_length t_at t_fault t_open t_asked t_byGun t_prizeMost t_listed t_now H.size x1 (0 : Int32) N r53 e54) (cwV 2 hts gX11_told_X11_timeOf rfl rfl rfl (by decide +kernel) ⟨Nat.le_of_ble_eq_true rfl, Nat.le_of_ble_eq_true rfl⟩) hK hN hZ hP hD hS hA rfl rfl rfl rfl rfl rfl rfl rfl hl.1 rfl (lv_room (Nat.le_of_ble_eq_true rfl)) dX11_told_191 ⟨Nat.le_of_ble_eq_true rfl, Nat.le_of_ble_eq_true rfl⟩ (fun H locs hP hD hS => ?_)
                                have hP : va_P D vwCl [(a_t, .inr (11, [.int t_thrown_2, .ref a_t_now, .ref a_t_kept, .int t_isKept, .ref a_t_text, .int t_length, .ref a_t_passing, .int t_at, .int t_fault, .int t_open, .int t_asked, .int t_byGun, .int t_prizeMost, .ref a_t_order, .ref a_t_times, .int t_listed])), (a_t_now, .inl (cI, 1562, .inl t_now))] H := hP
                                have hD : va_D A [(a_t, .inr (11, [.int t_thrown_2, .ref a_t_now, .ref a_t_kept, .int t_isKept, .ref a_t_text, .int t_length, .ref a_t_passing, .int t_at, .int t_fault, .int t_open, .int t_asked, .int t_byGun, .int t_prizeMost, .ref a_t_order, .ref a_t_times, .int t_listed])), (a_t_now, .inl (cI, 1562, .inl t_now))] := hD
                                refine lv_iconst (v := (-1 : Int32)) hx hb dX11_told_194 rfl ?_
                                refine lv_icmp_ne (tgt := 202) hx hb dX11_told_195 (by decide) (fun c55 => ?_) (fun c55 => ?_)
                                · have h := zz_f h c55
                                  refine lv_aload_n hx hb dX11_told_202 rfl (lv_at hl 0 rfl) ?_
                                  refine lv_iload_n hx hb dX11_told_203 rfl (lv_at hl 1 rfl) ?_
                                  refine lv_iconst (v := (0 : Int32)) hx hb dX11_told_204 rfl ?_
                                  obtain ⟨r56, e57, h⟩ := zz_b h
                                  refine zVi (As := [.int x1, .int (0 : Int32)]) (rest := []) (C := RX11) (wr := []) [0, 1] [] 0 ⟨hx, hb, hml, hown, hts⟩ (mX11_timeOf l D cB cI cZ a_t a_t_now a_t_kept a_t_text a_t_passing a_t_order a_t_times t_thrown_2 t_isKept t_length t_at t_fault t_open t_asked t_byGun t_prizeMost t_listed t_now H.size x1 (0 : Int32) N r56 e57) (cwV 2 hts gX11_told_X11_timeOf rfl rfl rfl (by decide +kernel) ⟨Nat.le_of_ble_eq_true rfl, Nat.le_of_ble_eq_true rfl⟩) hK hN hZ hP hD hS hA rfl rfl rfl rfl rfl rfl rfl rfl hl.1 rfl (lv_room (Nat.le_of_ble_eq_true rfl)) dX11_told_205 ⟨Nat.le_of_ble_eq_true rfl, Nat.le_of_ble_eq_true rfl⟩ (fun H locs hP hD hS => ?_)
                                  have hP : va_P D vwCl [(a_t, .inr (11, [.int t_thrown_2, .ref a_t_now, .ref a_t_kept, .int t_isKept, .ref a_t_text, .int t_length, .ref a_t_passing, .int t_at, .int t_fault, .int t_open, .int t_asked, .int t_byGun, .int t_prizeMost, .ref a_t_order, .ref a_t_times, .int t_listed])), (a_t_now, .inl (cI, 1562, .inl t_now))] H := hP
                                  have hD : va_D A [(a_t, .inr (11, [.int t_thrown_2, .ref a_t_now, .ref a_t_kept, .int t_isKept, .ref a_t_text, .int t_length, .ref a_t_passing, .int t_at, .int t_fault, .int t_open, .int t_asked, .int t_byGun, .int t_prizeMost, .ref a_t_order, .ref a_t_times, .int t_listed])), (a_t_now, .inl (cI, 1562, .inl t_now))] := hD
                                  refine lv_aload_n hx hb dX11_told_208 rfl (lv_at hl 0 rfl) ?_
                                  obtain ⟨r58, e59, h⟩ := zz_b h
                                  refine zVi (As := []) (rest := [.int r56]) (C := RX11) (wr := []) [0, 1] [] 0 ⟨hx, hb, hml, hown, hts⟩ (mX11_wayLength l D cB cI cZ a_t a_t_now a_t_kept a_t_text a_t_passing a_t_order a_t_times t_thrown_2 t_isKept t_length t_at t_fault t_open t_asked t_byGun t_prizeMost t_listed t_now H.size r58 e59) (cwV 0 hts gX11_told_X11_wayLength rfl rfl rfl (by decide +kernel) ⟨Nat.le_of_ble_eq_true rfl, Nat.le_of_ble_eq_true rfl⟩) hK hN hZ hP hD hS hA rfl rfl rfl rfl rfl rfl rfl rfl hl.1 rfl (lv_room (Nat.le_of_ble_eq_true rfl)) dX11_told_209 ⟨Nat.le_of_ble_eq_true rfl, Nat.le_of_ble_eq_true rfl⟩ (fun H locs hP hD hS => ?_)
                                  have hP : va_P D vwCl [(a_t, .inr (11, [.int t_thrown_2, .ref a_t_now, .ref a_t_kept, .int t_isKept, .ref a_t_text, .int t_length, .ref a_t_passing, .int t_at, .int t_fault, .int t_open, .int t_asked, .int t_byGun, .int t_prizeMost, .ref a_t_order, .ref a_t_times, .int t_listed])), (a_t_now, .inl (cI, 1562, .inl t_now))] H := hP
                                  have hD : va_D A [(a_t, .inr (11, [.int t_thrown_2, .ref a_t_now, .ref a_t_kept, .int t_isKept, .ref a_t_text, .int t_length, .ref a_t_passing, .int t_at, .int t_fault, .int t_open, .int t_asked, .int t_byGun, .int t_prizeMost, .ref a_t_order, .ref a_t_times, .int t_listed])), (a_t_now, .inl (cI, 1562, .inl t_now))] := hD
                                  refine lv_aload_n hx hb dX11_told_212 rfl (lv_at hl 0 rfl) ?_
                                  refine lv_iload_n hx hb dX11_told_213 rfl (lv_at hl 1 rfl) ?_
                                  refine lv_iconst (v := (1 : Int32)) hx hb dX11_told_214 rfl ?_
                                  obtain ⟨r60, e61, h⟩ := zz_b h
                                  refine zVi (As := [.int x1, .int (1 : Int32)]) (rest := [.int r58, .int r56]) (C := RX11) (wr := []) [0, 1] [] 0 ⟨hx, hb, hml, hown, hts⟩ (mX11_of l D cB cI cZ a_t a_t_now a_t_kept a_t_text a_t_passing a_t_order a_t_times t_thrown_2 t_isKept t_length t_at t_fault t_open t_asked t_byGun t_prizeMost t_listed t_now H.size x1 (1 : Int32) r60 e61) (cwV 2 hts gX11_told_X11_of rfl rfl rfl (by decide +kernel) ⟨Nat.le_of_ble_eq_true rfl, Nat.le_of_ble_eq_true rfl⟩) hK hN hZ hP hD hS hA rfl rfl rfl rfl rfl rfl rfl rfl hl.1 rfl (lv_room (Nat.le_of_ble_eq_true rfl)) dX11_told_215 ⟨Nat.le_of_ble_eq_true rfl, Nat.le_of_ble_eq_true rfl⟩ (fun H locs hP hD hS => ?_)
                                  have hP : va_P D vwCl [(a_t, .inr (11, [.int t_thrown_2, .ref a_t_now, .ref a_t_kept, .int t_isKept, .ref a_t_text, .int t_length, .ref a_t_passing, .int t_at, .int t_fault, .int t_open, .int t_asked, .int t_byGun, .int t_prizeMost, .ref a_t_order, .ref a_t_times, .int t_listed])), (a_t_now, .inl (cI, 1562, .inl t_now))] H := hP
                                  have hD : va_D A [(a_t, .inr (11, [.int t_thrown_2, .ref a_t_now, .ref a_t_kept, .int t_isKept, .ref a_t_text, .int t_length, .ref a_t_passing, .int t_at, .int t_fault, .int t_open, .int t_asked, .int t_byGun, .int t_prizeMost, .ref a_t_order, .ref a_t_times, .int t_listed])), (a_t_now, .inl (cI, 1562, .inl t_now))] := hD
                                  obtain ⟨r62, e63, h⟩ := zz_b h
                                  refine zSi (As := [.int r58, .int r60]) (rest := [.int r56]) (wr := [(a_t, .inr (11, [.int t_thrown_2, .ref a_t_now, .ref a_t_kept, .int t_isKept, .ref a_t_text, .int t_length, .ref a_t_passing, .int t_at, .int t_fault, .int t_open, .int t_asked, .int t_byGun, .int t_prizeMost, .ref a_t_order, .ref a_t_times, .int t_listed])), (a_t_now, .inl (cI, 1562, .inl t_now))]) [] [0, 1] ⟨hx, hb, hml, hown, hts⟩ (mX11_made l D cB cI cZ H.size r58 r60 r62 e63) (va_cwS 2 hts gX11_told_X11_made rfl rfl rfl (by decide +kernel) ⟨Nat.le_of_ble_eq_true rfl, Nat.le_of_ble_eq_true rfl⟩) hK hN hZ hP hD hS hA rfl rfl rfl rfl rfl rfl hl.1 rfl (lv_room (Nat.le_of_ble_eq_true rfl)) dX11_told_218 ⟨Nat.le_of_ble_eq_true rfl, Nat.le_of_ble_eq_true rfl⟩ (fun H locs hP hD hS => ?_)
                                  have hP : va_P D vwCl [(a_t, .inr (11, [.int t_thrown_2, .ref a_t_now, .ref a_t_kept, .int t_isKept, .ref a_t_text, .int t_length, .ref a_t_passing, .int t_at, .int t_fault, .int t_open, .int t_asked, .int t_byGun, .int t_prizeMost, .ref a_t_order, .ref a_t_times, .int t_listed])), (a_t_now, .inl (cI, 1562, .inl t_now))] H := hP
                                  have hD : va_D A [(a_t, .inr (11, [.int t_thrown_2, .ref a_t_now, .ref a_t_kept, .int t_isKept, .ref a_t_text, .int t_length, .ref a_t_passing, .int t_at, .int t_fault, .int t_open, .int t_asked, .int t_byGun, .int t_prizeMost, .ref a_t_order, .ref a_t_times, .int t_listed])), (a_t_now, .inl (cI, 1562, .inl t_now))] := hD
                                  refine lv_isub hx hb dX11_told_221 ?_
                                  obtain ⟨j0_, g_⟩ := Prod.mk.inj (Option.some.inj h)
                                  have j1_ := g_
                                  subst j0_
                                  subst j1_
                                  exact W.iret (v := (r56 - r62)) hx hb hr (fun t ht hW => ⟨⟨_, (), rfl, rfl, zPost.of hP hD hK ht hW [0, 1] rfl rfl rfl⟩, hS.F ht⟩) hS.2.2 dX11_told_222
                                · have h := zz_t h c55
                                  refine lv_iconst (v := (-1 : Int32)) hx hb dX11_told_198 rfl ?_
                                  refine lv_goto (tgt := 222) hx hb dX11_told_199 (by decide) ?_
                                  obtain ⟨j0_, g_⟩ := Prod.mk.inj (Option.some.inj h)
                                  have j1_ := g_
                                  subst j0_
                                  subst j1_
                                  exact W.iret (v := (-1 : Int32)) hx hb hr (fun t ht hW => ⟨⟨_, (), rfl, rfl, zPost.of hP hD hK ht hW [0, 1] rfl rfl rfl⟩, hS.F ht⟩) hS.2.2 dX11_told_222
                            · have h := zz_f h c49
                              by_cases c64 : x2 = (13 : Int32)
                              · have h := zz_t h c64
                                refine lv_tableIn (off := 212) (tgt := 223) hx hb dX11_told_11 (by rw [c64]; decide) (by rw [c64]; decide) (by rw [c64]; rfl) (by decide) ?_
                                refine lv_aload_n hx hb dX11_told_223 rfl (lv_at hl 0 rfl) ?_
                                refine lv_iload_n hx hb dX11_told_224 rfl (lv_at hl 1 rfl) ?_
                                refine lv_bipush (v := (9 : Int32)) hx hb dX11_told_225 rfl ?_
                                obtain ⟨r65, e66, h⟩ := zz_b h
                                refine zVi (As := [.int x1, .int (9 : Int32)]) (rest := []) (C := RX11) (wr := []) [0, 1] [] 0 ⟨hx, hb, hml, hown, hts⟩ (mX11_of l D cB cI cZ a_t a_t_now a_t_kept a_t_text a_t_passing a_t_order a_t_times t_thrown_2 t_isKept t_length t_at t_fault t_open t_asked t_byGun t_prizeMost t_listed t_now H.size x1 (9 : Int32) r65 e66) (cwV 2 hts gX11_told_X11_of rfl rfl rfl (by decide +kernel) ⟨Nat.le_of_ble_eq_true rfl, Nat.le_of_ble_eq_true rfl⟩) hK hN hZ hP hD hS hA rfl rfl rfl rfl rfl rfl rfl rfl hl.1 rfl (lv_room (Nat.le_of_ble_eq_true rfl)) dX11_told_227 ⟨Nat.le_of_ble_eq_true rfl, Nat.le_of_ble_eq_true rfl⟩ (fun H locs hP hD hS => ?_)
                                have hP : va_P D vwCl [(a_t, .inr (11, [.int t_thrown_2, .ref a_t_now, .ref a_t_kept, .int t_isKept, .ref a_t_text, .int t_length, .ref a_t_passing, .int t_at, .int t_fault, .int t_open, .int t_asked, .int t_byGun, .int t_prizeMost, .ref a_t_order, .ref a_t_times, .int t_listed])), (a_t_now, .inl (cI, 1562, .inl t_now))] H := hP
                                have hD : va_D A [(a_t, .inr (11, [.int t_thrown_2, .ref a_t_now, .ref a_t_kept, .int t_isKept, .ref a_t_text, .int t_length, .ref a_t_passing, .int t_at, .int t_fault, .int t_open, .int t_asked, .int t_byGun, .int t_prizeMost, .ref a_t_order, .ref a_t_times, .int t_listed])), (a_t_now, .inl (cI, 1562, .inl t_now))] := hD
                                obtain ⟨j0_, g_⟩ := Prod.mk.inj (Option.some.inj h)
                                have j1_ := g_
                                subst j0_
                                subst j1_
                                exact W.iret (v := r65) hx hb hr (fun t ht hW => ⟨⟨_, (), rfl, rfl, zPost.of hP hD hK ht hW [0, 1] rfl rfl rfl⟩, hS.F ht⟩) hS.2.2 dX11_told_230
                              · have h := zz_f h c64
                                refine lv_tableOut (tgt := 231) hx hb dX11_told_11 (by have n0_ := lv_neT c5 (a := 0) rfl; have n1_ := lv_neT c8 (a := 1) rfl; have n2_ := lv_neT c11 (a := 2) rfl; have n3_ := lv_neT c14 (a := 3) rfl; have n4_ := lv_neT c17 (a := 4) rfl; have n5_ := lv_neT c20 (a := 5) rfl; have n6_ := lv_neT c23 (a := 6) rfl; have n7_ := lv_neT c26 (a := 7) rfl; have n8_ := lv_neT c29 (a := 8) rfl; have n9_ := lv_neT c36 (a := 9) rfl; have n10_ := lv_neT c39 (a := 10) rfl; have n11_ := lv_neT c42 (a := 11) rfl; have n12_ := lv_neT c49 (a := 12) rfl; have n13_ := lv_neT c64 (a := 13) rfl; omega) (by decide) ?_
                                refine lv_iconst (v := (-1 : Int32)) hx hb dX11_told_231 rfl ?_
                                obtain ⟨j0_, g_⟩ := Prod.mk.inj (Option.some.inj h)
                                have j1_ := g_
                                subst j0_
                                subst j1_
                                exact W.iret (v := (-1 : Int32)) hx hb hr (fun t ht hW => ⟨⟨_, (), rfl, rfl, zPost.of hP hD hK ht hW [0, 1] rfl rfl rfl⟩, hS.F ht⟩) hS.2.2 dX11_told_232
  · have h := zz_t h c4
    refine lv_iconst (v := (-1 : Int32)) hx hb dX11_told_8 rfl ?_
    obtain ⟨j0_, g_⟩ := Prod.mk.inj (Option.some.inj h)
    have j1_ := g_
    subst j0_
    subst j1_
    exact W.iret (v := (-1 : Int32)) hx hb hr (fun t ht hW => ⟨⟨_, (), rfl, rfl, zPost.of hP hD hK ht hW [0, 1] rfl rfl rfl⟩, hS.F ht⟩) hS.2.2 dX11_told_9
/-! RunDeskModel.madeUp -/
theorem dX11_madeUp_0 : decode cX11_madeUp 0 = .ok (.iload_n 0, 1) := by decide +kernel
theorem dX11_madeUp_1 : decode cX11_madeUp 1 = .ok (.i2l, 1) := by decide +kernel
theorem dX11_madeUp_2 : decode cX11_madeUp 2 = .ok (.iload_n 1, 1) := by decide +kernel
theorem dX11_madeUp_3 : decode cX11_madeUp 3 = .ok (.i2l, 1) := by decide +kernel
theorem dX11_madeUp_4 : decode cX11_madeUp 4 = .ok (.lmul, 1) := by decide +kernel
theorem dX11_madeUp_5 : decode cX11_madeUp 5 = .ok (.ldc2_w 110, 3) := by decide +kernel
theorem dX11_madeUp_8 : decode cX11_madeUp 8 = .ok (.ladd, 1) := by decide +kernel
theorem dX11_madeUp_9 : decode cX11_madeUp 9 = .ok (.ldc2_w 108, 3) := by decide +kernel
theorem dX11_madeUp_12 : decode cX11_madeUp 12 = .ok (.ldiv, 1) := by decide +kernel
theorem dX11_madeUp_13 : decode cX11_madeUp 13 = .ok (.l2i, 1) := by decide +kernel
theorem dX11_madeUp_14 : decode cX11_madeUp 14 = .ok (.ireturn, 1) := by decide +kernel
def fX11_madeUp (x1 : Int32) (x2 : Int32) : Option (Int32) := some ((((((x1).toInt64 * (x2).toInt64) + (999 : Int64)) / (1000 : Int64))).toInt32)
theorem kX11_madeUp_0 : (.constantLong RX11 110 (999) : Cond) ∈ wsX11_madeUp := List.mem_of_getElem? (i := 1) (by decide +kernel)
theorem kX11_madeUp_1 : (.constantLong RX11 108 (1000) : Cond) ∈ wsX11_madeUp := List.mem_of_getElem? (i := 2) (by decide +kernel)
set_option maxHeartbeats 4000000 in
set_option maxRecDepth 100000 in
theorem mX11_madeUp (l : Launch) (D : va_G) (cB cI cZ : ClassId) (sz : Nat) (x1 : Int32) (x2 : Int32) (r0 : Int32) (h : fX11_madeUp x1 x2 = some (r0)) : Met l yX11_madeUp wsX11_madeUp ({ frames := 0, cells := 0, slots := 0, locals := 0 } : Room) (va_Pc [.int x1, .int x2] (zPre D (zT cB cI cZ) [] sz)) (zQi r0 D (zT cB cI cZ) [] (va_A [] sz)) 0 0 (va_A [] sz) := by
  refine Met.ofW (cc := cX11_madeUp) (maxL := 2) (ret := (some .int)) (by decide) rfl ?_
  intro p e s m args below meth c s₁ B hml hv
  obtain ⟨rfl, hsz, hP, hK, hN, hZ, hD0⟩ := hv
  have hx := B.exec
  have hb := B.bytes
  have hr := B.returns
  have hts := atoms_spec (ws := wsX11_madeUp) B.pre
  have hown : s.vm.findClass RX11 = some m.cls := findClass_of_methodNamed B.named
  have hlocks := B.notSynchronized
  subst hsz
  have hD := hD0.self (sz := s.heap.size)
  generalize hAe : va_A [] s.heap.size = A at hD hZ ⊢
  have hA : ∀ q : Nat, s.heap.size ≤ q → A q := fun q h => by rw [← hAe]; exact Or.inr h
  have hS : va_S A s.heap s.heap [] := va_S.rf
  have hl := lv_entry ([.int x1, .int x2]) (n := 2) (Nat.le_of_ble_eq_true rfl)
  rw [lg_entry_eq]
  generalize (lg_sl ([.int x1, .int x2]) ++ List.replicate (2 - (lg_sl ([.int x1, .int x2])).length) Slot.unset).toArray = ls at hl ⊢
  have hl : lv_has ls 2 [(0, .int x1), (1, .int x2)] := hl
  unfold fX11_madeUp at h
  refine lv_iload_n hx hb dX11_madeUp_0 rfl (lv_at hl 0 rfl) ?_
  refine lv_i2l hx hb dX11_madeUp_1 rfl ?_
  refine lv_iload_n hx hb dX11_madeUp_2 rfl (lv_at hl 1 rfl) ?_
  refine lv_i2l hx hb dX11_madeUp_3 rfl ?_
  refine lv_lmul hx hb dX11_madeUp_4 ?_
  refine lv_ldc2 (v := (999 : Int64)) hx hb hown (hts _ kX11_madeUp_0) dX11_madeUp_5 ?_
  refine lv_ladd hx hb dX11_madeUp_8 ?_
  refine lv_ldc2 (v := (1000 : Int64)) hx hb hown (hts _ kX11_madeUp_1) dX11_madeUp_9 ?_
  refine lv_ldiv hx hb dX11_madeUp_12 (by decide) ?_
  refine lv_l2i hx hb dX11_madeUp_13 rfl ?_
  have j0_ := Option.some.inj h
  subst j0_
  exact W.iret (v := (((((x1).toInt64 * (x2).toInt64) + (999 : Int64)) / (1000 : Int64))).toInt32) hx hb hr (fun t ht hW => ⟨⟨_, (), rfl, rfl, zPost.of hP hD hK ht hW [] rfl rfl rfl⟩, hS.F ht⟩) hS.2.2 dX11_madeUp_14
/-! RunDeskModel.split -/
theorem dX11_split_0 : decode cX11_split 0 = .ok (.aload_n 0, 1) := by decide +kernel
theorem dX11_split_1 : decode cX11_split 1 = .ok (.iload_n 1, 1) := by decide +kernel
theorem dX11_split_2 : decode cX11_split 2 = .ok (.invokevirtual 65, 3) := by decide +kernel
theorem dX11_split_5 : decode cX11_split 5 = .ok (.ifCond .eq 11, 3) := by decide +kernel
theorem dX11_split_8 : decode cX11_split 8 = .ok (.aload_n 0, 1) := by decide +kernel
theorem dX11_split_9 : decode cX11_split 9 = .ok (.iload_n 2, 1) := by decide +kernel
theorem dX11_split_10 : decode cX11_split 10 = .ok (.invokevirtual 69, 3) := by decide +kernel
theorem dX11_split_13 : decode cX11_split 13 = .ok (.ifCond .ne 7, 3) := by decide +kernel
theorem dX11_split_16 : decode cX11_split 16 = .ok (.iconst (-1), 1) := by decide +kernel
theorem dX11_split_17 : decode cX11_split 17 = .ok (.goto 9, 3) := by decide +kernel
theorem dX11_split_20 : decode cX11_split 20 = .ok (.aload_n 0, 1) := by decide +kernel
theorem dX11_split_21 : decode cX11_split 21 = .ok (.iload_n 1, 1) := by decide +kernel
theorem dX11_split_22 : decode cX11_split 22 = .ok (.iload_n 2, 1) := by decide +kernel
theorem dX11_split_23 : decode cX11_split 23 = .ok (.invokevirtual 76, 3) := by decide +kernel
theorem dX11_split_26 : decode cX11_split 26 = .ok (.ireturn, 1) := by decide +kernel
set_option maxRecDepth 20000 in
theorem ggX11_split_X11_isRunner : GoodIn wsX11_split wsX11_isRunner := goodIn_r _ [5, 6, 7, 8, 9, 4, 10, 11, 28, 29, 30, 31, 32, 33, 34, 35, 36, 37, 38, 39, 40, 41, 42, 43] (by decide +kernel) (by decide +kernel)
set_option maxRecDepth 20000 in
theorem gX11_split_X11_isRunner : GoodIn wsX11_split (wsV RX11 65 RX11 yX11_isRunner wsX11_isRunner) := goodIn_app (goodIn_of _ (by decide +kernel)) ggX11_split_X11_isRunner
set_option maxRecDepth 20000 in
theorem ggX11_split_X11_isMat : GoodIn wsX11_split wsX11_isMat := goodIn_r _ [15, 16, 17, 18, 4, 19, 11, 28, 29, 30, 31, 32, 33, 34, 35, 36, 37, 38, 39, 40, 41, 42, 43] (by decide +kernel) (by decide +kernel)
set_option maxRecDepth 20000 in
theorem gX11_split_X11_isMat : GoodIn wsX11_split (wsV RX11 69 RX11 yX11_isMat wsX11_isMat) := goodIn_app (goodIn_of _ (by decide +kernel)) ggX11_split_X11_isMat
set_option maxRecDepth 20000 in
theorem ggX11_split_X11_splitOf : GoodIn wsX11_split wsX11_splitOf := goodIn_r _ [23, 24, 25, 26, 4, 27, 11, 28, 29, 30, 31, 32, 33, 34, 35, 36, 37, 38, 39, 40, 41, 42, 43] (by decide +kernel) (by decide +kernel)
set_option maxRecDepth 20000 in
theorem gX11_split_X11_splitOf : GoodIn wsX11_split (wsV RX11 76 RX11 yX11_splitOf wsX11_splitOf) := goodIn_app (goodIn_of _ (by decide +kernel)) ggX11_split_X11_splitOf
def fX11_split (t_thrown : Int32) (t_now : Nat → Int32) (x1 : Int32) (x2 : Int32) : Option (Int32 × Int32) := ((fX11_isRunner t_thrown t_now x1).bind (fun (b1, t_thrown_2) => (if (zb b1) = 0 then some ((-1 : Int32), t_thrown_2) else ((fX11_isMat t_now x2).bind (fun b5 => (if (zb b5) = 0 then some ((-1 : Int32), t_thrown_2) else ((fX11_splitOf t_now x1 x2).bind (fun r8 => some (r8, t_thrown_2)))))))))
set_option maxHeartbeats 4000000 in
set_option maxRecDepth 100000 in
theorem mX11_split (l : Launch) (D : va_G) (cB cI cZ : ClassId) (a_t : Nat) (a_t_now : Nat) (a_t_kept : Nat) (a_t_text : Nat) (a_t_passing : Nat) (a_t_order : Nat) (a_t_times : Nat) (t_thrown : Int32) (t_isKept : Int32) (t_length : Int32) (t_at : Int32) (t_fault : Int32) (t_open : Int32) (t_asked : Int32) (t_byGun : Int32) (t_prizeMost : Int32) (t_listed : Int32) (t_now : Nat → Int32) (sz : Nat) (x1 : Int32) (x2 : Int32) (r0 : Int32) (t_thrown' : Int32) (h : fX11_split t_thrown t_now x1 x2 = some (r0, t_thrown')) : Met l yX11_split wsX11_split ({ frames := 2, cells := 0, slots := 0, locals := 44 } : Room) (va_Pc [.ref a_t, .int x1, .int x2] (zPre D (zT cB cI cZ) [(a_t, .inr (11, [.int t_thrown, .ref a_t_now, .ref a_t_kept, .int t_isKept, .ref a_t_text, .int t_length, .ref a_t_passing, .int t_at, .int t_fault, .int t_open, .int t_asked, .int t_byGun, .int t_prizeMost, .ref a_t_order, .ref a_t_times, .int t_listed])), (a_t_now, .inl (cI, 1562, .inl t_now))] sz)) (zQi r0 D (zT cB cI cZ) [(a_t, .inr (11, [.int t_thrown', .ref a_t_now, .ref a_t_kept, .int t_isKept, .ref a_t_text, .int t_length, .ref a_t_passing, .int t_at, .int t_fault, .int t_open, .int t_asked, .int t_byGun, .int t_prizeMost, .ref a_t_order, .ref a_t_times, .int t_listed])), (a_t_now, .inl (cI, 1562, .inl t_now))] (va_A [(a_t, .inr (11, [.int t_thrown, .ref a_t_now, .ref a_t_kept, .int t_isKept, .ref a_t_text, .int t_length, .ref a_t_passing, .int t_at, .int t_fault, .int t_open, .int t_asked, .int t_byGun, .int t_prizeMost, .ref a_t_order, .ref a_t_times, .int t_listed])), (a_t_now, .inl (cI, 1562, .inl t_now))] sz)) 0 0 (va_A [(a_t, .inr (11, [.int t_thrown, .ref a_t_now, .ref a_t_kept, .int t_isKept, .ref a_t_text, .int t_length, .ref a_t_passing, .int t_at, .int t_fault, .int t_open, .int t_asked, .int t_byGun, .int t_prizeMost, .ref a_t_order, .ref a_t_times, .int t_listed])), (a_t_now, .inl (cI, 1562, .inl t_now))] sz) := by
  refine Met.ofW (cc := cX11_split) (maxL := 3) (ret := (some .int)) (by decide) rfl ?_
  intro p e s m args below meth c s₁ B hml hv
  obtain ⟨rfl, hsz, hP, hK, hN, hZ, hD0⟩ := hv
  have hx := B.exec
  have hb := B.bytes
  have hr := B.returns
  have hts := atoms_spec (ws := wsX11_split) B.pre
  have hown : s.vm.findClass RX11 = some m.cls := findClass_of_methodNamed B.named
  have hlocks := B.notSynchronized
  subst hsz
  have hD := hD0.self (sz := s.heap.size)
  generalize hAe : va_A [(a_t, .inr (11, [.int t_thrown, .ref a_t_now, .ref a_t_kept, .int t_isKept, .ref a_t_text, .int t_length, .ref a_t_passing, .int t_at, .int t_fault, .int t_open, .int t_asked, .int t_byGun, .int t_prizeMost, .ref a_t_order, .ref a_t_times, .int t_listed])), (a_t_now, .inl (cI, 1562, .inl t_now))] s.heap.size = A at hD hZ ⊢
  have hA : ∀ q : Nat, s.heap.size ≤ q → A q := fun q h => by rw [← hAe]; exact Or.inr h
  have hS : va_S A s.heap s.heap [] := va_S.rf
  have hl := lv_entry ([.ref a_t, .int x1, .int x2]) (n := 3) (Nat.le_of_ble_eq_true rfl)
  rw [lg_entry_eq]
  generalize (lg_sl ([.ref a_t, .int x1, .int x2]) ++ List.replicate (3 - (lg_sl ([.ref a_t, .int x1, .int x2])).length) Slot.unset).toArray = ls at hl ⊢
  have hl : lv_has ls 3 [(0, .ref a_t), (1, .int x1), (2, .int x2)] := hl
  unfold fX11_split at h
  refine lv_aload_n hx hb dX11_split_0 rfl (lv_at hl 0 rfl) ?_
  refine lv_iload_n hx hb dX11_split_1 rfl (lv_at hl 1 rfl) ?_
  obtain ⟨⟨b1, t_thrown_2⟩, e3, h⟩ := zz_b h
  dsimp only at h
  refine zVi (As := [.int x1]) (rest := []) (C := RX11) (wr := []) [0, 1] [] 0 ⟨hx, hb, hml, hown, hts⟩ (mX11_isRunner l D cB cI cZ a_t a_t_now a_t_kept a_t_text a_t_passing a_t_order a_t_times t_thrown t_isKept t_length t_at t_fault t_open t_asked t_byGun t_prizeMost t_listed t_now s.heap.size x1 b1 t_thrown_2 e3) (cwV 1 hts gX11_split_X11_isRunner rfl rfl rfl (by decide +kernel) ⟨Nat.le_of_ble_eq_true rfl, Nat.le_of_ble_eq_true rfl⟩) hK hN hZ hP hD hS hA rfl rfl rfl rfl rfl rfl rfl rfl hl.1 rfl (lv_room (Nat.le_of_ble_eq_true rfl)) dX11_split_2 ⟨Nat.le_of_ble_eq_true rfl, Nat.le_of_ble_eq_true rfl⟩ (fun H locs hP hD hS => ?_)
  have hP : va_P D vwCl [(a_t, .inr (11, [.int t_thrown_2, .ref a_t_now, .ref a_t_kept, .int t_isKept, .ref a_t_text, .int t_length, .ref a_t_passing, .int t_at, .int t_fault, .int t_open, .int t_asked, .int t_byGun, .int t_prizeMost, .ref a_t_order, .ref a_t_times, .int t_listed])), (a_t_now, .inl (cI, 1562, .inl t_now))] H := hP
  have hD : va_D A [(a_t, .inr (11, [.int t_thrown_2, .ref a_t_now, .ref a_t_kept, .int t_isKept, .ref a_t_text, .int t_length, .ref a_t_passing, .int t_at, .int t_fault, .int t_open, .int t_asked, .int t_byGun, .int t_prizeMost, .ref a_t_order, .ref a_t_times, .int t_listed])), (a_t_now, .inl (cI, 1562, .inl t_now))] := hD
  refine lv_if_eq (tgt := 16) hx hb dX11_split_5 (by decide) (fun c4 => ?_) (fun c4 => ?_)
  · have h := zz_t h c4
    refine lv_iconst (v := (-1 : Int32)) hx hb dX11_split_16 rfl ?_
    refine lv_goto (tgt := 26) hx hb dX11_split_17 (by decide) ?_
    obtain ⟨j0_, g_⟩ := Prod.mk.inj (Option.some.inj h)
    have j1_ := g_
    subst j0_
    subst j1_
    exact W.iret (v := (-1 : Int32)) hx hb hr (fun t ht hW => ⟨⟨_, (), rfl, rfl, zPost.of hP hD hK ht hW [0, 1] rfl rfl rfl⟩, hS.F ht⟩) hS.2.2 dX11_split_26
  · have h := zz_f h c4
    refine lv_aload_n hx hb dX11_split_8 rfl (lv_at hl 0 rfl) ?_
    refine lv_iload_n hx hb dX11_split_9 rfl (lv_at hl 2 rfl) ?_
    obtain ⟨b5, e6, h⟩ := zz_b h
    refine zVi (As := [.int x2]) (rest := []) (C := RX11) (wr := []) [0, 1] [] 0 ⟨hx, hb, hml, hown, hts⟩ (mX11_isMat l D cB cI cZ a_t a_t_now a_t_kept a_t_text a_t_passing a_t_order a_t_times t_thrown_2 t_isKept t_length t_at t_fault t_open t_asked t_byGun t_prizeMost t_listed t_now H.size x2 b5 e6) (cwV 1 hts gX11_split_X11_isMat rfl rfl rfl (by decide +kernel) ⟨Nat.le_of_ble_eq_true rfl, Nat.le_of_ble_eq_true rfl⟩) hK hN hZ hP hD hS hA rfl rfl rfl rfl rfl rfl rfl rfl hl.1 rfl (lv_room (Nat.le_of_ble_eq_true rfl)) dX11_split_10 ⟨Nat.le_of_ble_eq_true rfl, Nat.le_of_ble_eq_true rfl⟩ (fun H locs hP hD hS => ?_)
    have hP : va_P D vwCl [(a_t, .inr (11, [.int t_thrown_2, .ref a_t_now, .ref a_t_kept, .int t_isKept, .ref a_t_text, .int t_length, .ref a_t_passing, .int t_at, .int t_fault, .int t_open, .int t_asked, .int t_byGun, .int t_prizeMost, .ref a_t_order, .ref a_t_times, .int t_listed])), (a_t_now, .inl (cI, 1562, .inl t_now))] H := hP
    have hD : va_D A [(a_t, .inr (11, [.int t_thrown_2, .ref a_t_now, .ref a_t_kept, .int t_isKept, .ref a_t_text, .int t_length, .ref a_t_passing, .int t_at, .int t_fault, .int t_open, .int t_asked, .int t_byGun, .int t_prizeMost, .ref a_t_order, .ref a_t_times, .int t_listed])), (a_t_now, .inl (cI, 1562, .inl t_now))] := hD
    refine lv_if_ne (tgt := 20) hx hb dX11_split_13 (by decide) (fun c7 => ?_) (fun c7 => ?_)
    · have h := zz_f h c7
      refine lv_aload_n hx hb dX11_split_20 rfl (lv_at hl 0 rfl) ?_
      refine lv_iload_n hx hb dX11_split_21 rfl (lv_at hl 1 rfl) ?_
      refine lv_iload_n hx hb dX11_split_22 rfl (lv_at hl 2 rfl) ?_
      obtain ⟨r8, e9, h⟩ := zz_b h
      refine zVi (As := [.int x1, .int x2]) (rest := []) (C := RX11) (wr := []) [0, 1] [] 0 ⟨hx, hb, hml, hown, hts⟩ (mX11_splitOf l D cB cI cZ a_t a_t_now a_t_kept a_t_text a_t_passing a_t_order a_t_times t_thrown_2 t_isKept t_length t_at t_fault t_open t_asked t_byGun t_prizeMost t_listed t_now H.size x1 x2 r8 e9) (cwV 2 hts gX11_split_X11_splitOf rfl rfl rfl (by decide +kernel) ⟨Nat.le_of_ble_eq_true rfl, Nat.le_of_ble_eq_true rfl⟩) hK hN hZ hP hD hS hA rfl rfl rfl rfl rfl rfl rfl rfl hl.1 rfl (lv_room (Nat.le_of_ble_eq_true rfl)) dX11_split_23 ⟨Nat.le_of_ble_eq_true rfl, Nat.le_of_ble_eq_true rfl⟩ (fun H locs hP hD hS => ?_)
      have hP : va_P D vwCl [(a_t, .inr (11, [.int t_thrown_2, .ref a_t_now, .ref a_t_kept, .int t_isKept, .ref a_t_text, .int t_length, .ref a_t_passing, .int t_at, .int t_fault, .int t_open, .int t_asked, .int t_byGun, .int t_prizeMost, .ref a_t_order, .ref a_t_times, .int t_listed])), (a_t_now, .inl (cI, 1562, .inl t_now))] H := hP
      have hD : va_D A [(a_t, .inr (11, [.int t_thrown_2, .ref a_t_now, .ref a_t_kept, .int t_isKept, .ref a_t_text, .int t_length, .ref a_t_passing, .int t_at, .int t_fault, .int t_open, .int t_asked, .int t_byGun, .int t_prizeMost, .ref a_t_order, .ref a_t_times, .int t_listed])), (a_t_now, .inl (cI, 1562, .inl t_now))] := hD
      obtain ⟨j0_, g_⟩ := Prod.mk.inj (Option.some.inj h)
      have j1_ := g_
      subst j0_
      subst j1_
      exact W.iret (v := r8) hx hb hr (fun t ht hW => ⟨⟨_, (), rfl, rfl, zPost.of hP hD hK ht hW [0, 1] rfl rfl rfl⟩, hS.F ht⟩) hS.2.2 dX11_split_26
    · have h := zz_t h c7
      refine lv_iconst (v := (-1 : Int32)) hx hb dX11_split_16 rfl ?_
      refine lv_goto (tgt := 26) hx hb dX11_split_17 (by decide) ?_
      obtain ⟨j0_, g_⟩ := Prod.mk.inj (Option.some.inj h)
      have j1_ := g_
      subst j0_
      subst j1_
      exact W.iret (v := (-1 : Int32)) hx hb hr (fun t ht hW => ⟨⟨_, (), rfl, rfl, zPost.of hP hD hK ht hW [0, 1] rfl rfl rfl⟩, hS.F ht⟩) hS.2.2 dX11_split_26
