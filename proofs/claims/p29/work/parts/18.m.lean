/-! RunDeskModel.isOut -/
theorem dX11_isOut_0 : decode cX11_isOut 0 = .ok (.iconst 0, 1) := by decide +kernel
theorem dX11_isOut_1 : decode cX11_isOut 1 = .ok (.istore_n 2, 1) := by decide +kernel
theorem dX11_isOut_2 : decode cX11_isOut 2 = .ok (.iconst 0, 1) := by decide +kernel
theorem dX11_isOut_3 : decode cX11_isOut 3 = .ok (.istore_n 3, 1) := by decide +kernel
theorem dX11_isOut_4 : decode cX11_isOut 4 = .ok (.iload_n 3, 1) := by decide +kernel
theorem dX11_isOut_5 : decode cX11_isOut 5 = .ok (.aload_n 0, 1) := by decide +kernel
theorem dX11_isOut_6 : decode cX11_isOut 6 = .ok (.invokevirtual 41, 3) := by decide +kernel
theorem dX11_isOut_9 : decode cX11_isOut 9 = .ok (.if_icmp .ge 44, 3) := by decide +kernel
theorem dX11_isOut_12 : decode cX11_isOut 12 = .ok (.iload_n 2, 1) := by decide +kernel
theorem dX11_isOut_13 : decode cX11_isOut 13 = .ok (.ifCond .ne 28, 3) := by decide +kernel
theorem dX11_isOut_16 : decode cX11_isOut 16 = .ok (.aload_n 0, 1) := by decide +kernel
theorem dX11_isOut_17 : decode cX11_isOut 17 = .ok (.iload_n 3, 1) := by decide +kernel
theorem dX11_isOut_18 : decode cX11_isOut 18 = .ok (.iconst 3, 1) := by decide +kernel
theorem dX11_isOut_19 : decode cX11_isOut 19 = .ok (.invokevirtual 56, 3) := by decide +kernel
theorem dX11_isOut_22 : decode cX11_isOut 22 = .ok (.iconst (-1), 1) := by decide +kernel
theorem dX11_isOut_23 : decode cX11_isOut 23 = .ok (.if_icmp .eq 22, 3) := by decide +kernel
theorem dX11_isOut_26 : decode cX11_isOut 26 = .ok (.aload_n 0, 1) := by decide +kernel
theorem dX11_isOut_27 : decode cX11_isOut 27 = .ok (.iload_n 1, 1) := by decide +kernel
theorem dX11_isOut_28 : decode cX11_isOut 28 = .ok (.iload_n 3, 1) := by decide +kernel
theorem dX11_isOut_29 : decode cX11_isOut 29 = .ok (.invokevirtual 76, 3) := by decide +kernel
theorem dX11_isOut_32 : decode cX11_isOut 32 = .ok (.aload_n 0, 1) := by decide +kernel
theorem dX11_isOut_33 : decode cX11_isOut 33 = .ok (.iload_n 3, 1) := by decide +kernel
theorem dX11_isOut_34 : decode cX11_isOut 34 = .ok (.iconst 3, 1) := by decide +kernel
theorem dX11_isOut_35 : decode cX11_isOut 35 = .ok (.invokevirtual 56, 3) := by decide +kernel
theorem dX11_isOut_38 : decode cX11_isOut 38 = .ok (.if_icmp .le 7, 3) := by decide +kernel
theorem dX11_isOut_41 : decode cX11_isOut 41 = .ok (.iconst 1, 1) := by decide +kernel
theorem dX11_isOut_42 : decode cX11_isOut 42 = .ok (.goto 4, 3) := by decide +kernel
theorem dX11_isOut_45 : decode cX11_isOut 45 = .ok (.iconst 0, 1) := by decide +kernel
theorem dX11_isOut_46 : decode cX11_isOut 46 = .ok (.istore_n 2, 1) := by decide +kernel
theorem dX11_isOut_47 : decode cX11_isOut 47 = .ok (.iinc 3 1, 3) := by decide +kernel
theorem dX11_isOut_50 : decode cX11_isOut 50 = .ok (.goto (-46), 3) := by decide +kernel
theorem dX11_isOut_53 : decode cX11_isOut 53 = .ok (.iload_n 2, 1) := by decide +kernel
theorem dX11_isOut_54 : decode cX11_isOut 54 = .ok (.ifCond .eq 17, 3) := by decide +kernel
theorem dX11_isOut_57 : decode cX11_isOut 57 = .ok (.aload_n 0, 1) := by decide +kernel
theorem dX11_isOut_58 : decode cX11_isOut 58 = .ok (.iload_n 1, 1) := by decide +kernel
theorem dX11_isOut_59 : decode cX11_isOut 59 = .ok (.bipush 7, 2) := by decide +kernel
theorem dX11_isOut_61 : decode cX11_isOut 61 = .ok (.invokevirtual 62, 3) := by decide +kernel
theorem dX11_isOut_64 : decode cX11_isOut 64 = .ok (.ifCond .ne 7, 3) := by decide +kernel
theorem dX11_isOut_67 : decode cX11_isOut 67 = .ok (.iconst 1, 1) := by decide +kernel
theorem dX11_isOut_68 : decode cX11_isOut 68 = .ok (.goto 4, 3) := by decide +kernel
theorem dX11_isOut_71 : decode cX11_isOut 71 = .ok (.iconst 0, 1) := by decide +kernel
theorem dX11_isOut_72 : decode cX11_isOut 72 = .ok (.ireturn, 1) := by decide +kernel
set_option maxRecDepth 20000 in
theorem ggX11_isOut_X11_mats : GoodIn wsX11_isOut wsX11_mats := goodIn_sub (List.forall_mem_cons.mpr ⟨List.mem_cons_of_mem _ (List.mem_append_left _ (List.mem_of_getElem? (i := 4) rfl)), (List.forall_mem_append.mpr ⟨(List.forall_mem_cons.mpr ⟨List.mem_cons_of_mem _ (List.mem_append_left _ (List.mem_of_getElem? (i := 5) rfl)), (fun _ h => nomatch h)⟩), (fun _ h => List.mem_cons_of_mem _ (List.mem_append_right _ (h)))⟩)⟩) (by decide +kernel)
set_option maxRecDepth 20000 in
theorem gX11_isOut_X11_mats : GoodIn wsX11_isOut (wsV RX11 41 RX11 yX11_mats wsX11_mats) := goodIn_app (goodIn_of _ (by decide +kernel)) ggX11_isOut_X11_mats
set_option maxRecDepth 20000 in
theorem ggX11_isOut_X11_ofMat : GoodIn wsX11_isOut wsX11_ofMat := goodIn_sub (List.forall_mem_cons.mpr ⟨List.mem_cons_of_mem _ (List.mem_append_left _ (List.mem_of_getElem? (i := 9) rfl)), (List.forall_mem_append.mpr ⟨(List.forall_mem_cons.mpr ⟨List.mem_cons_of_mem _ (List.mem_append_left _ (List.mem_of_getElem? (i := 5) rfl)), (fun _ h => nomatch h)⟩), (fun _ h => List.mem_cons_of_mem _ (List.mem_append_right _ (h)))⟩)⟩) (by decide +kernel)
set_option maxRecDepth 20000 in
theorem gX11_isOut_X11_ofMat : GoodIn wsX11_isOut (wsV RX11 56 RX11 yX11_ofMat wsX11_ofMat) := goodIn_app (goodIn_of _ (by decide +kernel)) ggX11_isOut_X11_ofMat
set_option maxRecDepth 20000 in
theorem ggX11_isOut_X11_splitOf : GoodIn wsX11_isOut wsX11_splitOf := goodIn_sub (List.forall_mem_cons.mpr ⟨List.mem_cons_of_mem _ (List.mem_append_left _ (List.mem_of_getElem? (i := 13) rfl)), (List.forall_mem_append.mpr ⟨(List.forall_mem_cons.mpr ⟨List.mem_cons_of_mem _ (List.mem_append_left _ (List.mem_of_getElem? (i := 14) rfl)), (List.forall_mem_cons.mpr ⟨List.mem_cons_of_mem _ (List.mem_append_left _ (List.mem_of_getElem? (i := 15) rfl)), (List.forall_mem_cons.mpr ⟨List.mem_cons_of_mem _ (List.mem_append_left _ (List.mem_of_getElem? (i := 16) rfl)), (List.forall_mem_cons.mpr ⟨List.mem_cons_of_mem _ (List.mem_append_left _ (List.mem_of_getElem? (i := 3) rfl)), (List.forall_mem_cons.mpr ⟨List.mem_cons_of_mem _ (List.mem_append_left _ (List.mem_of_getElem? (i := 17) rfl)), (List.forall_mem_cons.mpr ⟨List.mem_cons_of_mem _ (List.mem_append_left _ (List.mem_of_getElem? (i := 5) rfl)), (fun _ h => nomatch h)⟩)⟩)⟩)⟩)⟩)⟩), (fun _ h => List.mem_cons_of_mem _ (List.mem_append_right _ (h)))⟩)⟩) (by decide +kernel)
set_option maxRecDepth 20000 in
theorem gX11_isOut_X11_splitOf : GoodIn wsX11_isOut (wsV RX11 76 RX11 yX11_splitOf wsX11_splitOf) := goodIn_app (goodIn_of _ (by decide +kernel)) ggX11_isOut_X11_splitOf
set_option maxRecDepth 20000 in
theorem ggX11_isOut_X11_of : GoodIn wsX11_isOut wsX11_of := goodIn_sub (List.forall_mem_cons.mpr ⟨List.mem_cons_of_mem _ (List.mem_append_left _ (List.mem_of_getElem? (i := 17) rfl)), (List.forall_mem_append.mpr ⟨(List.forall_mem_cons.mpr ⟨List.mem_cons_of_mem _ (List.mem_append_left _ (List.mem_of_getElem? (i := 5) rfl)), (fun _ h => nomatch h)⟩), (fun _ h => List.mem_cons_of_mem _ (List.mem_append_right _ (h)))⟩)⟩) (by decide +kernel)
set_option maxRecDepth 20000 in
theorem gX11_isOut_X11_of : GoodIn wsX11_isOut (wsV RX11 62 RX11 yX11_of wsX11_of) := goodIn_app (goodIn_of _ (by decide +kernel)) ggX11_isOut_X11_of
set_option maxHeartbeats 4000000 in
set_option maxRecDepth 100000 in
theorem mX11_isOut (l : Launch) (D : va_G) (cB cI cZ : ClassId) (a_t : Nat) (a_t_now : Nat) (a_t_kept : Nat) (a_t_text : Nat) (a_t_passing : Nat) (a_t_order : Nat) (a_t_times : Nat) (t_thrown : Int32) (t_isKept : Int32) (t_length : Int32) (t_at : Int32) (t_fault : Int32) (t_open : Int32) (t_asked : Int32) (t_byGun : Int32) (t_prizeMost : Int32) (t_listed : Int32) (t_now : Nat → Int32) (sz : Nat) (x1 : Int32) (N : Nat) (b0 : Bool) (h : fX11_isOut N t_now x1 = some (b0)) : Met l yX11_isOut wsX11_isOut ({ frames := 2, cells := 0, slots := 0, locals := 44 } : Room) (va_Pc [.ref a_t, .int x1] (zPre D (zT cB cI cZ) [(a_t, .inr (11, [.int t_thrown, .ref a_t_now, .ref a_t_kept, .int t_isKept, .ref a_t_text, .int t_length, .ref a_t_passing, .int t_at, .int t_fault, .int t_open, .int t_asked, .int t_byGun, .int t_prizeMost, .ref a_t_order, .ref a_t_times, .int t_listed])), (a_t_now, .inl (cI, 1562, .inl t_now))] sz)) (zQi (zb b0) D (zT cB cI cZ) [(a_t, .inr (11, [.int t_thrown, .ref a_t_now, .ref a_t_kept, .int t_isKept, .ref a_t_text, .int t_length, .ref a_t_passing, .int t_at, .int t_fault, .int t_open, .int t_asked, .int t_byGun, .int t_prizeMost, .ref a_t_order, .ref a_t_times, .int t_listed])), (a_t_now, .inl (cI, 1562, .inl t_now))] (va_A [(a_t, .inr (11, [.int t_thrown, .ref a_t_now, .ref a_t_kept, .int t_isKept, .ref a_t_text, .int t_length, .ref a_t_passing, .int t_at, .int t_fault, .int t_open, .int t_asked, .int t_byGun, .int t_prizeMost, .ref a_t_order, .ref a_t_times, .int t_listed])), (a_t_now, .inl (cI, 1562, .inl t_now))] sz)) 0 0 (va_A [(a_t, .inr (11, [.int t_thrown, .ref a_t_now, .ref a_t_kept, .int t_isKept, .ref a_t_text, .int t_length, .ref a_t_passing, .int t_at, .int t_fault, .int t_open, .int t_asked, .int t_byGun, .int t_prizeMost, .ref a_t_order, .ref a_t_times, .int t_listed])), (a_t_now, .inl (cI, 1562, .inl t_now))] sz) := by
  refine Met.ofW (cc := cX11_isOut) (maxL := 4) (ret := (some .boolean)) (by decide) rfl ?_
  intro p e s m args below meth c s₁ B hml hv
  obtain ⟨rfl, hsz, hP, hK, hN, hZ, hD0⟩ := hv
  have hx := B.exec
  have hb := B.bytes
  have hr := B.returns
  have hts := atoms_spec (ws := wsX11_isOut) B.pre
  have hown : s.vm.findClass RX11 = some m.cls := findClass_of_methodNamed B.named
  have hlocks := B.notSynchronized
  subst hsz
  have hD := hD0.self (sz := s.heap.size)
  generalize hAe : va_A [(a_t, .inr (11, [.int t_thrown, .ref a_t_now, .ref a_t_kept, .int t_isKept, .ref a_t_text, .int t_length, .ref a_t_passing, .int t_at, .int t_fault, .int t_open, .int t_asked, .int t_byGun, .int t_prizeMost, .ref a_t_order, .ref a_t_times, .int t_listed])), (a_t_now, .inl (cI, 1562, .inl t_now))] s.heap.size = A at hD hZ ⊢
  have hA : ∀ q : Nat, s.heap.size ≤ q → A q := fun q h => by rw [← hAe]; exact Or.inr h
  have hS : va_S A s.heap s.heap [] := va_S.rf
  have hl := lv_entry ([.ref a_t, .int x1]) (n := 4) (Nat.le_of_ble_eq_true rfl)
  rw [lg_entry_eq]
  generalize (lg_sl ([.ref a_t, .int x1]) ++ List.replicate (4 - (lg_sl ([.ref a_t, .int x1])).length) Slot.unset).toArray = ls at hl ⊢
  have hl : lv_has ls 4 [(0, .ref a_t), (1, .int x1)] := hl
  unfold fX11_isOut at h
  refine lv_iconst (v := (nI 0)) hx hb dX11_isOut_0 rfl ?_
  refine lv_istore_n (lv' := [(2, .int (nI 0)), (0, .ref a_t), (1, .int x1)]) hx hb dX11_isOut_1 rfl hl (by decide) rfl (fun ls hl => ?_)
  refine lv_iconst (v := (nI 0)) hx hb dX11_isOut_2 rfl ?_
  refine lv_istore_n (lv' := [(3, .int (nI 0)), (2, .int (nI 0)), (0, .ref a_t), (1, .int x1)]) hx hb dX11_isOut_3 rfl hl (by decide) rfl (fun ls hl => ?_)
  have X4_53 : ∀ (v2_4 : Bool) (v3_4 : Int32) (H : Heap) (locs : List Loc) (ls : Array Slot), (if (zb v2_4) = 0 then some (false) else ((fX11_of t_now x1 (nI 7)).bind (fun r2 => (if r2 = 0 then some (true) else some (false))))) = some (b0) → va_P D vwCl [(a_t, .inr (11, [.int t_thrown, .ref a_t_now, .ref a_t_kept, .int t_isKept, .ref a_t_text, .int t_length, .ref a_t_passing, .int t_at, .int t_fault, .int t_open, .int t_asked, .int t_byGun, .int t_prizeMost, .ref a_t_order, .ref a_t_times, .int t_listed])), (a_t_now, .inl (cI, 1562, .inl t_now))] H → va_D A [(a_t, .inr (11, [.int t_thrown, .ref a_t_now, .ref a_t_kept, .int t_isKept, .ref a_t_text, .int t_length, .ref a_t_passing, .int t_at, .int t_fault, .int t_open, .int t_asked, .int t_byGun, .int t_prizeMost, .ref a_t_order, .ref a_t_times, .int t_listed])), (a_t_now, .inl (cI, 1562, .inl t_now))] → va_S A s.heap H locs → lv_has ls 4 [(3, .int v3_4), (2, .int (zb v2_4)), (0, .ref a_t), (1, .int x1)] → W p l e (headSpec wsX11_isOut ({ frames := 2, cells := 0, slots := 0, locals := 44 } : Room)).room s m #[Value.ref a_t, Value.int x1] below meth c H locs 0 0 (MQ below (zQi (zb b0) D (zT cB cI cZ) [(a_t, .inr (11, [.int t_thrown, .ref a_t_now, .ref a_t_kept, .int t_isKept, .ref a_t_text, .int t_length, .ref a_t_passing, .int t_at, .int t_fault, .int t_open, .int t_asked, .int t_byGun, .int t_prizeMost, .ref a_t_order, .ref a_t_times, .int t_listed])), (a_t_now, .inl (cI, 1562, .inl t_now))] A) #[Value.ref a_t, Value.int x1] s 0 0 A) (F0 m 53 ls []) := by
    intro v2_4 v3_4 H locs ls h hP hD hS hl
    refine lv_iload_n hx hb dX11_isOut_53 rfl (lv_at hl 1 rfl) ?_
    refine lv_if_eq (tgt := 71) hx hb dX11_isOut_54 (by decide) (fun c1 => ?_) (fun c1 => ?_)
    · have h := zz_t h c1
      refine lv_iconst (v := (nI 0)) hx hb dX11_isOut_71 rfl ?_
      have j0_ := Option.some.inj h
      subst j0_
      exact W.zret (v := (nI 0)) hx hb hr rfl (fun t ht hW => ⟨⟨_, (), rfl, rfl, zPost.of hP hD hK ht hW [0, 1] rfl rfl rfl⟩, hS.F ht⟩) hS.2.2 dX11_isOut_72
    · have h := zz_f h c1
      refine lv_aload_n hx hb dX11_isOut_57 rfl (lv_at hl 2 rfl) ?_
      refine lv_iload_n hx hb dX11_isOut_58 rfl (lv_at hl 3 rfl) ?_
      refine lv_bipush (v := (nI 7)) hx hb dX11_isOut_59 rfl ?_
      obtain ⟨r2, e3, h⟩ := zz_b h
      refine zVi (As := [.int x1, .int (nI 7)]) (rest := []) (C := RX11) (wr := []) [0, 1] [] 0 ⟨hx, hb, hml, hown, hts⟩ (mX11_of l D cB cI cZ a_t a_t_now a_t_kept a_t_text a_t_passing a_t_order a_t_times t_thrown t_isKept t_length t_at t_fault t_open t_asked t_byGun t_prizeMost t_listed t_now H.size x1 (nI 7) r2 e3) (cwV 2 hts gX11_isOut_X11_of rfl rfl rfl (by decide +kernel) ⟨Nat.le_of_ble_eq_true rfl, Nat.le_of_ble_eq_true rfl⟩) hK hN hZ hP hD hS hA rfl rfl rfl rfl rfl rfl rfl rfl hl.1 rfl (lv_room (Nat.le_of_ble_eq_true rfl)) dX11_isOut_61 ⟨Nat.le_of_ble_eq_true rfl, Nat.le_of_ble_eq_true rfl⟩ (fun H locs hP hD hS => ?_)
      have hP : va_P D vwCl [(a_t, .inr (11, [.int t_thrown, .ref a_t_now, .ref a_t_kept, .int t_isKept, .ref a_t_text, .int t_length, .ref a_t_passing, .int t_at, .int t_fault, .int t_open, .int t_asked, .int t_byGun, .int t_prizeMost, .ref a_t_order, .ref a_t_times, .int t_listed])), (a_t_now, .inl (cI, 1562, .inl t_now))] H := hP
      have hD : va_D A [(a_t, .inr (11, [.int t_thrown, .ref a_t_now, .ref a_t_kept, .int t_isKept, .ref a_t_text, .int t_length, .ref a_t_passing, .int t_at, .int t_fault, .int t_open, .int t_asked, .int t_byGun, .int t_prizeMost, .ref a_t_order, .ref a_t_times, .int t_listed])), (a_t_now, .inl (cI, 1562, .inl t_now))] := hD
      refine lv_if_ne (tgt := 71) hx hb dX11_isOut_64 (by decide) (fun c4 => ?_) (fun c4 => ?_)
      · have h := zz_f h c4
        refine lv_iconst (v := (nI 0)) hx hb dX11_isOut_71 rfl ?_
        have j0_ := Option.some.inj h
        subst j0_
        exact W.zret (v := (nI 0)) hx hb hr rfl (fun t ht hW => ⟨⟨_, (), rfl, rfl, zPost.of hP hD hK ht hW [0, 1] rfl rfl rfl⟩, hS.F ht⟩) hS.2.2 dX11_isOut_72
      · have h := zz_t h c4
        refine lv_iconst (v := (nI 1)) hx hb dX11_isOut_67 rfl ?_
        refine lv_goto (tgt := 72) hx hb dX11_isOut_68 (by decide) ?_
        have j0_ := Option.some.inj h
        subst j0_
        exact W.zret (v := (nI 1)) hx hb hr rfl (fun t ht hW => ⟨⟨_, (), rfl, rfl, zPost.of hP hD hK ht hW [0, 1] rfl rfl rfl⟩, hS.F ht⟩) hS.2.2 dX11_isOut_72
  have L4 : ∀ (n : Nat) (v2_4 : Bool) (v3_4 : Int32) (H : Heap) (locs : List Loc) (ls : Array Slot), fX11_isOut_L4 t_now x1 (fun (v2_4 : Bool) (v3_4 : Int32) => (if (zb v2_4) = 0 then some (false) else ((fX11_of t_now x1 (nI 7)).bind (fun r2 => (if r2 = 0 then some (true) else some (false)))))) n v2_4 v3_4 = some (b0) → va_P D vwCl [(a_t, .inr (11, [.int t_thrown, .ref a_t_now, .ref a_t_kept, .int t_isKept, .ref a_t_text, .int t_length, .ref a_t_passing, .int t_at, .int t_fault, .int t_open, .int t_asked, .int t_byGun, .int t_prizeMost, .ref a_t_order, .ref a_t_times, .int t_listed])), (a_t_now, .inl (cI, 1562, .inl t_now))] H → va_D A [(a_t, .inr (11, [.int t_thrown, .ref a_t_now, .ref a_t_kept, .int t_isKept, .ref a_t_text, .int t_length, .ref a_t_passing, .int t_at, .int t_fault, .int t_open, .int t_asked, .int t_byGun, .int t_prizeMost, .ref a_t_order, .ref a_t_times, .int t_listed])), (a_t_now, .inl (cI, 1562, .inl t_now))] → va_S A s.heap H locs → lv_has ls 4 [(3, .int v3_4), (2, .int (zb v2_4)), (0, .ref a_t), (1, .int x1)] → W p l e (headSpec wsX11_isOut ({ frames := 2, cells := 0, slots := 0, locals := 44 } : Room)).room s m #[Value.ref a_t, Value.int x1] below meth c H locs 0 0 (MQ below (zQi (zb b0) D (zT cB cI cZ) [(a_t, .inr (11, [.int t_thrown, .ref a_t_now, .ref a_t_kept, .int t_isKept, .ref a_t_text, .int t_length, .ref a_t_passing, .int t_at, .int t_fault, .int t_open, .int t_asked, .int t_byGun, .int t_prizeMost, .ref a_t_order, .ref a_t_times, .int t_listed])), (a_t_now, .inl (cI, 1562, .inl t_now))] A) #[Value.ref a_t, Value.int x1] s 0 0 A) (F0 m 4 ls []) := by
    intro n
    induction n with
    | zero => intro _ _ H locs ls h hP hD hS hl; cases h
    | succ n4 ih4 =>
      intro v2_4 v3_4 H locs ls h hP hD hS hl
      rw [fX11_isOut_L4.eq_2] at h
      refine lv_iload_n hx hb dX11_isOut_4 rfl (lv_at hl 0 rfl) ?_
      refine lv_aload_n hx hb dX11_isOut_5 rfl (lv_at hl 2 rfl) ?_
      obtain ⟨r5, e6, h⟩ := zz_b h
      refine zVi (As := []) (rest := [.int v3_4]) (C := RX11) (wr := []) [0, 1] [] 0 ⟨hx, hb, hml, hown, hts⟩ (mX11_mats l D cB cI cZ a_t a_t_now a_t_kept a_t_text a_t_passing a_t_order a_t_times t_thrown t_isKept t_length t_at t_fault t_open t_asked t_byGun t_prizeMost t_listed t_now H.size r5 e6) (cwV 0 hts gX11_isOut_X11_mats rfl rfl rfl (by decide +kernel) ⟨Nat.le_of_ble_eq_true rfl, Nat.le_of_ble_eq_true rfl⟩) hK hN hZ hP hD hS hA rfl rfl rfl rfl rfl rfl rfl rfl hl.1 rfl (lv_room (Nat.le_of_ble_eq_true rfl)) dX11_isOut_6 ⟨Nat.le_of_ble_eq_true rfl, Nat.le_of_ble_eq_true rfl⟩ (fun H locs hP hD hS => ?_)
      have hP : va_P D vwCl [(a_t, .inr (11, [.int t_thrown, .ref a_t_now, .ref a_t_kept, .int t_isKept, .ref a_t_text, .int t_length, .ref a_t_passing, .int t_at, .int t_fault, .int t_open, .int t_asked, .int t_byGun, .int t_prizeMost, .ref a_t_order, .ref a_t_times, .int t_listed])), (a_t_now, .inl (cI, 1562, .inl t_now))] H := hP
      have hD : va_D A [(a_t, .inr (11, [.int t_thrown, .ref a_t_now, .ref a_t_kept, .int t_isKept, .ref a_t_text, .int t_length, .ref a_t_passing, .int t_at, .int t_fault, .int t_open, .int t_asked, .int t_byGun, .int t_prizeMost, .ref a_t_order, .ref a_t_times, .int t_listed])), (a_t_now, .inl (cI, 1562, .inl t_now))] := hD
      refine lv_icmp_ge (tgt := 53) hx hb dX11_isOut_9 (by decide) (fun c7 => ?_) (fun c7 => ?_)
      · have h := zz_t h c7
        exact X4_53 v2_4 v3_4 _ _ _ h (hP.sub [0, 1] rfl) (hD.sub [0, 1] rfl rfl) hS (lv_sub hl [0, 1, 2, 3] rfl)
      · have h := zz_f h c7
        refine lv_iload_n hx hb dX11_isOut_12 rfl (lv_at hl 1 rfl) ?_
        refine lv_if_ne (tgt := 41) hx hb dX11_isOut_13 (by decide) (fun c8 => ?_) (fun c8 => ?_)
        · have h := zz_f h c8
          refine lv_iconst (v := (nI 1)) hx hb dX11_isOut_41 rfl ?_
          refine lv_goto (tgt := 46) hx hb dX11_isOut_42 (by decide) ?_
          refine lv_istore_n (lv' := [(2, .int (nI 1)), (3, .int v3_4), (0, .ref a_t), (1, .int x1)]) hx hb dX11_isOut_46 rfl hl (by decide) rfl (fun ls hl => ?_)
          refine lv_iinc (v := (v3_4 + (nI 1))) (lv' := [(3, .int (v3_4 + (nI 1))), (2, .int (nI 1)), (0, .ref a_t), (1, .int x1)]) hx hb dX11_isOut_47 hl (k := 1) rfl rfl (by decide) rfl (fun ls hl => ?_)
          refine lv_goto (tgt := 4) hx hb dX11_isOut_50 (by decide) ?_
          exact ih4 true (v3_4 + (nI 1)) _ _ _ h (hP.sub [0, 1] rfl) (hD.sub [0, 1] rfl rfl) hS (lv_sub hl [0, 1, 2, 3] rfl)
        · have h := zz_t h c8
          refine lv_aload_n hx hb dX11_isOut_16 rfl (lv_at hl 2 rfl) ?_
          refine lv_iload_n hx hb dX11_isOut_17 rfl (lv_at hl 0 rfl) ?_
          refine lv_iconst (v := (nI 3)) hx hb dX11_isOut_18 rfl ?_
          obtain ⟨r9, e10, h⟩ := zz_b h
          refine zVi (As := [.int v3_4, .int (nI 3)]) (rest := []) (C := RX11) (wr := []) [0, 1] [] 0 ⟨hx, hb, hml, hown, hts⟩ (mX11_ofMat l D cB cI cZ a_t a_t_now a_t_kept a_t_text a_t_passing a_t_order a_t_times t_thrown t_isKept t_length t_at t_fault t_open t_asked t_byGun t_prizeMost t_listed t_now H.size v3_4 (nI 3) r9 e10) (cwV 2 hts gX11_isOut_X11_ofMat rfl rfl rfl (by decide +kernel) ⟨Nat.le_of_ble_eq_true rfl, Nat.le_of_ble_eq_true rfl⟩) hK hN hZ hP hD hS hA rfl rfl rfl rfl rfl rfl rfl rfl hl.1 rfl (lv_room (Nat.le_of_ble_eq_true rfl)) dX11_isOut_19 ⟨Nat.le_of_ble_eq_true rfl, Nat.le_of_ble_eq_true rfl⟩ (fun H locs hP hD hS => ?_)
          have hP : va_P D vwCl [(a_t, .inr (11, [.int t_thrown, .ref a_t_now, .ref a_t_kept, .int t_isKept, .ref a_t_text, .int t_length, .ref a_t_passing, .int t_at, .int t_fault, .int t_open, .int t_asked, .int t_byGun, .int t_prizeMost, .ref a_t_order, .ref a_t_times, .int t_listed])), (a_t_now, .inl (cI, 1562, .inl t_now))] H := hP
          have hD : va_D A [(a_t, .inr (11, [.int t_thrown, .ref a_t_now, .ref a_t_kept, .int t_isKept, .ref a_t_text, .int t_length, .ref a_t_passing, .int t_at, .int t_fault, .int t_open, .int t_asked, .int t_byGun, .int t_prizeMost, .ref a_t_order, .ref a_t_times, .int t_listed])), (a_t_now, .inl (cI, 1562, .inl t_now))] := hD
          refine lv_iconst (v := (-1 : Int32)) hx hb dX11_isOut_22 rfl ?_
          refine lv_icmp_eq (tgt := 45) hx hb dX11_isOut_23 (by decide) (fun c11 => ?_) (fun c11 => ?_)
          · have h := zz_t h c11
            refine lv_iconst (v := (nI 0)) hx hb dX11_isOut_45 rfl ?_
            refine lv_istore_n (lv' := [(2, .int (nI 0)), (3, .int v3_4), (0, .ref a_t), (1, .int x1)]) hx hb dX11_isOut_46 rfl hl (by decide) rfl (fun ls hl => ?_)
            refine lv_iinc (v := (v3_4 + (nI 1))) (lv' := [(3, .int (v3_4 + (nI 1))), (2, .int (nI 0)), (0, .ref a_t), (1, .int x1)]) hx hb dX11_isOut_47 hl (k := 1) rfl rfl (by decide) rfl (fun ls hl => ?_)
            refine lv_goto (tgt := 4) hx hb dX11_isOut_50 (by decide) ?_
            exact ih4 false (v3_4 + (nI 1)) _ _ _ h (hP.sub [0, 1] rfl) (hD.sub [0, 1] rfl rfl) hS (lv_sub hl [0, 1, 2, 3] rfl)
          · have h := zz_f h c11
            refine lv_aload_n hx hb dX11_isOut_26 rfl (lv_at hl 2 rfl) ?_
            refine lv_iload_n hx hb dX11_isOut_27 rfl (lv_at hl 3 rfl) ?_
            refine lv_iload_n hx hb dX11_isOut_28 rfl (lv_at hl 0 rfl) ?_
            obtain ⟨r12, e13, h⟩ := zz_b h
            refine zVi (As := [.int x1, .int v3_4]) (rest := []) (C := RX11) (wr := []) [0, 1] [] 0 ⟨hx, hb, hml, hown, hts⟩ (mX11_splitOf l D cB cI cZ a_t a_t_now a_t_kept a_t_text a_t_passing a_t_order a_t_times t_thrown t_isKept t_length t_at t_fault t_open t_asked t_byGun t_prizeMost t_listed t_now H.size x1 v3_4 r12 e13) (cwV 2 hts gX11_isOut_X11_splitOf rfl rfl rfl (by decide +kernel) ⟨Nat.le_of_ble_eq_true rfl, Nat.le_of_ble_eq_true rfl⟩) hK hN hZ hP hD hS hA rfl rfl rfl rfl rfl rfl rfl rfl hl.1 rfl (lv_room (Nat.le_of_ble_eq_true rfl)) dX11_isOut_29 ⟨Nat.le_of_ble_eq_true rfl, Nat.le_of_ble_eq_true rfl⟩ (fun H locs hP hD hS => ?_)
            have hP : va_P D vwCl [(a_t, .inr (11, [.int t_thrown, .ref a_t_now, .ref a_t_kept, .int t_isKept, .ref a_t_text, .int t_length, .ref a_t_passing, .int t_at, .int t_fault, .int t_open, .int t_asked, .int t_byGun, .int t_prizeMost, .ref a_t_order, .ref a_t_times, .int t_listed])), (a_t_now, .inl (cI, 1562, .inl t_now))] H := hP
            have hD : va_D A [(a_t, .inr (11, [.int t_thrown, .ref a_t_now, .ref a_t_kept, .int t_isKept, .ref a_t_text, .int t_length, .ref a_t_passing, .int t_at, .int t_fault, .int t_open, .int t_asked, .int t_byGun, .int t_prizeMost, .ref a_t_order, .ref a_t_times, .int t_listed])), (a_t_now, .inl (cI, 1562, .inl t_now))] := hD
            refine lv_aload_n hx hb dX11_isOut_32 rfl (lv_at hl 2 rfl) ?_
            refine lv_iload_n hx hb dX11_isOut_33 rfl (lv_at hl 0 rfl) ?_
            refine lv_iconst (v := (nI 3)) hx hb dX11_isOut_34 rfl ?_
            obtain ⟨r14, e15, h⟩ := zz_b h
            refine zVi (As := [.int v3_4, .int (nI 3)]) (rest := [.int r12]) (C := RX11) (wr := []) [0, 1] [] 0 ⟨hx, hb, hml, hown, hts⟩ (mX11_ofMat l D cB cI cZ a_t a_t_now a_t_kept a_t_text a_t_passing a_t_order a_t_times t_thrown t_isKept t_length t_at t_fault t_open t_asked t_byGun t_prizeMost t_listed t_now H.size v3_4 (nI 3) r14 e15) (cwV 2 hts gX11_isOut_X11_ofMat rfl rfl rfl (by decide +kernel) ⟨Nat.le_of_ble_eq_true rfl, Nat.le_of_ble_eq_true rfl⟩) hK hN hZ hP hD hS hA rfl rfl rfl rfl rfl rfl rfl rfl hl.1 rfl (lv_room (Nat.le_of_ble_eq_true rfl)) dX11_isOut_35 ⟨Nat.le_of_ble_eq_true rfl, Nat.le_of_ble_eq_true rfl⟩ (fun H locs hP hD hS => ?_)
            have hP : va_P D vwCl [(a_t, .inr (11, [.int t_thrown, .ref a_t_now, .ref a_t_kept, .int t_isKept, .ref a_t_text, .int t_length, .ref a_t_passing, .int t_at, .int t_fault, .int t_open, .int t_asked, .int t_byGun, .int t_prizeMost, .ref a_t_order, .ref a_t_times, .int t_listed])), (a_t_now, .inl (cI, 1562, .inl t_now))] H := hP
            have hD : va_D A [(a_t, .inr (11, [.int t_thrown, .ref a_t_now, .ref a_t_kept, .int t_isKept, .ref a_t_text, .int t_length, .ref a_t_passing, .int t_at, .int t_fault, .int t_open, .int t_asked, .int t_byGun, .int t_prizeMost, .ref a_t_order, .ref a_t_times, .int t_listed])), (a_t_now, .inl (cI, 1562, .inl t_now))] := hD
            refine lv_icmp_le (tgt := 45) hx hb dX11_isOut_38 (by decide) (fun c16 => ?_) (fun c16 => ?_)
            · have h := zz_t h c16
              refine lv_iconst (v := (nI 0)) hx hb dX11_isOut_45 rfl ?_
              refine lv_istore_n (lv' := [(2, .int (nI 0)), (3, .int v3_4), (0, .ref a_t), (1, .int x1)]) hx hb dX11_isOut_46 rfl hl (by decide) rfl (fun ls hl => ?_)
              refine lv_iinc (v := (v3_4 + (nI 1))) (lv' := [(3, .int (v3_4 + (nI 1))), (2, .int (nI 0)), (0, .ref a_t), (1, .int x1)]) hx hb dX11_isOut_47 hl (k := 1) rfl rfl (by decide) rfl (fun ls hl => ?_)
              refine lv_goto (tgt := 4) hx hb dX11_isOut_50 (by decide) ?_
              exact ih4 false (v3_4 + (nI 1)) _ _ _ h (hP.sub [0, 1] rfl) (hD.sub [0, 1] rfl rfl) hS (lv_sub hl [0, 1, 2, 3] rfl)
            · have h := zz_f h c16
              refine lv_iconst (v := (nI 1)) hx hb dX11_isOut_41 rfl ?_
              refine lv_goto (tgt := 46) hx hb dX11_isOut_42 (by decide) ?_
              refine lv_istore_n (lv' := [(2, .int (nI 1)), (3, .int v3_4), (0, .ref a_t), (1, .int x1)]) hx hb dX11_isOut_46 rfl hl (by decide) rfl (fun ls hl => ?_)
              refine lv_iinc (v := (v3_4 + (nI 1))) (lv' := [(3, .int (v3_4 + (nI 1))), (2, .int (nI 1)), (0, .ref a_t), (1, .int x1)]) hx hb dX11_isOut_47 hl (k := 1) rfl rfl (by decide) rfl (fun ls hl => ?_)
              refine lv_goto (tgt := 4) hx hb dX11_isOut_50 (by decide) ?_
              exact ih4 true (v3_4 + (nI 1)) _ _ _ h (hP.sub [0, 1] rfl) (hD.sub [0, 1] rfl rfl) hS (lv_sub hl [0, 1, 2, 3] rfl)
  exact L4 N false (nI 0) _ _ _ h hP hD hS hl
/-! RunDeskModel.stateOf -/
theorem dX11_stateOf_0 : decode cX11_stateOf 0 = .ok (.aload_n 0, 1) := by decide +kernel
theorem dX11_stateOf_1 : decode cX11_stateOf 1 = .ok (.iload_n 1, 1) := by decide +kernel
theorem dX11_stateOf_2 : decode cX11_stateOf 2 = .ok (.bipush 8, 2) := by decide +kernel
theorem dX11_stateOf_4 : decode cX11_stateOf 4 = .ok (.invokevirtual 62, 3) := by decide +kernel
theorem dX11_stateOf_7 : decode cX11_stateOf 7 = .ok (.iconst 1, 1) := by decide +kernel
theorem dX11_stateOf_8 : decode cX11_stateOf 8 = .ok (.if_icmp .ne 5, 3) := by decide +kernel
theorem dX11_stateOf_11 : decode cX11_stateOf 11 = .ok (.iconst 4, 1) := by decide +kernel
theorem dX11_stateOf_12 : decode cX11_stateOf 12 = .ok (.ireturn, 1) := by decide +kernel
theorem dX11_stateOf_13 : decode cX11_stateOf 13 = .ok (.aload_n 0, 1) := by decide +kernel
theorem dX11_stateOf_14 : decode cX11_stateOf 14 = .ok (.iload_n 1, 1) := by decide +kernel
theorem dX11_stateOf_15 : decode cX11_stateOf 15 = .ok (.bipush 6, 2) := by decide +kernel
theorem dX11_stateOf_17 : decode cX11_stateOf 17 = .ok (.invokevirtual 62, 3) := by decide +kernel
theorem dX11_stateOf_20 : decode cX11_stateOf 20 = .ok (.iconst 1, 1) := by decide +kernel
theorem dX11_stateOf_21 : decode cX11_stateOf 21 = .ok (.if_icmp .ne 5, 3) := by decide +kernel
theorem dX11_stateOf_24 : decode cX11_stateOf 24 = .ok (.iconst 3, 1) := by decide +kernel
theorem dX11_stateOf_25 : decode cX11_stateOf 25 = .ok (.ireturn, 1) := by decide +kernel
theorem dX11_stateOf_26 : decode cX11_stateOf 26 = .ok (.aload_n 0, 1) := by decide +kernel
theorem dX11_stateOf_27 : decode cX11_stateOf 27 = .ok (.iload_n 1, 1) := by decide +kernel
theorem dX11_stateOf_28 : decode cX11_stateOf 28 = .ok (.invokevirtual 86, 3) := by decide +kernel
theorem dX11_stateOf_31 : decode cX11_stateOf 31 = .ok (.ifCond .eq 5, 3) := by decide +kernel
theorem dX11_stateOf_34 : decode cX11_stateOf 34 = .ok (.iconst 5, 1) := by decide +kernel
theorem dX11_stateOf_35 : decode cX11_stateOf 35 = .ok (.ireturn, 1) := by decide +kernel
theorem dX11_stateOf_36 : decode cX11_stateOf 36 = .ok (.aload_n 0, 1) := by decide +kernel
theorem dX11_stateOf_37 : decode cX11_stateOf 37 = .ok (.invokevirtual 41, 3) := by decide +kernel
theorem dX11_stateOf_40 : decode cX11_stateOf 40 = .ok (.iconst 1, 1) := by decide +kernel
theorem dX11_stateOf_41 : decode cX11_stateOf 41 = .ok (.if_icmp .le 20, 3) := by decide +kernel
theorem dX11_stateOf_44 : decode cX11_stateOf 44 = .ok (.aload_n 0, 1) := by decide +kernel
theorem dX11_stateOf_45 : decode cX11_stateOf 45 = .ok (.iload_n 1, 1) := by decide +kernel
theorem dX11_stateOf_46 : decode cX11_stateOf 46 = .ok (.aload_n 0, 1) := by decide +kernel
theorem dX11_stateOf_47 : decode cX11_stateOf 47 = .ok (.invokevirtual 41, 3) := by decide +kernel
theorem dX11_stateOf_50 : decode cX11_stateOf 50 = .ok (.iconst 1, 1) := by decide +kernel
theorem dX11_stateOf_51 : decode cX11_stateOf 51 = .ok (.isub, 1) := by decide +kernel
theorem dX11_stateOf_52 : decode cX11_stateOf 52 = .ok (.invokevirtual 76, 3) := by decide +kernel
theorem dX11_stateOf_55 : decode cX11_stateOf 55 = .ok (.iconst (-1), 1) := by decide +kernel
theorem dX11_stateOf_56 : decode cX11_stateOf 56 = .ok (.if_icmp .eq 5, 3) := by decide +kernel
theorem dX11_stateOf_59 : decode cX11_stateOf 59 = .ok (.iconst 2, 1) := by decide +kernel
theorem dX11_stateOf_60 : decode cX11_stateOf 60 = .ok (.ireturn, 1) := by decide +kernel
theorem dX11_stateOf_61 : decode cX11_stateOf 61 = .ok (.aload_n 0, 1) := by decide +kernel
theorem dX11_stateOf_62 : decode cX11_stateOf 62 = .ok (.iload_n 1, 1) := by decide +kernel
theorem dX11_stateOf_63 : decode cX11_stateOf 63 = .ok (.invokevirtual 83, 3) := by decide +kernel
theorem dX11_stateOf_66 : decode cX11_stateOf 66 = .ok (.iconst (-1), 1) := by decide +kernel
theorem dX11_stateOf_67 : decode cX11_stateOf 67 = .ok (.if_icmp .eq 7, 3) := by decide +kernel
theorem dX11_stateOf_70 : decode cX11_stateOf 70 = .ok (.iconst 1, 1) := by decide +kernel
theorem dX11_stateOf_71 : decode cX11_stateOf 71 = .ok (.goto 4, 3) := by decide +kernel
theorem dX11_stateOf_74 : decode cX11_stateOf 74 = .ok (.iconst 0, 1) := by decide +kernel
theorem dX11_stateOf_75 : decode cX11_stateOf 75 = .ok (.ireturn, 1) := by decide +kernel
set_option maxRecDepth 20000 in
theorem ggX11_stateOf_X11_of : GoodIn wsX11_stateOf wsX11_of := goodIn_sub (List.forall_mem_cons.mpr ⟨List.mem_cons_of_mem _ (List.mem_append_left _ (List.mem_append_left _ (List.mem_of_getElem? (l := wsX11_stateOf_r1) (i := 4) rfl))), (List.forall_mem_append.mpr ⟨(List.forall_mem_cons.mpr ⟨List.mem_cons_of_mem _ (List.mem_append_left _ (List.mem_append_left _ (List.mem_of_getElem? (l := wsX11_stateOf_r1) (i := 5) rfl))), (fun _ h => nomatch h)⟩), (fun _ h => List.mem_cons_of_mem _ (List.mem_append_right _ (h)))⟩)⟩) (by decide +kernel)
set_option maxRecDepth 20000 in
theorem gX11_stateOf_X11_of : GoodIn wsX11_stateOf (wsV RX11 62 RX11 yX11_of wsX11_of) := goodIn_app (goodIn_of _ (by decide +kernel)) ggX11_stateOf_X11_of
set_option maxRecDepth 20000 in
theorem ggX11_stateOf_X11_isOut : GoodIn wsX11_stateOf wsX11_isOut := goodIn_sub (List.forall_mem_cons.mpr ⟨List.mem_cons_of_mem _ (List.mem_append_left _ (List.mem_append_left _ (List.mem_of_getElem? (l := wsX11_stateOf_r1) (i := 9) rfl))), (List.forall_mem_append.mpr ⟨(List.forall_mem_cons.mpr ⟨List.mem_cons_of_mem _ (List.mem_append_left _ (List.mem_append_left _ (List.mem_of_getElem? (l := wsX11_stateOf_r1) (i := 10) rfl))), (List.forall_mem_cons.mpr ⟨List.mem_cons_of_mem _ (List.mem_append_left _ (List.mem_append_left _ (List.mem_of_getElem? (l := wsX11_stateOf_r1) (i := 11) rfl))), (List.forall_mem_cons.mpr ⟨List.mem_cons_of_mem _ (List.mem_append_left _ (List.mem_append_left _ (List.mem_of_getElem? (l := wsX11_stateOf_r1) (i := 12) rfl))), (List.forall_mem_cons.mpr ⟨List.mem_cons_of_mem _ (List.mem_append_left _ (List.mem_append_left _ (List.mem_of_getElem? (l := wsX11_stateOf_r1) (i := 3) rfl))), (List.forall_mem_cons.mpr ⟨List.mem_cons_of_mem _ (List.mem_append_left _ (List.mem_append_left _ (List.mem_of_getElem? (l := wsX11_stateOf_r1) (i := 13) rfl))), (List.forall_mem_cons.mpr ⟨List.mem_cons_of_mem _ (List.mem_append_left _ (List.mem_append_left _ (List.mem_of_getElem? (l := wsX11_stateOf_r1) (i := 5) rfl))), (List.forall_mem_cons.mpr ⟨List.mem_cons_of_mem _ (List.mem_append_left _ (List.mem_append_left _ (List.mem_of_getElem? (l := wsX11_stateOf_r1) (i := 14) rfl))), (List.forall_mem_cons.mpr ⟨List.mem_cons_of_mem _ (List.mem_append_left _ (List.mem_append_left _ (List.mem_of_getElem? (l := wsX11_stateOf_r1) (i := 15) rfl))), (List.forall_mem_cons.mpr ⟨List.mem_cons_of_mem _ (List.mem_append_left _ (List.mem_append_left _ (List.mem_of_getElem? (l := wsX11_stateOf_r1) (i := 16) rfl))), (List.forall_mem_cons.mpr ⟨List.mem_cons_of_mem _ (List.mem_append_left _ (List.mem_append_left _ (List.mem_of_getElem? (l := wsX11_stateOf_r1) (i := 17) rfl))), (List.forall_mem_cons.mpr ⟨List.mem_cons_of_mem _ (List.mem_append_left _ (List.mem_append_left _ (List.mem_of_getElem? (l := wsX11_stateOf_r1) (i := 18) rfl))), (List.forall_mem_cons.mpr ⟨List.mem_cons_of_mem _ (List.mem_append_left _ (List.mem_append_left _ (List.mem_of_getElem? (l := wsX11_stateOf_r1) (i := 19) rfl))), (List.forall_mem_cons.mpr ⟨List.mem_cons_of_mem _ (List.mem_append_left _ (List.mem_append_left _ (List.mem_of_getElem? (l := wsX11_stateOf_r1) (i := 20) rfl))), (List.forall_mem_cons.mpr ⟨List.mem_cons_of_mem _ (List.mem_append_left _ (List.mem_append_left _ (List.mem_of_getElem? (l := wsX11_stateOf_r1) (i := 21) rfl))), (List.forall_mem_cons.mpr ⟨List.mem_cons_of_mem _ (List.mem_append_left _ (List.mem_append_left _ (List.mem_of_getElem? (l := wsX11_stateOf_r1) (i := 0) rfl))), (List.forall_mem_cons.mpr ⟨List.mem_cons_of_mem _ (List.mem_append_left _ (List.mem_append_left _ (List.mem_of_getElem? (l := wsX11_stateOf_r1) (i := 1) rfl))), (List.forall_mem_cons.mpr ⟨List.mem_cons_of_mem _ (List.mem_append_left _ (List.mem_append_left _ (List.mem_of_getElem? (l := wsX11_stateOf_r1) (i := 2) rfl))), (List.forall_mem_cons.mpr ⟨List.mem_cons_of_mem _ (List.mem_append_left _ (List.mem_append_left _ (List.mem_of_getElem? (l := wsX11_stateOf_r1) (i := 4) rfl))), (fun _ h => nomatch h)⟩)⟩)⟩)⟩)⟩)⟩)⟩)⟩)⟩)⟩)⟩)⟩)⟩)⟩)⟩)⟩)⟩)⟩), (fun _ h => List.mem_cons_of_mem _ (List.mem_append_right _ (h)))⟩)⟩) (by decide +kernel)
set_option maxRecDepth 20000 in
theorem gX11_stateOf_X11_isOut : GoodIn wsX11_stateOf (wsV RX11 86 RX11 yX11_isOut wsX11_isOut) := goodIn_app (goodIn_of _ (by decide +kernel)) ggX11_stateOf_X11_isOut
set_option maxRecDepth 20000 in
theorem ggX11_stateOf_X11_mats : GoodIn wsX11_stateOf wsX11_mats := goodIn_sub (List.forall_mem_cons.mpr ⟨List.mem_cons_of_mem _ (List.mem_append_left _ (List.mem_append_left _ (List.mem_of_getElem? (l := wsX11_stateOf_r1) (i := 13) rfl))), (List.forall_mem_append.mpr ⟨(List.forall_mem_cons.mpr ⟨List.mem_cons_of_mem _ (List.mem_append_left _ (List.mem_append_left _ (List.mem_of_getElem? (l := wsX11_stateOf_r1) (i := 5) rfl))), (fun _ h => nomatch h)⟩), (fun _ h => List.mem_cons_of_mem _ (List.mem_append_right _ (h)))⟩)⟩) (by decide +kernel)
set_option maxRecDepth 20000 in
theorem gX11_stateOf_X11_mats : GoodIn wsX11_stateOf (wsV RX11 41 RX11 yX11_mats wsX11_mats) := goodIn_app (goodIn_of _ (by decide +kernel)) ggX11_stateOf_X11_mats
set_option maxRecDepth 20000 in
theorem ggX11_stateOf_X11_splitOf : GoodIn wsX11_stateOf wsX11_splitOf := goodIn_sub (List.forall_mem_cons.mpr ⟨List.mem_cons_of_mem _ (List.mem_append_left _ (List.mem_append_left _ (List.mem_of_getElem? (l := wsX11_stateOf_r1) (i := 21) rfl))), (List.forall_mem_append.mpr ⟨(List.forall_mem_cons.mpr ⟨List.mem_cons_of_mem _ (List.mem_append_left _ (List.mem_append_left _ (List.mem_of_getElem? (l := wsX11_stateOf_r1) (i := 0) rfl))), (List.forall_mem_cons.mpr ⟨List.mem_cons_of_mem _ (List.mem_append_left _ (List.mem_append_left _ (List.mem_of_getElem? (l := wsX11_stateOf_r1) (i := 1) rfl))), (List.forall_mem_cons.mpr ⟨List.mem_cons_of_mem _ (List.mem_append_left _ (List.mem_append_left _ (List.mem_of_getElem? (l := wsX11_stateOf_r1) (i := 2) rfl))), (List.forall_mem_cons.mpr ⟨List.mem_cons_of_mem _ (List.mem_append_left _ (List.mem_append_left _ (List.mem_of_getElem? (l := wsX11_stateOf_r1) (i := 3) rfl))), (List.forall_mem_cons.mpr ⟨List.mem_cons_of_mem _ (List.mem_append_left _ (List.mem_append_left _ (List.mem_of_getElem? (l := wsX11_stateOf_r1) (i := 4) rfl))), (List.forall_mem_cons.mpr ⟨List.mem_cons_of_mem _ (List.mem_append_left _ (List.mem_append_left _ (List.mem_of_getElem? (l := wsX11_stateOf_r1) (i := 5) rfl))), (fun _ h => nomatch h)⟩)⟩)⟩)⟩)⟩)⟩), (fun _ h => List.mem_cons_of_mem _ (List.mem_append_right _ (h)))⟩)⟩) (by decide +kernel)
set_option maxRecDepth 20000 in
theorem gX11_stateOf_X11_splitOf : GoodIn wsX11_stateOf (wsV RX11 76 RX11 yX11_splitOf wsX11_splitOf) := goodIn_app (goodIn_of _ (by decide +kernel)) ggX11_stateOf_X11_splitOf
set_option maxRecDepth 20000 in
theorem ggX11_stateOf_X11_startOf : GoodIn wsX11_stateOf wsX11_startOf := goodIn_sub (List.forall_mem_cons.mpr ⟨List.mem_cons_of_mem _ (List.mem_append_left _ (List.mem_append_right _ (List.mem_of_getElem? (l := wsX11_stateOf_r2) (i := 1) rfl))), (List.forall_mem_append.mpr ⟨(List.forall_mem_cons.mpr ⟨List.mem_cons_of_mem _ (List.mem_append_left _ (List.mem_append_left _ (List.mem_of_getElem? (l := wsX11_stateOf_r1) (i := 18) rfl))), (List.forall_mem_cons.mpr ⟨List.mem_cons_of_mem _ (List.mem_append_left _ (List.mem_append_left _ (List.mem_of_getElem? (l := wsX11_stateOf_r1) (i := 19) rfl))), (List.forall_mem_cons.mpr ⟨List.mem_cons_of_mem _ (List.mem_append_left _ (List.mem_append_left _ (List.mem_of_getElem? (l := wsX11_stateOf_r1) (i := 20) rfl))), (List.forall_mem_cons.mpr ⟨List.mem_cons_of_mem _ (List.mem_append_left _ (List.mem_append_left _ (List.mem_of_getElem? (l := wsX11_stateOf_r1) (i := 3) rfl))), (List.forall_mem_cons.mpr ⟨List.mem_cons_of_mem _ (List.mem_append_left _ (List.mem_append_left _ (List.mem_of_getElem? (l := wsX11_stateOf_r1) (i := 21) rfl))), (List.forall_mem_cons.mpr ⟨List.mem_cons_of_mem _ (List.mem_append_left _ (List.mem_append_left _ (List.mem_of_getElem? (l := wsX11_stateOf_r1) (i := 0) rfl))), (List.forall_mem_cons.mpr ⟨List.mem_cons_of_mem _ (List.mem_append_left _ (List.mem_append_left _ (List.mem_of_getElem? (l := wsX11_stateOf_r1) (i := 1) rfl))), (List.forall_mem_cons.mpr ⟨List.mem_cons_of_mem _ (List.mem_append_left _ (List.mem_append_left _ (List.mem_of_getElem? (l := wsX11_stateOf_r1) (i := 2) rfl))), (List.forall_mem_cons.mpr ⟨List.mem_cons_of_mem _ (List.mem_append_left _ (List.mem_append_left _ (List.mem_of_getElem? (l := wsX11_stateOf_r1) (i := 4) rfl))), (List.forall_mem_cons.mpr ⟨List.mem_cons_of_mem _ (List.mem_append_left _ (List.mem_append_left _ (List.mem_of_getElem? (l := wsX11_stateOf_r1) (i := 5) rfl))), (List.forall_mem_cons.mpr ⟨List.mem_cons_of_mem _ (List.mem_append_left _ (List.mem_append_right _ (List.mem_of_getElem? (l := wsX11_stateOf_r2) (i := 2) rfl))), (List.forall_mem_cons.mpr ⟨List.mem_cons_of_mem _ (List.mem_append_left _ (List.mem_append_right _ (List.mem_of_getElem? (l := wsX11_stateOf_r2) (i := 3) rfl))), (List.forall_mem_cons.mpr ⟨List.mem_cons_of_mem _ (List.mem_append_left _ (List.mem_append_right _ (List.mem_of_getElem? (l := wsX11_stateOf_r2) (i := 4) rfl))), (List.forall_mem_cons.mpr ⟨List.mem_cons_of_mem _ (List.mem_append_left _ (List.mem_append_right _ (List.mem_of_getElem? (l := wsX11_stateOf_r2) (i := 5) rfl))), (fun _ h => nomatch h)⟩)⟩)⟩)⟩)⟩)⟩)⟩)⟩)⟩)⟩)⟩)⟩)⟩)⟩), (fun _ h => List.mem_cons_of_mem _ (List.mem_append_right _ (h)))⟩)⟩) (by decide +kernel)
set_option maxRecDepth 20000 in
theorem gX11_stateOf_X11_startOf : GoodIn wsX11_stateOf (wsV RX11 83 RX11 yX11_startOf wsX11_startOf) := goodIn_app (goodIn_of _ (by decide +kernel)) ggX11_stateOf_X11_startOf
set_option maxHeartbeats 4000000 in
set_option maxRecDepth 100000 in
theorem mX11_stateOf (l : Launch) (D : va_G) (cB cI cZ : ClassId) (a_t : Nat) (a_t_now : Nat) (a_t_kept : Nat) (a_t_text : Nat) (a_t_passing : Nat) (a_t_order : Nat) (a_t_times : Nat) (t_thrown : Int32) (t_isKept : Int32) (t_length : Int32) (t_at : Int32) (t_fault : Int32) (t_open : Int32) (t_asked : Int32) (t_byGun : Int32) (t_prizeMost : Int32) (t_listed : Int32) (t_now : Nat → Int32) (sz : Nat) (x1 : Int32) (N : Nat) (r0 : Int32) (h : fX11_stateOf N t_now x1 = some (r0)) : Met l yX11_stateOf wsX11_stateOf ({ frames := 3, cells := 0, slots := 0, locals := 67 } : Room) (va_Pc [.ref a_t, .int x1] (zPre D (zT cB cI cZ) [(a_t, .inr (11, [.int t_thrown, .ref a_t_now, .ref a_t_kept, .int t_isKept, .ref a_t_text, .int t_length, .ref a_t_passing, .int t_at, .int t_fault, .int t_open, .int t_asked, .int t_byGun, .int t_prizeMost, .ref a_t_order, .ref a_t_times, .int t_listed])), (a_t_now, .inl (cI, 1562, .inl t_now))] sz)) (zQi r0 D (zT cB cI cZ) [(a_t, .inr (11, [.int t_thrown, .ref a_t_now, .ref a_t_kept, .int t_isKept, .ref a_t_text, .int t_length, .ref a_t_passing, .int t_at, .int t_fault, .int t_open, .int t_asked, .int t_byGun, .int t_prizeMost, .ref a_t_order, .ref a_t_times, .int t_listed])), (a_t_now, .inl (cI, 1562, .inl t_now))] (va_A [(a_t, .inr (11, [.int t_thrown, .ref a_t_now, .ref a_t_kept, .int t_isKept, .ref a_t_text, .int t_length, .ref a_t_passing, .int t_at, .int t_fault, .int t_open, .int t_asked, .int t_byGun, .int t_prizeMost, .ref a_t_order, .ref a_t_times, .int t_listed])), (a_t_now, .inl (cI, 1562, .inl t_now))] sz)) 0 0 (va_A [(a_t, .inr (11, [.int t_thrown, .ref a_t_now, .ref a_t_kept, .int t_isKept, .ref a_t_text, .int t_length, .ref a_t_passing, .int t_at, .int t_fault, .int t_open, .int t_asked, .int t_byGun, .int t_prizeMost, .ref a_t_order, .ref a_t_times, .int t_listed])), (a_t_now, .inl (cI, 1562, .inl t_now))] sz) := by
  refine Met.ofW (cc := cX11_stateOf) (maxL := 2) (ret := (some .int)) (by decide) rfl ?_
  intro p e s m args below meth c s₁ B hml hv
  obtain ⟨rfl, hsz, hP, hK, hN, hZ, hD0⟩ := hv
  have hx := B.exec
  have hb := B.bytes
  have hr := B.returns
  have hts := atoms_spec (ws := wsX11_stateOf) B.pre
  have hown : s.vm.findClass RX11 = some m.cls := findClass_of_methodNamed B.named
  have hlocks := B.notSynchronized
  subst hsz
  have hD := hD0.self (sz := s.heap.size)
  generalize hAe : va_A [(a_t, .inr (11, [.int t_thrown, .ref a_t_now, .ref a_t_kept, .int t_isKept, .ref a_t_text, .int t_length, .ref a_t_passing, .int t_at, .int t_fault, .int t_open, .int t_asked, .int t_byGun, .int t_prizeMost, .ref a_t_order, .ref a_t_times, .int t_listed])), (a_t_now, .inl (cI, 1562, .inl t_now))] s.heap.size = A at hD hZ ⊢
  have hA : ∀ q : Nat, s.heap.size ≤ q → A q := fun q h => by rw [← hAe]; exact Or.inr h
  have hS : va_S A s.heap s.heap [] := va_S.rf
  have hl := lv_entry ([.ref a_t, .int x1]) (n := 2) (Nat.le_of_ble_eq_true rfl)
  rw [lg_entry_eq]
  generalize (lg_sl ([.ref a_t, .int x1]) ++ List.replicate (2 - (lg_sl ([.ref a_t, .int x1])).length) Slot.unset).toArray = ls at hl ⊢
  have hl : lv_has ls 2 [(0, .ref a_t), (1, .int x1)] := hl
  unfold fX11_stateOf at h
  refine lv_aload_n hx hb dX11_stateOf_0 rfl (lv_at hl 0 rfl) ?_
  refine lv_iload_n hx hb dX11_stateOf_1 rfl (lv_at hl 1 rfl) ?_
  refine lv_bipush (v := (nI 8)) hx hb dX11_stateOf_2 rfl ?_
  obtain ⟨r1, e2, h⟩ := zz_b h
  refine zVi (As := [.int x1, .int (nI 8)]) (rest := []) (C := RX11) (wr := []) [0, 1] [] 0 ⟨hx, hb, hml, hown, hts⟩ (mX11_of l D cB cI cZ a_t a_t_now a_t_kept a_t_text a_t_passing a_t_order a_t_times t_thrown t_isKept t_length t_at t_fault t_open t_asked t_byGun t_prizeMost t_listed t_now s.heap.size x1 (nI 8) r1 e2) (cwV 2 hts gX11_stateOf_X11_of rfl rfl rfl (by decide +kernel) ⟨Nat.le_of_ble_eq_true rfl, Nat.le_of_ble_eq_true rfl⟩) hK hN hZ hP hD hS hA rfl rfl rfl rfl rfl rfl rfl rfl hl.1 rfl (lv_room (Nat.le_of_ble_eq_true rfl)) dX11_stateOf_4 ⟨Nat.le_of_ble_eq_true rfl, Nat.le_of_ble_eq_true rfl⟩ (fun H locs hP hD hS => ?_)
  have hP : va_P D vwCl [(a_t, .inr (11, [.int t_thrown, .ref a_t_now, .ref a_t_kept, .int t_isKept, .ref a_t_text, .int t_length, .ref a_t_passing, .int t_at, .int t_fault, .int t_open, .int t_asked, .int t_byGun, .int t_prizeMost, .ref a_t_order, .ref a_t_times, .int t_listed])), (a_t_now, .inl (cI, 1562, .inl t_now))] H := hP
  have hD : va_D A [(a_t, .inr (11, [.int t_thrown, .ref a_t_now, .ref a_t_kept, .int t_isKept, .ref a_t_text, .int t_length, .ref a_t_passing, .int t_at, .int t_fault, .int t_open, .int t_asked, .int t_byGun, .int t_prizeMost, .ref a_t_order, .ref a_t_times, .int t_listed])), (a_t_now, .inl (cI, 1562, .inl t_now))] := hD
  refine lv_iconst (v := (nI 1)) hx hb dX11_stateOf_7 rfl ?_
  refine lv_icmp_ne (tgt := 13) hx hb dX11_stateOf_8 (by decide) (fun c3 => ?_) (fun c3 => ?_)
  · have h := zz_f h c3
    refine lv_aload_n hx hb dX11_stateOf_13 rfl (lv_at hl 0 rfl) ?_
    refine lv_iload_n hx hb dX11_stateOf_14 rfl (lv_at hl 1 rfl) ?_
    refine lv_bipush (v := (nI 6)) hx hb dX11_stateOf_15 rfl ?_
    obtain ⟨r4, e5, h⟩ := zz_b h
    refine zVi (As := [.int x1, .int (nI 6)]) (rest := []) (C := RX11) (wr := []) [0, 1] [] 0 ⟨hx, hb, hml, hown, hts⟩ (mX11_of l D cB cI cZ a_t a_t_now a_t_kept a_t_text a_t_passing a_t_order a_t_times t_thrown t_isKept t_length t_at t_fault t_open t_asked t_byGun t_prizeMost t_listed t_now H.size x1 (nI 6) r4 e5) (cwV 2 hts gX11_stateOf_X11_of rfl rfl rfl (by decide +kernel) ⟨Nat.le_of_ble_eq_true rfl, Nat.le_of_ble_eq_true rfl⟩) hK hN hZ hP hD hS hA rfl rfl rfl rfl rfl rfl rfl rfl hl.1 rfl (lv_room (Nat.le_of_ble_eq_true rfl)) dX11_stateOf_17 ⟨Nat.le_of_ble_eq_true rfl, Nat.le_of_ble_eq_true rfl⟩ (fun H locs hP hD hS => ?_)
    have hP : va_P D vwCl [(a_t, .inr (11, [.int t_thrown, .ref a_t_now, .ref a_t_kept, .int t_isKept, .ref a_t_text, .int t_length, .ref a_t_passing, .int t_at, .int t_fault, .int t_open, .int t_asked, .int t_byGun, .int t_prizeMost, .ref a_t_order, .ref a_t_times, .int t_listed])), (a_t_now, .inl (cI, 1562, .inl t_now))] H := hP
    have hD : va_D A [(a_t, .inr (11, [.int t_thrown, .ref a_t_now, .ref a_t_kept, .int t_isKept, .ref a_t_text, .int t_length, .ref a_t_passing, .int t_at, .int t_fault, .int t_open, .int t_asked, .int t_byGun, .int t_prizeMost, .ref a_t_order, .ref a_t_times, .int t_listed])), (a_t_now, .inl (cI, 1562, .inl t_now))] := hD
    refine lv_iconst (v := (nI 1)) hx hb dX11_stateOf_20 rfl ?_
    refine lv_icmp_ne (tgt := 26) hx hb dX11_stateOf_21 (by decide) (fun c6 => ?_) (fun c6 => ?_)
    · have h := zz_f h c6
      refine lv_aload_n hx hb dX11_stateOf_26 rfl (lv_at hl 0 rfl) ?_
      refine lv_iload_n hx hb dX11_stateOf_27 rfl (lv_at hl 1 rfl) ?_
      obtain ⟨b7, e8, h⟩ := zz_b h
      refine zVi (As := [.int x1]) (rest := []) (C := RX11) (wr := []) [0, 1] [] 0 ⟨hx, hb, hml, hown, hts⟩ (mX11_isOut l D cB cI cZ a_t a_t_now a_t_kept a_t_text a_t_passing a_t_order a_t_times t_thrown t_isKept t_length t_at t_fault t_open t_asked t_byGun t_prizeMost t_listed t_now H.size x1 N b7 e8) (cwV 1 hts gX11_stateOf_X11_isOut rfl rfl rfl (by decide +kernel) ⟨Nat.le_of_ble_eq_true rfl, Nat.le_of_ble_eq_true rfl⟩) hK hN hZ hP hD hS hA rfl rfl rfl rfl rfl rfl rfl rfl hl.1 rfl (lv_room (Nat.le_of_ble_eq_true rfl)) dX11_stateOf_28 ⟨Nat.le_of_ble_eq_true rfl, Nat.le_of_ble_eq_true rfl⟩ (fun H locs hP hD hS => ?_)
      have hP : va_P D vwCl [(a_t, .inr (11, [.int t_thrown, .ref a_t_now, .ref a_t_kept, .int t_isKept, .ref a_t_text, .int t_length, .ref a_t_passing, .int t_at, .int t_fault, .int t_open, .int t_asked, .int t_byGun, .int t_prizeMost, .ref a_t_order, .ref a_t_times, .int t_listed])), (a_t_now, .inl (cI, 1562, .inl t_now))] H := hP
      have hD : va_D A [(a_t, .inr (11, [.int t_thrown, .ref a_t_now, .ref a_t_kept, .int t_isKept, .ref a_t_text, .int t_length, .ref a_t_passing, .int t_at, .int t_fault, .int t_open, .int t_asked, .int t_byGun, .int t_prizeMost, .ref a_t_order, .ref a_t_times, .int t_listed])), (a_t_now, .inl (cI, 1562, .inl t_now))] := hD
      refine lv_if_eq (tgt := 36) hx hb dX11_stateOf_31 (by decide) (fun c9 => ?_) (fun c9 => ?_)
      · have h := zz_t h c9
        refine lv_aload_n hx hb dX11_stateOf_36 rfl (lv_at hl 0 rfl) ?_
        obtain ⟨r10, e11, h⟩ := zz_b h
        refine zVi (As := []) (rest := []) (C := RX11) (wr := []) [0, 1] [] 0 ⟨hx, hb, hml, hown, hts⟩ (mX11_mats l D cB cI cZ a_t a_t_now a_t_kept a_t_text a_t_passing a_t_order a_t_times t_thrown t_isKept t_length t_at t_fault t_open t_asked t_byGun t_prizeMost t_listed t_now H.size r10 e11) (cwV 0 hts gX11_stateOf_X11_mats rfl rfl rfl (by decide +kernel) ⟨Nat.le_of_ble_eq_true rfl, Nat.le_of_ble_eq_true rfl⟩) hK hN hZ hP hD hS hA rfl rfl rfl rfl rfl rfl rfl rfl hl.1 rfl (lv_room (Nat.le_of_ble_eq_true rfl)) dX11_stateOf_37 ⟨Nat.le_of_ble_eq_true rfl, Nat.le_of_ble_eq_true rfl⟩ (fun H locs hP hD hS => ?_)
        have hP : va_P D vwCl [(a_t, .inr (11, [.int t_thrown, .ref a_t_now, .ref a_t_kept, .int t_isKept, .ref a_t_text, .int t_length, .ref a_t_passing, .int t_at, .int t_fault, .int t_open, .int t_asked, .int t_byGun, .int t_prizeMost, .ref a_t_order, .ref a_t_times, .int t_listed])), (a_t_now, .inl (cI, 1562, .inl t_now))] H := hP
        have hD : va_D A [(a_t, .inr (11, [.int t_thrown, .ref a_t_now, .ref a_t_kept, .int t_isKept, .ref a_t_text, .int t_length, .ref a_t_passing, .int t_at, .int t_fault, .int t_open, .int t_asked, .int t_byGun, .int t_prizeMost, .ref a_t_order, .ref a_t_times, .int t_listed])), (a_t_now, .inl (cI, 1562, .inl t_now))] := hD
        refine lv_iconst (v := (nI 1)) hx hb dX11_stateOf_40 rfl ?_
        refine lv_icmp_le (tgt := 61) hx hb dX11_stateOf_41 (by decide) (fun c12 => ?_) (fun c12 => ?_)
        · have h := zz_t h c12
          refine lv_aload_n hx hb dX11_stateOf_61 rfl (lv_at hl 0 rfl) ?_
          refine lv_iload_n hx hb dX11_stateOf_62 rfl (lv_at hl 1 rfl) ?_
          obtain ⟨r13, e14, h⟩ := zz_b h
          refine zVi (As := [.int x1]) (rest := []) (C := RX11) (wr := []) [0, 1] [] 0 ⟨hx, hb, hml, hown, hts⟩ (mX11_startOf l D cB cI cZ a_t a_t_now a_t_kept a_t_text a_t_passing a_t_order a_t_times t_thrown t_isKept t_length t_at t_fault t_open t_asked t_byGun t_prizeMost t_listed t_now H.size x1 r13 e14) (cwV 1 hts gX11_stateOf_X11_startOf rfl rfl rfl (by decide +kernel) ⟨Nat.le_of_ble_eq_true rfl, Nat.le_of_ble_eq_true rfl⟩) hK hN hZ hP hD hS hA rfl rfl rfl rfl rfl rfl rfl rfl hl.1 rfl (lv_room (Nat.le_of_ble_eq_true rfl)) dX11_stateOf_63 ⟨Nat.le_of_ble_eq_true rfl, Nat.le_of_ble_eq_true rfl⟩ (fun H locs hP hD hS => ?_)
          have hP : va_P D vwCl [(a_t, .inr (11, [.int t_thrown, .ref a_t_now, .ref a_t_kept, .int t_isKept, .ref a_t_text, .int t_length, .ref a_t_passing, .int t_at, .int t_fault, .int t_open, .int t_asked, .int t_byGun, .int t_prizeMost, .ref a_t_order, .ref a_t_times, .int t_listed])), (a_t_now, .inl (cI, 1562, .inl t_now))] H := hP
          have hD : va_D A [(a_t, .inr (11, [.int t_thrown, .ref a_t_now, .ref a_t_kept, .int t_isKept, .ref a_t_text, .int t_length, .ref a_t_passing, .int t_at, .int t_fault, .int t_open, .int t_asked, .int t_byGun, .int t_prizeMost, .ref a_t_order, .ref a_t_times, .int t_listed])), (a_t_now, .inl (cI, 1562, .inl t_now))] := hD
          refine lv_iconst (v := (-1 : Int32)) hx hb dX11_stateOf_66 rfl ?_
          refine lv_icmp_eq (tgt := 74) hx hb dX11_stateOf_67 (by decide) (fun c15 => ?_) (fun c15 => ?_)
          · have h := zz_t h c15
            refine lv_iconst (v := (nI 0)) hx hb dX11_stateOf_74 rfl ?_
            have j0_ := Option.some.inj h
            subst j0_
            exact W.iret (v := (nI 0)) hx hb hr (fun t ht hW => ⟨⟨_, (), rfl, rfl, zPost.of hP hD hK ht hW [0, 1] rfl rfl rfl⟩, hS.F ht⟩) hS.2.2 dX11_stateOf_75
          · have h := zz_f h c15
            refine lv_iconst (v := (nI 1)) hx hb dX11_stateOf_70 rfl ?_
            refine lv_goto (tgt := 75) hx hb dX11_stateOf_71 (by decide) ?_
            have j0_ := Option.some.inj h
            subst j0_
            exact W.iret (v := (nI 1)) hx hb hr (fun t ht hW => ⟨⟨_, (), rfl, rfl, zPost.of hP hD hK ht hW [0, 1] rfl rfl rfl⟩, hS.F ht⟩) hS.2.2 dX11_stateOf_75
        · have h := zz_f h c12
          refine lv_aload_n hx hb dX11_stateOf_44 rfl (lv_at hl 0 rfl) ?_
          refine lv_iload_n hx hb dX11_stateOf_45 rfl (lv_at hl 1 rfl) ?_
          refine lv_aload_n hx hb dX11_stateOf_46 rfl (lv_at hl 0 rfl) ?_
          obtain ⟨r16, e17, h⟩ := zz_b h
          refine zVi (As := []) (rest := [.int x1, .ref a_t]) (C := RX11) (wr := []) [0, 1] [] 0 ⟨hx, hb, hml, hown, hts⟩ (mX11_mats l D cB cI cZ a_t a_t_now a_t_kept a_t_text a_t_passing a_t_order a_t_times t_thrown t_isKept t_length t_at t_fault t_open t_asked t_byGun t_prizeMost t_listed t_now H.size r16 e17) (cwV 0 hts gX11_stateOf_X11_mats rfl rfl rfl (by decide +kernel) ⟨Nat.le_of_ble_eq_true rfl, Nat.le_of_ble_eq_true rfl⟩) hK hN hZ hP hD hS hA rfl rfl rfl rfl rfl rfl rfl rfl hl.1 rfl (lv_room (Nat.le_of_ble_eq_true rfl)) dX11_stateOf_47 ⟨Nat.le_of_ble_eq_true rfl, Nat.le_of_ble_eq_true rfl⟩ (fun H locs hP hD hS => ?_)
          have hP : va_P D vwCl [(a_t, .inr (11, [.int t_thrown, .ref a_t_now, .ref a_t_kept, .int t_isKept, .ref a_t_text, .int t_length, .ref a_t_passing, .int t_at, .int t_fault, .int t_open, .int t_asked, .int t_byGun, .int t_prizeMost, .ref a_t_order, .ref a_t_times, .int t_listed])), (a_t_now, .inl (cI, 1562, .inl t_now))] H := hP
          have hD : va_D A [(a_t, .inr (11, [.int t_thrown, .ref a_t_now, .ref a_t_kept, .int t_isKept, .ref a_t_text, .int t_length, .ref a_t_passing, .int t_at, .int t_fault, .int t_open, .int t_asked, .int t_byGun, .int t_prizeMost, .ref a_t_order, .ref a_t_times, .int t_listed])), (a_t_now, .inl (cI, 1562, .inl t_now))] := hD
          refine lv_iconst (v := (nI 1)) hx hb dX11_stateOf_50 rfl ?_
          refine lv_isub hx hb dX11_stateOf_51 ?_
          obtain ⟨r18, e19, h⟩ := zz_b h
          refine zVi (As := [.int x1, .int (r16 - (nI 1))]) (rest := []) (C := RX11) (wr := []) [0, 1] [] 0 ⟨hx, hb, hml, hown, hts⟩ (mX11_splitOf l D cB cI cZ a_t a_t_now a_t_kept a_t_text a_t_passing a_t_order a_t_times t_thrown t_isKept t_length t_at t_fault t_open t_asked t_byGun t_prizeMost t_listed t_now H.size x1 (r16 - (nI 1)) r18 e19) (cwV 2 hts gX11_stateOf_X11_splitOf rfl rfl rfl (by decide +kernel) ⟨Nat.le_of_ble_eq_true rfl, Nat.le_of_ble_eq_true rfl⟩) hK hN hZ hP hD hS hA rfl rfl rfl rfl rfl rfl rfl rfl hl.1 rfl (lv_room (Nat.le_of_ble_eq_true rfl)) dX11_stateOf_52 ⟨Nat.le_of_ble_eq_true rfl, Nat.le_of_ble_eq_true rfl⟩ (fun H locs hP hD hS => ?_)
          have hP : va_P D vwCl [(a_t, .inr (11, [.int t_thrown, .ref a_t_now, .ref a_t_kept, .int t_isKept, .ref a_t_text, .int t_length, .ref a_t_passing, .int t_at, .int t_fault, .int t_open, .int t_asked, .int t_byGun, .int t_prizeMost, .ref a_t_order, .ref a_t_times, .int t_listed])), (a_t_now, .inl (cI, 1562, .inl t_now))] H := hP
          have hD : va_D A [(a_t, .inr (11, [.int t_thrown, .ref a_t_now, .ref a_t_kept, .int t_isKept, .ref a_t_text, .int t_length, .ref a_t_passing, .int t_at, .int t_fault, .int t_open, .int t_asked, .int t_byGun, .int t_prizeMost, .ref a_t_order, .ref a_t_times, .int t_listed])), (a_t_now, .inl (cI, 1562, .inl t_now))] := hD
          refine lv_iconst (v := (-1 : Int32)) hx hb dX11_stateOf_55 rfl ?_
          refine lv_icmp_eq (tgt := 61) hx hb dX11_stateOf_56 (by decide) (fun c20 => ?_) (fun c20 => ?_)
          · have h := zz_t h c20
            refine lv_aload_n hx hb dX11_stateOf_61 rfl (lv_at hl 0 rfl) ?_
            refine lv_iload_n hx hb dX11_stateOf_62 rfl (lv_at hl 1 rfl) ?_
            obtain ⟨r21, e22, h⟩ := zz_b h
            refine zVi (As := [.int x1]) (rest := []) (C := RX11) (wr := []) [0, 1] [] 0 ⟨hx, hb, hml, hown, hts⟩ (mX11_startOf l D cB cI cZ a_t a_t_now a_t_kept a_t_text a_t_passing a_t_order a_t_times t_thrown t_isKept t_length t_at t_fault t_open t_asked t_byGun t_prizeMost t_listed t_now H.size x1 r21 e22) (cwV 1 hts gX11_stateOf_X11_startOf rfl rfl rfl (by decide +kernel) ⟨Nat.le_of_ble_eq_true rfl, Nat.le_of_ble_eq_true rfl⟩) hK hN hZ hP hD hS hA rfl rfl rfl rfl rfl rfl rfl rfl hl.1 rfl (lv_room (Nat.le_of_ble_eq_true rfl)) dX11_stateOf_63 ⟨Nat.le_of_ble_eq_true rfl, Nat.le_of_ble_eq_true rfl⟩ (fun H locs hP hD hS => ?_)
            have hP : va_P D vwCl [(a_t, .inr (11, [.int t_thrown, .ref a_t_now, .ref a_t_kept, .int t_isKept, .ref a_t_text, .int t_length, .ref a_t_passing, .int t_at, .int t_fault, .int t_open, .int t_asked, .int t_byGun, .int t_prizeMost, .ref a_t_order, .ref a_t_times, .int t_listed])), (a_t_now, .inl (cI, 1562, .inl t_now))] H := hP
            have hD : va_D A [(a_t, .inr (11, [.int t_thrown, .ref a_t_now, .ref a_t_kept, .int t_isKept, .ref a_t_text, .int t_length, .ref a_t_passing, .int t_at, .int t_fault, .int t_open, .int t_asked, .int t_byGun, .int t_prizeMost, .ref a_t_order, .ref a_t_times, .int t_listed])), (a_t_now, .inl (cI, 1562, .inl t_now))] := hD
            refine lv_iconst (v := (-1 : Int32)) hx hb dX11_stateOf_66 rfl ?_
            refine lv_icmp_eq (tgt := 74) hx hb dX11_stateOf_67 (by decide) (fun c23 => ?_) (fun c23 => ?_)
            · have h := zz_t h c23
              refine lv_iconst (v := (nI 0)) hx hb dX11_stateOf_74 rfl ?_
              have j0_ := Option.some.inj h
              subst j0_
              exact W.iret (v := (nI 0)) hx hb hr (fun t ht hW => ⟨⟨_, (), rfl, rfl, zPost.of hP hD hK ht hW [0, 1] rfl rfl rfl⟩, hS.F ht⟩) hS.2.2 dX11_stateOf_75
            · have h := zz_f h c23
              refine lv_iconst (v := (nI 1)) hx hb dX11_stateOf_70 rfl ?_
              refine lv_goto (tgt := 75) hx hb dX11_stateOf_71 (by decide) ?_
              have j0_ := Option.some.inj h
              subst j0_
              exact W.iret (v := (nI 1)) hx hb hr (fun t ht hW => ⟨⟨_, (), rfl, rfl, zPost.of hP hD hK ht hW [0, 1] rfl rfl rfl⟩, hS.F ht⟩) hS.2.2 dX11_stateOf_75
          · have h := zz_f h c20
            refine lv_iconst (v := (nI 2)) hx hb dX11_stateOf_59 rfl ?_
            have j0_ := Option.some.inj h
            subst j0_
            exact W.iret (v := (nI 2)) hx hb hr (fun t ht hW => ⟨⟨_, (), rfl, rfl, zPost.of hP hD hK ht hW [0, 1] rfl rfl rfl⟩, hS.F ht⟩) hS.2.2 dX11_stateOf_60
      · have h := zz_f h c9
        refine lv_iconst (v := (nI 5)) hx hb dX11_stateOf_34 rfl ?_
        have j0_ := Option.some.inj h
        subst j0_
        exact W.iret (v := (nI 5)) hx hb hr (fun t ht hW => ⟨⟨_, (), rfl, rfl, zPost.of hP hD hK ht hW [0, 1] rfl rfl rfl⟩, hS.F ht⟩) hS.2.2 dX11_stateOf_35
    · have h := zz_t h c6
      refine lv_iconst (v := (nI 3)) hx hb dX11_stateOf_24 rfl ?_
      have j0_ := Option.some.inj h
      subst j0_
      exact W.iret (v := (nI 3)) hx hb hr (fun t ht hW => ⟨⟨_, (), rfl, rfl, zPost.of hP hD hK ht hW [0, 1] rfl rfl rfl⟩, hS.F ht⟩) hS.2.2 dX11_stateOf_25
  · have h := zz_t h c3
    refine lv_iconst (v := (nI 4)) hx hb dX11_stateOf_11 rfl ?_
    have j0_ := Option.some.inj h
    subst j0_
    exact W.iret (v := (nI 4)) hx hb hr (fun t ht hW => ⟨⟨_, (), rfl, rfl, zPost.of hP hD hK ht hW [0, 1] rfl rfl rfl⟩, hS.F ht⟩) hS.2.2 dX11_stateOf_12
/-! RunDeskModel.timeFrom -/
theorem dX11_timeFrom_0 : decode cX11_timeFrom 0 = .ok (.aload_n 0, 1) := by decide +kernel
theorem dX11_timeFrom_1 : decode cX11_timeFrom 1 = .ok (.iload_n 1, 1) := by decide +kernel
theorem dX11_timeFrom_2 : decode cX11_timeFrom 2 = .ok (.invokevirtual 89, 3) := by decide +kernel
theorem dX11_timeFrom_5 : decode cX11_timeFrom 5 = .ok (.iconst 2, 1) := by decide +kernel
theorem dX11_timeFrom_6 : decode cX11_timeFrom 6 = .ok (.if_icmp .ne 8, 3) := by decide +kernel
theorem dX11_timeFrom_9 : decode cX11_timeFrom 9 = .ok (.iload_n 2, 1) := by decide +kernel
theorem dX11_timeFrom_10 : decode cX11_timeFrom 10 = .ok (.iconst (-1), 1) := by decide +kernel
theorem dX11_timeFrom_11 : decode cX11_timeFrom 11 = .ok (.if_icmp .ne 5, 3) := by decide +kernel
theorem dX11_timeFrom_14 : decode cX11_timeFrom 14 = .ok (.iconst (-1), 1) := by decide +kernel
theorem dX11_timeFrom_15 : decode cX11_timeFrom 15 = .ok (.ireturn, 1) := by decide +kernel
theorem dX11_timeFrom_16 : decode cX11_timeFrom 16 = .ok (.aload_n 0, 1) := by decide +kernel
theorem dX11_timeFrom_17 : decode cX11_timeFrom 17 = .ok (.iload_n 1, 1) := by decide +kernel
theorem dX11_timeFrom_18 : decode cX11_timeFrom 18 = .ok (.aload_n 0, 1) := by decide +kernel
theorem dX11_timeFrom_19 : decode cX11_timeFrom 19 = .ok (.invokevirtual 41, 3) := by decide +kernel
theorem dX11_timeFrom_22 : decode cX11_timeFrom 22 = .ok (.iconst 1, 1) := by decide +kernel
theorem dX11_timeFrom_23 : decode cX11_timeFrom 23 = .ok (.isub, 1) := by decide +kernel
theorem dX11_timeFrom_24 : decode cX11_timeFrom 24 = .ok (.invokevirtual 76, 3) := by decide +kernel
theorem dX11_timeFrom_27 : decode cX11_timeFrom 27 = .ok (.iload_n 2, 1) := by decide +kernel
theorem dX11_timeFrom_28 : decode cX11_timeFrom 28 = .ok (.isub, 1) := by decide +kernel
theorem dX11_timeFrom_29 : decode cX11_timeFrom 29 = .ok (.istore_n 3, 1) := by decide +kernel
theorem dX11_timeFrom_30 : decode cX11_timeFrom 30 = .ok (.iload_n 3, 1) := by decide +kernel
theorem dX11_timeFrom_31 : decode cX11_timeFrom 31 = .ok (.ifCond .ge 7, 3) := by decide +kernel
theorem dX11_timeFrom_34 : decode cX11_timeFrom 34 = .ok (.iconst (-1), 1) := by decide +kernel
theorem dX11_timeFrom_35 : decode cX11_timeFrom 35 = .ok (.goto 4, 3) := by decide +kernel
theorem dX11_timeFrom_38 : decode cX11_timeFrom 38 = .ok (.iload_n 3, 1) := by decide +kernel
theorem dX11_timeFrom_39 : decode cX11_timeFrom 39 = .ok (.ireturn, 1) := by decide +kernel
set_option maxRecDepth 20000 in
theorem ggX11_timeFrom_X11_stateOf : GoodIn wsX11_timeFrom wsX11_stateOf := goodIn_sub (List.forall_mem_cons.mpr ⟨List.mem_cons_of_mem _ (List.mem_append_left _ (List.mem_append_left _ (List.mem_of_getElem? (l := wsX11_timeFrom_r1) (i := 4) rfl))), (List.forall_mem_append.mpr ⟨(List.forall_mem_append.mpr ⟨(List.forall_mem_cons.mpr ⟨List.mem_cons_of_mem _ (List.mem_append_left _ (List.mem_append_left _ (List.mem_of_getElem? (l := wsX11_timeFrom_r1) (i := 5) rfl))), (List.forall_mem_cons.mpr ⟨List.mem_cons_of_mem _ (List.mem_append_left _ (List.mem_append_left _ (List.mem_of_getElem? (l := wsX11_timeFrom_r1) (i := 6) rfl))), (List.forall_mem_cons.mpr ⟨List.mem_cons_of_mem _ (List.mem_append_left _ (List.mem_append_left _ (List.mem_of_getElem? (l := wsX11_timeFrom_r1) (i := 7) rfl))), (List.forall_mem_cons.mpr ⟨List.mem_cons_of_mem _ (List.mem_append_left _ (List.mem_append_left _ (List.mem_of_getElem? (l := wsX11_timeFrom_r1) (i := 3) rfl))), (List.forall_mem_cons.mpr ⟨List.mem_cons_of_mem _ (List.mem_append_left _ (List.mem_append_left _ (List.mem_of_getElem? (l := wsX11_timeFrom_r1) (i := 8) rfl))), (List.forall_mem_cons.mpr ⟨List.mem_cons_of_mem _ (List.mem_append_left _ (List.mem_append_left _ (List.mem_of_getElem? (l := wsX11_timeFrom_r1) (i := 9) rfl))), (List.forall_mem_cons.mpr ⟨List.mem_cons_of_mem _ (List.mem_append_left _ (List.mem_append_left _ (List.mem_of_getElem? (l := wsX11_timeFrom_r1) (i := 10) rfl))), (List.forall_mem_cons.mpr ⟨List.mem_cons_of_mem _ (List.mem_append_left _ (List.mem_append_left _ (List.mem_of_getElem? (l := wsX11_timeFrom_r1) (i := 11) rfl))), (List.forall_mem_cons.mpr ⟨List.mem_cons_of_mem _ (List.mem_append_left _ (List.mem_append_left _ (List.mem_of_getElem? (l := wsX11_timeFrom_r1) (i := 12) rfl))), (List.forall_mem_cons.mpr ⟨List.mem_cons_of_mem _ (List.mem_append_left _ (List.mem_append_left _ (List.mem_of_getElem? (l := wsX11_timeFrom_r1) (i := 13) rfl))), (List.forall_mem_cons.mpr ⟨List.mem_cons_of_mem _ (List.mem_append_left _ (List.mem_append_left _ (List.mem_of_getElem? (l := wsX11_timeFrom_r1) (i := 14) rfl))), (List.forall_mem_cons.mpr ⟨List.mem_cons_of_mem _ (List.mem_append_left _ (List.mem_append_left _ (List.mem_of_getElem? (l := wsX11_timeFrom_r1) (i := 15) rfl))), (List.forall_mem_cons.mpr ⟨List.mem_cons_of_mem _ (List.mem_append_left _ (List.mem_append_left _ (List.mem_of_getElem? (l := wsX11_timeFrom_r1) (i := 16) rfl))), (List.forall_mem_cons.mpr ⟨List.mem_cons_of_mem _ (List.mem_append_left _ (List.mem_append_left _ (List.mem_of_getElem? (l := wsX11_timeFrom_r1) (i := 17) rfl))), (List.forall_mem_cons.mpr ⟨List.mem_cons_of_mem _ (List.mem_append_left _ (List.mem_append_left _ (List.mem_of_getElem? (l := wsX11_timeFrom_r1) (i := 18) rfl))), (List.forall_mem_cons.mpr ⟨List.mem_cons_of_mem _ (List.mem_append_left _ (List.mem_append_left _ (List.mem_of_getElem? (l := wsX11_timeFrom_r1) (i := 19) rfl))), (List.forall_mem_cons.mpr ⟨List.mem_cons_of_mem _ (List.mem_append_left _ (List.mem_append_left _ (List.mem_of_getElem? (l := wsX11_timeFrom_r1) (i := 20) rfl))), (List.forall_mem_cons.mpr ⟨List.mem_cons_of_mem _ (List.mem_append_left _ (List.mem_append_left _ (List.mem_of_getElem? (l := wsX11_timeFrom_r1) (i := 21) rfl))), (List.forall_mem_cons.mpr ⟨List.mem_cons_of_mem _ (List.mem_append_left _ (List.mem_append_left _ (List.mem_of_getElem? (l := wsX11_timeFrom_r1) (i := 22) rfl))), (List.forall_mem_cons.mpr ⟨List.mem_cons_of_mem _ (List.mem_append_left _ (List.mem_append_left _ (List.mem_of_getElem? (l := wsX11_timeFrom_r1) (i := 23) rfl))), (List.forall_mem_cons.mpr ⟨List.mem_cons_of_mem _ (List.mem_append_left _ (List.mem_append_right _ (List.mem_of_getElem? (l := wsX11_timeFrom_r2) (i := 0) rfl))), (List.forall_mem_cons.mpr ⟨List.mem_cons_of_mem _ (List.mem_append_left _ (List.mem_append_right _ (List.mem_of_getElem? (l := wsX11_timeFrom_r2) (i := 1) rfl))), (List.forall_mem_cons.mpr ⟨List.mem_cons_of_mem _ (List.mem_append_left _ (List.mem_append_right _ (List.mem_of_getElem? (l := wsX11_timeFrom_r2) (i := 2) rfl))), (List.forall_mem_cons.mpr ⟨List.mem_cons_of_mem _ (List.mem_append_left _ (List.mem_append_right _ (List.mem_of_getElem? (l := wsX11_timeFrom_r2) (i := 3) rfl))), (fun _ h => nomatch h)⟩)⟩)⟩)⟩)⟩)⟩)⟩)⟩)⟩)⟩)⟩)⟩)⟩)⟩)⟩)⟩)⟩)⟩)⟩)⟩)⟩)⟩)⟩)⟩), (List.forall_mem_cons.mpr ⟨List.mem_cons_of_mem _ (List.mem_append_left _ (List.mem_append_right _ (List.mem_of_getElem? (l := wsX11_timeFrom_r2) (i := 4) rfl))), (List.forall_mem_cons.mpr ⟨List.mem_cons_of_mem _ (List.mem_append_left _ (List.mem_append_right _ (List.mem_of_getElem? (l := wsX11_timeFrom_r2) (i := 5) rfl))), (List.forall_mem_cons.mpr ⟨List.mem_cons_of_mem _ (List.mem_append_left _ (List.mem_append_right _ (List.mem_of_getElem? (l := wsX11_timeFrom_r2) (i := 6) rfl))), (List.forall_mem_cons.mpr ⟨List.mem_cons_of_mem _ (List.mem_append_left _ (List.mem_append_right _ (List.mem_of_getElem? (l := wsX11_timeFrom_r2) (i := 7) rfl))), (List.forall_mem_cons.mpr ⟨List.mem_cons_of_mem _ (List.mem_append_left _ (List.mem_append_right _ (List.mem_of_getElem? (l := wsX11_timeFrom_r2) (i := 8) rfl))), (List.forall_mem_cons.mpr ⟨List.mem_cons_of_mem _ (List.mem_append_left _ (List.mem_append_right _ (List.mem_of_getElem? (l := wsX11_timeFrom_r2) (i := 9) rfl))), (fun _ h => nomatch h)⟩)⟩)⟩)⟩)⟩)⟩)⟩), (fun _ h => List.mem_cons_of_mem _ (List.mem_append_right _ (h)))⟩)⟩) (by decide +kernel)
set_option maxRecDepth 20000 in
theorem gX11_timeFrom_X11_stateOf : GoodIn wsX11_timeFrom (wsV RX11 89 RX11 yX11_stateOf wsX11_stateOf) := goodIn_app (goodIn_of _ (by decide +kernel)) ggX11_timeFrom_X11_stateOf
set_option maxRecDepth 20000 in
theorem ggX11_timeFrom_X11_mats : GoodIn wsX11_timeFrom wsX11_mats := goodIn_sub (List.forall_mem_cons.mpr ⟨List.mem_cons_of_mem _ (List.mem_append_left _ (List.mem_append_left _ (List.mem_of_getElem? (l := wsX11_timeFrom_r1) (i := 17) rfl))), (List.forall_mem_append.mpr ⟨(List.forall_mem_cons.mpr ⟨List.mem_cons_of_mem _ (List.mem_append_left _ (List.mem_append_left _ (List.mem_of_getElem? (l := wsX11_timeFrom_r1) (i := 9) rfl))), (fun _ h => nomatch h)⟩), (fun _ h => List.mem_cons_of_mem _ (List.mem_append_right _ (h)))⟩)⟩) (by decide +kernel)
set_option maxRecDepth 20000 in
theorem gX11_timeFrom_X11_mats : GoodIn wsX11_timeFrom (wsV RX11 41 RX11 yX11_mats wsX11_mats) := goodIn_app (goodIn_of _ (by decide +kernel)) ggX11_timeFrom_X11_mats
set_option maxRecDepth 20000 in
theorem ggX11_timeFrom_X11_splitOf : GoodIn wsX11_timeFrom wsX11_splitOf := goodIn_sub (List.forall_mem_cons.mpr ⟨List.mem_cons_of_mem _ (List.mem_append_left _ (List.mem_append_right _ (List.mem_of_getElem? (l := wsX11_timeFrom_r2) (i := 1) rfl))), (List.forall_mem_append.mpr ⟨(List.forall_mem_cons.mpr ⟨List.mem_cons_of_mem _ (List.mem_append_left _ (List.mem_append_left _ (List.mem_of_getElem? (l := wsX11_timeFrom_r1) (i := 5) rfl))), (List.forall_mem_cons.mpr ⟨List.mem_cons_of_mem _ (List.mem_append_left _ (List.mem_append_left _ (List.mem_of_getElem? (l := wsX11_timeFrom_r1) (i := 6) rfl))), (List.forall_mem_cons.mpr ⟨List.mem_cons_of_mem _ (List.mem_append_left _ (List.mem_append_left _ (List.mem_of_getElem? (l := wsX11_timeFrom_r1) (i := 7) rfl))), (List.forall_mem_cons.mpr ⟨List.mem_cons_of_mem _ (List.mem_append_left _ (List.mem_append_left _ (List.mem_of_getElem? (l := wsX11_timeFrom_r1) (i := 3) rfl))), (List.forall_mem_cons.mpr ⟨List.mem_cons_of_mem _ (List.mem_append_left _ (List.mem_append_left _ (List.mem_of_getElem? (l := wsX11_timeFrom_r1) (i := 8) rfl))), (List.forall_mem_cons.mpr ⟨List.mem_cons_of_mem _ (List.mem_append_left _ (List.mem_append_left _ (List.mem_of_getElem? (l := wsX11_timeFrom_r1) (i := 9) rfl))), (fun _ h => nomatch h)⟩)⟩)⟩)⟩)⟩)⟩), (fun _ h => List.mem_cons_of_mem _ (List.mem_append_right _ (h)))⟩)⟩) (by decide +kernel)
set_option maxRecDepth 20000 in
theorem gX11_timeFrom_X11_splitOf : GoodIn wsX11_timeFrom (wsV RX11 76 RX11 yX11_splitOf wsX11_splitOf) := goodIn_app (goodIn_of _ (by decide +kernel)) ggX11_timeFrom_X11_splitOf
set_option maxHeartbeats 4000000 in
set_option maxRecDepth 100000 in
theorem mX11_timeFrom (l : Launch) (D : va_G) (cB cI cZ : ClassId) (a_t : Nat) (a_t_now : Nat) (a_t_kept : Nat) (a_t_text : Nat) (a_t_passing : Nat) (a_t_order : Nat) (a_t_times : Nat) (t_thrown : Int32) (t_isKept : Int32) (t_length : Int32) (t_at : Int32) (t_fault : Int32) (t_open : Int32) (t_asked : Int32) (t_byGun : Int32) (t_prizeMost : Int32) (t_listed : Int32) (t_now : Nat → Int32) (sz : Nat) (x1 : Int32) (x2 : Int32) (N : Nat) (r0 : Int32) (h : fX11_timeFrom N t_now x1 x2 = some (r0)) : Met l yX11_timeFrom wsX11_timeFrom ({ frames := 4, cells := 0, slots := 0, locals := 88 } : Room) (va_Pc [.ref a_t, .int x1, .int x2] (zPre D (zT cB cI cZ) [(a_t, .inr (11, [.int t_thrown, .ref a_t_now, .ref a_t_kept, .int t_isKept, .ref a_t_text, .int t_length, .ref a_t_passing, .int t_at, .int t_fault, .int t_open, .int t_asked, .int t_byGun, .int t_prizeMost, .ref a_t_order, .ref a_t_times, .int t_listed])), (a_t_now, .inl (cI, 1562, .inl t_now))] sz)) (zQi r0 D (zT cB cI cZ) [(a_t, .inr (11, [.int t_thrown, .ref a_t_now, .ref a_t_kept, .int t_isKept, .ref a_t_text, .int t_length, .ref a_t_passing, .int t_at, .int t_fault, .int t_open, .int t_asked, .int t_byGun, .int t_prizeMost, .ref a_t_order, .ref a_t_times, .int t_listed])), (a_t_now, .inl (cI, 1562, .inl t_now))] (va_A [(a_t, .inr (11, [.int t_thrown, .ref a_t_now, .ref a_t_kept, .int t_isKept, .ref a_t_text, .int t_length, .ref a_t_passing, .int t_at, .int t_fault, .int t_open, .int t_asked, .int t_byGun, .int t_prizeMost, .ref a_t_order, .ref a_t_times, .int t_listed])), (a_t_now, .inl (cI, 1562, .inl t_now))] sz)) 0 0 (va_A [(a_t, .inr (11, [.int t_thrown, .ref a_t_now, .ref a_t_kept, .int t_isKept, .ref a_t_text, .int t_length, .ref a_t_passing, .int t_at, .int t_fault, .int t_open, .int t_asked, .int t_byGun, .int t_prizeMost, .ref a_t_order, .ref a_t_times, .int t_listed])), (a_t_now, .inl (cI, 1562, .inl t_now))] sz) := by
  refine Met.ofW (cc := cX11_timeFrom) (maxL := 4) (ret := (some .int)) (by decide) rfl ?_
  intro p e s m args below meth c s₁ B hml hv
  obtain ⟨rfl, hsz, hP, hK, hN, hZ, hD0⟩ := hv
  have hx := B.exec
  have hb := B.bytes
  have hr := B.returns
  have hts := atoms_spec (ws := wsX11_timeFrom) B.pre
  have hown : s.vm.findClass RX11 = some m.cls := findClass_of_methodNamed B.named
  have hlocks := B.notSynchronized
  subst hsz
  have hD := hD0.self (sz := s.heap.size)
  generalize hAe : va_A [(a_t, .inr (11, [.int t_thrown, .ref a_t_now, .ref a_t_kept, .int t_isKept, .ref a_t_text, .int t_length, .ref a_t_passing, .int t_at, .int t_fault, .int t_open, .int t_asked, .int t_byGun, .int t_prizeMost, .ref a_t_order, .ref a_t_times, .int t_listed])), (a_t_now, .inl (cI, 1562, .inl t_now))] s.heap.size = A at hD hZ ⊢
  have hA : ∀ q : Nat, s.heap.size ≤ q → A q := fun q h => by rw [← hAe]; exact Or.inr h
  have hS : va_S A s.heap s.heap [] := va_S.rf
  have hl := lv_entry ([.ref a_t, .int x1, .int x2]) (n := 4) (Nat.le_of_ble_eq_true rfl)
  rw [lg_entry_eq]
  generalize (lg_sl ([.ref a_t, .int x1, .int x2]) ++ List.replicate (4 - (lg_sl ([.ref a_t, .int x1, .int x2])).length) Slot.unset).toArray = ls at hl ⊢
  have hl : lv_has ls 4 [(0, .ref a_t), (1, .int x1), (2, .int x2)] := hl
  unfold fX11_timeFrom at h
  refine lv_aload_n hx hb dX11_timeFrom_0 rfl (lv_at hl 0 rfl) ?_
  refine lv_iload_n hx hb dX11_timeFrom_1 rfl (lv_at hl 1 rfl) ?_
  obtain ⟨r1, e2, h⟩ := zz_b h
  refine zVi (As := [.int x1]) (rest := []) (C := RX11) (wr := []) [0, 1] [] 0 ⟨hx, hb, hml, hown, hts⟩ (mX11_stateOf l D cB cI cZ a_t a_t_now a_t_kept a_t_text a_t_passing a_t_order a_t_times t_thrown t_isKept t_length t_at t_fault t_open t_asked t_byGun t_prizeMost t_listed t_now s.heap.size x1 N r1 e2) (cwV 1 hts gX11_timeFrom_X11_stateOf rfl rfl rfl (by decide +kernel) ⟨Nat.le_of_ble_eq_true rfl, Nat.le_of_ble_eq_true rfl⟩) hK hN hZ hP hD hS hA rfl rfl rfl rfl rfl rfl rfl rfl hl.1 rfl (lv_room (Nat.le_of_ble_eq_true rfl)) dX11_timeFrom_2 ⟨Nat.le_of_ble_eq_true rfl, Nat.le_of_ble_eq_true rfl⟩ (fun H locs hP hD hS => ?_)
  have hP : va_P D vwCl [(a_t, .inr (11, [.int t_thrown, .ref a_t_now, .ref a_t_kept, .int t_isKept, .ref a_t_text, .int t_length, .ref a_t_passing, .int t_at, .int t_fault, .int t_open, .int t_asked, .int t_byGun, .int t_prizeMost, .ref a_t_order, .ref a_t_times, .int t_listed])), (a_t_now, .inl (cI, 1562, .inl t_now))] H := hP
  have hD : va_D A [(a_t, .inr (11, [.int t_thrown, .ref a_t_now, .ref a_t_kept, .int t_isKept, .ref a_t_text, .int t_length, .ref a_t_passing, .int t_at, .int t_fault, .int t_open, .int t_asked, .int t_byGun, .int t_prizeMost, .ref a_t_order, .ref a_t_times, .int t_listed])), (a_t_now, .inl (cI, 1562, .inl t_now))] := hD
  refine lv_iconst (v := (nI 2)) hx hb dX11_timeFrom_5 rfl ?_
  refine lv_icmp_ne (tgt := 14) hx hb dX11_timeFrom_6 (by decide) (fun c3 => ?_) (fun c3 => ?_)
  · have h := zz_f h c3
    refine lv_iconst (v := (-1 : Int32)) hx hb dX11_timeFrom_14 rfl ?_
    have j0_ := Option.some.inj h
    subst j0_
    exact W.iret (v := (-1 : Int32)) hx hb hr (fun t ht hW => ⟨⟨_, (), rfl, rfl, zPost.of hP hD hK ht hW [0, 1] rfl rfl rfl⟩, hS.F ht⟩) hS.2.2 dX11_timeFrom_15
  · have h := zz_t h c3
    refine lv_iload_n hx hb dX11_timeFrom_9 rfl (lv_at hl 2 rfl) ?_
    refine lv_iconst (v := (-1 : Int32)) hx hb dX11_timeFrom_10 rfl ?_
    refine lv_icmp_ne (tgt := 16) hx hb dX11_timeFrom_11 (by decide) (fun c4 => ?_) (fun c4 => ?_)
    · have h := zz_f h c4
      refine lv_aload_n hx hb dX11_timeFrom_16 rfl (lv_at hl 0 rfl) ?_
      refine lv_iload_n hx hb dX11_timeFrom_17 rfl (lv_at hl 1 rfl) ?_
      refine lv_aload_n hx hb dX11_timeFrom_18 rfl (lv_at hl 0 rfl) ?_
      obtain ⟨r5, e6, h⟩ := zz_b h
      refine zVi (As := []) (rest := [.int x1, .ref a_t]) (C := RX11) (wr := []) [0, 1] [] 0 ⟨hx, hb, hml, hown, hts⟩ (mX11_mats l D cB cI cZ a_t a_t_now a_t_kept a_t_text a_t_passing a_t_order a_t_times t_thrown t_isKept t_length t_at t_fault t_open t_asked t_byGun t_prizeMost t_listed t_now H.size r5 e6) (cwV 0 hts gX11_timeFrom_X11_mats rfl rfl rfl (by decide +kernel) ⟨Nat.le_of_ble_eq_true rfl, Nat.le_of_ble_eq_true rfl⟩) hK hN hZ hP hD hS hA rfl rfl rfl rfl rfl rfl rfl rfl hl.1 rfl (lv_room (Nat.le_of_ble_eq_true rfl)) dX11_timeFrom_19 ⟨Nat.le_of_ble_eq_true rfl, Nat.le_of_ble_eq_true rfl⟩ (fun H locs hP hD hS => ?_)
      have hP : va_P D vwCl [(a_t, .inr (11, [.int t_thrown, .ref a_t_now, .ref a_t_kept, .int t_isKept, .ref a_t_text, .int t_length, .ref a_t_passing, .int t_at, .int t_fault, .int t_open, .int t_asked, .int t_byGun, .int t_prizeMost, .ref a_t_order, .ref a_t_times, .int t_listed])), (a_t_now, .inl (cI, 1562, .inl t_now))] H := hP
      have hD : va_D A [(a_t, .inr (11, [.int t_thrown, .ref a_t_now, .ref a_t_kept, .int t_isKept, .ref a_t_text, .int t_length, .ref a_t_passing, .int t_at, .int t_fault, .int t_open, .int t_asked, .int t_byGun, .int t_prizeMost, .ref a_t_order, .ref a_t_times, .int t_listed])), (a_t_now, .inl (cI, 1562, .inl t_now))] := hD
      refine lv_iconst (v := (nI 1)) hx hb dX11_timeFrom_22 rfl ?_
      refine lv_isub hx hb dX11_timeFrom_23 ?_
      obtain ⟨r7, e8, h⟩ := zz_b h
      refine zVi (As := [.int x1, .int (r5 - (nI 1))]) (rest := []) (C := RX11) (wr := []) [0, 1] [] 0 ⟨hx, hb, hml, hown, hts⟩ (mX11_splitOf l D cB cI cZ a_t a_t_now a_t_kept a_t_text a_t_passing a_t_order a_t_times t_thrown t_isKept t_length t_at t_fault t_open t_asked t_byGun t_prizeMost t_listed t_now H.size x1 (r5 - (nI 1)) r7 e8) (cwV 2 hts gX11_timeFrom_X11_splitOf rfl rfl rfl (by decide +kernel) ⟨Nat.le_of_ble_eq_true rfl, Nat.le_of_ble_eq_true rfl⟩) hK hN hZ hP hD hS hA rfl rfl rfl rfl rfl rfl rfl rfl hl.1 rfl (lv_room (Nat.le_of_ble_eq_true rfl)) dX11_timeFrom_24 ⟨Nat.le_of_ble_eq_true rfl, Nat.le_of_ble_eq_true rfl⟩ (fun H locs hP hD hS => ?_)
      have hP : va_P D vwCl [(a_t, .inr (11, [.int t_thrown, .ref a_t_now, .ref a_t_kept, .int t_isKept, .ref a_t_text, .int t_length, .ref a_t_passing, .int t_at, .int t_fault, .int t_open, .int t_asked, .int t_byGun, .int t_prizeMost, .ref a_t_order, .ref a_t_times, .int t_listed])), (a_t_now, .inl (cI, 1562, .inl t_now))] H := hP
      have hD : va_D A [(a_t, .inr (11, [.int t_thrown, .ref a_t_now, .ref a_t_kept, .int t_isKept, .ref a_t_text, .int t_length, .ref a_t_passing, .int t_at, .int t_fault, .int t_open, .int t_asked, .int t_byGun, .int t_prizeMost, .ref a_t_order, .ref a_t_times, .int t_listed])), (a_t_now, .inl (cI, 1562, .inl t_now))] := hD
      refine lv_iload_n hx hb dX11_timeFrom_27 rfl (lv_at hl 2 rfl) ?_
      refine lv_isub hx hb dX11_timeFrom_28 ?_
      refine lv_istore_n (lv' := [(3, .int (r7 - x2)), (0, .ref a_t), (1, .int x1), (2, .int x2)]) hx hb dX11_timeFrom_29 rfl hl (by decide) rfl (fun ls hl => ?_)
      refine lv_iload_n hx hb dX11_timeFrom_30 rfl (lv_at hl 0 rfl) ?_
      refine lv_if_ge (tgt := 38) hx hb dX11_timeFrom_31 (by decide) (fun c9 => ?_) (fun c9 => ?_)
      · have h := zz_t h c9
        refine lv_iload_n hx hb dX11_timeFrom_38 rfl (lv_at hl 0 rfl) ?_
        have j0_ := Option.some.inj h
        subst j0_
        exact W.iret (v := (r7 - x2)) hx hb hr (fun t ht hW => ⟨⟨_, (), rfl, rfl, zPost.of hP hD hK ht hW [0, 1] rfl rfl rfl⟩, hS.F ht⟩) hS.2.2 dX11_timeFrom_39
      · have h := zz_f h c9
        refine lv_iconst (v := (-1 : Int32)) hx hb dX11_timeFrom_34 rfl ?_
        refine lv_goto (tgt := 39) hx hb dX11_timeFrom_35 (by decide) ?_
        have j0_ := Option.some.inj h
        subst j0_
        exact W.iret (v := (-1 : Int32)) hx hb hr (fun t ht hW => ⟨⟨_, (), rfl, rfl, zPost.of hP hD hK ht hW [0, 1] rfl rfl rfl⟩, hS.F ht⟩) hS.2.2 dX11_timeFrom_39
    · have h := zz_t h c4
      refine lv_iconst (v := (-1 : Int32)) hx hb dX11_timeFrom_14 rfl ?_
      have j0_ := Option.some.inj h
      subst j0_
      exact W.iret (v := (-1 : Int32)) hx hb hr (fun t ht hW => ⟨⟨_, (), rfl, rfl, zPost.of hP hD hK ht hW [0, 1] rfl rfl rfl⟩, hS.F ht⟩) hS.2.2 dX11_timeFrom_15
/-! RunDeskModel.timeOf -/
theorem dX11_timeOf_0 : decode cX11_timeOf 0 = .ok (.aload_n 0, 1) := by decide +kernel
theorem dX11_timeOf_1 : decode cX11_timeOf 1 = .ok (.iload_n 1, 1) := by decide +kernel
theorem dX11_timeOf_2 : decode cX11_timeOf 2 = .ok (.iload_n 2, 1) := by decide +kernel
theorem dX11_timeOf_3 : decode cX11_timeOf 3 = .ok (.ifCond .eq 16, 3) := by decide +kernel
theorem dX11_timeOf_6 : decode cX11_timeOf 6 = .ok (.aload_n 0, 1) := by decide +kernel
theorem dX11_timeOf_7 : decode cX11_timeOf 7 = .ok (.aload_n 0, 1) := by decide +kernel
theorem dX11_timeOf_8 : decode cX11_timeOf 8 = .ok (.iload_n 1, 1) := by decide +kernel
theorem dX11_timeOf_9 : decode cX11_timeOf 9 = .ok (.iconst 5, 1) := by decide +kernel
theorem dX11_timeOf_10 : decode cX11_timeOf 10 = .ok (.invokevirtual 62, 3) := by decide +kernel
theorem dX11_timeOf_13 : decode cX11_timeOf 13 = .ok (.invokevirtual 79, 3) := by decide +kernel
theorem dX11_timeOf_16 : decode cX11_timeOf 16 = .ok (.goto 8, 3) := by decide +kernel
theorem dX11_timeOf_19 : decode cX11_timeOf 19 = .ok (.aload_n 0, 1) := by decide +kernel
theorem dX11_timeOf_20 : decode cX11_timeOf 20 = .ok (.iload_n 1, 1) := by decide +kernel
theorem dX11_timeOf_21 : decode cX11_timeOf 21 = .ok (.invokevirtual 83, 3) := by decide +kernel
theorem dX11_timeOf_24 : decode cX11_timeOf 24 = .ok (.invokevirtual 92, 3) := by decide +kernel
theorem dX11_timeOf_27 : decode cX11_timeOf 27 = .ok (.ireturn, 1) := by decide +kernel
set_option maxRecDepth 20000 in
theorem ggX11_timeOf_X11_of : GoodIn wsX11_timeOf wsX11_of := goodIn_sub (List.forall_mem_cons.mpr ⟨List.mem_cons_of_mem _ (List.mem_append_left _ (List.mem_append_left _ (List.mem_of_getElem? (l := wsX11_timeOf_r1) (i := 4) rfl))), (List.forall_mem_append.mpr ⟨(List.forall_mem_cons.mpr ⟨List.mem_cons_of_mem _ (List.mem_append_left _ (List.mem_append_left _ (List.mem_of_getElem? (l := wsX11_timeOf_r1) (i := 5) rfl))), (fun _ h => nomatch h)⟩), (fun _ h => List.mem_cons_of_mem _ (List.mem_append_right _ (h)))⟩)⟩) (by decide +kernel)
set_option maxRecDepth 20000 in
theorem gX11_timeOf_X11_of : GoodIn wsX11_timeOf (wsV RX11 62 RX11 yX11_of wsX11_of) := goodIn_app (goodIn_of _ (by decide +kernel)) ggX11_timeOf_X11_of
set_option maxRecDepth 20000 in
theorem ggX11_timeOf_X11_gunOf : GoodIn wsX11_timeOf wsX11_gunOf := goodIn_sub (List.forall_mem_cons.mpr ⟨List.mem_cons_of_mem _ (List.mem_append_left _ (List.mem_append_left _ (List.mem_of_getElem? (l := wsX11_timeOf_r1) (i := 9) rfl))), (List.forall_mem_append.mpr ⟨(List.forall_mem_cons.mpr ⟨List.mem_cons_of_mem _ (List.mem_append_left _ (List.mem_append_left _ (List.mem_of_getElem? (l := wsX11_timeOf_r1) (i := 5) rfl))), (fun _ h => nomatch h)⟩), (fun _ h => List.mem_cons_of_mem _ (List.mem_append_right _ (h)))⟩)⟩) (by decide +kernel)
set_option maxRecDepth 20000 in
theorem gX11_timeOf_X11_gunOf : GoodIn wsX11_timeOf (wsV RX11 79 RX11 yX11_gunOf wsX11_gunOf) := goodIn_app (goodIn_of _ (by decide +kernel)) ggX11_timeOf_X11_gunOf
set_option maxRecDepth 20000 in
theorem ggX11_timeOf_X11_startOf : GoodIn wsX11_timeOf wsX11_startOf := goodIn_sub (List.forall_mem_cons.mpr ⟨List.mem_cons_of_mem _ (List.mem_append_left _ (List.mem_append_left _ (List.mem_of_getElem? (l := wsX11_timeOf_r1) (i := 13) rfl))), (List.forall_mem_append.mpr ⟨(List.forall_mem_cons.mpr ⟨List.mem_cons_of_mem _ (List.mem_append_left _ (List.mem_append_left _ (List.mem_of_getElem? (l := wsX11_timeOf_r1) (i := 14) rfl))), (List.forall_mem_cons.mpr ⟨List.mem_cons_of_mem _ (List.mem_append_left _ (List.mem_append_left _ (List.mem_of_getElem? (l := wsX11_timeOf_r1) (i := 15) rfl))), (List.forall_mem_cons.mpr ⟨List.mem_cons_of_mem _ (List.mem_append_left _ (List.mem_append_left _ (List.mem_of_getElem? (l := wsX11_timeOf_r1) (i := 16) rfl))), (List.forall_mem_cons.mpr ⟨List.mem_cons_of_mem _ (List.mem_append_left _ (List.mem_append_left _ (List.mem_of_getElem? (l := wsX11_timeOf_r1) (i := 3) rfl))), (List.forall_mem_cons.mpr ⟨List.mem_cons_of_mem _ (List.mem_append_left _ (List.mem_append_left _ (List.mem_of_getElem? (l := wsX11_timeOf_r1) (i := 17) rfl))), (List.forall_mem_cons.mpr ⟨List.mem_cons_of_mem _ (List.mem_append_left _ (List.mem_append_left _ (List.mem_of_getElem? (l := wsX11_timeOf_r1) (i := 0) rfl))), (List.forall_mem_cons.mpr ⟨List.mem_cons_of_mem _ (List.mem_append_left _ (List.mem_append_left _ (List.mem_of_getElem? (l := wsX11_timeOf_r1) (i := 1) rfl))), (List.forall_mem_cons.mpr ⟨List.mem_cons_of_mem _ (List.mem_append_left _ (List.mem_append_left _ (List.mem_of_getElem? (l := wsX11_timeOf_r1) (i := 2) rfl))), (List.forall_mem_cons.mpr ⟨List.mem_cons_of_mem _ (List.mem_append_left _ (List.mem_append_left _ (List.mem_of_getElem? (l := wsX11_timeOf_r1) (i := 4) rfl))), (List.forall_mem_cons.mpr ⟨List.mem_cons_of_mem _ (List.mem_append_left _ (List.mem_append_left _ (List.mem_of_getElem? (l := wsX11_timeOf_r1) (i := 5) rfl))), (List.forall_mem_cons.mpr ⟨List.mem_cons_of_mem _ (List.mem_append_left _ (List.mem_append_left _ (List.mem_of_getElem? (l := wsX11_timeOf_r1) (i := 6) rfl))), (List.forall_mem_cons.mpr ⟨List.mem_cons_of_mem _ (List.mem_append_left _ (List.mem_append_left _ (List.mem_of_getElem? (l := wsX11_timeOf_r1) (i := 7) rfl))), (List.forall_mem_cons.mpr ⟨List.mem_cons_of_mem _ (List.mem_append_left _ (List.mem_append_left _ (List.mem_of_getElem? (l := wsX11_timeOf_r1) (i := 8) rfl))), (List.forall_mem_cons.mpr ⟨List.mem_cons_of_mem _ (List.mem_append_left _ (List.mem_append_left _ (List.mem_of_getElem? (l := wsX11_timeOf_r1) (i := 9) rfl))), (fun _ h => nomatch h)⟩)⟩)⟩)⟩)⟩)⟩)⟩)⟩)⟩)⟩)⟩)⟩)⟩)⟩), (fun _ h => List.mem_cons_of_mem _ (List.mem_append_right _ (h)))⟩)⟩) (by decide +kernel)
set_option maxRecDepth 20000 in
theorem gX11_timeOf_X11_startOf : GoodIn wsX11_timeOf (wsV RX11 83 RX11 yX11_startOf wsX11_startOf) := goodIn_app (goodIn_of _ (by decide +kernel)) ggX11_timeOf_X11_startOf
set_option maxRecDepth 20000 in
theorem ggX11_timeOf_X11_timeFrom : GoodIn wsX11_timeOf wsX11_timeFrom := goodIn_sub (List.forall_mem_cons.mpr ⟨List.mem_cons_of_mem _ (List.mem_append_left _ (List.mem_append_left _ (List.mem_of_getElem? (l := wsX11_timeOf_r1) (i := 21) rfl))), (List.forall_mem_append.mpr ⟨(List.forall_mem_append.mpr ⟨(List.forall_mem_cons.mpr ⟨List.mem_cons_of_mem _ (List.mem_append_left _ (List.mem_append_left _ (List.mem_of_getElem? (l := wsX11_timeOf_r1) (i := 22) rfl))), (List.forall_mem_cons.mpr ⟨List.mem_cons_of_mem _ (List.mem_append_left _ (List.mem_append_left _ (List.mem_of_getElem? (l := wsX11_timeOf_r1) (i := 23) rfl))), (List.forall_mem_cons.mpr ⟨List.mem_cons_of_mem _ (List.mem_append_left _ (List.mem_append_right _ (List.mem_of_getElem? (l := wsX11_timeOf_r2) (i := 0) rfl))), (List.forall_mem_cons.mpr ⟨List.mem_cons_of_mem _ (List.mem_append_left _ (List.mem_append_left _ (List.mem_of_getElem? (l := wsX11_timeOf_r1) (i := 3) rfl))), (List.forall_mem_cons.mpr ⟨List.mem_cons_of_mem _ (List.mem_append_left _ (List.mem_append_right _ (List.mem_of_getElem? (l := wsX11_timeOf_r2) (i := 1) rfl))), (List.forall_mem_cons.mpr ⟨List.mem_cons_of_mem _ (List.mem_append_left _ (List.mem_append_left _ (List.mem_of_getElem? (l := wsX11_timeOf_r1) (i := 0) rfl))), (List.forall_mem_cons.mpr ⟨List.mem_cons_of_mem _ (List.mem_append_left _ (List.mem_append_left _ (List.mem_of_getElem? (l := wsX11_timeOf_r1) (i := 1) rfl))), (List.forall_mem_cons.mpr ⟨List.mem_cons_of_mem _ (List.mem_append_left _ (List.mem_append_left _ (List.mem_of_getElem? (l := wsX11_timeOf_r1) (i := 2) rfl))), (List.forall_mem_cons.mpr ⟨List.mem_cons_of_mem _ (List.mem_append_left _ (List.mem_append_left _ (List.mem_of_getElem? (l := wsX11_timeOf_r1) (i := 4) rfl))), (List.forall_mem_cons.mpr ⟨List.mem_cons_of_mem _ (List.mem_append_left _ (List.mem_append_left _ (List.mem_of_getElem? (l := wsX11_timeOf_r1) (i := 5) rfl))), (List.forall_mem_cons.mpr ⟨List.mem_cons_of_mem _ (List.mem_append_left _ (List.mem_append_right _ (List.mem_of_getElem? (l := wsX11_timeOf_r2) (i := 2) rfl))), (List.forall_mem_cons.mpr ⟨List.mem_cons_of_mem _ (List.mem_append_left _ (List.mem_append_right _ (List.mem_of_getElem? (l := wsX11_timeOf_r2) (i := 3) rfl))), (List.forall_mem_cons.mpr ⟨List.mem_cons_of_mem _ (List.mem_append_left _ (List.mem_append_right _ (List.mem_of_getElem? (l := wsX11_timeOf_r2) (i := 4) rfl))), (List.forall_mem_cons.mpr ⟨List.mem_cons_of_mem _ (List.mem_append_left _ (List.mem_append_right _ (List.mem_of_getElem? (l := wsX11_timeOf_r2) (i := 5) rfl))), (List.forall_mem_cons.mpr ⟨List.mem_cons_of_mem _ (List.mem_append_left _ (List.mem_append_right _ (List.mem_of_getElem? (l := wsX11_timeOf_r2) (i := 6) rfl))), (List.forall_mem_cons.mpr ⟨List.mem_cons_of_mem _ (List.mem_append_left _ (List.mem_append_right _ (List.mem_of_getElem? (l := wsX11_timeOf_r2) (i := 7) rfl))), (List.forall_mem_cons.mpr ⟨List.mem_cons_of_mem _ (List.mem_append_left _ (List.mem_append_right _ (List.mem_of_getElem? (l := wsX11_timeOf_r2) (i := 8) rfl))), (List.forall_mem_cons.mpr ⟨List.mem_cons_of_mem _ (List.mem_append_left _ (List.mem_append_right _ (List.mem_of_getElem? (l := wsX11_timeOf_r2) (i := 9) rfl))), (List.forall_mem_cons.mpr ⟨List.mem_cons_of_mem _ (List.mem_append_left _ (List.mem_append_right _ (List.mem_of_getElem? (l := wsX11_timeOf_r2) (i := 10) rfl))), (List.forall_mem_cons.mpr ⟨List.mem_cons_of_mem _ (List.mem_append_left _ (List.mem_append_right _ (List.mem_of_getElem? (l := wsX11_timeOf_r2) (i := 11) rfl))), (List.forall_mem_cons.mpr ⟨List.mem_cons_of_mem _ (List.mem_append_left _ (List.mem_append_right _ (List.mem_of_getElem? (l := wsX11_timeOf_r2) (i := 12) rfl))), (List.forall_mem_cons.mpr ⟨List.mem_cons_of_mem _ (List.mem_append_left _ (List.mem_append_right _ (List.mem_of_getElem? (l := wsX11_timeOf_r2) (i := 13) rfl))), (List.forall_mem_cons.mpr ⟨List.mem_cons_of_mem _ (List.mem_append_left _ (List.mem_append_left _ (List.mem_of_getElem? (l := wsX11_timeOf_r1) (i := 14) rfl))), (List.forall_mem_cons.mpr ⟨List.mem_cons_of_mem _ (List.mem_append_left _ (List.mem_append_left _ (List.mem_of_getElem? (l := wsX11_timeOf_r1) (i := 15) rfl))), (fun _ h => nomatch h)⟩)⟩)⟩)⟩)⟩)⟩)⟩)⟩)⟩)⟩)⟩)⟩)⟩)⟩)⟩)⟩)⟩)⟩)⟩)⟩)⟩)⟩)⟩)⟩), (List.forall_mem_cons.mpr ⟨List.mem_cons_of_mem _ (List.mem_append_left _ (List.mem_append_left _ (List.mem_of_getElem? (l := wsX11_timeOf_r1) (i := 16) rfl))), (List.forall_mem_cons.mpr ⟨List.mem_cons_of_mem _ (List.mem_append_left _ (List.mem_append_left _ (List.mem_of_getElem? (l := wsX11_timeOf_r1) (i := 17) rfl))), (List.forall_mem_cons.mpr ⟨List.mem_cons_of_mem _ (List.mem_append_left _ (List.mem_append_left _ (List.mem_of_getElem? (l := wsX11_timeOf_r1) (i := 10) rfl))), (List.forall_mem_cons.mpr ⟨List.mem_cons_of_mem _ (List.mem_append_left _ (List.mem_append_left _ (List.mem_of_getElem? (l := wsX11_timeOf_r1) (i := 11) rfl))), (List.forall_mem_cons.mpr ⟨List.mem_cons_of_mem _ (List.mem_append_left _ (List.mem_append_left _ (List.mem_of_getElem? (l := wsX11_timeOf_r1) (i := 12) rfl))), (List.forall_mem_cons.mpr ⟨List.mem_cons_of_mem _ (List.mem_append_left _ (List.mem_append_left _ (List.mem_of_getElem? (l := wsX11_timeOf_r1) (i := 13) rfl))), (List.forall_mem_cons.mpr ⟨List.mem_cons_of_mem _ (List.mem_append_left _ (List.mem_append_left _ (List.mem_of_getElem? (l := wsX11_timeOf_r1) (i := 6) rfl))), (List.forall_mem_cons.mpr ⟨List.mem_cons_of_mem _ (List.mem_append_left _ (List.mem_append_left _ (List.mem_of_getElem? (l := wsX11_timeOf_r1) (i := 7) rfl))), (List.forall_mem_cons.mpr ⟨List.mem_cons_of_mem _ (List.mem_append_left _ (List.mem_append_left _ (List.mem_of_getElem? (l := wsX11_timeOf_r1) (i := 8) rfl))), (List.forall_mem_cons.mpr ⟨List.mem_cons_of_mem _ (List.mem_append_left _ (List.mem_append_left _ (List.mem_of_getElem? (l := wsX11_timeOf_r1) (i := 9) rfl))), (fun _ h => nomatch h)⟩)⟩)⟩)⟩)⟩)⟩)⟩)⟩)⟩)⟩)⟩), (fun _ h => List.mem_cons_of_mem _ (List.mem_append_right _ (h)))⟩)⟩) (by decide +kernel)
set_option maxRecDepth 20000 in
theorem gX11_timeOf_X11_timeFrom : GoodIn wsX11_timeOf (wsV RX11 92 RX11 yX11_timeFrom wsX11_timeFrom) := goodIn_app (goodIn_of _ (by decide +kernel)) ggX11_timeOf_X11_timeFrom
set_option maxHeartbeats 4000000 in
set_option maxRecDepth 100000 in
theorem mX11_timeOf (l : Launch) (D : va_G) (cB cI cZ : ClassId) (a_t : Nat) (a_t_now : Nat) (a_t_kept : Nat) (a_t_text : Nat) (a_t_passing : Nat) (a_t_order : Nat) (a_t_times : Nat) (t_thrown : Int32) (t_isKept : Int32) (t_length : Int32) (t_at : Int32) (t_fault : Int32) (t_open : Int32) (t_asked : Int32) (t_byGun : Int32) (t_prizeMost : Int32) (t_listed : Int32) (t_now : Nat → Int32) (sz : Nat) (x1 : Int32) (x2 : Int32) (N : Nat) (r0 : Int32) (h : fX11_timeOf N t_now x1 x2 = some (r0)) : Met l yX11_timeOf wsX11_timeOf ({ frames := 5, cells := 0, slots := 0, locals := 111 } : Room) (va_Pc [.ref a_t, .int x1, .int x2] (zPre D (zT cB cI cZ) [(a_t, .inr (11, [.int t_thrown, .ref a_t_now, .ref a_t_kept, .int t_isKept, .ref a_t_text, .int t_length, .ref a_t_passing, .int t_at, .int t_fault, .int t_open, .int t_asked, .int t_byGun, .int t_prizeMost, .ref a_t_order, .ref a_t_times, .int t_listed])), (a_t_now, .inl (cI, 1562, .inl t_now))] sz)) (zQi r0 D (zT cB cI cZ) [(a_t, .inr (11, [.int t_thrown, .ref a_t_now, .ref a_t_kept, .int t_isKept, .ref a_t_text, .int t_length, .ref a_t_passing, .int t_at, .int t_fault, .int t_open, .int t_asked, .int t_byGun, .int t_prizeMost, .ref a_t_order, .ref a_t_times, .int t_listed])), (a_t_now, .inl (cI, 1562, .inl t_now))] (va_A [(a_t, .inr (11, [.int t_thrown, .ref a_t_now, .ref a_t_kept, .int t_isKept, .ref a_t_text, .int t_length, .ref a_t_passing, .int t_at, .int t_fault, .int t_open, .int t_asked, .int t_byGun, .int t_prizeMost, .ref a_t_order, .ref a_t_times, .int t_listed])), (a_t_now, .inl (cI, 1562, .inl t_now))] sz)) 0 0 (va_A [(a_t, .inr (11, [.int t_thrown, .ref a_t_now, .ref a_t_kept, .int t_isKept, .ref a_t_text, .int t_length, .ref a_t_passing, .int t_at, .int t_fault, .int t_open, .int t_asked, .int t_byGun, .int t_prizeMost, .ref a_t_order, .ref a_t_times, .int t_listed])), (a_t_now, .inl (cI, 1562, .inl t_now))] sz) := by
  refine Met.ofW (cc := cX11_timeOf) (maxL := 3) (ret := (some .int)) (by decide) rfl ?_
  intro p e s m args below meth c s₁ B hml hv
  obtain ⟨rfl, hsz, hP, hK, hN, hZ, hD0⟩ := hv
  have hx := B.exec
  have hb := B.bytes
  have hr := B.returns
  have hts := atoms_spec (ws := wsX11_timeOf) B.pre
  have hown : s.vm.findClass RX11 = some m.cls := findClass_of_methodNamed B.named
  have hlocks := B.notSynchronized
  subst hsz
  have hD := hD0.self (sz := s.heap.size)
  generalize hAe : va_A [(a_t, .inr (11, [.int t_thrown, .ref a_t_now, .ref a_t_kept, .int t_isKept, .ref a_t_text, .int t_length, .ref a_t_passing, .int t_at, .int t_fault, .int t_open, .int t_asked, .int t_byGun, .int t_prizeMost, .ref a_t_order, .ref a_t_times, .int t_listed])), (a_t_now, .inl (cI, 1562, .inl t_now))] s.heap.size = A at hD hZ ⊢
  have hA : ∀ q : Nat, s.heap.size ≤ q → A q := fun q h => by rw [← hAe]; exact Or.inr h
  have hS : va_S A s.heap s.heap [] := va_S.rf
  have hl := lv_entry ([.ref a_t, .int x1, .int x2]) (n := 3) (Nat.le_of_ble_eq_true rfl)
  rw [lg_entry_eq]
  generalize (lg_sl ([.ref a_t, .int x1, .int x2]) ++ List.replicate (3 - (lg_sl ([.ref a_t, .int x1, .int x2])).length) Slot.unset).toArray = ls at hl ⊢
  have hl : lv_has ls 3 [(0, .ref a_t), (1, .int x1), (2, .int x2)] := hl
  unfold fX11_timeOf at h
  refine lv_aload_n hx hb dX11_timeOf_0 rfl (lv_at hl 0 rfl) ?_
  refine lv_iload_n hx hb dX11_timeOf_1 rfl (lv_at hl 1 rfl) ?_
  refine lv_iload_n hx hb dX11_timeOf_2 rfl (lv_at hl 2 rfl) ?_
  refine lv_if_eq (tgt := 19) hx hb dX11_timeOf_3 (by decide) (fun c1 => ?_) (fun c1 => ?_)
  · have h := zz_t h c1
    refine lv_aload_n hx hb dX11_timeOf_19 rfl (lv_at hl 0 rfl) ?_
    refine lv_iload_n hx hb dX11_timeOf_20 rfl (lv_at hl 1 rfl) ?_
    obtain ⟨r2, e3, h⟩ := zz_b h
    refine zVi (As := [.int x1]) (rest := [.int x1, .ref a_t]) (C := RX11) (wr := []) [0, 1] [] 0 ⟨hx, hb, hml, hown, hts⟩ (mX11_startOf l D cB cI cZ a_t a_t_now a_t_kept a_t_text a_t_passing a_t_order a_t_times t_thrown t_isKept t_length t_at t_fault t_open t_asked t_byGun t_prizeMost t_listed t_now s.heap.size x1 r2 e3) (cwV 1 hts gX11_timeOf_X11_startOf rfl rfl rfl (by decide +kernel) ⟨Nat.le_of_ble_eq_true rfl, Nat.le_of_ble_eq_true rfl⟩) hK hN hZ hP hD hS hA rfl rfl rfl rfl rfl rfl rfl rfl hl.1 rfl (lv_room (Nat.le_of_ble_eq_true rfl)) dX11_timeOf_21 ⟨Nat.le_of_ble_eq_true rfl, Nat.le_of_ble_eq_true rfl⟩ (fun H locs hP hD hS => ?_)
    have hP : va_P D vwCl [(a_t, .inr (11, [.int t_thrown, .ref a_t_now, .ref a_t_kept, .int t_isKept, .ref a_t_text, .int t_length, .ref a_t_passing, .int t_at, .int t_fault, .int t_open, .int t_asked, .int t_byGun, .int t_prizeMost, .ref a_t_order, .ref a_t_times, .int t_listed])), (a_t_now, .inl (cI, 1562, .inl t_now))] H := hP
    have hD : va_D A [(a_t, .inr (11, [.int t_thrown, .ref a_t_now, .ref a_t_kept, .int t_isKept, .ref a_t_text, .int t_length, .ref a_t_passing, .int t_at, .int t_fault, .int t_open, .int t_asked, .int t_byGun, .int t_prizeMost, .ref a_t_order, .ref a_t_times, .int t_listed])), (a_t_now, .inl (cI, 1562, .inl t_now))] := hD
    obtain ⟨r4, e5, h⟩ := zz_b h
    refine zVi (As := [.int x1, .int r2]) (rest := []) (C := RX11) (wr := []) [0, 1] [] 0 ⟨hx, hb, hml, hown, hts⟩ (mX11_timeFrom l D cB cI cZ a_t a_t_now a_t_kept a_t_text a_t_passing a_t_order a_t_times t_thrown t_isKept t_length t_at t_fault t_open t_asked t_byGun t_prizeMost t_listed t_now H.size x1 r2 N r4 e5) (cwV 2 hts gX11_timeOf_X11_timeFrom rfl rfl rfl (by decide +kernel) ⟨Nat.le_of_ble_eq_true rfl, Nat.le_of_ble_eq_true rfl⟩) hK hN hZ hP hD hS hA rfl rfl rfl rfl rfl rfl rfl rfl hl.1 rfl (lv_room (Nat.le_of_ble_eq_true rfl)) dX11_timeOf_24 ⟨Nat.le_of_ble_eq_true rfl, Nat.le_of_ble_eq_true rfl⟩ (fun H locs hP hD hS => ?_)
    have hP : va_P D vwCl [(a_t, .inr (11, [.int t_thrown, .ref a_t_now, .ref a_t_kept, .int t_isKept, .ref a_t_text, .int t_length, .ref a_t_passing, .int t_at, .int t_fault, .int t_open, .int t_asked, .int t_byGun, .int t_prizeMost, .ref a_t_order, .ref a_t_times, .int t_listed])), (a_t_now, .inl (cI, 1562, .inl t_now))] H := hP
    have hD : va_D A [(a_t, .inr (11, [.int t_thrown, .ref a_t_now, .ref a_t_kept, .int t_isKept, .ref a_t_text, .int t_length, .ref a_t_passing, .int t_at, .int t_fault, .int t_open, .int t_asked, .int t_byGun, .int t_prizeMost, .ref a_t_order, .ref a_t_times, .int t_listed])), (a_t_now, .inl (cI, 1562, .inl t_now))] := hD
    have j0_ := Option.some.inj h
    subst j0_
    exact W.iret (v := r4) hx hb hr (fun t ht hW => ⟨⟨_, (), rfl, rfl, zPost.of hP hD hK ht hW [0, 1] rfl rfl rfl⟩, hS.F ht⟩) hS.2.2 dX11_timeOf_27
  · have h := zz_f h c1
    refine lv_aload_n hx hb dX11_timeOf_6 rfl (lv_at hl 0 rfl) ?_
    refine lv_aload_n hx hb dX11_timeOf_7 rfl (lv_at hl 0 rfl) ?_
    refine lv_iload_n hx hb dX11_timeOf_8 rfl (lv_at hl 1 rfl) ?_
    refine lv_iconst (v := (nI 5)) hx hb dX11_timeOf_9 rfl ?_
    obtain ⟨r6, e7, h⟩ := zz_b h
    refine zVi (As := [.int x1, .int (nI 5)]) (rest := [.ref a_t, .int x1, .ref a_t]) (C := RX11) (wr := []) [0, 1] [] 0 ⟨hx, hb, hml, hown, hts⟩ (mX11_of l D cB cI cZ a_t a_t_now a_t_kept a_t_text a_t_passing a_t_order a_t_times t_thrown t_isKept t_length t_at t_fault t_open t_asked t_byGun t_prizeMost t_listed t_now s.heap.size x1 (nI 5) r6 e7) (cwV 2 hts gX11_timeOf_X11_of rfl rfl rfl (by decide +kernel) ⟨Nat.le_of_ble_eq_true rfl, Nat.le_of_ble_eq_true rfl⟩) hK hN hZ hP hD hS hA rfl rfl rfl rfl rfl rfl rfl rfl hl.1 rfl (lv_room (Nat.le_of_ble_eq_true rfl)) dX11_timeOf_10 ⟨Nat.le_of_ble_eq_true rfl, Nat.le_of_ble_eq_true rfl⟩ (fun H locs hP hD hS => ?_)
    have hP : va_P D vwCl [(a_t, .inr (11, [.int t_thrown, .ref a_t_now, .ref a_t_kept, .int t_isKept, .ref a_t_text, .int t_length, .ref a_t_passing, .int t_at, .int t_fault, .int t_open, .int t_asked, .int t_byGun, .int t_prizeMost, .ref a_t_order, .ref a_t_times, .int t_listed])), (a_t_now, .inl (cI, 1562, .inl t_now))] H := hP
    have hD : va_D A [(a_t, .inr (11, [.int t_thrown, .ref a_t_now, .ref a_t_kept, .int t_isKept, .ref a_t_text, .int t_length, .ref a_t_passing, .int t_at, .int t_fault, .int t_open, .int t_asked, .int t_byGun, .int t_prizeMost, .ref a_t_order, .ref a_t_times, .int t_listed])), (a_t_now, .inl (cI, 1562, .inl t_now))] := hD
    obtain ⟨r8, e9, h⟩ := zz_b h
    refine zVi (As := [.int r6]) (rest := [.int x1, .ref a_t]) (C := RX11) (wr := []) [0, 1] [] 0 ⟨hx, hb, hml, hown, hts⟩ (mX11_gunOf l D cB cI cZ a_t a_t_now a_t_kept a_t_text a_t_passing a_t_order a_t_times t_thrown t_isKept t_length t_at t_fault t_open t_asked t_byGun t_prizeMost t_listed t_now H.size r6 r8 e9) (cwV 1 hts gX11_timeOf_X11_gunOf rfl rfl rfl (by decide +kernel) ⟨Nat.le_of_ble_eq_true rfl, Nat.le_of_ble_eq_true rfl⟩) hK hN hZ hP hD hS hA rfl rfl rfl rfl rfl rfl rfl rfl hl.1 rfl (lv_room (Nat.le_of_ble_eq_true rfl)) dX11_timeOf_13 ⟨Nat.le_of_ble_eq_true rfl, Nat.le_of_ble_eq_true rfl⟩ (fun H locs hP hD hS => ?_)
    have hP : va_P D vwCl [(a_t, .inr (11, [.int t_thrown, .ref a_t_now, .ref a_t_kept, .int t_isKept, .ref a_t_text, .int t_length, .ref a_t_passing, .int t_at, .int t_fault, .int t_open, .int t_asked, .int t_byGun, .int t_prizeMost, .ref a_t_order, .ref a_t_times, .int t_listed])), (a_t_now, .inl (cI, 1562, .inl t_now))] H := hP
    have hD : va_D A [(a_t, .inr (11, [.int t_thrown, .ref a_t_now, .ref a_t_kept, .int t_isKept, .ref a_t_text, .int t_length, .ref a_t_passing, .int t_at, .int t_fault, .int t_open, .int t_asked, .int t_byGun, .int t_prizeMost, .ref a_t_order, .ref a_t_times, .int t_listed])), (a_t_now, .inl (cI, 1562, .inl t_now))] := hD
    refine lv_goto (tgt := 24) hx hb dX11_timeOf_16 (by decide) ?_
    obtain ⟨r10, e11, h⟩ := zz_b h
    refine zVi (As := [.int x1, .int r8]) (rest := []) (C := RX11) (wr := []) [0, 1] [] 0 ⟨hx, hb, hml, hown, hts⟩ (mX11_timeFrom l D cB cI cZ a_t a_t_now a_t_kept a_t_text a_t_passing a_t_order a_t_times t_thrown t_isKept t_length t_at t_fault t_open t_asked t_byGun t_prizeMost t_listed t_now H.size x1 r8 N r10 e11) (cwV 2 hts gX11_timeOf_X11_timeFrom rfl rfl rfl (by decide +kernel) ⟨Nat.le_of_ble_eq_true rfl, Nat.le_of_ble_eq_true rfl⟩) hK hN hZ hP hD hS hA rfl rfl rfl rfl rfl rfl rfl rfl hl.1 rfl (lv_room (Nat.le_of_ble_eq_true rfl)) dX11_timeOf_24 ⟨Nat.le_of_ble_eq_true rfl, Nat.le_of_ble_eq_true rfl⟩ (fun H locs hP hD hS => ?_)
    have hP : va_P D vwCl [(a_t, .inr (11, [.int t_thrown, .ref a_t_now, .ref a_t_kept, .int t_isKept, .ref a_t_text, .int t_length, .ref a_t_passing, .int t_at, .int t_fault, .int t_open, .int t_asked, .int t_byGun, .int t_prizeMost, .ref a_t_order, .ref a_t_times, .int t_listed])), (a_t_now, .inl (cI, 1562, .inl t_now))] H := hP
    have hD : va_D A [(a_t, .inr (11, [.int t_thrown, .ref a_t_now, .ref a_t_kept, .int t_isKept, .ref a_t_text, .int t_length, .ref a_t_passing, .int t_at, .int t_fault, .int t_open, .int t_asked, .int t_byGun, .int t_prizeMost, .ref a_t_order, .ref a_t_times, .int t_listed])), (a_t_now, .inl (cI, 1562, .inl t_now))] := hD
    have j0_ := Option.some.inj h
    subst j0_
    exact W.iret (v := r10) hx hb hr (fun t ht hW => ⟨⟨_, (), rfl, rfl, zPost.of hP hD hK ht hW [0, 1] rfl rfl rfl⟩, hS.F ht⟩) hS.2.2 dX11_timeOf_27
/-! RunDeskModel.wayLength -/
theorem dX11_wayLength_0 : decode cX11_wayLength 0 = .ok (.aload_n 0, 1) := by decide +kernel
theorem dX11_wayLength_1 : decode cX11_wayLength 1 = .ok (.aload_n 0, 1) := by decide +kernel
theorem dX11_wayLength_2 : decode cX11_wayLength 2 = .ok (.invokevirtual 41, 3) := by decide +kernel
theorem dX11_wayLength_5 : decode cX11_wayLength 5 = .ok (.iconst 1, 1) := by decide +kernel
theorem dX11_wayLength_6 : decode cX11_wayLength 6 = .ok (.isub, 1) := by decide +kernel
theorem dX11_wayLength_7 : decode cX11_wayLength 7 = .ok (.iconst 0, 1) := by decide +kernel
theorem dX11_wayLength_8 : decode cX11_wayLength 8 = .ok (.invokevirtual 56, 3) := by decide +kernel
theorem dX11_wayLength_11 : decode cX11_wayLength 11 = .ok (.ireturn, 1) := by decide +kernel
set_option maxRecDepth 20000 in
theorem ggX11_wayLength_X11_mats : GoodIn wsX11_wayLength wsX11_mats := goodIn_sub (List.forall_mem_cons.mpr ⟨List.mem_cons_of_mem _ (List.mem_append_left _ (List.mem_of_getElem? (i := 4) rfl)), (List.forall_mem_append.mpr ⟨(List.forall_mem_cons.mpr ⟨List.mem_cons_of_mem _ (List.mem_append_left _ (List.mem_of_getElem? (i := 5) rfl)), (fun _ h => nomatch h)⟩), (fun _ h => List.mem_cons_of_mem _ (List.mem_append_right _ (h)))⟩)⟩) (by decide +kernel)
set_option maxRecDepth 20000 in
theorem gX11_wayLength_X11_mats : GoodIn wsX11_wayLength (wsV RX11 41 RX11 yX11_mats wsX11_mats) := goodIn_app (goodIn_of _ (by decide +kernel)) ggX11_wayLength_X11_mats
set_option maxRecDepth 20000 in
theorem ggX11_wayLength_X11_ofMat : GoodIn wsX11_wayLength wsX11_ofMat := goodIn_sub (List.forall_mem_cons.mpr ⟨List.mem_cons_of_mem _ (List.mem_append_left _ (List.mem_of_getElem? (i := 9) rfl)), (List.forall_mem_append.mpr ⟨(List.forall_mem_cons.mpr ⟨List.mem_cons_of_mem _ (List.mem_append_left _ (List.mem_of_getElem? (i := 5) rfl)), (fun _ h => nomatch h)⟩), (fun _ h => List.mem_cons_of_mem _ (List.mem_append_right _ (h)))⟩)⟩) (by decide +kernel)
set_option maxRecDepth 20000 in
theorem gX11_wayLength_X11_ofMat : GoodIn wsX11_wayLength (wsV RX11 56 RX11 yX11_ofMat wsX11_ofMat) := goodIn_app (goodIn_of _ (by decide +kernel)) ggX11_wayLength_X11_ofMat
set_option maxHeartbeats 4000000 in
set_option maxRecDepth 100000 in
theorem mX11_wayLength (l : Launch) (D : va_G) (cB cI cZ : ClassId) (a_t : Nat) (a_t_now : Nat) (a_t_kept : Nat) (a_t_text : Nat) (a_t_passing : Nat) (a_t_order : Nat) (a_t_times : Nat) (t_thrown : Int32) (t_isKept : Int32) (t_length : Int32) (t_at : Int32) (t_fault : Int32) (t_open : Int32) (t_asked : Int32) (t_byGun : Int32) (t_prizeMost : Int32) (t_listed : Int32) (t_now : Nat → Int32) (sz : Nat) (r0 : Int32) (h : fX11_wayLength t_now = some (r0)) : Met l yX11_wayLength wsX11_wayLength ({ frames := 1, cells := 0, slots := 0, locals := 22 } : Room) (va_Pc [.ref a_t] (zPre D (zT cB cI cZ) [(a_t, .inr (11, [.int t_thrown, .ref a_t_now, .ref a_t_kept, .int t_isKept, .ref a_t_text, .int t_length, .ref a_t_passing, .int t_at, .int t_fault, .int t_open, .int t_asked, .int t_byGun, .int t_prizeMost, .ref a_t_order, .ref a_t_times, .int t_listed])), (a_t_now, .inl (cI, 1562, .inl t_now))] sz)) (zQi r0 D (zT cB cI cZ) [(a_t, .inr (11, [.int t_thrown, .ref a_t_now, .ref a_t_kept, .int t_isKept, .ref a_t_text, .int t_length, .ref a_t_passing, .int t_at, .int t_fault, .int t_open, .int t_asked, .int t_byGun, .int t_prizeMost, .ref a_t_order, .ref a_t_times, .int t_listed])), (a_t_now, .inl (cI, 1562, .inl t_now))] (va_A [(a_t, .inr (11, [.int t_thrown, .ref a_t_now, .ref a_t_kept, .int t_isKept, .ref a_t_text, .int t_length, .ref a_t_passing, .int t_at, .int t_fault, .int t_open, .int t_asked, .int t_byGun, .int t_prizeMost, .ref a_t_order, .ref a_t_times, .int t_listed])), (a_t_now, .inl (cI, 1562, .inl t_now))] sz)) 0 0 (va_A [(a_t, .inr (11, [.int t_thrown, .ref a_t_now, .ref a_t_kept, .int t_isKept, .ref a_t_text, .int t_length, .ref a_t_passing, .int t_at, .int t_fault, .int t_open, .int t_asked, .int t_byGun, .int t_prizeMost, .ref a_t_order, .ref a_t_times, .int t_listed])), (a_t_now, .inl (cI, 1562, .inl t_now))] sz) := by
  refine Met.ofW (cc := cX11_wayLength) (maxL := 1) (ret := (some .int)) (by decide) rfl ?_
  intro p e s m args below meth c s₁ B hml hv
  obtain ⟨rfl, hsz, hP, hK, hN, hZ, hD0⟩ := hv
  have hx := B.exec
  have hb := B.bytes
  have hr := B.returns
  have hts := atoms_spec (ws := wsX11_wayLength) B.pre
  have hown : s.vm.findClass RX11 = some m.cls := findClass_of_methodNamed B.named
  have hlocks := B.notSynchronized
  subst hsz
  have hD := hD0.self (sz := s.heap.size)
  generalize hAe : va_A [(a_t, .inr (11, [.int t_thrown, .ref a_t_now, .ref a_t_kept, .int t_isKept, .ref a_t_text, .int t_length, .ref a_t_passing, .int t_at, .int t_fault, .int t_open, .int t_asked, .int t_byGun, .int t_prizeMost, .ref a_t_order, .ref a_t_times, .int t_listed])), (a_t_now, .inl (cI, 1562, .inl t_now))] s.heap.size = A at hD hZ ⊢
  have hA : ∀ q : Nat, s.heap.size ≤ q → A q := fun q h => by rw [← hAe]; exact Or.inr h
  have hS : va_S A s.heap s.heap [] := va_S.rf
  have hl := lv_entry ([.ref a_t]) (n := 1) (Nat.le_of_ble_eq_true rfl)
  rw [lg_entry_eq]
  generalize (lg_sl ([.ref a_t]) ++ List.replicate (1 - (lg_sl ([.ref a_t])).length) Slot.unset).toArray = ls at hl ⊢
  have hl : lv_has ls 1 [(0, .ref a_t)] := hl
  unfold fX11_wayLength at h
  refine lv_aload_n hx hb dX11_wayLength_0 rfl (lv_at hl 0 rfl) ?_
  refine lv_aload_n hx hb dX11_wayLength_1 rfl (lv_at hl 0 rfl) ?_
  obtain ⟨r1, e2, h⟩ := zz_b h
  refine zVi (As := []) (rest := [.ref a_t]) (C := RX11) (wr := []) [0, 1] [] 0 ⟨hx, hb, hml, hown, hts⟩ (mX11_mats l D cB cI cZ a_t a_t_now a_t_kept a_t_text a_t_passing a_t_order a_t_times t_thrown t_isKept t_length t_at t_fault t_open t_asked t_byGun t_prizeMost t_listed t_now s.heap.size r1 e2) (cwV 0 hts gX11_wayLength_X11_mats rfl rfl rfl (by decide +kernel) ⟨Nat.le_of_ble_eq_true rfl, Nat.le_of_ble_eq_true rfl⟩) hK hN hZ hP hD hS hA rfl rfl rfl rfl rfl rfl rfl rfl hl.1 rfl (lv_room (Nat.le_of_ble_eq_true rfl)) dX11_wayLength_2 ⟨Nat.le_of_ble_eq_true rfl, Nat.le_of_ble_eq_true rfl⟩ (fun H locs hP hD hS => ?_)
  have hP : va_P D vwCl [(a_t, .inr (11, [.int t_thrown, .ref a_t_now, .ref a_t_kept, .int t_isKept, .ref a_t_text, .int t_length, .ref a_t_passing, .int t_at, .int t_fault, .int t_open, .int t_asked, .int t_byGun, .int t_prizeMost, .ref a_t_order, .ref a_t_times, .int t_listed])), (a_t_now, .inl (cI, 1562, .inl t_now))] H := hP
  have hD : va_D A [(a_t, .inr (11, [.int t_thrown, .ref a_t_now, .ref a_t_kept, .int t_isKept, .ref a_t_text, .int t_length, .ref a_t_passing, .int t_at, .int t_fault, .int t_open, .int t_asked, .int t_byGun, .int t_prizeMost, .ref a_t_order, .ref a_t_times, .int t_listed])), (a_t_now, .inl (cI, 1562, .inl t_now))] := hD
  refine lv_iconst (v := (nI 1)) hx hb dX11_wayLength_5 rfl ?_
  refine lv_isub hx hb dX11_wayLength_6 ?_
  refine lv_iconst (v := (nI 0)) hx hb dX11_wayLength_7 rfl ?_
  obtain ⟨r3, e4, h⟩ := zz_b h
  refine zVi (As := [.int (r1 - (nI 1)), .int (nI 0)]) (rest := []) (C := RX11) (wr := []) [0, 1] [] 0 ⟨hx, hb, hml, hown, hts⟩ (mX11_ofMat l D cB cI cZ a_t a_t_now a_t_kept a_t_text a_t_passing a_t_order a_t_times t_thrown t_isKept t_length t_at t_fault t_open t_asked t_byGun t_prizeMost t_listed t_now H.size (r1 - (nI 1)) (nI 0) r3 e4) (cwV 2 hts gX11_wayLength_X11_ofMat rfl rfl rfl (by decide +kernel) ⟨Nat.le_of_ble_eq_true rfl, Nat.le_of_ble_eq_true rfl⟩) hK hN hZ hP hD hS hA rfl rfl rfl rfl rfl rfl rfl rfl hl.1 rfl (lv_room (Nat.le_of_ble_eq_true rfl)) dX11_wayLength_8 ⟨Nat.le_of_ble_eq_true rfl, Nat.le_of_ble_eq_true rfl⟩ (fun H locs hP hD hS => ?_)
  have hP : va_P D vwCl [(a_t, .inr (11, [.int t_thrown, .ref a_t_now, .ref a_t_kept, .int t_isKept, .ref a_t_text, .int t_length, .ref a_t_passing, .int t_at, .int t_fault, .int t_open, .int t_asked, .int t_byGun, .int t_prizeMost, .ref a_t_order, .ref a_t_times, .int t_listed])), (a_t_now, .inl (cI, 1562, .inl t_now))] H := hP
  have hD : va_D A [(a_t, .inr (11, [.int t_thrown, .ref a_t_now, .ref a_t_kept, .int t_isKept, .ref a_t_text, .int t_length, .ref a_t_passing, .int t_at, .int t_fault, .int t_open, .int t_asked, .int t_byGun, .int t_prizeMost, .ref a_t_order, .ref a_t_times, .int t_listed])), (a_t_now, .inl (cI, 1562, .inl t_now))] := hD
  have j0_ := Option.some.inj h
  subst j0_
  exact W.iret (v := r3) hx hb hr (fun t ht hW => ⟨⟨_, (), rfl, rfl, zPost.of hP hD hK ht hW [0, 1] rfl rfl rfl⟩, hS.F ht⟩) hS.2.2 dX11_wayLength_11
/-! RunDeskModel.made -/
theorem dX11_made_0 : decode cX11_made 0 = .ok (.iload_n 0, 1) := by decide +kernel
theorem dX11_made_1 : decode cX11_made 1 = .ok (.i2l, 1) := by decide +kernel
theorem dX11_made_2 : decode cX11_made 2 = .ok (.iload_n 1, 1) := by decide +kernel
theorem dX11_made_3 : decode cX11_made 3 = .ok (.i2l, 1) := by decide +kernel
theorem dX11_made_4 : decode cX11_made 4 = .ok (.lmul, 1) := by decide +kernel
theorem dX11_made_5 : decode cX11_made 5 = .ok (.ldc2_w 108, 3) := by decide +kernel
theorem dX11_made_8 : decode cX11_made 8 = .ok (.ldiv, 1) := by decide +kernel
theorem dX11_made_9 : decode cX11_made 9 = .ok (.l2i, 1) := by decide +kernel
theorem dX11_made_10 : decode cX11_made 10 = .ok (.ireturn, 1) := by decide +kernel
theorem kX11_made_0 : (.constantLong RX11 108 (1000) : Cond) ∈ wsX11_made := List.mem_of_getElem? (i := 1) (by decide +kernel)
set_option maxHeartbeats 4000000 in
set_option maxRecDepth 100000 in
theorem mX11_made (l : Launch) (D : va_G) (cB cI cZ : ClassId) (sz : Nat) (x1 : Int32) (x2 : Int32) (r0 : Int32) (h : fX11_made x1 x2 = some (r0)) : Met l yX11_made wsX11_made ({ frames := 0, cells := 0, slots := 0, locals := 0 } : Room) (va_Pc [.int x1, .int x2] (zPre D (zT cB cI cZ) [] sz)) (zQi r0 D (zT cB cI cZ) [] (va_A [] sz)) 0 0 (va_A [] sz) := by
  refine Met.ofW (cc := cX11_made) (maxL := 2) (ret := (some .int)) (by decide) rfl ?_
  intro p e s m args below meth c s₁ B hml hv
  obtain ⟨rfl, hsz, hP, hK, hN, hZ, hD0⟩ := hv
  have hx := B.exec
  have hb := B.bytes
  have hr := B.returns
  have hts := atoms_spec (ws := wsX11_made) B.pre
  have hown : s.vm.findClass RX11 = some m.cls := findClass_of_methodNamed B.named
  have hlocks := B.notSynchronized
  subst hsz
  have hD := hD0.self (sz := s.heap.size)
  generalize hAe : va_A [] s.heap.size = A at hD hZ ⊢
  have hA : ∀ q : Nat, s.heap.size ≤ q → A q := fun q h => by rw [← hAe]; exact Or.inr h
  have hS : va_S A s.heap s.heap [] := va_S.rf
  have hl := lv_entry ([.int x1, .int x2]) (n := 2) (Nat.le_of_ble_eq_true rfl)
  rw [lg_entry_eq]
  generalize (lg_sl ([.int x1, .int x2]) ++ List.replicate (2 - (lg_sl ([.int x1, .int x2])).length) Slot.unset).toArray = ls at hl ⊢
  have hl : lv_has ls 2 [(0, .int x1), (1, .int x2)] := hl
  unfold fX11_made at h
  refine lv_iload_n hx hb dX11_made_0 rfl (lv_at hl 0 rfl) ?_
  refine lv_i2l hx hb dX11_made_1 rfl ?_
  refine lv_iload_n hx hb dX11_made_2 rfl (lv_at hl 1 rfl) ?_
  refine lv_i2l hx hb dX11_made_3 rfl ?_
  refine lv_lmul hx hb dX11_made_4 ?_
  refine lv_ldc2 (v := (1000 : Int64)) hx hb hown (hts _ kX11_made_0) dX11_made_5 ?_
  refine lv_ldiv hx hb dX11_made_8 (by decide) ?_
  refine lv_l2i hx hb dX11_made_9 rfl ?_
  have j0_ := Option.some.inj h
  subst j0_
  exact W.iret (v := ((((x1).toInt64 * (x2).toInt64) / (1000 : Int64))).toInt32) hx hb hr (fun t ht hW => ⟨⟨_, (), rfl, rfl, zPost.of hP hD hK ht hW [] rfl rfl rfl⟩, hS.F ht⟩) hS.2.2 dX11_made_10
/-! RunDeskModel.told -/
theorem dX11_told_0 : decode cX11_told 0 = .ok (.aload_n 0, 1) := by decide +kernel
theorem dX11_told_1 : decode cX11_told 1 = .ok (.iload_n 1, 1) := by decide +kernel
theorem dX11_told_2 : decode cX11_told 2 = .ok (.invokevirtual 65, 3) := by decide +kernel
theorem dX11_told_5 : decode cX11_told 5 = .ok (.ifCond .ne 5, 3) := by decide +kernel
theorem dX11_told_8 : decode cX11_told 8 = .ok (.iconst (-1), 1) := by decide +kernel
theorem dX11_told_9 : decode cX11_told 9 = .ok (.ireturn, 1) := by decide +kernel
theorem dX11_told_10 : decode cX11_told 10 = .ok (.iload_n 2, 1) := by decide +kernel
theorem dX11_told_11 : decode cX11_told 11 = .ok (.tableswitch 220 0 13 #[69, 69, 69, 69, 69, 69, 76, 82, 88, 124, 131, 138, 167, 212], 69) := by decide +kernel
theorem dX11_told_80 : decode cX11_told 80 = .ok (.aload_n 0, 1) := by decide +kernel
theorem dX11_told_81 : decode cX11_told 81 = .ok (.iload_n 1, 1) := by decide +kernel
theorem dX11_told_82 : decode cX11_told 82 = .ok (.iload_n 2, 1) := by decide +kernel
theorem dX11_told_83 : decode cX11_told 83 = .ok (.invokevirtual 62, 3) := by decide +kernel
theorem dX11_told_86 : decode cX11_told 86 = .ok (.ireturn, 1) := by decide +kernel
theorem dX11_told_87 : decode cX11_told 87 = .ok (.aload_n 0, 1) := by decide +kernel
theorem dX11_told_88 : decode cX11_told 88 = .ok (.iload_n 1, 1) := by decide +kernel
theorem dX11_told_89 : decode cX11_told 89 = .ok (.invokevirtual 89, 3) := by decide +kernel
theorem dX11_told_92 : decode cX11_told 92 = .ok (.ireturn, 1) := by decide +kernel
theorem dX11_told_93 : decode cX11_told 93 = .ok (.aload_n 0, 1) := by decide +kernel
theorem dX11_told_94 : decode cX11_told 94 = .ok (.iload_n 1, 1) := by decide +kernel
theorem dX11_told_95 : decode cX11_told 95 = .ok (.invokevirtual 83, 3) := by decide +kernel
theorem dX11_told_98 : decode cX11_told 98 = .ok (.ireturn, 1) := by decide +kernel
theorem dX11_told_99 : decode cX11_told 99 = .ok (.iconst (-1), 1) := by decide +kernel
theorem dX11_told_100 : decode cX11_told 100 = .ok (.istore_n 3, 1) := by decide +kernel
theorem dX11_told_101 : decode cX11_told 101 = .ok (.iconst 0, 1) := by decide +kernel
theorem dX11_told_102 : decode cX11_told 102 = .ok (.istore 4, 2) := by decide +kernel
theorem dX11_told_104 : decode cX11_told 104 = .ok (.iload 4, 2) := by decide +kernel
theorem dX11_told_106 : decode cX11_told 106 = .ok (.aload_n 0, 1) := by decide +kernel
theorem dX11_told_107 : decode cX11_told 107 = .ok (.invokevirtual 41, 3) := by decide +kernel
theorem dX11_told_110 : decode cX11_told 110 = .ok (.if_icmp .ge 23, 3) := by decide +kernel
theorem dX11_told_113 : decode cX11_told 113 = .ok (.aload_n 0, 1) := by decide +kernel
theorem dX11_told_114 : decode cX11_told 114 = .ok (.iload_n 1, 1) := by decide +kernel
theorem dX11_told_115 : decode cX11_told 115 = .ok (.iload 4, 2) := by decide +kernel
theorem dX11_told_117 : decode cX11_told 117 = .ok (.invokevirtual 95, 3) := by decide +kernel
theorem dX11_told_120 : decode cX11_told 120 = .ok (.iconst (-1), 1) := by decide +kernel
theorem dX11_told_121 : decode cX11_told 121 = .ok (.if_icmp .eq 6, 3) := by decide +kernel
theorem dX11_told_124 : decode cX11_told 124 = .ok (.iload 4, 2) := by decide +kernel
theorem dX11_told_126 : decode cX11_told 126 = .ok (.istore_n 3, 1) := by decide +kernel
theorem dX11_told_127 : decode cX11_told 127 = .ok (.iinc 4 1, 3) := by decide +kernel
theorem dX11_told_130 : decode cX11_told 130 = .ok (.goto (-26), 3) := by decide +kernel
theorem dX11_told_133 : decode cX11_told 133 = .ok (.iload_n 3, 1) := by decide +kernel
theorem dX11_told_134 : decode cX11_told 134 = .ok (.ireturn, 1) := by decide +kernel
theorem dX11_told_135 : decode cX11_told 135 = .ok (.aload_n 0, 1) := by decide +kernel
theorem dX11_told_136 : decode cX11_told 136 = .ok (.iload_n 1, 1) := by decide +kernel
theorem dX11_told_137 : decode cX11_told 137 = .ok (.iconst 0, 1) := by decide +kernel
theorem dX11_told_138 : decode cX11_told 138 = .ok (.invokevirtual 98, 3) := by decide +kernel
theorem dX11_told_141 : decode cX11_told 141 = .ok (.ireturn, 1) := by decide +kernel
theorem dX11_told_142 : decode cX11_told 142 = .ok (.aload_n 0, 1) := by decide +kernel
theorem dX11_told_143 : decode cX11_told 143 = .ok (.iload_n 1, 1) := by decide +kernel
theorem dX11_told_144 : decode cX11_told 144 = .ok (.iconst 1, 1) := by decide +kernel
theorem dX11_told_145 : decode cX11_told 145 = .ok (.invokevirtual 98, 3) := by decide +kernel
theorem dX11_told_148 : decode cX11_told 148 = .ok (.ireturn, 1) := by decide +kernel
theorem dX11_told_149 : decode cX11_told 149 = .ok (.aload_n 0, 1) := by decide +kernel
theorem dX11_told_150 : decode cX11_told 150 = .ok (.iload_n 1, 1) := by decide +kernel
theorem dX11_told_151 : decode cX11_told 151 = .ok (.invokevirtual 83, 3) := by decide +kernel
theorem dX11_told_154 : decode cX11_told 154 = .ok (.iconst (-1), 1) := by decide +kernel
theorem dX11_told_155 : decode cX11_told 155 = .ok (.if_icmp .eq 21, 3) := by decide +kernel
theorem dX11_told_158 : decode cX11_told 158 = .ok (.aload_n 0, 1) := by decide +kernel
theorem dX11_told_159 : decode cX11_told 159 = .ok (.iload_n 1, 1) := by decide +kernel
theorem dX11_told_160 : decode cX11_told 160 = .ok (.iconst 0, 1) := by decide +kernel
theorem dX11_told_161 : decode cX11_told 161 = .ok (.invokevirtual 76, 3) := by decide +kernel
theorem dX11_told_164 : decode cX11_told 164 = .ok (.iconst (-1), 1) := by decide +kernel
theorem dX11_told_165 : decode cX11_told 165 = .ok (.if_icmp .ne 7, 3) := by decide +kernel
theorem dX11_told_168 : decode cX11_told 168 = .ok (.iconst 1, 1) := by decide +kernel
theorem dX11_told_169 : decode cX11_told 169 = .ok (.goto 8, 3) := by decide +kernel
theorem dX11_told_172 : decode cX11_told 172 = .ok (.iconst 0, 1) := by decide +kernel
theorem dX11_told_173 : decode cX11_told 173 = .ok (.goto 4, 3) := by decide +kernel
theorem dX11_told_176 : decode cX11_told 176 = .ok (.iconst (-1), 1) := by decide +kernel
theorem dX11_told_177 : decode cX11_told 177 = .ok (.ireturn, 1) := by decide +kernel
theorem dX11_told_178 : decode cX11_told 178 = .ok (.aload_n 0, 1) := by decide +kernel
theorem dX11_told_179 : decode cX11_told 179 = .ok (.iload_n 1, 1) := by decide +kernel
theorem dX11_told_180 : decode cX11_told 180 = .ok (.iconst 0, 1) := by decide +kernel
theorem dX11_told_181 : decode cX11_told 181 = .ok (.invokevirtual 62, 3) := by decide +kernel
theorem dX11_told_184 : decode cX11_told 184 = .ok (.iconst 1, 1) := by decide +kernel
theorem dX11_told_185 : decode cX11_told 185 = .ok (.if_icmp .ne 13, 3) := by decide +kernel
theorem dX11_told_188 : decode cX11_told 188 = .ok (.aload_n 0, 1) := by decide +kernel
theorem dX11_told_189 : decode cX11_told 189 = .ok (.iload_n 1, 1) := by decide +kernel
theorem dX11_told_190 : decode cX11_told 190 = .ok (.iconst 0, 1) := by decide +kernel
theorem dX11_told_191 : decode cX11_told 191 = .ok (.invokevirtual 98, 3) := by decide +kernel
theorem dX11_told_194 : decode cX11_told 194 = .ok (.iconst (-1), 1) := by decide +kernel
theorem dX11_told_195 : decode cX11_told 195 = .ok (.if_icmp .ne 7, 3) := by decide +kernel
theorem dX11_told_198 : decode cX11_told 198 = .ok (.iconst (-1), 1) := by decide +kernel
theorem dX11_told_199 : decode cX11_told 199 = .ok (.goto 23, 3) := by decide +kernel
theorem dX11_told_202 : decode cX11_told 202 = .ok (.aload_n 0, 1) := by decide +kernel
theorem dX11_told_203 : decode cX11_told 203 = .ok (.iload_n 1, 1) := by decide +kernel
theorem dX11_told_204 : decode cX11_told 204 = .ok (.iconst 0, 1) := by decide +kernel
theorem dX11_told_205 : decode cX11_told 205 = .ok (.invokevirtual 98, 3) := by decide +kernel
theorem dX11_told_208 : decode cX11_told 208 = .ok (.aload_n 0, 1) := by decide +kernel
theorem dX11_told_209 : decode cX11_told 209 = .ok (.invokevirtual 102, 3) := by decide +kernel
theorem dX11_told_212 : decode cX11_told 212 = .ok (.aload_n 0, 1) := by decide +kernel
theorem dX11_told_213 : decode cX11_told 213 = .ok (.iload_n 1, 1) := by decide +kernel
theorem dX11_told_214 : decode cX11_told 214 = .ok (.iconst 1, 1) := by decide +kernel
theorem dX11_told_215 : decode cX11_told 215 = .ok (.invokevirtual 62, 3) := by decide +kernel
theorem dX11_told_218 : decode cX11_told 218 = .ok (.invokestatic 105, 3) := by decide +kernel
theorem dX11_told_221 : decode cX11_told 221 = .ok (.isub, 1) := by decide +kernel
theorem dX11_told_222 : decode cX11_told 222 = .ok (.ireturn, 1) := by decide +kernel
theorem dX11_told_223 : decode cX11_told 223 = .ok (.aload_n 0, 1) := by decide +kernel
theorem dX11_told_224 : decode cX11_told 224 = .ok (.iload_n 1, 1) := by decide +kernel
theorem dX11_told_225 : decode cX11_told 225 = .ok (.bipush 9, 2) := by decide +kernel
theorem dX11_told_227 : decode cX11_told 227 = .ok (.invokevirtual 62, 3) := by decide +kernel
theorem dX11_told_230 : decode cX11_told 230 = .ok (.ireturn, 1) := by decide +kernel
theorem dX11_told_231 : decode cX11_told 231 = .ok (.iconst (-1), 1) := by decide +kernel
theorem dX11_told_232 : decode cX11_told 232 = .ok (.ireturn, 1) := by decide +kernel
set_option maxRecDepth 20000 in
theorem ggX11_told_X11_isRunner : GoodIn wsX11_told wsX11_isRunner := goodIn_sub (List.forall_mem_cons.mpr ⟨List.mem_cons_of_mem _ (List.mem_append_left _ (List.mem_append_left _ (List.mem_of_getElem? (l := wsX11_told_r1) (i := 4) rfl))), (List.forall_mem_append.mpr ⟨(List.forall_mem_cons.mpr ⟨List.mem_cons_of_mem _ (List.mem_append_left _ (List.mem_append_left _ (List.mem_of_getElem? (l := wsX11_told_r1) (i := 5) rfl))), (List.forall_mem_cons.mpr ⟨List.mem_cons_of_mem _ (List.mem_append_left _ (List.mem_append_left _ (List.mem_of_getElem? (l := wsX11_told_r1) (i := 6) rfl))), (List.forall_mem_cons.mpr ⟨List.mem_cons_of_mem _ (List.mem_append_left _ (List.mem_append_left _ (List.mem_of_getElem? (l := wsX11_told_r1) (i := 7) rfl))), (List.forall_mem_cons.mpr ⟨List.mem_cons_of_mem _ (List.mem_append_left _ (List.mem_append_left _ (List.mem_of_getElem? (l := wsX11_told_r1) (i := 8) rfl))), (List.forall_mem_cons.mpr ⟨List.mem_cons_of_mem _ (List.mem_append_left _ (List.mem_append_left _ (List.mem_of_getElem? (l := wsX11_told_r1) (i := 3) rfl))), (List.forall_mem_cons.mpr ⟨List.mem_cons_of_mem _ (List.mem_append_left _ (List.mem_append_left _ (List.mem_of_getElem? (l := wsX11_told_r1) (i := 9) rfl))), (List.forall_mem_cons.mpr ⟨List.mem_cons_of_mem _ (List.mem_append_left _ (List.mem_append_left _ (List.mem_of_getElem? (l := wsX11_told_r1) (i := 10) rfl))), (fun _ h => nomatch h)⟩)⟩)⟩)⟩)⟩)⟩)⟩), (fun _ h => List.mem_cons_of_mem _ (List.mem_append_right _ (h)))⟩)⟩) (by decide +kernel)
set_option maxRecDepth 20000 in
theorem gX11_told_X11_isRunner : GoodIn wsX11_told (wsV RX11 65 RX11 yX11_isRunner wsX11_isRunner) := goodIn_app (goodIn_of _ (by decide +kernel)) ggX11_told_X11_isRunner
set_option maxRecDepth 20000 in
theorem ggX11_told_X11_of : GoodIn wsX11_told wsX11_of := goodIn_sub (List.forall_mem_cons.mpr ⟨List.mem_cons_of_mem _ (List.mem_append_left _ (List.mem_append_left _ (List.mem_of_getElem? (l := wsX11_told_r1) (i := 14) rfl))), (List.forall_mem_append.mpr ⟨(List.forall_mem_cons.mpr ⟨List.mem_cons_of_mem _ (List.mem_append_left _ (List.mem_append_left _ (List.mem_of_getElem? (l := wsX11_told_r1) (i := 10) rfl))), (fun _ h => nomatch h)⟩), (fun _ h => List.mem_cons_of_mem _ (List.mem_append_right _ (h)))⟩)⟩) (by decide +kernel)
set_option maxRecDepth 20000 in
theorem gX11_told_X11_of : GoodIn wsX11_told (wsV RX11 62 RX11 yX11_of wsX11_of) := goodIn_app (goodIn_of _ (by decide +kernel)) ggX11_told_X11_of
set_option maxRecDepth 20000 in
theorem ggX11_told_X11_stateOf : GoodIn wsX11_told wsX11_stateOf := goodIn_sub (List.forall_mem_cons.mpr ⟨List.mem_cons_of_mem _ (List.mem_append_left _ (List.mem_append_left _ (List.mem_of_getElem? (l := wsX11_told_r1) (i := 18) rfl))), (List.forall_mem_append.mpr ⟨(List.forall_mem_append.mpr ⟨(List.forall_mem_cons.mpr ⟨List.mem_cons_of_mem _ (List.mem_append_left _ (List.mem_append_left _ (List.mem_of_getElem? (l := wsX11_told_r1) (i := 11) rfl))), (List.forall_mem_cons.mpr ⟨List.mem_cons_of_mem _ (List.mem_append_left _ (List.mem_append_left _ (List.mem_of_getElem? (l := wsX11_told_r1) (i := 12) rfl))), (List.forall_mem_cons.mpr ⟨List.mem_cons_of_mem _ (List.mem_append_left _ (List.mem_append_left _ (List.mem_of_getElem? (l := wsX11_told_r1) (i := 13) rfl))), (List.forall_mem_cons.mpr ⟨List.mem_cons_of_mem _ (List.mem_append_left _ (List.mem_append_left _ (List.mem_of_getElem? (l := wsX11_told_r1) (i := 3) rfl))), (List.forall_mem_cons.mpr ⟨List.mem_cons_of_mem _ (List.mem_append_left _ (List.mem_append_left _ (List.mem_of_getElem? (l := wsX11_told_r1) (i := 14) rfl))), (List.forall_mem_cons.mpr ⟨List.mem_cons_of_mem _ (List.mem_append_left _ (List.mem_append_left _ (List.mem_of_getElem? (l := wsX11_told_r1) (i := 10) rfl))), (List.forall_mem_cons.mpr ⟨List.mem_cons_of_mem _ (List.mem_append_left _ (List.mem_append_left _ (List.mem_of_getElem? (l := wsX11_told_r1) (i := 19) rfl))), (List.forall_mem_cons.mpr ⟨List.mem_cons_of_mem _ (List.mem_append_left _ (List.mem_append_left _ (List.mem_of_getElem? (l := wsX11_told_r1) (i := 20) rfl))), (List.forall_mem_cons.mpr ⟨List.mem_cons_of_mem _ (List.mem_append_left _ (List.mem_append_left _ (List.mem_of_getElem? (l := wsX11_told_r1) (i := 21) rfl))), (List.forall_mem_cons.mpr ⟨List.mem_cons_of_mem _ (List.mem_append_left _ (List.mem_append_left _ (List.mem_of_getElem? (l := wsX11_told_r1) (i := 22) rfl))), (List.forall_mem_cons.mpr ⟨List.mem_cons_of_mem _ (List.mem_append_left _ (List.mem_append_left _ (List.mem_of_getElem? (l := wsX11_told_r1) (i := 23) rfl))), (List.forall_mem_cons.mpr ⟨List.mem_cons_of_mem _ (List.mem_append_left _ (List.mem_append_right _ (List.mem_append_left _ (List.mem_of_getElem? (l := wsX11_told_r2) (i := 0) rfl)))), (List.forall_mem_cons.mpr ⟨List.mem_cons_of_mem _ (List.mem_append_left _ (List.mem_append_right _ (List.mem_append_left _ (List.mem_of_getElem? (l := wsX11_told_r2) (i := 1) rfl)))), (List.forall_mem_cons.mpr ⟨List.mem_cons_of_mem _ (List.mem_append_left _ (List.mem_append_right _ (List.mem_append_left _ (List.mem_of_getElem? (l := wsX11_told_r2) (i := 2) rfl)))), (List.forall_mem_cons.mpr ⟨List.mem_cons_of_mem _ (List.mem_append_left _ (List.mem_append_right _ (List.mem_append_left _ (List.mem_of_getElem? (l := wsX11_told_r2) (i := 3) rfl)))), (List.forall_mem_cons.mpr ⟨List.mem_cons_of_mem _ (List.mem_append_left _ (List.mem_append_right _ (List.mem_append_left _ (List.mem_of_getElem? (l := wsX11_told_r2) (i := 4) rfl)))), (List.forall_mem_cons.mpr ⟨List.mem_cons_of_mem _ (List.mem_append_left _ (List.mem_append_right _ (List.mem_append_left _ (List.mem_of_getElem? (l := wsX11_told_r2) (i := 5) rfl)))), (List.forall_mem_cons.mpr ⟨List.mem_cons_of_mem _ (List.mem_append_left _ (List.mem_append_right _ (List.mem_append_left _ (List.mem_of_getElem? (l := wsX11_told_r2) (i := 6) rfl)))), (List.forall_mem_cons.mpr ⟨List.mem_cons_of_mem _ (List.mem_append_left _ (List.mem_append_right _ (List.mem_append_left _ (List.mem_of_getElem? (l := wsX11_told_r2) (i := 7) rfl)))), (List.forall_mem_cons.mpr ⟨List.mem_cons_of_mem _ (List.mem_append_left _ (List.mem_append_right _ (List.mem_append_left _ (List.mem_of_getElem? (l := wsX11_told_r2) (i := 8) rfl)))), (List.forall_mem_cons.mpr ⟨List.mem_cons_of_mem _ (List.mem_append_left _ (List.mem_append_right _ (List.mem_append_left _ (List.mem_of_getElem? (l := wsX11_told_r2) (i := 9) rfl)))), (List.forall_mem_cons.mpr ⟨List.mem_cons_of_mem _ (List.mem_append_left _ (List.mem_append_right _ (List.mem_append_left _ (List.mem_of_getElem? (l := wsX11_told_r2) (i := 10) rfl)))), (List.forall_mem_cons.mpr ⟨List.mem_cons_of_mem _ (List.mem_append_left _ (List.mem_append_right _ (List.mem_append_left _ (List.mem_of_getElem? (l := wsX11_told_r2) (i := 11) rfl)))), (List.forall_mem_cons.mpr ⟨List.mem_cons_of_mem _ (List.mem_append_left _ (List.mem_append_right _ (List.mem_append_left _ (List.mem_of_getElem? (l := wsX11_told_r2) (i := 12) rfl)))), (fun _ h => nomatch h)⟩)⟩)⟩)⟩)⟩)⟩)⟩)⟩)⟩)⟩)⟩)⟩)⟩)⟩)⟩)⟩)⟩)⟩)⟩)⟩)⟩)⟩)⟩)⟩), (List.forall_mem_cons.mpr ⟨List.mem_cons_of_mem _ (List.mem_append_left _ (List.mem_append_right _ (List.mem_append_left _ (List.mem_of_getElem? (l := wsX11_told_r2) (i := 13) rfl)))), (List.forall_mem_cons.mpr ⟨List.mem_cons_of_mem _ (List.mem_append_left _ (List.mem_append_right _ (List.mem_append_left _ (List.mem_of_getElem? (l := wsX11_told_r2) (i := 14) rfl)))), (List.forall_mem_cons.mpr ⟨List.mem_cons_of_mem _ (List.mem_append_left _ (List.mem_append_right _ (List.mem_append_left _ (List.mem_of_getElem? (l := wsX11_told_r2) (i := 15) rfl)))), (List.forall_mem_cons.mpr ⟨List.mem_cons_of_mem _ (List.mem_append_left _ (List.mem_append_right _ (List.mem_append_left _ (List.mem_of_getElem? (l := wsX11_told_r2) (i := 16) rfl)))), (List.forall_mem_cons.mpr ⟨List.mem_cons_of_mem _ (List.mem_append_left _ (List.mem_append_right _ (List.mem_append_left _ (List.mem_of_getElem? (l := wsX11_told_r2) (i := 17) rfl)))), (List.forall_mem_cons.mpr ⟨List.mem_cons_of_mem _ (List.mem_append_left _ (List.mem_append_right _ (List.mem_append_left _ (List.mem_of_getElem? (l := wsX11_told_r2) (i := 18) rfl)))), (fun _ h => nomatch h)⟩)⟩)⟩)⟩)⟩)⟩)⟩), (fun _ h => List.mem_cons_of_mem _ (List.mem_append_right _ (h)))⟩)⟩) (by decide +kernel)
set_option maxRecDepth 20000 in
theorem gX11_told_X11_stateOf : GoodIn wsX11_told (wsV RX11 89 RX11 yX11_stateOf wsX11_stateOf) := goodIn_app (goodIn_of _ (by decide +kernel)) ggX11_told_X11_stateOf
set_option maxRecDepth 20000 in
theorem ggX11_told_X11_startOf : GoodIn wsX11_told wsX11_startOf := goodIn_sub (List.forall_mem_cons.mpr ⟨List.mem_cons_of_mem _ (List.mem_append_left _ (List.mem_append_right _ (List.mem_append_left _ (List.mem_of_getElem? (l := wsX11_told_r2) (i := 14) rfl)))), (List.forall_mem_append.mpr ⟨(List.forall_mem_cons.mpr ⟨List.mem_cons_of_mem _ (List.mem_append_left _ (List.mem_append_right _ (List.mem_append_left _ (List.mem_of_getElem? (l := wsX11_told_r2) (i := 7) rfl)))), (List.forall_mem_cons.mpr ⟨List.mem_cons_of_mem _ (List.mem_append_left _ (List.mem_append_right _ (List.mem_append_left _ (List.mem_of_getElem? (l := wsX11_told_r2) (i := 8) rfl)))), (List.forall_mem_cons.mpr ⟨List.mem_cons_of_mem _ (List.mem_append_left _ (List.mem_append_right _ (List.mem_append_left _ (List.mem_of_getElem? (l := wsX11_told_r2) (i := 9) rfl)))), (List.forall_mem_cons.mpr ⟨List.mem_cons_of_mem _ (List.mem_append_left _ (List.mem_append_left _ (List.mem_of_getElem? (l := wsX11_told_r1) (i := 3) rfl))), (List.forall_mem_cons.mpr ⟨List.mem_cons_of_mem _ (List.mem_append_left _ (List.mem_append_right _ (List.mem_append_left _ (List.mem_of_getElem? (l := wsX11_told_r2) (i := 10) rfl)))), (List.forall_mem_cons.mpr ⟨List.mem_cons_of_mem _ (List.mem_append_left _ (List.mem_append_left _ (List.mem_of_getElem? (l := wsX11_told_r1) (i := 11) rfl))), (List.forall_mem_cons.mpr ⟨List.mem_cons_of_mem _ (List.mem_append_left _ (List.mem_append_left _ (List.mem_of_getElem? (l := wsX11_told_r1) (i := 12) rfl))), (List.forall_mem_cons.mpr ⟨List.mem_cons_of_mem _ (List.mem_append_left _ (List.mem_append_left _ (List.mem_of_getElem? (l := wsX11_told_r1) (i := 13) rfl))), (List.forall_mem_cons.mpr ⟨List.mem_cons_of_mem _ (List.mem_append_left _ (List.mem_append_left _ (List.mem_of_getElem? (l := wsX11_told_r1) (i := 14) rfl))), (List.forall_mem_cons.mpr ⟨List.mem_cons_of_mem _ (List.mem_append_left _ (List.mem_append_left _ (List.mem_of_getElem? (l := wsX11_told_r1) (i := 10) rfl))), (List.forall_mem_cons.mpr ⟨List.mem_cons_of_mem _ (List.mem_append_left _ (List.mem_append_right _ (List.mem_append_left _ (List.mem_of_getElem? (l := wsX11_told_r2) (i := 15) rfl)))), (List.forall_mem_cons.mpr ⟨List.mem_cons_of_mem _ (List.mem_append_left _ (List.mem_append_right _ (List.mem_append_left _ (List.mem_of_getElem? (l := wsX11_told_r2) (i := 16) rfl)))), (List.forall_mem_cons.mpr ⟨List.mem_cons_of_mem _ (List.mem_append_left _ (List.mem_append_right _ (List.mem_append_left _ (List.mem_of_getElem? (l := wsX11_told_r2) (i := 17) rfl)))), (List.forall_mem_cons.mpr ⟨List.mem_cons_of_mem _ (List.mem_append_left _ (List.mem_append_right _ (List.mem_append_left _ (List.mem_of_getElem? (l := wsX11_told_r2) (i := 18) rfl)))), (fun _ h => nomatch h)⟩)⟩)⟩)⟩)⟩)⟩)⟩)⟩)⟩)⟩)⟩)⟩)⟩)⟩), (fun _ h => List.mem_cons_of_mem _ (List.mem_append_right _ (h)))⟩)⟩) (by decide +kernel)
set_option maxRecDepth 20000 in
theorem gX11_told_X11_startOf : GoodIn wsX11_told (wsV RX11 83 RX11 yX11_startOf wsX11_startOf) := goodIn_app (goodIn_of _ (by decide +kernel)) ggX11_told_X11_startOf
set_option maxRecDepth 20000 in
theorem ggX11_told_X11_mats : GoodIn wsX11_told wsX11_mats := goodIn_sub (List.forall_mem_cons.mpr ⟨List.mem_cons_of_mem _ (List.mem_append_left _ (List.mem_append_right _ (List.mem_append_left _ (List.mem_of_getElem? (l := wsX11_told_r2) (i := 2) rfl)))), (List.forall_mem_append.mpr ⟨(List.forall_mem_cons.mpr ⟨List.mem_cons_of_mem _ (List.mem_append_left _ (List.mem_append_left _ (List.mem_of_getElem? (l := wsX11_told_r1) (i := 10) rfl))), (fun _ h => nomatch h)⟩), (fun _ h => List.mem_cons_of_mem _ (List.mem_append_right _ (h)))⟩)⟩) (by decide +kernel)
set_option maxRecDepth 20000 in
theorem gX11_told_X11_mats : GoodIn wsX11_told (wsV RX11 41 RX11 yX11_mats wsX11_mats) := goodIn_app (goodIn_of _ (by decide +kernel)) ggX11_told_X11_mats
set_option maxRecDepth 20000 in
theorem ggX11_told_X11_seen : GoodIn wsX11_told wsX11_seen := goodIn_sub (List.forall_mem_cons.mpr ⟨List.mem_cons_of_mem _ (List.mem_append_left _ (List.mem_append_right _ (List.mem_append_left _ (List.mem_of_getElem? (l := wsX11_told_r2) (i := 22) rfl)))), (List.forall_mem_append.mpr ⟨(List.forall_mem_cons.mpr ⟨List.mem_cons_of_mem _ (List.mem_append_left _ (List.mem_append_right _ (List.mem_append_left _ (List.mem_of_getElem? (l := wsX11_told_r2) (i := 11) rfl)))), (List.forall_mem_cons.mpr ⟨List.mem_cons_of_mem _ (List.mem_append_left _ (List.mem_append_right _ (List.mem_append_left _ (List.mem_of_getElem? (l := wsX11_told_r2) (i := 12) rfl)))), (List.forall_mem_cons.mpr ⟨List.mem_cons_of_mem _ (List.mem_append_left _ (List.mem_append_right _ (List.mem_append_left _ (List.mem_of_getElem? (l := wsX11_told_r2) (i := 13) rfl)))), (List.forall_mem_cons.mpr ⟨List.mem_cons_of_mem _ (List.mem_append_left _ (List.mem_append_left _ (List.mem_of_getElem? (l := wsX11_told_r1) (i := 3) rfl))), (List.forall_mem_cons.mpr ⟨List.mem_cons_of_mem _ (List.mem_append_left _ (List.mem_append_right _ (List.mem_append_left _ (List.mem_of_getElem? (l := wsX11_told_r2) (i := 14) rfl)))), (List.forall_mem_cons.mpr ⟨List.mem_cons_of_mem _ (List.mem_append_left _ (List.mem_append_right _ (List.mem_append_left _ (List.mem_of_getElem? (l := wsX11_told_r2) (i := 7) rfl)))), (List.forall_mem_cons.mpr ⟨List.mem_cons_of_mem _ (List.mem_append_left _ (List.mem_append_right _ (List.mem_append_left _ (List.mem_of_getElem? (l := wsX11_told_r2) (i := 8) rfl)))), (List.forall_mem_cons.mpr ⟨List.mem_cons_of_mem _ (List.mem_append_left _ (List.mem_append_right _ (List.mem_append_left _ (List.mem_of_getElem? (l := wsX11_told_r2) (i := 9) rfl)))), (List.forall_mem_cons.mpr ⟨List.mem_cons_of_mem _ (List.mem_append_left _ (List.mem_append_right _ (List.mem_append_left _ (List.mem_of_getElem? (l := wsX11_told_r2) (i := 10) rfl)))), (List.forall_mem_cons.mpr ⟨List.mem_cons_of_mem _ (List.mem_append_left _ (List.mem_append_left _ (List.mem_of_getElem? (l := wsX11_told_r1) (i := 11) rfl))), (List.forall_mem_cons.mpr ⟨List.mem_cons_of_mem _ (List.mem_append_left _ (List.mem_append_left _ (List.mem_of_getElem? (l := wsX11_told_r1) (i := 12) rfl))), (List.forall_mem_cons.mpr ⟨List.mem_cons_of_mem _ (List.mem_append_left _ (List.mem_append_left _ (List.mem_of_getElem? (l := wsX11_told_r1) (i := 13) rfl))), (List.forall_mem_cons.mpr ⟨List.mem_cons_of_mem _ (List.mem_append_left _ (List.mem_append_left _ (List.mem_of_getElem? (l := wsX11_told_r1) (i := 14) rfl))), (List.forall_mem_cons.mpr ⟨List.mem_cons_of_mem _ (List.mem_append_left _ (List.mem_append_left _ (List.mem_of_getElem? (l := wsX11_told_r1) (i := 10) rfl))), (List.forall_mem_cons.mpr ⟨List.mem_cons_of_mem _ (List.mem_append_left _ (List.mem_append_right _ (List.mem_append_left _ (List.mem_of_getElem? (l := wsX11_told_r2) (i := 15) rfl)))), (List.forall_mem_cons.mpr ⟨List.mem_cons_of_mem _ (List.mem_append_left _ (List.mem_append_right _ (List.mem_append_left _ (List.mem_of_getElem? (l := wsX11_told_r2) (i := 16) rfl)))), (List.forall_mem_cons.mpr ⟨List.mem_cons_of_mem _ (List.mem_append_left _ (List.mem_append_right _ (List.mem_append_left _ (List.mem_of_getElem? (l := wsX11_told_r2) (i := 17) rfl)))), (List.forall_mem_cons.mpr ⟨List.mem_cons_of_mem _ (List.mem_append_left _ (List.mem_append_right _ (List.mem_append_left _ (List.mem_of_getElem? (l := wsX11_told_r2) (i := 18) rfl)))), (fun _ h => nomatch h)⟩)⟩)⟩)⟩)⟩)⟩)⟩)⟩)⟩)⟩)⟩)⟩)⟩)⟩)⟩)⟩)⟩)⟩), (fun _ h => List.mem_cons_of_mem _ (List.mem_append_right _ (h)))⟩)⟩) (by decide +kernel)
set_option maxRecDepth 20000 in
theorem gX11_told_X11_seen : GoodIn wsX11_told (wsV RX11 95 RX11 yX11_seen wsX11_seen) := goodIn_app (goodIn_of _ (by decide +kernel)) ggX11_told_X11_seen
set_option maxRecDepth 20000 in
theorem ggX11_told_X11_timeOf : GoodIn wsX11_told wsX11_timeOf := goodIn_sub (List.forall_mem_cons.mpr ⟨List.mem_cons_of_mem _ (List.mem_append_left _ (List.mem_append_right _ (List.mem_append_right _ (List.mem_of_getElem? (l := wsX11_told_r3) (i := 2) rfl)))), (List.forall_mem_append.mpr ⟨(List.forall_mem_append.mpr ⟨(List.forall_mem_cons.mpr ⟨List.mem_cons_of_mem _ (List.mem_append_left _ (List.mem_append_left _ (List.mem_of_getElem? (l := wsX11_told_r1) (i := 11) rfl))), (List.forall_mem_cons.mpr ⟨List.mem_cons_of_mem _ (List.mem_append_left _ (List.mem_append_left _ (List.mem_of_getElem? (l := wsX11_told_r1) (i := 12) rfl))), (List.forall_mem_cons.mpr ⟨List.mem_cons_of_mem _ (List.mem_append_left _ (List.mem_append_left _ (List.mem_of_getElem? (l := wsX11_told_r1) (i := 13) rfl))), (List.forall_mem_cons.mpr ⟨List.mem_cons_of_mem _ (List.mem_append_left _ (List.mem_append_left _ (List.mem_of_getElem? (l := wsX11_told_r1) (i := 3) rfl))), (List.forall_mem_cons.mpr ⟨List.mem_cons_of_mem _ (List.mem_append_left _ (List.mem_append_left _ (List.mem_of_getElem? (l := wsX11_told_r1) (i := 14) rfl))), (List.forall_mem_cons.mpr ⟨List.mem_cons_of_mem _ (List.mem_append_left _ (List.mem_append_left _ (List.mem_of_getElem? (l := wsX11_told_r1) (i := 10) rfl))), (List.forall_mem_cons.mpr ⟨List.mem_cons_of_mem _ (List.mem_append_left _ (List.mem_append_right _ (List.mem_append_left _ (List.mem_of_getElem? (l := wsX11_told_r2) (i := 15) rfl)))), (List.forall_mem_cons.mpr ⟨List.mem_cons_of_mem _ (List.mem_append_left _ (List.mem_append_right _ (List.mem_append_left _ (List.mem_of_getElem? (l := wsX11_told_r2) (i := 16) rfl)))), (List.forall_mem_cons.mpr ⟨List.mem_cons_of_mem _ (List.mem_append_left _ (List.mem_append_right _ (List.mem_append_left _ (List.mem_of_getElem? (l := wsX11_told_r2) (i := 17) rfl)))), (List.forall_mem_cons.mpr ⟨List.mem_cons_of_mem _ (List.mem_append_left _ (List.mem_append_right _ (List.mem_append_left _ (List.mem_of_getElem? (l := wsX11_told_r2) (i := 18) rfl)))), (List.forall_mem_cons.mpr ⟨List.mem_cons_of_mem _ (List.mem_append_left _ (List.mem_append_right _ (List.mem_append_left _ (List.mem_of_getElem? (l := wsX11_told_r2) (i := 11) rfl)))), (List.forall_mem_cons.mpr ⟨List.mem_cons_of_mem _ (List.mem_append_left _ (List.mem_append_right _ (List.mem_append_left _ (List.mem_of_getElem? (l := wsX11_told_r2) (i := 12) rfl)))), (List.forall_mem_cons.mpr ⟨List.mem_cons_of_mem _ (List.mem_append_left _ (List.mem_append_right _ (List.mem_append_left _ (List.mem_of_getElem? (l := wsX11_told_r2) (i := 13) rfl)))), (List.forall_mem_cons.mpr ⟨List.mem_cons_of_mem _ (List.mem_append_left _ (List.mem_append_right _ (List.mem_append_left _ (List.mem_of_getElem? (l := wsX11_told_r2) (i := 14) rfl)))), (List.forall_mem_cons.mpr ⟨List.mem_cons_of_mem _ (List.mem_append_left _ (List.mem_append_right _ (List.mem_append_left _ (List.mem_of_getElem? (l := wsX11_told_r2) (i := 7) rfl)))), (List.forall_mem_cons.mpr ⟨List.mem_cons_of_mem _ (List.mem_append_left _ (List.mem_append_right _ (List.mem_append_left _ (List.mem_of_getElem? (l := wsX11_told_r2) (i := 8) rfl)))), (List.forall_mem_cons.mpr ⟨List.mem_cons_of_mem _ (List.mem_append_left _ (List.mem_append_right _ (List.mem_append_left _ (List.mem_of_getElem? (l := wsX11_told_r2) (i := 9) rfl)))), (List.forall_mem_cons.mpr ⟨List.mem_cons_of_mem _ (List.mem_append_left _ (List.mem_append_right _ (List.mem_append_left _ (List.mem_of_getElem? (l := wsX11_told_r2) (i := 10) rfl)))), (List.forall_mem_cons.mpr ⟨List.mem_cons_of_mem _ (List.mem_append_left _ (List.mem_append_right _ (List.mem_append_right _ (List.mem_of_getElem? (l := wsX11_told_r3) (i := 3) rfl)))), (List.forall_mem_cons.mpr ⟨List.mem_cons_of_mem _ (List.mem_append_left _ (List.mem_append_right _ (List.mem_append_right _ (List.mem_of_getElem? (l := wsX11_told_r3) (i := 4) rfl)))), (List.forall_mem_cons.mpr ⟨List.mem_cons_of_mem _ (List.mem_append_left _ (List.mem_append_right _ (List.mem_append_right _ (List.mem_of_getElem? (l := wsX11_told_r3) (i := 5) rfl)))), (List.forall_mem_cons.mpr ⟨List.mem_cons_of_mem _ (List.mem_append_left _ (List.mem_append_right _ (List.mem_append_right _ (List.mem_of_getElem? (l := wsX11_told_r3) (i := 6) rfl)))), (List.forall_mem_cons.mpr ⟨List.mem_cons_of_mem _ (List.mem_append_left _ (List.mem_append_left _ (List.mem_of_getElem? (l := wsX11_told_r1) (i := 15) rfl))), (List.forall_mem_cons.mpr ⟨List.mem_cons_of_mem _ (List.mem_append_left _ (List.mem_append_left _ (List.mem_of_getElem? (l := wsX11_told_r1) (i := 16) rfl))), (fun _ h => nomatch h)⟩)⟩)⟩)⟩)⟩)⟩)⟩)⟩)⟩)⟩)⟩)⟩)⟩)⟩)⟩)⟩)⟩)⟩)⟩)⟩)⟩)⟩)⟩)⟩), (List.forall_mem_cons.mpr ⟨List.mem_cons_of_mem _ (List.mem_append_left _ (List.mem_append_left _ (List.mem_of_getElem? (l := wsX11_told_r1) (i := 17) rfl))), (List.forall_mem_cons.mpr ⟨List.mem_cons_of_mem _ (List.mem_append_left _ (List.mem_append_left _ (List.mem_of_getElem? (l := wsX11_told_r1) (i := 18) rfl))), (List.forall_mem_cons.mpr ⟨List.mem_cons_of_mem _ (List.mem_append_left _ (List.mem_append_left _ (List.mem_of_getElem? (l := wsX11_told_r1) (i := 19) rfl))), (List.forall_mem_cons.mpr ⟨List.mem_cons_of_mem _ (List.mem_append_left _ (List.mem_append_left _ (List.mem_of_getElem? (l := wsX11_told_r1) (i := 20) rfl))), (List.forall_mem_cons.mpr ⟨List.mem_cons_of_mem _ (List.mem_append_left _ (List.mem_append_left _ (List.mem_of_getElem? (l := wsX11_told_r1) (i := 21) rfl))), (List.forall_mem_cons.mpr ⟨List.mem_cons_of_mem _ (List.mem_append_left _ (List.mem_append_left _ (List.mem_of_getElem? (l := wsX11_told_r1) (i := 22) rfl))), (List.forall_mem_cons.mpr ⟨List.mem_cons_of_mem _ (List.mem_append_left _ (List.mem_append_left _ (List.mem_of_getElem? (l := wsX11_told_r1) (i := 23) rfl))), (List.forall_mem_cons.mpr ⟨List.mem_cons_of_mem _ (List.mem_append_left _ (List.mem_append_right _ (List.mem_append_left _ (List.mem_of_getElem? (l := wsX11_told_r2) (i := 0) rfl)))), (List.forall_mem_cons.mpr ⟨List.mem_cons_of_mem _ (List.mem_append_left _ (List.mem_append_right _ (List.mem_append_left _ (List.mem_of_getElem? (l := wsX11_told_r2) (i := 1) rfl)))), (List.forall_mem_cons.mpr ⟨List.mem_cons_of_mem _ (List.mem_append_left _ (List.mem_append_right _ (List.mem_append_left _ (List.mem_of_getElem? (l := wsX11_told_r2) (i := 2) rfl)))), (List.forall_mem_cons.mpr ⟨List.mem_cons_of_mem _ (List.mem_append_left _ (List.mem_append_right _ (List.mem_append_left _ (List.mem_of_getElem? (l := wsX11_told_r2) (i := 3) rfl)))), (List.forall_mem_cons.mpr ⟨List.mem_cons_of_mem _ (List.mem_append_left _ (List.mem_append_right _ (List.mem_append_left _ (List.mem_of_getElem? (l := wsX11_told_r2) (i := 4) rfl)))), (List.forall_mem_cons.mpr ⟨List.mem_cons_of_mem _ (List.mem_append_left _ (List.mem_append_right _ (List.mem_append_left _ (List.mem_of_getElem? (l := wsX11_told_r2) (i := 5) rfl)))), (List.forall_mem_cons.mpr ⟨List.mem_cons_of_mem _ (List.mem_append_left _ (List.mem_append_right _ (List.mem_append_left _ (List.mem_of_getElem? (l := wsX11_told_r2) (i := 6) rfl)))), (fun _ h => nomatch h)⟩)⟩)⟩)⟩)⟩)⟩)⟩)⟩)⟩)⟩)⟩)⟩)⟩)⟩)⟩), (fun _ h => List.mem_cons_of_mem _ (List.mem_append_right _ (h)))⟩)⟩) (by decide +kernel)
set_option maxRecDepth 20000 in
theorem gX11_told_X11_timeOf : GoodIn wsX11_told (wsV RX11 98 RX11 yX11_timeOf wsX11_timeOf) := goodIn_app (goodIn_of _ (by decide +kernel)) ggX11_told_X11_timeOf
set_option maxRecDepth 20000 in
theorem ggX11_told_X11_splitOf : GoodIn wsX11_told wsX11_splitOf := goodIn_sub (List.forall_mem_cons.mpr ⟨List.mem_cons_of_mem _ (List.mem_append_left _ (List.mem_append_right _ (List.mem_append_left _ (List.mem_of_getElem? (l := wsX11_told_r2) (i := 10) rfl)))), (List.forall_mem_append.mpr ⟨(List.forall_mem_cons.mpr ⟨List.mem_cons_of_mem _ (List.mem_append_left _ (List.mem_append_left _ (List.mem_of_getElem? (l := wsX11_told_r1) (i := 11) rfl))), (List.forall_mem_cons.mpr ⟨List.mem_cons_of_mem _ (List.mem_append_left _ (List.mem_append_left _ (List.mem_of_getElem? (l := wsX11_told_r1) (i := 12) rfl))), (List.forall_mem_cons.mpr ⟨List.mem_cons_of_mem _ (List.mem_append_left _ (List.mem_append_left _ (List.mem_of_getElem? (l := wsX11_told_r1) (i := 13) rfl))), (List.forall_mem_cons.mpr ⟨List.mem_cons_of_mem _ (List.mem_append_left _ (List.mem_append_left _ (List.mem_of_getElem? (l := wsX11_told_r1) (i := 3) rfl))), (List.forall_mem_cons.mpr ⟨List.mem_cons_of_mem _ (List.mem_append_left _ (List.mem_append_left _ (List.mem_of_getElem? (l := wsX11_told_r1) (i := 14) rfl))), (List.forall_mem_cons.mpr ⟨List.mem_cons_of_mem _ (List.mem_append_left _ (List.mem_append_left _ (List.mem_of_getElem? (l := wsX11_told_r1) (i := 10) rfl))), (fun _ h => nomatch h)⟩)⟩)⟩)⟩)⟩)⟩), (fun _ h => List.mem_cons_of_mem _ (List.mem_append_right _ (h)))⟩)⟩) (by decide +kernel)
set_option maxRecDepth 20000 in
theorem gX11_told_X11_splitOf : GoodIn wsX11_told (wsV RX11 76 RX11 yX11_splitOf wsX11_splitOf) := goodIn_app (goodIn_of _ (by decide +kernel)) ggX11_told_X11_splitOf
set_option maxRecDepth 20000 in
theorem ggX11_told_X11_wayLength : GoodIn wsX11_told wsX11_wayLength := goodIn_sub (List.forall_mem_cons.mpr ⟨List.mem_cons_of_mem _ (List.mem_append_left _ (List.mem_append_right _ (List.mem_append_right _ (List.mem_of_getElem? (l := wsX11_told_r3) (i := 10) rfl)))), (List.forall_mem_append.mpr ⟨(List.forall_mem_cons.mpr ⟨List.mem_cons_of_mem _ (List.mem_append_left _ (List.mem_append_left _ (List.mem_of_getElem? (l := wsX11_told_r1) (i := 23) rfl))), (List.forall_mem_cons.mpr ⟨List.mem_cons_of_mem _ (List.mem_append_left _ (List.mem_append_right _ (List.mem_append_left _ (List.mem_of_getElem? (l := wsX11_told_r2) (i := 0) rfl)))), (List.forall_mem_cons.mpr ⟨List.mem_cons_of_mem _ (List.mem_append_left _ (List.mem_append_right _ (List.mem_append_left _ (List.mem_of_getElem? (l := wsX11_told_r2) (i := 1) rfl)))), (List.forall_mem_cons.mpr ⟨List.mem_cons_of_mem _ (List.mem_append_left _ (List.mem_append_left _ (List.mem_of_getElem? (l := wsX11_told_r1) (i := 3) rfl))), (List.forall_mem_cons.mpr ⟨List.mem_cons_of_mem _ (List.mem_append_left _ (List.mem_append_right _ (List.mem_append_left _ (List.mem_of_getElem? (l := wsX11_told_r2) (i := 2) rfl)))), (List.forall_mem_cons.mpr ⟨List.mem_cons_of_mem _ (List.mem_append_left _ (List.mem_append_left _ (List.mem_of_getElem? (l := wsX11_told_r1) (i := 10) rfl))), (List.forall_mem_cons.mpr ⟨List.mem_cons_of_mem _ (List.mem_append_left _ (List.mem_append_right _ (List.mem_append_left _ (List.mem_of_getElem? (l := wsX11_told_r2) (i := 3) rfl)))), (List.forall_mem_cons.mpr ⟨List.mem_cons_of_mem _ (List.mem_append_left _ (List.mem_append_right _ (List.mem_append_left _ (List.mem_of_getElem? (l := wsX11_told_r2) (i := 4) rfl)))), (List.forall_mem_cons.mpr ⟨List.mem_cons_of_mem _ (List.mem_append_left _ (List.mem_append_right _ (List.mem_append_left _ (List.mem_of_getElem? (l := wsX11_told_r2) (i := 5) rfl)))), (List.forall_mem_cons.mpr ⟨List.mem_cons_of_mem _ (List.mem_append_left _ (List.mem_append_right _ (List.mem_append_left _ (List.mem_of_getElem? (l := wsX11_told_r2) (i := 6) rfl)))), (fun _ h => nomatch h)⟩)⟩)⟩)⟩)⟩)⟩)⟩)⟩)⟩)⟩), (fun _ h => List.mem_cons_of_mem _ (List.mem_append_right _ (h)))⟩)⟩) (by decide +kernel)
set_option maxRecDepth 20000 in
theorem gX11_told_X11_wayLength : GoodIn wsX11_told (wsV RX11 102 RX11 yX11_wayLength wsX11_wayLength) := goodIn_app (goodIn_of _ (by decide +kernel)) ggX11_told_X11_wayLength
set_option maxRecDepth 20000 in
theorem ggX11_told_X11_made : GoodIn wsX11_told wsX11_made := goodIn_sub (List.forall_mem_cons.mpr ⟨List.mem_cons_of_mem _ (List.mem_append_left _ (List.mem_append_right _ (List.mem_append_right _ (List.mem_of_getElem? (l := wsX11_told_r3) (i := 13) rfl)))), (List.forall_mem_cons.mpr ⟨List.mem_cons_of_mem _ (List.mem_append_left _ (List.mem_append_right _ (List.mem_append_right _ (List.mem_of_getElem? (l := wsX11_told_r3) (i := 14) rfl)))), (fun _ h => nomatch h)⟩)⟩) (by decide +kernel)
set_option maxRecDepth 20000 in
theorem gX11_told_X11_made : GoodIn wsX11_told (va_wsS RX11 105 yX11_made wsX11_made) := goodIn_app (goodIn_of _ (by decide +kernel)) ggX11_told_X11_made
set_option maxHeartbeats 4000000 in
set_option maxRecDepth 100000 in
theorem mX11_told (l : Launch) (D : va_G) (cB cI cZ : ClassId) (a_t : Nat) (a_t_now : Nat) (a_t_kept : Nat) (a_t_text : Nat) (a_t_passing : Nat) (a_t_order : Nat) (a_t_times : Nat) (t_thrown : Int32) (t_isKept : Int32) (t_length : Int32) (t_at : Int32) (t_fault : Int32) (t_open : Int32) (t_asked : Int32) (t_byGun : Int32) (t_prizeMost : Int32) (t_listed : Int32) (t_now : Nat → Int32) (sz : Nat) (x1 : Int32) (x2 : Int32) (N : Nat) (r0 : Int32) (t_thrown' : Int32) (h : fX11_told N t_thrown t_now x1 x2 = some (r0, t_thrown')) : Met l yX11_told wsX11_told ({ frames := 6, cells := 0, slots := 0, locals := 133 } : Room) (va_Pc [.ref a_t, .int x1, .int x2] (zPre D (zT cB cI cZ) [(a_t, .inr (11, [.int t_thrown, .ref a_t_now, .ref a_t_kept, .int t_isKept, .ref a_t_text, .int t_length, .ref a_t_passing, .int t_at, .int t_fault, .int t_open, .int t_asked, .int t_byGun, .int t_prizeMost, .ref a_t_order, .ref a_t_times, .int t_listed])), (a_t_now, .inl (cI, 1562, .inl t_now))] sz)) (zQi r0 D (zT cB cI cZ) [(a_t, .inr (11, [.int t_thrown', .ref a_t_now, .ref a_t_kept, .int t_isKept, .ref a_t_text, .int t_length, .ref a_t_passing, .int t_at, .int t_fault, .int t_open, .int t_asked, .int t_byGun, .int t_prizeMost, .ref a_t_order, .ref a_t_times, .int t_listed])), (a_t_now, .inl (cI, 1562, .inl t_now))] (va_A [(a_t, .inr (11, [.int t_thrown, .ref a_t_now, .ref a_t_kept, .int t_isKept, .ref a_t_text, .int t_length, .ref a_t_passing, .int t_at, .int t_fault, .int t_open, .int t_asked, .int t_byGun, .int t_prizeMost, .ref a_t_order, .ref a_t_times, .int t_listed])), (a_t_now, .inl (cI, 1562, .inl t_now))] sz)) 0 0 (va_A [(a_t, .inr (11, [.int t_thrown, .ref a_t_now, .ref a_t_kept, .int t_isKept, .ref a_t_text, .int t_length, .ref a_t_passing, .int t_at, .int t_fault, .int t_open, .int t_asked, .int t_byGun, .int t_prizeMost, .ref a_t_order, .ref a_t_times, .int t_listed])), (a_t_now, .inl (cI, 1562, .inl t_now))] sz) := by
  refine Met.ofW (cc := cX11_told) (maxL := 5) (ret := (some .int)) (by decide) rfl ?_
  intro p e s m args below meth c s₁ B hml hv
  obtain ⟨rfl, hsz, hP, hK, hN, hZ, hD0⟩ := hv
  have hx := B.exec
  have hb := B.bytes
  have hr := B.returns
  have hts := atoms_spec (ws := wsX11_told) B.pre
  have hown : s.vm.findClass RX11 = some m.cls := findClass_of_methodNamed B.named
  have hlocks := B.notSynchronized
  subst hsz
  have hD := hD0.self (sz := s.heap.size)
  generalize hAe : va_A [(a_t, .inr (11, [.int t_thrown, .ref a_t_now, .ref a_t_kept, .int t_isKept, .ref a_t_text, .int t_length, .ref a_t_passing, .int t_at, .int t_fault, .int t_open, .int t_asked, .int t_byGun, .int t_prizeMost, .ref a_t_order, .ref a_t_times, .int t_listed])), (a_t_now, .inl (cI, 1562, .inl t_now))] s.heap.size = A at hD hZ ⊢
  have hA : ∀ q : Nat, s.heap.size ≤ q → A q := fun q h => by rw [← hAe]; exact Or.inr h
  have hS : va_S A s.heap s.heap [] := va_S.rf
  have hl := lv_entry ([.ref a_t, .int x1, .int x2]) (n := 5) (Nat.le_of_ble_eq_true rfl)
  rw [lg_entry_eq]
  generalize (lg_sl ([.ref a_t, .int x1, .int x2]) ++ List.replicate (5 - (lg_sl ([.ref a_t, .int x1, .int x2])).length) Slot.unset).toArray = ls at hl ⊢
  have hl : lv_has ls 5 [(0, .ref a_t), (1, .int x1), (2, .int x2)] := hl
  unfold fX11_told at h
  refine lv_aload_n hx hb dX11_told_0 rfl (lv_at hl 0 rfl) ?_
  refine lv_iload_n hx hb dX11_told_1 rfl (lv_at hl 1 rfl) ?_
  obtain ⟨⟨b1, t_thrown_r2⟩, e3, h⟩ := zz_b h
  dsimp only at h
  refine zVi (As := [.int x1]) (rest := []) (C := RX11) (wr := []) [0, 1] [] 0 ⟨hx, hb, hml, hown, hts⟩ (mX11_isRunner l D cB cI cZ a_t a_t_now a_t_kept a_t_text a_t_passing a_t_order a_t_times t_thrown t_isKept t_length t_at t_fault t_open t_asked t_byGun t_prizeMost t_listed t_now s.heap.size x1 b1 t_thrown_r2 e3) (cwV 1 hts gX11_told_X11_isRunner rfl rfl rfl (by decide +kernel) ⟨Nat.le_of_ble_eq_true rfl, Nat.le_of_ble_eq_true rfl⟩) hK hN hZ hP hD hS hA rfl rfl rfl rfl rfl rfl rfl rfl hl.1 rfl (lv_room (Nat.le_of_ble_eq_true rfl)) dX11_told_2 ⟨Nat.le_of_ble_eq_true rfl, Nat.le_of_ble_eq_true rfl⟩ (fun H locs hP hD hS => ?_)
  have hP : va_P D vwCl [(a_t, .inr (11, [.int t_thrown_r2, .ref a_t_now, .ref a_t_kept, .int t_isKept, .ref a_t_text, .int t_length, .ref a_t_passing, .int t_at, .int t_fault, .int t_open, .int t_asked, .int t_byGun, .int t_prizeMost, .ref a_t_order, .ref a_t_times, .int t_listed])), (a_t_now, .inl (cI, 1562, .inl t_now))] H := hP
  have hD : va_D A [(a_t, .inr (11, [.int t_thrown_r2, .ref a_t_now, .ref a_t_kept, .int t_isKept, .ref a_t_text, .int t_length, .ref a_t_passing, .int t_at, .int t_fault, .int t_open, .int t_asked, .int t_byGun, .int t_prizeMost, .ref a_t_order, .ref a_t_times, .int t_listed])), (a_t_now, .inl (cI, 1562, .inl t_now))] := hD
  refine lv_if_ne (tgt := 10) hx hb dX11_told_5 (by decide) (fun c4 => ?_) (fun c4 => ?_)
  · have h := zz_f h c4
    refine lv_iload_n hx hb dX11_told_10 rfl (lv_at hl 2 rfl) ?_
    by_cases c5 : x2 = (nI 0)
    · have h := zz_t h c5
      refine lv_tableIn (off := 69) (tgt := 80) hx hb dX11_told_11 (by rw [c5]; decide) (by rw [c5]; decide) (by rw [c5]; rfl) (by decide) ?_
      refine lv_aload_n hx hb dX11_told_80 rfl (lv_at hl 0 rfl) ?_
      refine lv_iload_n hx hb dX11_told_81 rfl (lv_at hl 1 rfl) ?_
      refine lv_iload_n hx hb dX11_told_82 rfl (lv_at hl 2 rfl) ?_
      obtain ⟨r6, e7, h⟩ := zz_b h
      refine zVi (As := [.int x1, .int x2]) (rest := []) (C := RX11) (wr := []) [0, 1] [] 0 ⟨hx, hb, hml, hown, hts⟩ (mX11_of l D cB cI cZ a_t a_t_now a_t_kept a_t_text a_t_passing a_t_order a_t_times t_thrown_r2 t_isKept t_length t_at t_fault t_open t_asked t_byGun t_prizeMost t_listed t_now H.size x1 x2 r6 e7) (cwV 2 hts gX11_told_X11_of rfl rfl rfl (by decide +kernel) ⟨Nat.le_of_ble_eq_true rfl, Nat.le_of_ble_eq_true rfl⟩) hK hN hZ hP hD hS hA rfl rfl rfl rfl rfl rfl rfl rfl hl.1 rfl (lv_room (Nat.le_of_ble_eq_true rfl)) dX11_told_83 ⟨Nat.le_of_ble_eq_true rfl, Nat.le_of_ble_eq_true rfl⟩ (fun H locs hP hD hS => ?_)
      have hP : va_P D vwCl [(a_t, .inr (11, [.int t_thrown_r2, .ref a_t_now, .ref a_t_kept, .int t_isKept, .ref a_t_text, .int t_length, .ref a_t_passing, .int t_at, .int t_fault, .int t_open, .int t_asked, .int t_byGun, .int t_prizeMost, .ref a_t_order, .ref a_t_times, .int t_listed])), (a_t_now, .inl (cI, 1562, .inl t_now))] H := hP
      have hD : va_D A [(a_t, .inr (11, [.int t_thrown_r2, .ref a_t_now, .ref a_t_kept, .int t_isKept, .ref a_t_text, .int t_length, .ref a_t_passing, .int t_at, .int t_fault, .int t_open, .int t_asked, .int t_byGun, .int t_prizeMost, .ref a_t_order, .ref a_t_times, .int t_listed])), (a_t_now, .inl (cI, 1562, .inl t_now))] := hD
      obtain ⟨j0_, g_⟩ := Prod.mk.inj (Option.some.inj h)
      have j1_ := g_
      subst j0_
      subst j1_
      exact W.iret (v := r6) hx hb hr (fun t ht hW => ⟨⟨_, (), rfl, rfl, zPost.of hP hD hK ht hW [0, 1] rfl rfl rfl⟩, hS.F ht⟩) hS.2.2 dX11_told_86
    · have h := zz_f h c5
      by_cases c8 : x2 = (nI 1)
      · have h := zz_t h c8
        refine lv_tableIn (off := 69) (tgt := 80) hx hb dX11_told_11 (by rw [c8]; decide) (by rw [c8]; decide) (by rw [c8]; rfl) (by decide) ?_
        refine lv_aload_n hx hb dX11_told_80 rfl (lv_at hl 0 rfl) ?_
        refine lv_iload_n hx hb dX11_told_81 rfl (lv_at hl 1 rfl) ?_
        refine lv_iload_n hx hb dX11_told_82 rfl (lv_at hl 2 rfl) ?_
        obtain ⟨r9, e10, h⟩ := zz_b h
        refine zVi (As := [.int x1, .int x2]) (rest := []) (C := RX11) (wr := []) [0, 1] [] 0 ⟨hx, hb, hml, hown, hts⟩ (mX11_of l D cB cI cZ a_t a_t_now a_t_kept a_t_text a_t_passing a_t_order a_t_times t_thrown_r2 t_isKept t_length t_at t_fault t_open t_asked t_byGun t_prizeMost t_listed t_now H.size x1 x2 r9 e10) (cwV 2 hts gX11_told_X11_of rfl rfl rfl (by decide +kernel) ⟨Nat.le_of_ble_eq_true rfl, Nat.le_of_ble_eq_true rfl⟩) hK hN hZ hP hD hS hA rfl rfl rfl rfl rfl rfl rfl rfl hl.1 rfl (lv_room (Nat.le_of_ble_eq_true rfl)) dX11_told_83 ⟨Nat.le_of_ble_eq_true rfl, Nat.le_of_ble_eq_true rfl⟩ (fun H locs hP hD hS => ?_)
        have hP : va_P D vwCl [(a_t, .inr (11, [.int t_thrown_r2, .ref a_t_now, .ref a_t_kept, .int t_isKept, .ref a_t_text, .int t_length, .ref a_t_passing, .int t_at, .int t_fault, .int t_open, .int t_asked, .int t_byGun, .int t_prizeMost, .ref a_t_order, .ref a_t_times, .int t_listed])), (a_t_now, .inl (cI, 1562, .inl t_now))] H := hP
        have hD : va_D A [(a_t, .inr (11, [.int t_thrown_r2, .ref a_t_now, .ref a_t_kept, .int t_isKept, .ref a_t_text, .int t_length, .ref a_t_passing, .int t_at, .int t_fault, .int t_open, .int t_asked, .int t_byGun, .int t_prizeMost, .ref a_t_order, .ref a_t_times, .int t_listed])), (a_t_now, .inl (cI, 1562, .inl t_now))] := hD
        obtain ⟨j0_, g_⟩ := Prod.mk.inj (Option.some.inj h)
        have j1_ := g_
        subst j0_
        subst j1_
        exact W.iret (v := r9) hx hb hr (fun t ht hW => ⟨⟨_, (), rfl, rfl, zPost.of hP hD hK ht hW [0, 1] rfl rfl rfl⟩, hS.F ht⟩) hS.2.2 dX11_told_86
      · have h := zz_f h c8
        by_cases c11 : x2 = (nI 2)
        · have h := zz_t h c11
          refine lv_tableIn (off := 69) (tgt := 80) hx hb dX11_told_11 (by rw [c11]; decide) (by rw [c11]; decide) (by rw [c11]; rfl) (by decide) ?_
          refine lv_aload_n hx hb dX11_told_80 rfl (lv_at hl 0 rfl) ?_
          refine lv_iload_n hx hb dX11_told_81 rfl (lv_at hl 1 rfl) ?_
          refine lv_iload_n hx hb dX11_told_82 rfl (lv_at hl 2 rfl) ?_
          obtain ⟨r12, e13, h⟩ := zz_b h
          refine zVi (As := [.int x1, .int x2]) (rest := []) (C := RX11) (wr := []) [0, 1] [] 0 ⟨hx, hb, hml, hown, hts⟩ (mX11_of l D cB cI cZ a_t a_t_now a_t_kept a_t_text a_t_passing a_t_order a_t_times t_thrown_r2 t_isKept t_length t_at t_fault t_open t_asked t_byGun t_prizeMost t_listed t_now H.size x1 x2 r12 e13) (cwV 2 hts gX11_told_X11_of rfl rfl rfl (by decide +kernel) ⟨Nat.le_of_ble_eq_true rfl, Nat.le_of_ble_eq_true rfl⟩) hK hN hZ hP hD hS hA rfl rfl rfl rfl rfl rfl rfl rfl hl.1 rfl (lv_room (Nat.le_of_ble_eq_true rfl)) dX11_told_83 ⟨Nat.le_of_ble_eq_true rfl, Nat.le_of_ble_eq_true rfl⟩ (fun H locs hP hD hS => ?_)
          have hP : va_P D vwCl [(a_t, .inr (11, [.int t_thrown_r2, .ref a_t_now, .ref a_t_kept, .int t_isKept, .ref a_t_text, .int t_length, .ref a_t_passing, .int t_at, .int t_fault, .int t_open, .int t_asked, .int t_byGun, .int t_prizeMost, .ref a_t_order, .ref a_t_times, .int t_listed])), (a_t_now, .inl (cI, 1562, .inl t_now))] H := hP
          have hD : va_D A [(a_t, .inr (11, [.int t_thrown_r2, .ref a_t_now, .ref a_t_kept, .int t_isKept, .ref a_t_text, .int t_length, .ref a_t_passing, .int t_at, .int t_fault, .int t_open, .int t_asked, .int t_byGun, .int t_prizeMost, .ref a_t_order, .ref a_t_times, .int t_listed])), (a_t_now, .inl (cI, 1562, .inl t_now))] := hD
          obtain ⟨j0_, g_⟩ := Prod.mk.inj (Option.some.inj h)
          have j1_ := g_
          subst j0_
          subst j1_
          exact W.iret (v := r12) hx hb hr (fun t ht hW => ⟨⟨_, (), rfl, rfl, zPost.of hP hD hK ht hW [0, 1] rfl rfl rfl⟩, hS.F ht⟩) hS.2.2 dX11_told_86
        · have h := zz_f h c11
          by_cases c14 : x2 = (nI 3)
          · have h := zz_t h c14
            refine lv_tableIn (off := 69) (tgt := 80) hx hb dX11_told_11 (by rw [c14]; decide) (by rw [c14]; decide) (by rw [c14]; rfl) (by decide) ?_
            refine lv_aload_n hx hb dX11_told_80 rfl (lv_at hl 0 rfl) ?_
            refine lv_iload_n hx hb dX11_told_81 rfl (lv_at hl 1 rfl) ?_
            refine lv_iload_n hx hb dX11_told_82 rfl (lv_at hl 2 rfl) ?_
            obtain ⟨r15, e16, h⟩ := zz_b h
            refine zVi (As := [.int x1, .int x2]) (rest := []) (C := RX11) (wr := []) [0, 1] [] 0 ⟨hx, hb, hml, hown, hts⟩ (mX11_of l D cB cI cZ a_t a_t_now a_t_kept a_t_text a_t_passing a_t_order a_t_times t_thrown_r2 t_isKept t_length t_at t_fault t_open t_asked t_byGun t_prizeMost t_listed t_now H.size x1 x2 r15 e16) (cwV 2 hts gX11_told_X11_of rfl rfl rfl (by decide +kernel) ⟨Nat.le_of_ble_eq_true rfl, Nat.le_of_ble_eq_true rfl⟩) hK hN hZ hP hD hS hA rfl rfl rfl rfl rfl rfl rfl rfl hl.1 rfl (lv_room (Nat.le_of_ble_eq_true rfl)) dX11_told_83 ⟨Nat.le_of_ble_eq_true rfl, Nat.le_of_ble_eq_true rfl⟩ (fun H locs hP hD hS => ?_)
            have hP : va_P D vwCl [(a_t, .inr (11, [.int t_thrown_r2, .ref a_t_now, .ref a_t_kept, .int t_isKept, .ref a_t_text, .int t_length, .ref a_t_passing, .int t_at, .int t_fault, .int t_open, .int t_asked, .int t_byGun, .int t_prizeMost, .ref a_t_order, .ref a_t_times, .int t_listed])), (a_t_now, .inl (cI, 1562, .inl t_now))] H := hP
            have hD : va_D A [(a_t, .inr (11, [.int t_thrown_r2, .ref a_t_now, .ref a_t_kept, .int t_isKept, .ref a_t_text, .int t_length, .ref a_t_passing, .int t_at, .int t_fault, .int t_open, .int t_asked, .int t_byGun, .int t_prizeMost, .ref a_t_order, .ref a_t_times, .int t_listed])), (a_t_now, .inl (cI, 1562, .inl t_now))] := hD
            obtain ⟨j0_, g_⟩ := Prod.mk.inj (Option.some.inj h)
            have j1_ := g_
            subst j0_
            subst j1_
            exact W.iret (v := r15) hx hb hr (fun t ht hW => ⟨⟨_, (), rfl, rfl, zPost.of hP hD hK ht hW [0, 1] rfl rfl rfl⟩, hS.F ht⟩) hS.2.2 dX11_told_86
          · have h := zz_f h c14
            by_cases c17 : x2 = (nI 4)
            · have h := zz_t h c17
              refine lv_tableIn (off := 69) (tgt := 80) hx hb dX11_told_11 (by rw [c17]; decide) (by rw [c17]; decide) (by rw [c17]; rfl) (by decide) ?_
              refine lv_aload_n hx hb dX11_told_80 rfl (lv_at hl 0 rfl) ?_
              refine lv_iload_n hx hb dX11_told_81 rfl (lv_at hl 1 rfl) ?_
              refine lv_iload_n hx hb dX11_told_82 rfl (lv_at hl 2 rfl) ?_
              obtain ⟨r18, e19, h⟩ := zz_b h
              refine zVi (As := [.int x1, .int x2]) (rest := []) (C := RX11) (wr := []) [0, 1] [] 0 ⟨hx, hb, hml, hown, hts⟩ (mX11_of l D cB cI cZ a_t a_t_now a_t_kept a_t_text a_t_passing a_t_order a_t_times t_thrown_r2 t_isKept t_length t_at t_fault t_open t_asked t_byGun t_prizeMost t_listed t_now H.size x1 x2 r18 e19) (cwV 2 hts gX11_told_X11_of rfl rfl rfl (by decide +kernel) ⟨Nat.le_of_ble_eq_true rfl, Nat.le_of_ble_eq_true rfl⟩) hK hN hZ hP hD hS hA rfl rfl rfl rfl rfl rfl rfl rfl hl.1 rfl (lv_room (Nat.le_of_ble_eq_true rfl)) dX11_told_83 ⟨Nat.le_of_ble_eq_true rfl, Nat.le_of_ble_eq_true rfl⟩ (fun H locs hP hD hS => ?_)
              have hP : va_P D vwCl [(a_t, .inr (11, [.int t_thrown_r2, .ref a_t_now, .ref a_t_kept, .int t_isKept, .ref a_t_text, .int t_length, .ref a_t_passing, .int t_at, .int t_fault, .int t_open, .int t_asked, .int t_byGun, .int t_prizeMost, .ref a_t_order, .ref a_t_times, .int t_listed])), (a_t_now, .inl (cI, 1562, .inl t_now))] H := hP
              have hD : va_D A [(a_t, .inr (11, [.int t_thrown_r2, .ref a_t_now, .ref a_t_kept, .int t_isKept, .ref a_t_text, .int t_length, .ref a_t_passing, .int t_at, .int t_fault, .int t_open, .int t_asked, .int t_byGun, .int t_prizeMost, .ref a_t_order, .ref a_t_times, .int t_listed])), (a_t_now, .inl (cI, 1562, .inl t_now))] := hD
              obtain ⟨j0_, g_⟩ := Prod.mk.inj (Option.some.inj h)
              have j1_ := g_
              subst j0_
              subst j1_
              exact W.iret (v := r18) hx hb hr (fun t ht hW => ⟨⟨_, (), rfl, rfl, zPost.of hP hD hK ht hW [0, 1] rfl rfl rfl⟩, hS.F ht⟩) hS.2.2 dX11_told_86
            · have h := zz_f h c17
              by_cases c20 : x2 = (nI 5)
              · have h := zz_t h c20
                refine lv_tableIn (off := 69) (tgt := 80) hx hb dX11_told_11 (by rw [c20]; decide) (by rw [c20]; decide) (by rw [c20]; rfl) (by decide) ?_
                refine lv_aload_n hx hb dX11_told_80 rfl (lv_at hl 0 rfl) ?_
                refine lv_iload_n hx hb dX11_told_81 rfl (lv_at hl 1 rfl) ?_
                refine lv_iload_n hx hb dX11_told_82 rfl (lv_at hl 2 rfl) ?_
                obtain ⟨r21, e22, h⟩ := zz_b h
                refine zVi (As := [.int x1, .int x2]) (rest := []) (C := RX11) (wr := []) [0, 1] [] 0 ⟨hx, hb, hml, hown, hts⟩ (mX11_of l D cB cI cZ a_t a_t_now a_t_kept a_t_text a_t_passing a_t_order a_t_times t_thrown_r2 t_isKept t_length t_at t_fault t_open t_asked t_byGun t_prizeMost t_listed t_now H.size x1 x2 r21 e22) (cwV 2 hts gX11_told_X11_of rfl rfl rfl (by decide +kernel) ⟨Nat.le_of_ble_eq_true rfl, Nat.le_of_ble_eq_true rfl⟩) hK hN hZ hP hD hS hA rfl rfl rfl rfl rfl rfl rfl rfl hl.1 rfl (lv_room (Nat.le_of_ble_eq_true rfl)) dX11_told_83 ⟨Nat.le_of_ble_eq_true rfl, Nat.le_of_ble_eq_true rfl⟩ (fun H locs hP hD hS => ?_)
                have hP : va_P D vwCl [(a_t, .inr (11, [.int t_thrown_r2, .ref a_t_now, .ref a_t_kept, .int t_isKept, .ref a_t_text, .int t_length, .ref a_t_passing, .int t_at, .int t_fault, .int t_open, .int t_asked, .int t_byGun, .int t_prizeMost, .ref a_t_order, .ref a_t_times, .int t_listed])), (a_t_now, .inl (cI, 1562, .inl t_now))] H := hP
                have hD : va_D A [(a_t, .inr (11, [.int t_thrown_r2, .ref a_t_now, .ref a_t_kept, .int t_isKept, .ref a_t_text, .int t_length, .ref a_t_passing, .int t_at, .int t_fault, .int t_open, .int t_asked, .int t_byGun, .int t_prizeMost, .ref a_t_order, .ref a_t_times, .int t_listed])), (a_t_now, .inl (cI, 1562, .inl t_now))] := hD
                obtain ⟨j0_, g_⟩ := Prod.mk.inj (Option.some.inj h)
                have j1_ := g_
                subst j0_
                subst j1_
                exact W.iret (v := r21) hx hb hr (fun t ht hW => ⟨⟨_, (), rfl, rfl, zPost.of hP hD hK ht hW [0, 1] rfl rfl rfl⟩, hS.F ht⟩) hS.2.2 dX11_told_86
              · have h := zz_f h c20
                by_cases c23 : x2 = (nI 6)
                · have h := zz_t h c23
                  refine lv_tableIn (off := 76) (tgt := 87) hx hb dX11_told_11 (by rw [c23]; decide) (by rw [c23]; decide) (by rw [c23]; rfl) (by decide) ?_
                  refine lv_aload_n hx hb dX11_told_87 rfl (lv_at hl 0 rfl) ?_
                  refine lv_iload_n hx hb dX11_told_88 rfl (lv_at hl 1 rfl) ?_
                  obtain ⟨r24, e25, h⟩ := zz_b h
                  refine zVi (As := [.int x1]) (rest := []) (C := RX11) (wr := []) [0, 1] [] 0 ⟨hx, hb, hml, hown, hts⟩ (mX11_stateOf l D cB cI cZ a_t a_t_now a_t_kept a_t_text a_t_passing a_t_order a_t_times t_thrown_r2 t_isKept t_length t_at t_fault t_open t_asked t_byGun t_prizeMost t_listed t_now H.size x1 N r24 e25) (cwV 1 hts gX11_told_X11_stateOf rfl rfl rfl (by decide +kernel) ⟨Nat.le_of_ble_eq_true rfl, Nat.le_of_ble_eq_true rfl⟩) hK hN hZ hP hD hS hA rfl rfl rfl rfl rfl rfl rfl rfl hl.1 rfl (lv_room (Nat.le_of_ble_eq_true rfl)) dX11_told_89 ⟨Nat.le_of_ble_eq_true rfl, Nat.le_of_ble_eq_true rfl⟩ (fun H locs hP hD hS => ?_)
                  have hP : va_P D vwCl [(a_t, .inr (11, [.int t_thrown_r2, .ref a_t_now, .ref a_t_kept, .int t_isKept, .ref a_t_text, .int t_length, .ref a_t_passing, .int t_at, .int t_fault, .int t_open, .int t_asked, .int t_byGun, .int t_prizeMost, .ref a_t_order, .ref a_t_times, .int t_listed])), (a_t_now, .inl (cI, 1562, .inl t_now))] H := hP
                  have hD : va_D A [(a_t, .inr (11, [.int t_thrown_r2, .ref a_t_now, .ref a_t_kept, .int t_isKept, .ref a_t_text, .int t_length, .ref a_t_passing, .int t_at, .int t_fault, .int t_open, .int t_asked, .int t_byGun, .int t_prizeMost, .ref a_t_order, .ref a_t_times, .int t_listed])), (a_t_now, .inl (cI, 1562, .inl t_now))] := hD
                  obtain ⟨j0_, g_⟩ := Prod.mk.inj (Option.some.inj h)
                  have j1_ := g_
                  subst j0_
                  subst j1_
                  exact W.iret (v := r24) hx hb hr (fun t ht hW => ⟨⟨_, (), rfl, rfl, zPost.of hP hD hK ht hW [0, 1] rfl rfl rfl⟩, hS.F ht⟩) hS.2.2 dX11_told_92
                · have h := zz_f h c23
                  by_cases c26 : x2 = (nI 7)
                  · have h := zz_t h c26
                    refine lv_tableIn (off := 82) (tgt := 93) hx hb dX11_told_11 (by rw [c26]; decide) (by rw [c26]; decide) (by rw [c26]; rfl) (by decide) ?_
                    refine lv_aload_n hx hb dX11_told_93 rfl (lv_at hl 0 rfl) ?_
                    refine lv_iload_n hx hb dX11_told_94 rfl (lv_at hl 1 rfl) ?_
                    obtain ⟨r27, e28, h⟩ := zz_b h
                    refine zVi (As := [.int x1]) (rest := []) (C := RX11) (wr := []) [0, 1] [] 0 ⟨hx, hb, hml, hown, hts⟩ (mX11_startOf l D cB cI cZ a_t a_t_now a_t_kept a_t_text a_t_passing a_t_order a_t_times t_thrown_r2 t_isKept t_length t_at t_fault t_open t_asked t_byGun t_prizeMost t_listed t_now H.size x1 r27 e28) (cwV 1 hts gX11_told_X11_startOf rfl rfl rfl (by decide +kernel) ⟨Nat.le_of_ble_eq_true rfl, Nat.le_of_ble_eq_true rfl⟩) hK hN hZ hP hD hS hA rfl rfl rfl rfl rfl rfl rfl rfl hl.1 rfl (lv_room (Nat.le_of_ble_eq_true rfl)) dX11_told_95 ⟨Nat.le_of_ble_eq_true rfl, Nat.le_of_ble_eq_true rfl⟩ (fun H locs hP hD hS => ?_)
                    have hP : va_P D vwCl [(a_t, .inr (11, [.int t_thrown_r2, .ref a_t_now, .ref a_t_kept, .int t_isKept, .ref a_t_text, .int t_length, .ref a_t_passing, .int t_at, .int t_fault, .int t_open, .int t_asked, .int t_byGun, .int t_prizeMost, .ref a_t_order, .ref a_t_times, .int t_listed])), (a_t_now, .inl (cI, 1562, .inl t_now))] H := hP
                    have hD : va_D A [(a_t, .inr (11, [.int t_thrown_r2, .ref a_t_now, .ref a_t_kept, .int t_isKept, .ref a_t_text, .int t_length, .ref a_t_passing, .int t_at, .int t_fault, .int t_open, .int t_asked, .int t_byGun, .int t_prizeMost, .ref a_t_order, .ref a_t_times, .int t_listed])), (a_t_now, .inl (cI, 1562, .inl t_now))] := hD
                    obtain ⟨j0_, g_⟩ := Prod.mk.inj (Option.some.inj h)
                    have j1_ := g_
                    subst j0_
                    subst j1_
                    exact W.iret (v := r27) hx hb hr (fun t ht hW => ⟨⟨_, (), rfl, rfl, zPost.of hP hD hK ht hW [0, 1] rfl rfl rfl⟩, hS.F ht⟩) hS.2.2 dX11_told_98
                  · have h := zz_f h c26
                    by_cases c29 : x2 = (nI 8)
                    · have h := zz_t h c29
                      refine lv_tableIn (off := 88) (tgt := 99) hx hb dX11_told_11 (by rw [c29]; decide) (by rw [c29]; decide) (by rw [c29]; rfl) (by decide) ?_
                      refine lv_iconst (v := (-1 : Int32)) hx hb dX11_told_99 rfl ?_
                      refine lv_istore_n (lv' := [(3, .int (-1 : Int32)), (0, .ref a_t), (1, .int x1), (2, .int x2)]) hx hb dX11_told_100 rfl hl (by decide) rfl (fun ls hl => ?_)
                      refine lv_iconst (v := (nI 0)) hx hb dX11_told_101 rfl ?_
                      refine lv_istore (lv' := [(4, .int (nI 0)), (3, .int (-1 : Int32)), (0, .ref a_t), (1, .int x1), (2, .int x2)]) hx hb dX11_told_102 hl (by decide) rfl (fun ls hl => ?_)
                      have X104_133 : ∀ (v3_104 : Int32) (v4_104 : Int32) (H : Heap) (locs : List Loc) (ls : Array Slot), some (v3_104, t_thrown_r2) = some (r0, t_thrown') → va_P D vwCl [(a_t, .inr (11, [.int t_thrown_r2, .ref a_t_now, .ref a_t_kept, .int t_isKept, .ref a_t_text, .int t_length, .ref a_t_passing, .int t_at, .int t_fault, .int t_open, .int t_asked, .int t_byGun, .int t_prizeMost, .ref a_t_order, .ref a_t_times, .int t_listed])), (a_t_now, .inl (cI, 1562, .inl t_now))] H → va_D A [(a_t, .inr (11, [.int t_thrown_r2, .ref a_t_now, .ref a_t_kept, .int t_isKept, .ref a_t_text, .int t_length, .ref a_t_passing, .int t_at, .int t_fault, .int t_open, .int t_asked, .int t_byGun, .int t_prizeMost, .ref a_t_order, .ref a_t_times, .int t_listed])), (a_t_now, .inl (cI, 1562, .inl t_now))] → va_S A s.heap H locs → lv_has ls 5 [(4, .int v4_104), (3, .int v3_104), (0, .ref a_t), (1, .int x1), (2, .int x2)] → W p l e (headSpec wsX11_told ({ frames := 6, cells := 0, slots := 0, locals := 133 } : Room)).room s m #[Value.ref a_t, Value.int x1, Value.int x2] below meth c H locs 0 0 (MQ below (zQi r0 D (zT cB cI cZ) [(a_t, .inr (11, [.int t_thrown', .ref a_t_now, .ref a_t_kept, .int t_isKept, .ref a_t_text, .int t_length, .ref a_t_passing, .int t_at, .int t_fault, .int t_open, .int t_asked, .int t_byGun, .int t_prizeMost, .ref a_t_order, .ref a_t_times, .int t_listed])), (a_t_now, .inl (cI, 1562, .inl t_now))] A) #[Value.ref a_t, Value.int x1, Value.int x2] s 0 0 A) (F0 m 133 ls []) := by
                        intro v3_104 v4_104 H locs ls h hP hD hS hl
                        refine lv_iload_n hx hb dX11_told_133 rfl (lv_at hl 1 rfl) ?_
                        obtain ⟨j0_, g_⟩ := Prod.mk.inj (Option.some.inj h)
                        have j1_ := g_
                        subst j0_
                        subst j1_
                        exact W.iret (v := v3_104) hx hb hr (fun t ht hW => ⟨⟨_, (), rfl, rfl, zPost.of hP hD hK ht hW [0, 1] rfl rfl rfl⟩, hS.F ht⟩) hS.2.2 dX11_told_134
                      have L104 : ∀ (n : Nat) (v3_104 : Int32) (v4_104 : Int32) (H : Heap) (locs : List Loc) (ls : Array Slot), fX11_told_L104 t_now x1 (fun (v3_104 : Int32) (v4_104 : Int32) => some (v3_104, t_thrown_r2)) n v3_104 v4_104 = some (r0, t_thrown') → va_P D vwCl [(a_t, .inr (11, [.int t_thrown_r2, .ref a_t_now, .ref a_t_kept, .int t_isKept, .ref a_t_text, .int t_length, .ref a_t_passing, .int t_at, .int t_fault, .int t_open, .int t_asked, .int t_byGun, .int t_prizeMost, .ref a_t_order, .ref a_t_times, .int t_listed])), (a_t_now, .inl (cI, 1562, .inl t_now))] H → va_D A [(a_t, .inr (11, [.int t_thrown_r2, .ref a_t_now, .ref a_t_kept, .int t_isKept, .ref a_t_text, .int t_length, .ref a_t_passing, .int t_at, .int t_fault, .int t_open, .int t_asked, .int t_byGun, .int t_prizeMost, .ref a_t_order, .ref a_t_times, .int t_listed])), (a_t_now, .inl (cI, 1562, .inl t_now))] → va_S A s.heap H locs → lv_has ls 5 [(4, .int v4_104), (3, .int v3_104), (0, .ref a_t), (1, .int x1), (2, .int x2)] → W p l e (headSpec wsX11_told ({ frames := 6, cells := 0, slots := 0, locals := 133 } : Room)).room s m #[Value.ref a_t, Value.int x1, Value.int x2] below meth c H locs 0 0 (MQ below (zQi r0 D (zT cB cI cZ) [(a_t, .inr (11, [.int t_thrown', .ref a_t_now, .ref a_t_kept, .int t_isKept, .ref a_t_text, .int t_length, .ref a_t_passing, .int t_at, .int t_fault, .int t_open, .int t_asked, .int t_byGun, .int t_prizeMost, .ref a_t_order, .ref a_t_times, .int t_listed])), (a_t_now, .inl (cI, 1562, .inl t_now))] A) #[Value.ref a_t, Value.int x1, Value.int x2] s 0 0 A) (F0 m 104 ls []) := by
                        intro n
                        induction n with
                        | zero => intro _ _ H locs ls h hP hD hS hl; cases h
                        | succ n104 ih104 =>
                          intro v3_104 v4_104 H locs ls h hP hD hS hl
                          rw [fX11_told_L104.eq_2] at h
                          refine lv_iload hx hb dX11_told_104 (lv_at hl 0 rfl) ?_
                          refine lv_aload_n hx hb dX11_told_106 rfl (lv_at hl 2 rfl) ?_
                          obtain ⟨r30, e31, h⟩ := zz_b h
                          refine zVi (As := []) (rest := [.int v4_104]) (C := RX11) (wr := []) [0, 1] [] 0 ⟨hx, hb, hml, hown, hts⟩ (mX11_mats l D cB cI cZ a_t a_t_now a_t_kept a_t_text a_t_passing a_t_order a_t_times t_thrown_r2 t_isKept t_length t_at t_fault t_open t_asked t_byGun t_prizeMost t_listed t_now H.size r30 e31) (cwV 0 hts gX11_told_X11_mats rfl rfl rfl (by decide +kernel) ⟨Nat.le_of_ble_eq_true rfl, Nat.le_of_ble_eq_true rfl⟩) hK hN hZ hP hD hS hA rfl rfl rfl rfl rfl rfl rfl rfl hl.1 rfl (lv_room (Nat.le_of_ble_eq_true rfl)) dX11_told_107 ⟨Nat.le_of_ble_eq_true rfl, Nat.le_of_ble_eq_true rfl⟩ (fun H locs hP hD hS => ?_)
                          have hP : va_P D vwCl [(a_t, .inr (11, [.int t_thrown_r2, .ref a_t_now, .ref a_t_kept, .int t_isKept, .ref a_t_text, .int t_length, .ref a_t_passing, .int t_at, .int t_fault, .int t_open, .int t_asked, .int t_byGun, .int t_prizeMost, .ref a_t_order, .ref a_t_times, .int t_listed])), (a_t_now, .inl (cI, 1562, .inl t_now))] H := hP
                          have hD : va_D A [(a_t, .inr (11, [.int t_thrown_r2, .ref a_t_now, .ref a_t_kept, .int t_isKept, .ref a_t_text, .int t_length, .ref a_t_passing, .int t_at, .int t_fault, .int t_open, .int t_asked, .int t_byGun, .int t_prizeMost, .ref a_t_order, .ref a_t_times, .int t_listed])), (a_t_now, .inl (cI, 1562, .inl t_now))] := hD
                          refine lv_icmp_ge (tgt := 133) hx hb dX11_told_110 (by decide) (fun c32 => ?_) (fun c32 => ?_)
                          · have h := zz_t h c32
                            exact X104_133 v3_104 v4_104 _ _ _ h (hP.sub [0, 1] rfl) (hD.sub [0, 1] rfl rfl) hS (lv_sub hl [0, 1, 2, 3, 4] rfl)
                          · have h := zz_f h c32
                            refine lv_aload_n hx hb dX11_told_113 rfl (lv_at hl 2 rfl) ?_
                            refine lv_iload_n hx hb dX11_told_114 rfl (lv_at hl 3 rfl) ?_
                            refine lv_iload hx hb dX11_told_115 (lv_at hl 0 rfl) ?_
                            obtain ⟨r33, e34, h⟩ := zz_b h
                            refine zVi (As := [.int x1, .int v4_104]) (rest := []) (C := RX11) (wr := []) [0, 1] [] 0 ⟨hx, hb, hml, hown, hts⟩ (mX11_seen l D cB cI cZ a_t a_t_now a_t_kept a_t_text a_t_passing a_t_order a_t_times t_thrown_r2 t_isKept t_length t_at t_fault t_open t_asked t_byGun t_prizeMost t_listed t_now H.size x1 v4_104 r33 e34) (cwV 2 hts gX11_told_X11_seen rfl rfl rfl (by decide +kernel) ⟨Nat.le_of_ble_eq_true rfl, Nat.le_of_ble_eq_true rfl⟩) hK hN hZ hP hD hS hA rfl rfl rfl rfl rfl rfl rfl rfl hl.1 rfl (lv_room (Nat.le_of_ble_eq_true rfl)) dX11_told_117 ⟨Nat.le_of_ble_eq_true rfl, Nat.le_of_ble_eq_true rfl⟩ (fun H locs hP hD hS => ?_)
                            have hP : va_P D vwCl [(a_t, .inr (11, [.int t_thrown_r2, .ref a_t_now, .ref a_t_kept, .int t_isKept, .ref a_t_text, .int t_length, .ref a_t_passing, .int t_at, .int t_fault, .int t_open, .int t_asked, .int t_byGun, .int t_prizeMost, .ref a_t_order, .ref a_t_times, .int t_listed])), (a_t_now, .inl (cI, 1562, .inl t_now))] H := hP
                            have hD : va_D A [(a_t, .inr (11, [.int t_thrown_r2, .ref a_t_now, .ref a_t_kept, .int t_isKept, .ref a_t_text, .int t_length, .ref a_t_passing, .int t_at, .int t_fault, .int t_open, .int t_asked, .int t_byGun, .int t_prizeMost, .ref a_t_order, .ref a_t_times, .int t_listed])), (a_t_now, .inl (cI, 1562, .inl t_now))] := hD
                            refine lv_iconst (v := (-1 : Int32)) hx hb dX11_told_120 rfl ?_
                            refine lv_icmp_eq (tgt := 127) hx hb dX11_told_121 (by decide) (fun c35 => ?_) (fun c35 => ?_)
                            · have h := zz_t h c35
                              refine lv_iinc (v := (v4_104 + (nI 1))) (lv' := [(4, .int (v4_104 + (nI 1))), (3, .int v3_104), (0, .ref a_t), (1, .int x1), (2, .int x2)]) hx hb dX11_told_127 hl (k := 0) rfl rfl (by decide) rfl (fun ls hl => ?_)
                              refine lv_goto (tgt := 104) hx hb dX11_told_130 (by decide) ?_
                              exact ih104 v3_104 (v4_104 + (nI 1)) _ _ _ h (hP.sub [0, 1] rfl) (hD.sub [0, 1] rfl rfl) hS (lv_sub hl [0, 1, 2, 3, 4] rfl)
                            · have h := zz_f h c35
                              refine lv_iload hx hb dX11_told_124 (lv_at hl 0 rfl) ?_
                              refine lv_istore_n (lv' := [(3, .int v4_104), (4, .int v4_104), (0, .ref a_t), (1, .int x1), (2, .int x2)]) hx hb dX11_told_126 rfl hl (by decide) rfl (fun ls hl => ?_)
                              refine lv_iinc (v := (v4_104 + (nI 1))) (lv' := [(4, .int (v4_104 + (nI 1))), (3, .int v4_104), (0, .ref a_t), (1, .int x1), (2, .int x2)]) hx hb dX11_told_127 hl (k := 1) rfl rfl (by decide) rfl (fun ls hl => ?_)
                              refine lv_goto (tgt := 104) hx hb dX11_told_130 (by decide) ?_
                              exact ih104 v4_104 (v4_104 + (nI 1)) _ _ _ h (hP.sub [0, 1] rfl) (hD.sub [0, 1] rfl rfl) hS (lv_sub hl [0, 1, 2, 3, 4] rfl)
                      exact L104 N (-1 : Int32) (nI 0) _ _ _ h hP hD hS hl
                    · have h := zz_f h c29
                      by_cases c36 : x2 = (nI 9)
                      · have h := zz_t h c36
                        refine lv_tableIn (off := 124) (tgt := 135) hx hb dX11_told_11 (by rw [c36]; decide) (by rw [c36]; decide) (by rw [c36]; rfl) (by decide) ?_
                        refine lv_aload_n hx hb dX11_told_135 rfl (lv_at hl 0 rfl) ?_
                        refine lv_iload_n hx hb dX11_told_136 rfl (lv_at hl 1 rfl) ?_
                        refine lv_iconst (v := (nI 0)) hx hb dX11_told_137 rfl ?_
                        obtain ⟨r37, e38, h⟩ := zz_b h
                        refine zVi (As := [.int x1, .int (nI 0)]) (rest := []) (C := RX11) (wr := []) [0, 1] [] 0 ⟨hx, hb, hml, hown, hts⟩ (mX11_timeOf l D cB cI cZ a_t a_t_now a_t_kept a_t_text a_t_passing a_t_order a_t_times t_thrown_r2 t_isKept t_length t_at t_fault t_open t_asked t_byGun t_prizeMost t_listed t_now H.size x1 (nI 0) N r37 e38) (cwV 2 hts gX11_told_X11_timeOf rfl rfl rfl (by decide +kernel) ⟨Nat.le_of_ble_eq_true rfl, Nat.le_of_ble_eq_true rfl⟩) hK hN hZ hP hD hS hA rfl rfl rfl rfl rfl rfl rfl rfl hl.1 rfl (lv_room (Nat.le_of_ble_eq_true rfl)) dX11_told_138 ⟨Nat.le_of_ble_eq_true rfl, Nat.le_of_ble_eq_true rfl⟩ (fun H locs hP hD hS => ?_)
                        have hP : va_P D vwCl [(a_t, .inr (11, [.int t_thrown_r2, .ref a_t_now, .ref a_t_kept, .int t_isKept, .ref a_t_text, .int t_length, .ref a_t_passing, .int t_at, .int t_fault, .int t_open, .int t_asked, .int t_byGun, .int t_prizeMost, .ref a_t_order, .ref a_t_times, .int t_listed])), (a_t_now, .inl (cI, 1562, .inl t_now))] H := hP
                        have hD : va_D A [(a_t, .inr (11, [.int t_thrown_r2, .ref a_t_now, .ref a_t_kept, .int t_isKept, .ref a_t_text, .int t_length, .ref a_t_passing, .int t_at, .int t_fault, .int t_open, .int t_asked, .int t_byGun, .int t_prizeMost, .ref a_t_order, .ref a_t_times, .int t_listed])), (a_t_now, .inl (cI, 1562, .inl t_now))] := hD
                        obtain ⟨j0_, g_⟩ := Prod.mk.inj (Option.some.inj h)
                        have j1_ := g_
                        subst j0_
                        subst j1_
                        exact W.iret (v := r37) hx hb hr (fun t ht hW => ⟨⟨_, (), rfl, rfl, zPost.of hP hD hK ht hW [0, 1] rfl rfl rfl⟩, hS.F ht⟩) hS.2.2 dX11_told_141
                      · have h := zz_f h c36
                        by_cases c39 : x2 = (nI 10)
                        · have h := zz_t h c39
                          refine lv_tableIn (off := 131) (tgt := 142) hx hb dX11_told_11 (by rw [c39]; decide) (by rw [c39]; decide) (by rw [c39]; rfl) (by decide) ?_
                          refine lv_aload_n hx hb dX11_told_142 rfl (lv_at hl 0 rfl) ?_
                          refine lv_iload_n hx hb dX11_told_143 rfl (lv_at hl 1 rfl) ?_
                          refine lv_iconst (v := (nI 1)) hx hb dX11_told_144 rfl ?_
                          obtain ⟨r40, e41, h⟩ := zz_b h
                          refine zVi (As := [.int x1, .int (nI 1)]) (rest := []) (C := RX11) (wr := []) [0, 1] [] 0 ⟨hx, hb, hml, hown, hts⟩ (mX11_timeOf l D cB cI cZ a_t a_t_now a_t_kept a_t_text a_t_passing a_t_order a_t_times t_thrown_r2 t_isKept t_length t_at t_fault t_open t_asked t_byGun t_prizeMost t_listed t_now H.size x1 (nI 1) N r40 e41) (cwV 2 hts gX11_told_X11_timeOf rfl rfl rfl (by decide +kernel) ⟨Nat.le_of_ble_eq_true rfl, Nat.le_of_ble_eq_true rfl⟩) hK hN hZ hP hD hS hA rfl rfl rfl rfl rfl rfl rfl rfl hl.1 rfl (lv_room (Nat.le_of_ble_eq_true rfl)) dX11_told_145 ⟨Nat.le_of_ble_eq_true rfl, Nat.le_of_ble_eq_true rfl⟩ (fun H locs hP hD hS => ?_)
                          have hP : va_P D vwCl [(a_t, .inr (11, [.int t_thrown_r2, .ref a_t_now, .ref a_t_kept, .int t_isKept, .ref a_t_text, .int t_length, .ref a_t_passing, .int t_at, .int t_fault, .int t_open, .int t_asked, .int t_byGun, .int t_prizeMost, .ref a_t_order, .ref a_t_times, .int t_listed])), (a_t_now, .inl (cI, 1562, .inl t_now))] H := hP
                          have hD : va_D A [(a_t, .inr (11, [.int t_thrown_r2, .ref a_t_now, .ref a_t_kept, .int t_isKept, .ref a_t_text, .int t_length, .ref a_t_passing, .int t_at, .int t_fault, .int t_open, .int t_asked, .int t_byGun, .int t_prizeMost, .ref a_t_order, .ref a_t_times, .int t_listed])), (a_t_now, .inl (cI, 1562, .inl t_now))] := hD
                          obtain ⟨j0_, g_⟩ := Prod.mk.inj (Option.some.inj h)
                          have j1_ := g_
                          subst j0_
                          subst j1_
                          exact W.iret (v := r40) hx hb hr (fun t ht hW => ⟨⟨_, (), rfl, rfl, zPost.of hP hD hK ht hW [0, 1] rfl rfl rfl⟩, hS.F ht⟩) hS.2.2 dX11_told_148
                        · have h := zz_f h c39
                          by_cases c42 : x2 = (nI 11)
                          · have h := zz_t h c42
                            refine lv_tableIn (off := 138) (tgt := 149) hx hb dX11_told_11 (by rw [c42]; decide) (by rw [c42]; decide) (by rw [c42]; rfl) (by decide) ?_
                            refine lv_aload_n hx hb dX11_told_149 rfl (lv_at hl 0 rfl) ?_
                            refine lv_iload_n hx hb dX11_told_150 rfl (lv_at hl 1 rfl) ?_
                            obtain ⟨r43, e44, h⟩ := zz_b h
                            refine zVi (As := [.int x1]) (rest := []) (C := RX11) (wr := []) [0, 1] [] 0 ⟨hx, hb, hml, hown, hts⟩ (mX11_startOf l D cB cI cZ a_t a_t_now a_t_kept a_t_text a_t_passing a_t_order a_t_times t_thrown_r2 t_isKept t_length t_at t_fault t_open t_asked t_byGun t_prizeMost t_listed t_now H.size x1 r43 e44) (cwV 1 hts gX11_told_X11_startOf rfl rfl rfl (by decide +kernel) ⟨Nat.le_of_ble_eq_true rfl, Nat.le_of_ble_eq_true rfl⟩) hK hN hZ hP hD hS hA rfl rfl rfl rfl rfl rfl rfl rfl hl.1 rfl (lv_room (Nat.le_of_ble_eq_true rfl)) dX11_told_151 ⟨Nat.le_of_ble_eq_true rfl, Nat.le_of_ble_eq_true rfl⟩ (fun H locs hP hD hS => ?_)
                            have hP : va_P D vwCl [(a_t, .inr (11, [.int t_thrown_r2, .ref a_t_now, .ref a_t_kept, .int t_isKept, .ref a_t_text, .int t_length, .ref a_t_passing, .int t_at, .int t_fault, .int t_open, .int t_asked, .int t_byGun, .int t_prizeMost, .ref a_t_order, .ref a_t_times, .int t_listed])), (a_t_now, .inl (cI, 1562, .inl t_now))] H := hP
                            have hD : va_D A [(a_t, .inr (11, [.int t_thrown_r2, .ref a_t_now, .ref a_t_kept, .int t_isKept, .ref a_t_text, .int t_length, .ref a_t_passing, .int t_at, .int t_fault, .int t_open, .int t_asked, .int t_byGun, .int t_prizeMost, .ref a_t_order, .ref a_t_times, .int t_listed])), (a_t_now, .inl (cI, 1562, .inl t_now))] := hD
                            refine lv_iconst (v := (-1 : Int32)) hx hb dX11_told_154 rfl ?_
                            refine lv_icmp_eq (tgt := 176) hx hb dX11_told_155 (by decide) (fun c45 => ?_) (fun c45 => ?_)
                            · have h := zz_t h c45
                              refine lv_iconst (v := (-1 : Int32)) hx hb dX11_told_176 rfl ?_
                              obtain ⟨j0_, g_⟩ := Prod.mk.inj (Option.some.inj h)
                              have j1_ := g_
                              subst j0_
                              subst j1_
                              exact W.iret (v := (-1 : Int32)) hx hb hr (fun t ht hW => ⟨⟨_, (), rfl, rfl, zPost.of hP hD hK ht hW [0, 1] rfl rfl rfl⟩, hS.F ht⟩) hS.2.2 dX11_told_177
                            · have h := zz_f h c45
                              refine lv_aload_n hx hb dX11_told_158 rfl (lv_at hl 0 rfl) ?_
                              refine lv_iload_n hx hb dX11_told_159 rfl (lv_at hl 1 rfl) ?_
                              refine lv_iconst (v := (nI 0)) hx hb dX11_told_160 rfl ?_
                              obtain ⟨r46, e47, h⟩ := zz_b h
                              refine zVi (As := [.int x1, .int (nI 0)]) (rest := []) (C := RX11) (wr := []) [0, 1] [] 0 ⟨hx, hb, hml, hown, hts⟩ (mX11_splitOf l D cB cI cZ a_t a_t_now a_t_kept a_t_text a_t_passing a_t_order a_t_times t_thrown_r2 t_isKept t_length t_at t_fault t_open t_asked t_byGun t_prizeMost t_listed t_now H.size x1 (nI 0) r46 e47) (cwV 2 hts gX11_told_X11_splitOf rfl rfl rfl (by decide +kernel) ⟨Nat.le_of_ble_eq_true rfl, Nat.le_of_ble_eq_true rfl⟩) hK hN hZ hP hD hS hA rfl rfl rfl rfl rfl rfl rfl rfl hl.1 rfl (lv_room (Nat.le_of_ble_eq_true rfl)) dX11_told_161 ⟨Nat.le_of_ble_eq_true rfl, Nat.le_of_ble_eq_true rfl⟩ (fun H locs hP hD hS => ?_)
                              have hP : va_P D vwCl [(a_t, .inr (11, [.int t_thrown_r2, .ref a_t_now, .ref a_t_kept, .int t_isKept, .ref a_t_text, .int t_length, .ref a_t_passing, .int t_at, .int t_fault, .int t_open, .int t_asked, .int t_byGun, .int t_prizeMost, .ref a_t_order, .ref a_t_times, .int t_listed])), (a_t_now, .inl (cI, 1562, .inl t_now))] H := hP
                              have hD : va_D A [(a_t, .inr (11, [.int t_thrown_r2, .ref a_t_now, .ref a_t_kept, .int t_isKept, .ref a_t_text, .int t_length, .ref a_t_passing, .int t_at, .int t_fault, .int t_open, .int t_asked, .int t_byGun, .int t_prizeMost, .ref a_t_order, .ref a_t_times, .int t_listed])), (a_t_now, .inl (cI, 1562, .inl t_now))] := hD
                              refine lv_iconst (v := (-1 : Int32)) hx hb dX11_told_164 rfl ?_
                              refine lv_icmp_ne (tgt := 172) hx hb dX11_told_165 (by decide) (fun c48 => ?_) (fun c48 => ?_)
                              · have h := zz_f h c48
                                refine lv_iconst (v := (nI 0)) hx hb dX11_told_172 rfl ?_
                                refine lv_goto (tgt := 177) hx hb dX11_told_173 (by decide) ?_
                                obtain ⟨j0_, g_⟩ := Prod.mk.inj (Option.some.inj h)
                                have j1_ := g_
                                subst j0_
                                subst j1_
                                exact W.iret (v := (nI 0)) hx hb hr (fun t ht hW => ⟨⟨_, (), rfl, rfl, zPost.of hP hD hK ht hW [0, 1] rfl rfl rfl⟩, hS.F ht⟩) hS.2.2 dX11_told_177
                              · have h := zz_t h c48
                                refine lv_iconst (v := (nI 1)) hx hb dX11_told_168 rfl ?_
                                refine lv_goto (tgt := 177) hx hb dX11_told_169 (by decide) ?_
                                obtain ⟨j0_, g_⟩ := Prod.mk.inj (Option.some.inj h)
                                have j1_ := g_
                                subst j0_
                                subst j1_
                                exact W.iret (v := (nI 1)) hx hb hr (fun t ht hW => ⟨⟨_, (), rfl, rfl, zPost.of hP hD hK ht hW [0, 1] rfl rfl rfl⟩, hS.F ht⟩) hS.2.2 dX11_told_177
                          · have h := zz_f h c42
                            by_cases c49 : x2 = (nI 12)
                            · have h := zz_t h c49
                              refine lv_tableIn (off := 167) (tgt := 178) hx hb dX11_told_11 (by rw [c49]; decide) (by rw [c49]; decide) (by rw [c49]; rfl) (by decide) ?_
                              refine lv_aload_n hx hb dX11_told_178 rfl (lv_at hl 0 rfl) ?_
                              refine lv_iload_n hx hb dX11_told_179 rfl (lv_at hl 1 rfl) ?_
                              refine lv_iconst (v := (nI 0)) hx hb dX11_told_180 rfl ?_
                              obtain ⟨r50, e51, h⟩ := zz_b h
                              refine zVi (As := [.int x1, .int (nI 0)]) (rest := []) (C := RX11) (wr := []) [0, 1] [] 0 ⟨hx, hb, hml, hown, hts⟩ (mX11_of l D cB cI cZ a_t a_t_now a_t_kept a_t_text a_t_passing a_t_order a_t_times t_thrown_r2 t_isKept t_length t_at t_fault t_open t_asked t_byGun t_prizeMost t_listed t_now H.size x1 (nI 0) r50 e51) (cwV 2 hts gX11_told_X11_of rfl rfl rfl (by decide +kernel) ⟨Nat.le_of_ble_eq_true rfl, Nat.le_of_ble_eq_true rfl⟩) hK hN hZ hP hD hS hA rfl rfl rfl rfl rfl rfl rfl rfl hl.1 rfl (lv_room (Nat.le_of_ble_eq_true rfl)) dX11_told_181 ⟨Nat.le_of_ble_eq_true rfl, Nat.le_of_ble_eq_true rfl⟩ (fun H locs hP hD hS => ?_)
                              have hP : va_P D vwCl [(a_t, .inr (11, [.int t_thrown_r2, .ref a_t_now, .ref a_t_kept, .int t_isKept, .ref a_t_text, .int t_length, .ref a_t_passing, .int t_at, .int t_fault, .int t_open, .int t_asked, .int t_byGun, .int t_prizeMost, .ref a_t_order, .ref a_t_times, .int t_listed])), (a_t_now, .inl (cI, 1562, .inl t_now))] H := hP
                              have hD : va_D A [(a_t, .inr (11, [.int t_thrown_r2, .ref a_t_now, .ref a_t_kept, .int t_isKept, .ref a_t_text, .int t_length, .ref a_t_passing, .int t_at, .int t_fault, .int t_open, .int t_asked, .int t_byGun, .int t_prizeMost, .ref a_t_order, .ref a_t_times, .int t_listed])), (a_t_now, .inl (cI, 1562, .inl t_now))] := hD
                              refine lv_iconst (v := (nI 1)) hx hb dX11_told_184 rfl ?_
                              refine lv_icmp_ne (tgt := 198) hx hb dX11_told_185 (by decide) (fun c52 => ?_) (fun c52 => ?_)
                              · have h := zz_f h c52
                                refine lv_iconst (v := (-1 : Int32)) hx hb dX11_told_198 rfl ?_
                                refine lv_goto (tgt := 222) hx hb dX11_told_199 (by decide) ?_
                                obtain ⟨j0_, g_⟩ := Prod.mk.inj (Option.some.inj h)
                                have j1_ := g_
                                subst j0_
                                subst j1_
                                exact W.iret (v := (-1 : Int32)) hx hb hr (fun t ht hW => ⟨⟨_, (), rfl, rfl, zPost.of hP hD hK ht hW [0, 1] rfl rfl rfl⟩, hS.F ht⟩) hS.2.2 dX11_told_222
                              · have h := zz_t h c52
                                refine lv_aload_n hx hb dX11_told_188 rfl (lv_at hl 0 rfl) ?_
                                refine lv_iload_n hx hb dX11_told_189 rfl (lv_at hl 1 rfl) ?_
                                refine lv_iconst (v := (nI 0)) hx hb dX11_told_190 rfl ?_
                                obtain ⟨r53, e54, h⟩ := zz_b h
                                refine zVi (As := [.int x1, .int (nI 0)]) (rest := []) (C := RX11) (wr := []) [0, 1] [] 0 ⟨hx, hb, hml, hown, hts⟩ (mX11_timeOf l D cB cI cZ a_t a_t_now a_t_kept a_t_text a_t_passing a_t_order a_t_times t_thrown_r2 t_isKept t_length t_at t_fault t_open t_asked t_byGun t_prizeMost t_listed t_now H.size x1 (nI 0) N r53 e54) (cwV 2 hts gX11_told_X11_timeOf rfl rfl rfl (by decide +kernel) ⟨Nat.le_of_ble_eq_true rfl, Nat.le_of_ble_eq_true rfl⟩) hK hN hZ hP hD hS hA rfl rfl rfl rfl rfl rfl rfl rfl hl.1 rfl (lv_room (Nat.le_of_ble_eq_true rfl)) dX11_told_191 ⟨Nat.le_of_ble_eq_true rfl, Nat.le_of_ble_eq_true rfl⟩ (fun H locs hP hD hS => ?_)
                                have hP : va_P D vwCl [(a_t, .inr (11, [.int t_thrown_r2, .ref a_t_now, .ref a_t_kept, .int t_isKept, .ref a_t_text, .int t_length, .ref a_t_passing, .int t_at, .int t_fault, .int t_open, .int t_asked, .int t_byGun, .int t_prizeMost, .ref a_t_order, .ref a_t_times, .int t_listed])), (a_t_now, .inl (cI, 1562, .inl t_now))] H := hP
                                have hD : va_D A [(a_t, .inr (11, [.int t_thrown_r2, .ref a_t_now, .ref a_t_kept, .int t_isKept, .ref a_t_text, .int t_length, .ref a_t_passing, .int t_at, .int t_fault, .int t_open, .int t_asked, .int t_byGun, .int t_prizeMost, .ref a_t_order, .ref a_t_times, .int t_listed])), (a_t_now, .inl (cI, 1562, .inl t_now))] := hD
                                refine lv_iconst (v := (-1 : Int32)) hx hb dX11_told_194 rfl ?_
                                refine lv_icmp_ne (tgt := 202) hx hb dX11_told_195 (by decide) (fun c55 => ?_) (fun c55 => ?_)
                                · have h := zz_f h c55
                                  refine lv_aload_n hx hb dX11_told_202 rfl (lv_at hl 0 rfl) ?_
                                  refine lv_iload_n hx hb dX11_told_203 rfl (lv_at hl 1 rfl) ?_
                                  refine lv_iconst (v := (nI 0)) hx hb dX11_told_204 rfl ?_
                                  obtain ⟨r56, e57, h⟩ := zz_b h
                                  refine zVi (As := [.int x1, .int (nI 0)]) (rest := []) (C := RX11) (wr := []) [0, 1] [] 0 ⟨hx, hb, hml, hown, hts⟩ (mX11_timeOf l D cB cI cZ a_t a_t_now a_t_kept a_t_text a_t_passing a_t_order a_t_times t_thrown_r2 t_isKept t_length t_at t_fault t_open t_asked t_byGun t_prizeMost t_listed t_now H.size x1 (nI 0) N r56 e57) (cwV 2 hts gX11_told_X11_timeOf rfl rfl rfl (by decide +kernel) ⟨Nat.le_of_ble_eq_true rfl, Nat.le_of_ble_eq_true rfl⟩) hK hN hZ hP hD hS hA rfl rfl rfl rfl rfl rfl rfl rfl hl.1 rfl (lv_room (Nat.le_of_ble_eq_true rfl)) dX11_told_205 ⟨Nat.le_of_ble_eq_true rfl, Nat.le_of_ble_eq_true rfl⟩ (fun H locs hP hD hS => ?_)
                                  have hP : va_P D vwCl [(a_t, .inr (11, [.int t_thrown_r2, .ref a_t_now, .ref a_t_kept, .int t_isKept, .ref a_t_text, .int t_length, .ref a_t_passing, .int t_at, .int t_fault, .int t_open, .int t_asked, .int t_byGun, .int t_prizeMost, .ref a_t_order, .ref a_t_times, .int t_listed])), (a_t_now, .inl (cI, 1562, .inl t_now))] H := hP
                                  have hD : va_D A [(a_t, .inr (11, [.int t_thrown_r2, .ref a_t_now, .ref a_t_kept, .int t_isKept, .ref a_t_text, .int t_length, .ref a_t_passing, .int t_at, .int t_fault, .int t_open, .int t_asked, .int t_byGun, .int t_prizeMost, .ref a_t_order, .ref a_t_times, .int t_listed])), (a_t_now, .inl (cI, 1562, .inl t_now))] := hD
                                  refine lv_aload_n hx hb dX11_told_208 rfl (lv_at hl 0 rfl) ?_
                                  obtain ⟨r58, e59, h⟩ := zz_b h
                                  refine zVi (As := []) (rest := [.int r56]) (C := RX11) (wr := []) [0, 1] [] 0 ⟨hx, hb, hml, hown, hts⟩ (mX11_wayLength l D cB cI cZ a_t a_t_now a_t_kept a_t_text a_t_passing a_t_order a_t_times t_thrown_r2 t_isKept t_length t_at t_fault t_open t_asked t_byGun t_prizeMost t_listed t_now H.size r58 e59) (cwV 0 hts gX11_told_X11_wayLength rfl rfl rfl (by decide +kernel) ⟨Nat.le_of_ble_eq_true rfl, Nat.le_of_ble_eq_true rfl⟩) hK hN hZ hP hD hS hA rfl rfl rfl rfl rfl rfl rfl rfl hl.1 rfl (lv_room (Nat.le_of_ble_eq_true rfl)) dX11_told_209 ⟨Nat.le_of_ble_eq_true rfl, Nat.le_of_ble_eq_true rfl⟩ (fun H locs hP hD hS => ?_)
                                  have hP : va_P D vwCl [(a_t, .inr (11, [.int t_thrown_r2, .ref a_t_now, .ref a_t_kept, .int t_isKept, .ref a_t_text, .int t_length, .ref a_t_passing, .int t_at, .int t_fault, .int t_open, .int t_asked, .int t_byGun, .int t_prizeMost, .ref a_t_order, .ref a_t_times, .int t_listed])), (a_t_now, .inl (cI, 1562, .inl t_now))] H := hP
                                  have hD : va_D A [(a_t, .inr (11, [.int t_thrown_r2, .ref a_t_now, .ref a_t_kept, .int t_isKept, .ref a_t_text, .int t_length, .ref a_t_passing, .int t_at, .int t_fault, .int t_open, .int t_asked, .int t_byGun, .int t_prizeMost, .ref a_t_order, .ref a_t_times, .int t_listed])), (a_t_now, .inl (cI, 1562, .inl t_now))] := hD
                                  refine lv_aload_n hx hb dX11_told_212 rfl (lv_at hl 0 rfl) ?_
                                  refine lv_iload_n hx hb dX11_told_213 rfl (lv_at hl 1 rfl) ?_
                                  refine lv_iconst (v := (nI 1)) hx hb dX11_told_214 rfl ?_
                                  obtain ⟨r60, e61, h⟩ := zz_b h
                                  refine zVi (As := [.int x1, .int (nI 1)]) (rest := [.int r58, .int r56]) (C := RX11) (wr := []) [0, 1] [] 0 ⟨hx, hb, hml, hown, hts⟩ (mX11_of l D cB cI cZ a_t a_t_now a_t_kept a_t_text a_t_passing a_t_order a_t_times t_thrown_r2 t_isKept t_length t_at t_fault t_open t_asked t_byGun t_prizeMost t_listed t_now H.size x1 (nI 1) r60 e61) (cwV 2 hts gX11_told_X11_of rfl rfl rfl (by decide +kernel) ⟨Nat.le_of_ble_eq_true rfl, Nat.le_of_ble_eq_true rfl⟩) hK hN hZ hP hD hS hA rfl rfl rfl rfl rfl rfl rfl rfl hl.1 rfl (lv_room (Nat.le_of_ble_eq_true rfl)) dX11_told_215 ⟨Nat.le_of_ble_eq_true rfl, Nat.le_of_ble_eq_true rfl⟩ (fun H locs hP hD hS => ?_)
                                  have hP : va_P D vwCl [(a_t, .inr (11, [.int t_thrown_r2, .ref a_t_now, .ref a_t_kept, .int t_isKept, .ref a_t_text, .int t_length, .ref a_t_passing, .int t_at, .int t_fault, .int t_open, .int t_asked, .int t_byGun, .int t_prizeMost, .ref a_t_order, .ref a_t_times, .int t_listed])), (a_t_now, .inl (cI, 1562, .inl t_now))] H := hP
                                  have hD : va_D A [(a_t, .inr (11, [.int t_thrown_r2, .ref a_t_now, .ref a_t_kept, .int t_isKept, .ref a_t_text, .int t_length, .ref a_t_passing, .int t_at, .int t_fault, .int t_open, .int t_asked, .int t_byGun, .int t_prizeMost, .ref a_t_order, .ref a_t_times, .int t_listed])), (a_t_now, .inl (cI, 1562, .inl t_now))] := hD
                                  obtain ⟨r62, e63, h⟩ := zz_b h
                                  refine zSi (As := [.int r58, .int r60]) (rest := [.int r56]) (wr := [(a_t, .inr (11, [.int t_thrown_r2, .ref a_t_now, .ref a_t_kept, .int t_isKept, .ref a_t_text, .int t_length, .ref a_t_passing, .int t_at, .int t_fault, .int t_open, .int t_asked, .int t_byGun, .int t_prizeMost, .ref a_t_order, .ref a_t_times, .int t_listed])), (a_t_now, .inl (cI, 1562, .inl t_now))]) [] [0, 1] ⟨hx, hb, hml, hown, hts⟩ (mX11_made l D cB cI cZ H.size r58 r60 r62 e63) (va_cwS 2 hts gX11_told_X11_made rfl rfl rfl (by decide +kernel) ⟨Nat.le_of_ble_eq_true rfl, Nat.le_of_ble_eq_true rfl⟩) hK hN hZ hP hD hS hA rfl rfl rfl rfl rfl rfl hl.1 rfl (lv_room (Nat.le_of_ble_eq_true rfl)) dX11_told_218 ⟨Nat.le_of_ble_eq_true rfl, Nat.le_of_ble_eq_true rfl⟩ (fun H locs hP hD hS => ?_)
                                  have hP : va_P D vwCl [(a_t, .inr (11, [.int t_thrown_r2, .ref a_t_now, .ref a_t_kept, .int t_isKept, .ref a_t_text, .int t_length, .ref a_t_passing, .int t_at, .int t_fault, .int t_open, .int t_asked, .int t_byGun, .int t_prizeMost, .ref a_t_order, .ref a_t_times, .int t_listed])), (a_t_now, .inl (cI, 1562, .inl t_now))] H := hP
                                  have hD : va_D A [(a_t, .inr (11, [.int t_thrown_r2, .ref a_t_now, .ref a_t_kept, .int t_isKept, .ref a_t_text, .int t_length, .ref a_t_passing, .int t_at, .int t_fault, .int t_open, .int t_asked, .int t_byGun, .int t_prizeMost, .ref a_t_order, .ref a_t_times, .int t_listed])), (a_t_now, .inl (cI, 1562, .inl t_now))] := hD
                                  refine lv_isub hx hb dX11_told_221 ?_
                                  obtain ⟨j0_, g_⟩ := Prod.mk.inj (Option.some.inj h)
                                  have j1_ := g_
                                  subst j0_
                                  subst j1_
                                  exact W.iret (v := (r56 - r62)) hx hb hr (fun t ht hW => ⟨⟨_, (), rfl, rfl, zPost.of hP hD hK ht hW [0, 1] rfl rfl rfl⟩, hS.F ht⟩) hS.2.2 dX11_told_222
                                · have h := zz_t h c55
                                  refine lv_iconst (v := (-1 : Int32)) hx hb dX11_told_198 rfl ?_
                                  refine lv_goto (tgt := 222) hx hb dX11_told_199 (by decide) ?_
                                  obtain ⟨j0_, g_⟩ := Prod.mk.inj (Option.some.inj h)
                                  have j1_ := g_
                                  subst j0_
                                  subst j1_
                                  exact W.iret (v := (-1 : Int32)) hx hb hr (fun t ht hW => ⟨⟨_, (), rfl, rfl, zPost.of hP hD hK ht hW [0, 1] rfl rfl rfl⟩, hS.F ht⟩) hS.2.2 dX11_told_222
                            · have h := zz_f h c49
                              by_cases c64 : x2 = (nI 13)
                              · have h := zz_t h c64
                                refine lv_tableIn (off := 212) (tgt := 223) hx hb dX11_told_11 (by rw [c64]; decide) (by rw [c64]; decide) (by rw [c64]; rfl) (by decide) ?_
                                refine lv_aload_n hx hb dX11_told_223 rfl (lv_at hl 0 rfl) ?_
                                refine lv_iload_n hx hb dX11_told_224 rfl (lv_at hl 1 rfl) ?_
                                refine lv_bipush (v := (nI 9)) hx hb dX11_told_225 rfl ?_
                                obtain ⟨r65, e66, h⟩ := zz_b h
                                refine zVi (As := [.int x1, .int (nI 9)]) (rest := []) (C := RX11) (wr := []) [0, 1] [] 0 ⟨hx, hb, hml, hown, hts⟩ (mX11_of l D cB cI cZ a_t a_t_now a_t_kept a_t_text a_t_passing a_t_order a_t_times t_thrown_r2 t_isKept t_length t_at t_fault t_open t_asked t_byGun t_prizeMost t_listed t_now H.size x1 (nI 9) r65 e66) (cwV 2 hts gX11_told_X11_of rfl rfl rfl (by decide +kernel) ⟨Nat.le_of_ble_eq_true rfl, Nat.le_of_ble_eq_true rfl⟩) hK hN hZ hP hD hS hA rfl rfl rfl rfl rfl rfl rfl rfl hl.1 rfl (lv_room (Nat.le_of_ble_eq_true rfl)) dX11_told_227 ⟨Nat.le_of_ble_eq_true rfl, Nat.le_of_ble_eq_true rfl⟩ (fun H locs hP hD hS => ?_)
                                have hP : va_P D vwCl [(a_t, .inr (11, [.int t_thrown_r2, .ref a_t_now, .ref a_t_kept, .int t_isKept, .ref a_t_text, .int t_length, .ref a_t_passing, .int t_at, .int t_fault, .int t_open, .int t_asked, .int t_byGun, .int t_prizeMost, .ref a_t_order, .ref a_t_times, .int t_listed])), (a_t_now, .inl (cI, 1562, .inl t_now))] H := hP
                                have hD : va_D A [(a_t, .inr (11, [.int t_thrown_r2, .ref a_t_now, .ref a_t_kept, .int t_isKept, .ref a_t_text, .int t_length, .ref a_t_passing, .int t_at, .int t_fault, .int t_open, .int t_asked, .int t_byGun, .int t_prizeMost, .ref a_t_order, .ref a_t_times, .int t_listed])), (a_t_now, .inl (cI, 1562, .inl t_now))] := hD
                                obtain ⟨j0_, g_⟩ := Prod.mk.inj (Option.some.inj h)
                                have j1_ := g_
                                subst j0_
                                subst j1_
                                exact W.iret (v := r65) hx hb hr (fun t ht hW => ⟨⟨_, (), rfl, rfl, zPost.of hP hD hK ht hW [0, 1] rfl rfl rfl⟩, hS.F ht⟩) hS.2.2 dX11_told_230
                              · have h := zz_f h c64
                                refine lv_tableOut (tgt := 231) hx hb dX11_told_11 (by have n0_ := lv_neT c5 (a := 0) rfl; have n1_ := lv_neT c8 (a := 1) rfl; have n2_ := lv_neT c11 (a := 2) rfl; have n3_ := lv_neT c14 (a := 3) rfl; have n4_ := lv_neT c17 (a := 4) rfl; have n5_ := lv_neT c20 (a := 5) rfl; have n6_ := lv_neT c23 (a := 6) rfl; have n7_ := lv_neT c26 (a := 7) rfl; have n8_ := lv_neT c29 (a := 8) rfl; have n9_ := lv_neT c36 (a := 9) rfl; have n10_ := lv_neT c39 (a := 10) rfl; have n11_ := lv_neT c42 (a := 11) rfl; have n12_ := lv_neT c49 (a := 12) rfl; have n13_ := lv_neT c64 (a := 13) rfl; omega) (by decide) ?_
                                refine lv_iconst (v := (-1 : Int32)) hx hb dX11_told_231 rfl ?_
                                obtain ⟨j0_, g_⟩ := Prod.mk.inj (Option.some.inj h)
                                have j1_ := g_
                                subst j0_
                                subst j1_
                                exact W.iret (v := (-1 : Int32)) hx hb hr (fun t ht hW => ⟨⟨_, (), rfl, rfl, zPost.of hP hD hK ht hW [0, 1] rfl rfl rfl⟩, hS.F ht⟩) hS.2.2 dX11_told_232
  · have h := zz_t h c4
    refine lv_iconst (v := (-1 : Int32)) hx hb dX11_told_8 rfl ?_
    obtain ⟨j0_, g_⟩ := Prod.mk.inj (Option.some.inj h)
    have j1_ := g_
    subst j0_
    subst j1_
    exact W.iret (v := (-1 : Int32)) hx hb hr (fun t ht hW => ⟨⟨_, (), rfl, rfl, zPost.of hP hD hK ht hW [0, 1] rfl rfl rfl⟩, hS.F ht⟩) hS.2.2 dX11_told_9
/-! RunDeskModel.madeUp -/
theorem dX11_madeUp_0 : decode cX11_madeUp 0 = .ok (.iload_n 0, 1) := by decide +kernel
theorem dX11_madeUp_1 : decode cX11_madeUp 1 = .ok (.i2l, 1) := by decide +kernel
theorem dX11_madeUp_2 : decode cX11_madeUp 2 = .ok (.iload_n 1, 1) := by decide +kernel
theorem dX11_madeUp_3 : decode cX11_madeUp 3 = .ok (.i2l, 1) := by decide +kernel
theorem dX11_madeUp_4 : decode cX11_madeUp 4 = .ok (.lmul, 1) := by decide +kernel
theorem dX11_madeUp_5 : decode cX11_madeUp 5 = .ok (.ldc2_w 110, 3) := by decide +kernel
theorem dX11_madeUp_8 : decode cX11_madeUp 8 = .ok (.ladd, 1) := by decide +kernel
theorem dX11_madeUp_9 : decode cX11_madeUp 9 = .ok (.ldc2_w 108, 3) := by decide +kernel
theorem dX11_madeUp_12 : decode cX11_madeUp 12 = .ok (.ldiv, 1) := by decide +kernel
theorem dX11_madeUp_13 : decode cX11_madeUp 13 = .ok (.l2i, 1) := by decide +kernel
theorem dX11_madeUp_14 : decode cX11_madeUp 14 = .ok (.ireturn, 1) := by decide +kernel
theorem kX11_madeUp_0 : (.constantLong RX11 110 (999) : Cond) ∈ wsX11_madeUp := List.mem_of_getElem? (i := 1) (by decide +kernel)
theorem kX11_madeUp_1 : (.constantLong RX11 108 (1000) : Cond) ∈ wsX11_madeUp := List.mem_of_getElem? (i := 2) (by decide +kernel)
set_option maxHeartbeats 4000000 in
set_option maxRecDepth 100000 in
theorem mX11_madeUp (l : Launch) (D : va_G) (cB cI cZ : ClassId) (sz : Nat) (x1 : Int32) (x2 : Int32) (r0 : Int32) (h : fX11_madeUp x1 x2 = some (r0)) : Met l yX11_madeUp wsX11_madeUp ({ frames := 0, cells := 0, slots := 0, locals := 0 } : Room) (va_Pc [.int x1, .int x2] (zPre D (zT cB cI cZ) [] sz)) (zQi r0 D (zT cB cI cZ) [] (va_A [] sz)) 0 0 (va_A [] sz) := by
  refine Met.ofW (cc := cX11_madeUp) (maxL := 2) (ret := (some .int)) (by decide) rfl ?_
  intro p e s m args below meth c s₁ B hml hv
  obtain ⟨rfl, hsz, hP, hK, hN, hZ, hD0⟩ := hv
  have hx := B.exec
  have hb := B.bytes
  have hr := B.returns
  have hts := atoms_spec (ws := wsX11_madeUp) B.pre
  have hown : s.vm.findClass RX11 = some m.cls := findClass_of_methodNamed B.named
  have hlocks := B.notSynchronized
  subst hsz
  have hD := hD0.self (sz := s.heap.size)
  generalize hAe : va_A [] s.heap.size = A at hD hZ ⊢
  have hA : ∀ q : Nat, s.heap.size ≤ q → A q := fun q h => by rw [← hAe]; exact Or.inr h
  have hS : va_S A s.heap s.heap [] := va_S.rf
  have hl := lv_entry ([.int x1, .int x2]) (n := 2) (Nat.le_of_ble_eq_true rfl)
  rw [lg_entry_eq]
  generalize (lg_sl ([.int x1, .int x2]) ++ List.replicate (2 - (lg_sl ([.int x1, .int x2])).length) Slot.unset).toArray = ls at hl ⊢
  have hl : lv_has ls 2 [(0, .int x1), (1, .int x2)] := hl
  unfold fX11_madeUp at h
  refine lv_iload_n hx hb dX11_madeUp_0 rfl (lv_at hl 0 rfl) ?_
  refine lv_i2l hx hb dX11_madeUp_1 rfl ?_
  refine lv_iload_n hx hb dX11_madeUp_2 rfl (lv_at hl 1 rfl) ?_
  refine lv_i2l hx hb dX11_madeUp_3 rfl ?_
  refine lv_lmul hx hb dX11_madeUp_4 ?_
  refine lv_ldc2 (v := (999 : Int64)) hx hb hown (hts _ kX11_madeUp_0) dX11_madeUp_5 ?_
  refine lv_ladd hx hb dX11_madeUp_8 ?_
  refine lv_ldc2 (v := (1000 : Int64)) hx hb hown (hts _ kX11_madeUp_1) dX11_madeUp_9 ?_
  refine lv_ldiv hx hb dX11_madeUp_12 (by decide) ?_
  refine lv_l2i hx hb dX11_madeUp_13 rfl ?_
  have j0_ := Option.some.inj h
  subst j0_
  exact W.iret (v := (((((x1).toInt64 * (x2).toInt64) + (999 : Int64)) / (1000 : Int64))).toInt32) hx hb hr (fun t ht hW => ⟨⟨_, (), rfl, rfl, zPost.of hP hD hK ht hW [] rfl rfl rfl⟩, hS.F ht⟩) hS.2.2 dX11_madeUp_14
/-! RunDeskModel.split -/
theorem dX11_split_0 : decode cX11_split 0 = .ok (.aload_n 0, 1) := by decide +kernel
theorem dX11_split_1 : decode cX11_split 1 = .ok (.iload_n 1, 1) := by decide +kernel
theorem dX11_split_2 : decode cX11_split 2 = .ok (.invokevirtual 65, 3) := by decide +kernel
theorem dX11_split_5 : decode cX11_split 5 = .ok (.ifCond .eq 11, 3) := by decide +kernel
theorem dX11_split_8 : decode cX11_split 8 = .ok (.aload_n 0, 1) := by decide +kernel
theorem dX11_split_9 : decode cX11_split 9 = .ok (.iload_n 2, 1) := by decide +kernel
theorem dX11_split_10 : decode cX11_split 10 = .ok (.invokevirtual 69, 3) := by decide +kernel
theorem dX11_split_13 : decode cX11_split 13 = .ok (.ifCond .ne 7, 3) := by decide +kernel
theorem dX11_split_16 : decode cX11_split 16 = .ok (.iconst (-1), 1) := by decide +kernel
theorem dX11_split_17 : decode cX11_split 17 = .ok (.goto 9, 3) := by decide +kernel
theorem dX11_split_20 : decode cX11_split 20 = .ok (.aload_n 0, 1) := by decide +kernel
theorem dX11_split_21 : decode cX11_split 21 = .ok (.iload_n 1, 1) := by decide +kernel
theorem dX11_split_22 : decode cX11_split 22 = .ok (.iload_n 2, 1) := by decide +kernel
theorem dX11_split_23 : decode cX11_split 23 = .ok (.invokevirtual 76, 3) := by decide +kernel
theorem dX11_split_26 : decode cX11_split 26 = .ok (.ireturn, 1) := by decide +kernel
set_option maxRecDepth 20000 in
theorem ggX11_split_X11_isRunner : GoodIn wsX11_split wsX11_isRunner := goodIn_sub (List.forall_mem_cons.mpr ⟨List.mem_cons_of_mem _ (List.mem_append_left _ (List.mem_append_left _ (List.mem_of_getElem? (l := wsX11_split_r1) (i := 4) rfl))), (List.forall_mem_append.mpr ⟨(List.forall_mem_cons.mpr ⟨List.mem_cons_of_mem _ (List.mem_append_left _ (List.mem_append_left _ (List.mem_of_getElem? (l := wsX11_split_r1) (i := 5) rfl))), (List.forall_mem_cons.mpr ⟨List.mem_cons_of_mem _ (List.mem_append_left _ (List.mem_append_left _ (List.mem_of_getElem? (l := wsX11_split_r1) (i := 6) rfl))), (List.forall_mem_cons.mpr ⟨List.mem_cons_of_mem _ (List.mem_append_left _ (List.mem_append_left _ (List.mem_of_getElem? (l := wsX11_split_r1) (i := 7) rfl))), (List.forall_mem_cons.mpr ⟨List.mem_cons_of_mem _ (List.mem_append_left _ (List.mem_append_left _ (List.mem_of_getElem? (l := wsX11_split_r1) (i := 8) rfl))), (List.forall_mem_cons.mpr ⟨List.mem_cons_of_mem _ (List.mem_append_left _ (List.mem_append_left _ (List.mem_of_getElem? (l := wsX11_split_r1) (i := 3) rfl))), (List.forall_mem_cons.mpr ⟨List.mem_cons_of_mem _ (List.mem_append_left _ (List.mem_append_left _ (List.mem_of_getElem? (l := wsX11_split_r1) (i := 9) rfl))), (List.forall_mem_cons.mpr ⟨List.mem_cons_of_mem _ (List.mem_append_left _ (List.mem_append_left _ (List.mem_of_getElem? (l := wsX11_split_r1) (i := 10) rfl))), (fun _ h => nomatch h)⟩)⟩)⟩)⟩)⟩)⟩)⟩), (fun _ h => List.mem_cons_of_mem _ (List.mem_append_right _ (h)))⟩)⟩) (by decide +kernel)
set_option maxRecDepth 20000 in
theorem gX11_split_X11_isRunner : GoodIn wsX11_split (wsV RX11 65 RX11 yX11_isRunner wsX11_isRunner) := goodIn_app (goodIn_of _ (by decide +kernel)) ggX11_split_X11_isRunner
set_option maxRecDepth 20000 in
theorem ggX11_split_X11_isMat : GoodIn wsX11_split wsX11_isMat := goodIn_sub (List.forall_mem_cons.mpr ⟨List.mem_cons_of_mem _ (List.mem_append_left _ (List.mem_append_left _ (List.mem_of_getElem? (l := wsX11_split_r1) (i := 14) rfl))), (List.forall_mem_append.mpr ⟨(List.forall_mem_cons.mpr ⟨List.mem_cons_of_mem _ (List.mem_append_left _ (List.mem_append_left _ (List.mem_of_getElem? (l := wsX11_split_r1) (i := 15) rfl))), (List.forall_mem_cons.mpr ⟨List.mem_cons_of_mem _ (List.mem_append_left _ (List.mem_append_left _ (List.mem_of_getElem? (l := wsX11_split_r1) (i := 16) rfl))), (List.forall_mem_cons.mpr ⟨List.mem_cons_of_mem _ (List.mem_append_left _ (List.mem_append_left _ (List.mem_of_getElem? (l := wsX11_split_r1) (i := 17) rfl))), (List.forall_mem_cons.mpr ⟨List.mem_cons_of_mem _ (List.mem_append_left _ (List.mem_append_left _ (List.mem_of_getElem? (l := wsX11_split_r1) (i := 3) rfl))), (List.forall_mem_cons.mpr ⟨List.mem_cons_of_mem _ (List.mem_append_left _ (List.mem_append_left _ (List.mem_of_getElem? (l := wsX11_split_r1) (i := 18) rfl))), (List.forall_mem_cons.mpr ⟨List.mem_cons_of_mem _ (List.mem_append_left _ (List.mem_append_left _ (List.mem_of_getElem? (l := wsX11_split_r1) (i := 10) rfl))), (fun _ h => nomatch h)⟩)⟩)⟩)⟩)⟩)⟩), (fun _ h => List.mem_cons_of_mem _ (List.mem_append_right _ (h)))⟩)⟩) (by decide +kernel)
set_option maxRecDepth 20000 in
theorem gX11_split_X11_isMat : GoodIn wsX11_split (wsV RX11 69 RX11 yX11_isMat wsX11_isMat) := goodIn_app (goodIn_of _ (by decide +kernel)) ggX11_split_X11_isMat
set_option maxRecDepth 20000 in
theorem ggX11_split_X11_splitOf : GoodIn wsX11_split wsX11_splitOf := goodIn_sub (List.forall_mem_cons.mpr ⟨List.mem_cons_of_mem _ (List.mem_append_left _ (List.mem_append_left _ (List.mem_of_getElem? (l := wsX11_split_r1) (i := 22) rfl))), (List.forall_mem_append.mpr ⟨(List.forall_mem_cons.mpr ⟨List.mem_cons_of_mem _ (List.mem_append_left _ (List.mem_append_left _ (List.mem_of_getElem? (l := wsX11_split_r1) (i := 23) rfl))), (List.forall_mem_cons.mpr ⟨List.mem_cons_of_mem _ (List.mem_append_left _ (List.mem_append_right _ (List.mem_of_getElem? (l := wsX11_split_r2) (i := 0) rfl))), (List.forall_mem_cons.mpr ⟨List.mem_cons_of_mem _ (List.mem_append_left _ (List.mem_append_right _ (List.mem_of_getElem? (l := wsX11_split_r2) (i := 1) rfl))), (List.forall_mem_cons.mpr ⟨List.mem_cons_of_mem _ (List.mem_append_left _ (List.mem_append_left _ (List.mem_of_getElem? (l := wsX11_split_r1) (i := 3) rfl))), (List.forall_mem_cons.mpr ⟨List.mem_cons_of_mem _ (List.mem_append_left _ (List.mem_append_right _ (List.mem_of_getElem? (l := wsX11_split_r2) (i := 2) rfl))), (List.forall_mem_cons.mpr ⟨List.mem_cons_of_mem _ (List.mem_append_left _ (List.mem_append_left _ (List.mem_of_getElem? (l := wsX11_split_r1) (i := 10) rfl))), (fun _ h => nomatch h)⟩)⟩)⟩)⟩)⟩)⟩), (fun _ h => List.mem_cons_of_mem _ (List.mem_append_right _ (h)))⟩)⟩) (by decide +kernel)
set_option maxRecDepth 20000 in
theorem gX11_split_X11_splitOf : GoodIn wsX11_split (wsV RX11 76 RX11 yX11_splitOf wsX11_splitOf) := goodIn_app (goodIn_of _ (by decide +kernel)) ggX11_split_X11_splitOf
set_option maxHeartbeats 4000000 in
set_option maxRecDepth 100000 in
theorem mX11_split (l : Launch) (D : va_G) (cB cI cZ : ClassId) (a_t : Nat) (a_t_now : Nat) (a_t_kept : Nat) (a_t_text : Nat) (a_t_passing : Nat) (a_t_order : Nat) (a_t_times : Nat) (t_thrown : Int32) (t_isKept : Int32) (t_length : Int32) (t_at : Int32) (t_fault : Int32) (t_open : Int32) (t_asked : Int32) (t_byGun : Int32) (t_prizeMost : Int32) (t_listed : Int32) (t_now : Nat → Int32) (sz : Nat) (x1 : Int32) (x2 : Int32) (r0 : Int32) (t_thrown' : Int32) (h : fX11_split t_thrown t_now x1 x2 = some (r0, t_thrown')) : Met l yX11_split wsX11_split ({ frames := 2, cells := 0, slots := 0, locals := 44 } : Room) (va_Pc [.ref a_t, .int x1, .int x2] (zPre D (zT cB cI cZ) [(a_t, .inr (11, [.int t_thrown, .ref a_t_now, .ref a_t_kept, .int t_isKept, .ref a_t_text, .int t_length, .ref a_t_passing, .int t_at, .int t_fault, .int t_open, .int t_asked, .int t_byGun, .int t_prizeMost, .ref a_t_order, .ref a_t_times, .int t_listed])), (a_t_now, .inl (cI, 1562, .inl t_now))] sz)) (zQi r0 D (zT cB cI cZ) [(a_t, .inr (11, [.int t_thrown', .ref a_t_now, .ref a_t_kept, .int t_isKept, .ref a_t_text, .int t_length, .ref a_t_passing, .int t_at, .int t_fault, .int t_open, .int t_asked, .int t_byGun, .int t_prizeMost, .ref a_t_order, .ref a_t_times, .int t_listed])), (a_t_now, .inl (cI, 1562, .inl t_now))] (va_A [(a_t, .inr (11, [.int t_thrown, .ref a_t_now, .ref a_t_kept, .int t_isKept, .ref a_t_text, .int t_length, .ref a_t_passing, .int t_at, .int t_fault, .int t_open, .int t_asked, .int t_byGun, .int t_prizeMost, .ref a_t_order, .ref a_t_times, .int t_listed])), (a_t_now, .inl (cI, 1562, .inl t_now))] sz)) 0 0 (va_A [(a_t, .inr (11, [.int t_thrown, .ref a_t_now, .ref a_t_kept, .int t_isKept, .ref a_t_text, .int t_length, .ref a_t_passing, .int t_at, .int t_fault, .int t_open, .int t_asked, .int t_byGun, .int t_prizeMost, .ref a_t_order, .ref a_t_times, .int t_listed])), (a_t_now, .inl (cI, 1562, .inl t_now))] sz) := by
  refine Met.ofW (cc := cX11_split) (maxL := 3) (ret := (some .int)) (by decide) rfl ?_
  intro p e s m args below meth c s₁ B hml hv
  obtain ⟨rfl, hsz, hP, hK, hN, hZ, hD0⟩ := hv
  have hx := B.exec
  have hb := B.bytes
  have hr := B.returns
  have hts := atoms_spec (ws := wsX11_split) B.pre
  have hown : s.vm.findClass RX11 = some m.cls := findClass_of_methodNamed B.named
  have hlocks := B.notSynchronized
  subst hsz
  have hD := hD0.self (sz := s.heap.size)
  generalize hAe : va_A [(a_t, .inr (11, [.int t_thrown, .ref a_t_now, .ref a_t_kept, .int t_isKept, .ref a_t_text, .int t_length, .ref a_t_passing, .int t_at, .int t_fault, .int t_open, .int t_asked, .int t_byGun, .int t_prizeMost, .ref a_t_order, .ref a_t_times, .int t_listed])), (a_t_now, .inl (cI, 1562, .inl t_now))] s.heap.size = A at hD hZ ⊢
  have hA : ∀ q : Nat, s.heap.size ≤ q → A q := fun q h => by rw [← hAe]; exact Or.inr h
  have hS : va_S A s.heap s.heap [] := va_S.rf
  have hl := lv_entry ([.ref a_t, .int x1, .int x2]) (n := 3) (Nat.le_of_ble_eq_true rfl)
  rw [lg_entry_eq]
  generalize (lg_sl ([.ref a_t, .int x1, .int x2]) ++ List.replicate (3 - (lg_sl ([.ref a_t, .int x1, .int x2])).length) Slot.unset).toArray = ls at hl ⊢
  have hl : lv_has ls 3 [(0, .ref a_t), (1, .int x1), (2, .int x2)] := hl
  unfold fX11_split at h
  refine lv_aload_n hx hb dX11_split_0 rfl (lv_at hl 0 rfl) ?_
  refine lv_iload_n hx hb dX11_split_1 rfl (lv_at hl 1 rfl) ?_
  obtain ⟨⟨b1, t_thrown_r2⟩, e3, h⟩ := zz_b h
  dsimp only at h
  refine zVi (As := [.int x1]) (rest := []) (C := RX11) (wr := []) [0, 1] [] 0 ⟨hx, hb, hml, hown, hts⟩ (mX11_isRunner l D cB cI cZ a_t a_t_now a_t_kept a_t_text a_t_passing a_t_order a_t_times t_thrown t_isKept t_length t_at t_fault t_open t_asked t_byGun t_prizeMost t_listed t_now s.heap.size x1 b1 t_thrown_r2 e3) (cwV 1 hts gX11_split_X11_isRunner rfl rfl rfl (by decide +kernel) ⟨Nat.le_of_ble_eq_true rfl, Nat.le_of_ble_eq_true rfl⟩) hK hN hZ hP hD hS hA rfl rfl rfl rfl rfl rfl rfl rfl hl.1 rfl (lv_room (Nat.le_of_ble_eq_true rfl)) dX11_split_2 ⟨Nat.le_of_ble_eq_true rfl, Nat.le_of_ble_eq_true rfl⟩ (fun H locs hP hD hS => ?_)
  have hP : va_P D vwCl [(a_t, .inr (11, [.int t_thrown_r2, .ref a_t_now, .ref a_t_kept, .int t_isKept, .ref a_t_text, .int t_length, .ref a_t_passing, .int t_at, .int t_fault, .int t_open, .int t_asked, .int t_byGun, .int t_prizeMost, .ref a_t_order, .ref a_t_times, .int t_listed])), (a_t_now, .inl (cI, 1562, .inl t_now))] H := hP
  have hD : va_D A [(a_t, .inr (11, [.int t_thrown_r2, .ref a_t_now, .ref a_t_kept, .int t_isKept, .ref a_t_text, .int t_length, .ref a_t_passing, .int t_at, .int t_fault, .int t_open, .int t_asked, .int t_byGun, .int t_prizeMost, .ref a_t_order, .ref a_t_times, .int t_listed])), (a_t_now, .inl (cI, 1562, .inl t_now))] := hD
  refine lv_if_eq (tgt := 16) hx hb dX11_split_5 (by decide) (fun c4 => ?_) (fun c4 => ?_)
  · have h := zz_t h c4
    refine lv_iconst (v := (-1 : Int32)) hx hb dX11_split_16 rfl ?_
    refine lv_goto (tgt := 26) hx hb dX11_split_17 (by decide) ?_
    obtain ⟨j0_, g_⟩ := Prod.mk.inj (Option.some.inj h)
    have j1_ := g_
    subst j0_
    subst j1_
    exact W.iret (v := (-1 : Int32)) hx hb hr (fun t ht hW => ⟨⟨_, (), rfl, rfl, zPost.of hP hD hK ht hW [0, 1] rfl rfl rfl⟩, hS.F ht⟩) hS.2.2 dX11_split_26
  · have h := zz_f h c4
    refine lv_aload_n hx hb dX11_split_8 rfl (lv_at hl 0 rfl) ?_
    refine lv_iload_n hx hb dX11_split_9 rfl (lv_at hl 2 rfl) ?_
    obtain ⟨b5, e6, h⟩ := zz_b h
    refine zVi (As := [.int x2]) (rest := []) (C := RX11) (wr := []) [0, 1] [] 0 ⟨hx, hb, hml, hown, hts⟩ (mX11_isMat l D cB cI cZ a_t a_t_now a_t_kept a_t_text a_t_passing a_t_order a_t_times t_thrown_r2 t_isKept t_length t_at t_fault t_open t_asked t_byGun t_prizeMost t_listed t_now H.size x2 b5 e6) (cwV 1 hts gX11_split_X11_isMat rfl rfl rfl (by decide +kernel) ⟨Nat.le_of_ble_eq_true rfl, Nat.le_of_ble_eq_true rfl⟩) hK hN hZ hP hD hS hA rfl rfl rfl rfl rfl rfl rfl rfl hl.1 rfl (lv_room (Nat.le_of_ble_eq_true rfl)) dX11_split_10 ⟨Nat.le_of_ble_eq_true rfl, Nat.le_of_ble_eq_true rfl⟩ (fun H locs hP hD hS => ?_)
    have hP : va_P D vwCl [(a_t, .inr (11, [.int t_thrown_r2, .ref a_t_now, .ref a_t_kept, .int t_isKept, .ref a_t_text, .int t_length, .ref a_t_passing, .int t_at, .int t_fault, .int t_open, .int t_asked, .int t_byGun, .int t_prizeMost, .ref a_t_order, .ref a_t_times, .int t_listed])), (a_t_now, .inl (cI, 1562, .inl t_now))] H := hP
    have hD : va_D A [(a_t, .inr (11, [.int t_thrown_r2, .ref a_t_now, .ref a_t_kept, .int t_isKept, .ref a_t_text, .int t_length, .ref a_t_passing, .int t_at, .int t_fault, .int t_open, .int t_asked, .int t_byGun, .int t_prizeMost, .ref a_t_order, .ref a_t_times, .int t_listed])), (a_t_now, .inl (cI, 1562, .inl t_now))] := hD
    refine lv_if_ne (tgt := 20) hx hb dX11_split_13 (by decide) (fun c7 => ?_) (fun c7 => ?_)
    · have h := zz_f h c7
      refine lv_aload_n hx hb dX11_split_20 rfl (lv_at hl 0 rfl) ?_
      refine lv_iload_n hx hb dX11_split_21 rfl (lv_at hl 1 rfl) ?_
      refine lv_iload_n hx hb dX11_split_22 rfl (lv_at hl 2 rfl) ?_
      obtain ⟨r8, e9, h⟩ := zz_b h
      refine zVi (As := [.int x1, .int x2]) (rest := []) (C := RX11) (wr := []) [0, 1] [] 0 ⟨hx, hb, hml, hown, hts⟩ (mX11_splitOf l D cB cI cZ a_t a_t_now a_t_kept a_t_text a_t_passing a_t_order a_t_times t_thrown_r2 t_isKept t_length t_at t_fault t_open t_asked t_byGun t_prizeMost t_listed t_now H.size x1 x2 r8 e9) (cwV 2 hts gX11_split_X11_splitOf rfl rfl rfl (by decide +kernel) ⟨Nat.le_of_ble_eq_true rfl, Nat.le_of_ble_eq_true rfl⟩) hK hN hZ hP hD hS hA rfl rfl rfl rfl rfl rfl rfl rfl hl.1 rfl (lv_room (Nat.le_of_ble_eq_true rfl)) dX11_split_23 ⟨Nat.le_of_ble_eq_true rfl, Nat.le_of_ble_eq_true rfl⟩ (fun H locs hP hD hS => ?_)
      have hP : va_P D vwCl [(a_t, .inr (11, [.int t_thrown_r2, .ref a_t_now, .ref a_t_kept, .int t_isKept, .ref a_t_text, .int t_length, .ref a_t_passing, .int t_at, .int t_fault, .int t_open, .int t_asked, .int t_byGun, .int t_prizeMost, .ref a_t_order, .ref a_t_times, .int t_listed])), (a_t_now, .inl (cI, 1562, .inl t_now))] H := hP
      have hD : va_D A [(a_t, .inr (11, [.int t_thrown_r2, .ref a_t_now, .ref a_t_kept, .int t_isKept, .ref a_t_text, .int t_length, .ref a_t_passing, .int t_at, .int t_fault, .int t_open, .int t_asked, .int t_byGun, .int t_prizeMost, .ref a_t_order, .ref a_t_times, .int t_listed])), (a_t_now, .inl (cI, 1562, .inl t_now))] := hD
      obtain ⟨j0_, g_⟩ := Prod.mk.inj (Option.some.inj h)
      have j1_ := g_
      subst j0_
      subst j1_
      exact W.iret (v := r8) hx hb hr (fun t ht hW => ⟨⟨_, (), rfl, rfl, zPost.of hP hD hK ht hW [0, 1] rfl rfl rfl⟩, hS.F ht⟩) hS.2.2 dX11_split_26
    · have h := zz_t h c7
      refine lv_iconst (v := (-1 : Int32)) hx hb dX11_split_16 rfl ?_
      refine lv_goto (tgt := 26) hx hb dX11_split_17 (by decide) ?_
      obtain ⟨j0_, g_⟩ := Prod.mk.inj (Option.some.inj h)
      have j1_ := g_
      subst j0_
      subst j1_
      exact W.iret (v := (-1 : Int32)) hx hb hr (fun t ht hW => ⟨⟨_, (), rfl, rfl, zPost.of hP hD hK ht hW [0, 1] rfl rfl rfl⟩, hS.F ht⟩) hS.2.2 dX11_split_26
/-! RunDeskModel.guessOf -/
theorem dX11_guessOf_0 : decode cX11_guessOf 0 = .ok (.aload_n 0, 1) := by decide +kernel
theorem dX11_guessOf_1 : decode cX11_guessOf 1 = .ok (.iload_n 1, 1) := by decide +kernel
theorem dX11_guessOf_2 : decode cX11_guessOf 2 = .ok (.iload_n 2, 1) := by decide +kernel
theorem dX11_guessOf_3 : decode cX11_guessOf 3 = .ok (.invokevirtual 95, 3) := by decide +kernel
theorem dX11_guessOf_6 : decode cX11_guessOf 6 = .ok (.iconst (-1), 1) := by decide +kernel
theorem dX11_guessOf_7 : decode cX11_guessOf 7 = .ok (.if_icmp .eq 10, 3) := by decide +kernel
theorem dX11_guessOf_10 : decode cX11_guessOf 10 = .ok (.aload_n 0, 1) := by decide +kernel
theorem dX11_guessOf_11 : decode cX11_guessOf 11 = .ok (.iload_n 1, 1) := by decide +kernel
theorem dX11_guessOf_12 : decode cX11_guessOf 12 = .ok (.iload_n 2, 1) := by decide +kernel
theorem dX11_guessOf_13 : decode cX11_guessOf 13 = .ok (.invokevirtual 95, 3) := by decide +kernel
theorem dX11_guessOf_16 : decode cX11_guessOf 16 = .ok (.ireturn, 1) := by decide +kernel
theorem dX11_guessOf_17 : decode cX11_guessOf 17 = .ok (.iload_n 2, 1) := by decide +kernel
theorem dX11_guessOf_18 : decode cX11_guessOf 18 = .ok (.iconst 1, 1) := by decide +kernel
theorem dX11_guessOf_19 : decode cX11_guessOf 19 = .ok (.isub, 1) := by decide +kernel
theorem dX11_guessOf_20 : decode cX11_guessOf 20 = .ok (.istore 4, 2) := by decide +kernel
theorem dX11_guessOf_22 : decode cX11_guessOf 22 = .ok (.iload 4, 2) := by decide +kernel
theorem dX11_guessOf_24 : decode cX11_guessOf 24 = .ok (.ifCond .lt 20, 3) := by decide +kernel
theorem dX11_guessOf_27 : decode cX11_guessOf 27 = .ok (.aload_n 0, 1) := by decide +kernel
theorem dX11_guessOf_28 : decode cX11_guessOf 28 = .ok (.iload_n 1, 1) := by decide +kernel
theorem dX11_guessOf_29 : decode cX11_guessOf 29 = .ok (.iload 4, 2) := by decide +kernel
theorem dX11_guessOf_31 : decode cX11_guessOf 31 = .ok (.invokevirtual 95, 3) := by decide +kernel
theorem dX11_guessOf_34 : decode cX11_guessOf 34 = .ok (.iconst (-1), 1) := by decide +kernel
theorem dX11_guessOf_35 : decode cX11_guessOf 35 = .ok (.if_icmp .ne 9, 3) := by decide +kernel
theorem dX11_guessOf_38 : decode cX11_guessOf 38 = .ok (.iinc 4 (-1), 3) := by decide +kernel
theorem dX11_guessOf_41 : decode cX11_guessOf 41 = .ok (.goto (-19), 3) := by decide +kernel
theorem dX11_guessOf_44 : decode cX11_guessOf 44 = .ok (.iload 4, 2) := by decide +kernel
theorem dX11_guessOf_46 : decode cX11_guessOf 46 = .ok (.ifCond .ge 5, 3) := by decide +kernel
theorem dX11_guessOf_49 : decode cX11_guessOf 49 = .ok (.iconst (-1), 1) := by decide +kernel
theorem dX11_guessOf_50 : decode cX11_guessOf 50 = .ok (.ireturn, 1) := by decide +kernel
theorem dX11_guessOf_51 : decode cX11_guessOf 51 = .ok (.iload_n 2, 1) := by decide +kernel
theorem dX11_guessOf_52 : decode cX11_guessOf 52 = .ok (.iconst 1, 1) := by decide +kernel
theorem dX11_guessOf_53 : decode cX11_guessOf 53 = .ok (.iadd, 1) := by decide +kernel
theorem dX11_guessOf_54 : decode cX11_guessOf 54 = .ok (.istore 5, 2) := by decide +kernel
theorem dX11_guessOf_56 : decode cX11_guessOf 56 = .ok (.iload 5, 2) := by decide +kernel
theorem dX11_guessOf_58 : decode cX11_guessOf 58 = .ok (.aload_n 0, 1) := by decide +kernel
theorem dX11_guessOf_59 : decode cX11_guessOf 59 = .ok (.invokevirtual 41, 3) := by decide +kernel
theorem dX11_guessOf_62 : decode cX11_guessOf 62 = .ok (.if_icmp .ge 20, 3) := by decide +kernel
theorem dX11_guessOf_65 : decode cX11_guessOf 65 = .ok (.aload_n 0, 1) := by decide +kernel
theorem dX11_guessOf_66 : decode cX11_guessOf 66 = .ok (.iload_n 1, 1) := by decide +kernel
theorem dX11_guessOf_67 : decode cX11_guessOf 67 = .ok (.iload 5, 2) := by decide +kernel
theorem dX11_guessOf_69 : decode cX11_guessOf 69 = .ok (.invokevirtual 95, 3) := by decide +kernel
theorem dX11_guessOf_72 : decode cX11_guessOf 72 = .ok (.iconst (-1), 1) := by decide +kernel
theorem dX11_guessOf_73 : decode cX11_guessOf 73 = .ok (.if_icmp .ne 9, 3) := by decide +kernel
theorem dX11_guessOf_76 : decode cX11_guessOf 76 = .ok (.iinc 5 1, 3) := by decide +kernel
theorem dX11_guessOf_79 : decode cX11_guessOf 79 = .ok (.goto (-23), 3) := by decide +kernel
theorem dX11_guessOf_82 : decode cX11_guessOf 82 = .ok (.getstatic 112, 3) := by decide +kernel
theorem dX11_guessOf_85 : decode cX11_guessOf 85 = .ok (.aload_n 0, 1) := by decide +kernel
theorem dX11_guessOf_86 : decode cX11_guessOf 86 = .ok (.iload_n 1, 1) := by decide +kernel
theorem dX11_guessOf_87 : decode cX11_guessOf 87 = .ok (.iconst 0, 1) := by decide +kernel
theorem dX11_guessOf_88 : decode cX11_guessOf 88 = .ok (.invokevirtual 62, 3) := by decide +kernel
theorem dX11_guessOf_91 : decode cX11_guessOf 91 = .ok (.iaload, 1) := by decide +kernel
theorem dX11_guessOf_92 : decode cX11_guessOf 92 = .ok (.istore 6, 2) := by decide +kernel
theorem dX11_guessOf_94 : decode cX11_guessOf 94 = .ok (.getstatic 115, 3) := by decide +kernel
theorem dX11_guessOf_97 : decode cX11_guessOf 97 = .ok (.aload_n 0, 1) := by decide +kernel
theorem dX11_guessOf_98 : decode cX11_guessOf 98 = .ok (.iload_n 1, 1) := by decide +kernel
theorem dX11_guessOf_99 : decode cX11_guessOf 99 = .ok (.iconst 0, 1) := by decide +kernel
theorem dX11_guessOf_100 : decode cX11_guessOf 100 = .ok (.invokevirtual 62, 3) := by decide +kernel
theorem dX11_guessOf_103 : decode cX11_guessOf 103 = .ok (.iaload, 1) := by decide +kernel
theorem dX11_guessOf_104 : decode cX11_guessOf 104 = .ok (.istore 7, 2) := by decide +kernel
theorem dX11_guessOf_106 : decode cX11_guessOf 106 = .ok (.aload_n 0, 1) := by decide +kernel
theorem dX11_guessOf_107 : decode cX11_guessOf 107 = .ok (.iload_n 2, 1) := by decide +kernel
theorem dX11_guessOf_108 : decode cX11_guessOf 108 = .ok (.iconst 0, 1) := by decide +kernel
theorem dX11_guessOf_109 : decode cX11_guessOf 109 = .ok (.invokevirtual 56, 3) := by decide +kernel
theorem dX11_guessOf_112 : decode cX11_guessOf 112 = .ok (.aload_n 0, 1) := by decide +kernel
theorem dX11_guessOf_113 : decode cX11_guessOf 113 = .ok (.iload 4, 2) := by decide +kernel
theorem dX11_guessOf_115 : decode cX11_guessOf 115 = .ok (.iconst 0, 1) := by decide +kernel
theorem dX11_guessOf_116 : decode cX11_guessOf 116 = .ok (.invokevirtual 56, 3) := by decide +kernel
theorem dX11_guessOf_119 : decode cX11_guessOf 119 = .ok (.isub, 1) := by decide +kernel
theorem dX11_guessOf_120 : decode cX11_guessOf 120 = .ok (.istore 8, 2) := by decide +kernel
theorem dX11_guessOf_122 : decode cX11_guessOf 122 = .ok (.aload_n 0, 1) := by decide +kernel
theorem dX11_guessOf_123 : decode cX11_guessOf 123 = .ok (.iload_n 1, 1) := by decide +kernel
theorem dX11_guessOf_124 : decode cX11_guessOf 124 = .ok (.iload 4, 2) := by decide +kernel
theorem dX11_guessOf_126 : decode cX11_guessOf 126 = .ok (.invokevirtual 95, 3) := by decide +kernel
theorem dX11_guessOf_129 : decode cX11_guessOf 129 = .ok (.iload_n 3, 1) := by decide +kernel
theorem dX11_guessOf_130 : decode cX11_guessOf 130 = .ok (.ifCond .eq 13, 3) := by decide +kernel
theorem dX11_guessOf_133 : decode cX11_guessOf 133 = .ok (.iload 8, 2) := by decide +kernel
theorem dX11_guessOf_135 : decode cX11_guessOf 135 = .ok (.iload 7, 2) := by decide +kernel
theorem dX11_guessOf_137 : decode cX11_guessOf 137 = .ok (.invokestatic 105, 3) := by decide +kernel
theorem dX11_guessOf_140 : decode cX11_guessOf 140 = .ok (.goto 10, 3) := by decide +kernel
theorem dX11_guessOf_143 : decode cX11_guessOf 143 = .ok (.iload 8, 2) := by decide +kernel
theorem dX11_guessOf_145 : decode cX11_guessOf 145 = .ok (.iload 6, 2) := by decide +kernel
theorem dX11_guessOf_147 : decode cX11_guessOf 147 = .ok (.invokestatic 118, 3) := by decide +kernel
theorem dX11_guessOf_150 : decode cX11_guessOf 150 = .ok (.iadd, 1) := by decide +kernel
theorem dX11_guessOf_151 : decode cX11_guessOf 151 = .ok (.istore 9, 2) := by decide +kernel
theorem dX11_guessOf_153 : decode cX11_guessOf 153 = .ok (.iload 5, 2) := by decide +kernel
theorem dX11_guessOf_155 : decode cX11_guessOf 155 = .ok (.aload_n 0, 1) := by decide +kernel
theorem dX11_guessOf_156 : decode cX11_guessOf 156 = .ok (.invokevirtual 41, 3) := by decide +kernel
theorem dX11_guessOf_159 : decode cX11_guessOf 159 = .ok (.if_icmp .ge 73, 3) := by decide +kernel
theorem dX11_guessOf_162 : decode cX11_guessOf 162 = .ok (.aload_n 0, 1) := by decide +kernel
theorem dX11_guessOf_163 : decode cX11_guessOf 163 = .ok (.iload 5, 2) := by decide +kernel
theorem dX11_guessOf_165 : decode cX11_guessOf 165 = .ok (.iconst 0, 1) := by decide +kernel
theorem dX11_guessOf_166 : decode cX11_guessOf 166 = .ok (.invokevirtual 56, 3) := by decide +kernel
theorem dX11_guessOf_169 : decode cX11_guessOf 169 = .ok (.aload_n 0, 1) := by decide +kernel
theorem dX11_guessOf_170 : decode cX11_guessOf 170 = .ok (.iload_n 2, 1) := by decide +kernel
theorem dX11_guessOf_171 : decode cX11_guessOf 171 = .ok (.iconst 0, 1) := by decide +kernel
theorem dX11_guessOf_172 : decode cX11_guessOf 172 = .ok (.invokevirtual 56, 3) := by decide +kernel
theorem dX11_guessOf_175 : decode cX11_guessOf 175 = .ok (.isub, 1) := by decide +kernel
theorem dX11_guessOf_176 : decode cX11_guessOf 176 = .ok (.istore 8, 2) := by decide +kernel
theorem dX11_guessOf_178 : decode cX11_guessOf 178 = .ok (.aload_n 0, 1) := by decide +kernel
theorem dX11_guessOf_179 : decode cX11_guessOf 179 = .ok (.iload_n 1, 1) := by decide +kernel
theorem dX11_guessOf_180 : decode cX11_guessOf 180 = .ok (.iload 5, 2) := by decide +kernel
theorem dX11_guessOf_182 : decode cX11_guessOf 182 = .ok (.invokevirtual 95, 3) := by decide +kernel
theorem dX11_guessOf_185 : decode cX11_guessOf 185 = .ok (.iload_n 3, 1) := by decide +kernel
theorem dX11_guessOf_186 : decode cX11_guessOf 186 = .ok (.ifCond .eq 13, 3) := by decide +kernel
theorem dX11_guessOf_189 : decode cX11_guessOf 189 = .ok (.iload 8, 2) := by decide +kernel
theorem dX11_guessOf_191 : decode cX11_guessOf 191 = .ok (.iload 6, 2) := by decide +kernel
theorem dX11_guessOf_193 : decode cX11_guessOf 193 = .ok (.invokestatic 118, 3) := by decide +kernel
theorem dX11_guessOf_196 : decode cX11_guessOf 196 = .ok (.goto 10, 3) := by decide +kernel
theorem dX11_guessOf_199 : decode cX11_guessOf 199 = .ok (.iload 8, 2) := by decide +kernel
theorem dX11_guessOf_201 : decode cX11_guessOf 201 = .ok (.iload 7, 2) := by decide +kernel
theorem dX11_guessOf_203 : decode cX11_guessOf 203 = .ok (.invokestatic 105, 3) := by decide +kernel
theorem dX11_guessOf_206 : decode cX11_guessOf 206 = .ok (.isub, 1) := by decide +kernel
theorem dX11_guessOf_207 : decode cX11_guessOf 207 = .ok (.istore 10, 2) := by decide +kernel
theorem dX11_guessOf_209 : decode cX11_guessOf 209 = .ok (.iload_n 3, 1) := by decide +kernel
theorem dX11_guessOf_210 : decode cX11_guessOf 210 = .ok (.ifCond .eq 13, 3) := by decide +kernel
theorem dX11_guessOf_213 : decode cX11_guessOf 213 = .ok (.iload 9, 2) := by decide +kernel
theorem dX11_guessOf_215 : decode cX11_guessOf 215 = .ok (.iload 10, 2) := by decide +kernel
theorem dX11_guessOf_217 : decode cX11_guessOf 217 = .ok (.invokestatic 121, 3) := by decide +kernel
theorem dX11_guessOf_220 : decode cX11_guessOf 220 = .ok (.goto 10, 3) := by decide +kernel
theorem dX11_guessOf_223 : decode cX11_guessOf 223 = .ok (.iload 9, 2) := by decide +kernel
theorem dX11_guessOf_225 : decode cX11_guessOf 225 = .ok (.iload 10, 2) := by decide +kernel
theorem dX11_guessOf_227 : decode cX11_guessOf 227 = .ok (.invokestatic 126, 3) := by decide +kernel
theorem dX11_guessOf_230 : decode cX11_guessOf 230 = .ok (.istore 9, 2) := by decide +kernel
theorem dX11_guessOf_232 : decode cX11_guessOf 232 = .ok (.iconst 0, 1) := by decide +kernel
theorem dX11_guessOf_233 : decode cX11_guessOf 233 = .ok (.iload 9, 2) := by decide +kernel
theorem dX11_guessOf_235 : decode cX11_guessOf 235 = .ok (.invokestatic 126, 3) := by decide +kernel
theorem dX11_guessOf_238 : decode cX11_guessOf 238 = .ok (.ireturn, 1) := by decide +kernel
set_option maxRecDepth 20000 in
theorem ggX11_guessOf_X11_seen : GoodIn wsX11_guessOf wsX11_seen := goodIn_sub (List.forall_mem_cons.mpr ⟨List.mem_cons_of_mem _ (List.mem_append_left _ (List.mem_append_left _ (List.mem_of_getElem? (l := wsX11_guessOf_r1) (i := 13) rfl))), (List.forall_mem_append.mpr ⟨(List.forall_mem_cons.mpr ⟨List.mem_cons_of_mem _ (List.mem_append_left _ (List.mem_append_left _ (List.mem_of_getElem? (l := wsX11_guessOf_r1) (i := 14) rfl))), (List.forall_mem_cons.mpr ⟨List.mem_cons_of_mem _ (List.mem_append_left _ (List.mem_append_left _ (List.mem_of_getElem? (l := wsX11_guessOf_r1) (i := 15) rfl))), (List.forall_mem_cons.mpr ⟨List.mem_cons_of_mem _ (List.mem_append_left _ (List.mem_append_left _ (List.mem_of_getElem? (l := wsX11_guessOf_r1) (i := 16) rfl))), (List.forall_mem_cons.mpr ⟨List.mem_cons_of_mem _ (List.mem_append_left _ (List.mem_append_left _ (List.mem_of_getElem? (l := wsX11_guessOf_r1) (i := 12) rfl))), (List.forall_mem_cons.mpr ⟨List.mem_cons_of_mem _ (List.mem_append_left _ (List.mem_append_left _ (List.mem_of_getElem? (l := wsX11_guessOf_r1) (i := 17) rfl))), (List.forall_mem_cons.mpr ⟨List.mem_cons_of_mem _ (List.mem_append_left _ (List.mem_append_left _ (List.mem_of_getElem? (l := wsX11_guessOf_r1) (i := 18) rfl))), (List.forall_mem_cons.mpr ⟨List.mem_cons_of_mem _ (List.mem_append_left _ (List.mem_append_left _ (List.mem_of_getElem? (l := wsX11_guessOf_r1) (i := 19) rfl))), (List.forall_mem_cons.mpr ⟨List.mem_cons_of_mem _ (List.mem_append_left _ (List.mem_append_left _ (List.mem_of_getElem? (l := wsX11_guessOf_r1) (i := 20) rfl))), (List.forall_mem_cons.mpr ⟨List.mem_cons_of_mem _ (List.mem_append_left _ (List.mem_append_left _ (List.mem_of_getElem? (l := wsX11_guessOf_r1) (i := 21) rfl))), (List.forall_mem_cons.mpr ⟨List.mem_cons_of_mem _ (List.mem_append_left _ (List.mem_append_left _ (List.mem_of_getElem? (l := wsX11_guessOf_r1) (i := 22) rfl))), (List.forall_mem_cons.mpr ⟨List.mem_cons_of_mem _ (List.mem_append_left _ (List.mem_append_left _ (List.mem_of_getElem? (l := wsX11_guessOf_r1) (i := 23) rfl))), (List.forall_mem_cons.mpr ⟨List.mem_cons_of_mem _ (List.mem_append_left _ (List.mem_append_right _ (List.mem_of_getElem? (l := wsX11_guessOf_r2) (i := 0) rfl))), (List.forall_mem_cons.mpr ⟨List.mem_cons_of_mem _ (List.mem_append_left _ (List.mem_append_right _ (List.mem_of_getElem? (l := wsX11_guessOf_r2) (i := 1) rfl))), (List.forall_mem_cons.mpr ⟨List.mem_cons_of_mem _ (List.mem_append_left _ (List.mem_append_right _ (List.mem_of_getElem? (l := wsX11_guessOf_r2) (i := 2) rfl))), (List.forall_mem_cons.mpr ⟨List.mem_cons_of_mem _ (List.mem_append_left _ (List.mem_append_right _ (List.mem_of_getElem? (l := wsX11_guessOf_r2) (i := 3) rfl))), (List.forall_mem_cons.mpr ⟨List.mem_cons_of_mem _ (List.mem_append_left _ (List.mem_append_right _ (List.mem_of_getElem? (l := wsX11_guessOf_r2) (i := 4) rfl))), (List.forall_mem_cons.mpr ⟨List.mem_cons_of_mem _ (List.mem_append_left _ (List.mem_append_right _ (List.mem_of_getElem? (l := wsX11_guessOf_r2) (i := 5) rfl))), (List.forall_mem_cons.mpr ⟨List.mem_cons_of_mem _ (List.mem_append_left _ (List.mem_append_right _ (List.mem_of_getElem? (l := wsX11_guessOf_r2) (i := 6) rfl))), (fun _ h => nomatch h)⟩)⟩)⟩)⟩)⟩)⟩)⟩)⟩)⟩)⟩)⟩)⟩)⟩)⟩)⟩)⟩)⟩)⟩), (fun _ h => List.mem_cons_of_mem _ (List.mem_append_right _ (h)))⟩)⟩) (by decide +kernel)
set_option maxRecDepth 20000 in
theorem gX11_guessOf_X11_seen : GoodIn wsX11_guessOf (wsV RX11 95 RX11 yX11_seen wsX11_seen) := goodIn_app (goodIn_of _ (by decide +kernel)) ggX11_guessOf_X11_seen
set_option maxRecDepth 20000 in
theorem ggX11_guessOf_X11_mats : GoodIn wsX11_guessOf wsX11_mats := goodIn_sub (List.forall_mem_cons.mpr ⟨List.mem_cons_of_mem _ (List.mem_append_left _ (List.mem_append_right _ (List.mem_of_getElem? (l := wsX11_guessOf_r2) (i := 10) rfl))), (List.forall_mem_append.mpr ⟨(List.forall_mem_cons.mpr ⟨List.mem_cons_of_mem _ (List.mem_append_left _ (List.mem_append_right _ (List.mem_of_getElem? (l := wsX11_guessOf_r2) (i := 2) rfl))), (fun _ h => nomatch h)⟩), (fun _ h => List.mem_cons_of_mem _ (List.mem_append_right _ (h)))⟩)⟩) (by decide +kernel)
set_option maxRecDepth 20000 in
theorem gX11_guessOf_X11_mats : GoodIn wsX11_guessOf (wsV RX11 41 RX11 yX11_mats wsX11_mats) := goodIn_app (goodIn_of _ (by decide +kernel)) ggX11_guessOf_X11_mats
set_option maxRecDepth 20000 in
theorem ggX11_guessOf_X11_of : GoodIn wsX11_guessOf wsX11_of := goodIn_sub (List.forall_mem_cons.mpr ⟨List.mem_cons_of_mem _ (List.mem_append_left _ (List.mem_append_right _ (List.mem_of_getElem? (l := wsX11_guessOf_r2) (i := 1) rfl))), (List.forall_mem_append.mpr ⟨(List.forall_mem_cons.mpr ⟨List.mem_cons_of_mem _ (List.mem_append_left _ (List.mem_append_right _ (List.mem_of_getElem? (l := wsX11_guessOf_r2) (i := 2) rfl))), (fun _ h => nomatch h)⟩), (fun _ h => List.mem_cons_of_mem _ (List.mem_append_right _ (h)))⟩)⟩) (by decide +kernel)
set_option maxRecDepth 20000 in
theorem gX11_guessOf_X11_of : GoodIn wsX11_guessOf (wsV RX11 62 RX11 yX11_of wsX11_of) := goodIn_app (goodIn_of _ (by decide +kernel)) ggX11_guessOf_X11_of
set_option maxRecDepth 20000 in
theorem ggX11_guessOf_X11_ofMat : GoodIn wsX11_guessOf wsX11_ofMat := goodIn_sub (List.forall_mem_cons.mpr ⟨List.mem_cons_of_mem _ (List.mem_append_left _ (List.mem_append_right _ (List.mem_of_getElem? (l := wsX11_guessOf_r2) (i := 14) rfl))), (List.forall_mem_append.mpr ⟨(List.forall_mem_cons.mpr ⟨List.mem_cons_of_mem _ (List.mem_append_left _ (List.mem_append_right _ (List.mem_of_getElem? (l := wsX11_guessOf_r2) (i := 2) rfl))), (fun _ h => nomatch h)⟩), (fun _ h => List.mem_cons_of_mem _ (List.mem_append_right _ (h)))⟩)⟩) (by decide +kernel)
set_option maxRecDepth 20000 in
theorem gX11_guessOf_X11_ofMat : GoodIn wsX11_guessOf (wsV RX11 56 RX11 yX11_ofMat wsX11_ofMat) := goodIn_app (goodIn_of _ (by decide +kernel)) ggX11_guessOf_X11_ofMat
set_option maxRecDepth 20000 in
theorem ggX11_guessOf_X11_made : GoodIn wsX11_guessOf wsX11_made := goodIn_sub (List.forall_mem_cons.mpr ⟨List.mem_cons_of_mem _ (List.mem_append_left _ (List.mem_append_right _ (List.mem_of_getElem? (l := wsX11_guessOf_r2) (i := 17) rfl))), (List.forall_mem_cons.mpr ⟨List.mem_cons_of_mem _ (List.mem_append_left _ (List.mem_append_right _ (List.mem_of_getElem? (l := wsX11_guessOf_r2) (i := 18) rfl))), (fun _ h => nomatch h)⟩)⟩) (by decide +kernel)
set_option maxRecDepth 20000 in
theorem gX11_guessOf_X11_made : GoodIn wsX11_guessOf (va_wsS RX11 105 yX11_made wsX11_made) := goodIn_app (goodIn_of _ (by decide +kernel)) ggX11_guessOf_X11_made
set_option maxRecDepth 20000 in
theorem ggX11_guessOf_X11_madeUp : GoodIn wsX11_guessOf wsX11_madeUp := goodIn_sub (List.forall_mem_cons.mpr ⟨List.mem_cons_of_mem _ (List.mem_append_left _ (List.mem_append_right _ (List.mem_of_getElem? (l := wsX11_guessOf_r2) (i := 21) rfl))), (List.forall_mem_cons.mpr ⟨List.mem_cons_of_mem _ (List.mem_append_left _ (List.mem_append_right _ (List.mem_of_getElem? (l := wsX11_guessOf_r2) (i := 22) rfl))), (List.forall_mem_cons.mpr ⟨List.mem_cons_of_mem _ (List.mem_append_left _ (List.mem_append_right _ (List.mem_of_getElem? (l := wsX11_guessOf_r2) (i := 18) rfl))), (fun _ h => nomatch h)⟩)⟩)⟩) (by decide +kernel)
set_option maxRecDepth 20000 in
theorem gX11_guessOf_X11_madeUp : GoodIn wsX11_guessOf (va_wsS RX11 118 yX11_madeUp wsX11_madeUp) := goodIn_app (goodIn_of _ (by decide +kernel)) ggX11_guessOf_X11_madeUp
theorem kX11_guessOf_0 : (.fieldLink RX11 112 "RunDeskModel" "LEAST" "[I" : Cond) ∈ wsX11_guessOf := List.mem_of_getElem? (i := 1) (by decide +kernel)
theorem kX11_guessOf_1 : (.fieldLink RX11 115 "RunDeskModel" "GREATEST" "[I" : Cond) ∈ wsX11_guessOf := List.mem_of_getElem? (i := 2) (by decide +kernel)
theorem kX11_guessOf_2 : (.methodLink RX11 126 Lib.Math.max.name : Cond) ∈ wsX11_guessOf := List.mem_of_getElem? (i := 7) (by decide +kernel)
theorem kX11_guessOf_3 : (.static Lib.Math.max.name : Cond) ∈ wsX11_guessOf := List.mem_of_getElem? (i := 8) (by decide +kernel)
theorem kX11_guessOf_4 : (.initialized "java/lang/Math" : Cond) ∈ wsX11_guessOf := List.mem_of_getElem? (i := 5) (by decide +kernel)
theorem kX11_guessOf_5 : (.code Lib.Math.max.name Lib.Math.max.code 2 (some .int) : Cond) ∈ wsX11_guessOf := List.mem_of_getElem? (i := 9) (by decide +kernel)
theorem kX11_guessOf_6 : (.methodLink RX11 121 Lib.Math.min.name : Cond) ∈ wsX11_guessOf := List.mem_of_getElem? (i := 3) (by decide +kernel)
theorem kX11_guessOf_7 : (.static Lib.Math.min.name : Cond) ∈ wsX11_guessOf := List.mem_of_getElem? (i := 4) (by decide +kernel)
theorem kX11_guessOf_8 : (.code Lib.Math.min.name Lib.Math.min.code 2 (some .int) : Cond) ∈ wsX11_guessOf := List.mem_of_getElem? (i := 6) (by decide +kernel)
set_option maxHeartbeats 4000000 in
set_option maxRecDepth 100000 in
theorem mX11_guessOf (l : Launch) (D : va_G) (cB cI cZ : ClassId) (a_t : Nat) (a_t_now : Nat) (a_t_kept : Nat) (a_t_text : Nat) (a_t_passing : Nat) (a_t_order : Nat) (a_t_times : Nat) (t_thrown : Int32) (t_isKept : Int32) (t_length : Int32) (t_at : Int32) (t_fault : Int32) (t_open : Int32) (t_asked : Int32) (t_byGun : Int32) (t_prizeMost : Int32) (t_listed : Int32) (t_now : Nat → Int32) (sz : Nat) (x1 : Int32) (x2 : Int32) (x3 : Int32) (N : Nat) (r0 : Int32) (h : fX11_guessOf N t_now x1 x2 x3 = some (r0)) : Met l yX11_guessOf wsX11_guessOf ({ frames := 4, cells := 0, slots := 0, locals := 87 } : Room) (va_Pc [.ref a_t, .int x1, .int x2, .int x3] (zPre D (zT cB cI cZ) [(a_t, .inr (11, [.int t_thrown, .ref a_t_now, .ref a_t_kept, .int t_isKept, .ref a_t_text, .int t_length, .ref a_t_passing, .int t_at, .int t_fault, .int t_open, .int t_asked, .int t_byGun, .int t_prizeMost, .ref a_t_order, .ref a_t_times, .int t_listed])), (a_t_now, .inl (cI, 1562, .inl t_now))] sz)) (zQi r0 D (zT cB cI cZ) [(a_t, .inr (11, [.int t_thrown, .ref a_t_now, .ref a_t_kept, .int t_isKept, .ref a_t_text, .int t_length, .ref a_t_passing, .int t_at, .int t_fault, .int t_open, .int t_asked, .int t_byGun, .int t_prizeMost, .ref a_t_order, .ref a_t_times, .int t_listed])), (a_t_now, .inl (cI, 1562, .inl t_now))] (va_A [(a_t, .inr (11, [.int t_thrown, .ref a_t_now, .ref a_t_kept, .int t_isKept, .ref a_t_text, .int t_length, .ref a_t_passing, .int t_at, .int t_fault, .int t_open, .int t_asked, .int t_byGun, .int t_prizeMost, .ref a_t_order, .ref a_t_times, .int t_listed])), (a_t_now, .inl (cI, 1562, .inl t_now))] sz)) 0 0 (va_A [(a_t, .inr (11, [.int t_thrown, .ref a_t_now, .ref a_t_kept, .int t_isKept, .ref a_t_text, .int t_length, .ref a_t_passing, .int t_at, .int t_fault, .int t_open, .int t_asked, .int t_byGun, .int t_prizeMost, .ref a_t_order, .ref a_t_times, .int t_listed])), (a_t_now, .inl (cI, 1562, .inl t_now))] sz) := by
  refine Met.ofW (cc := cX11_guessOf) (maxL := 11) (ret := (some .int)) (by decide) rfl ?_
  intro p e s m args below meth c s₁ B hml hv
  obtain ⟨rfl, hsz, hP, hK, hN, hZ, hD0⟩ := hv
  have hx := B.exec
  have hb := B.bytes
  have hr := B.returns
  have hts := atoms_spec (ws := wsX11_guessOf) B.pre
  have hown : s.vm.findClass RX11 = some m.cls := findClass_of_methodNamed B.named
  have hlocks := B.notSynchronized
  subst hsz
  have hD := hD0.self (sz := s.heap.size)
  generalize hAe : va_A [(a_t, .inr (11, [.int t_thrown, .ref a_t_now, .ref a_t_kept, .int t_isKept, .ref a_t_text, .int t_length, .ref a_t_passing, .int t_at, .int t_fault, .int t_open, .int t_asked, .int t_byGun, .int t_prizeMost, .ref a_t_order, .ref a_t_times, .int t_listed])), (a_t_now, .inl (cI, 1562, .inl t_now))] s.heap.size = A at hD hZ ⊢
  have hA : ∀ q : Nat, s.heap.size ≤ q → A q := fun q h => by rw [← hAe]; exact Or.inr h
  have hS : va_S A s.heap s.heap [] := va_S.rf
  have hl := lv_entry ([.ref a_t, .int x1, .int x2, .int x3]) (n := 11) (Nat.le_of_ble_eq_true rfl)
  rw [lg_entry_eq]
  generalize (lg_sl ([.ref a_t, .int x1, .int x2, .int x3]) ++ List.replicate (11 - (lg_sl ([.ref a_t, .int x1, .int x2, .int x3])).length) Slot.unset).toArray = ls at hl ⊢
  have hl : lv_has ls 11 [(0, .ref a_t), (1, .int x1), (2, .int x2), (3, .int x3)] := hl
  unfold fX11_guessOf at h
  refine lv_aload_n hx hb dX11_guessOf_0 rfl (lv_at hl 0 rfl) ?_
  refine lv_iload_n hx hb dX11_guessOf_1 rfl (lv_at hl 1 rfl) ?_
  refine lv_iload_n hx hb dX11_guessOf_2 rfl (lv_at hl 2 rfl) ?_
  obtain ⟨r1, e2, h⟩ := zz_b h
  refine zVi (As := [.int x1, .int x2]) (rest := []) (C := RX11) (wr := []) [0, 1] [] 0 ⟨hx, hb, hml, hown, hts⟩ (mX11_seen l D cB cI cZ a_t a_t_now a_t_kept a_t_text a_t_passing a_t_order a_t_times t_thrown t_isKept t_length t_at t_fault t_open t_asked t_byGun t_prizeMost t_listed t_now s.heap.size x1 x2 r1 e2) (cwV 2 hts gX11_guessOf_X11_seen rfl rfl rfl (by decide +kernel) ⟨Nat.le_of_ble_eq_true rfl, Nat.le_of_ble_eq_true rfl⟩) hK hN hZ hP hD hS hA rfl rfl rfl rfl rfl rfl rfl rfl hl.1 rfl (lv_room (Nat.le_of_ble_eq_true rfl)) dX11_guessOf_3 ⟨Nat.le_of_ble_eq_true rfl, Nat.le_of_ble_eq_true rfl⟩ (fun H locs hP hD hS => ?_)
  have hP : va_P D vwCl [(a_t, .inr (11, [.int t_thrown, .ref a_t_now, .ref a_t_kept, .int t_isKept, .ref a_t_text, .int t_length, .ref a_t_passing, .int t_at, .int t_fault, .int t_open, .int t_asked, .int t_byGun, .int t_prizeMost, .ref a_t_order, .ref a_t_times, .int t_listed])), (a_t_now, .inl (cI, 1562, .inl t_now))] H := hP
  have hD : va_D A [(a_t, .inr (11, [.int t_thrown, .ref a_t_now, .ref a_t_kept, .int t_isKept, .ref a_t_text, .int t_length, .ref a_t_passing, .int t_at, .int t_fault, .int t_open, .int t_asked, .int t_byGun, .int t_prizeMost, .ref a_t_order, .ref a_t_times, .int t_listed])), (a_t_now, .inl (cI, 1562, .inl t_now))] := hD
  refine lv_iconst (v := (-1 : Int32)) hx hb dX11_guessOf_6 rfl ?_
  refine lv_icmp_eq (tgt := 17) hx hb dX11_guessOf_7 (by decide) (fun c3 => ?_) (fun c3 => ?_)
  · have h := zz_t h c3
    refine lv_iload_n hx hb dX11_guessOf_17 rfl (lv_at hl 2 rfl) ?_
    refine lv_iconst (v := (nI 1)) hx hb dX11_guessOf_18 rfl ?_
    refine lv_isub hx hb dX11_guessOf_19 ?_
    refine lv_istore (lv' := [(4, .int (x2 - (nI 1))), (0, .ref a_t), (1, .int x1), (2, .int x2), (3, .int x3)]) hx hb dX11_guessOf_20 hl (by decide) rfl (fun ls hl => ?_)
    have X22_44 : ∀ (v4_22 : Int32) (H : Heap) (locs : List Loc) (ls : Array Slot), (if 0 ≤ v4_22 then fX11_guessOf_L56 t_now x1 (fun (v5_56 : Int32) => ((fX11_of t_now x1 (nI 0)).bind (fun r5 => (if zin r5 4 then ((fX11_of t_now x1 (nI 0)).bind (fun r8 => (if zin r8 4 then ((fX11_ofMat t_now x2 (nI 0)).bind (fun r11 => ((fX11_ofMat t_now v4_22 (nI 0)).bind (fun r13 => ((fX11_seen t_now x1 v4_22).bind (fun r15 => (if x3 = 0 then ((fX11_madeUp (r11 - r13) (zfL (r5).toNatClampNeg)).bind (fun r34 => (fX11_guessOf_J150 t_now x1 x2 x3 v5_56 r5 r8 r11 r13 r15 r34))) else ((fX11_made (r11 - r13) (zfG (r8).toNatClampNeg)).bind (fun r36 => (fX11_guessOf_J150 t_now x1 x2 x3 v5_56 r5 r8 r11 r13 r15 r36)))))))))) else none))) else none)))) N (x2 + (nI 1)) else some ((-1 : Int32))) = some (r0) → va_P D vwCl [(a_t, .inr (11, [.int t_thrown, .ref a_t_now, .ref a_t_kept, .int t_isKept, .ref a_t_text, .int t_length, .ref a_t_passing, .int t_at, .int t_fault, .int t_open, .int t_asked, .int t_byGun, .int t_prizeMost, .ref a_t_order, .ref a_t_times, .int t_listed])), (a_t_now, .inl (cI, 1562, .inl t_now))] H → va_D A [(a_t, .inr (11, [.int t_thrown, .ref a_t_now, .ref a_t_kept, .int t_isKept, .ref a_t_text, .int t_length, .ref a_t_passing, .int t_at, .int t_fault, .int t_open, .int t_asked, .int t_byGun, .int t_prizeMost, .ref a_t_order, .ref a_t_times, .int t_listed])), (a_t_now, .inl (cI, 1562, .inl t_now))] → va_S A s.heap H locs → lv_has ls 11 [(4, .int v4_22), (0, .ref a_t), (1, .int x1), (2, .int x2), (3, .int x3)] → W p l e (headSpec wsX11_guessOf ({ frames := 4, cells := 0, slots := 0, locals := 87 } : Room)).room s m #[Value.ref a_t, Value.int x1, Value.int x2, Value.int x3] below meth c H locs 0 0 (MQ below (zQi r0 D (zT cB cI cZ) [(a_t, .inr (11, [.int t_thrown, .ref a_t_now, .ref a_t_kept, .int t_isKept, .ref a_t_text, .int t_length, .ref a_t_passing, .int t_at, .int t_fault, .int t_open, .int t_asked, .int t_byGun, .int t_prizeMost, .ref a_t_order, .ref a_t_times, .int t_listed])), (a_t_now, .inl (cI, 1562, .inl t_now))] A) #[Value.ref a_t, Value.int x1, Value.int x2, Value.int x3] s 0 0 A) (F0 m 44 ls []) := by
      intro v4_22 H locs ls h hP hD hS hl
      refine lv_iload hx hb dX11_guessOf_44 (lv_at hl 0 rfl) ?_
      refine lv_if_ge (tgt := 51) hx hb dX11_guessOf_46 (by decide) (fun c4 => ?_) (fun c4 => ?_)
      · have h := zz_t h c4
        refine lv_iload_n hx hb dX11_guessOf_51 rfl (lv_at hl 3 rfl) ?_
        refine lv_iconst (v := (nI 1)) hx hb dX11_guessOf_52 rfl ?_
        refine lv_iadd hx hb dX11_guessOf_53 ?_
        refine lv_istore (lv' := [(5, .int (x2 + (nI 1))), (4, .int v4_22), (0, .ref a_t), (1, .int x1), (2, .int x2), (3, .int x3)]) hx hb dX11_guessOf_54 hl (by decide) rfl (fun ls hl => ?_)
        have X56_82 : ∀ (v5_56 : Int32) (H : Heap) (locs : List Loc) (ls : Array Slot), ((fX11_of t_now x1 (nI 0)).bind (fun r5 => (if zin r5 4 then ((fX11_of t_now x1 (nI 0)).bind (fun r8 => (if zin r8 4 then ((fX11_ofMat t_now x2 (nI 0)).bind (fun r11 => ((fX11_ofMat t_now v4_22 (nI 0)).bind (fun r13 => ((fX11_seen t_now x1 v4_22).bind (fun r15 => (if x3 = 0 then ((fX11_madeUp (r11 - r13) (zfL (r5).toNatClampNeg)).bind (fun r34 => (fX11_guessOf_J150 t_now x1 x2 x3 v5_56 r5 r8 r11 r13 r15 r34))) else ((fX11_made (r11 - r13) (zfG (r8).toNatClampNeg)).bind (fun r36 => (fX11_guessOf_J150 t_now x1 x2 x3 v5_56 r5 r8 r11 r13 r15 r36)))))))))) else none))) else none))) = some (r0) → va_P D vwCl [(a_t, .inr (11, [.int t_thrown, .ref a_t_now, .ref a_t_kept, .int t_isKept, .ref a_t_text, .int t_length, .ref a_t_passing, .int t_at, .int t_fault, .int t_open, .int t_asked, .int t_byGun, .int t_prizeMost, .ref a_t_order, .ref a_t_times, .int t_listed])), (a_t_now, .inl (cI, 1562, .inl t_now))] H → va_D A [(a_t, .inr (11, [.int t_thrown, .ref a_t_now, .ref a_t_kept, .int t_isKept, .ref a_t_text, .int t_length, .ref a_t_passing, .int t_at, .int t_fault, .int t_open, .int t_asked, .int t_byGun, .int t_prizeMost, .ref a_t_order, .ref a_t_times, .int t_listed])), (a_t_now, .inl (cI, 1562, .inl t_now))] → va_S A s.heap H locs → lv_has ls 11 [(5, .int v5_56), (4, .int v4_22), (0, .ref a_t), (1, .int x1), (2, .int x2), (3, .int x3)] → W p l e (headSpec wsX11_guessOf ({ frames := 4, cells := 0, slots := 0, locals := 87 } : Room)).room s m #[Value.ref a_t, Value.int x1, Value.int x2, Value.int x3] below meth c H locs 0 0 (MQ below (zQi r0 D (zT cB cI cZ) [(a_t, .inr (11, [.int t_thrown, .ref a_t_now, .ref a_t_kept, .int t_isKept, .ref a_t_text, .int t_length, .ref a_t_passing, .int t_at, .int t_fault, .int t_open, .int t_asked, .int t_byGun, .int t_prizeMost, .ref a_t_order, .ref a_t_times, .int t_listed])), (a_t_now, .inl (cI, 1562, .inl t_now))] A) #[Value.ref a_t, Value.int x1, Value.int x2, Value.int x3] s 0 0 A) (F0 m 82 ls []) := by
          intro v5_56 H locs ls h hP hD hS hl
          obtain ⟨tL, tG, hZL, hTL, hZG, hTG⟩ := id hZ
          refine va_gets hx hb hZL hS hown (hts _ kX11_guessOf_0) (fun _ h9 => h9) dX11_guessOf_82 ?_
          refine lv_aload_n hx hb dX11_guessOf_85 rfl (lv_at hl 2 rfl) ?_
          refine lv_iload_n hx hb dX11_guessOf_86 rfl (lv_at hl 3 rfl) ?_
          refine lv_iconst (v := (nI 0)) hx hb dX11_guessOf_87 rfl ?_
          obtain ⟨r5, e6, h⟩ := zz_b h
          refine zVi (As := [.int x1, .int (nI 0)]) (rest := [.ref tL]) (C := RX11) (wr := []) [0, 1] [] 0 ⟨hx, hb, hml, hown, hts⟩ (mX11_of l D cB cI cZ a_t a_t_now a_t_kept a_t_text a_t_passing a_t_order a_t_times t_thrown t_isKept t_length t_at t_fault t_open t_asked t_byGun t_prizeMost t_listed t_now H.size x1 (nI 0) r5 e6) (cwV 2 hts gX11_guessOf_X11_of rfl rfl rfl (by decide +kernel) ⟨Nat.le_of_ble_eq_true rfl, Nat.le_of_ble_eq_true rfl⟩) hK hN hZ hP hD hS hA rfl rfl rfl rfl rfl rfl rfl rfl hl.1 rfl (lv_room (Nat.le_of_ble_eq_true rfl)) dX11_guessOf_88 ⟨Nat.le_of_ble_eq_true rfl, Nat.le_of_ble_eq_true rfl⟩ (fun H locs hP hD hS => ?_)
          have hP : va_P D vwCl [(a_t, .inr (11, [.int t_thrown, .ref a_t_now, .ref a_t_kept, .int t_isKept, .ref a_t_text, .int t_length, .ref a_t_passing, .int t_at, .int t_fault, .int t_open, .int t_asked, .int t_byGun, .int t_prizeMost, .ref a_t_order, .ref a_t_times, .int t_listed])), (a_t_now, .inl (cI, 1562, .inl t_now))] H := hP
          have hD : va_D A [(a_t, .inr (11, [.int t_thrown, .ref a_t_now, .ref a_t_kept, .int t_isKept, .ref a_t_text, .int t_length, .ref a_t_passing, .int t_at, .int t_fault, .int t_open, .int t_asked, .int t_byGun, .int t_prizeMost, .ref a_t_order, .ref a_t_times, .int t_listed])), (a_t_now, .inl (cI, 1562, .inl t_now))] := hD
          obtain ⟨i7, h⟩ := zz_i h
          refine va_ti (v := .int (zfL (r5).toNatClampNeg)) hx hb hTL hS i7 rfl dX11_guessOf_91 ?_
          refine lv_istore (lv' := [(6, .int (zfL (r5).toNatClampNeg)), (5, .int v5_56), (4, .int v4_22), (0, .ref a_t), (1, .int x1), (2, .int x2), (3, .int x3)]) hx hb dX11_guessOf_92 hl (by decide) rfl (fun ls hl => ?_)
          obtain ⟨tL, tG, hZL, hTL, hZG, hTG⟩ := id hZ
          refine va_gets hx hb hZG hS hown (hts _ kX11_guessOf_1) (fun _ h9 => h9) dX11_guessOf_94 ?_
          refine lv_aload_n hx hb dX11_guessOf_97 rfl (lv_at hl 3 rfl) ?_
          refine lv_iload_n hx hb dX11_guessOf_98 rfl (lv_at hl 4 rfl) ?_
          refine lv_iconst (v := (nI 0)) hx hb dX11_guessOf_99 rfl ?_
          obtain ⟨r8, e9, h⟩ := zz_b h
          refine zVi (As := [.int x1, .int (nI 0)]) (rest := [.ref tG]) (C := RX11) (wr := []) [0, 1] [] 0 ⟨hx, hb, hml, hown, hts⟩ (mX11_of l D cB cI cZ a_t a_t_now a_t_kept a_t_text a_t_passing a_t_order a_t_times t_thrown t_isKept t_length t_at t_fault t_open t_asked t_byGun t_prizeMost t_listed t_now H.size x1 (nI 0) r8 e9) (cwV 2 hts gX11_guessOf_X11_of rfl rfl rfl (by decide +kernel) ⟨Nat.le_of_ble_eq_true rfl, Nat.le_of_ble_eq_true rfl⟩) hK hN hZ hP hD hS hA rfl rfl rfl rfl rfl rfl rfl rfl hl.1 rfl (lv_room (Nat.le_of_ble_eq_true rfl)) dX11_guessOf_100 ⟨Nat.le_of_ble_eq_true rfl, Nat.le_of_ble_eq_true rfl⟩ (fun H locs hP hD hS => ?_)
          have hP : va_P D vwCl [(a_t, .inr (11, [.int t_thrown, .ref a_t_now, .ref a_t_kept, .int t_isKept, .ref a_t_text, .int t_length, .ref a_t_passing, .int t_at, .int t_fault, .int t_open, .int t_asked, .int t_byGun, .int t_prizeMost, .ref a_t_order, .ref a_t_times, .int t_listed])), (a_t_now, .inl (cI, 1562, .inl t_now))] H := hP
          have hD : va_D A [(a_t, .inr (11, [.int t_thrown, .ref a_t_now, .ref a_t_kept, .int t_isKept, .ref a_t_text, .int t_length, .ref a_t_passing, .int t_at, .int t_fault, .int t_open, .int t_asked, .int t_byGun, .int t_prizeMost, .ref a_t_order, .ref a_t_times, .int t_listed])), (a_t_now, .inl (cI, 1562, .inl t_now))] := hD
          obtain ⟨i10, h⟩ := zz_i h
          refine va_ti (v := .int (zfG (r8).toNatClampNeg)) hx hb hTG hS i10 rfl dX11_guessOf_103 ?_
          refine lv_istore (lv' := [(7, .int (zfG (r8).toNatClampNeg)), (6, .int (zfL (r5).toNatClampNeg)), (5, .int v5_56), (4, .int v4_22), (0, .ref a_t), (1, .int x1), (2, .int x2), (3, .int x3)]) hx hb dX11_guessOf_104 hl (by decide) rfl (fun ls hl => ?_)
          refine lv_aload_n hx hb dX11_guessOf_106 rfl (lv_at hl 4 rfl) ?_
          refine lv_iload_n hx hb dX11_guessOf_107 rfl (lv_at hl 6 rfl) ?_
          refine lv_iconst (v := (nI 0)) hx hb dX11_guessOf_108 rfl ?_
          obtain ⟨r11, e12, h⟩ := zz_b h
          refine zVi (As := [.int x2, .int (nI 0)]) (rest := []) (C := RX11) (wr := []) [0, 1] [] 0 ⟨hx, hb, hml, hown, hts⟩ (mX11_ofMat l D cB cI cZ a_t a_t_now a_t_kept a_t_text a_t_passing a_t_order a_t_times t_thrown t_isKept t_length t_at t_fault t_open t_asked t_byGun t_prizeMost t_listed t_now H.size x2 (nI 0) r11 e12) (cwV 2 hts gX11_guessOf_X11_ofMat rfl rfl rfl (by decide +kernel) ⟨Nat.le_of_ble_eq_true rfl, Nat.le_of_ble_eq_true rfl⟩) hK hN hZ hP hD hS hA rfl rfl rfl rfl rfl rfl rfl rfl hl.1 rfl (lv_room (Nat.le_of_ble_eq_true rfl)) dX11_guessOf_109 ⟨Nat.le_of_ble_eq_true rfl, Nat.le_of_ble_eq_true rfl⟩ (fun H locs hP hD hS => ?_)
          have hP : va_P D vwCl [(a_t, .inr (11, [.int t_thrown, .ref a_t_now, .ref a_t_kept, .int t_isKept, .ref a_t_text, .int t_length, .ref a_t_passing, .int t_at, .int t_fault, .int t_open, .int t_asked, .int t_byGun, .int t_prizeMost, .ref a_t_order, .ref a_t_times, .int t_listed])), (a_t_now, .inl (cI, 1562, .inl t_now))] H := hP
          have hD : va_D A [(a_t, .inr (11, [.int t_thrown, .ref a_t_now, .ref a_t_kept, .int t_isKept, .ref a_t_text, .int t_length, .ref a_t_passing, .int t_at, .int t_fault, .int t_open, .int t_asked, .int t_byGun, .int t_prizeMost, .ref a_t_order, .ref a_t_times, .int t_listed])), (a_t_now, .inl (cI, 1562, .inl t_now))] := hD
          refine lv_aload_n hx hb dX11_guessOf_112 rfl (lv_at hl 4 rfl) ?_
          refine lv_iload hx hb dX11_guessOf_113 (lv_at hl 3 rfl) ?_
          refine lv_iconst (v := (nI 0)) hx hb dX11_guessOf_115 rfl ?_
          obtain ⟨r13, e14, h⟩ := zz_b h
          refine zVi (As := [.int v4_22, .int (nI 0)]) (rest := [.int r11]) (C := RX11) (wr := []) [0, 1] [] 0 ⟨hx, hb, hml, hown, hts⟩ (mX11_ofMat l D cB cI cZ a_t a_t_now a_t_kept a_t_text a_t_passing a_t_order a_t_times t_thrown t_isKept t_length t_at t_fault t_open t_asked t_byGun t_prizeMost t_listed t_now H.size v4_22 (nI 0) r13 e14) (cwV 2 hts gX11_guessOf_X11_ofMat rfl rfl rfl (by decide +kernel) ⟨Nat.le_of_ble_eq_true rfl, Nat.le_of_ble_eq_true rfl⟩) hK hN hZ hP hD hS hA rfl rfl rfl rfl rfl rfl rfl rfl hl.1 rfl (lv_room (Nat.le_of_ble_eq_true rfl)) dX11_guessOf_116 ⟨Nat.le_of_ble_eq_true rfl, Nat.le_of_ble_eq_true rfl⟩ (fun H locs hP hD hS => ?_)
          have hP : va_P D vwCl [(a_t, .inr (11, [.int t_thrown, .ref a_t_now, .ref a_t_kept, .int t_isKept, .ref a_t_text, .int t_length, .ref a_t_passing, .int t_at, .int t_fault, .int t_open, .int t_asked, .int t_byGun, .int t_prizeMost, .ref a_t_order, .ref a_t_times, .int t_listed])), (a_t_now, .inl (cI, 1562, .inl t_now))] H := hP
          have hD : va_D A [(a_t, .inr (11, [.int t_thrown, .ref a_t_now, .ref a_t_kept, .int t_isKept, .ref a_t_text, .int t_length, .ref a_t_passing, .int t_at, .int t_fault, .int t_open, .int t_asked, .int t_byGun, .int t_prizeMost, .ref a_t_order, .ref a_t_times, .int t_listed])), (a_t_now, .inl (cI, 1562, .inl t_now))] := hD
          refine lv_isub hx hb dX11_guessOf_119 ?_
          refine lv_istore (lv' := [(8, .int (r11 - r13)), (7, .int (zfG (r8).toNatClampNeg)), (6, .int (zfL (r5).toNatClampNeg)), (5, .int v5_56), (4, .int v4_22), (0, .ref a_t), (1, .int x1), (2, .int x2), (3, .int x3)]) hx hb dX11_guessOf_120 hl (by decide) rfl (fun ls hl => ?_)
          refine lv_aload_n hx hb dX11_guessOf_122 rfl (lv_at hl 5 rfl) ?_
          refine lv_iload_n hx hb dX11_guessOf_123 rfl (lv_at hl 6 rfl) ?_
          refine lv_iload hx hb dX11_guessOf_124 (lv_at hl 4 rfl) ?_
          obtain ⟨r15, e16, h⟩ := zz_b h
          refine zVi (As := [.int x1, .int v4_22]) (rest := []) (C := RX11) (wr := []) [0, 1] [] 0 ⟨hx, hb, hml, hown, hts⟩ (mX11_seen l D cB cI cZ a_t a_t_now a_t_kept a_t_text a_t_passing a_t_order a_t_times t_thrown t_isKept t_length t_at t_fault t_open t_asked t_byGun t_prizeMost t_listed t_now H.size x1 v4_22 r15 e16) (cwV 2 hts gX11_guessOf_X11_seen rfl rfl rfl (by decide +kernel) ⟨Nat.le_of_ble_eq_true rfl, Nat.le_of_ble_eq_true rfl⟩) hK hN hZ hP hD hS hA rfl rfl rfl rfl rfl rfl rfl rfl hl.1 rfl (lv_room (Nat.le_of_ble_eq_true rfl)) dX11_guessOf_126 ⟨Nat.le_of_ble_eq_true rfl, Nat.le_of_ble_eq_true rfl⟩ (fun H locs hP hD hS => ?_)
          have hP : va_P D vwCl [(a_t, .inr (11, [.int t_thrown, .ref a_t_now, .ref a_t_kept, .int t_isKept, .ref a_t_text, .int t_length, .ref a_t_passing, .int t_at, .int t_fault, .int t_open, .int t_asked, .int t_byGun, .int t_prizeMost, .ref a_t_order, .ref a_t_times, .int t_listed])), (a_t_now, .inl (cI, 1562, .inl t_now))] H := hP
          have hD : va_D A [(a_t, .inr (11, [.int t_thrown, .ref a_t_now, .ref a_t_kept, .int t_isKept, .ref a_t_text, .int t_length, .ref a_t_passing, .int t_at, .int t_fault, .int t_open, .int t_asked, .int t_byGun, .int t_prizeMost, .ref a_t_order, .ref a_t_times, .int t_listed])), (a_t_now, .inl (cI, 1562, .inl t_now))] := hD
          refine lv_iload_n hx hb dX11_guessOf_129 rfl (lv_at hl 8 rfl) ?_
          have J150 : ∀ (s1_j150 : Int32) (H : Heap) (locs : List Loc) (ls : Array Slot), fX11_guessOf_J150 t_now x1 x2 x3 v5_56 r5 r8 r11 r13 r15 s1_j150 = some (r0) → va_P D vwCl [(a_t, .inr (11, [.int t_thrown, .ref a_t_now, .ref a_t_kept, .int t_isKept, .ref a_t_text, .int t_length, .ref a_t_passing, .int t_at, .int t_fault, .int t_open, .int t_asked, .int t_byGun, .int t_prizeMost, .ref a_t_order, .ref a_t_times, .int t_listed])), (a_t_now, .inl (cI, 1562, .inl t_now))] H → va_D A [(a_t, .inr (11, [.int t_thrown, .ref a_t_now, .ref a_t_kept, .int t_isKept, .ref a_t_text, .int t_length, .ref a_t_passing, .int t_at, .int t_fault, .int t_open, .int t_asked, .int t_byGun, .int t_prizeMost, .ref a_t_order, .ref a_t_times, .int t_listed])), (a_t_now, .inl (cI, 1562, .inl t_now))] → va_S A s.heap H locs → lv_has ls 11 [(8, .int (r11 - r13)), (7, .int (zfG (r8).toNatClampNeg)), (6, .int (zfL (r5).toNatClampNeg)), (5, .int v5_56), (4, .int v4_22), (0, .ref a_t), (1, .int x1), (2, .int x2), (3, .int x3)] → W p l e (headSpec wsX11_guessOf ({ frames := 4, cells := 0, slots := 0, locals := 87 } : Room)).room s m #[Value.ref a_t, Value.int x1, Value.int x2, Value.int x3] below meth c H locs 0 0 (MQ below (zQi r0 D (zT cB cI cZ) [(a_t, .inr (11, [.int t_thrown, .ref a_t_now, .ref a_t_kept, .int t_isKept, .ref a_t_text, .int t_length, .ref a_t_passing, .int t_at, .int t_fault, .int t_open, .int t_asked, .int t_byGun, .int t_prizeMost, .ref a_t_order, .ref a_t_times, .int t_listed])), (a_t_now, .inl (cI, 1562, .inl t_now))] A) #[Value.ref a_t, Value.int x1, Value.int x2, Value.int x3] s 0 0 A) (F0 m 150 ls [.int s1_j150, .int r15]) := by
            intro s1_j150 H locs ls h hP hD hS hl
            unfold fX11_guessOf_J150 at h
            refine lv_iadd hx hb dX11_guessOf_150 ?_
            refine lv_istore (lv' := [(9, .int (r15 + s1_j150)), (8, .int (r11 - r13)), (7, .int (zfG (r8).toNatClampNeg)), (6, .int (zfL (r5).toNatClampNeg)), (5, .int v5_56), (4, .int v4_22), (0, .ref a_t), (1, .int x1), (2, .int x2), (3, .int x3)]) hx hb dX11_guessOf_151 hl (by decide) rfl (fun ls hl => ?_)
            refine lv_iload hx hb dX11_guessOf_153 (lv_at hl 4 rfl) ?_
            refine lv_aload_n hx hb dX11_guessOf_155 rfl (lv_at hl 6 rfl) ?_
            obtain ⟨r17, e18, h⟩ := zz_b h
            refine zVi (As := []) (rest := [.int v5_56]) (C := RX11) (wr := []) [0, 1] [] 0 ⟨hx, hb, hml, hown, hts⟩ (mX11_mats l D cB cI cZ a_t a_t_now a_t_kept a_t_text a_t_passing a_t_order a_t_times t_thrown t_isKept t_length t_at t_fault t_open t_asked t_byGun t_prizeMost t_listed t_now H.size r17 e18) (cwV 0 hts gX11_guessOf_X11_mats rfl rfl rfl (by decide +kernel) ⟨Nat.le_of_ble_eq_true rfl, Nat.le_of_ble_eq_true rfl⟩) hK hN hZ hP hD hS hA rfl rfl rfl rfl rfl rfl rfl rfl hl.1 rfl (lv_room (Nat.le_of_ble_eq_true rfl)) dX11_guessOf_156 ⟨Nat.le_of_ble_eq_true rfl, Nat.le_of_ble_eq_true rfl⟩ (fun H locs hP hD hS => ?_)
            have hP : va_P D vwCl [(a_t, .inr (11, [.int t_thrown, .ref a_t_now, .ref a_t_kept, .int t_isKept, .ref a_t_text, .int t_length, .ref a_t_passing, .int t_at, .int t_fault, .int t_open, .int t_asked, .int t_byGun, .int t_prizeMost, .ref a_t_order, .ref a_t_times, .int t_listed])), (a_t_now, .inl (cI, 1562, .inl t_now))] H := hP
            have hD : va_D A [(a_t, .inr (11, [.int t_thrown, .ref a_t_now, .ref a_t_kept, .int t_isKept, .ref a_t_text, .int t_length, .ref a_t_passing, .int t_at, .int t_fault, .int t_open, .int t_asked, .int t_byGun, .int t_prizeMost, .ref a_t_order, .ref a_t_times, .int t_listed])), (a_t_now, .inl (cI, 1562, .inl t_now))] := hD
            have J232 : ∀ (v9_j232 : Int32) (v8_j232 : Int32) (H : Heap) (locs : List Loc) (ls : Array Slot), fX11_guessOf_J232 v9_j232 v8_j232 = some (r0) → va_P D vwCl [(a_t, .inr (11, [.int t_thrown, .ref a_t_now, .ref a_t_kept, .int t_isKept, .ref a_t_text, .int t_length, .ref a_t_passing, .int t_at, .int t_fault, .int t_open, .int t_asked, .int t_byGun, .int t_prizeMost, .ref a_t_order, .ref a_t_times, .int t_listed])), (a_t_now, .inl (cI, 1562, .inl t_now))] H → va_D A [(a_t, .inr (11, [.int t_thrown, .ref a_t_now, .ref a_t_kept, .int t_isKept, .ref a_t_text, .int t_length, .ref a_t_passing, .int t_at, .int t_fault, .int t_open, .int t_asked, .int t_byGun, .int t_prizeMost, .ref a_t_order, .ref a_t_times, .int t_listed])), (a_t_now, .inl (cI, 1562, .inl t_now))] → va_S A s.heap H locs → lv_has ls 11 [(9, .int v9_j232), (8, .int v8_j232), (7, .int (zfG (r8).toNatClampNeg)), (6, .int (zfL (r5).toNatClampNeg)), (5, .int v5_56), (4, .int v4_22), (0, .ref a_t), (1, .int x1), (2, .int x2), (3, .int x3)] → W p l e (headSpec wsX11_guessOf ({ frames := 4, cells := 0, slots := 0, locals := 87 } : Room)).room s m #[Value.ref a_t, Value.int x1, Value.int x2, Value.int x3] below meth c H locs 0 0 (MQ below (zQi r0 D (zT cB cI cZ) [(a_t, .inr (11, [.int t_thrown, .ref a_t_now, .ref a_t_kept, .int t_isKept, .ref a_t_text, .int t_length, .ref a_t_passing, .int t_at, .int t_fault, .int t_open, .int t_asked, .int t_byGun, .int t_prizeMost, .ref a_t_order, .ref a_t_times, .int t_listed])), (a_t_now, .inl (cI, 1562, .inl t_now))] A) #[Value.ref a_t, Value.int x1, Value.int x2, Value.int x3] s 0 0 A) (F0 m 232 ls []) := by
              intro v9_j232 v8_j232 H locs ls h hP hD hS hl
              unfold fX11_guessOf_J232 at h
              refine lv_iconst (v := (nI 0)) hx hb dX11_guessOf_232 rfl ?_
              refine lv_iload hx hb dX11_guessOf_233 (lv_at hl 0 rfl) ?_
              refine va_mmax hx hb (hml.trans hl.1.symm) hown (hts _ kX11_guessOf_2) (hts _ kX11_guessOf_3) (hts _ kX11_guessOf_4) (hts _ kX11_guessOf_5) (Nat.le_of_ble_eq_true rfl) (Nat.le_of_ble_eq_true rfl) (Nat.le_of_ble_eq_true rfl) (Nat.le_of_ble_eq_true rfl) dX11_guessOf_235 ?_
              have j0_ := Option.some.inj h
              subst j0_
              exact W.iret (v := (if (nI 0) < v9_j232 then v9_j232 else (nI 0))) hx hb hr (fun t ht hW => ⟨⟨_, (), rfl, rfl, zPost.of hP hD hK ht hW [0, 1] rfl rfl rfl⟩, hS.F ht⟩) hS.2.2 dX11_guessOf_238
            refine lv_icmp_ge (tgt := 232) hx hb dX11_guessOf_159 (by decide) (fun c19 => ?_) (fun c19 => ?_)
            · have h := zz_t h c19
              exact J232 (r15 + s1_j150) (r11 - r13) _ _ _ h (hP.sub [0, 1] rfl) (hD.sub [0, 1] rfl rfl) hS (lv_sub hl [0, 1, 2, 3, 4, 5, 6, 7, 8, 9] rfl)
            · have h := zz_f h c19
              refine lv_aload_n hx hb dX11_guessOf_162 rfl (lv_at hl 6 rfl) ?_
              refine lv_iload hx hb dX11_guessOf_163 (lv_at hl 4 rfl) ?_
              refine lv_iconst (v := (nI 0)) hx hb dX11_guessOf_165 rfl ?_
              obtain ⟨r20, e21, h⟩ := zz_b h
              refine zVi (As := [.int v5_56, .int (nI 0)]) (rest := []) (C := RX11) (wr := []) [0, 1] [] 0 ⟨hx, hb, hml, hown, hts⟩ (mX11_ofMat l D cB cI cZ a_t a_t_now a_t_kept a_t_text a_t_passing a_t_order a_t_times t_thrown t_isKept t_length t_at t_fault t_open t_asked t_byGun t_prizeMost t_listed t_now H.size v5_56 (nI 0) r20 e21) (cwV 2 hts gX11_guessOf_X11_ofMat rfl rfl rfl (by decide +kernel) ⟨Nat.le_of_ble_eq_true rfl, Nat.le_of_ble_eq_true rfl⟩) hK hN hZ hP hD hS hA rfl rfl rfl rfl rfl rfl rfl rfl hl.1 rfl (lv_room (Nat.le_of_ble_eq_true rfl)) dX11_guessOf_166 ⟨Nat.le_of_ble_eq_true rfl, Nat.le_of_ble_eq_true rfl⟩ (fun H locs hP hD hS => ?_)
              have hP : va_P D vwCl [(a_t, .inr (11, [.int t_thrown, .ref a_t_now, .ref a_t_kept, .int t_isKept, .ref a_t_text, .int t_length, .ref a_t_passing, .int t_at, .int t_fault, .int t_open, .int t_asked, .int t_byGun, .int t_prizeMost, .ref a_t_order, .ref a_t_times, .int t_listed])), (a_t_now, .inl (cI, 1562, .inl t_now))] H := hP
              have hD : va_D A [(a_t, .inr (11, [.int t_thrown, .ref a_t_now, .ref a_t_kept, .int t_isKept, .ref a_t_text, .int t_length, .ref a_t_passing, .int t_at, .int t_fault, .int t_open, .int t_asked, .int t_byGun, .int t_prizeMost, .ref a_t_order, .ref a_t_times, .int t_listed])), (a_t_now, .inl (cI, 1562, .inl t_now))] := hD
              refine lv_aload_n hx hb dX11_guessOf_169 rfl (lv_at hl 6 rfl) ?_
              refine lv_iload_n hx hb dX11_guessOf_170 rfl (lv_at hl 8 rfl) ?_
              refine lv_iconst (v := (nI 0)) hx hb dX11_guessOf_171 rfl ?_
              obtain ⟨r22, e23, h⟩ := zz_b h
              refine zVi (As := [.int x2, .int (nI 0)]) (rest := [.int r20]) (C := RX11) (wr := []) [0, 1] [] 0 ⟨hx, hb, hml, hown, hts⟩ (mX11_ofMat l D cB cI cZ a_t a_t_now a_t_kept a_t_text a_t_passing a_t_order a_t_times t_thrown t_isKept t_length t_at t_fault t_open t_asked t_byGun t_prizeMost t_listed t_now H.size x2 (nI 0) r22 e23) (cwV 2 hts gX11_guessOf_X11_ofMat rfl rfl rfl (by decide +kernel) ⟨Nat.le_of_ble_eq_true rfl, Nat.le_of_ble_eq_true rfl⟩) hK hN hZ hP hD hS hA rfl rfl rfl rfl rfl rfl rfl rfl hl.1 rfl (lv_room (Nat.le_of_ble_eq_true rfl)) dX11_guessOf_172 ⟨Nat.le_of_ble_eq_true rfl, Nat.le_of_ble_eq_true rfl⟩ (fun H locs hP hD hS => ?_)
              have hP : va_P D vwCl [(a_t, .inr (11, [.int t_thrown, .ref a_t_now, .ref a_t_kept, .int t_isKept, .ref a_t_text, .int t_length, .ref a_t_passing, .int t_at, .int t_fault, .int t_open, .int t_asked, .int t_byGun, .int t_prizeMost, .ref a_t_order, .ref a_t_times, .int t_listed])), (a_t_now, .inl (cI, 1562, .inl t_now))] H := hP
              have hD : va_D A [(a_t, .inr (11, [.int t_thrown, .ref a_t_now, .ref a_t_kept, .int t_isKept, .ref a_t_text, .int t_length, .ref a_t_passing, .int t_at, .int t_fault, .int t_open, .int t_asked, .int t_byGun, .int t_prizeMost, .ref a_t_order, .ref a_t_times, .int t_listed])), (a_t_now, .inl (cI, 1562, .inl t_now))] := hD
              refine lv_isub hx hb dX11_guessOf_175 ?_
              refine lv_istore (lv' := [(8, .int (r20 - r22)), (9, .int (r15 + s1_j150)), (7, .int (zfG (r8).toNatClampNeg)), (6, .int (zfL (r5).toNatClampNeg)), (5, .int v5_56), (4, .int v4_22), (0, .ref a_t), (1, .int x1), (2, .int x2), (3, .int x3)]) hx hb dX11_guessOf_176 hl (by decide) rfl (fun ls hl => ?_)
              refine lv_aload_n hx hb dX11_guessOf_178 rfl (lv_at hl 6 rfl) ?_
              refine lv_iload_n hx hb dX11_guessOf_179 rfl (lv_at hl 7 rfl) ?_
              refine lv_iload hx hb dX11_guessOf_180 (lv_at hl 4 rfl) ?_
              obtain ⟨r24, e25, h⟩ := zz_b h
              refine zVi (As := [.int x1, .int v5_56]) (rest := []) (C := RX11) (wr := []) [0, 1] [] 0 ⟨hx, hb, hml, hown, hts⟩ (mX11_seen l D cB cI cZ a_t a_t_now a_t_kept a_t_text a_t_passing a_t_order a_t_times t_thrown t_isKept t_length t_at t_fault t_open t_asked t_byGun t_prizeMost t_listed t_now H.size x1 v5_56 r24 e25) (cwV 2 hts gX11_guessOf_X11_seen rfl rfl rfl (by decide +kernel) ⟨Nat.le_of_ble_eq_true rfl, Nat.le_of_ble_eq_true rfl⟩) hK hN hZ hP hD hS hA rfl rfl rfl rfl rfl rfl rfl rfl hl.1 rfl (lv_room (Nat.le_of_ble_eq_true rfl)) dX11_guessOf_182 ⟨Nat.le_of_ble_eq_true rfl, Nat.le_of_ble_eq_true rfl⟩ (fun H locs hP hD hS => ?_)
              have hP : va_P D vwCl [(a_t, .inr (11, [.int t_thrown, .ref a_t_now, .ref a_t_kept, .int t_isKept, .ref a_t_text, .int t_length, .ref a_t_passing, .int t_at, .int t_fault, .int t_open, .int t_asked, .int t_byGun, .int t_prizeMost, .ref a_t_order, .ref a_t_times, .int t_listed])), (a_t_now, .inl (cI, 1562, .inl t_now))] H := hP
              have hD : va_D A [(a_t, .inr (11, [.int t_thrown, .ref a_t_now, .ref a_t_kept, .int t_isKept, .ref a_t_text, .int t_length, .ref a_t_passing, .int t_at, .int t_fault, .int t_open, .int t_asked, .int t_byGun, .int t_prizeMost, .ref a_t_order, .ref a_t_times, .int t_listed])), (a_t_now, .inl (cI, 1562, .inl t_now))] := hD
              refine lv_iload_n hx hb dX11_guessOf_185 rfl (lv_at hl 9 rfl) ?_
              refine lv_if_eq (tgt := 199) hx hb dX11_guessOf_186 (by decide) (fun c26 => ?_) (fun c26 => ?_)
              · have h := zz_t h c26
                refine lv_iload hx hb dX11_guessOf_199 (lv_at hl 0 rfl) ?_
                refine lv_iload hx hb dX11_guessOf_201 (lv_at hl 2 rfl) ?_
                obtain ⟨r27, e28, h⟩ := zz_b h
                refine zSi (As := [.int (r20 - r22), .int (zfG (r8).toNatClampNeg)]) (rest := [.int r24]) (wr := [(a_t, .inr (11, [.int t_thrown, .ref a_t_now, .ref a_t_kept, .int t_isKept, .ref a_t_text, .int t_length, .ref a_t_passing, .int t_at, .int t_fault, .int t_open, .int t_asked, .int t_byGun, .int t_prizeMost, .ref a_t_order, .ref a_t_times, .int t_listed])), (a_t_now, .inl (cI, 1562, .inl t_now))]) [] [0, 1] ⟨hx, hb, hml, hown, hts⟩ (mX11_made l D cB cI cZ H.size (r20 - r22) (zfG (r8).toNatClampNeg) r27 e28) (va_cwS 2 hts gX11_guessOf_X11_made rfl rfl rfl (by decide +kernel) ⟨Nat.le_of_ble_eq_true rfl, Nat.le_of_ble_eq_true rfl⟩) hK hN hZ hP hD hS hA rfl rfl rfl rfl rfl rfl hl.1 rfl (lv_room (Nat.le_of_ble_eq_true rfl)) dX11_guessOf_203 ⟨Nat.le_of_ble_eq_true rfl, Nat.le_of_ble_eq_true rfl⟩ (fun H locs hP hD hS => ?_)
                have hP : va_P D vwCl [(a_t, .inr (11, [.int t_thrown, .ref a_t_now, .ref a_t_kept, .int t_isKept, .ref a_t_text, .int t_length, .ref a_t_passing, .int t_at, .int t_fault, .int t_open, .int t_asked, .int t_byGun, .int t_prizeMost, .ref a_t_order, .ref a_t_times, .int t_listed])), (a_t_now, .inl (cI, 1562, .inl t_now))] H := hP
                have hD : va_D A [(a_t, .inr (11, [.int t_thrown, .ref a_t_now, .ref a_t_kept, .int t_isKept, .ref a_t_text, .int t_length, .ref a_t_passing, .int t_at, .int t_fault, .int t_open, .int t_asked, .int t_byGun, .int t_prizeMost, .ref a_t_order, .ref a_t_times, .int t_listed])), (a_t_now, .inl (cI, 1562, .inl t_now))] := hD
                refine lv_isub hx hb dX11_guessOf_206 ?_
                refine lv_istore (lv' := [(10, .int (r24 - r27)), (8, .int (r20 - r22)), (9, .int (r15 + s1_j150)), (7, .int (zfG (r8).toNatClampNeg)), (6, .int (zfL (r5).toNatClampNeg)), (5, .int v5_56), (4, .int v4_22), (0, .ref a_t), (1, .int x1), (2, .int x2), (3, .int x3)]) hx hb dX11_guessOf_207 hl (by decide) rfl (fun ls hl => ?_)
                refine lv_iload_n hx hb dX11_guessOf_209 rfl (lv_at hl 10 rfl) ?_
                refine lv_if_eq (tgt := 223) hx hb dX11_guessOf_210 (by decide) (fun c29 => ?_) (fun c29 => ?_)
                · have h := zz_t h c29
                  refine lv_iload hx hb dX11_guessOf_223 (lv_at hl 2 rfl) ?_
                  refine lv_iload hx hb dX11_guessOf_225 (lv_at hl 0 rfl) ?_
                  refine va_mmax hx hb (hml.trans hl.1.symm) hown (hts _ kX11_guessOf_2) (hts _ kX11_guessOf_3) (hts _ kX11_guessOf_4) (hts _ kX11_guessOf_5) (Nat.le_of_ble_eq_true rfl) (Nat.le_of_ble_eq_true rfl) (Nat.le_of_ble_eq_true rfl) (Nat.le_of_ble_eq_true rfl) dX11_guessOf_227 ?_
                  refine lv_istore (lv' := [(9, .int (if (r15 + s1_j150) < (r24 - r27) then (r24 - r27) else (r15 + s1_j150))), (10, .int (r24 - r27)), (8, .int (r20 - r22)), (7, .int (zfG (r8).toNatClampNeg)), (6, .int (zfL (r5).toNatClampNeg)), (5, .int v5_56), (4, .int v4_22), (0, .ref a_t), (1, .int x1), (2, .int x2), (3, .int x3)]) hx hb dX11_guessOf_230 hl (by decide) rfl (fun ls hl => ?_)
                  exact J232 (if (r15 + s1_j150) < (r24 - r27) then (r24 - r27) else (r15 + s1_j150)) (r20 - r22) _ _ _ h (hP.sub [0, 1] rfl) (hD.sub [0, 1] rfl rfl) hS (lv_sub hl [0, 2, 3, 4, 5, 6, 7, 8, 9, 10] rfl)
                · have h := zz_f h c29
                  refine lv_iload hx hb dX11_guessOf_213 (lv_at hl 2 rfl) ?_
                  refine lv_iload hx hb dX11_guessOf_215 (lv_at hl 0 rfl) ?_
                  refine va_mmin hx hb (hml.trans hl.1.symm) hown (hts _ kX11_guessOf_6) (hts _ kX11_guessOf_7) (hts _ kX11_guessOf_4) (hts _ kX11_guessOf_8) (Nat.le_of_ble_eq_true rfl) (Nat.le_of_ble_eq_true rfl) (Nat.le_of_ble_eq_true rfl) (Nat.le_of_ble_eq_true rfl) dX11_guessOf_217 ?_
                  refine lv_goto (tgt := 230) hx hb dX11_guessOf_220 (by decide) ?_
                  refine lv_istore (lv' := [(9, .int (if (r24 - r27) < (r15 + s1_j150) then (r24 - r27) else (r15 + s1_j150))), (10, .int (r24 - r27)), (8, .int (r20 - r22)), (7, .int (zfG (r8).toNatClampNeg)), (6, .int (zfL (r5).toNatClampNeg)), (5, .int v5_56), (4, .int v4_22), (0, .ref a_t), (1, .int x1), (2, .int x2), (3, .int x3)]) hx hb dX11_guessOf_230 hl (by decide) rfl (fun ls hl => ?_)
                  exact J232 (if (r24 - r27) < (r15 + s1_j150) then (r24 - r27) else (r15 + s1_j150)) (r20 - r22) _ _ _ h (hP.sub [0, 1] rfl) (hD.sub [0, 1] rfl rfl) hS (lv_sub hl [0, 2, 3, 4, 5, 6, 7, 8, 9, 10] rfl)
              · have h := zz_f h c26
                refine lv_iload hx hb dX11_guessOf_189 (lv_at hl 0 rfl) ?_
                refine lv_iload hx hb dX11_guessOf_191 (lv_at hl 3 rfl) ?_
                obtain ⟨r30, e31, h⟩ := zz_b h
                refine zSi (As := [.int (r20 - r22), .int (zfL (r5).toNatClampNeg)]) (rest := [.int r24]) (wr := [(a_t, .inr (11, [.int t_thrown, .ref a_t_now, .ref a_t_kept, .int t_isKept, .ref a_t_text, .int t_length, .ref a_t_passing, .int t_at, .int t_fault, .int t_open, .int t_asked, .int t_byGun, .int t_prizeMost, .ref a_t_order, .ref a_t_times, .int t_listed])), (a_t_now, .inl (cI, 1562, .inl t_now))]) [] [0, 1] ⟨hx, hb, hml, hown, hts⟩ (mX11_madeUp l D cB cI cZ H.size (r20 - r22) (zfL (r5).toNatClampNeg) r30 e31) (va_cwS 2 hts gX11_guessOf_X11_madeUp rfl rfl rfl (by decide +kernel) ⟨Nat.le_of_ble_eq_true rfl, Nat.le_of_ble_eq_true rfl⟩) hK hN hZ hP hD hS hA rfl rfl rfl rfl rfl rfl hl.1 rfl (lv_room (Nat.le_of_ble_eq_true rfl)) dX11_guessOf_193 ⟨Nat.le_of_ble_eq_true rfl, Nat.le_of_ble_eq_true rfl⟩ (fun H locs hP hD hS => ?_)
                have hP : va_P D vwCl [(a_t, .inr (11, [.int t_thrown, .ref a_t_now, .ref a_t_kept, .int t_isKept, .ref a_t_text, .int t_length, .ref a_t_passing, .int t_at, .int t_fault, .int t_open, .int t_asked, .int t_byGun, .int t_prizeMost, .ref a_t_order, .ref a_t_times, .int t_listed])), (a_t_now, .inl (cI, 1562, .inl t_now))] H := hP
                have hD : va_D A [(a_t, .inr (11, [.int t_thrown, .ref a_t_now, .ref a_t_kept, .int t_isKept, .ref a_t_text, .int t_length, .ref a_t_passing, .int t_at, .int t_fault, .int t_open, .int t_asked, .int t_byGun, .int t_prizeMost, .ref a_t_order, .ref a_t_times, .int t_listed])), (a_t_now, .inl (cI, 1562, .inl t_now))] := hD
                refine lv_goto (tgt := 206) hx hb dX11_guessOf_196 (by decide) ?_
                refine lv_isub hx hb dX11_guessOf_206 ?_
                refine lv_istore (lv' := [(10, .int (r24 - r30)), (8, .int (r20 - r22)), (9, .int (r15 + s1_j150)), (7, .int (zfG (r8).toNatClampNeg)), (6, .int (zfL (r5).toNatClampNeg)), (5, .int v5_56), (4, .int v4_22), (0, .ref a_t), (1, .int x1), (2, .int x2), (3, .int x3)]) hx hb dX11_guessOf_207 hl (by decide) rfl (fun ls hl => ?_)
                refine lv_iload_n hx hb dX11_guessOf_209 rfl (lv_at hl 10 rfl) ?_
                refine lv_if_eq (tgt := 223) hx hb dX11_guessOf_210 (by decide) (fun c32 => ?_) (fun c32 => ?_)
                · have h := zz_t h c32
                  refine lv_iload hx hb dX11_guessOf_223 (lv_at hl 2 rfl) ?_
                  refine lv_iload hx hb dX11_guessOf_225 (lv_at hl 0 rfl) ?_
                  refine va_mmax hx hb (hml.trans hl.1.symm) hown (hts _ kX11_guessOf_2) (hts _ kX11_guessOf_3) (hts _ kX11_guessOf_4) (hts _ kX11_guessOf_5) (Nat.le_of_ble_eq_true rfl) (Nat.le_of_ble_eq_true rfl) (Nat.le_of_ble_eq_true rfl) (Nat.le_of_ble_eq_true rfl) dX11_guessOf_227 ?_
                  refine lv_istore (lv' := [(9, .int (if (r15 + s1_j150) < (r24 - r30) then (r24 - r30) else (r15 + s1_j150))), (10, .int (r24 - r30)), (8, .int (r20 - r22)), (7, .int (zfG (r8).toNatClampNeg)), (6, .int (zfL (r5).toNatClampNeg)), (5, .int v5_56), (4, .int v4_22), (0, .ref a_t), (1, .int x1), (2, .int x2), (3, .int x3)]) hx hb dX11_guessOf_230 hl (by decide) rfl (fun ls hl => ?_)
                  exact J232 (if (r15 + s1_j150) < (r24 - r30) then (r24 - r30) else (r15 + s1_j150)) (r20 - r22) _ _ _ h (hP.sub [0, 1] rfl) (hD.sub [0, 1] rfl rfl) hS (lv_sub hl [0, 2, 3, 4, 5, 6, 7, 8, 9, 10] rfl)
                · have h := zz_f h c32
                  refine lv_iload hx hb dX11_guessOf_213 (lv_at hl 2 rfl) ?_
                  refine lv_iload hx hb dX11_guessOf_215 (lv_at hl 0 rfl) ?_
                  refine va_mmin hx hb (hml.trans hl.1.symm) hown (hts _ kX11_guessOf_6) (hts _ kX11_guessOf_7) (hts _ kX11_guessOf_4) (hts _ kX11_guessOf_8) (Nat.le_of_ble_eq_true rfl) (Nat.le_of_ble_eq_true rfl) (Nat.le_of_ble_eq_true rfl) (Nat.le_of_ble_eq_true rfl) dX11_guessOf_217 ?_
                  refine lv_goto (tgt := 230) hx hb dX11_guessOf_220 (by decide) ?_
                  refine lv_istore (lv' := [(9, .int (if (r24 - r30) < (r15 + s1_j150) then (r24 - r30) else (r15 + s1_j150))), (10, .int (r24 - r30)), (8, .int (r20 - r22)), (7, .int (zfG (r8).toNatClampNeg)), (6, .int (zfL (r5).toNatClampNeg)), (5, .int v5_56), (4, .int v4_22), (0, .ref a_t), (1, .int x1), (2, .int x2), (3, .int x3)]) hx hb dX11_guessOf_230 hl (by decide) rfl (fun ls hl => ?_)
                  exact J232 (if (r24 - r30) < (r15 + s1_j150) then (r24 - r30) else (r15 + s1_j150)) (r20 - r22) _ _ _ h (hP.sub [0, 1] rfl) (hD.sub [0, 1] rfl rfl) hS (lv_sub hl [0, 2, 3, 4, 5, 6, 7, 8, 9, 10] rfl)
          refine lv_if_eq (tgt := 143) hx hb dX11_guessOf_130 (by decide) (fun c33 => ?_) (fun c33 => ?_)
          · have h := zz_t h c33
            refine lv_iload hx hb dX11_guessOf_143 (lv_at hl 0 rfl) ?_
            refine lv_iload hx hb dX11_guessOf_145 (lv_at hl 2 rfl) ?_
            obtain ⟨r34, e35, h⟩ := zz_b h
            refine zSi (As := [.int (r11 - r13), .int (zfL (r5).toNatClampNeg)]) (rest := [.int r15]) (wr := [(a_t, .inr (11, [.int t_thrown, .ref a_t_now, .ref a_t_kept, .int t_isKept, .ref a_t_text, .int t_length, .ref a_t_passing, .int t_at, .int t_fault, .int t_open, .int t_asked, .int t_byGun, .int t_prizeMost, .ref a_t_order, .ref a_t_times, .int t_listed])), (a_t_now, .inl (cI, 1562, .inl t_now))]) [] [0, 1] ⟨hx, hb, hml, hown, hts⟩ (mX11_madeUp l D cB cI cZ H.size (r11 - r13) (zfL (r5).toNatClampNeg) r34 e35) (va_cwS 2 hts gX11_guessOf_X11_madeUp rfl rfl rfl (by decide +kernel) ⟨Nat.le_of_ble_eq_true rfl, Nat.le_of_ble_eq_true rfl⟩) hK hN hZ hP hD hS hA rfl rfl rfl rfl rfl rfl hl.1 rfl (lv_room (Nat.le_of_ble_eq_true rfl)) dX11_guessOf_147 ⟨Nat.le_of_ble_eq_true rfl, Nat.le_of_ble_eq_true rfl⟩ (fun H locs hP hD hS => ?_)
            have hP : va_P D vwCl [(a_t, .inr (11, [.int t_thrown, .ref a_t_now, .ref a_t_kept, .int t_isKept, .ref a_t_text, .int t_length, .ref a_t_passing, .int t_at, .int t_fault, .int t_open, .int t_asked, .int t_byGun, .int t_prizeMost, .ref a_t_order, .ref a_t_times, .int t_listed])), (a_t_now, .inl (cI, 1562, .inl t_now))] H := hP
            have hD : va_D A [(a_t, .inr (11, [.int t_thrown, .ref a_t_now, .ref a_t_kept, .int t_isKept, .ref a_t_text, .int t_length, .ref a_t_passing, .int t_at, .int t_fault, .int t_open, .int t_asked, .int t_byGun, .int t_prizeMost, .ref a_t_order, .ref a_t_times, .int t_listed])), (a_t_now, .inl (cI, 1562, .inl t_now))] := hD
            exact J150 r34 _ _ _ h (hP.sub [0, 1] rfl) (hD.sub [0, 1] rfl rfl) hS (lv_sub hl [0, 1, 2, 3, 4, 5, 6, 7, 8] rfl)
          · have h := zz_f h c33
            refine lv_iload hx hb dX11_guessOf_133 (lv_at hl 0 rfl) ?_
            refine lv_iload hx hb dX11_guessOf_135 (lv_at hl 1 rfl) ?_
            obtain ⟨r36, e37, h⟩ := zz_b h
            refine zSi (As := [.int (r11 - r13), .int (zfG (r8).toNatClampNeg)]) (rest := [.int r15]) (wr := [(a_t, .inr (11, [.int t_thrown, .ref a_t_now, .ref a_t_kept, .int t_isKept, .ref a_t_text, .int t_length, .ref a_t_passing, .int t_at, .int t_fault, .int t_open, .int t_asked, .int t_byGun, .int t_prizeMost, .ref a_t_order, .ref a_t_times, .int t_listed])), (a_t_now, .inl (cI, 1562, .inl t_now))]) [] [0, 1] ⟨hx, hb, hml, hown, hts⟩ (mX11_made l D cB cI cZ H.size (r11 - r13) (zfG (r8).toNatClampNeg) r36 e37) (va_cwS 2 hts gX11_guessOf_X11_made rfl rfl rfl (by decide +kernel) ⟨Nat.le_of_ble_eq_true rfl, Nat.le_of_ble_eq_true rfl⟩) hK hN hZ hP hD hS hA rfl rfl rfl rfl rfl rfl hl.1 rfl (lv_room (Nat.le_of_ble_eq_true rfl)) dX11_guessOf_137 ⟨Nat.le_of_ble_eq_true rfl, Nat.le_of_ble_eq_true rfl⟩ (fun H locs hP hD hS => ?_)
            have hP : va_P D vwCl [(a_t, .inr (11, [.int t_thrown, .ref a_t_now, .ref a_t_kept, .int t_isKept, .ref a_t_text, .int t_length, .ref a_t_passing, .int t_at, .int t_fault, .int t_open, .int t_asked, .int t_byGun, .int t_prizeMost, .ref a_t_order, .ref a_t_times, .int t_listed])), (a_t_now, .inl (cI, 1562, .inl t_now))] H := hP
            have hD : va_D A [(a_t, .inr (11, [.int t_thrown, .ref a_t_now, .ref a_t_kept, .int t_isKept, .ref a_t_text, .int t_length, .ref a_t_passing, .int t_at, .int t_fault, .int t_open, .int t_asked, .int t_byGun, .int t_prizeMost, .ref a_t_order, .ref a_t_times, .int t_listed])), (a_t_now, .inl (cI, 1562, .inl t_now))] := hD
            refine lv_goto (tgt := 150) hx hb dX11_guessOf_140 (by decide) ?_
            exact J150 r36 _ _ _ h (hP.sub [0, 1] rfl) (hD.sub [0, 1] rfl rfl) hS (lv_sub hl [0, 1, 2, 3, 4, 5, 6, 7, 8] rfl)
        have L56 : ∀ (n : Nat) (v5_56 : Int32) (H : Heap) (locs : List Loc) (ls : Array Slot), fX11_guessOf_L56 t_now x1 (fun (v5_56 : Int32) => ((fX11_of t_now x1 (nI 0)).bind (fun r5 => (if zin r5 4 then ((fX11_of t_now x1 (nI 0)).bind (fun r8 => (if zin r8 4 then ((fX11_ofMat t_now x2 (nI 0)).bind (fun r11 => ((fX11_ofMat t_now v4_22 (nI 0)).bind (fun r13 => ((fX11_seen t_now x1 v4_22).bind (fun r15 => (if x3 = 0 then ((fX11_madeUp (r11 - r13) (zfL (r5).toNatClampNeg)).bind (fun r34 => (fX11_guessOf_J150 t_now x1 x2 x3 v5_56 r5 r8 r11 r13 r15 r34))) else ((fX11_made (r11 - r13) (zfG (r8).toNatClampNeg)).bind (fun r36 => (fX11_guessOf_J150 t_now x1 x2 x3 v5_56 r5 r8 r11 r13 r15 r36)))))))))) else none))) else none)))) n v5_56 = some (r0) → va_P D vwCl [(a_t, .inr (11, [.int t_thrown, .ref a_t_now, .ref a_t_kept, .int t_isKept, .ref a_t_text, .int t_length, .ref a_t_passing, .int t_at, .int t_fault, .int t_open, .int t_asked, .int t_byGun, .int t_prizeMost, .ref a_t_order, .ref a_t_times, .int t_listed])), (a_t_now, .inl (cI, 1562, .inl t_now))] H → va_D A [(a_t, .inr (11, [.int t_thrown, .ref a_t_now, .ref a_t_kept, .int t_isKept, .ref a_t_text, .int t_length, .ref a_t_passing, .int t_at, .int t_fault, .int t_open, .int t_asked, .int t_byGun, .int t_prizeMost, .ref a_t_order, .ref a_t_times, .int t_listed])), (a_t_now, .inl (cI, 1562, .inl t_now))] → va_S A s.heap H locs → lv_has ls 11 [(5, .int v5_56), (4, .int v4_22), (0, .ref a_t), (1, .int x1), (2, .int x2), (3, .int x3)] → W p l e (headSpec wsX11_guessOf ({ frames := 4, cells := 0, slots := 0, locals := 87 } : Room)).room s m #[Value.ref a_t, Value.int x1, Value.int x2, Value.int x3] below meth c H locs 0 0 (MQ below (zQi r0 D (zT cB cI cZ) [(a_t, .inr (11, [.int t_thrown, .ref a_t_now, .ref a_t_kept, .int t_isKept, .ref a_t_text, .int t_length, .ref a_t_passing, .int t_at, .int t_fault, .int t_open, .int t_asked, .int t_byGun, .int t_prizeMost, .ref a_t_order, .ref a_t_times, .int t_listed])), (a_t_now, .inl (cI, 1562, .inl t_now))] A) #[Value.ref a_t, Value.int x1, Value.int x2, Value.int x3] s 0 0 A) (F0 m 56 ls []) := by
          intro n
          induction n with
          | zero => intro _ H locs ls h hP hD hS hl; cases h
          | succ n56 ih56 =>
            intro v5_56 H locs ls h hP hD hS hl
            rw [fX11_guessOf_L56.eq_2] at h
            refine lv_iload hx hb dX11_guessOf_56 (lv_at hl 0 rfl) ?_
            refine lv_aload_n hx hb dX11_guessOf_58 rfl (lv_at hl 2 rfl) ?_
            obtain ⟨r38, e39, h⟩ := zz_b h
            refine zVi (As := []) (rest := [.int v5_56]) (C := RX11) (wr := []) [0, 1] [] 0 ⟨hx, hb, hml, hown, hts⟩ (mX11_mats l D cB cI cZ a_t a_t_now a_t_kept a_t_text a_t_passing a_t_order a_t_times t_thrown t_isKept t_length t_at t_fault t_open t_asked t_byGun t_prizeMost t_listed t_now H.size r38 e39) (cwV 0 hts gX11_guessOf_X11_mats rfl rfl rfl (by decide +kernel) ⟨Nat.le_of_ble_eq_true rfl, Nat.le_of_ble_eq_true rfl⟩) hK hN hZ hP hD hS hA rfl rfl rfl rfl rfl rfl rfl rfl hl.1 rfl (lv_room (Nat.le_of_ble_eq_true rfl)) dX11_guessOf_59 ⟨Nat.le_of_ble_eq_true rfl, Nat.le_of_ble_eq_true rfl⟩ (fun H locs hP hD hS => ?_)
            have hP : va_P D vwCl [(a_t, .inr (11, [.int t_thrown, .ref a_t_now, .ref a_t_kept, .int t_isKept, .ref a_t_text, .int t_length, .ref a_t_passing, .int t_at, .int t_fault, .int t_open, .int t_asked, .int t_byGun, .int t_prizeMost, .ref a_t_order, .ref a_t_times, .int t_listed])), (a_t_now, .inl (cI, 1562, .inl t_now))] H := hP
            have hD : va_D A [(a_t, .inr (11, [.int t_thrown, .ref a_t_now, .ref a_t_kept, .int t_isKept, .ref a_t_text, .int t_length, .ref a_t_passing, .int t_at, .int t_fault, .int t_open, .int t_asked, .int t_byGun, .int t_prizeMost, .ref a_t_order, .ref a_t_times, .int t_listed])), (a_t_now, .inl (cI, 1562, .inl t_now))] := hD
            refine lv_icmp_ge (tgt := 82) hx hb dX11_guessOf_62 (by decide) (fun c40 => ?_) (fun c40 => ?_)
            · have h := zz_t h c40
              exact X56_82 v5_56 _ _ _ h (hP.sub [0, 1] rfl) (hD.sub [0, 1] rfl rfl) hS (lv_sub hl [0, 1, 2, 3, 4, 5] rfl)
            · have h := zz_f h c40
              refine lv_aload_n hx hb dX11_guessOf_65 rfl (lv_at hl 2 rfl) ?_
              refine lv_iload_n hx hb dX11_guessOf_66 rfl (lv_at hl 3 rfl) ?_
              refine lv_iload hx hb dX11_guessOf_67 (lv_at hl 0 rfl) ?_
              obtain ⟨r41, e42, h⟩ := zz_b h
              refine zVi (As := [.int x1, .int v5_56]) (rest := []) (C := RX11) (wr := []) [0, 1] [] 0 ⟨hx, hb, hml, hown, hts⟩ (mX11_seen l D cB cI cZ a_t a_t_now a_t_kept a_t_text a_t_passing a_t_order a_t_times t_thrown t_isKept t_length t_at t_fault t_open t_asked t_byGun t_prizeMost t_listed t_now H.size x1 v5_56 r41 e42) (cwV 2 hts gX11_guessOf_X11_seen rfl rfl rfl (by decide +kernel) ⟨Nat.le_of_ble_eq_true rfl, Nat.le_of_ble_eq_true rfl⟩) hK hN hZ hP hD hS hA rfl rfl rfl rfl rfl rfl rfl rfl hl.1 rfl (lv_room (Nat.le_of_ble_eq_true rfl)) dX11_guessOf_69 ⟨Nat.le_of_ble_eq_true rfl, Nat.le_of_ble_eq_true rfl⟩ (fun H locs hP hD hS => ?_)
              have hP : va_P D vwCl [(a_t, .inr (11, [.int t_thrown, .ref a_t_now, .ref a_t_kept, .int t_isKept, .ref a_t_text, .int t_length, .ref a_t_passing, .int t_at, .int t_fault, .int t_open, .int t_asked, .int t_byGun, .int t_prizeMost, .ref a_t_order, .ref a_t_times, .int t_listed])), (a_t_now, .inl (cI, 1562, .inl t_now))] H := hP
              have hD : va_D A [(a_t, .inr (11, [.int t_thrown, .ref a_t_now, .ref a_t_kept, .int t_isKept, .ref a_t_text, .int t_length, .ref a_t_passing, .int t_at, .int t_fault, .int t_open, .int t_asked, .int t_byGun, .int t_prizeMost, .ref a_t_order, .ref a_t_times, .int t_listed])), (a_t_now, .inl (cI, 1562, .inl t_now))] := hD
              refine lv_iconst (v := (-1 : Int32)) hx hb dX11_guessOf_72 rfl ?_
              refine lv_icmp_ne (tgt := 82) hx hb dX11_guessOf_73 (by decide) (fun c43 => ?_) (fun c43 => ?_)
              · have h := zz_f h c43
                exact X56_82 v5_56 _ _ _ h (hP.sub [0, 1] rfl) (hD.sub [0, 1] rfl rfl) hS (lv_sub hl [0, 1, 2, 3, 4, 5] rfl)
              · have h := zz_t h c43
                refine lv_iinc (v := (v5_56 + (nI 1))) (lv' := [(5, .int (v5_56 + (nI 1))), (4, .int v4_22), (0, .ref a_t), (1, .int x1), (2, .int x2), (3, .int x3)]) hx hb dX11_guessOf_76 hl (k := 0) rfl rfl (by decide) rfl (fun ls hl => ?_)
                refine lv_goto (tgt := 56) hx hb dX11_guessOf_79 (by decide) ?_
                exact ih56 (v5_56 + (nI 1)) _ _ _ h (hP.sub [0, 1] rfl) (hD.sub [0, 1] rfl rfl) hS (lv_sub hl [0, 1, 2, 3, 4, 5] rfl)
        exact L56 N (x2 + (nI 1)) _ _ _ h hP hD hS hl
      · have h := zz_f h c4
        refine lv_iconst (v := (-1 : Int32)) hx hb dX11_guessOf_49 rfl ?_
        have j0_ := Option.some.inj h
        subst j0_
        exact W.iret (v := (-1 : Int32)) hx hb hr (fun t ht hW => ⟨⟨_, (), rfl, rfl, zPost.of hP hD hK ht hW [0, 1] rfl rfl rfl⟩, hS.F ht⟩) hS.2.2 dX11_guessOf_50
    have L22 : ∀ (n : Nat) (v4_22 : Int32) (H : Heap) (locs : List Loc) (ls : Array Slot), fX11_guessOf_L22 t_now x1 (fun (v4_22 : Int32) => (if 0 ≤ v4_22 then fX11_guessOf_L56 t_now x1 (fun (v5_56 : Int32) => ((fX11_of t_now x1 (nI 0)).bind (fun r5 => (if zin r5 4 then ((fX11_of t_now x1 (nI 0)).bind (fun r8 => (if zin r8 4 then ((fX11_ofMat t_now x2 (nI 0)).bind (fun r11 => ((fX11_ofMat t_now v4_22 (nI 0)).bind (fun r13 => ((fX11_seen t_now x1 v4_22).bind (fun r15 => (if x3 = 0 then ((fX11_madeUp (r11 - r13) (zfL (r5).toNatClampNeg)).bind (fun r34 => (fX11_guessOf_J150 t_now x1 x2 x3 v5_56 r5 r8 r11 r13 r15 r34))) else ((fX11_made (r11 - r13) (zfG (r8).toNatClampNeg)).bind (fun r36 => (fX11_guessOf_J150 t_now x1 x2 x3 v5_56 r5 r8 r11 r13 r15 r36)))))))))) else none))) else none)))) N (x2 + (nI 1)) else some ((-1 : Int32)))) n v4_22 = some (r0) → va_P D vwCl [(a_t, .inr (11, [.int t_thrown, .ref a_t_now, .ref a_t_kept, .int t_isKept, .ref a_t_text, .int t_length, .ref a_t_passing, .int t_at, .int t_fault, .int t_open, .int t_asked, .int t_byGun, .int t_prizeMost, .ref a_t_order, .ref a_t_times, .int t_listed])), (a_t_now, .inl (cI, 1562, .inl t_now))] H → va_D A [(a_t, .inr (11, [.int t_thrown, .ref a_t_now, .ref a_t_kept, .int t_isKept, .ref a_t_text, .int t_length, .ref a_t_passing, .int t_at, .int t_fault, .int t_open, .int t_asked, .int t_byGun, .int t_prizeMost, .ref a_t_order, .ref a_t_times, .int t_listed])), (a_t_now, .inl (cI, 1562, .inl t_now))] → va_S A s.heap H locs → lv_has ls 11 [(4, .int v4_22), (0, .ref a_t), (1, .int x1), (2, .int x2), (3, .int x3)] → W p l e (headSpec wsX11_guessOf ({ frames := 4, cells := 0, slots := 0, locals := 87 } : Room)).room s m #[Value.ref a_t, Value.int x1, Value.int x2, Value.int x3] below meth c H locs 0 0 (MQ below (zQi r0 D (zT cB cI cZ) [(a_t, .inr (11, [.int t_thrown, .ref a_t_now, .ref a_t_kept, .int t_isKept, .ref a_t_text, .int t_length, .ref a_t_passing, .int t_at, .int t_fault, .int t_open, .int t_asked, .int t_byGun, .int t_prizeMost, .ref a_t_order, .ref a_t_times, .int t_listed])), (a_t_now, .inl (cI, 1562, .inl t_now))] A) #[Value.ref a_t, Value.int x1, Value.int x2, Value.int x3] s 0 0 A) (F0 m 22 ls []) := by
      intro n
      induction n with
      | zero => intro _ H locs ls h hP hD hS hl; cases h
      | succ n22 ih22 =>
        intro v4_22 H locs ls h hP hD hS hl
        rw [fX11_guessOf_L22.eq_2] at h
        refine lv_iload hx hb dX11_guessOf_22 (lv_at hl 0 rfl) ?_
        refine lv_if_lt (tgt := 44) hx hb dX11_guessOf_24 (by decide) (fun c44 => ?_) (fun c44 => ?_)
        · have h := zz_t h c44
          exact X22_44 v4_22 _ _ _ h (hP.sub [0, 1] rfl) (hD.sub [0, 1] rfl rfl) hS (lv_sub hl [0, 1, 2, 3, 4] rfl)
        · have h := zz_f h c44
          refine lv_aload_n hx hb dX11_guessOf_27 rfl (lv_at hl 1 rfl) ?_
          refine lv_iload_n hx hb dX11_guessOf_28 rfl (lv_at hl 2 rfl) ?_
          refine lv_iload hx hb dX11_guessOf_29 (lv_at hl 0 rfl) ?_
          obtain ⟨r45, e46, h⟩ := zz_b h
          refine zVi (As := [.int x1, .int v4_22]) (rest := []) (C := RX11) (wr := []) [0, 1] [] 0 ⟨hx, hb, hml, hown, hts⟩ (mX11_seen l D cB cI cZ a_t a_t_now a_t_kept a_t_text a_t_passing a_t_order a_t_times t_thrown t_isKept t_length t_at t_fault t_open t_asked t_byGun t_prizeMost t_listed t_now H.size x1 v4_22 r45 e46) (cwV 2 hts gX11_guessOf_X11_seen rfl rfl rfl (by decide +kernel) ⟨Nat.le_of_ble_eq_true rfl, Nat.le_of_ble_eq_true rfl⟩) hK hN hZ hP hD hS hA rfl rfl rfl rfl rfl rfl rfl rfl hl.1 rfl (lv_room (Nat.le_of_ble_eq_true rfl)) dX11_guessOf_31 ⟨Nat.le_of_ble_eq_true rfl, Nat.le_of_ble_eq_true rfl⟩ (fun H locs hP hD hS => ?_)
          have hP : va_P D vwCl [(a_t, .inr (11, [.int t_thrown, .ref a_t_now, .ref a_t_kept, .int t_isKept, .ref a_t_text, .int t_length, .ref a_t_passing, .int t_at, .int t_fault, .int t_open, .int t_asked, .int t_byGun, .int t_prizeMost, .ref a_t_order, .ref a_t_times, .int t_listed])), (a_t_now, .inl (cI, 1562, .inl t_now))] H := hP
          have hD : va_D A [(a_t, .inr (11, [.int t_thrown, .ref a_t_now, .ref a_t_kept, .int t_isKept, .ref a_t_text, .int t_length, .ref a_t_passing, .int t_at, .int t_fault, .int t_open, .int t_asked, .int t_byGun, .int t_prizeMost, .ref a_t_order, .ref a_t_times, .int t_listed])), (a_t_now, .inl (cI, 1562, .inl t_now))] := hD
          refine lv_iconst (v := (-1 : Int32)) hx hb dX11_guessOf_34 rfl ?_
          refine lv_icmp_ne (tgt := 44) hx hb dX11_guessOf_35 (by decide) (fun c47 => ?_) (fun c47 => ?_)
          · have h := zz_f h c47
            exact X22_44 v4_22 _ _ _ h (hP.sub [0, 1] rfl) (hD.sub [0, 1] rfl rfl) hS (lv_sub hl [0, 1, 2, 3, 4] rfl)
          · have h := zz_t h c47
            refine lv_iinc (v := (v4_22 + (-1 : Int32))) (lv' := [(4, .int (v4_22 + (-1 : Int32))), (0, .ref a_t), (1, .int x1), (2, .int x2), (3, .int x3)]) hx hb dX11_guessOf_38 hl (k := 0) rfl rfl (by decide) rfl (fun ls hl => ?_)
            refine lv_goto (tgt := 22) hx hb dX11_guessOf_41 (by decide) ?_
            exact ih22 (v4_22 + (-1 : Int32)) _ _ _ h (hP.sub [0, 1] rfl) (hD.sub [0, 1] rfl rfl) hS (lv_sub hl [0, 1, 2, 3, 4] rfl)
    exact L22 N (x2 - (nI 1)) _ _ _ h hP hD hS hl
  · have h := zz_f h c3
    refine lv_aload_n hx hb dX11_guessOf_10 rfl (lv_at hl 0 rfl) ?_
    refine lv_iload_n hx hb dX11_guessOf_11 rfl (lv_at hl 1 rfl) ?_
    refine lv_iload_n hx hb dX11_guessOf_12 rfl (lv_at hl 2 rfl) ?_
    obtain ⟨r48, e49, h⟩ := zz_b h
    refine zVi (As := [.int x1, .int x2]) (rest := []) (C := RX11) (wr := []) [0, 1] [] 0 ⟨hx, hb, hml, hown, hts⟩ (mX11_seen l D cB cI cZ a_t a_t_now a_t_kept a_t_text a_t_passing a_t_order a_t_times t_thrown t_isKept t_length t_at t_fault t_open t_asked t_byGun t_prizeMost t_listed t_now H.size x1 x2 r48 e49) (cwV 2 hts gX11_guessOf_X11_seen rfl rfl rfl (by decide +kernel) ⟨Nat.le_of_ble_eq_true rfl, Nat.le_of_ble_eq_true rfl⟩) hK hN hZ hP hD hS hA rfl rfl rfl rfl rfl rfl rfl rfl hl.1 rfl (lv_room (Nat.le_of_ble_eq_true rfl)) dX11_guessOf_13 ⟨Nat.le_of_ble_eq_true rfl, Nat.le_of_ble_eq_true rfl⟩ (fun H locs hP hD hS => ?_)
    have hP : va_P D vwCl [(a_t, .inr (11, [.int t_thrown, .ref a_t_now, .ref a_t_kept, .int t_isKept, .ref a_t_text, .int t_length, .ref a_t_passing, .int t_at, .int t_fault, .int t_open, .int t_asked, .int t_byGun, .int t_prizeMost, .ref a_t_order, .ref a_t_times, .int t_listed])), (a_t_now, .inl (cI, 1562, .inl t_now))] H := hP
    have hD : va_D A [(a_t, .inr (11, [.int t_thrown, .ref a_t_now, .ref a_t_kept, .int t_isKept, .ref a_t_text, .int t_length, .ref a_t_passing, .int t_at, .int t_fault, .int t_open, .int t_asked, .int t_byGun, .int t_prizeMost, .ref a_t_order, .ref a_t_times, .int t_listed])), (a_t_now, .inl (cI, 1562, .inl t_now))] := hD
    have j0_ := Option.some.inj h
    subst j0_
    exact W.iret (v := r48) hx hb hr (fun t ht hW => ⟨⟨_, (), rfl, rfl, zPost.of hP hD hK ht hW [0, 1] rfl rfl rfl⟩, hS.F ht⟩) hS.2.2 dX11_guessOf_16
/-! RunDeskModel.guess -/
theorem dX11_guess_0 : decode cX11_guess 0 = .ok (.aload_n 0, 1) := by decide +kernel
theorem dX11_guess_1 : decode cX11_guess 1 = .ok (.iload_n 1, 1) := by decide +kernel
theorem dX11_guess_2 : decode cX11_guess 2 = .ok (.invokevirtual 65, 3) := by decide +kernel
theorem dX11_guess_5 : decode cX11_guess 5 = .ok (.ifCond .eq 11, 3) := by decide +kernel
theorem dX11_guess_8 : decode cX11_guess 8 = .ok (.aload_n 0, 1) := by decide +kernel
theorem dX11_guess_9 : decode cX11_guess 9 = .ok (.iload_n 2, 1) := by decide +kernel
theorem dX11_guess_10 : decode cX11_guess 10 = .ok (.invokevirtual 69, 3) := by decide +kernel
theorem dX11_guess_13 : decode cX11_guess 13 = .ok (.ifCond .ne 7, 3) := by decide +kernel
theorem dX11_guess_16 : decode cX11_guess 16 = .ok (.iconst (-1), 1) := by decide +kernel
theorem dX11_guess_17 : decode cX11_guess 17 = .ok (.goto 10, 3) := by decide +kernel
theorem dX11_guess_20 : decode cX11_guess 20 = .ok (.aload_n 0, 1) := by decide +kernel
theorem dX11_guess_21 : decode cX11_guess 21 = .ok (.iload_n 1, 1) := by decide +kernel
theorem dX11_guess_22 : decode cX11_guess 22 = .ok (.iload_n 2, 1) := by decide +kernel
theorem dX11_guess_23 : decode cX11_guess 23 = .ok (.iload_n 3, 1) := by decide +kernel
theorem dX11_guess_24 : decode cX11_guess 24 = .ok (.invokevirtual 129, 3) := by decide +kernel
theorem dX11_guess_27 : decode cX11_guess 27 = .ok (.ireturn, 1) := by decide +kernel
set_option maxRecDepth 20000 in
theorem ggX11_guess_X11_isRunner : GoodIn wsX11_guess wsX11_isRunner := goodIn_sub (List.forall_mem_cons.mpr ⟨List.mem_cons_of_mem _ (List.mem_append_left _ (List.mem_append_left _ (List.mem_of_getElem? (l := wsX11_guess_r1) (i := 4) rfl))), (List.forall_mem_append.mpr ⟨(List.forall_mem_cons.mpr ⟨List.mem_cons_of_mem _ (List.mem_append_left _ (List.mem_append_left _ (List.mem_of_getElem? (l := wsX11_guess_r1) (i := 5) rfl))), (List.forall_mem_cons.mpr ⟨List.mem_cons_of_mem _ (List.mem_append_left _ (List.mem_append_left _ (List.mem_of_getElem? (l := wsX11_guess_r1) (i := 6) rfl))), (List.forall_mem_cons.mpr ⟨List.mem_cons_of_mem _ (List.mem_append_left _ (List.mem_append_left _ (List.mem_of_getElem? (l := wsX11_guess_r1) (i := 7) rfl))), (List.forall_mem_cons.mpr ⟨List.mem_cons_of_mem _ (List.mem_append_left _ (List.mem_append_left _ (List.mem_of_getElem? (l := wsX11_guess_r1) (i := 8) rfl))), (List.forall_mem_cons.mpr ⟨List.mem_cons_of_mem _ (List.mem_append_left _ (List.mem_append_left _ (List.mem_of_getElem? (l := wsX11_guess_r1) (i := 3) rfl))), (List.forall_mem_cons.mpr ⟨List.mem_cons_of_mem _ (List.mem_append_left _ (List.mem_append_left _ (List.mem_of_getElem? (l := wsX11_guess_r1) (i := 9) rfl))), (List.forall_mem_cons.mpr ⟨List.mem_cons_of_mem _ (List.mem_append_left _ (List.mem_append_left _ (List.mem_of_getElem? (l := wsX11_guess_r1) (i := 10) rfl))), (fun _ h => nomatch h)⟩)⟩)⟩)⟩)⟩)⟩)⟩), (fun _ h => List.mem_cons_of_mem _ (List.mem_append_right _ (h)))⟩)⟩) (by decide +kernel)
set_option maxRecDepth 20000 in
theorem gX11_guess_X11_isRunner : GoodIn wsX11_guess (wsV RX11 65 RX11 yX11_isRunner wsX11_isRunner) := goodIn_app (goodIn_of _ (by decide +kernel)) ggX11_guess_X11_isRunner
set_option maxRecDepth 20000 in
theorem ggX11_guess_X11_isMat : GoodIn wsX11_guess wsX11_isMat := goodIn_sub (List.forall_mem_cons.mpr ⟨List.mem_cons_of_mem _ (List.mem_append_left _ (List.mem_append_left _ (List.mem_of_getElem? (l := wsX11_guess_r1) (i := 14) rfl))), (List.forall_mem_append.mpr ⟨(List.forall_mem_cons.mpr ⟨List.mem_cons_of_mem _ (List.mem_append_left _ (List.mem_append_left _ (List.mem_of_getElem? (l := wsX11_guess_r1) (i := 15) rfl))), (List.forall_mem_cons.mpr ⟨List.mem_cons_of_mem _ (List.mem_append_left _ (List.mem_append_left _ (List.mem_of_getElem? (l := wsX11_guess_r1) (i := 16) rfl))), (List.forall_mem_cons.mpr ⟨List.mem_cons_of_mem _ (List.mem_append_left _ (List.mem_append_left _ (List.mem_of_getElem? (l := wsX11_guess_r1) (i := 17) rfl))), (List.forall_mem_cons.mpr ⟨List.mem_cons_of_mem _ (List.mem_append_left _ (List.mem_append_left _ (List.mem_of_getElem? (l := wsX11_guess_r1) (i := 3) rfl))), (List.forall_mem_cons.mpr ⟨List.mem_cons_of_mem _ (List.mem_append_left _ (List.mem_append_left _ (List.mem_of_getElem? (l := wsX11_guess_r1) (i := 18) rfl))), (List.forall_mem_cons.mpr ⟨List.mem_cons_of_mem _ (List.mem_append_left _ (List.mem_append_left _ (List.mem_of_getElem? (l := wsX11_guess_r1) (i := 10) rfl))), (fun _ h => nomatch h)⟩)⟩)⟩)⟩)⟩)⟩), (fun _ h => List.mem_cons_of_mem _ (List.mem_append_right _ (h)))⟩)⟩) (by decide +kernel)
set_option maxRecDepth 20000 in
theorem gX11_guess_X11_isMat : GoodIn wsX11_guess (wsV RX11 69 RX11 yX11_isMat wsX11_isMat) := goodIn_app (goodIn_of _ (by decide +kernel)) ggX11_guess_X11_isMat
set_option maxRecDepth 20000 in
theorem ggX11_guess_X11_guessOf : GoodIn wsX11_guess wsX11_guessOf := goodIn_sub (List.forall_mem_cons.mpr ⟨List.mem_cons_of_mem _ (List.mem_append_left _ (List.mem_append_left _ (List.mem_of_getElem? (l := wsX11_guess_r1) (i := 22) rfl))), (List.forall_mem_append.mpr ⟨(List.forall_mem_append.mpr ⟨(List.forall_mem_cons.mpr ⟨List.mem_cons_of_mem _ (List.mem_append_left _ (List.mem_append_left _ (List.mem_of_getElem? (l := wsX11_guess_r1) (i := 23) rfl))), (List.forall_mem_cons.mpr ⟨List.mem_cons_of_mem _ (List.mem_append_left _ (List.mem_append_right _ (List.mem_append_left _ (List.mem_of_getElem? (l := wsX11_guess_r2) (i := 0) rfl)))), (List.forall_mem_cons.mpr ⟨List.mem_cons_of_mem _ (List.mem_append_left _ (List.mem_append_right _ (List.mem_append_left _ (List.mem_of_getElem? (l := wsX11_guess_r2) (i := 1) rfl)))), (List.forall_mem_cons.mpr ⟨List.mem_cons_of_mem _ (List.mem_append_left _ (List.mem_append_right _ (List.mem_append_left _ (List.mem_of_getElem? (l := wsX11_guess_r2) (i := 2) rfl)))), (List.forall_mem_cons.mpr ⟨List.mem_cons_of_mem _ (List.mem_append_left _ (List.mem_append_right _ (List.mem_append_left _ (List.mem_of_getElem? (l := wsX11_guess_r2) (i := 3) rfl)))), (List.forall_mem_cons.mpr ⟨List.mem_cons_of_mem _ (List.mem_append_left _ (List.mem_append_right _ (List.mem_append_left _ (List.mem_of_getElem? (l := wsX11_guess_r2) (i := 4) rfl)))), (List.forall_mem_cons.mpr ⟨List.mem_cons_of_mem _ (List.mem_append_left _ (List.mem_append_right _ (List.mem_append_left _ (List.mem_of_getElem? (l := wsX11_guess_r2) (i := 5) rfl)))), (List.forall_mem_cons.mpr ⟨List.mem_cons_of_mem _ (List.mem_append_left _ (List.mem_append_right _ (List.mem_append_left _ (List.mem_of_getElem? (l := wsX11_guess_r2) (i := 6) rfl)))), (List.forall_mem_cons.mpr ⟨List.mem_cons_of_mem _ (List.mem_append_left _ (List.mem_append_right _ (List.mem_append_left _ (List.mem_of_getElem? (l := wsX11_guess_r2) (i := 7) rfl)))), (List.forall_mem_cons.mpr ⟨List.mem_cons_of_mem _ (List.mem_append_left _ (List.mem_append_right _ (List.mem_append_left _ (List.mem_of_getElem? (l := wsX11_guess_r2) (i := 8) rfl)))), (List.forall_mem_cons.mpr ⟨List.mem_cons_of_mem _ (List.mem_append_left _ (List.mem_append_right _ (List.mem_append_left _ (List.mem_of_getElem? (l := wsX11_guess_r2) (i := 9) rfl)))), (List.forall_mem_cons.mpr ⟨List.mem_cons_of_mem _ (List.mem_append_left _ (List.mem_append_right _ (List.mem_append_left _ (List.mem_of_getElem? (l := wsX11_guess_r2) (i := 10) rfl)))), (List.forall_mem_cons.mpr ⟨List.mem_cons_of_mem _ (List.mem_append_left _ (List.mem_append_left _ (List.mem_of_getElem? (l := wsX11_guess_r1) (i := 3) rfl))), (List.forall_mem_cons.mpr ⟨List.mem_cons_of_mem _ (List.mem_append_left _ (List.mem_append_right _ (List.mem_append_left _ (List.mem_of_getElem? (l := wsX11_guess_r2) (i := 11) rfl)))), (List.forall_mem_cons.mpr ⟨List.mem_cons_of_mem _ (List.mem_append_left _ (List.mem_append_right _ (List.mem_append_left _ (List.mem_of_getElem? (l := wsX11_guess_r2) (i := 12) rfl)))), (List.forall_mem_cons.mpr ⟨List.mem_cons_of_mem _ (List.mem_append_left _ (List.mem_append_right _ (List.mem_append_left _ (List.mem_of_getElem? (l := wsX11_guess_r2) (i := 13) rfl)))), (List.forall_mem_cons.mpr ⟨List.mem_cons_of_mem _ (List.mem_append_left _ (List.mem_append_right _ (List.mem_append_left _ (List.mem_of_getElem? (l := wsX11_guess_r2) (i := 14) rfl)))), (List.forall_mem_cons.mpr ⟨List.mem_cons_of_mem _ (List.mem_append_left _ (List.mem_append_right _ (List.mem_append_left _ (List.mem_of_getElem? (l := wsX11_guess_r2) (i := 15) rfl)))), (List.forall_mem_cons.mpr ⟨List.mem_cons_of_mem _ (List.mem_append_left _ (List.mem_append_right _ (List.mem_append_left _ (List.mem_of_getElem? (l := wsX11_guess_r2) (i := 16) rfl)))), (List.forall_mem_cons.mpr ⟨List.mem_cons_of_mem _ (List.mem_append_left _ (List.mem_append_right _ (List.mem_append_left _ (List.mem_of_getElem? (l := wsX11_guess_r2) (i := 17) rfl)))), (List.forall_mem_cons.mpr ⟨List.mem_cons_of_mem _ (List.mem_append_left _ (List.mem_append_right _ (List.mem_append_left _ (List.mem_of_getElem? (l := wsX11_guess_r2) (i := 18) rfl)))), (List.forall_mem_cons.mpr ⟨List.mem_cons_of_mem _ (List.mem_append_left _ (List.mem_append_right _ (List.mem_append_left _ (List.mem_of_getElem? (l := wsX11_guess_r2) (i := 19) rfl)))), (List.forall_mem_cons.mpr ⟨List.mem_cons_of_mem _ (List.mem_append_left _ (List.mem_append_right _ (List.mem_append_left _ (List.mem_of_getElem? (l := wsX11_guess_r2) (i := 20) rfl)))), (List.forall_mem_cons.mpr ⟨List.mem_cons_of_mem _ (List.mem_append_left _ (List.mem_append_right _ (List.mem_append_left _ (List.mem_of_getElem? (l := wsX11_guess_r2) (i := 21) rfl)))), (fun _ h => nomatch h)⟩)⟩)⟩)⟩)⟩)⟩)⟩)⟩)⟩)⟩)⟩)⟩)⟩)⟩)⟩)⟩)⟩)⟩)⟩)⟩)⟩)⟩)⟩)⟩), (List.forall_mem_cons.mpr ⟨List.mem_cons_of_mem _ (List.mem_append_left _ (List.mem_append_right _ (List.mem_append_left _ (List.mem_of_getElem? (l := wsX11_guess_r2) (i := 22) rfl)))), (List.forall_mem_cons.mpr ⟨List.mem_cons_of_mem _ (List.mem_append_left _ (List.mem_append_right _ (List.mem_append_left _ (List.mem_of_getElem? (l := wsX11_guess_r2) (i := 23) rfl)))), (List.forall_mem_cons.mpr ⟨List.mem_cons_of_mem _ (List.mem_append_left _ (List.mem_append_left _ (List.mem_of_getElem? (l := wsX11_guess_r1) (i := 10) rfl))), (List.forall_mem_cons.mpr ⟨List.mem_cons_of_mem _ (List.mem_append_left _ (List.mem_append_right _ (List.mem_append_right _ (List.mem_of_getElem? (l := wsX11_guess_r3) (i := 0) rfl)))), (List.forall_mem_cons.mpr ⟨List.mem_cons_of_mem _ (List.mem_append_left _ (List.mem_append_right _ (List.mem_append_right _ (List.mem_of_getElem? (l := wsX11_guess_r3) (i := 1) rfl)))), (List.forall_mem_cons.mpr ⟨List.mem_cons_of_mem _ (List.mem_append_left _ (List.mem_append_right _ (List.mem_append_right _ (List.mem_of_getElem? (l := wsX11_guess_r3) (i := 2) rfl)))), (List.forall_mem_cons.mpr ⟨List.mem_cons_of_mem _ (List.mem_append_left _ (List.mem_append_right _ (List.mem_append_right _ (List.mem_of_getElem? (l := wsX11_guess_r3) (i := 3) rfl)))), (List.forall_mem_cons.mpr ⟨List.mem_cons_of_mem _ (List.mem_append_left _ (List.mem_append_left _ (List.mem_of_getElem? (l := wsX11_guess_r1) (i := 15) rfl))), (List.forall_mem_cons.mpr ⟨List.mem_cons_of_mem _ (List.mem_append_left _ (List.mem_append_left _ (List.mem_of_getElem? (l := wsX11_guess_r1) (i := 16) rfl))), (List.forall_mem_cons.mpr ⟨List.mem_cons_of_mem _ (List.mem_append_left _ (List.mem_append_left _ (List.mem_of_getElem? (l := wsX11_guess_r1) (i := 17) rfl))), (List.forall_mem_cons.mpr ⟨List.mem_cons_of_mem _ (List.mem_append_left _ (List.mem_append_left _ (List.mem_of_getElem? (l := wsX11_guess_r1) (i := 18) rfl))), (List.forall_mem_cons.mpr ⟨List.mem_cons_of_mem _ (List.mem_append_left _ (List.mem_append_right _ (List.mem_append_right _ (List.mem_of_getElem? (l := wsX11_guess_r3) (i := 4) rfl)))), (List.forall_mem_cons.mpr ⟨List.mem_cons_of_mem _ (List.mem_append_left _ (List.mem_append_right _ (List.mem_append_right _ (List.mem_of_getElem? (l := wsX11_guess_r3) (i := 5) rfl)))), (List.forall_mem_cons.mpr ⟨List.mem_cons_of_mem _ (List.mem_append_left _ (List.mem_append_right _ (List.mem_append_right _ (List.mem_of_getElem? (l := wsX11_guess_r3) (i := 6) rfl)))), (List.forall_mem_cons.mpr ⟨List.mem_cons_of_mem _ (List.mem_append_left _ (List.mem_append_right _ (List.mem_append_right _ (List.mem_of_getElem? (l := wsX11_guess_r3) (i := 7) rfl)))), (List.forall_mem_cons.mpr ⟨List.mem_cons_of_mem _ (List.mem_append_left _ (List.mem_append_right _ (List.mem_append_right _ (List.mem_of_getElem? (l := wsX11_guess_r3) (i := 8) rfl)))), (List.forall_mem_cons.mpr ⟨List.mem_cons_of_mem _ (List.mem_append_left _ (List.mem_append_right _ (List.mem_append_right _ (List.mem_of_getElem? (l := wsX11_guess_r3) (i := 9) rfl)))), (List.forall_mem_cons.mpr ⟨List.mem_cons_of_mem _ (List.mem_append_left _ (List.mem_append_right _ (List.mem_append_right _ (List.mem_of_getElem? (l := wsX11_guess_r3) (i := 10) rfl)))), (List.forall_mem_cons.mpr ⟨List.mem_cons_of_mem _ (List.mem_append_left _ (List.mem_append_right _ (List.mem_append_right _ (List.mem_of_getElem? (l := wsX11_guess_r3) (i := 11) rfl)))), (List.forall_mem_cons.mpr ⟨List.mem_cons_of_mem _ (List.mem_append_left _ (List.mem_append_right _ (List.mem_append_right _ (List.mem_of_getElem? (l := wsX11_guess_r3) (i := 12) rfl)))), (List.forall_mem_cons.mpr ⟨List.mem_cons_of_mem _ (List.mem_append_left _ (List.mem_append_right _ (List.mem_append_right _ (List.mem_of_getElem? (l := wsX11_guess_r3) (i := 13) rfl)))), (List.forall_mem_cons.mpr ⟨List.mem_cons_of_mem _ (List.mem_append_left _ (List.mem_append_right _ (List.mem_append_right _ (List.mem_of_getElem? (l := wsX11_guess_r3) (i := 14) rfl)))), (List.forall_mem_cons.mpr ⟨List.mem_cons_of_mem _ (List.mem_append_left _ (List.mem_append_right _ (List.mem_append_right _ (List.mem_of_getElem? (l := wsX11_guess_r3) (i := 15) rfl)))), (fun _ h => nomatch h)⟩)⟩)⟩)⟩)⟩)⟩)⟩)⟩)⟩)⟩)⟩)⟩)⟩)⟩)⟩)⟩)⟩)⟩)⟩)⟩)⟩)⟩)⟩)⟩), (fun _ h => List.mem_cons_of_mem _ (List.mem_append_right _ (h)))⟩)⟩) (by decide +kernel)
set_option maxRecDepth 20000 in
theorem gX11_guess_X11_guessOf : GoodIn wsX11_guess (wsV RX11 129 RX11 yX11_guessOf wsX11_guessOf) := goodIn_app (goodIn_of _ (by decide +kernel)) ggX11_guess_X11_guessOf
set_option maxHeartbeats 4000000 in
set_option maxRecDepth 100000 in
theorem mX11_guess (l : Launch) (D : va_G) (cB cI cZ : ClassId) (a_t : Nat) (a_t_now : Nat) (a_t_kept : Nat) (a_t_text : Nat) (a_t_passing : Nat) (a_t_order : Nat) (a_t_times : Nat) (t_thrown : Int32) (t_isKept : Int32) (t_length : Int32) (t_at : Int32) (t_fault : Int32) (t_open : Int32) (t_asked : Int32) (t_byGun : Int32) (t_prizeMost : Int32) (t_listed : Int32) (t_now : Nat → Int32) (sz : Nat) (x1 : Int32) (x2 : Int32) (x3 : Int32) (N : Nat) (r0 : Int32) (t_thrown' : Int32) (h : fX11_guess N t_thrown t_now x1 x2 x3 = some (r0, t_thrown')) : Met l yX11_guess wsX11_guess ({ frames := 5, cells := 0, slots := 0, locals := 117 } : Room) (va_Pc [.ref a_t, .int x1, .int x2, .int x3] (zPre D (zT cB cI cZ) [(a_t, .inr (11, [.int t_thrown, .ref a_t_now, .ref a_t_kept, .int t_isKept, .ref a_t_text, .int t_length, .ref a_t_passing, .int t_at, .int t_fault, .int t_open, .int t_asked, .int t_byGun, .int t_prizeMost, .ref a_t_order, .ref a_t_times, .int t_listed])), (a_t_now, .inl (cI, 1562, .inl t_now))] sz)) (zQi r0 D (zT cB cI cZ) [(a_t, .inr (11, [.int t_thrown', .ref a_t_now, .ref a_t_kept, .int t_isKept, .ref a_t_text, .int t_length, .ref a_t_passing, .int t_at, .int t_fault, .int t_open, .int t_asked, .int t_byGun, .int t_prizeMost, .ref a_t_order, .ref a_t_times, .int t_listed])), (a_t_now, .inl (cI, 1562, .inl t_now))] (va_A [(a_t, .inr (11, [.int t_thrown, .ref a_t_now, .ref a_t_kept, .int t_isKept, .ref a_t_text, .int t_length, .ref a_t_passing, .int t_at, .int t_fault, .int t_open, .int t_asked, .int t_byGun, .int t_prizeMost, .ref a_t_order, .ref a_t_times, .int t_listed])), (a_t_now, .inl (cI, 1562, .inl t_now))] sz)) 0 0 (va_A [(a_t, .inr (11, [.int t_thrown, .ref a_t_now, .ref a_t_kept, .int t_isKept, .ref a_t_text, .int t_length, .ref a_t_passing, .int t_at, .int t_fault, .int t_open, .int t_asked, .int t_byGun, .int t_prizeMost, .ref a_t_order, .ref a_t_times, .int t_listed])), (a_t_now, .inl (cI, 1562, .inl t_now))] sz) := by
  refine Met.ofW (cc := cX11_guess) (maxL := 4) (ret := (some .int)) (by decide) rfl ?_
  intro p e s m args below meth c s₁ B hml hv
  obtain ⟨rfl, hsz, hP, hK, hN, hZ, hD0⟩ := hv
  have hx := B.exec
  have hb := B.bytes
  have hr := B.returns
  have hts := atoms_spec (ws := wsX11_guess) B.pre
  have hown : s.vm.findClass RX11 = some m.cls := findClass_of_methodNamed B.named
  have hlocks := B.notSynchronized
  subst hsz
  have hD := hD0.self (sz := s.heap.size)
  generalize hAe : va_A [(a_t, .inr (11, [.int t_thrown, .ref a_t_now, .ref a_t_kept, .int t_isKept, .ref a_t_text, .int t_length, .ref a_t_passing, .int t_at, .int t_fault, .int t_open, .int t_asked, .int t_byGun, .int t_prizeMost, .ref a_t_order, .ref a_t_times, .int t_listed])), (a_t_now, .inl (cI, 1562, .inl t_now))] s.heap.size = A at hD hZ ⊢
  have hA : ∀ q : Nat, s.heap.size ≤ q → A q := fun q h => by rw [← hAe]; exact Or.inr h
  have hS : va_S A s.heap s.heap [] := va_S.rf
  have hl := lv_entry ([.ref a_t, .int x1, .int x2, .int x3]) (n := 4) (Nat.le_of_ble_eq_true rfl)
  rw [lg_entry_eq]
  generalize (lg_sl ([.ref a_t, .int x1, .int x2, .int x3]) ++ List.replicate (4 - (lg_sl ([.ref a_t, .int x1, .int x2, .int x3])).length) Slot.unset).toArray = ls at hl ⊢
  have hl : lv_has ls 4 [(0, .ref a_t), (1, .int x1), (2, .int x2), (3, .int x3)] := hl
  unfold fX11_guess at h
  refine lv_aload_n hx hb dX11_guess_0 rfl (lv_at hl 0 rfl) ?_
  refine lv_iload_n hx hb dX11_guess_1 rfl (lv_at hl 1 rfl) ?_
  obtain ⟨⟨b1, t_thrown_r2⟩, e3, h⟩ := zz_b h
  dsimp only at h
  refine zVi (As := [.int x1]) (rest := []) (C := RX11) (wr := []) [0, 1] [] 0 ⟨hx, hb, hml, hown, hts⟩ (mX11_isRunner l D cB cI cZ a_t a_t_now a_t_kept a_t_text a_t_passing a_t_order a_t_times t_thrown t_isKept t_length t_at t_fault t_open t_asked t_byGun t_prizeMost t_listed t_now s.heap.size x1 b1 t_thrown_r2 e3) (cwV 1 hts gX11_guess_X11_isRunner rfl rfl rfl (by decide +kernel) ⟨Nat.le_of_ble_eq_true rfl, Nat.le_of_ble_eq_true rfl⟩) hK hN hZ hP hD hS hA rfl rfl rfl rfl rfl rfl rfl rfl hl.1 rfl (lv_room (Nat.le_of_ble_eq_true rfl)) dX11_guess_2 ⟨Nat.le_of_ble_eq_true rfl, Nat.le_of_ble_eq_true rfl⟩ (fun H locs hP hD hS => ?_)
  have hP : va_P D vwCl [(a_t, .inr (11, [.int t_thrown_r2, .ref a_t_now, .ref a_t_kept, .int t_isKept, .ref a_t_text, .int t_length, .ref a_t_passing, .int t_at, .int t_fault, .int t_open, .int t_asked, .int t_byGun, .int t_prizeMost, .ref a_t_order, .ref a_t_times, .int t_listed])), (a_t_now, .inl (cI, 1562, .inl t_now))] H := hP
  have hD : va_D A [(a_t, .inr (11, [.int t_thrown_r2, .ref a_t_now, .ref a_t_kept, .int t_isKept, .ref a_t_text, .int t_length, .ref a_t_passing, .int t_at, .int t_fault, .int t_open, .int t_asked, .int t_byGun, .int t_prizeMost, .ref a_t_order, .ref a_t_times, .int t_listed])), (a_t_now, .inl (cI, 1562, .inl t_now))] := hD
  refine lv_if_eq (tgt := 16) hx hb dX11_guess_5 (by decide) (fun c4 => ?_) (fun c4 => ?_)
  · have h := zz_t h c4
    refine lv_iconst (v := (-1 : Int32)) hx hb dX11_guess_16 rfl ?_
    refine lv_goto (tgt := 27) hx hb dX11_guess_17 (by decide) ?_
    obtain ⟨j0_, g_⟩ := Prod.mk.inj (Option.some.inj h)
    have j1_ := g_
    subst j0_
    subst j1_
    exact W.iret (v := (-1 : Int32)) hx hb hr (fun t ht hW => ⟨⟨_, (), rfl, rfl, zPost.of hP hD hK ht hW [0, 1] rfl rfl rfl⟩, hS.F ht⟩) hS.2.2 dX11_guess_27
  · have h := zz_f h c4
    refine lv_aload_n hx hb dX11_guess_8 rfl (lv_at hl 0 rfl) ?_
    refine lv_iload_n hx hb dX11_guess_9 rfl (lv_at hl 2 rfl) ?_
    obtain ⟨b5, e6, h⟩ := zz_b h
    refine zVi (As := [.int x2]) (rest := []) (C := RX11) (wr := []) [0, 1] [] 0 ⟨hx, hb, hml, hown, hts⟩ (mX11_isMat l D cB cI cZ a_t a_t_now a_t_kept a_t_text a_t_passing a_t_order a_t_times t_thrown_r2 t_isKept t_length t_at t_fault t_open t_asked t_byGun t_prizeMost t_listed t_now H.size x2 b5 e6) (cwV 1 hts gX11_guess_X11_isMat rfl rfl rfl (by decide +kernel) ⟨Nat.le_of_ble_eq_true rfl, Nat.le_of_ble_eq_true rfl⟩) hK hN hZ hP hD hS hA rfl rfl rfl rfl rfl rfl rfl rfl hl.1 rfl (lv_room (Nat.le_of_ble_eq_true rfl)) dX11_guess_10 ⟨Nat.le_of_ble_eq_true rfl, Nat.le_of_ble_eq_true rfl⟩ (fun H locs hP hD hS => ?_)
    have hP : va_P D vwCl [(a_t, .inr (11, [.int t_thrown_r2, .ref a_t_now, .ref a_t_kept, .int t_isKept, .ref a_t_text, .int t_length, .ref a_t_passing, .int t_at, .int t_fault, .int t_open, .int t_asked, .int t_byGun, .int t_prizeMost, .ref a_t_order, .ref a_t_times, .int t_listed])), (a_t_now, .inl (cI, 1562, .inl t_now))] H := hP
    have hD : va_D A [(a_t, .inr (11, [.int t_thrown_r2, .ref a_t_now, .ref a_t_kept, .int t_isKept, .ref a_t_text, .int t_length, .ref a_t_passing, .int t_at, .int t_fault, .int t_open, .int t_asked, .int t_byGun, .int t_prizeMost, .ref a_t_order, .ref a_t_times, .int t_listed])), (a_t_now, .inl (cI, 1562, .inl t_now))] := hD
    refine lv_if_ne (tgt := 20) hx hb dX11_guess_13 (by decide) (fun c7 => ?_) (fun c7 => ?_)
    · have h := zz_f h c7
      refine lv_aload_n hx hb dX11_guess_20 rfl (lv_at hl 0 rfl) ?_
      refine lv_iload_n hx hb dX11_guess_21 rfl (lv_at hl 1 rfl) ?_
      refine lv_iload_n hx hb dX11_guess_22 rfl (lv_at hl 2 rfl) ?_
      refine lv_iload_n hx hb dX11_guess_23 rfl (lv_at hl 3 rfl) ?_
      obtain ⟨r8, e9, h⟩ := zz_b h
      refine zVi (As := [.int x1, .int x2, .int x3]) (rest := []) (C := RX11) (wr := []) [0, 1] [] 0 ⟨hx, hb, hml, hown, hts⟩ (mX11_guessOf l D cB cI cZ a_t a_t_now a_t_kept a_t_text a_t_passing a_t_order a_t_times t_thrown_r2 t_isKept t_length t_at t_fault t_open t_asked t_byGun t_prizeMost t_listed t_now H.size x1 x2 x3 N r8 e9) (cwV 3 hts gX11_guess_X11_guessOf rfl rfl rfl (by decide +kernel) ⟨Nat.le_of_ble_eq_true rfl, Nat.le_of_ble_eq_true rfl⟩) hK hN hZ hP hD hS hA rfl rfl rfl rfl rfl rfl rfl rfl hl.1 rfl (lv_room (Nat.le_of_ble_eq_true rfl)) dX11_guess_24 ⟨Nat.le_of_ble_eq_true rfl, Nat.le_of_ble_eq_true rfl⟩ (fun H locs hP hD hS => ?_)
      have hP : va_P D vwCl [(a_t, .inr (11, [.int t_thrown_r2, .ref a_t_now, .ref a_t_kept, .int t_isKept, .ref a_t_text, .int t_length, .ref a_t_passing, .int t_at, .int t_fault, .int t_open, .int t_asked, .int t_byGun, .int t_prizeMost, .ref a_t_order, .ref a_t_times, .int t_listed])), (a_t_now, .inl (cI, 1562, .inl t_now))] H := hP
      have hD : va_D A [(a_t, .inr (11, [.int t_thrown_r2, .ref a_t_now, .ref a_t_kept, .int t_isKept, .ref a_t_text, .int t_length, .ref a_t_passing, .int t_at, .int t_fault, .int t_open, .int t_asked, .int t_byGun, .int t_prizeMost, .ref a_t_order, .ref a_t_times, .int t_listed])), (a_t_now, .inl (cI, 1562, .inl t_now))] := hD
      obtain ⟨j0_, g_⟩ := Prod.mk.inj (Option.some.inj h)
      have j1_ := g_
      subst j0_
      subst j1_
      exact W.iret (v := r8) hx hb hr (fun t ht hW => ⟨⟨_, (), rfl, rfl, zPost.of hP hD hK ht hW [0, 1] rfl rfl rfl⟩, hS.F ht⟩) hS.2.2 dX11_guess_27
    · have h := zz_t h c7
      refine lv_iconst (v := (-1 : Int32)) hx hb dX11_guess_16 rfl ?_
      refine lv_goto (tgt := 27) hx hb dX11_guess_17 (by decide) ?_
      obtain ⟨j0_, g_⟩ := Prod.mk.inj (Option.some.inj h)
      have j1_ := g_
      subst j0_
      subst j1_
      exact W.iret (v := (-1 : Int32)) hx hb hr (fun t ht hW => ⟨⟨_, (), rfl, rfl, zPost.of hP hD hK ht hW [0, 1] rfl rfl rfl⟩, hS.F ht⟩) hS.2.2 dX11_guess_27
/-! RunDeskModel.isDoubt -/
theorem dX11_isDoubt_0 : decode cX11_isDoubt 0 = .ok (.aload_n 0, 1) := by decide +kernel
theorem dX11_isDoubt_1 : decode cX11_isDoubt 1 = .ok (.iload_n 1, 1) := by decide +kernel
theorem dX11_isDoubt_2 : decode cX11_isDoubt 2 = .ok (.iload_n 2, 1) := by decide +kernel
theorem dX11_isDoubt_3 : decode cX11_isDoubt 3 = .ok (.invokevirtual 95, 3) := by decide +kernel
theorem dX11_isDoubt_6 : decode cX11_isDoubt 6 = .ok (.iconst (-1), 1) := by decide +kernel
theorem dX11_isDoubt_7 : decode cX11_isDoubt 7 = .ok (.if_icmp .eq 7, 3) := by decide +kernel
theorem dX11_isDoubt_10 : decode cX11_isDoubt 10 = .ok (.iconst 1, 1) := by decide +kernel
theorem dX11_isDoubt_11 : decode cX11_isDoubt 11 = .ok (.goto 4, 3) := by decide +kernel
theorem dX11_isDoubt_14 : decode cX11_isDoubt 14 = .ok (.iconst 0, 1) := by decide +kernel
theorem dX11_isDoubt_15 : decode cX11_isDoubt 15 = .ok (.istore 4, 2) := by decide +kernel
theorem dX11_isDoubt_17 : decode cX11_isDoubt 17 = .ok (.iload_n 3, 1) := by decide +kernel
theorem dX11_isDoubt_18 : decode cX11_isDoubt 18 = .ok (.iconst 1, 1) := by decide +kernel
theorem dX11_isDoubt_19 : decode cX11_isDoubt 19 = .ok (.if_icmp .ne 65, 3) := by decide +kernel
theorem dX11_isDoubt_22 : decode cX11_isDoubt 22 = .ok (.iconst 0, 1) := by decide +kernel
theorem dX11_isDoubt_23 : decode cX11_isDoubt 23 = .ok (.istore 5, 2) := by decide +kernel
theorem dX11_isDoubt_25 : decode cX11_isDoubt 25 = .ok (.iload_n 2, 1) := by decide +kernel
theorem dX11_isDoubt_26 : decode cX11_isDoubt 26 = .ok (.iconst 1, 1) := by decide +kernel
theorem dX11_isDoubt_27 : decode cX11_isDoubt 27 = .ok (.iadd, 1) := by decide +kernel
theorem dX11_isDoubt_28 : decode cX11_isDoubt 28 = .ok (.istore 6, 2) := by decide +kernel
theorem dX11_isDoubt_30 : decode cX11_isDoubt 30 = .ok (.iload 6, 2) := by decide +kernel
theorem dX11_isDoubt_32 : decode cX11_isDoubt 32 = .ok (.aload_n 0, 1) := by decide +kernel
theorem dX11_isDoubt_33 : decode cX11_isDoubt 33 = .ok (.invokevirtual 41, 3) := by decide +kernel
theorem dX11_isDoubt_36 : decode cX11_isDoubt 36 = .ok (.if_icmp .ge 32, 3) := by decide +kernel
theorem dX11_isDoubt_39 : decode cX11_isDoubt 39 = .ok (.iload 5, 2) := by decide +kernel
theorem dX11_isDoubt_41 : decode cX11_isDoubt 41 = .ok (.ifCond .ne 14, 3) := by decide +kernel
theorem dX11_isDoubt_44 : decode cX11_isDoubt 44 = .ok (.aload_n 0, 1) := by decide +kernel
theorem dX11_isDoubt_45 : decode cX11_isDoubt 45 = .ok (.iload_n 1, 1) := by decide +kernel
theorem dX11_isDoubt_46 : decode cX11_isDoubt 46 = .ok (.iload 6, 2) := by decide +kernel
theorem dX11_isDoubt_48 : decode cX11_isDoubt 48 = .ok (.invokevirtual 95, 3) := by decide +kernel
theorem dX11_isDoubt_51 : decode cX11_isDoubt 51 = .ok (.iconst (-1), 1) := by decide +kernel
theorem dX11_isDoubt_52 : decode cX11_isDoubt 52 = .ok (.if_icmp .eq 7, 3) := by decide +kernel
theorem dX11_isDoubt_55 : decode cX11_isDoubt 55 = .ok (.iconst 1, 1) := by decide +kernel
theorem dX11_isDoubt_56 : decode cX11_isDoubt 56 = .ok (.goto 4, 3) := by decide +kernel
theorem dX11_isDoubt_59 : decode cX11_isDoubt 59 = .ok (.iconst 0, 1) := by decide +kernel
theorem dX11_isDoubt_60 : decode cX11_isDoubt 60 = .ok (.istore 5, 2) := by decide +kernel
theorem dX11_isDoubt_62 : decode cX11_isDoubt 62 = .ok (.iinc 6 1, 3) := by decide +kernel
theorem dX11_isDoubt_65 : decode cX11_isDoubt 65 = .ok (.goto (-35), 3) := by decide +kernel
theorem dX11_isDoubt_68 : decode cX11_isDoubt 68 = .ok (.iload 4, 2) := by decide +kernel
theorem dX11_isDoubt_70 : decode cX11_isDoubt 70 = .ok (.ifCond .ne 12, 3) := by decide +kernel
theorem dX11_isDoubt_73 : decode cX11_isDoubt 73 = .ok (.iload 5, 2) := by decide +kernel
theorem dX11_isDoubt_75 : decode cX11_isDoubt 75 = .ok (.ifCond .eq 7, 3) := by decide +kernel
theorem dX11_isDoubt_78 : decode cX11_isDoubt 78 = .ok (.iconst 1, 1) := by decide +kernel
theorem dX11_isDoubt_79 : decode cX11_isDoubt 79 = .ok (.goto 4, 3) := by decide +kernel
theorem dX11_isDoubt_82 : decode cX11_isDoubt 82 = .ok (.iconst 0, 1) := by decide +kernel
theorem dX11_isDoubt_83 : decode cX11_isDoubt 83 = .ok (.ireturn, 1) := by decide +kernel
theorem dX11_isDoubt_84 : decode cX11_isDoubt 84 = .ok (.iload_n 3, 1) := by decide +kernel
theorem dX11_isDoubt_85 : decode cX11_isDoubt 85 = .ok (.iconst 3, 1) := by decide +kernel
theorem dX11_isDoubt_86 : decode cX11_isDoubt 86 = .ok (.if_icmp .ne 31, 3) := by decide +kernel
theorem dX11_isDoubt_89 : decode cX11_isDoubt 89 = .ok (.iload 4, 2) := by decide +kernel
theorem dX11_isDoubt_91 : decode cX11_isDoubt 91 = .ok (.ifCond .ne 24, 3) := by decide +kernel
theorem dX11_isDoubt_94 : decode cX11_isDoubt 94 = .ok (.aload_n 0, 1) := by decide +kernel
theorem dX11_isDoubt_95 : decode cX11_isDoubt 95 = .ok (.iload_n 1, 1) := by decide +kernel
theorem dX11_isDoubt_96 : decode cX11_isDoubt 96 = .ok (.iload_n 2, 1) := by decide +kernel
theorem dX11_isDoubt_97 : decode cX11_isDoubt 97 = .ok (.iconst 0, 1) := by decide +kernel
theorem dX11_isDoubt_98 : decode cX11_isDoubt 98 = .ok (.invokevirtual 129, 3) := by decide +kernel
theorem dX11_isDoubt_101 : decode cX11_isDoubt 101 = .ok (.aload_n 0, 1) := by decide +kernel
theorem dX11_isDoubt_102 : decode cX11_isDoubt 102 = .ok (.iload_n 1, 1) := by decide +kernel
theorem dX11_isDoubt_103 : decode cX11_isDoubt 103 = .ok (.iload_n 2, 1) := by decide +kernel
theorem dX11_isDoubt_104 : decode cX11_isDoubt 104 = .ok (.iconst 1, 1) := by decide +kernel
theorem dX11_isDoubt_105 : decode cX11_isDoubt 105 = .ok (.invokevirtual 129, 3) := by decide +kernel
theorem dX11_isDoubt_108 : decode cX11_isDoubt 108 = .ok (.if_icmp .le 7, 3) := by decide +kernel
theorem dX11_isDoubt_111 : decode cX11_isDoubt 111 = .ok (.iconst 1, 1) := by decide +kernel
theorem dX11_isDoubt_112 : decode cX11_isDoubt 112 = .ok (.goto 4, 3) := by decide +kernel
theorem dX11_isDoubt_115 : decode cX11_isDoubt 115 = .ok (.iconst 0, 1) := by decide +kernel
theorem dX11_isDoubt_116 : decode cX11_isDoubt 116 = .ok (.ireturn, 1) := by decide +kernel
theorem dX11_isDoubt_117 : decode cX11_isDoubt 117 = .ok (.iload_n 2, 1) := by decide +kernel
theorem dX11_isDoubt_118 : decode cX11_isDoubt 118 = .ok (.iconst 1, 1) := by decide +kernel
theorem dX11_isDoubt_119 : decode cX11_isDoubt 119 = .ok (.isub, 1) := by decide +kernel
theorem dX11_isDoubt_120 : decode cX11_isDoubt 120 = .ok (.istore 5, 2) := by decide +kernel
theorem dX11_isDoubt_122 : decode cX11_isDoubt 122 = .ok (.iload 5, 2) := by decide +kernel
theorem dX11_isDoubt_124 : decode cX11_isDoubt 124 = .ok (.ifCond .lt 20, 3) := by decide +kernel
theorem dX11_isDoubt_127 : decode cX11_isDoubt 127 = .ok (.aload_n 0, 1) := by decide +kernel
theorem dX11_isDoubt_128 : decode cX11_isDoubt 128 = .ok (.iload_n 1, 1) := by decide +kernel
theorem dX11_isDoubt_129 : decode cX11_isDoubt 129 = .ok (.iload 5, 2) := by decide +kernel
theorem dX11_isDoubt_131 : decode cX11_isDoubt 131 = .ok (.invokevirtual 95, 3) := by decide +kernel
theorem dX11_isDoubt_134 : decode cX11_isDoubt 134 = .ok (.iconst (-1), 1) := by decide +kernel
theorem dX11_isDoubt_135 : decode cX11_isDoubt 135 = .ok (.if_icmp .ne 9, 3) := by decide +kernel
theorem dX11_isDoubt_138 : decode cX11_isDoubt 138 = .ok (.iinc 5 (-1), 3) := by decide +kernel
theorem dX11_isDoubt_141 : decode cX11_isDoubt 141 = .ok (.goto (-19), 3) := by decide +kernel
theorem dX11_isDoubt_144 : decode cX11_isDoubt 144 = .ok (.iload 4, 2) := by decide +kernel
theorem dX11_isDoubt_146 : decode cX11_isDoubt 146 = .ok (.ifCond .eq 8, 3) := by decide +kernel
theorem dX11_isDoubt_149 : decode cX11_isDoubt 149 = .ok (.iload 5, 2) := by decide +kernel
theorem dX11_isDoubt_151 : decode cX11_isDoubt 151 = .ok (.ifCond .ge 5, 3) := by decide +kernel
theorem dX11_isDoubt_154 : decode cX11_isDoubt 154 = .ok (.iconst 0, 1) := by decide +kernel
theorem dX11_isDoubt_155 : decode cX11_isDoubt 155 = .ok (.ireturn, 1) := by decide +kernel
theorem dX11_isDoubt_156 : decode cX11_isDoubt 156 = .ok (.aload_n 0, 1) := by decide +kernel
theorem dX11_isDoubt_157 : decode cX11_isDoubt 157 = .ok (.iload_n 1, 1) := by decide +kernel
theorem dX11_isDoubt_158 : decode cX11_isDoubt 158 = .ok (.iload_n 2, 1) := by decide +kernel
theorem dX11_isDoubt_159 : decode cX11_isDoubt 159 = .ok (.invokevirtual 95, 3) := by decide +kernel
theorem dX11_isDoubt_162 : decode cX11_isDoubt 162 = .ok (.aload_n 0, 1) := by decide +kernel
theorem dX11_isDoubt_163 : decode cX11_isDoubt 163 = .ok (.iload_n 1, 1) := by decide +kernel
theorem dX11_isDoubt_164 : decode cX11_isDoubt 164 = .ok (.iload 5, 2) := by decide +kernel
theorem dX11_isDoubt_166 : decode cX11_isDoubt 166 = .ok (.invokevirtual 95, 3) := by decide +kernel
theorem dX11_isDoubt_169 : decode cX11_isDoubt 169 = .ok (.isub, 1) := by decide +kernel
theorem dX11_isDoubt_170 : decode cX11_isDoubt 170 = .ok (.aload_n 0, 1) := by decide +kernel
theorem dX11_isDoubt_171 : decode cX11_isDoubt 171 = .ok (.iload_n 2, 1) := by decide +kernel
theorem dX11_isDoubt_172 : decode cX11_isDoubt 172 = .ok (.iconst 0, 1) := by decide +kernel
theorem dX11_isDoubt_173 : decode cX11_isDoubt 173 = .ok (.invokevirtual 56, 3) := by decide +kernel
theorem dX11_isDoubt_176 : decode cX11_isDoubt 176 = .ok (.aload_n 0, 1) := by decide +kernel
theorem dX11_isDoubt_177 : decode cX11_isDoubt 177 = .ok (.iload 5, 2) := by decide +kernel
theorem dX11_isDoubt_179 : decode cX11_isDoubt 179 = .ok (.iconst 0, 1) := by decide +kernel
theorem dX11_isDoubt_180 : decode cX11_isDoubt 180 = .ok (.invokevirtual 56, 3) := by decide +kernel
theorem dX11_isDoubt_183 : decode cX11_isDoubt 183 = .ok (.isub, 1) := by decide +kernel
theorem dX11_isDoubt_184 : decode cX11_isDoubt 184 = .ok (.getstatic 112, 3) := by decide +kernel
theorem dX11_isDoubt_187 : decode cX11_isDoubt 187 = .ok (.aload_n 0, 1) := by decide +kernel
theorem dX11_isDoubt_188 : decode cX11_isDoubt 188 = .ok (.iload_n 1, 1) := by decide +kernel
theorem dX11_isDoubt_189 : decode cX11_isDoubt 189 = .ok (.iconst 0, 1) := by decide +kernel
theorem dX11_isDoubt_190 : decode cX11_isDoubt 190 = .ok (.invokevirtual 62, 3) := by decide +kernel
theorem dX11_isDoubt_193 : decode cX11_isDoubt 193 = .ok (.iaload, 1) := by decide +kernel
theorem dX11_isDoubt_194 : decode cX11_isDoubt 194 = .ok (.invokestatic 118, 3) := by decide +kernel
theorem dX11_isDoubt_197 : decode cX11_isDoubt 197 = .ok (.if_icmp .ge 7, 3) := by decide +kernel
theorem dX11_isDoubt_200 : decode cX11_isDoubt 200 = .ok (.iconst 1, 1) := by decide +kernel
theorem dX11_isDoubt_201 : decode cX11_isDoubt 201 = .ok (.goto 4, 3) := by decide +kernel
theorem dX11_isDoubt_204 : decode cX11_isDoubt 204 = .ok (.iconst 0, 1) := by decide +kernel
theorem dX11_isDoubt_205 : decode cX11_isDoubt 205 = .ok (.ireturn, 1) := by decide +kernel
set_option maxRecDepth 20000 in
theorem ggX11_isDoubt_X11_seen : GoodIn wsX11_isDoubt wsX11_seen := goodIn_sub (List.forall_mem_cons.mpr ⟨List.mem_cons_of_mem _ (List.mem_append_left _ (List.mem_append_left _ (List.mem_of_getElem? (l := wsX11_isDoubt_r1) (i := 5) rfl))), (List.forall_mem_append.mpr ⟨(List.forall_mem_cons.mpr ⟨List.mem_cons_of_mem _ (List.mem_append_left _ (List.mem_append_left _ (List.mem_of_getElem? (l := wsX11_isDoubt_r1) (i := 6) rfl))), (List.forall_mem_cons.mpr ⟨List.mem_cons_of_mem _ (List.mem_append_left _ (List.mem_append_left _ (List.mem_of_getElem? (l := wsX11_isDoubt_r1) (i := 7) rfl))), (List.forall_mem_cons.mpr ⟨List.mem_cons_of_mem _ (List.mem_append_left _ (List.mem_append_left _ (List.mem_of_getElem? (l := wsX11_isDoubt_r1) (i := 8) rfl))), (List.forall_mem_cons.mpr ⟨List.mem_cons_of_mem _ (List.mem_append_left _ (List.mem_append_left _ (List.mem_of_getElem? (l := wsX11_isDoubt_r1) (i := 4) rfl))), (List.forall_mem_cons.mpr ⟨List.mem_cons_of_mem _ (List.mem_append_left _ (List.mem_append_left _ (List.mem_of_getElem? (l := wsX11_isDoubt_r1) (i := 9) rfl))), (List.forall_mem_cons.mpr ⟨List.mem_cons_of_mem _ (List.mem_append_left _ (List.mem_append_left _ (List.mem_of_getElem? (l := wsX11_isDoubt_r1) (i := 10) rfl))), (List.forall_mem_cons.mpr ⟨List.mem_cons_of_mem _ (List.mem_append_left _ (List.mem_append_left _ (List.mem_of_getElem? (l := wsX11_isDoubt_r1) (i := 11) rfl))), (List.forall_mem_cons.mpr ⟨List.mem_cons_of_mem _ (List.mem_append_left _ (List.mem_append_left _ (List.mem_of_getElem? (l := wsX11_isDoubt_r1) (i := 12) rfl))), (List.forall_mem_cons.mpr ⟨List.mem_cons_of_mem _ (List.mem_append_left _ (List.mem_append_left _ (List.mem_of_getElem? (l := wsX11_isDoubt_r1) (i := 13) rfl))), (List.forall_mem_cons.mpr ⟨List.mem_cons_of_mem _ (List.mem_append_left _ (List.mem_append_left _ (List.mem_of_getElem? (l := wsX11_isDoubt_r1) (i := 14) rfl))), (List.forall_mem_cons.mpr ⟨List.mem_cons_of_mem _ (List.mem_append_left _ (List.mem_append_left _ (List.mem_of_getElem? (l := wsX11_isDoubt_r1) (i := 15) rfl))), (List.forall_mem_cons.mpr ⟨List.mem_cons_of_mem _ (List.mem_append_left _ (List.mem_append_left _ (List.mem_of_getElem? (l := wsX11_isDoubt_r1) (i := 16) rfl))), (List.forall_mem_cons.mpr ⟨List.mem_cons_of_mem _ (List.mem_append_left _ (List.mem_append_left _ (List.mem_of_getElem? (l := wsX11_isDoubt_r1) (i := 17) rfl))), (List.forall_mem_cons.mpr ⟨List.mem_cons_of_mem _ (List.mem_append_left _ (List.mem_append_left _ (List.mem_of_getElem? (l := wsX11_isDoubt_r1) (i := 18) rfl))), (List.forall_mem_cons.mpr ⟨List.mem_cons_of_mem _ (List.mem_append_left _ (List.mem_append_left _ (List.mem_of_getElem? (l := wsX11_isDoubt_r1) (i := 19) rfl))), (List.forall_mem_cons.mpr ⟨List.mem_cons_of_mem _ (List.mem_append_left _ (List.mem_append_left _ (List.mem_of_getElem? (l := wsX11_isDoubt_r1) (i := 20) rfl))), (List.forall_mem_cons.mpr ⟨List.mem_cons_of_mem _ (List.mem_append_left _ (List.mem_append_left _ (List.mem_of_getElem? (l := wsX11_isDoubt_r1) (i := 21) rfl))), (List.forall_mem_cons.mpr ⟨List.mem_cons_of_mem _ (List.mem_append_left _ (List.mem_append_left _ (List.mem_of_getElem? (l := wsX11_isDoubt_r1) (i := 22) rfl))), (fun _ h => nomatch h)⟩)⟩)⟩)⟩)⟩)⟩)⟩)⟩)⟩)⟩)⟩)⟩)⟩)⟩)⟩)⟩)⟩)⟩), (fun _ h => List.mem_cons_of_mem _ (List.mem_append_right _ (h)))⟩)⟩) (by decide +kernel)
set_option maxRecDepth 20000 in
theorem gX11_isDoubt_X11_seen : GoodIn wsX11_isDoubt (wsV RX11 95 RX11 yX11_seen wsX11_seen) := goodIn_app (goodIn_of _ (by decide +kernel)) ggX11_isDoubt_X11_seen
set_option maxRecDepth 20000 in
theorem ggX11_isDoubt_X11_mats : GoodIn wsX11_isDoubt wsX11_mats := goodIn_sub (List.forall_mem_cons.mpr ⟨List.mem_cons_of_mem _ (List.mem_append_left _ (List.mem_append_right _ (List.mem_append_left _ (List.mem_of_getElem? (l := wsX11_isDoubt_r2) (i := 2) rfl)))), (List.forall_mem_append.mpr ⟨(List.forall_mem_cons.mpr ⟨List.mem_cons_of_mem _ (List.mem_append_left _ (List.mem_append_left _ (List.mem_of_getElem? (l := wsX11_isDoubt_r1) (i := 18) rfl))), (fun _ h => nomatch h)⟩), (fun _ h => List.mem_cons_of_mem _ (List.mem_append_right _ (h)))⟩)⟩) (by decide +kernel)
set_option maxRecDepth 20000 in
theorem gX11_isDoubt_X11_mats : GoodIn wsX11_isDoubt (wsV RX11 41 RX11 yX11_mats wsX11_mats) := goodIn_app (goodIn_of _ (by decide +kernel)) ggX11_isDoubt_X11_mats
set_option maxRecDepth 20000 in
theorem ggX11_isDoubt_X11_guessOf : GoodIn wsX11_isDoubt wsX11_guessOf := goodIn_sub (List.forall_mem_cons.mpr ⟨List.mem_cons_of_mem _ (List.mem_append_left _ (List.mem_append_right _ (List.mem_append_left _ (List.mem_of_getElem? (l := wsX11_isDoubt_r2) (i := 6) rfl)))), (List.forall_mem_append.mpr ⟨(List.forall_mem_append.mpr ⟨(List.forall_mem_cons.mpr ⟨List.mem_cons_of_mem _ (List.mem_append_left _ (List.mem_append_left _ (List.mem_of_getElem? (l := wsX11_isDoubt_r1) (i := 0) rfl))), (List.forall_mem_cons.mpr ⟨List.mem_cons_of_mem _ (List.mem_append_left _ (List.mem_append_right _ (List.mem_append_left _ (List.mem_of_getElem? (l := wsX11_isDoubt_r2) (i := 7) rfl)))), (List.forall_mem_cons.mpr ⟨List.mem_cons_of_mem _ (List.mem_append_left _ (List.mem_append_right _ (List.mem_append_left _ (List.mem_of_getElem? (l := wsX11_isDoubt_r2) (i := 8) rfl)))), (List.forall_mem_cons.mpr ⟨List.mem_cons_of_mem _ (List.mem_append_left _ (List.mem_append_right _ (List.mem_append_left _ (List.mem_of_getElem? (l := wsX11_isDoubt_r2) (i := 9) rfl)))), (List.forall_mem_cons.mpr ⟨List.mem_cons_of_mem _ (List.mem_append_left _ (List.mem_append_right _ (List.mem_append_left _ (List.mem_of_getElem? (l := wsX11_isDoubt_r2) (i := 10) rfl)))), (List.forall_mem_cons.mpr ⟨List.mem_cons_of_mem _ (List.mem_append_left _ (List.mem_append_right _ (List.mem_append_left _ (List.mem_of_getElem? (l := wsX11_isDoubt_r2) (i := 11) rfl)))), (List.forall_mem_cons.mpr ⟨List.mem_cons_of_mem _ (List.mem_append_left _ (List.mem_append_right _ (List.mem_append_left _ (List.mem_of_getElem? (l := wsX11_isDoubt_r2) (i := 12) rfl)))), (List.forall_mem_cons.mpr ⟨List.mem_cons_of_mem _ (List.mem_append_left _ (List.mem_append_right _ (List.mem_append_left _ (List.mem_of_getElem? (l := wsX11_isDoubt_r2) (i := 13) rfl)))), (List.forall_mem_cons.mpr ⟨List.mem_cons_of_mem _ (List.mem_append_left _ (List.mem_append_right _ (List.mem_append_left _ (List.mem_of_getElem? (l := wsX11_isDoubt_r2) (i := 14) rfl)))), (List.forall_mem_cons.mpr ⟨List.mem_cons_of_mem _ (List.mem_append_left _ (List.mem_append_left _ (List.mem_of_getElem? (l := wsX11_isDoubt_r1) (i := 1) rfl))), (List.forall_mem_cons.mpr ⟨List.mem_cons_of_mem _ (List.mem_append_left _ (List.mem_append_left _ (List.mem_of_getElem? (l := wsX11_isDoubt_r1) (i := 2) rfl))), (List.forall_mem_cons.mpr ⟨List.mem_cons_of_mem _ (List.mem_append_left _ (List.mem_append_left _ (List.mem_of_getElem? (l := wsX11_isDoubt_r1) (i := 3) rfl))), (List.forall_mem_cons.mpr ⟨List.mem_cons_of_mem _ (List.mem_append_left _ (List.mem_append_left _ (List.mem_of_getElem? (l := wsX11_isDoubt_r1) (i := 4) rfl))), (List.forall_mem_cons.mpr ⟨List.mem_cons_of_mem _ (List.mem_append_left _ (List.mem_append_left _ (List.mem_of_getElem? (l := wsX11_isDoubt_r1) (i := 5) rfl))), (List.forall_mem_cons.mpr ⟨List.mem_cons_of_mem _ (List.mem_append_left _ (List.mem_append_left _ (List.mem_of_getElem? (l := wsX11_isDoubt_r1) (i := 6) rfl))), (List.forall_mem_cons.mpr ⟨List.mem_cons_of_mem _ (List.mem_append_left _ (List.mem_append_left _ (List.mem_of_getElem? (l := wsX11_isDoubt_r1) (i := 7) rfl))), (List.forall_mem_cons.mpr ⟨List.mem_cons_of_mem _ (List.mem_append_left _ (List.mem_append_left _ (List.mem_of_getElem? (l := wsX11_isDoubt_r1) (i := 8) rfl))), (List.forall_mem_cons.mpr ⟨List.mem_cons_of_mem _ (List.mem_append_left _ (List.mem_append_left _ (List.mem_of_getElem? (l := wsX11_isDoubt_r1) (i := 9) rfl))), (List.forall_mem_cons.mpr ⟨List.mem_cons_of_mem _ (List.mem_append_left _ (List.mem_append_left _ (List.mem_of_getElem? (l := wsX11_isDoubt_r1) (i := 10) rfl))), (List.forall_mem_cons.mpr ⟨List.mem_cons_of_mem _ (List.mem_append_left _ (List.mem_append_left _ (List.mem_of_getElem? (l := wsX11_isDoubt_r1) (i := 11) rfl))), (List.forall_mem_cons.mpr ⟨List.mem_cons_of_mem _ (List.mem_append_left _ (List.mem_append_left _ (List.mem_of_getElem? (l := wsX11_isDoubt_r1) (i := 12) rfl))), (List.forall_mem_cons.mpr ⟨List.mem_cons_of_mem _ (List.mem_append_left _ (List.mem_append_left _ (List.mem_of_getElem? (l := wsX11_isDoubt_r1) (i := 13) rfl))), (List.forall_mem_cons.mpr ⟨List.mem_cons_of_mem _ (List.mem_append_left _ (List.mem_append_left _ (List.mem_of_getElem? (l := wsX11_isDoubt_r1) (i := 14) rfl))), (List.forall_mem_cons.mpr ⟨List.mem_cons_of_mem _ (List.mem_append_left _ (List.mem_append_left _ (List.mem_of_getElem? (l := wsX11_isDoubt_r1) (i := 15) rfl))), (fun _ h => nomatch h)⟩)⟩)⟩)⟩)⟩)⟩)⟩)⟩)⟩)⟩)⟩)⟩)⟩)⟩)⟩)⟩)⟩)⟩)⟩)⟩)⟩)⟩)⟩)⟩), (List.forall_mem_cons.mpr ⟨List.mem_cons_of_mem _ (List.mem_append_left _ (List.mem_append_left _ (List.mem_of_getElem? (l := wsX11_isDoubt_r1) (i := 16) rfl))), (List.forall_mem_cons.mpr ⟨List.mem_cons_of_mem _ (List.mem_append_left _ (List.mem_append_left _ (List.mem_of_getElem? (l := wsX11_isDoubt_r1) (i := 17) rfl))), (List.forall_mem_cons.mpr ⟨List.mem_cons_of_mem _ (List.mem_append_left _ (List.mem_append_left _ (List.mem_of_getElem? (l := wsX11_isDoubt_r1) (i := 18) rfl))), (List.forall_mem_cons.mpr ⟨List.mem_cons_of_mem _ (List.mem_append_left _ (List.mem_append_left _ (List.mem_of_getElem? (l := wsX11_isDoubt_r1) (i := 19) rfl))), (List.forall_mem_cons.mpr ⟨List.mem_cons_of_mem _ (List.mem_append_left _ (List.mem_append_left _ (List.mem_of_getElem? (l := wsX11_isDoubt_r1) (i := 20) rfl))), (List.forall_mem_cons.mpr ⟨List.mem_cons_of_mem _ (List.mem_append_left _ (List.mem_append_left _ (List.mem_of_getElem? (l := wsX11_isDoubt_r1) (i := 21) rfl))), (List.forall_mem_cons.mpr ⟨List.mem_cons_of_mem _ (List.mem_append_left _ (List.mem_append_left _ (List.mem_of_getElem? (l := wsX11_isDoubt_r1) (i := 22) rfl))), (List.forall_mem_cons.mpr ⟨List.mem_cons_of_mem _ (List.mem_append_left _ (List.mem_append_left _ (List.mem_of_getElem? (l := wsX11_isDoubt_r1) (i := 23) rfl))), (List.forall_mem_cons.mpr ⟨List.mem_cons_of_mem _ (List.mem_append_left _ (List.mem_append_right _ (List.mem_append_left _ (List.mem_of_getElem? (l := wsX11_isDoubt_r2) (i := 0) rfl)))), (List.forall_mem_cons.mpr ⟨List.mem_cons_of_mem _ (List.mem_append_left _ (List.mem_append_right _ (List.mem_append_left _ (List.mem_of_getElem? (l := wsX11_isDoubt_r2) (i := 1) rfl)))), (List.forall_mem_cons.mpr ⟨List.mem_cons_of_mem _ (List.mem_append_left _ (List.mem_append_right _ (List.mem_append_left _ (List.mem_of_getElem? (l := wsX11_isDoubt_r2) (i := 2) rfl)))), (List.forall_mem_cons.mpr ⟨List.mem_cons_of_mem _ (List.mem_append_left _ (List.mem_append_right _ (List.mem_append_left _ (List.mem_of_getElem? (l := wsX11_isDoubt_r2) (i := 15) rfl)))), (List.forall_mem_cons.mpr ⟨List.mem_cons_of_mem _ (List.mem_append_left _ (List.mem_append_right _ (List.mem_append_left _ (List.mem_of_getElem? (l := wsX11_isDoubt_r2) (i := 16) rfl)))), (List.forall_mem_cons.mpr ⟨List.mem_cons_of_mem _ (List.mem_append_left _ (List.mem_append_right _ (List.mem_append_left _ (List.mem_of_getElem? (l := wsX11_isDoubt_r2) (i := 17) rfl)))), (List.forall_mem_cons.mpr ⟨List.mem_cons_of_mem _ (List.mem_append_left _ (List.mem_append_right _ (List.mem_append_left _ (List.mem_of_getElem? (l := wsX11_isDoubt_r2) (i := 18) rfl)))), (List.forall_mem_cons.mpr ⟨List.mem_cons_of_mem _ (List.mem_append_left _ (List.mem_append_right _ (List.mem_append_left _ (List.mem_of_getElem? (l := wsX11_isDoubt_r2) (i := 19) rfl)))), (List.forall_mem_cons.mpr ⟨List.mem_cons_of_mem _ (List.mem_append_left _ (List.mem_append_right _ (List.mem_append_left _ (List.mem_of_getElem? (l := wsX11_isDoubt_r2) (i := 20) rfl)))), (List.forall_mem_cons.mpr ⟨List.mem_cons_of_mem _ (List.mem_append_left _ (List.mem_append_right _ (List.mem_append_left _ (List.mem_of_getElem? (l := wsX11_isDoubt_r2) (i := 21) rfl)))), (List.forall_mem_cons.mpr ⟨List.mem_cons_of_mem _ (List.mem_append_left _ (List.mem_append_right _ (List.mem_append_left _ (List.mem_of_getElem? (l := wsX11_isDoubt_r2) (i := 22) rfl)))), (List.forall_mem_cons.mpr ⟨List.mem_cons_of_mem _ (List.mem_append_left _ (List.mem_append_right _ (List.mem_append_left _ (List.mem_of_getElem? (l := wsX11_isDoubt_r2) (i := 23) rfl)))), (List.forall_mem_cons.mpr ⟨List.mem_cons_of_mem _ (List.mem_append_left _ (List.mem_append_right _ (List.mem_append_right _ (List.mem_of_getElem? (l := wsX11_isDoubt_r3) (i := 0) rfl)))), (List.forall_mem_cons.mpr ⟨List.mem_cons_of_mem _ (List.mem_append_left _ (List.mem_append_right _ (List.mem_append_right _ (List.mem_of_getElem? (l := wsX11_isDoubt_r3) (i := 1) rfl)))), (List.forall_mem_cons.mpr ⟨List.mem_cons_of_mem _ (List.mem_append_left _ (List.mem_append_right _ (List.mem_append_right _ (List.mem_of_getElem? (l := wsX11_isDoubt_r3) (i := 2) rfl)))), (fun _ h => nomatch h)⟩)⟩)⟩)⟩)⟩)⟩)⟩)⟩)⟩)⟩)⟩)⟩)⟩)⟩)⟩)⟩)⟩)⟩)⟩)⟩)⟩)⟩)⟩)⟩), (fun _ h => List.mem_cons_of_mem _ (List.mem_append_right _ (h)))⟩)⟩) (by decide +kernel)
set_option maxRecDepth 20000 in
theorem gX11_isDoubt_X11_guessOf : GoodIn wsX11_isDoubt (wsV RX11 129 RX11 yX11_guessOf wsX11_guessOf) := goodIn_app (goodIn_of _ (by decide +kernel)) ggX11_isDoubt_X11_guessOf
set_option maxRecDepth 20000 in
theorem ggX11_isDoubt_X11_ofMat : GoodIn wsX11_isDoubt wsX11_ofMat := goodIn_sub (List.forall_mem_cons.mpr ⟨List.mem_cons_of_mem _ (List.mem_append_left _ (List.mem_append_right _ (List.mem_append_left _ (List.mem_of_getElem? (l := wsX11_isDoubt_r2) (i := 18) rfl)))), (List.forall_mem_append.mpr ⟨(List.forall_mem_cons.mpr ⟨List.mem_cons_of_mem _ (List.mem_append_left _ (List.mem_append_left _ (List.mem_of_getElem? (l := wsX11_isDoubt_r1) (i := 18) rfl))), (fun _ h => nomatch h)⟩), (fun _ h => List.mem_cons_of_mem _ (List.mem_append_right _ (h)))⟩)⟩) (by decide +kernel)
set_option maxRecDepth 20000 in
theorem gX11_isDoubt_X11_ofMat : GoodIn wsX11_isDoubt (wsV RX11 56 RX11 yX11_ofMat wsX11_ofMat) := goodIn_app (goodIn_of _ (by decide +kernel)) ggX11_isDoubt_X11_ofMat
set_option maxRecDepth 20000 in
theorem ggX11_isDoubt_X11_of : GoodIn wsX11_isDoubt wsX11_of := goodIn_sub (List.forall_mem_cons.mpr ⟨List.mem_cons_of_mem _ (List.mem_append_left _ (List.mem_append_left _ (List.mem_of_getElem? (l := wsX11_isDoubt_r1) (i := 17) rfl))), (List.forall_mem_append.mpr ⟨(List.forall_mem_cons.mpr ⟨List.mem_cons_of_mem _ (List.mem_append_left _ (List.mem_append_left _ (List.mem_of_getElem? (l := wsX11_isDoubt_r1) (i := 18) rfl))), (fun _ h => nomatch h)⟩), (fun _ h => List.mem_cons_of_mem _ (List.mem_append_right _ (h)))⟩)⟩) (by decide +kernel)
set_option maxRecDepth 20000 in
theorem gX11_isDoubt_X11_of : GoodIn wsX11_isDoubt (wsV RX11 62 RX11 yX11_of wsX11_of) := goodIn_app (goodIn_of _ (by decide +kernel)) ggX11_isDoubt_X11_of
set_option maxRecDepth 20000 in
theorem ggX11_isDoubt_X11_madeUp : GoodIn wsX11_isDoubt wsX11_madeUp := goodIn_sub (List.forall_mem_cons.mpr ⟨List.mem_cons_of_mem _ (List.mem_append_left _ (List.mem_append_right _ (List.mem_append_right _ (List.mem_of_getElem? (l := wsX11_isDoubt_r3) (i := 1) rfl)))), (List.forall_mem_cons.mpr ⟨List.mem_cons_of_mem _ (List.mem_append_left _ (List.mem_append_right _ (List.mem_append_right _ (List.mem_of_getElem? (l := wsX11_isDoubt_r3) (i := 2) rfl)))), (List.forall_mem_cons.mpr ⟨List.mem_cons_of_mem _ (List.mem_append_left _ (List.mem_append_right _ (List.mem_append_left _ (List.mem_of_getElem? (l := wsX11_isDoubt_r2) (i := 22) rfl)))), (fun _ h => nomatch h)⟩)⟩)⟩) (by decide +kernel)
set_option maxRecDepth 20000 in
theorem gX11_isDoubt_X11_madeUp : GoodIn wsX11_isDoubt (va_wsS RX11 118 yX11_madeUp wsX11_madeUp) := goodIn_app (goodIn_of _ (by decide +kernel)) ggX11_isDoubt_X11_madeUp
theorem kX11_isDoubt_0 : (.fieldLink RX11 112 "RunDeskModel" "LEAST" "[I" : Cond) ∈ wsX11_isDoubt := List.mem_of_getElem? (i := 1) (by decide +kernel)
set_option maxHeartbeats 4000000 in
set_option maxRecDepth 100000 in
theorem mX11_isDoubt (l : Launch) (D : va_G) (cB cI cZ : ClassId) (a_t : Nat) (a_t_now : Nat) (a_t_kept : Nat) (a_t_text : Nat) (a_t_passing : Nat) (a_t_order : Nat) (a_t_times : Nat) (t_thrown : Int32) (t_isKept : Int32) (t_length : Int32) (t_at : Int32) (t_fault : Int32) (t_open : Int32) (t_asked : Int32) (t_byGun : Int32) (t_prizeMost : Int32) (t_listed : Int32) (t_now : Nat → Int32) (sz : Nat) (x1 : Int32) (x2 : Int32) (x3 : Int32) (N : Nat) (b0 : Bool) (h : fX11_isDoubt N t_now x1 x2 x3 = some (b0)) : Met l yX11_isDoubt wsX11_isDoubt ({ frames := 5, cells := 0, slots := 0, locals := 117 } : Room) (va_Pc [.ref a_t, .int x1, .int x2, .int x3] (zPre D (zT cB cI cZ) [(a_t, .inr (11, [.int t_thrown, .ref a_t_now, .ref a_t_kept, .int t_isKept, .ref a_t_text, .int t_length, .ref a_t_passing, .int t_at, .int t_fault, .int t_open, .int t_asked, .int t_byGun, .int t_prizeMost, .ref a_t_order, .ref a_t_times, .int t_listed])), (a_t_now, .inl (cI, 1562, .inl t_now))] sz)) (zQi (zb b0) D (zT cB cI cZ) [(a_t, .inr (11, [.int t_thrown, .ref a_t_now, .ref a_t_kept, .int t_isKept, .ref a_t_text, .int t_length, .ref a_t_passing, .int t_at, .int t_fault, .int t_open, .int t_asked, .int t_byGun, .int t_prizeMost, .ref a_t_order, .ref a_t_times, .int t_listed])), (a_t_now, .inl (cI, 1562, .inl t_now))] (va_A [(a_t, .inr (11, [.int t_thrown, .ref a_t_now, .ref a_t_kept, .int t_isKept, .ref a_t_text, .int t_length, .ref a_t_passing, .int t_at, .int t_fault, .int t_open, .int t_asked, .int t_byGun, .int t_prizeMost, .ref a_t_order, .ref a_t_times, .int t_listed])), (a_t_now, .inl (cI, 1562, .inl t_now))] sz)) 0 0 (va_A [(a_t, .inr (11, [.int t_thrown, .ref a_t_now, .ref a_t_kept, .int t_isKept, .ref a_t_text, .int t_length, .ref a_t_passing, .int t_at, .int t_fault, .int t_open, .int t_asked, .int t_byGun, .int t_prizeMost, .ref a_t_order, .ref a_t_times, .int t_listed])), (a_t_now, .inl (cI, 1562, .inl t_now))] sz) := by
  refine Met.ofW (cc := cX11_isDoubt) (maxL := 7) (ret := (some .boolean)) (by decide) rfl ?_
  intro p e s m args below meth c s₁ B hml hv
  obtain ⟨rfl, hsz, hP, hK, hN, hZ, hD0⟩ := hv
  have hx := B.exec
  have hb := B.bytes
  have hr := B.returns
  have hts := atoms_spec (ws := wsX11_isDoubt) B.pre
  have hown : s.vm.findClass RX11 = some m.cls := findClass_of_methodNamed B.named
  have hlocks := B.notSynchronized
  subst hsz
  have hD := hD0.self (sz := s.heap.size)
  generalize hAe : va_A [(a_t, .inr (11, [.int t_thrown, .ref a_t_now, .ref a_t_kept, .int t_isKept, .ref a_t_text, .int t_length, .ref a_t_passing, .int t_at, .int t_fault, .int t_open, .int t_asked, .int t_byGun, .int t_prizeMost, .ref a_t_order, .ref a_t_times, .int t_listed])), (a_t_now, .inl (cI, 1562, .inl t_now))] s.heap.size = A at hD hZ ⊢
  have hA : ∀ q : Nat, s.heap.size ≤ q → A q := fun q h => by rw [← hAe]; exact Or.inr h
  have hS : va_S A s.heap s.heap [] := va_S.rf
  have hl := lv_entry ([.ref a_t, .int x1, .int x2, .int x3]) (n := 7) (Nat.le_of_ble_eq_true rfl)
  rw [lg_entry_eq]
  generalize (lg_sl ([.ref a_t, .int x1, .int x2, .int x3]) ++ List.replicate (7 - (lg_sl ([.ref a_t, .int x1, .int x2, .int x3])).length) Slot.unset).toArray = ls at hl ⊢
  have hl : lv_has ls 7 [(0, .ref a_t), (1, .int x1), (2, .int x2), (3, .int x3)] := hl
  unfold fX11_isDoubt at h
  refine lv_aload_n hx hb dX11_isDoubt_0 rfl (lv_at hl 0 rfl) ?_
  refine lv_iload_n hx hb dX11_isDoubt_1 rfl (lv_at hl 1 rfl) ?_
  refine lv_iload_n hx hb dX11_isDoubt_2 rfl (lv_at hl 2 rfl) ?_
  obtain ⟨r1, e2, h⟩ := zz_b h
  refine zVi (As := [.int x1, .int x2]) (rest := []) (C := RX11) (wr := []) [0, 1] [] 0 ⟨hx, hb, hml, hown, hts⟩ (mX11_seen l D cB cI cZ a_t a_t_now a_t_kept a_t_text a_t_passing a_t_order a_t_times t_thrown t_isKept t_length t_at t_fault t_open t_asked t_byGun t_prizeMost t_listed t_now s.heap.size x1 x2 r1 e2) (cwV 2 hts gX11_isDoubt_X11_seen rfl rfl rfl (by decide +kernel) ⟨Nat.le_of_ble_eq_true rfl, Nat.le_of_ble_eq_true rfl⟩) hK hN hZ hP hD hS hA rfl rfl rfl rfl rfl rfl rfl rfl hl.1 rfl (lv_room (Nat.le_of_ble_eq_true rfl)) dX11_isDoubt_3 ⟨Nat.le_of_ble_eq_true rfl, Nat.le_of_ble_eq_true rfl⟩ (fun H locs hP hD hS => ?_)
  have hP : va_P D vwCl [(a_t, .inr (11, [.int t_thrown, .ref a_t_now, .ref a_t_kept, .int t_isKept, .ref a_t_text, .int t_length, .ref a_t_passing, .int t_at, .int t_fault, .int t_open, .int t_asked, .int t_byGun, .int t_prizeMost, .ref a_t_order, .ref a_t_times, .int t_listed])), (a_t_now, .inl (cI, 1562, .inl t_now))] H := hP
  have hD : va_D A [(a_t, .inr (11, [.int t_thrown, .ref a_t_now, .ref a_t_kept, .int t_isKept, .ref a_t_text, .int t_length, .ref a_t_passing, .int t_at, .int t_fault, .int t_open, .int t_asked, .int t_byGun, .int t_prizeMost, .ref a_t_order, .ref a_t_times, .int t_listed])), (a_t_now, .inl (cI, 1562, .inl t_now))] := hD
  refine lv_iconst (v := (-1 : Int32)) hx hb dX11_isDoubt_6 rfl ?_
  have J15 : ∀ (s0_j15 : Bool) (H : Heap) (locs : List Loc) (ls : Array Slot), fX11_isDoubt_J15 N t_now x1 x2 x3 s0_j15 = some (b0) → va_P D vwCl [(a_t, .inr (11, [.int t_thrown, .ref a_t_now, .ref a_t_kept, .int t_isKept, .ref a_t_text, .int t_length, .ref a_t_passing, .int t_at, .int t_fault, .int t_open, .int t_asked, .int t_byGun, .int t_prizeMost, .ref a_t_order, .ref a_t_times, .int t_listed])), (a_t_now, .inl (cI, 1562, .inl t_now))] H → va_D A [(a_t, .inr (11, [.int t_thrown, .ref a_t_now, .ref a_t_kept, .int t_isKept, .ref a_t_text, .int t_length, .ref a_t_passing, .int t_at, .int t_fault, .int t_open, .int t_asked, .int t_byGun, .int t_prizeMost, .ref a_t_order, .ref a_t_times, .int t_listed])), (a_t_now, .inl (cI, 1562, .inl t_now))] → va_S A s.heap H locs → lv_has ls 7 [(0, .ref a_t), (1, .int x1), (2, .int x2), (3, .int x3)] → W p l e (headSpec wsX11_isDoubt ({ frames := 5, cells := 0, slots := 0, locals := 117 } : Room)).room s m #[Value.ref a_t, Value.int x1, Value.int x2, Value.int x3] below meth c H locs 0 0 (MQ below (zQi (zb b0) D (zT cB cI cZ) [(a_t, .inr (11, [.int t_thrown, .ref a_t_now, .ref a_t_kept, .int t_isKept, .ref a_t_text, .int t_length, .ref a_t_passing, .int t_at, .int t_fault, .int t_open, .int t_asked, .int t_byGun, .int t_prizeMost, .ref a_t_order, .ref a_t_times, .int t_listed])), (a_t_now, .inl (cI, 1562, .inl t_now))] A) #[Value.ref a_t, Value.int x1, Value.int x2, Value.int x3] s 0 0 A) (F0 m 15 ls [.int (zb s0_j15)]) := by
    intro s0_j15 H locs ls h hP hD hS hl
    unfold fX11_isDoubt_J15 at h
    refine lv_istore (lv' := [(4, .int (zb s0_j15)), (0, .ref a_t), (1, .int x1), (2, .int x2), (3, .int x3)]) hx hb dX11_isDoubt_15 hl (by decide) rfl (fun ls hl => ?_)
    refine lv_iload_n hx hb dX11_isDoubt_17 rfl (lv_at hl 4 rfl) ?_
    refine lv_iconst (v := (nI 1)) hx hb dX11_isDoubt_18 rfl ?_
    refine lv_icmp_ne (tgt := 84) hx hb dX11_isDoubt_19 (by decide) (fun c3 => ?_) (fun c3 => ?_)
    · have h := zz_f h c3
      refine lv_iload_n hx hb dX11_isDoubt_84 rfl (lv_at hl 4 rfl) ?_
      refine lv_iconst (v := (nI 3)) hx hb dX11_isDoubt_85 rfl ?_
      refine lv_icmp_ne (tgt := 117) hx hb dX11_isDoubt_86 (by decide) (fun c4 => ?_) (fun c4 => ?_)
      · have h := zz_f h c4
        refine lv_iload_n hx hb dX11_isDoubt_117 rfl (lv_at hl 3 rfl) ?_
        refine lv_iconst (v := (nI 1)) hx hb dX11_isDoubt_118 rfl ?_
        refine lv_isub hx hb dX11_isDoubt_119 ?_
        refine lv_istore (lv' := [(5, .int (x2 - (nI 1))), (4, .int (zb s0_j15)), (0, .ref a_t), (1, .int x1), (2, .int x2), (3, .int x3)]) hx hb dX11_isDoubt_120 hl (by decide) rfl (fun ls hl => ?_)
        have X122_144 : ∀ (v5_122 : Int32) (H : Heap) (locs : List Loc) (ls : Array Slot), (if (zb s0_j15) = 0 then some (false) else (if 0 ≤ v5_122 then ((fX11_seen t_now x1 x2).bind (fun r7 => ((fX11_seen t_now x1 v5_122).bind (fun r9 => ((fX11_ofMat t_now x2 (nI 0)).bind (fun r11 => ((fX11_ofMat t_now v5_122 (nI 0)).bind (fun r13 => ((fX11_of t_now x1 (nI 0)).bind (fun r15 => (if zin r15 4 then ((fX11_madeUp (r11 - r13) (zfL (r15).toNatClampNeg)).bind (fun r18 => (if r18 ≤ (r7 - r9) then some (false) else some (true)))) else none))))))))))) else some (false))) = some (b0) → va_P D vwCl [(a_t, .inr (11, [.int t_thrown, .ref a_t_now, .ref a_t_kept, .int t_isKept, .ref a_t_text, .int t_length, .ref a_t_passing, .int t_at, .int t_fault, .int t_open, .int t_asked, .int t_byGun, .int t_prizeMost, .ref a_t_order, .ref a_t_times, .int t_listed])), (a_t_now, .inl (cI, 1562, .inl t_now))] H → va_D A [(a_t, .inr (11, [.int t_thrown, .ref a_t_now, .ref a_t_kept, .int t_isKept, .ref a_t_text, .int t_length, .ref a_t_passing, .int t_at, .int t_fault, .int t_open, .int t_asked, .int t_byGun, .int t_prizeMost, .ref a_t_order, .ref a_t_times, .int t_listed])), (a_t_now, .inl (cI, 1562, .inl t_now))] → va_S A s.heap H locs → lv_has ls 7 [(5, .int v5_122), (4, .int (zb s0_j15)), (0, .ref a_t), (1, .int x1), (2, .int x2), (3, .int x3)] → W p l e (headSpec wsX11_isDoubt ({ frames := 5, cells := 0, slots := 0, locals := 117 } : Room)).room s m #[Value.ref a_t, Value.int x1, Value.int x2, Value.int x3] below meth c H locs 0 0 (MQ below (zQi (zb b0) D (zT cB cI cZ) [(a_t, .inr (11, [.int t_thrown, .ref a_t_now, .ref a_t_kept, .int t_isKept, .ref a_t_text, .int t_length, .ref a_t_passing, .int t_at, .int t_fault, .int t_open, .int t_asked, .int t_byGun, .int t_prizeMost, .ref a_t_order, .ref a_t_times, .int t_listed])), (a_t_now, .inl (cI, 1562, .inl t_now))] A) #[Value.ref a_t, Value.int x1, Value.int x2, Value.int x3] s 0 0 A) (F0 m 144 ls []) := by
          intro v5_122 H locs ls h hP hD hS hl
          refine lv_iload hx hb dX11_isDoubt_144 (lv_at hl 1 rfl) ?_
          refine lv_if_eq (tgt := 154) hx hb dX11_isDoubt_146 (by decide) (fun c5 => ?_) (fun c5 => ?_)
          · have h := zz_t h c5
            refine lv_iconst (v := (nI 0)) hx hb dX11_isDoubt_154 rfl ?_
            have j0_ := Option.some.inj h
            subst j0_
            exact W.zret (v := (nI 0)) hx hb hr rfl (fun t ht hW => ⟨⟨_, (), rfl, rfl, zPost.of hP hD hK ht hW [0, 1] rfl rfl rfl⟩, hS.F ht⟩) hS.2.2 dX11_isDoubt_155
          · have h := zz_f h c5
            refine lv_iload hx hb dX11_isDoubt_149 (lv_at hl 0 rfl) ?_
            refine lv_if_ge (tgt := 156) hx hb dX11_isDoubt_151 (by decide) (fun c6 => ?_) (fun c6 => ?_)
            · have h := zz_t h c6
              refine lv_aload_n hx hb dX11_isDoubt_156 rfl (lv_at hl 2 rfl) ?_
              refine lv_iload_n hx hb dX11_isDoubt_157 rfl (lv_at hl 3 rfl) ?_
              refine lv_iload_n hx hb dX11_isDoubt_158 rfl (lv_at hl 4 rfl) ?_
              obtain ⟨r7, e8, h⟩ := zz_b h
              refine zVi (As := [.int x1, .int x2]) (rest := []) (C := RX11) (wr := []) [0, 1] [] 0 ⟨hx, hb, hml, hown, hts⟩ (mX11_seen l D cB cI cZ a_t a_t_now a_t_kept a_t_text a_t_passing a_t_order a_t_times t_thrown t_isKept t_length t_at t_fault t_open t_asked t_byGun t_prizeMost t_listed t_now H.size x1 x2 r7 e8) (cwV 2 hts gX11_isDoubt_X11_seen rfl rfl rfl (by decide +kernel) ⟨Nat.le_of_ble_eq_true rfl, Nat.le_of_ble_eq_true rfl⟩) hK hN hZ hP hD hS hA rfl rfl rfl rfl rfl rfl rfl rfl hl.1 rfl (lv_room (Nat.le_of_ble_eq_true rfl)) dX11_isDoubt_159 ⟨Nat.le_of_ble_eq_true rfl, Nat.le_of_ble_eq_true rfl⟩ (fun H locs hP hD hS => ?_)
              have hP : va_P D vwCl [(a_t, .inr (11, [.int t_thrown, .ref a_t_now, .ref a_t_kept, .int t_isKept, .ref a_t_text, .int t_length, .ref a_t_passing, .int t_at, .int t_fault, .int t_open, .int t_asked, .int t_byGun, .int t_prizeMost, .ref a_t_order, .ref a_t_times, .int t_listed])), (a_t_now, .inl (cI, 1562, .inl t_now))] H := hP
              have hD : va_D A [(a_t, .inr (11, [.int t_thrown, .ref a_t_now, .ref a_t_kept, .int t_isKept, .ref a_t_text, .int t_length, .ref a_t_passing, .int t_at, .int t_fault, .int t_open, .int t_asked, .int t_byGun, .int t_prizeMost, .ref a_t_order, .ref a_t_times, .int t_listed])), (a_t_now, .inl (cI, 1562, .inl t_now))] := hD
              refine lv_aload_n hx hb dX11_isDoubt_162 rfl (lv_at hl 2 rfl) ?_
              refine lv_iload_n hx hb dX11_isDoubt_163 rfl (lv_at hl 3 rfl) ?_
              refine lv_iload hx hb dX11_isDoubt_164 (lv_at hl 0 rfl) ?_
              obtain ⟨r9, e10, h⟩ := zz_b h
              refine zVi (As := [.int x1, .int v5_122]) (rest := [.int r7]) (C := RX11) (wr := []) [0, 1] [] 0 ⟨hx, hb, hml, hown, hts⟩ (mX11_seen l D cB cI cZ a_t a_t_now a_t_kept a_t_text a_t_passing a_t_order a_t_times t_thrown t_isKept t_length t_at t_fault t_open t_asked t_byGun t_prizeMost t_listed t_now H.size x1 v5_122 r9 e10) (cwV 2 hts gX11_isDoubt_X11_seen rfl rfl rfl (by decide +kernel) ⟨Nat.le_of_ble_eq_true rfl, Nat.le_of_ble_eq_true rfl⟩) hK hN hZ hP hD hS hA rfl rfl rfl rfl rfl rfl rfl rfl hl.1 rfl (lv_room (Nat.le_of_ble_eq_true rfl)) dX11_isDoubt_166 ⟨Nat.le_of_ble_eq_true rfl, Nat.le_of_ble_eq_true rfl⟩ (fun H locs hP hD hS => ?_)
              have hP : va_P D vwCl [(a_t, .inr (11, [.int t_thrown, .ref a_t_now, .ref a_t_kept, .int t_isKept, .ref a_t_text, .int t_length, .ref a_t_passing, .int t_at, .int t_fault, .int t_open, .int t_asked, .int t_byGun, .int t_prizeMost, .ref a_t_order, .ref a_t_times, .int t_listed])), (a_t_now, .inl (cI, 1562, .inl t_now))] H := hP
              have hD : va_D A [(a_t, .inr (11, [.int t_thrown, .ref a_t_now, .ref a_t_kept, .int t_isKept, .ref a_t_text, .int t_length, .ref a_t_passing, .int t_at, .int t_fault, .int t_open, .int t_asked, .int t_byGun, .int t_prizeMost, .ref a_t_order, .ref a_t_times, .int t_listed])), (a_t_now, .inl (cI, 1562, .inl t_now))] := hD
              refine lv_isub hx hb dX11_isDoubt_169 ?_
              refine lv_aload_n hx hb dX11_isDoubt_170 rfl (lv_at hl 2 rfl) ?_
              refine lv_iload_n hx hb dX11_isDoubt_171 rfl (lv_at hl 4 rfl) ?_
              refine lv_iconst (v := (nI 0)) hx hb dX11_isDoubt_172 rfl ?_
              obtain ⟨r11, e12, h⟩ := zz_b h
              refine zVi (As := [.int x2, .int (nI 0)]) (rest := [.int (r7 - r9)]) (C := RX11) (wr := []) [0, 1] [] 0 ⟨hx, hb, hml, hown, hts⟩ (mX11_ofMat l D cB cI cZ a_t a_t_now a_t_kept a_t_text a_t_passing a_t_order a_t_times t_thrown t_isKept t_length t_at t_fault t_open t_asked t_byGun t_prizeMost t_listed t_now H.size x2 (nI 0) r11 e12) (cwV 2 hts gX11_isDoubt_X11_ofMat rfl rfl rfl (by decide +kernel) ⟨Nat.le_of_ble_eq_true rfl, Nat.le_of_ble_eq_true rfl⟩) hK hN hZ hP hD hS hA rfl rfl rfl rfl rfl rfl rfl rfl hl.1 rfl (lv_room (Nat.le_of_ble_eq_true rfl)) dX11_isDoubt_173 ⟨Nat.le_of_ble_eq_true rfl, Nat.le_of_ble_eq_true rfl⟩ (fun H locs hP hD hS => ?_)
              have hP : va_P D vwCl [(a_t, .inr (11, [.int t_thrown, .ref a_t_now, .ref a_t_kept, .int t_isKept, .ref a_t_text, .int t_length, .ref a_t_passing, .int t_at, .int t_fault, .int t_open, .int t_asked, .int t_byGun, .int t_prizeMost, .ref a_t_order, .ref a_t_times, .int t_listed])), (a_t_now, .inl (cI, 1562, .inl t_now))] H := hP
              have hD : va_D A [(a_t, .inr (11, [.int t_thrown, .ref a_t_now, .ref a_t_kept, .int t_isKept, .ref a_t_text, .int t_length, .ref a_t_passing, .int t_at, .int t_fault, .int t_open, .int t_asked, .int t_byGun, .int t_prizeMost, .ref a_t_order, .ref a_t_times, .int t_listed])), (a_t_now, .inl (cI, 1562, .inl t_now))] := hD
              refine lv_aload_n hx hb dX11_isDoubt_176 rfl (lv_at hl 2 rfl) ?_
              refine lv_iload hx hb dX11_isDoubt_177 (lv_at hl 0 rfl) ?_
              refine lv_iconst (v := (nI 0)) hx hb dX11_isDoubt_179 rfl ?_
              obtain ⟨r13, e14, h⟩ := zz_b h
              refine zVi (As := [.int v5_122, .int (nI 0)]) (rest := [.int r11, .int (r7 - r9)]) (C := RX11) (wr := []) [0, 1] [] 0 ⟨hx, hb, hml, hown, hts⟩ (mX11_ofMat l D cB cI cZ a_t a_t_now a_t_kept a_t_text a_t_passing a_t_order a_t_times t_thrown t_isKept t_length t_at t_fault t_open t_asked t_byGun t_prizeMost t_listed t_now H.size v5_122 (nI 0) r13 e14) (cwV 2 hts gX11_isDoubt_X11_ofMat rfl rfl rfl (by decide +kernel) ⟨Nat.le_of_ble_eq_true rfl, Nat.le_of_ble_eq_true rfl⟩) hK hN hZ hP hD hS hA rfl rfl rfl rfl rfl rfl rfl rfl hl.1 rfl (lv_room (Nat.le_of_ble_eq_true rfl)) dX11_isDoubt_180 ⟨Nat.le_of_ble_eq_true rfl, Nat.le_of_ble_eq_true rfl⟩ (fun H locs hP hD hS => ?_)
              have hP : va_P D vwCl [(a_t, .inr (11, [.int t_thrown, .ref a_t_now, .ref a_t_kept, .int t_isKept, .ref a_t_text, .int t_length, .ref a_t_passing, .int t_at, .int t_fault, .int t_open, .int t_asked, .int t_byGun, .int t_prizeMost, .ref a_t_order, .ref a_t_times, .int t_listed])), (a_t_now, .inl (cI, 1562, .inl t_now))] H := hP
              have hD : va_D A [(a_t, .inr (11, [.int t_thrown, .ref a_t_now, .ref a_t_kept, .int t_isKept, .ref a_t_text, .int t_length, .ref a_t_passing, .int t_at, .int t_fault, .int t_open, .int t_asked, .int t_byGun, .int t_prizeMost, .ref a_t_order, .ref a_t_times, .int t_listed])), (a_t_now, .inl (cI, 1562, .inl t_now))] := hD
              refine lv_isub hx hb dX11_isDoubt_183 ?_
              obtain ⟨tL, tG, hZL, hTL, hZG, hTG⟩ := id hZ
              refine va_gets hx hb hZL hS hown (hts _ kX11_isDoubt_0) (fun _ h9 => h9) dX11_isDoubt_184 ?_
              refine lv_aload_n hx hb dX11_isDoubt_187 rfl (lv_at hl 2 rfl) ?_
              refine lv_iload_n hx hb dX11_isDoubt_188 rfl (lv_at hl 3 rfl) ?_
              refine lv_iconst (v := (nI 0)) hx hb dX11_isDoubt_189 rfl ?_
              obtain ⟨r15, e16, h⟩ := zz_b h
              refine zVi (As := [.int x1, .int (nI 0)]) (rest := [.ref tL, .int (r11 - r13), .int (r7 - r9)]) (C := RX11) (wr := []) [0, 1] [] 0 ⟨hx, hb, hml, hown, hts⟩ (mX11_of l D cB cI cZ a_t a_t_now a_t_kept a_t_text a_t_passing a_t_order a_t_times t_thrown t_isKept t_length t_at t_fault t_open t_asked t_byGun t_prizeMost t_listed t_now H.size x1 (nI 0) r15 e16) (cwV 2 hts gX11_isDoubt_X11_of rfl rfl rfl (by decide +kernel) ⟨Nat.le_of_ble_eq_true rfl, Nat.le_of_ble_eq_true rfl⟩) hK hN hZ hP hD hS hA rfl rfl rfl rfl rfl rfl rfl rfl hl.1 rfl (lv_room (Nat.le_of_ble_eq_true rfl)) dX11_isDoubt_190 ⟨Nat.le_of_ble_eq_true rfl, Nat.le_of_ble_eq_true rfl⟩ (fun H locs hP hD hS => ?_)
              have hP : va_P D vwCl [(a_t, .inr (11, [.int t_thrown, .ref a_t_now, .ref a_t_kept, .int t_isKept, .ref a_t_text, .int t_length, .ref a_t_passing, .int t_at, .int t_fault, .int t_open, .int t_asked, .int t_byGun, .int t_prizeMost, .ref a_t_order, .ref a_t_times, .int t_listed])), (a_t_now, .inl (cI, 1562, .inl t_now))] H := hP
              have hD : va_D A [(a_t, .inr (11, [.int t_thrown, .ref a_t_now, .ref a_t_kept, .int t_isKept, .ref a_t_text, .int t_length, .ref a_t_passing, .int t_at, .int t_fault, .int t_open, .int t_asked, .int t_byGun, .int t_prizeMost, .ref a_t_order, .ref a_t_times, .int t_listed])), (a_t_now, .inl (cI, 1562, .inl t_now))] := hD
              obtain ⟨i17, h⟩ := zz_i h
              refine va_ti (v := .int (zfL (r15).toNatClampNeg)) hx hb hTL hS i17 rfl dX11_isDoubt_193 ?_
              obtain ⟨r18, e19, h⟩ := zz_b h
              refine zSi (As := [.int (r11 - r13), .int (zfL (r15).toNatClampNeg)]) (rest := [.int (r7 - r9)]) (wr := [(a_t, .inr (11, [.int t_thrown, .ref a_t_now, .ref a_t_kept, .int t_isKept, .ref a_t_text, .int t_length, .ref a_t_passing, .int t_at, .int t_fault, .int t_open, .int t_asked, .int t_byGun, .int t_prizeMost, .ref a_t_order, .ref a_t_times, .int t_listed])), (a_t_now, .inl (cI, 1562, .inl t_now))]) [] [0, 1] ⟨hx, hb, hml, hown, hts⟩ (mX11_madeUp l D cB cI cZ H.size (r11 - r13) (zfL (r15).toNatClampNeg) r18 e19) (va_cwS 2 hts gX11_isDoubt_X11_madeUp rfl rfl rfl (by decide +kernel) ⟨Nat.le_of_ble_eq_true rfl, Nat.le_of_ble_eq_true rfl⟩) hK hN hZ hP hD hS hA rfl rfl rfl rfl rfl rfl hl.1 rfl (lv_room (Nat.le_of_ble_eq_true rfl)) dX11_isDoubt_194 ⟨Nat.le_of_ble_eq_true rfl, Nat.le_of_ble_eq_true rfl⟩ (fun H locs hP hD hS => ?_)
              have hP : va_P D vwCl [(a_t, .inr (11, [.int t_thrown, .ref a_t_now, .ref a_t_kept, .int t_isKept, .ref a_t_text, .int t_length, .ref a_t_passing, .int t_at, .int t_fault, .int t_open, .int t_asked, .int t_byGun, .int t_prizeMost, .ref a_t_order, .ref a_t_times, .int t_listed])), (a_t_now, .inl (cI, 1562, .inl t_now))] H := hP
              have hD : va_D A [(a_t, .inr (11, [.int t_thrown, .ref a_t_now, .ref a_t_kept, .int t_isKept, .ref a_t_text, .int t_length, .ref a_t_passing, .int t_at, .int t_fault, .int t_open, .int t_asked, .int t_byGun, .int t_prizeMost, .ref a_t_order, .ref a_t_times, .int t_listed])), (a_t_now, .inl (cI, 1562, .inl t_now))] := hD
              refine lv_icmp_ge (tgt := 204) hx hb dX11_isDoubt_197 (by decide) (fun c20 => ?_) (fun c20 => ?_)
              · have h := zz_t h c20
                refine lv_iconst (v := (nI 0)) hx hb dX11_isDoubt_204 rfl ?_
                have j0_ := Option.some.inj h
                subst j0_
                exact W.zret (v := (nI 0)) hx hb hr rfl (fun t ht hW => ⟨⟨_, (), rfl, rfl, zPost.of hP hD hK ht hW [0, 1] rfl rfl rfl⟩, hS.F ht⟩) hS.2.2 dX11_isDoubt_205
              · have h := zz_f h c20
                refine lv_iconst (v := (nI 1)) hx hb dX11_isDoubt_200 rfl ?_
                refine lv_goto (tgt := 205) hx hb dX11_isDoubt_201 (by decide) ?_
                have j0_ := Option.some.inj h
                subst j0_
                exact W.zret (v := (nI 1)) hx hb hr rfl (fun t ht hW => ⟨⟨_, (), rfl, rfl, zPost.of hP hD hK ht hW [0, 1] rfl rfl rfl⟩, hS.F ht⟩) hS.2.2 dX11_isDoubt_205
            · have h := zz_f h c6
              refine lv_iconst (v := (nI 0)) hx hb dX11_isDoubt_154 rfl ?_
              have j0_ := Option.some.inj h
              subst j0_
              exact W.zret (v := (nI 0)) hx hb hr rfl (fun t ht hW => ⟨⟨_, (), rfl, rfl, zPost.of hP hD hK ht hW [0, 1] rfl rfl rfl⟩, hS.F ht⟩) hS.2.2 dX11_isDoubt_155
        have L122 : ∀ (n : Nat) (v5_122 : Int32) (H : Heap) (locs : List Loc) (ls : Array Slot), fX11_isDoubt_L122 t_now x1 (fun (v5_122 : Int32) => (if (zb s0_j15) = 0 then some (false) else (if 0 ≤ v5_122 then ((fX11_seen t_now x1 x2).bind (fun r7 => ((fX11_seen t_now x1 v5_122).bind (fun r9 => ((fX11_ofMat t_now x2 (nI 0)).bind (fun r11 => ((fX11_ofMat t_now v5_122 (nI 0)).bind (fun r13 => ((fX11_of t_now x1 (nI 0)).bind (fun r15 => (if zin r15 4 then ((fX11_madeUp (r11 - r13) (zfL (r15).toNatClampNeg)).bind (fun r18 => (if r18 ≤ (r7 - r9) then some (false) else some (true)))) else none))))))))))) else some (false)))) n v5_122 = some (b0) → va_P D vwCl [(a_t, .inr (11, [.int t_thrown, .ref a_t_now, .ref a_t_kept, .int t_isKept, .ref a_t_text, .int t_length, .ref a_t_passing, .int t_at, .int t_fault, .int t_open, .int t_asked, .int t_byGun, .int t_prizeMost, .ref a_t_order, .ref a_t_times, .int t_listed])), (a_t_now, .inl (cI, 1562, .inl t_now))] H → va_D A [(a_t, .inr (11, [.int t_thrown, .ref a_t_now, .ref a_t_kept, .int t_isKept, .ref a_t_text, .int t_length, .ref a_t_passing, .int t_at, .int t_fault, .int t_open, .int t_asked, .int t_byGun, .int t_prizeMost, .ref a_t_order, .ref a_t_times, .int t_listed])), (a_t_now, .inl (cI, 1562, .inl t_now))] → va_S A s.heap H locs → lv_has ls 7 [(5, .int v5_122), (4, .int (zb s0_j15)), (0, .ref a_t), (1, .int x1), (2, .int x2), (3, .int x3)] → W p l e (headSpec wsX11_isDoubt ({ frames := 5, cells := 0, slots := 0, locals := 117 } : Room)).room s m #[Value.ref a_t, Value.int x1, Value.int x2, Value.int x3] below meth c H locs 0 0 (MQ below (zQi (zb b0) D (zT cB cI cZ) [(a_t, .inr (11, [.int t_thrown, .ref a_t_now, .ref a_t_kept, .int t_isKept, .ref a_t_text, .int t_length, .ref a_t_passing, .int t_at, .int t_fault, .int t_open, .int t_asked, .int t_byGun, .int t_prizeMost, .ref a_t_order, .ref a_t_times, .int t_listed])), (a_t_now, .inl (cI, 1562, .inl t_now))] A) #[Value.ref a_t, Value.int x1, Value.int x2, Value.int x3] s 0 0 A) (F0 m 122 ls []) := by
          intro n
          induction n with
          | zero => intro _ H locs ls h hP hD hS hl; cases h
          | succ n122 ih122 =>
            intro v5_122 H locs ls h hP hD hS hl
            rw [fX11_isDoubt_L122.eq_2] at h
            refine lv_iload hx hb dX11_isDoubt_122 (lv_at hl 0 rfl) ?_
            refine lv_if_lt (tgt := 144) hx hb dX11_isDoubt_124 (by decide) (fun c21 => ?_) (fun c21 => ?_)
            · have h := zz_t h c21
              exact X122_144 v5_122 _ _ _ h (hP.sub [0, 1] rfl) (hD.sub [0, 1] rfl rfl) hS (lv_sub hl [0, 1, 2, 3, 4, 5] rfl)
            · have h := zz_f h c21
              refine lv_aload_n hx hb dX11_isDoubt_127 rfl (lv_at hl 2 rfl) ?_
              refine lv_iload_n hx hb dX11_isDoubt_128 rfl (lv_at hl 3 rfl) ?_
              refine lv_iload hx hb dX11_isDoubt_129 (lv_at hl 0 rfl) ?_
              obtain ⟨r22, e23, h⟩ := zz_b h
              refine zVi (As := [.int x1, .int v5_122]) (rest := []) (C := RX11) (wr := []) [0, 1] [] 0 ⟨hx, hb, hml, hown, hts⟩ (mX11_seen l D cB cI cZ a_t a_t_now a_t_kept a_t_text a_t_passing a_t_order a_t_times t_thrown t_isKept t_length t_at t_fault t_open t_asked t_byGun t_prizeMost t_listed t_now H.size x1 v5_122 r22 e23) (cwV 2 hts gX11_isDoubt_X11_seen rfl rfl rfl (by decide +kernel) ⟨Nat.le_of_ble_eq_true rfl, Nat.le_of_ble_eq_true rfl⟩) hK hN hZ hP hD hS hA rfl rfl rfl rfl rfl rfl rfl rfl hl.1 rfl (lv_room (Nat.le_of_ble_eq_true rfl)) dX11_isDoubt_131 ⟨Nat.le_of_ble_eq_true rfl, Nat.le_of_ble_eq_true rfl⟩ (fun H locs hP hD hS => ?_)
              have hP : va_P D vwCl [(a_t, .inr (11, [.int t_thrown, .ref a_t_now, .ref a_t_kept, .int t_isKept, .ref a_t_text, .int t_length, .ref a_t_passing, .int t_at, .int t_fault, .int t_open, .int t_asked, .int t_byGun, .int t_prizeMost, .ref a_t_order, .ref a_t_times, .int t_listed])), (a_t_now, .inl (cI, 1562, .inl t_now))] H := hP
              have hD : va_D A [(a_t, .inr (11, [.int t_thrown, .ref a_t_now, .ref a_t_kept, .int t_isKept, .ref a_t_text, .int t_length, .ref a_t_passing, .int t_at, .int t_fault, .int t_open, .int t_asked, .int t_byGun, .int t_prizeMost, .ref a_t_order, .ref a_t_times, .int t_listed])), (a_t_now, .inl (cI, 1562, .inl t_now))] := hD
              refine lv_iconst (v := (-1 : Int32)) hx hb dX11_isDoubt_134 rfl ?_
              refine lv_icmp_ne (tgt := 144) hx hb dX11_isDoubt_135 (by decide) (fun c24 => ?_) (fun c24 => ?_)
              · have h := zz_f h c24
                exact X122_144 v5_122 _ _ _ h (hP.sub [0, 1] rfl) (hD.sub [0, 1] rfl rfl) hS (lv_sub hl [0, 1, 2, 3, 4, 5] rfl)
              · have h := zz_t h c24
                refine lv_iinc (v := (v5_122 + (-1 : Int32))) (lv' := [(5, .int (v5_122 + (-1 : Int32))), (4, .int (zb s0_j15)), (0, .ref a_t), (1, .int x1), (2, .int x2), (3, .int x3)]) hx hb dX11_isDoubt_138 hl (k := 0) rfl rfl (by decide) rfl (fun ls hl => ?_)
                refine lv_goto (tgt := 122) hx hb dX11_isDoubt_141 (by decide) ?_
                exact ih122 (v5_122 + (-1 : Int32)) _ _ _ h (hP.sub [0, 1] rfl) (hD.sub [0, 1] rfl rfl) hS (lv_sub hl [0, 1, 2, 3, 4, 5] rfl)
        exact L122 N (x2 - (nI 1)) _ _ _ h hP hD hS hl
      · have h := zz_t h c4
        refine lv_iload hx hb dX11_isDoubt_89 (lv_at hl 0 rfl) ?_
        refine lv_if_ne (tgt := 115) hx hb dX11_isDoubt_91 (by decide) (fun c25 => ?_) (fun c25 => ?_)
        · have h := zz_f h c25
          refine lv_iconst (v := (nI 0)) hx hb dX11_isDoubt_115 rfl ?_
          have j0_ := Option.some.inj h
          subst j0_
          exact W.zret (v := (nI 0)) hx hb hr rfl (fun t ht hW => ⟨⟨_, (), rfl, rfl, zPost.of hP hD hK ht hW [0, 1] rfl rfl rfl⟩, hS.F ht⟩) hS.2.2 dX11_isDoubt_116
        · have h := zz_t h c25
          refine lv_aload_n hx hb dX11_isDoubt_94 rfl (lv_at hl 1 rfl) ?_
          refine lv_iload_n hx hb dX11_isDoubt_95 rfl (lv_at hl 2 rfl) ?_
          refine lv_iload_n hx hb dX11_isDoubt_96 rfl (lv_at hl 3 rfl) ?_
          refine lv_iconst (v := (nI 0)) hx hb dX11_isDoubt_97 rfl ?_
          obtain ⟨r26, e27, h⟩ := zz_b h
          refine zVi (As := [.int x1, .int x2, .int (nI 0)]) (rest := []) (C := RX11) (wr := []) [0, 1] [] 0 ⟨hx, hb, hml, hown, hts⟩ (mX11_guessOf l D cB cI cZ a_t a_t_now a_t_kept a_t_text a_t_passing a_t_order a_t_times t_thrown t_isKept t_length t_at t_fault t_open t_asked t_byGun t_prizeMost t_listed t_now H.size x1 x2 (nI 0) N r26 e27) (cwV 3 hts gX11_isDoubt_X11_guessOf rfl rfl rfl (by decide +kernel) ⟨Nat.le_of_ble_eq_true rfl, Nat.le_of_ble_eq_true rfl⟩) hK hN hZ hP hD hS hA rfl rfl rfl rfl rfl rfl rfl rfl hl.1 rfl (lv_room (Nat.le_of_ble_eq_true rfl)) dX11_isDoubt_98 ⟨Nat.le_of_ble_eq_true rfl, Nat.le_of_ble_eq_true rfl⟩ (fun H locs hP hD hS => ?_)
          have hP : va_P D vwCl [(a_t, .inr (11, [.int t_thrown, .ref a_t_now, .ref a_t_kept, .int t_isKept, .ref a_t_text, .int t_length, .ref a_t_passing, .int t_at, .int t_fault, .int t_open, .int t_asked, .int t_byGun, .int t_prizeMost, .ref a_t_order, .ref a_t_times, .int t_listed])), (a_t_now, .inl (cI, 1562, .inl t_now))] H := hP
          have hD : va_D A [(a_t, .inr (11, [.int t_thrown, .ref a_t_now, .ref a_t_kept, .int t_isKept, .ref a_t_text, .int t_length, .ref a_t_passing, .int t_at, .int t_fault, .int t_open, .int t_asked, .int t_byGun, .int t_prizeMost, .ref a_t_order, .ref a_t_times, .int t_listed])), (a_t_now, .inl (cI, 1562, .inl t_now))] := hD
          refine lv_aload_n hx hb dX11_isDoubt_101 rfl (lv_at hl 1 rfl) ?_
          refine lv_iload_n hx hb dX11_isDoubt_102 rfl (lv_at hl 2 rfl) ?_
          refine lv_iload_n hx hb dX11_isDoubt_103 rfl (lv_at hl 3 rfl) ?_
          refine lv_iconst (v := (nI 1)) hx hb dX11_isDoubt_104 rfl ?_
          obtain ⟨r28, e29, h⟩ := zz_b h
          refine zVi (As := [.int x1, .int x2, .int (nI 1)]) (rest := [.int r26]) (C := RX11) (wr := []) [0, 1] [] 0 ⟨hx, hb, hml, hown, hts⟩ (mX11_guessOf l D cB cI cZ a_t a_t_now a_t_kept a_t_text a_t_passing a_t_order a_t_times t_thrown t_isKept t_length t_at t_fault t_open t_asked t_byGun t_prizeMost t_listed t_now H.size x1 x2 (nI 1) N r28 e29) (cwV 3 hts gX11_isDoubt_X11_guessOf rfl rfl rfl (by decide +kernel) ⟨Nat.le_of_ble_eq_true rfl, Nat.le_of_ble_eq_true rfl⟩) hK hN hZ hP hD hS hA rfl rfl rfl rfl rfl rfl rfl rfl hl.1 rfl (lv_room (Nat.le_of_ble_eq_true rfl)) dX11_isDoubt_105 ⟨Nat.le_of_ble_eq_true rfl, Nat.le_of_ble_eq_true rfl⟩ (fun H locs hP hD hS => ?_)
          have hP : va_P D vwCl [(a_t, .inr (11, [.int t_thrown, .ref a_t_now, .ref a_t_kept, .int t_isKept, .ref a_t_text, .int t_length, .ref a_t_passing, .int t_at, .int t_fault, .int t_open, .int t_asked, .int t_byGun, .int t_prizeMost, .ref a_t_order, .ref a_t_times, .int t_listed])), (a_t_now, .inl (cI, 1562, .inl t_now))] H := hP
          have hD : va_D A [(a_t, .inr (11, [.int t_thrown, .ref a_t_now, .ref a_t_kept, .int t_isKept, .ref a_t_text, .int t_length, .ref a_t_passing, .int t_at, .int t_fault, .int t_open, .int t_asked, .int t_byGun, .int t_prizeMost, .ref a_t_order, .ref a_t_times, .int t_listed])), (a_t_now, .inl (cI, 1562, .inl t_now))] := hD
          refine lv_icmp_le (tgt := 115) hx hb dX11_isDoubt_108 (by decide) (fun c30 => ?_) (fun c30 => ?_)
          · have h := zz_t h c30
            refine lv_iconst (v := (nI 0)) hx hb dX11_isDoubt_115 rfl ?_
            have j0_ := Option.some.inj h
            subst j0_
            exact W.zret (v := (nI 0)) hx hb hr rfl (fun t ht hW => ⟨⟨_, (), rfl, rfl, zPost.of hP hD hK ht hW [0, 1] rfl rfl rfl⟩, hS.F ht⟩) hS.2.2 dX11_isDoubt_116
          · have h := zz_f h c30
            refine lv_iconst (v := (nI 1)) hx hb dX11_isDoubt_111 rfl ?_
            refine lv_goto (tgt := 116) hx hb dX11_isDoubt_112 (by decide) ?_
            have j0_ := Option.some.inj h
            subst j0_
            exact W.zret (v := (nI 1)) hx hb hr rfl (fun t ht hW => ⟨⟨_, (), rfl, rfl, zPost.of hP hD hK ht hW [0, 1] rfl rfl rfl⟩, hS.F ht⟩) hS.2.2 dX11_isDoubt_116
    · have h := zz_t h c3
      refine lv_iconst (v := (nI 0)) hx hb dX11_isDoubt_22 rfl ?_
      refine lv_istore (lv' := [(5, .int (nI 0)), (4, .int (zb s0_j15)), (0, .ref a_t), (1, .int x1), (2, .int x2), (3, .int x3)]) hx hb dX11_isDoubt_23 hl (by decide) rfl (fun ls hl => ?_)
      refine lv_iload_n hx hb dX11_isDoubt_25 rfl (lv_at hl 4 rfl) ?_
      refine lv_iconst (v := (nI 1)) hx hb dX11_isDoubt_26 rfl ?_
      refine lv_iadd hx hb dX11_isDoubt_27 ?_
      refine lv_istore (lv' := [(6, .int (x2 + (nI 1))), (5, .int (nI 0)), (4, .int (zb s0_j15)), (0, .ref a_t), (1, .int x1), (2, .int x2), (3, .int x3)]) hx hb dX11_isDoubt_28 hl (by decide) rfl (fun ls hl => ?_)
      have X30_68 : ∀ (v5_30 : Bool) (v6_30 : Int32) (H : Heap) (locs : List Loc) (ls : Array Slot), (if (zb s0_j15) = 0 then (if (zb v5_30) = 0 then some (false) else some (true)) else some (false)) = some (b0) → va_P D vwCl [(a_t, .inr (11, [.int t_thrown, .ref a_t_now, .ref a_t_kept, .int t_isKept, .ref a_t_text, .int t_length, .ref a_t_passing, .int t_at, .int t_fault, .int t_open, .int t_asked, .int t_byGun, .int t_prizeMost, .ref a_t_order, .ref a_t_times, .int t_listed])), (a_t_now, .inl (cI, 1562, .inl t_now))] H → va_D A [(a_t, .inr (11, [.int t_thrown, .ref a_t_now, .ref a_t_kept, .int t_isKept, .ref a_t_text, .int t_length, .ref a_t_passing, .int t_at, .int t_fault, .int t_open, .int t_asked, .int t_byGun, .int t_prizeMost, .ref a_t_order, .ref a_t_times, .int t_listed])), (a_t_now, .inl (cI, 1562, .inl t_now))] → va_S A s.heap H locs → lv_has ls 7 [(6, .int v6_30), (5, .int (zb v5_30)), (4, .int (zb s0_j15)), (0, .ref a_t), (1, .int x1), (2, .int x2), (3, .int x3)] → W p l e (headSpec wsX11_isDoubt ({ frames := 5, cells := 0, slots := 0, locals := 117 } : Room)).room s m #[Value.ref a_t, Value.int x1, Value.int x2, Value.int x3] below meth c H locs 0 0 (MQ below (zQi (zb b0) D (zT cB cI cZ) [(a_t, .inr (11, [.int t_thrown, .ref a_t_now, .ref a_t_kept, .int t_isKept, .ref a_t_text, .int t_length, .ref a_t_passing, .int t_at, .int t_fault, .int t_open, .int t_asked, .int t_byGun, .int t_prizeMost, .ref a_t_order, .ref a_t_times, .int t_listed])), (a_t_now, .inl (cI, 1562, .inl t_now))] A) #[Value.ref a_t, Value.int x1, Value.int x2, Value.int x3] s 0 0 A) (F0 m 68 ls []) := by
        intro v5_30 v6_30 H locs ls h hP hD hS hl
        refine lv_iload hx hb dX11_isDoubt_68 (lv_at hl 2 rfl) ?_
        refine lv_if_ne (tgt := 82) hx hb dX11_isDoubt_70 (by decide) (fun c31 => ?_) (fun c31 => ?_)
        · have h := zz_f h c31
          refine lv_iconst (v := (nI 0)) hx hb dX11_isDoubt_82 rfl ?_
          have j0_ := Option.some.inj h
          subst j0_
          exact W.zret (v := (nI 0)) hx hb hr rfl (fun t ht hW => ⟨⟨_, (), rfl, rfl, zPost.of hP hD hK ht hW [0, 1] rfl rfl rfl⟩, hS.F ht⟩) hS.2.2 dX11_isDoubt_83
        · have h := zz_t h c31
          refine lv_iload hx hb dX11_isDoubt_73 (lv_at hl 1 rfl) ?_
          refine lv_if_eq (tgt := 82) hx hb dX11_isDoubt_75 (by decide) (fun c32 => ?_) (fun c32 => ?_)
          · have h := zz_t h c32
            refine lv_iconst (v := (nI 0)) hx hb dX11_isDoubt_82 rfl ?_
            have j0_ := Option.some.inj h
            subst j0_
            exact W.zret (v := (nI 0)) hx hb hr rfl (fun t ht hW => ⟨⟨_, (), rfl, rfl, zPost.of hP hD hK ht hW [0, 1] rfl rfl rfl⟩, hS.F ht⟩) hS.2.2 dX11_isDoubt_83
          · have h := zz_f h c32
            refine lv_iconst (v := (nI 1)) hx hb dX11_isDoubt_78 rfl ?_
            refine lv_goto (tgt := 83) hx hb dX11_isDoubt_79 (by decide) ?_
            have j0_ := Option.some.inj h
            subst j0_
            exact W.zret (v := (nI 1)) hx hb hr rfl (fun t ht hW => ⟨⟨_, (), rfl, rfl, zPost.of hP hD hK ht hW [0, 1] rfl rfl rfl⟩, hS.F ht⟩) hS.2.2 dX11_isDoubt_83
      have L30 : ∀ (n : Nat) (v5_30 : Bool) (v6_30 : Int32) (H : Heap) (locs : List Loc) (ls : Array Slot), fX11_isDoubt_L30 t_now x1 (fun (v5_30 : Bool) (v6_30 : Int32) => (if (zb s0_j15) = 0 then (if (zb v5_30) = 0 then some (false) else some (true)) else some (false))) n v5_30 v6_30 = some (b0) → va_P D vwCl [(a_t, .inr (11, [.int t_thrown, .ref a_t_now, .ref a_t_kept, .int t_isKept, .ref a_t_text, .int t_length, .ref a_t_passing, .int t_at, .int t_fault, .int t_open, .int t_asked, .int t_byGun, .int t_prizeMost, .ref a_t_order, .ref a_t_times, .int t_listed])), (a_t_now, .inl (cI, 1562, .inl t_now))] H → va_D A [(a_t, .inr (11, [.int t_thrown, .ref a_t_now, .ref a_t_kept, .int t_isKept, .ref a_t_text, .int t_length, .ref a_t_passing, .int t_at, .int t_fault, .int t_open, .int t_asked, .int t_byGun, .int t_prizeMost, .ref a_t_order, .ref a_t_times, .int t_listed])), (a_t_now, .inl (cI, 1562, .inl t_now))] → va_S A s.heap H locs → lv_has ls 7 [(6, .int v6_30), (5, .int (zb v5_30)), (4, .int (zb s0_j15)), (0, .ref a_t), (1, .int x1), (2, .int x2), (3, .int x3)] → W p l e (headSpec wsX11_isDoubt ({ frames := 5, cells := 0, slots := 0, locals := 117 } : Room)).room s m #[Value.ref a_t, Value.int x1, Value.int x2, Value.int x3] below meth c H locs 0 0 (MQ below (zQi (zb b0) D (zT cB cI cZ) [(a_t, .inr (11, [.int t_thrown, .ref a_t_now, .ref a_t_kept, .int t_isKept, .ref a_t_text, .int t_length, .ref a_t_passing, .int t_at, .int t_fault, .int t_open, .int t_asked, .int t_byGun, .int t_prizeMost, .ref a_t_order, .ref a_t_times, .int t_listed])), (a_t_now, .inl (cI, 1562, .inl t_now))] A) #[Value.ref a_t, Value.int x1, Value.int x2, Value.int x3] s 0 0 A) (F0 m 30 ls []) := by
        intro n
        induction n with
        | zero => intro _ _ H locs ls h hP hD hS hl; cases h
        | succ n30 ih30 =>
          intro v5_30 v6_30 H locs ls h hP hD hS hl
          rw [fX11_isDoubt_L30.eq_2] at h
          refine lv_iload hx hb dX11_isDoubt_30 (lv_at hl 0 rfl) ?_
          refine lv_aload_n hx hb dX11_isDoubt_32 rfl (lv_at hl 3 rfl) ?_
          obtain ⟨r33, e34, h⟩ := zz_b h
          refine zVi (As := []) (rest := [.int v6_30]) (C := RX11) (wr := []) [0, 1] [] 0 ⟨hx, hb, hml, hown, hts⟩ (mX11_mats l D cB cI cZ a_t a_t_now a_t_kept a_t_text a_t_passing a_t_order a_t_times t_thrown t_isKept t_length t_at t_fault t_open t_asked t_byGun t_prizeMost t_listed t_now H.size r33 e34) (cwV 0 hts gX11_isDoubt_X11_mats rfl rfl rfl (by decide +kernel) ⟨Nat.le_of_ble_eq_true rfl, Nat.le_of_ble_eq_true rfl⟩) hK hN hZ hP hD hS hA rfl rfl rfl rfl rfl rfl rfl rfl hl.1 rfl (lv_room (Nat.le_of_ble_eq_true rfl)) dX11_isDoubt_33 ⟨Nat.le_of_ble_eq_true rfl, Nat.le_of_ble_eq_true rfl⟩ (fun H locs hP hD hS => ?_)
          have hP : va_P D vwCl [(a_t, .inr (11, [.int t_thrown, .ref a_t_now, .ref a_t_kept, .int t_isKept, .ref a_t_text, .int t_length, .ref a_t_passing, .int t_at, .int t_fault, .int t_open, .int t_asked, .int t_byGun, .int t_prizeMost, .ref a_t_order, .ref a_t_times, .int t_listed])), (a_t_now, .inl (cI, 1562, .inl t_now))] H := hP
          have hD : va_D A [(a_t, .inr (11, [.int t_thrown, .ref a_t_now, .ref a_t_kept, .int t_isKept, .ref a_t_text, .int t_length, .ref a_t_passing, .int t_at, .int t_fault, .int t_open, .int t_asked, .int t_byGun, .int t_prizeMost, .ref a_t_order, .ref a_t_times, .int t_listed])), (a_t_now, .inl (cI, 1562, .inl t_now))] := hD
          refine lv_icmp_ge (tgt := 68) hx hb dX11_isDoubt_36 (by decide) (fun c35 => ?_) (fun c35 => ?_)
          · have h := zz_t h c35
            exact X30_68 v5_30 v6_30 _ _ _ h (hP.sub [0, 1] rfl) (hD.sub [0, 1] rfl rfl) hS (lv_sub hl [0, 1, 2, 3, 4, 5, 6] rfl)
          · have h := zz_f h c35
            refine lv_iload hx hb dX11_isDoubt_39 (lv_at hl 1 rfl) ?_
            refine lv_if_ne (tgt := 55) hx hb dX11_isDoubt_41 (by decide) (fun c36 => ?_) (fun c36 => ?_)
            · have h := zz_f h c36
              refine lv_iconst (v := (nI 1)) hx hb dX11_isDoubt_55 rfl ?_
              refine lv_goto (tgt := 60) hx hb dX11_isDoubt_56 (by decide) ?_
              refine lv_istore (lv' := [(5, .int (nI 1)), (6, .int v6_30), (4, .int (zb s0_j15)), (0, .ref a_t), (1, .int x1), (2, .int x2), (3, .int x3)]) hx hb dX11_isDoubt_60 hl (by decide) rfl (fun ls hl => ?_)
              refine lv_iinc (v := (v6_30 + (nI 1))) (lv' := [(6, .int (v6_30 + (nI 1))), (5, .int (nI 1)), (4, .int (zb s0_j15)), (0, .ref a_t), (1, .int x1), (2, .int x2), (3, .int x3)]) hx hb dX11_isDoubt_62 hl (k := 1) rfl rfl (by decide) rfl (fun ls hl => ?_)
              refine lv_goto (tgt := 30) hx hb dX11_isDoubt_65 (by decide) ?_
              exact ih30 true (v6_30 + (nI 1)) _ _ _ h (hP.sub [0, 1] rfl) (hD.sub [0, 1] rfl rfl) hS (lv_sub hl [0, 1, 2, 3, 4, 5, 6] rfl)
            · have h := zz_t h c36
              refine lv_aload_n hx hb dX11_isDoubt_44 rfl (lv_at hl 3 rfl) ?_
              refine lv_iload_n hx hb dX11_isDoubt_45 rfl (lv_at hl 4 rfl) ?_
              refine lv_iload hx hb dX11_isDoubt_46 (lv_at hl 0 rfl) ?_
              obtain ⟨r37, e38, h⟩ := zz_b h
              refine zVi (As := [.int x1, .int v6_30]) (rest := []) (C := RX11) (wr := []) [0, 1] [] 0 ⟨hx, hb, hml, hown, hts⟩ (mX11_seen l D cB cI cZ a_t a_t_now a_t_kept a_t_text a_t_passing a_t_order a_t_times t_thrown t_isKept t_length t_at t_fault t_open t_asked t_byGun t_prizeMost t_listed t_now H.size x1 v6_30 r37 e38) (cwV 2 hts gX11_isDoubt_X11_seen rfl rfl rfl (by decide +kernel) ⟨Nat.le_of_ble_eq_true rfl, Nat.le_of_ble_eq_true rfl⟩) hK hN hZ hP hD hS hA rfl rfl rfl rfl rfl rfl rfl rfl hl.1 rfl (lv_room (Nat.le_of_ble_eq_true rfl)) dX11_isDoubt_48 ⟨Nat.le_of_ble_eq_true rfl, Nat.le_of_ble_eq_true rfl⟩ (fun H locs hP hD hS => ?_)
              have hP : va_P D vwCl [(a_t, .inr (11, [.int t_thrown, .ref a_t_now, .ref a_t_kept, .int t_isKept, .ref a_t_text, .int t_length, .ref a_t_passing, .int t_at, .int t_fault, .int t_open, .int t_asked, .int t_byGun, .int t_prizeMost, .ref a_t_order, .ref a_t_times, .int t_listed])), (a_t_now, .inl (cI, 1562, .inl t_now))] H := hP
              have hD : va_D A [(a_t, .inr (11, [.int t_thrown, .ref a_t_now, .ref a_t_kept, .int t_isKept, .ref a_t_text, .int t_length, .ref a_t_passing, .int t_at, .int t_fault, .int t_open, .int t_asked, .int t_byGun, .int t_prizeMost, .ref a_t_order, .ref a_t_times, .int t_listed])), (a_t_now, .inl (cI, 1562, .inl t_now))] := hD
              refine lv_iconst (v := (-1 : Int32)) hx hb dX11_isDoubt_51 rfl ?_
              refine lv_icmp_eq (tgt := 59) hx hb dX11_isDoubt_52 (by decide) (fun c39 => ?_) (fun c39 => ?_)
              · have h := zz_t h c39
                refine lv_iconst (v := (nI 0)) hx hb dX11_isDoubt_59 rfl ?_
                refine lv_istore (lv' := [(5, .int (nI 0)), (6, .int v6_30), (4, .int (zb s0_j15)), (0, .ref a_t), (1, .int x1), (2, .int x2), (3, .int x3)]) hx hb dX11_isDoubt_60 hl (by decide) rfl (fun ls hl => ?_)
                refine lv_iinc (v := (v6_30 + (nI 1))) (lv' := [(6, .int (v6_30 + (nI 1))), (5, .int (nI 0)), (4, .int (zb s0_j15)), (0, .ref a_t), (1, .int x1), (2, .int x2), (3, .int x3)]) hx hb dX11_isDoubt_62 hl (k := 1) rfl rfl (by decide) rfl (fun ls hl => ?_)
                refine lv_goto (tgt := 30) hx hb dX11_isDoubt_65 (by decide) ?_
                exact ih30 false (v6_30 + (nI 1)) _ _ _ h (hP.sub [0, 1] rfl) (hD.sub [0, 1] rfl rfl) hS (lv_sub hl [0, 1, 2, 3, 4, 5, 6] rfl)
              · have h := zz_f h c39
                refine lv_iconst (v := (nI 1)) hx hb dX11_isDoubt_55 rfl ?_
                refine lv_goto (tgt := 60) hx hb dX11_isDoubt_56 (by decide) ?_
                refine lv_istore (lv' := [(5, .int (nI 1)), (6, .int v6_30), (4, .int (zb s0_j15)), (0, .ref a_t), (1, .int x1), (2, .int x2), (3, .int x3)]) hx hb dX11_isDoubt_60 hl (by decide) rfl (fun ls hl => ?_)
                refine lv_iinc (v := (v6_30 + (nI 1))) (lv' := [(6, .int (v6_30 + (nI 1))), (5, .int (nI 1)), (4, .int (zb s0_j15)), (0, .ref a_t), (1, .int x1), (2, .int x2), (3, .int x3)]) hx hb dX11_isDoubt_62 hl (k := 1) rfl rfl (by decide) rfl (fun ls hl => ?_)
                refine lv_goto (tgt := 30) hx hb dX11_isDoubt_65 (by decide) ?_
                exact ih30 true (v6_30 + (nI 1)) _ _ _ h (hP.sub [0, 1] rfl) (hD.sub [0, 1] rfl rfl) hS (lv_sub hl [0, 1, 2, 3, 4, 5, 6] rfl)
      exact L30 N false (x2 + (nI 1)) _ _ _ h hP hD hS hl
  refine lv_icmp_eq (tgt := 14) hx hb dX11_isDoubt_7 (by decide) (fun c40 => ?_) (fun c40 => ?_)
  · have h := zz_t h c40
    refine lv_iconst (v := (nI 0)) hx hb dX11_isDoubt_14 rfl ?_
    exact J15 false _ _ _ h (hP.sub [0, 1] rfl) (hD.sub [0, 1] rfl rfl) hS (lv_sub hl [0, 1, 2, 3] rfl)
  · have h := zz_f h c40
    refine lv_iconst (v := (nI 1)) hx hb dX11_isDoubt_10 rfl ?_
    refine lv_goto (tgt := 15) hx hb dX11_isDoubt_11 (by decide) ?_
    exact J15 true _ _ _ h (hP.sub [0, 1] rfl) (hD.sub [0, 1] rfl rfl) hS (lv_sub hl [0, 1, 2, 3] rfl)
/-! RunDeskModel.doubts -/
theorem dX11_doubts_0 : decode cX11_doubts 0 = .ok (.iconst 0, 1) := by decide +kernel
theorem dX11_doubts_1 : decode cX11_doubts 1 = .ok (.istore_n 3, 1) := by decide +kernel
theorem dX11_doubts_2 : decode cX11_doubts 2 = .ok (.iconst 0, 1) := by decide +kernel
theorem dX11_doubts_3 : decode cX11_doubts 3 = .ok (.istore 4, 2) := by decide +kernel
theorem dX11_doubts_5 : decode cX11_doubts 5 = .ok (.iload 4, 2) := by decide +kernel
theorem dX11_doubts_7 : decode cX11_doubts 7 = .ok (.aload_n 0, 1) := by decide +kernel
theorem dX11_doubts_8 : decode cX11_doubts 8 = .ok (.invokevirtual 45, 3) := by decide +kernel
theorem dX11_doubts_11 : decode cX11_doubts 11 = .ok (.if_icmp .ge 97, 3) := by decide +kernel
theorem dX11_doubts_14 : decode cX11_doubts 14 = .ok (.iconst 0, 1) := by decide +kernel
theorem dX11_doubts_15 : decode cX11_doubts 15 = .ok (.istore 5, 2) := by decide +kernel
theorem dX11_doubts_17 : decode cX11_doubts 17 = .ok (.iload 5, 2) := by decide +kernel
theorem dX11_doubts_19 : decode cX11_doubts 19 = .ok (.aload_n 0, 1) := by decide +kernel
theorem dX11_doubts_20 : decode cX11_doubts 20 = .ok (.invokevirtual 41, 3) := by decide +kernel
theorem dX11_doubts_23 : decode cX11_doubts 23 = .ok (.if_icmp .ge 79, 3) := by decide +kernel
theorem dX11_doubts_26 : decode cX11_doubts 26 = .ok (.iconst 1, 1) := by decide +kernel
theorem dX11_doubts_27 : decode cX11_doubts 27 = .ok (.istore 6, 2) := by decide +kernel
theorem dX11_doubts_29 : decode cX11_doubts 29 = .ok (.iload 6, 2) := by decide +kernel
theorem dX11_doubts_31 : decode cX11_doubts 31 = .ok (.iconst 4, 1) := by decide +kernel
theorem dX11_doubts_32 : decode cX11_doubts 32 = .ok (.if_icmp .ge 64, 3) := by decide +kernel
theorem dX11_doubts_35 : decode cX11_doubts 35 = .ok (.aload_n 0, 1) := by decide +kernel
theorem dX11_doubts_36 : decode cX11_doubts 36 = .ok (.iload 4, 2) := by decide +kernel
theorem dX11_doubts_38 : decode cX11_doubts 38 = .ok (.iload 5, 2) := by decide +kernel
theorem dX11_doubts_40 : decode cX11_doubts 40 = .ok (.iload 6, 2) := by decide +kernel
theorem dX11_doubts_42 : decode cX11_doubts 42 = .ok (.invokevirtual 133, 3) := by decide +kernel
theorem dX11_doubts_45 : decode cX11_doubts 45 = .ok (.ifCond .ne 6, 3) := by decide +kernel
theorem dX11_doubts_48 : decode cX11_doubts 48 = .ok (.goto 42, 3) := by decide +kernel
theorem dX11_doubts_51 : decode cX11_doubts 51 = .ok (.iload_n 3, 1) := by decide +kernel
theorem dX11_doubts_52 : decode cX11_doubts 52 = .ok (.iload_n 1, 1) := by decide +kernel
theorem dX11_doubts_53 : decode cX11_doubts 53 = .ok (.if_icmp .ne 34, 3) := by decide +kernel
theorem dX11_doubts_56 : decode cX11_doubts 56 = .ok (.iload_n 2, 1) := by decide +kernel
theorem dX11_doubts_57 : decode cX11_doubts 57 = .ok (.ifCond .ne 8, 3) := by decide +kernel
theorem dX11_doubts_60 : decode cX11_doubts 60 = .ok (.iload 4, 2) := by decide +kernel
theorem dX11_doubts_62 : decode cX11_doubts 62 = .ok (.goto 24, 3) := by decide +kernel
theorem dX11_doubts_65 : decode cX11_doubts 65 = .ok (.iload_n 2, 1) := by decide +kernel
theorem dX11_doubts_66 : decode cX11_doubts 66 = .ok (.iconst 1, 1) := by decide +kernel
theorem dX11_doubts_67 : decode cX11_doubts 67 = .ok (.if_icmp .ne 8, 3) := by decide +kernel
theorem dX11_doubts_70 : decode cX11_doubts 70 = .ok (.iload 5, 2) := by decide +kernel
theorem dX11_doubts_72 : decode cX11_doubts 72 = .ok (.goto 14, 3) := by decide +kernel
theorem dX11_doubts_75 : decode cX11_doubts 75 = .ok (.iload_n 2, 1) := by decide +kernel
theorem dX11_doubts_76 : decode cX11_doubts 76 = .ok (.iconst 2, 1) := by decide +kernel
theorem dX11_doubts_77 : decode cX11_doubts 77 = .ok (.if_icmp .ne 8, 3) := by decide +kernel
theorem dX11_doubts_80 : decode cX11_doubts 80 = .ok (.iload 6, 2) := by decide +kernel
theorem dX11_doubts_82 : decode cX11_doubts 82 = .ok (.goto 4, 3) := by decide +kernel
theorem dX11_doubts_85 : decode cX11_doubts 85 = .ok (.iconst (-1), 1) := by decide +kernel
theorem dX11_doubts_86 : decode cX11_doubts 86 = .ok (.ireturn, 1) := by decide +kernel
theorem dX11_doubts_87 : decode cX11_doubts 87 = .ok (.iinc 3 1, 3) := by decide +kernel
theorem dX11_doubts_90 : decode cX11_doubts 90 = .ok (.iinc 6 1, 3) := by decide +kernel
theorem dX11_doubts_93 : decode cX11_doubts 93 = .ok (.goto (-64), 3) := by decide +kernel
theorem dX11_doubts_96 : decode cX11_doubts 96 = .ok (.iinc 5 1, 3) := by decide +kernel
theorem dX11_doubts_99 : decode cX11_doubts 99 = .ok (.goto (-82), 3) := by decide +kernel
theorem dX11_doubts_102 : decode cX11_doubts 102 = .ok (.iinc 4 1, 3) := by decide +kernel
theorem dX11_doubts_105 : decode cX11_doubts 105 = .ok (.goto (-100), 3) := by decide +kernel
theorem dX11_doubts_108 : decode cX11_doubts 108 = .ok (.iload_n 1, 1) := by decide +kernel
theorem dX11_doubts_109 : decode cX11_doubts 109 = .ok (.ifCond .ge 7, 3) := by decide +kernel
theorem dX11_doubts_112 : decode cX11_doubts 112 = .ok (.iload_n 3, 1) := by decide +kernel
theorem dX11_doubts_113 : decode cX11_doubts 113 = .ok (.goto 4, 3) := by decide +kernel
theorem dX11_doubts_116 : decode cX11_doubts 116 = .ok (.iconst (-1), 1) := by decide +kernel
theorem dX11_doubts_117 : decode cX11_doubts 117 = .ok (.ireturn, 1) := by decide +kernel
set_option maxRecDepth 20000 in
theorem ggX11_doubts_X11_runners : GoodIn wsX11_doubts wsX11_runners := goodIn_sub (List.forall_mem_cons.mpr ⟨List.mem_cons_of_mem _ (List.mem_append_left _ (List.mem_append_left _ (List.mem_of_getElem? (l := wsX11_doubts_r1) (i := 4) rfl))), (List.forall_mem_append.mpr ⟨(List.forall_mem_cons.mpr ⟨List.mem_cons_of_mem _ (List.mem_append_left _ (List.mem_append_left _ (List.mem_of_getElem? (l := wsX11_doubts_r1) (i := 5) rfl))), (fun _ h => nomatch h)⟩), (fun _ h => List.mem_cons_of_mem _ (List.mem_append_right _ (h)))⟩)⟩) (by decide +kernel)
set_option maxRecDepth 20000 in
theorem gX11_doubts_X11_runners : GoodIn wsX11_doubts (wsV RX11 45 RX11 yX11_runners wsX11_runners) := goodIn_app (goodIn_of _ (by decide +kernel)) ggX11_doubts_X11_runners
set_option maxRecDepth 20000 in
theorem ggX11_doubts_X11_mats : GoodIn wsX11_doubts wsX11_mats := goodIn_sub (List.forall_mem_cons.mpr ⟨List.mem_cons_of_mem _ (List.mem_append_left _ (List.mem_append_left _ (List.mem_of_getElem? (l := wsX11_doubts_r1) (i := 9) rfl))), (List.forall_mem_append.mpr ⟨(List.forall_mem_cons.mpr ⟨List.mem_cons_of_mem _ (List.mem_append_left _ (List.mem_append_left _ (List.mem_of_getElem? (l := wsX11_doubts_r1) (i := 5) rfl))), (fun _ h => nomatch h)⟩), (fun _ h => List.mem_cons_of_mem _ (List.mem_append_right _ (h)))⟩)⟩) (by decide +kernel)
set_option maxRecDepth 20000 in
theorem gX11_doubts_X11_mats : GoodIn wsX11_doubts (wsV RX11 41 RX11 yX11_mats wsX11_mats) := goodIn_app (goodIn_of _ (by decide +kernel)) ggX11_doubts_X11_mats
set_option maxRecDepth 20000 in
theorem ggX11_doubts_X11_isDoubt : GoodIn wsX11_doubts wsX11_isDoubt := goodIn_sub (List.forall_mem_cons.mpr ⟨List.mem_cons_of_mem _ (List.mem_append_left _ (List.mem_append_left _ (List.mem_of_getElem? (l := wsX11_doubts_r1) (i := 13) rfl))), (List.forall_mem_append.mpr ⟨(List.forall_mem_append.mpr ⟨(List.forall_mem_cons.mpr ⟨List.mem_cons_of_mem _ (List.mem_append_left _ (List.mem_append_left _ (List.mem_of_getElem? (l := wsX11_doubts_r1) (i := 14) rfl))), (List.forall_mem_cons.mpr ⟨List.mem_cons_of_mem _ (List.mem_append_left _ (List.mem_append_left _ (List.mem_of_getElem? (l := wsX11_doubts_r1) (i := 15) rfl))), (List.forall_mem_cons.mpr ⟨List.mem_cons_of_mem _ (List.mem_append_left _ (List.mem_append_left _ (List.mem_of_getElem? (l := wsX11_doubts_r1) (i := 16) rfl))), (List.forall_mem_cons.mpr ⟨List.mem_cons_of_mem _ (List.mem_append_left _ (List.mem_append_left _ (List.mem_of_getElem? (l := wsX11_doubts_r1) (i := 17) rfl))), (List.forall_mem_cons.mpr ⟨List.mem_cons_of_mem _ (List.mem_append_left _ (List.mem_append_left _ (List.mem_of_getElem? (l := wsX11_doubts_r1) (i := 3) rfl))), (List.forall_mem_cons.mpr ⟨List.mem_cons_of_mem _ (List.mem_append_left _ (List.mem_append_left _ (List.mem_of_getElem? (l := wsX11_doubts_r1) (i := 18) rfl))), (List.forall_mem_cons.mpr ⟨List.mem_cons_of_mem _ (List.mem_append_left _ (List.mem_append_left _ (List.mem_of_getElem? (l := wsX11_doubts_r1) (i := 19) rfl))), (List.forall_mem_cons.mpr ⟨List.mem_cons_of_mem _ (List.mem_append_left _ (List.mem_append_left _ (List.mem_of_getElem? (l := wsX11_doubts_r1) (i := 20) rfl))), (List.forall_mem_cons.mpr ⟨List.mem_cons_of_mem _ (List.mem_append_left _ (List.mem_append_left _ (List.mem_of_getElem? (l := wsX11_doubts_r1) (i := 21) rfl))), (List.forall_mem_cons.mpr ⟨List.mem_cons_of_mem _ (List.mem_append_left _ (List.mem_append_left _ (List.mem_of_getElem? (l := wsX11_doubts_r1) (i := 22) rfl))), (List.forall_mem_cons.mpr ⟨List.mem_cons_of_mem _ (List.mem_append_left _ (List.mem_append_left _ (List.mem_of_getElem? (l := wsX11_doubts_r1) (i := 23) rfl))), (List.forall_mem_cons.mpr ⟨List.mem_cons_of_mem _ (List.mem_append_left _ (List.mem_append_right _ (List.mem_append_left _ (List.mem_of_getElem? (l := wsX11_doubts_r2) (i := 0) rfl)))), (List.forall_mem_cons.mpr ⟨List.mem_cons_of_mem _ (List.mem_append_left _ (List.mem_append_right _ (List.mem_append_left _ (List.mem_of_getElem? (l := wsX11_doubts_r2) (i := 1) rfl)))), (List.forall_mem_cons.mpr ⟨List.mem_cons_of_mem _ (List.mem_append_left _ (List.mem_append_right _ (List.mem_append_left _ (List.mem_of_getElem? (l := wsX11_doubts_r2) (i := 2) rfl)))), (List.forall_mem_cons.mpr ⟨List.mem_cons_of_mem _ (List.mem_append_left _ (List.mem_append_right _ (List.mem_append_left _ (List.mem_of_getElem? (l := wsX11_doubts_r2) (i := 3) rfl)))), (List.forall_mem_cons.mpr ⟨List.mem_cons_of_mem _ (List.mem_append_left _ (List.mem_append_right _ (List.mem_append_left _ (List.mem_of_getElem? (l := wsX11_doubts_r2) (i := 4) rfl)))), (List.forall_mem_cons.mpr ⟨List.mem_cons_of_mem _ (List.mem_append_left _ (List.mem_append_right _ (List.mem_append_left _ (List.mem_of_getElem? (l := wsX11_doubts_r2) (i := 5) rfl)))), (List.forall_mem_cons.mpr ⟨List.mem_cons_of_mem _ (List.mem_append_left _ (List.mem_append_right _ (List.mem_append_left _ (List.mem_of_getElem? (l := wsX11_doubts_r2) (i := 6) rfl)))), (List.forall_mem_cons.mpr ⟨List.mem_cons_of_mem _ (List.mem_append_left _ (List.mem_append_left _ (List.mem_of_getElem? (l := wsX11_doubts_r1) (i := 5) rfl))), (List.forall_mem_cons.mpr ⟨List.mem_cons_of_mem _ (List.mem_append_left _ (List.mem_append_right _ (List.mem_append_left _ (List.mem_of_getElem? (l := wsX11_doubts_r2) (i := 7) rfl)))), (List.forall_mem_cons.mpr ⟨List.mem_cons_of_mem _ (List.mem_append_left _ (List.mem_append_right _ (List.mem_append_left _ (List.mem_of_getElem? (l := wsX11_doubts_r2) (i := 8) rfl)))), (List.forall_mem_cons.mpr ⟨List.mem_cons_of_mem _ (List.mem_append_left _ (List.mem_append_right _ (List.mem_append_left _ (List.mem_of_getElem? (l := wsX11_doubts_r2) (i := 9) rfl)))), (List.forall_mem_cons.mpr ⟨List.mem_cons_of_mem _ (List.mem_append_left _ (List.mem_append_right _ (List.mem_append_left _ (List.mem_of_getElem? (l := wsX11_doubts_r2) (i := 10) rfl)))), (List.forall_mem_cons.mpr ⟨List.mem_cons_of_mem _ (List.mem_append_left _ (List.mem_append_left _ (List.mem_of_getElem? (l := wsX11_doubts_r1) (i := 6) rfl))), (fun _ h => nomatch h)⟩)⟩)⟩)⟩)⟩)⟩)⟩)⟩)⟩)⟩)⟩)⟩)⟩)⟩)⟩)⟩)⟩)⟩)⟩)⟩)⟩)⟩)⟩)⟩), (List.forall_mem_append.mpr ⟨(List.forall_mem_cons.mpr ⟨List.mem_cons_of_mem _ (List.mem_append_left _ (List.mem_append_left _ (List.mem_of_getElem? (l := wsX11_doubts_r1) (i := 7) rfl))), (List.forall_mem_cons.mpr ⟨List.mem_cons_of_mem _ (List.mem_append_left _ (List.mem_append_left _ (List.mem_of_getElem? (l := wsX11_doubts_r1) (i := 8) rfl))), (List.forall_mem_cons.mpr ⟨List.mem_cons_of_mem _ (List.mem_append_left _ (List.mem_append_left _ (List.mem_of_getElem? (l := wsX11_doubts_r1) (i := 9) rfl))), (List.forall_mem_cons.mpr ⟨List.mem_cons_of_mem _ (List.mem_append_left _ (List.mem_append_right _ (List.mem_append_left _ (List.mem_of_getElem? (l := wsX11_doubts_r2) (i := 11) rfl)))), (List.forall_mem_cons.mpr ⟨List.mem_cons_of_mem _ (List.mem_append_left _ (List.mem_append_right _ (List.mem_append_left _ (List.mem_of_getElem? (l := wsX11_doubts_r2) (i := 12) rfl)))), (List.forall_mem_cons.mpr ⟨List.mem_cons_of_mem _ (List.mem_append_left _ (List.mem_append_right _ (List.mem_append_left _ (List.mem_of_getElem? (l := wsX11_doubts_r2) (i := 13) rfl)))), (List.forall_mem_cons.mpr ⟨List.mem_cons_of_mem _ (List.mem_append_left _ (List.mem_append_right _ (List.mem_append_left _ (List.mem_of_getElem? (l := wsX11_doubts_r2) (i := 14) rfl)))), (List.forall_mem_cons.mpr ⟨List.mem_cons_of_mem _ (List.mem_append_left _ (List.mem_append_right _ (List.mem_append_left _ (List.mem_of_getElem? (l := wsX11_doubts_r2) (i := 15) rfl)))), (List.forall_mem_cons.mpr ⟨List.mem_cons_of_mem _ (List.mem_append_left _ (List.mem_append_right _ (List.mem_append_left _ (List.mem_of_getElem? (l := wsX11_doubts_r2) (i := 16) rfl)))), (List.forall_mem_cons.mpr ⟨List.mem_cons_of_mem _ (List.mem_append_left _ (List.mem_append_right _ (List.mem_append_left _ (List.mem_of_getElem? (l := wsX11_doubts_r2) (i := 17) rfl)))), (List.forall_mem_cons.mpr ⟨List.mem_cons_of_mem _ (List.mem_append_left _ (List.mem_append_right _ (List.mem_append_left _ (List.mem_of_getElem? (l := wsX11_doubts_r2) (i := 18) rfl)))), (List.forall_mem_cons.mpr ⟨List.mem_cons_of_mem _ (List.mem_append_left _ (List.mem_append_right _ (List.mem_append_left _ (List.mem_of_getElem? (l := wsX11_doubts_r2) (i := 19) rfl)))), (List.forall_mem_cons.mpr ⟨List.mem_cons_of_mem _ (List.mem_append_left _ (List.mem_append_right _ (List.mem_append_left _ (List.mem_of_getElem? (l := wsX11_doubts_r2) (i := 20) rfl)))), (List.forall_mem_cons.mpr ⟨List.mem_cons_of_mem _ (List.mem_append_left _ (List.mem_append_right _ (List.mem_append_left _ (List.mem_of_getElem? (l := wsX11_doubts_r2) (i := 21) rfl)))), (List.forall_mem_cons.mpr ⟨List.mem_cons_of_mem _ (List.mem_append_left _ (List.mem_append_right _ (List.mem_append_left _ (List.mem_of_getElem? (l := wsX11_doubts_r2) (i := 22) rfl)))), (List.forall_mem_cons.mpr ⟨List.mem_cons_of_mem _ (List.mem_append_left _ (List.mem_append_right _ (List.mem_append_left _ (List.mem_of_getElem? (l := wsX11_doubts_r2) (i := 23) rfl)))), (List.forall_mem_cons.mpr ⟨List.mem_cons_of_mem _ (List.mem_append_left _ (List.mem_append_right _ (List.mem_append_right _ (List.mem_of_getElem? (l := wsX11_doubts_r3) (i := 0) rfl)))), (List.forall_mem_cons.mpr ⟨List.mem_cons_of_mem _ (List.mem_append_left _ (List.mem_append_right _ (List.mem_append_right _ (List.mem_of_getElem? (l := wsX11_doubts_r3) (i := 1) rfl)))), (List.forall_mem_cons.mpr ⟨List.mem_cons_of_mem _ (List.mem_append_left _ (List.mem_append_right _ (List.mem_append_right _ (List.mem_of_getElem? (l := wsX11_doubts_r3) (i := 2) rfl)))), (List.forall_mem_cons.mpr ⟨List.mem_cons_of_mem _ (List.mem_append_left _ (List.mem_append_right _ (List.mem_append_right _ (List.mem_of_getElem? (l := wsX11_doubts_r3) (i := 3) rfl)))), (List.forall_mem_cons.mpr ⟨List.mem_cons_of_mem _ (List.mem_append_left _ (List.mem_append_right _ (List.mem_append_right _ (List.mem_of_getElem? (l := wsX11_doubts_r3) (i := 4) rfl)))), (List.forall_mem_cons.mpr ⟨List.mem_cons_of_mem _ (List.mem_append_left _ (List.mem_append_right _ (List.mem_append_right _ (List.mem_of_getElem? (l := wsX11_doubts_r3) (i := 5) rfl)))), (List.forall_mem_cons.mpr ⟨List.mem_cons_of_mem _ (List.mem_append_left _ (List.mem_append_right _ (List.mem_append_right _ (List.mem_of_getElem? (l := wsX11_doubts_r3) (i := 6) rfl)))), (List.forall_mem_cons.mpr ⟨List.mem_cons_of_mem _ (List.mem_append_left _ (List.mem_append_right _ (List.mem_append_right _ (List.mem_of_getElem? (l := wsX11_doubts_r3) (i := 7) rfl)))), (fun _ h => nomatch h)⟩)⟩)⟩)⟩)⟩)⟩)⟩)⟩)⟩)⟩)⟩)⟩)⟩)⟩)⟩)⟩)⟩)⟩)⟩)⟩)⟩)⟩)⟩)⟩), (List.forall_mem_cons.mpr ⟨List.mem_cons_of_mem _ (List.mem_append_left _ (List.mem_append_right _ (List.mem_append_right _ (List.mem_of_getElem? (l := wsX11_doubts_r3) (i := 8) rfl)))), (List.forall_mem_cons.mpr ⟨List.mem_cons_of_mem _ (List.mem_append_left _ (List.mem_append_right _ (List.mem_append_right _ (List.mem_of_getElem? (l := wsX11_doubts_r3) (i := 9) rfl)))), (List.forall_mem_cons.mpr ⟨List.mem_cons_of_mem _ (List.mem_append_left _ (List.mem_append_right _ (List.mem_append_right _ (List.mem_of_getElem? (l := wsX11_doubts_r3) (i := 10) rfl)))), (fun _ h => nomatch h)⟩)⟩)⟩)⟩)⟩), (fun _ h => List.mem_cons_of_mem _ (List.mem_append_right _ (h)))⟩)⟩) (by decide +kernel)
set_option maxRecDepth 20000 in
theorem gX11_doubts_X11_isDoubt : GoodIn wsX11_doubts (wsV RX11 133 RX11 yX11_isDoubt wsX11_isDoubt) := goodIn_app (goodIn_of _ (by decide +kernel)) ggX11_doubts_X11_isDoubt
set_option maxHeartbeats 4000000 in
set_option maxRecDepth 100000 in
theorem mX11_doubts (l : Launch) (D : va_G) (cB cI cZ : ClassId) (a_t : Nat) (a_t_now : Nat) (a_t_kept : Nat) (a_t_text : Nat) (a_t_passing : Nat) (a_t_order : Nat) (a_t_times : Nat) (t_thrown : Int32) (t_isKept : Int32) (t_length : Int32) (t_at : Int32) (t_fault : Int32) (t_open : Int32) (t_asked : Int32) (t_byGun : Int32) (t_prizeMost : Int32) (t_listed : Int32) (t_now : Nat → Int32) (sz : Nat) (x1 : Int32) (x2 : Int32) (N : Nat) (r0 : Int32) (h : fX11_doubts N t_now x1 x2 = some (r0)) : Met l yX11_doubts wsX11_doubts ({ frames := 6, cells := 0, slots := 0, locals := 143 } : Room) (va_Pc [.ref a_t, .int x1, .int x2] (zPre D (zT cB cI cZ) [(a_t, .inr (11, [.int t_thrown, .ref a_t_now, .ref a_t_kept, .int t_isKept, .ref a_t_text, .int t_length, .ref a_t_passing, .int t_at, .int t_fault, .int t_open, .int t_asked, .int t_byGun, .int t_prizeMost, .ref a_t_order, .ref a_t_times, .int t_listed])), (a_t_now, .inl (cI, 1562, .inl t_now))] sz)) (zQi r0 D (zT cB cI cZ) [(a_t, .inr (11, [.int t_thrown, .ref a_t_now, .ref a_t_kept, .int t_isKept, .ref a_t_text, .int t_length, .ref a_t_passing, .int t_at, .int t_fault, .int t_open, .int t_asked, .int t_byGun, .int t_prizeMost, .ref a_t_order, .ref a_t_times, .int t_listed])), (a_t_now, .inl (cI, 1562, .inl t_now))] (va_A [(a_t, .inr (11, [.int t_thrown, .ref a_t_now, .ref a_t_kept, .int t_isKept, .ref a_t_text, .int t_length, .ref a_t_passing, .int t_at, .int t_fault, .int t_open, .int t_asked, .int t_byGun, .int t_prizeMost, .ref a_t_order, .ref a_t_times, .int t_listed])), (a_t_now, .inl (cI, 1562, .inl t_now))] sz)) 0 0 (va_A [(a_t, .inr (11, [.int t_thrown, .ref a_t_now, .ref a_t_kept, .int t_isKept, .ref a_t_text, .int t_length, .ref a_t_passing, .int t_at, .int t_fault, .int t_open, .int t_asked, .int t_byGun, .int t_prizeMost, .ref a_t_order, .ref a_t_times, .int t_listed])), (a_t_now, .inl (cI, 1562, .inl t_now))] sz) := by
  refine Met.ofW (cc := cX11_doubts) (maxL := 7) (ret := (some .int)) (by decide) rfl ?_
  intro p e s m args below meth c s₁ B hml hv
  obtain ⟨rfl, hsz, hP, hK, hN, hZ, hD0⟩ := hv
  have hx := B.exec
  have hb := B.bytes
  have hr := B.returns
  have hts := atoms_spec (ws := wsX11_doubts) B.pre
  have hown : s.vm.findClass RX11 = some m.cls := findClass_of_methodNamed B.named
  have hlocks := B.notSynchronized
  subst hsz
  have hD := hD0.self (sz := s.heap.size)
  generalize hAe : va_A [(a_t, .inr (11, [.int t_thrown, .ref a_t_now, .ref a_t_kept, .int t_isKept, .ref a_t_text, .int t_length, .ref a_t_passing, .int t_at, .int t_fault, .int t_open, .int t_asked, .int t_byGun, .int t_prizeMost, .ref a_t_order, .ref a_t_times, .int t_listed])), (a_t_now, .inl (cI, 1562, .inl t_now))] s.heap.size = A at hD hZ ⊢
  have hA : ∀ q : Nat, s.heap.size ≤ q → A q := fun q h => by rw [← hAe]; exact Or.inr h
  have hS : va_S A s.heap s.heap [] := va_S.rf
  have hl := lv_entry ([.ref a_t, .int x1, .int x2]) (n := 7) (Nat.le_of_ble_eq_true rfl)
  rw [lg_entry_eq]
  generalize (lg_sl ([.ref a_t, .int x1, .int x2]) ++ List.replicate (7 - (lg_sl ([.ref a_t, .int x1, .int x2])).length) Slot.unset).toArray = ls at hl ⊢
  have hl : lv_has ls 7 [(0, .ref a_t), (1, .int x1), (2, .int x2)] := hl
  unfold fX11_doubts at h
  refine lv_iconst (v := (nI 0)) hx hb dX11_doubts_0 rfl ?_
  refine lv_istore_n (lv' := [(3, .int (nI 0)), (0, .ref a_t), (1, .int x1), (2, .int x2)]) hx hb dX11_doubts_1 rfl hl (by decide) rfl (fun ls hl => ?_)
  refine lv_iconst (v := (nI 0)) hx hb dX11_doubts_2 rfl ?_
  refine lv_istore (lv' := [(4, .int (nI 0)), (3, .int (nI 0)), (0, .ref a_t), (1, .int x1), (2, .int x2)]) hx hb dX11_doubts_3 hl (by decide) rfl (fun ls hl => ?_)
  have X5_108 : ∀ (v3_5 : Int32) (v4_5 : Int32) (H : Heap) (locs : List Loc) (ls : Array Slot), (if 0 ≤ x1 then some ((-1 : Int32)) else some (v3_5)) = some (r0) → va_P D vwCl [(a_t, .inr (11, [.int t_thrown, .ref a_t_now, .ref a_t_kept, .int t_isKept, .ref a_t_text, .int t_length, .ref a_t_passing, .int t_at, .int t_fault, .int t_open, .int t_asked, .int t_byGun, .int t_prizeMost, .ref a_t_order, .ref a_t_times, .int t_listed])), (a_t_now, .inl (cI, 1562, .inl t_now))] H → va_D A [(a_t, .inr (11, [.int t_thrown, .ref a_t_now, .ref a_t_kept, .int t_isKept, .ref a_t_text, .int t_length, .ref a_t_passing, .int t_at, .int t_fault, .int t_open, .int t_asked, .int t_byGun, .int t_prizeMost, .ref a_t_order, .ref a_t_times, .int t_listed])), (a_t_now, .inl (cI, 1562, .inl t_now))] → va_S A s.heap H locs → lv_has ls 7 [(4, .int v4_5), (3, .int v3_5), (0, .ref a_t), (1, .int x1), (2, .int x2)] → W p l e (headSpec wsX11_doubts ({ frames := 6, cells := 0, slots := 0, locals := 143 } : Room)).room s m #[Value.ref a_t, Value.int x1, Value.int x2] below meth c H locs 0 0 (MQ below (zQi r0 D (zT cB cI cZ) [(a_t, .inr (11, [.int t_thrown, .ref a_t_now, .ref a_t_kept, .int t_isKept, .ref a_t_text, .int t_length, .ref a_t_passing, .int t_at, .int t_fault, .int t_open, .int t_asked, .int t_byGun, .int t_prizeMost, .ref a_t_order, .ref a_t_times, .int t_listed])), (a_t_now, .inl (cI, 1562, .inl t_now))] A) #[Value.ref a_t, Value.int x1, Value.int x2] s 0 0 A) (F0 m 108 ls []) := by
    intro v3_5 v4_5 H locs ls h hP hD hS hl
    refine lv_iload_n hx hb dX11_doubts_108 rfl (lv_at hl 3 rfl) ?_
    refine lv_if_ge (tgt := 116) hx hb dX11_doubts_109 (by decide) (fun c1 => ?_) (fun c1 => ?_)
    · have h := zz_t h c1
      refine lv_iconst (v := (-1 : Int32)) hx hb dX11_doubts_116 rfl ?_
      have j0_ := Option.some.inj h
      subst j0_
      exact W.iret (v := (-1 : Int32)) hx hb hr (fun t ht hW => ⟨⟨_, (), rfl, rfl, zPost.of hP hD hK ht hW [0, 1] rfl rfl rfl⟩, hS.F ht⟩) hS.2.2 dX11_doubts_117
    · have h := zz_f h c1
      refine lv_iload_n hx hb dX11_doubts_112 rfl (lv_at hl 1 rfl) ?_
      refine lv_goto (tgt := 117) hx hb dX11_doubts_113 (by decide) ?_
      have j0_ := Option.some.inj h
      subst j0_
      exact W.iret (v := v3_5) hx hb hr (fun t ht hW => ⟨⟨_, (), rfl, rfl, zPost.of hP hD hK ht hW [0, 1] rfl rfl rfl⟩, hS.F ht⟩) hS.2.2 dX11_doubts_117
  have L5 : ∀ (n : Nat) (v3_5 : Int32) (v4_5 : Int32) (H : Heap) (locs : List Loc) (ls : Array Slot), fX11_doubts_L5 N t_now x1 x2 (fun (v3_5 : Int32) (v4_5 : Int32) => (if 0 ≤ x1 then some ((-1 : Int32)) else some (v3_5))) n v3_5 v4_5 = some (r0) → va_P D vwCl [(a_t, .inr (11, [.int t_thrown, .ref a_t_now, .ref a_t_kept, .int t_isKept, .ref a_t_text, .int t_length, .ref a_t_passing, .int t_at, .int t_fault, .int t_open, .int t_asked, .int t_byGun, .int t_prizeMost, .ref a_t_order, .ref a_t_times, .int t_listed])), (a_t_now, .inl (cI, 1562, .inl t_now))] H → va_D A [(a_t, .inr (11, [.int t_thrown, .ref a_t_now, .ref a_t_kept, .int t_isKept, .ref a_t_text, .int t_length, .ref a_t_passing, .int t_at, .int t_fault, .int t_open, .int t_asked, .int t_byGun, .int t_prizeMost, .ref a_t_order, .ref a_t_times, .int t_listed])), (a_t_now, .inl (cI, 1562, .inl t_now))] → va_S A s.heap H locs → lv_has ls 7 [(4, .int v4_5), (3, .int v3_5), (0, .ref a_t), (1, .int x1), (2, .int x2)] → W p l e (headSpec wsX11_doubts ({ frames := 6, cells := 0, slots := 0, locals := 143 } : Room)).room s m #[Value.ref a_t, Value.int x1, Value.int x2] below meth c H locs 0 0 (MQ below (zQi r0 D (zT cB cI cZ) [(a_t, .inr (11, [.int t_thrown, .ref a_t_now, .ref a_t_kept, .int t_isKept, .ref a_t_text, .int t_length, .ref a_t_passing, .int t_at, .int t_fault, .int t_open, .int t_asked, .int t_byGun, .int t_prizeMost, .ref a_t_order, .ref a_t_times, .int t_listed])), (a_t_now, .inl (cI, 1562, .inl t_now))] A) #[Value.ref a_t, Value.int x1, Value.int x2] s 0 0 A) (F0 m 5 ls []) := by
    intro n
    induction n with
    | zero => intro _ _ H locs ls h hP hD hS hl; cases h
    | succ n5 ih5 =>
      intro v3_5 v4_5 H locs ls h hP hD hS hl
      rw [fX11_doubts_L5.eq_2] at h
      refine lv_iload hx hb dX11_doubts_5 (lv_at hl 0 rfl) ?_
      refine lv_aload_n hx hb dX11_doubts_7 rfl (lv_at hl 2 rfl) ?_
      obtain ⟨r2, e3, h⟩ := zz_b h
      refine zVi (As := []) (rest := [.int v4_5]) (C := RX11) (wr := []) [0, 1] [] 0 ⟨hx, hb, hml, hown, hts⟩ (mX11_runners l D cB cI cZ a_t a_t_now a_t_kept a_t_text a_t_passing a_t_order a_t_times t_thrown t_isKept t_length t_at t_fault t_open t_asked t_byGun t_prizeMost t_listed t_now H.size r2 e3) (cwV 0 hts gX11_doubts_X11_runners rfl rfl rfl (by decide +kernel) ⟨Nat.le_of_ble_eq_true rfl, Nat.le_of_ble_eq_true rfl⟩) hK hN hZ hP hD hS hA rfl rfl rfl rfl rfl rfl rfl rfl hl.1 rfl (lv_room (Nat.le_of_ble_eq_true rfl)) dX11_doubts_8 ⟨Nat.le_of_ble_eq_true rfl, Nat.le_of_ble_eq_true rfl⟩ (fun H locs hP hD hS => ?_)
      have hP : va_P D vwCl [(a_t, .inr (11, [.int t_thrown, .ref a_t_now, .ref a_t_kept, .int t_isKept, .ref a_t_text, .int t_length, .ref a_t_passing, .int t_at, .int t_fault, .int t_open, .int t_asked, .int t_byGun, .int t_prizeMost, .ref a_t_order, .ref a_t_times, .int t_listed])), (a_t_now, .inl (cI, 1562, .inl t_now))] H := hP
      have hD : va_D A [(a_t, .inr (11, [.int t_thrown, .ref a_t_now, .ref a_t_kept, .int t_isKept, .ref a_t_text, .int t_length, .ref a_t_passing, .int t_at, .int t_fault, .int t_open, .int t_asked, .int t_byGun, .int t_prizeMost, .ref a_t_order, .ref a_t_times, .int t_listed])), (a_t_now, .inl (cI, 1562, .inl t_now))] := hD
      refine lv_icmp_ge (tgt := 108) hx hb dX11_doubts_11 (by decide) (fun c4 => ?_) (fun c4 => ?_)
      · have h := zz_t h c4
        exact X5_108 v3_5 v4_5 _ _ _ h (hP.sub [0, 1] rfl) (hD.sub [0, 1] rfl rfl) hS (lv_sub hl [0, 1, 2, 3, 4] rfl)
      · have h := zz_f h c4
        refine lv_iconst (v := (nI 0)) hx hb dX11_doubts_14 rfl ?_
        refine lv_istore (lv' := [(5, .int (nI 0)), (4, .int v4_5), (3, .int v3_5), (0, .ref a_t), (1, .int x1), (2, .int x2)]) hx hb dX11_doubts_15 hl (by decide) rfl (fun ls hl => ?_)
        have X17_102 : ∀ (v3_17 : Int32) (v5_17 : Int32) (H : Heap) (locs : List Loc) (ls : Array Slot), (fX11_doubts_L5 N t_now x1 x2 (fun (v3_5 : Int32) (v4_5 : Int32) => (if 0 ≤ x1 then some ((-1 : Int32)) else some (v3_5))) n5 v3_17 (v4_5 + (nI 1))) = some (r0) → va_P D vwCl [(a_t, .inr (11, [.int t_thrown, .ref a_t_now, .ref a_t_kept, .int t_isKept, .ref a_t_text, .int t_length, .ref a_t_passing, .int t_at, .int t_fault, .int t_open, .int t_asked, .int t_byGun, .int t_prizeMost, .ref a_t_order, .ref a_t_times, .int t_listed])), (a_t_now, .inl (cI, 1562, .inl t_now))] H → va_D A [(a_t, .inr (11, [.int t_thrown, .ref a_t_now, .ref a_t_kept, .int t_isKept, .ref a_t_text, .int t_length, .ref a_t_passing, .int t_at, .int t_fault, .int t_open, .int t_asked, .int t_byGun, .int t_prizeMost, .ref a_t_order, .ref a_t_times, .int t_listed])), (a_t_now, .inl (cI, 1562, .inl t_now))] → va_S A s.heap H locs → lv_has ls 7 [(5, .int v5_17), (4, .int v4_5), (3, .int v3_17), (0, .ref a_t), (1, .int x1), (2, .int x2)] → W p l e (headSpec wsX11_doubts ({ frames := 6, cells := 0, slots := 0, locals := 143 } : Room)).room s m #[Value.ref a_t, Value.int x1, Value.int x2] below meth c H locs 0 0 (MQ below (zQi r0 D (zT cB cI cZ) [(a_t, .inr (11, [.int t_thrown, .ref a_t_now, .ref a_t_kept, .int t_isKept, .ref a_t_text, .int t_length, .ref a_t_passing, .int t_at, .int t_fault, .int t_open, .int t_asked, .int t_byGun, .int t_prizeMost, .ref a_t_order, .ref a_t_times, .int t_listed])), (a_t_now, .inl (cI, 1562, .inl t_now))] A) #[Value.ref a_t, Value.int x1, Value.int x2] s 0 0 A) (F0 m 102 ls []) := by
          intro v3_17 v5_17 H locs ls h hP hD hS hl
          refine lv_iinc (v := (v4_5 + (nI 1))) (lv' := [(4, .int (v4_5 + (nI 1))), (5, .int v5_17), (3, .int v3_17), (0, .ref a_t), (1, .int x1), (2, .int x2)]) hx hb dX11_doubts_102 hl (k := 1) rfl rfl (by decide) rfl (fun ls hl => ?_)
          refine lv_goto (tgt := 5) hx hb dX11_doubts_105 (by decide) ?_
          exact ih5 v3_17 (v4_5 + (nI 1)) _ _ _ h (hP.sub [0, 1] rfl) (hD.sub [0, 1] rfl rfl) hS (lv_sub hl [0, 2, 3, 4, 5] rfl)
        have L17 : ∀ (n : Nat) (v3_17 : Int32) (v5_17 : Int32) (H : Heap) (locs : List Loc) (ls : Array Slot), fX11_doubts_L17 N t_now x1 x2 v4_5 (fun (v3_17 : Int32) (v5_17 : Int32) => (fX11_doubts_L5 N t_now x1 x2 (fun (v3_5 : Int32) (v4_5 : Int32) => (if 0 ≤ x1 then some ((-1 : Int32)) else some (v3_5))) n5 v3_17 (v4_5 + (nI 1)))) n v3_17 v5_17 = some (r0) → va_P D vwCl [(a_t, .inr (11, [.int t_thrown, .ref a_t_now, .ref a_t_kept, .int t_isKept, .ref a_t_text, .int t_length, .ref a_t_passing, .int t_at, .int t_fault, .int t_open, .int t_asked, .int t_byGun, .int t_prizeMost, .ref a_t_order, .ref a_t_times, .int t_listed])), (a_t_now, .inl (cI, 1562, .inl t_now))] H → va_D A [(a_t, .inr (11, [.int t_thrown, .ref a_t_now, .ref a_t_kept, .int t_isKept, .ref a_t_text, .int t_length, .ref a_t_passing, .int t_at, .int t_fault, .int t_open, .int t_asked, .int t_byGun, .int t_prizeMost, .ref a_t_order, .ref a_t_times, .int t_listed])), (a_t_now, .inl (cI, 1562, .inl t_now))] → va_S A s.heap H locs → lv_has ls 7 [(5, .int v5_17), (4, .int v4_5), (3, .int v3_17), (0, .ref a_t), (1, .int x1), (2, .int x2)] → W p l e (headSpec wsX11_doubts ({ frames := 6, cells := 0, slots := 0, locals := 143 } : Room)).room s m #[Value.ref a_t, Value.int x1, Value.int x2] below meth c H locs 0 0 (MQ below (zQi r0 D (zT cB cI cZ) [(a_t, .inr (11, [.int t_thrown, .ref a_t_now, .ref a_t_kept, .int t_isKept, .ref a_t_text, .int t_length, .ref a_t_passing, .int t_at, .int t_fault, .int t_open, .int t_asked, .int t_byGun, .int t_prizeMost, .ref a_t_order, .ref a_t_times, .int t_listed])), (a_t_now, .inl (cI, 1562, .inl t_now))] A) #[Value.ref a_t, Value.int x1, Value.int x2] s 0 0 A) (F0 m 17 ls []) := by
          intro n
          induction n with
          | zero => intro _ _ H locs ls h hP hD hS hl; cases h
          | succ n17 ih17 =>
            intro v3_17 v5_17 H locs ls h hP hD hS hl
            rw [fX11_doubts_L17.eq_2] at h
            refine lv_iload hx hb dX11_doubts_17 (lv_at hl 0 rfl) ?_
            refine lv_aload_n hx hb dX11_doubts_19 rfl (lv_at hl 3 rfl) ?_
            obtain ⟨r5, e6, h⟩ := zz_b h
            refine zVi (As := []) (rest := [.int v5_17]) (C := RX11) (wr := []) [0, 1] [] 0 ⟨hx, hb, hml, hown, hts⟩ (mX11_mats l D cB cI cZ a_t a_t_now a_t_kept a_t_text a_t_passing a_t_order a_t_times t_thrown t_isKept t_length t_at t_fault t_open t_asked t_byGun t_prizeMost t_listed t_now H.size r5 e6) (cwV 0 hts gX11_doubts_X11_mats rfl rfl rfl (by decide +kernel) ⟨Nat.le_of_ble_eq_true rfl, Nat.le_of_ble_eq_true rfl⟩) hK hN hZ hP hD hS hA rfl rfl rfl rfl rfl rfl rfl rfl hl.1 rfl (lv_room (Nat.le_of_ble_eq_true rfl)) dX11_doubts_20 ⟨Nat.le_of_ble_eq_true rfl, Nat.le_of_ble_eq_true rfl⟩ (fun H locs hP hD hS => ?_)
            have hP : va_P D vwCl [(a_t, .inr (11, [.int t_thrown, .ref a_t_now, .ref a_t_kept, .int t_isKept, .ref a_t_text, .int t_length, .ref a_t_passing, .int t_at, .int t_fault, .int t_open, .int t_asked, .int t_byGun, .int t_prizeMost, .ref a_t_order, .ref a_t_times, .int t_listed])), (a_t_now, .inl (cI, 1562, .inl t_now))] H := hP
            have hD : va_D A [(a_t, .inr (11, [.int t_thrown, .ref a_t_now, .ref a_t_kept, .int t_isKept, .ref a_t_text, .int t_length, .ref a_t_passing, .int t_at, .int t_fault, .int t_open, .int t_asked, .int t_byGun, .int t_prizeMost, .ref a_t_order, .ref a_t_times, .int t_listed])), (a_t_now, .inl (cI, 1562, .inl t_now))] := hD
            refine lv_icmp_ge (tgt := 102) hx hb dX11_doubts_23 (by decide) (fun c7 => ?_) (fun c7 => ?_)
            · have h := zz_t h c7
              exact X17_102 v3_17 v5_17 _ _ _ h (hP.sub [0, 1] rfl) (hD.sub [0, 1] rfl rfl) hS (lv_sub hl [0, 1, 2, 3, 4, 5] rfl)
            · have h := zz_f h c7
              refine lv_iconst (v := (nI 1)) hx hb dX11_doubts_26 rfl ?_
              refine lv_istore (lv' := [(6, .int (nI 1)), (5, .int v5_17), (4, .int v4_5), (3, .int v3_17), (0, .ref a_t), (1, .int x1), (2, .int x2)]) hx hb dX11_doubts_27 hl (by decide) rfl (fun ls hl => ?_)
              have X29_96 : ∀ (v3_29 : Int32) (v6_29 : Int32) (H : Heap) (locs : List Loc) (ls : Array Slot), (fX11_doubts_L17 N t_now x1 x2 v4_5 (fun (v3_17 : Int32) (v5_17 : Int32) => (fX11_doubts_L5 N t_now x1 x2 (fun (v3_5 : Int32) (v4_5 : Int32) => (if 0 ≤ x1 then some ((-1 : Int32)) else some (v3_5))) n5 v3_17 (v4_5 + (nI 1)))) n17 v3_29 (v5_17 + (nI 1))) = some (r0) → va_P D vwCl [(a_t, .inr (11, [.int t_thrown, .ref a_t_now, .ref a_t_kept, .int t_isKept, .ref a_t_text, .int t_length, .ref a_t_passing, .int t_at, .int t_fault, .int t_open, .int t_asked, .int t_byGun, .int t_prizeMost, .ref a_t_order, .ref a_t_times, .int t_listed])), (a_t_now, .inl (cI, 1562, .inl t_now))] H → va_D A [(a_t, .inr (11, [.int t_thrown, .ref a_t_now, .ref a_t_kept, .int t_isKept, .ref a_t_text, .int t_length, .ref a_t_passing, .int t_at, .int t_fault, .int t_open, .int t_asked, .int t_byGun, .int t_prizeMost, .ref a_t_order, .ref a_t_times, .int t_listed])), (a_t_now, .inl (cI, 1562, .inl t_now))] → va_S A s.heap H locs → lv_has ls 7 [(6, .int v6_29), (5, .int v5_17), (4, .int v4_5), (3, .int v3_29), (0, .ref a_t), (1, .int x1), (2, .int x2)] → W p l e (headSpec wsX11_doubts ({ frames := 6, cells := 0, slots := 0, locals := 143 } : Room)).room s m #[Value.ref a_t, Value.int x1, Value.int x2] below meth c H locs 0 0 (MQ below (zQi r0 D (zT cB cI cZ) [(a_t, .inr (11, [.int t_thrown, .ref a_t_now, .ref a_t_kept, .int t_isKept, .ref a_t_text, .int t_length, .ref a_t_passing, .int t_at, .int t_fault, .int t_open, .int t_asked, .int t_byGun, .int t_prizeMost, .ref a_t_order, .ref a_t_times, .int t_listed])), (a_t_now, .inl (cI, 1562, .inl t_now))] A) #[Value.ref a_t, Value.int x1, Value.int x2] s 0 0 A) (F0 m 96 ls []) := by
                intro v3_29 v6_29 H locs ls h hP hD hS hl
                refine lv_iinc (v := (v5_17 + (nI 1))) (lv' := [(5, .int (v5_17 + (nI 1))), (6, .int v6_29), (4, .int v4_5), (3, .int v3_29), (0, .ref a_t), (1, .int x1), (2, .int x2)]) hx hb dX11_doubts_96 hl (k := 1) rfl rfl (by decide) rfl (fun ls hl => ?_)
                refine lv_goto (tgt := 17) hx hb dX11_doubts_99 (by decide) ?_
                exact ih17 v3_29 (v5_17 + (nI 1)) _ _ _ h (hP.sub [0, 1] rfl) (hD.sub [0, 1] rfl rfl) hS (lv_sub hl [0, 2, 3, 4, 5, 6] rfl)
              have L29 : ∀ (n : Nat) (v3_29 : Int32) (v6_29 : Int32) (H : Heap) (locs : List Loc) (ls : Array Slot), fX11_doubts_L29 N t_now x1 x2 v4_5 v5_17 (fun (v3_29 : Int32) (v6_29 : Int32) => (fX11_doubts_L17 N t_now x1 x2 v4_5 (fun (v3_17 : Int32) (v5_17 : Int32) => (fX11_doubts_L5 N t_now x1 x2 (fun (v3_5 : Int32) (v4_5 : Int32) => (if 0 ≤ x1 then some ((-1 : Int32)) else some (v3_5))) n5 v3_17 (v4_5 + (nI 1)))) n17 v3_29 (v5_17 + (nI 1)))) n v3_29 v6_29 = some (r0) → va_P D vwCl [(a_t, .inr (11, [.int t_thrown, .ref a_t_now, .ref a_t_kept, .int t_isKept, .ref a_t_text, .int t_length, .ref a_t_passing, .int t_at, .int t_fault, .int t_open, .int t_asked, .int t_byGun, .int t_prizeMost, .ref a_t_order, .ref a_t_times, .int t_listed])), (a_t_now, .inl (cI, 1562, .inl t_now))] H → va_D A [(a_t, .inr (11, [.int t_thrown, .ref a_t_now, .ref a_t_kept, .int t_isKept, .ref a_t_text, .int t_length, .ref a_t_passing, .int t_at, .int t_fault, .int t_open, .int t_asked, .int t_byGun, .int t_prizeMost, .ref a_t_order, .ref a_t_times, .int t_listed])), (a_t_now, .inl (cI, 1562, .inl t_now))] → va_S A s.heap H locs → lv_has ls 7 [(6, .int v6_29), (5, .int v5_17), (4, .int v4_5), (3, .int v3_29), (0, .ref a_t), (1, .int x1), (2, .int x2)] → W p l e (headSpec wsX11_doubts ({ frames := 6, cells := 0, slots := 0, locals := 143 } : Room)).room s m #[Value.ref a_t, Value.int x1, Value.int x2] below meth c H locs 0 0 (MQ below (zQi r0 D (zT cB cI cZ) [(a_t, .inr (11, [.int t_thrown, .ref a_t_now, .ref a_t_kept, .int t_isKept, .ref a_t_text, .int t_length, .ref a_t_passing, .int t_at, .int t_fault, .int t_open, .int t_asked, .int t_byGun, .int t_prizeMost, .ref a_t_order, .ref a_t_times, .int t_listed])), (a_t_now, .inl (cI, 1562, .inl t_now))] A) #[Value.ref a_t, Value.int x1, Value.int x2] s 0 0 A) (F0 m 29 ls []) := by
                intro n
                induction n with
                | zero => intro _ _ H locs ls h hP hD hS hl; cases h
                | succ n29 ih29 =>
                  intro v3_29 v6_29 H locs ls h hP hD hS hl
                  rw [fX11_doubts_L29.eq_2] at h
                  refine lv_iload hx hb dX11_doubts_29 (lv_at hl 0 rfl) ?_
                  refine lv_iconst (v := (nI 4)) hx hb dX11_doubts_31 rfl ?_
                  refine lv_icmp_ge (tgt := 96) hx hb dX11_doubts_32 (by decide) (fun c8 => ?_) (fun c8 => ?_)
                  · have h := zz_t h c8
                    exact X29_96 v3_29 v6_29 _ _ _ h (hP.sub [0, 1] rfl) (hD.sub [0, 1] rfl rfl) hS (lv_sub hl [0, 1, 2, 3, 4, 5, 6] rfl)
                  · have h := zz_f h c8
                    refine lv_aload_n hx hb dX11_doubts_35 rfl (lv_at hl 4 rfl) ?_
                    refine lv_iload hx hb dX11_doubts_36 (lv_at hl 2 rfl) ?_
                    refine lv_iload hx hb dX11_doubts_38 (lv_at hl 1 rfl) ?_
                    refine lv_iload hx hb dX11_doubts_40 (lv_at hl 0 rfl) ?_
                    obtain ⟨b9, e10, h⟩ := zz_b h
                    refine zVi (As := [.int v4_5, .int v5_17, .int v6_29]) (rest := []) (C := RX11) (wr := []) [0, 1] [] 0 ⟨hx, hb, hml, hown, hts⟩ (mX11_isDoubt l D cB cI cZ a_t a_t_now a_t_kept a_t_text a_t_passing a_t_order a_t_times t_thrown t_isKept t_length t_at t_fault t_open t_asked t_byGun t_prizeMost t_listed t_now H.size v4_5 v5_17 v6_29 N b9 e10) (cwV 3 hts gX11_doubts_X11_isDoubt rfl rfl rfl (by decide +kernel) ⟨Nat.le_of_ble_eq_true rfl, Nat.le_of_ble_eq_true rfl⟩) hK hN hZ hP hD hS hA rfl rfl rfl rfl rfl rfl rfl rfl hl.1 rfl (lv_room (Nat.le_of_ble_eq_true rfl)) dX11_doubts_42 ⟨Nat.le_of_ble_eq_true rfl, Nat.le_of_ble_eq_true rfl⟩ (fun H locs hP hD hS => ?_)
                    have hP : va_P D vwCl [(a_t, .inr (11, [.int t_thrown, .ref a_t_now, .ref a_t_kept, .int t_isKept, .ref a_t_text, .int t_length, .ref a_t_passing, .int t_at, .int t_fault, .int t_open, .int t_asked, .int t_byGun, .int t_prizeMost, .ref a_t_order, .ref a_t_times, .int t_listed])), (a_t_now, .inl (cI, 1562, .inl t_now))] H := hP
                    have hD : va_D A [(a_t, .inr (11, [.int t_thrown, .ref a_t_now, .ref a_t_kept, .int t_isKept, .ref a_t_text, .int t_length, .ref a_t_passing, .int t_at, .int t_fault, .int t_open, .int t_asked, .int t_byGun, .int t_prizeMost, .ref a_t_order, .ref a_t_times, .int t_listed])), (a_t_now, .inl (cI, 1562, .inl t_now))] := hD
                    refine lv_if_ne (tgt := 51) hx hb dX11_doubts_45 (by decide) (fun c11 => ?_) (fun c11 => ?_)
                    · have h := zz_f h c11
                      refine lv_iload_n hx hb dX11_doubts_51 rfl (lv_at hl 3 rfl) ?_
                      refine lv_iload_n hx hb dX11_doubts_52 rfl (lv_at hl 5 rfl) ?_
                      refine lv_icmp_ne (tgt := 87) hx hb dX11_doubts_53 (by decide) (fun c12 => ?_) (fun c12 => ?_)
                      · have h := zz_f h c12
                        refine lv_iinc (v := (v3_29 + (nI 1))) (lv' := [(3, .int (v3_29 + (nI 1))), (6, .int v6_29), (5, .int v5_17), (4, .int v4_5), (0, .ref a_t), (1, .int x1), (2, .int x2)]) hx hb dX11_doubts_87 hl (k := 3) rfl rfl (by decide) rfl (fun ls hl => ?_)
                        refine lv_iinc (v := (v6_29 + (nI 1))) (lv' := [(6, .int (v6_29 + (nI 1))), (3, .int (v3_29 + (nI 1))), (5, .int v5_17), (4, .int v4_5), (0, .ref a_t), (1, .int x1), (2, .int x2)]) hx hb dX11_doubts_90 hl (k := 1) rfl rfl (by decide) rfl (fun ls hl => ?_)
                        refine lv_goto (tgt := 29) hx hb dX11_doubts_93 (by decide) ?_
                        exact ih29 (v3_29 + (nI 1)) (v6_29 + (nI 1)) _ _ _ h (hP.sub [0, 1] rfl) (hD.sub [0, 1] rfl rfl) hS (lv_sub hl [0, 2, 3, 1, 4, 5, 6] rfl)
                      · have h := zz_t h c12
                        refine lv_iload_n hx hb dX11_doubts_56 rfl (lv_at hl 6 rfl) ?_
                        refine lv_if_ne (tgt := 65) hx hb dX11_doubts_57 (by decide) (fun c13 => ?_) (fun c13 => ?_)
                        · have h := zz_f h c13
                          refine lv_iload_n hx hb dX11_doubts_65 rfl (lv_at hl 6 rfl) ?_
                          refine lv_iconst (v := (nI 1)) hx hb dX11_doubts_66 rfl ?_
                          refine lv_icmp_ne (tgt := 75) hx hb dX11_doubts_67 (by decide) (fun c14 => ?_) (fun c14 => ?_)
                          · have h := zz_f h c14
                            refine lv_iload_n hx hb dX11_doubts_75 rfl (lv_at hl 6 rfl) ?_
                            refine lv_iconst (v := (nI 2)) hx hb dX11_doubts_76 rfl ?_
                            refine lv_icmp_ne (tgt := 85) hx hb dX11_doubts_77 (by decide) (fun c15 => ?_) (fun c15 => ?_)
                            · have h := zz_f h c15
                              refine lv_iconst (v := (-1 : Int32)) hx hb dX11_doubts_85 rfl ?_
                              have j0_ := Option.some.inj h
                              subst j0_
                              exact W.iret (v := (-1 : Int32)) hx hb hr (fun t ht hW => ⟨⟨_, (), rfl, rfl, zPost.of hP hD hK ht hW [0, 1] rfl rfl rfl⟩, hS.F ht⟩) hS.2.2 dX11_doubts_86
                            · have h := zz_t h c15
                              refine lv_iload hx hb dX11_doubts_80 (lv_at hl 0 rfl) ?_
                              refine lv_goto (tgt := 86) hx hb dX11_doubts_82 (by decide) ?_
                              have j0_ := Option.some.inj h
                              subst j0_
                              exact W.iret (v := v6_29) hx hb hr (fun t ht hW => ⟨⟨_, (), rfl, rfl, zPost.of hP hD hK ht hW [0, 1] rfl rfl rfl⟩, hS.F ht⟩) hS.2.2 dX11_doubts_86
                          · have h := zz_t h c14
                            refine lv_iload hx hb dX11_doubts_70 (lv_at hl 1 rfl) ?_
                            refine lv_goto (tgt := 86) hx hb dX11_doubts_72 (by decide) ?_
                            have j0_ := Option.some.inj h
                            subst j0_
                            exact W.iret (v := v5_17) hx hb hr (fun t ht hW => ⟨⟨_, (), rfl, rfl, zPost.of hP hD hK ht hW [0, 1] rfl rfl rfl⟩, hS.F ht⟩) hS.2.2 dX11_doubts_86
                        · have h := zz_t h c13
                          refine lv_iload hx hb dX11_doubts_60 (lv_at hl 2 rfl) ?_
                          refine lv_goto (tgt := 86) hx hb dX11_doubts_62 (by decide) ?_
                          have j0_ := Option.some.inj h
                          subst j0_
                          exact W.iret (v := v4_5) hx hb hr (fun t ht hW => ⟨⟨_, (), rfl, rfl, zPost.of hP hD hK ht hW [0, 1] rfl rfl rfl⟩, hS.F ht⟩) hS.2.2 dX11_doubts_86
                    · have h := zz_t h c11
                      refine lv_goto (tgt := 90) hx hb dX11_doubts_48 (by decide) ?_
                      refine lv_iinc (v := (v6_29 + (nI 1))) (lv' := [(6, .int (v6_29 + (nI 1))), (5, .int v5_17), (4, .int v4_5), (3, .int v3_29), (0, .ref a_t), (1, .int x1), (2, .int x2)]) hx hb dX11_doubts_90 hl (k := 0) rfl rfl (by decide) rfl (fun ls hl => ?_)
                      refine lv_goto (tgt := 29) hx hb dX11_doubts_93 (by decide) ?_
                      exact ih29 v3_29 (v6_29 + (nI 1)) _ _ _ h (hP.sub [0, 1] rfl) (hD.sub [0, 1] rfl rfl) hS (lv_sub hl [0, 1, 2, 3, 4, 5, 6] rfl)
              exact L29 N v3_17 (nI 1) _ _ _ h hP hD hS hl
        exact L17 N v3_5 (nI 0) _ _ _ h hP hD hS hl
  exact L5 N (nI 0) (nI 0) _ _ _ h hP hD hS hl
/-! RunDeskModel.doubt -/
theorem dX11_doubt_0 : decode cX11_doubt 0 = .ok (.aload_n 0, 1) := by decide +kernel
theorem dX11_doubt_1 : decode cX11_doubt 1 = .ok (.iconst 0, 1) := by decide +kernel
theorem dX11_doubt_2 : decode cX11_doubt 2 = .ok (.putfield 37, 3) := by decide +kernel
theorem dX11_doubt_5 : decode cX11_doubt 5 = .ok (.iload_n 1, 1) := by decide +kernel
theorem dX11_doubt_6 : decode cX11_doubt 6 = .ok (.ifCond .ge 7, 3) := by decide +kernel
theorem dX11_doubt_9 : decode cX11_doubt 9 = .ok (.iconst (-1), 1) := by decide +kernel
theorem dX11_doubt_10 : decode cX11_doubt 10 = .ok (.goto 9, 3) := by decide +kernel
theorem dX11_doubt_13 : decode cX11_doubt 13 = .ok (.aload_n 0, 1) := by decide +kernel
theorem dX11_doubt_14 : decode cX11_doubt 14 = .ok (.iload_n 1, 1) := by decide +kernel
theorem dX11_doubt_15 : decode cX11_doubt 15 = .ok (.iload_n 2, 1) := by decide +kernel
theorem dX11_doubt_16 : decode cX11_doubt 16 = .ok (.invokevirtual 136, 3) := by decide +kernel
theorem dX11_doubt_19 : decode cX11_doubt 19 = .ok (.ireturn, 1) := by decide +kernel
set_option maxRecDepth 20000 in
theorem ggX11_doubt_X11_doubts : GoodIn wsX11_doubt wsX11_doubts := goodIn_sub (List.forall_mem_cons.mpr ⟨List.mem_cons_of_mem _ (List.mem_append_left _ (List.mem_append_left _ (List.mem_of_getElem? (l := wsX11_doubt_r1) (i := 5) rfl))), (List.forall_mem_append.mpr ⟨(List.forall_mem_append.mpr ⟨(List.forall_mem_cons.mpr ⟨List.mem_cons_of_mem _ (List.mem_append_left _ (List.mem_append_left _ (List.mem_of_getElem? (l := wsX11_doubt_r1) (i := 6) rfl))), (List.forall_mem_cons.mpr ⟨List.mem_cons_of_mem _ (List.mem_append_left _ (List.mem_append_left _ (List.mem_of_getElem? (l := wsX11_doubt_r1) (i := 7) rfl))), (List.forall_mem_cons.mpr ⟨List.mem_cons_of_mem _ (List.mem_append_left _ (List.mem_append_left _ (List.mem_of_getElem? (l := wsX11_doubt_r1) (i := 8) rfl))), (List.forall_mem_cons.mpr ⟨List.mem_cons_of_mem _ (List.mem_append_left _ (List.mem_append_left _ (List.mem_of_getElem? (l := wsX11_doubt_r1) (i := 4) rfl))), (List.forall_mem_cons.mpr ⟨List.mem_cons_of_mem _ (List.mem_append_left _ (List.mem_append_left _ (List.mem_of_getElem? (l := wsX11_doubt_r1) (i := 9) rfl))), (List.forall_mem_cons.mpr ⟨List.mem_cons_of_mem _ (List.mem_append_left _ (List.mem_append_left _ (List.mem_of_getElem? (l := wsX11_doubt_r1) (i := 10) rfl))), (List.forall_mem_cons.mpr ⟨List.mem_cons_of_mem _ (List.mem_append_left _ (List.mem_append_left _ (List.mem_of_getElem? (l := wsX11_doubt_r1) (i := 11) rfl))), (List.forall_mem_cons.mpr ⟨List.mem_cons_of_mem _ (List.mem_append_left _ (List.mem_append_left _ (List.mem_of_getElem? (l := wsX11_doubt_r1) (i := 12) rfl))), (List.forall_mem_cons.mpr ⟨List.mem_cons_of_mem _ (List.mem_append_left _ (List.mem_append_left _ (List.mem_of_getElem? (l := wsX11_doubt_r1) (i := 13) rfl))), (List.forall_mem_cons.mpr ⟨List.mem_cons_of_mem _ (List.mem_append_left _ (List.mem_append_left _ (List.mem_of_getElem? (l := wsX11_doubt_r1) (i := 14) rfl))), (List.forall_mem_cons.mpr ⟨List.mem_cons_of_mem _ (List.mem_append_left _ (List.mem_append_left _ (List.mem_of_getElem? (l := wsX11_doubt_r1) (i := 15) rfl))), (List.forall_mem_cons.mpr ⟨List.mem_cons_of_mem _ (List.mem_append_left _ (List.mem_append_left _ (List.mem_of_getElem? (l := wsX11_doubt_r1) (i := 16) rfl))), (List.forall_mem_cons.mpr ⟨List.mem_cons_of_mem _ (List.mem_append_left _ (List.mem_append_left _ (List.mem_of_getElem? (l := wsX11_doubt_r1) (i := 17) rfl))), (List.forall_mem_cons.mpr ⟨List.mem_cons_of_mem _ (List.mem_append_left _ (List.mem_append_left _ (List.mem_of_getElem? (l := wsX11_doubt_r1) (i := 18) rfl))), (List.forall_mem_cons.mpr ⟨List.mem_cons_of_mem _ (List.mem_append_left _ (List.mem_append_left _ (List.mem_of_getElem? (l := wsX11_doubt_r1) (i := 19) rfl))), (List.forall_mem_cons.mpr ⟨List.mem_cons_of_mem _ (List.mem_append_left _ (List.mem_append_left _ (List.mem_of_getElem? (l := wsX11_doubt_r1) (i := 20) rfl))), (List.forall_mem_cons.mpr ⟨List.mem_cons_of_mem _ (List.mem_append_left _ (List.mem_append_left _ (List.mem_of_getElem? (l := wsX11_doubt_r1) (i := 21) rfl))), (List.forall_mem_cons.mpr ⟨List.mem_cons_of_mem _ (List.mem_append_left _ (List.mem_append_left _ (List.mem_of_getElem? (l := wsX11_doubt_r1) (i := 22) rfl))), (List.forall_mem_cons.mpr ⟨List.mem_cons_of_mem _ (List.mem_append_left _ (List.mem_append_left _ (List.mem_of_getElem? (l := wsX11_doubt_r1) (i := 23) rfl))), (List.forall_mem_cons.mpr ⟨List.mem_cons_of_mem _ (List.mem_append_left _ (List.mem_append_right _ (List.mem_append_left _ (List.mem_of_getElem? (l := wsX11_doubt_r2) (i := 0) rfl)))), (List.forall_mem_cons.mpr ⟨List.mem_cons_of_mem _ (List.mem_append_left _ (List.mem_append_right _ (List.mem_append_left _ (List.mem_of_getElem? (l := wsX11_doubt_r2) (i := 1) rfl)))), (List.forall_mem_cons.mpr ⟨List.mem_cons_of_mem _ (List.mem_append_left _ (List.mem_append_right _ (List.mem_append_left _ (List.mem_of_getElem? (l := wsX11_doubt_r2) (i := 2) rfl)))), (List.forall_mem_cons.mpr ⟨List.mem_cons_of_mem _ (List.mem_append_left _ (List.mem_append_right _ (List.mem_append_left _ (List.mem_of_getElem? (l := wsX11_doubt_r2) (i := 3) rfl)))), (List.forall_mem_cons.mpr ⟨List.mem_cons_of_mem _ (List.mem_append_left _ (List.mem_append_right _ (List.mem_append_left _ (List.mem_of_getElem? (l := wsX11_doubt_r2) (i := 4) rfl)))), (fun _ h => nomatch h)⟩)⟩)⟩)⟩)⟩)⟩)⟩)⟩)⟩)⟩)⟩)⟩)⟩)⟩)⟩)⟩)⟩)⟩)⟩)⟩)⟩)⟩)⟩)⟩), (List.forall_mem_append.mpr ⟨(List.forall_mem_cons.mpr ⟨List.mem_cons_of_mem _ (List.mem_append_left _ (List.mem_append_right _ (List.mem_append_left _ (List.mem_of_getElem? (l := wsX11_doubt_r2) (i := 5) rfl)))), (List.forall_mem_cons.mpr ⟨List.mem_cons_of_mem _ (List.mem_append_left _ (List.mem_append_right _ (List.mem_append_left _ (List.mem_of_getElem? (l := wsX11_doubt_r2) (i := 6) rfl)))), (List.forall_mem_cons.mpr ⟨List.mem_cons_of_mem _ (List.mem_append_left _ (List.mem_append_right _ (List.mem_append_left _ (List.mem_of_getElem? (l := wsX11_doubt_r2) (i := 7) rfl)))), (List.forall_mem_cons.mpr ⟨List.mem_cons_of_mem _ (List.mem_append_left _ (List.mem_append_right _ (List.mem_append_left _ (List.mem_of_getElem? (l := wsX11_doubt_r2) (i := 8) rfl)))), (List.forall_mem_cons.mpr ⟨List.mem_cons_of_mem _ (List.mem_append_left _ (List.mem_append_right _ (List.mem_append_left _ (List.mem_of_getElem? (l := wsX11_doubt_r2) (i := 9) rfl)))), (List.forall_mem_cons.mpr ⟨List.mem_cons_of_mem _ (List.mem_append_left _ (List.mem_append_right _ (List.mem_append_left _ (List.mem_of_getElem? (l := wsX11_doubt_r2) (i := 10) rfl)))), (List.forall_mem_cons.mpr ⟨List.mem_cons_of_mem _ (List.mem_append_left _ (List.mem_append_right _ (List.mem_append_left _ (List.mem_of_getElem? (l := wsX11_doubt_r2) (i := 11) rfl)))), (List.forall_mem_cons.mpr ⟨List.mem_cons_of_mem _ (List.mem_append_left _ (List.mem_append_right _ (List.mem_append_left _ (List.mem_of_getElem? (l := wsX11_doubt_r2) (i := 12) rfl)))), (List.forall_mem_cons.mpr ⟨List.mem_cons_of_mem _ (List.mem_append_left _ (List.mem_append_right _ (List.mem_append_left _ (List.mem_of_getElem? (l := wsX11_doubt_r2) (i := 13) rfl)))), (List.forall_mem_cons.mpr ⟨List.mem_cons_of_mem _ (List.mem_append_left _ (List.mem_append_right _ (List.mem_append_left _ (List.mem_of_getElem? (l := wsX11_doubt_r2) (i := 14) rfl)))), (List.forall_mem_cons.mpr ⟨List.mem_cons_of_mem _ (List.mem_append_left _ (List.mem_append_right _ (List.mem_append_left _ (List.mem_of_getElem? (l := wsX11_doubt_r2) (i := 15) rfl)))), (List.forall_mem_cons.mpr ⟨List.mem_cons_of_mem _ (List.mem_append_left _ (List.mem_append_right _ (List.mem_append_left _ (List.mem_of_getElem? (l := wsX11_doubt_r2) (i := 16) rfl)))), (List.forall_mem_cons.mpr ⟨List.mem_cons_of_mem _ (List.mem_append_left _ (List.mem_append_right _ (List.mem_append_left _ (List.mem_of_getElem? (l := wsX11_doubt_r2) (i := 17) rfl)))), (List.forall_mem_cons.mpr ⟨List.mem_cons_of_mem _ (List.mem_append_left _ (List.mem_append_right _ (List.mem_append_left _ (List.mem_of_getElem? (l := wsX11_doubt_r2) (i := 18) rfl)))), (List.forall_mem_cons.mpr ⟨List.mem_cons_of_mem _ (List.mem_append_left _ (List.mem_append_right _ (List.mem_append_left _ (List.mem_of_getElem? (l := wsX11_doubt_r2) (i := 19) rfl)))), (List.forall_mem_cons.mpr ⟨List.mem_cons_of_mem _ (List.mem_append_left _ (List.mem_append_right _ (List.mem_append_left _ (List.mem_of_getElem? (l := wsX11_doubt_r2) (i := 20) rfl)))), (List.forall_mem_cons.mpr ⟨List.mem_cons_of_mem _ (List.mem_append_left _ (List.mem_append_right _ (List.mem_append_left _ (List.mem_of_getElem? (l := wsX11_doubt_r2) (i := 21) rfl)))), (List.forall_mem_cons.mpr ⟨List.mem_cons_of_mem _ (List.mem_append_left _ (List.mem_append_right _ (List.mem_append_left _ (List.mem_of_getElem? (l := wsX11_doubt_r2) (i := 22) rfl)))), (List.forall_mem_cons.mpr ⟨List.mem_cons_of_mem _ (List.mem_append_left _ (List.mem_append_right _ (List.mem_append_left _ (List.mem_of_getElem? (l := wsX11_doubt_r2) (i := 23) rfl)))), (List.forall_mem_cons.mpr ⟨List.mem_cons_of_mem _ (List.mem_append_left _ (List.mem_append_right _ (List.mem_append_right _ (List.mem_of_getElem? (l := wsX11_doubt_r3) (i := 0) rfl)))), (List.forall_mem_cons.mpr ⟨List.mem_cons_of_mem _ (List.mem_append_left _ (List.mem_append_right _ (List.mem_append_right _ (List.mem_of_getElem? (l := wsX11_doubt_r3) (i := 1) rfl)))), (List.forall_mem_cons.mpr ⟨List.mem_cons_of_mem _ (List.mem_append_left _ (List.mem_append_right _ (List.mem_append_right _ (List.mem_of_getElem? (l := wsX11_doubt_r3) (i := 2) rfl)))), (List.forall_mem_cons.mpr ⟨List.mem_cons_of_mem _ (List.mem_append_left _ (List.mem_append_right _ (List.mem_append_right _ (List.mem_of_getElem? (l := wsX11_doubt_r3) (i := 3) rfl)))), (List.forall_mem_cons.mpr ⟨List.mem_cons_of_mem _ (List.mem_append_left _ (List.mem_append_right _ (List.mem_append_right _ (List.mem_of_getElem? (l := wsX11_doubt_r3) (i := 4) rfl)))), (fun _ h => nomatch h)⟩)⟩)⟩)⟩)⟩)⟩)⟩)⟩)⟩)⟩)⟩)⟩)⟩)⟩)⟩)⟩)⟩)⟩)⟩)⟩)⟩)⟩)⟩)⟩), (List.forall_mem_cons.mpr ⟨List.mem_cons_of_mem _ (List.mem_append_left _ (List.mem_append_right _ (List.mem_append_right _ (List.mem_of_getElem? (l := wsX11_doubt_r3) (i := 5) rfl)))), (List.forall_mem_cons.mpr ⟨List.mem_cons_of_mem _ (List.mem_append_left _ (List.mem_append_right _ (List.mem_append_right _ (List.mem_of_getElem? (l := wsX11_doubt_r3) (i := 6) rfl)))), (List.forall_mem_cons.mpr ⟨List.mem_cons_of_mem _ (List.mem_append_left _ (List.mem_append_right _ (List.mem_append_right _ (List.mem_of_getElem? (l := wsX11_doubt_r3) (i := 7) rfl)))), (List.forall_mem_cons.mpr ⟨List.mem_cons_of_mem _ (List.mem_append_left _ (List.mem_append_right _ (List.mem_append_right _ (List.mem_of_getElem? (l := wsX11_doubt_r3) (i := 8) rfl)))), (List.forall_mem_cons.mpr ⟨List.mem_cons_of_mem _ (List.mem_append_left _ (List.mem_append_right _ (List.mem_append_right _ (List.mem_of_getElem? (l := wsX11_doubt_r3) (i := 9) rfl)))), (List.forall_mem_cons.mpr ⟨List.mem_cons_of_mem _ (List.mem_append_left _ (List.mem_append_right _ (List.mem_append_right _ (List.mem_of_getElem? (l := wsX11_doubt_r3) (i := 10) rfl)))), (List.forall_mem_cons.mpr ⟨List.mem_cons_of_mem _ (List.mem_append_left _ (List.mem_append_right _ (List.mem_append_right _ (List.mem_of_getElem? (l := wsX11_doubt_r3) (i := 11) rfl)))), (List.forall_mem_cons.mpr ⟨List.mem_cons_of_mem _ (List.mem_append_left _ (List.mem_append_right _ (List.mem_append_right _ (List.mem_of_getElem? (l := wsX11_doubt_r3) (i := 12) rfl)))), (List.forall_mem_cons.mpr ⟨List.mem_cons_of_mem _ (List.mem_append_left _ (List.mem_append_right _ (List.mem_append_right _ (List.mem_of_getElem? (l := wsX11_doubt_r3) (i := 13) rfl)))), (List.forall_mem_cons.mpr ⟨List.mem_cons_of_mem _ (List.mem_append_left _ (List.mem_append_right _ (List.mem_append_right _ (List.mem_of_getElem? (l := wsX11_doubt_r3) (i := 14) rfl)))), (List.forall_mem_cons.mpr ⟨List.mem_cons_of_mem _ (List.mem_append_left _ (List.mem_append_right _ (List.mem_append_right _ (List.mem_of_getElem? (l := wsX11_doubt_r3) (i := 15) rfl)))), (fun _ h => nomatch h)⟩)⟩)⟩)⟩)⟩)⟩)⟩)⟩)⟩)⟩)⟩)⟩)⟩), (fun _ h => List.mem_cons_of_mem _ (List.mem_append_right _ (h)))⟩)⟩) (by decide +kernel)
set_option maxRecDepth 20000 in
theorem gX11_doubt_X11_doubts : GoodIn wsX11_doubt (wsV RX11 136 RX11 yX11_doubts wsX11_doubts) := goodIn_app (goodIn_of _ (by decide +kernel)) ggX11_doubt_X11_doubts
theorem kX11_doubt_0 : (.fieldLink RX11 37 "RunDeskModel" "thrown" "I" : Cond) ∈ wsX11_doubt := List.mem_of_getElem? (i := 1) (by decide +kernel)
theorem qX11_doubt_X11 : ∀ w ∈ wsX110, w ∈ wsX11_doubt := fun _ h => List.mem_cons_of_mem _ (List.mem_append_right _ (h))
set_option maxHeartbeats 4000000 in
set_option maxRecDepth 100000 in
theorem mX11_doubt (l : Launch) (D : va_G) (cB cI cZ : ClassId) (a_t : Nat) (a_t_now : Nat) (a_t_kept : Nat) (a_t_text : Nat) (a_t_passing : Nat) (a_t_order : Nat) (a_t_times : Nat) (t_thrown : Int32) (t_isKept : Int32) (t_length : Int32) (t_at : Int32) (t_fault : Int32) (t_open : Int32) (t_asked : Int32) (t_byGun : Int32) (t_prizeMost : Int32) (t_listed : Int32) (t_now : Nat → Int32) (sz : Nat) (x1 : Int32) (x2 : Int32) (N : Nat) (r0 : Int32) (t_thrown' : Int32) (h : fX11_doubt N t_thrown t_now x1 x2 = some (r0, t_thrown')) : Met l yX11_doubt wsX11_doubt ({ frames := 7, cells := 0, slots := 0, locals := 169 } : Room) (va_Pc [.ref a_t, .int x1, .int x2] (zPre D (zT cB cI cZ) [(a_t, .inr (11, [.int t_thrown, .ref a_t_now, .ref a_t_kept, .int t_isKept, .ref a_t_text, .int t_length, .ref a_t_passing, .int t_at, .int t_fault, .int t_open, .int t_asked, .int t_byGun, .int t_prizeMost, .ref a_t_order, .ref a_t_times, .int t_listed])), (a_t_now, .inl (cI, 1562, .inl t_now))] sz)) (zQi r0 D (zT cB cI cZ) [(a_t, .inr (11, [.int t_thrown', .ref a_t_now, .ref a_t_kept, .int t_isKept, .ref a_t_text, .int t_length, .ref a_t_passing, .int t_at, .int t_fault, .int t_open, .int t_asked, .int t_byGun, .int t_prizeMost, .ref a_t_order, .ref a_t_times, .int t_listed])), (a_t_now, .inl (cI, 1562, .inl t_now))] (va_A [(a_t, .inr (11, [.int t_thrown, .ref a_t_now, .ref a_t_kept, .int t_isKept, .ref a_t_text, .int t_length, .ref a_t_passing, .int t_at, .int t_fault, .int t_open, .int t_asked, .int t_byGun, .int t_prizeMost, .ref a_t_order, .ref a_t_times, .int t_listed])), (a_t_now, .inl (cI, 1562, .inl t_now))] sz)) 0 0 (va_A [(a_t, .inr (11, [.int t_thrown, .ref a_t_now, .ref a_t_kept, .int t_isKept, .ref a_t_text, .int t_length, .ref a_t_passing, .int t_at, .int t_fault, .int t_open, .int t_asked, .int t_byGun, .int t_prizeMost, .ref a_t_order, .ref a_t_times, .int t_listed])), (a_t_now, .inl (cI, 1562, .inl t_now))] sz) := by
  refine Met.ofW (cc := cX11_doubt) (maxL := 3) (ret := (some .int)) (by decide) rfl ?_
  intro p e s m args below meth c s₁ B hml hv
  obtain ⟨rfl, hsz, hP, hK, hN, hZ, hD0⟩ := hv
  have hx := B.exec
  have hb := B.bytes
  have hr := B.returns
  have hts := atoms_spec (ws := wsX11_doubt) B.pre
  have hown : s.vm.findClass RX11 = some m.cls := findClass_of_methodNamed B.named
  have hlocks := B.notSynchronized
  subst hsz
  have hD := hD0.self (sz := s.heap.size)
  generalize hAe : va_A [(a_t, .inr (11, [.int t_thrown, .ref a_t_now, .ref a_t_kept, .int t_isKept, .ref a_t_text, .int t_length, .ref a_t_passing, .int t_at, .int t_fault, .int t_open, .int t_asked, .int t_byGun, .int t_prizeMost, .ref a_t_order, .ref a_t_times, .int t_listed])), (a_t_now, .inl (cI, 1562, .inl t_now))] s.heap.size = A at hD hZ ⊢
  have hA : ∀ q : Nat, s.heap.size ≤ q → A q := fun q h => by rw [← hAe]; exact Or.inr h
  have hS : va_S A s.heap s.heap [] := va_S.rf
  have hl := lv_entry ([.ref a_t, .int x1, .int x2]) (n := 3) (Nat.le_of_ble_eq_true rfl)
  rw [lg_entry_eq]
  generalize (lg_sl ([.ref a_t, .int x1, .int x2]) ++ List.replicate (3 - (lg_sl ([.ref a_t, .int x1, .int x2])).length) Slot.unset).toArray = ls at hl ⊢
  have hl : lv_has ls 3 [(0, .ref a_t), (1, .int x1), (2, .int x2)] := hl
  unfold fX11_doubt at h
  refine lv_aload_n hx hb dX11_doubt_0 rfl (lv_at hl 0 rfl) ?_
  refine lv_iconst (v := (nI 0)) hx hb dX11_doubt_1 rfl ?_
  refine va_put (D := D) (ci := 11) (ty := .int) (C := RX11) (T := TX11) (N := 16) hx hb hts qX11_doubt_X11 tyX11 tyX11_ok nmX11 hown hK hP hD hS 0 rfl rfl 0 (by decide) (hts _ kX11_doubt_0) (fun _ h9 => h9) rfl (by decide +kernel) rfl (by first | rfl | exact zz_fit) (Nat.le_of_ble_eq_true rfl) dX11_doubt_2 (fun H locs hP hD hS => ?_)
  have hP : va_P D vwCl [(a_t, .inr (11, [.int (nI 0), .ref a_t_now, .ref a_t_kept, .int t_isKept, .ref a_t_text, .int t_length, .ref a_t_passing, .int t_at, .int t_fault, .int t_open, .int t_asked, .int t_byGun, .int t_prizeMost, .ref a_t_order, .ref a_t_times, .int t_listed])), (a_t_now, .inl (cI, 1562, .inl t_now))] H := hP
  have hD : va_D A [(a_t, .inr (11, [.int (nI 0), .ref a_t_now, .ref a_t_kept, .int t_isKept, .ref a_t_text, .int t_length, .ref a_t_passing, .int t_at, .int t_fault, .int t_open, .int t_asked, .int t_byGun, .int t_prizeMost, .ref a_t_order, .ref a_t_times, .int t_listed])), (a_t_now, .inl (cI, 1562, .inl t_now))] := hD
  refine lv_iload_n hx hb dX11_doubt_5 rfl (lv_at hl 1 rfl) ?_
  refine lv_if_ge (tgt := 13) hx hb dX11_doubt_6 (by decide) (fun c1 => ?_) (fun c1 => ?_)
  · have h := zz_t h c1
    refine lv_aload_n hx hb dX11_doubt_13 rfl (lv_at hl 0 rfl) ?_
    refine lv_iload_n hx hb dX11_doubt_14 rfl (lv_at hl 1 rfl) ?_
    refine lv_iload_n hx hb dX11_doubt_15 rfl (lv_at hl 2 rfl) ?_
    obtain ⟨r2, e3, h⟩ := zz_b h
    refine zVi (As := [.int x1, .int x2]) (rest := []) (C := RX11) (wr := []) [0, 1] [] 0 ⟨hx, hb, hml, hown, hts⟩ (mX11_doubts l D cB cI cZ a_t a_t_now a_t_kept a_t_text a_t_passing a_t_order a_t_times (nI 0) t_isKept t_length t_at t_fault t_open t_asked t_byGun t_prizeMost t_listed t_now H.size x1 x2 N r2 e3) (cwV 2 hts gX11_doubt_X11_doubts rfl rfl rfl (by decide +kernel) ⟨Nat.le_of_ble_eq_true rfl, Nat.le_of_ble_eq_true rfl⟩) hK hN hZ hP hD hS hA rfl rfl rfl rfl rfl rfl rfl rfl hl.1 rfl (lv_room (Nat.le_of_ble_eq_true rfl)) dX11_doubt_16 ⟨Nat.le_of_ble_eq_true rfl, Nat.le_of_ble_eq_true rfl⟩ (fun H locs hP hD hS => ?_)
    have hP : va_P D vwCl [(a_t, .inr (11, [.int (nI 0), .ref a_t_now, .ref a_t_kept, .int t_isKept, .ref a_t_text, .int t_length, .ref a_t_passing, .int t_at, .int t_fault, .int t_open, .int t_asked, .int t_byGun, .int t_prizeMost, .ref a_t_order, .ref a_t_times, .int t_listed])), (a_t_now, .inl (cI, 1562, .inl t_now))] H := hP
    have hD : va_D A [(a_t, .inr (11, [.int (nI 0), .ref a_t_now, .ref a_t_kept, .int t_isKept, .ref a_t_text, .int t_length, .ref a_t_passing, .int t_at, .int t_fault, .int t_open, .int t_asked, .int t_byGun, .int t_prizeMost, .ref a_t_order, .ref a_t_times, .int t_listed])), (a_t_now, .inl (cI, 1562, .inl t_now))] := hD
    obtain ⟨j0_, g_⟩ := Prod.mk.inj (Option.some.inj h)
    have j1_ := g_
    subst j0_
    subst j1_
    exact W.iret (v := r2) hx hb hr (fun t ht hW => ⟨⟨_, (), rfl, rfl, zPost.of hP hD hK ht hW [0, 1] rfl rfl rfl⟩, hS.F ht⟩) hS.2.2 dX11_doubt_19
  · have h := zz_f h c1
    refine lv_iconst (v := (-1 : Int32)) hx hb dX11_doubt_9 rfl ?_
    refine lv_goto (tgt := 19) hx hb dX11_doubt_10 (by decide) ?_
    obtain ⟨j0_, g_⟩ := Prod.mk.inj (Option.some.inj h)
    have j1_ := g_
    subst j0_
    subst j1_
    exact W.iret (v := (-1 : Int32)) hx hb hr (fun t ht hW => ⟨⟨_, (), rfl, rfl, zPost.of hP hD hK ht hW [0, 1] rfl rfl rfl⟩, hS.F ht⟩) hS.2.2 dX11_doubt_19
/-! RunDeskModel.passes -/
theorem dX11_passes_0 : decode cX11_passes 0 = .ok (.aload_n 0, 1) := by decide +kernel
theorem dX11_passes_1 : decode cX11_passes 1 = .ok (.aload_n 0, 1) := by decide +kernel
theorem dX11_passes_2 : decode cX11_passes 2 = .ok (.iload_n 1, 1) := by decide +kernel
theorem dX11_passes_3 : decode cX11_passes 3 = .ok (.iconst 5, 1) := by decide +kernel
theorem dX11_passes_4 : decode cX11_passes 4 = .ok (.invokevirtual 62, 3) := by decide +kernel
theorem dX11_passes_7 : decode cX11_passes 7 = .ok (.invokevirtual 79, 3) := by decide +kernel
theorem dX11_passes_10 : decode cX11_passes 10 = .ok (.istore_n 3, 1) := by decide +kernel
theorem dX11_passes_11 : decode cX11_passes 11 = .ok (.iload_n 3, 1) := by decide +kernel
theorem dX11_passes_12 : decode cX11_passes 12 = .ok (.iconst (-1), 1) := by decide +kernel
theorem dX11_passes_13 : decode cX11_passes 13 = .ok (.if_icmp .ne 7, 3) := by decide +kernel
theorem dX11_passes_16 : decode cX11_passes 16 = .ok (.iconst (-1), 1) := by decide +kernel
theorem dX11_passes_17 : decode cX11_passes 17 = .ok (.goto 20, 3) := by decide +kernel
theorem dX11_passes_20 : decode cX11_passes 20 = .ok (.iload_n 3, 1) := by decide +kernel
theorem dX11_passes_21 : decode cX11_passes 21 = .ok (.aload_n 0, 1) := by decide +kernel
theorem dX11_passes_22 : decode cX11_passes 22 = .ok (.iload_n 2, 1) := by decide +kernel
theorem dX11_passes_23 : decode cX11_passes 23 = .ok (.iconst 0, 1) := by decide +kernel
theorem dX11_passes_24 : decode cX11_passes 24 = .ok (.invokevirtual 56, 3) := by decide +kernel
theorem dX11_passes_27 : decode cX11_passes 27 = .ok (.aload_n 0, 1) := by decide +kernel
theorem dX11_passes_28 : decode cX11_passes 28 = .ok (.iload_n 1, 1) := by decide +kernel
theorem dX11_passes_29 : decode cX11_passes 29 = .ok (.iconst 1, 1) := by decide +kernel
theorem dX11_passes_30 : decode cX11_passes 30 = .ok (.invokevirtual 62, 3) := by decide +kernel
theorem dX11_passes_33 : decode cX11_passes 33 = .ok (.invokestatic 105, 3) := by decide +kernel
theorem dX11_passes_36 : decode cX11_passes 36 = .ok (.iadd, 1) := by decide +kernel
theorem dX11_passes_37 : decode cX11_passes 37 = .ok (.ireturn, 1) := by decide +kernel
set_option maxRecDepth 20000 in
theorem ggX11_passes_X11_of : GoodIn wsX11_passes wsX11_of := goodIn_sub (List.forall_mem_cons.mpr ⟨List.mem_cons_of_mem _ (List.mem_append_left _ (List.mem_of_getElem? (i := 4) rfl)), (List.forall_mem_append.mpr ⟨(List.forall_mem_cons.mpr ⟨List.mem_cons_of_mem _ (List.mem_append_left _ (List.mem_of_getElem? (i := 5) rfl)), (fun _ h => nomatch h)⟩), (fun _ h => List.mem_cons_of_mem _ (List.mem_append_right _ (h)))⟩)⟩) (by decide +kernel)
set_option maxRecDepth 20000 in
theorem gX11_passes_X11_of : GoodIn wsX11_passes (wsV RX11 62 RX11 yX11_of wsX11_of) := goodIn_app (goodIn_of _ (by decide +kernel)) ggX11_passes_X11_of
set_option maxRecDepth 20000 in
theorem ggX11_passes_X11_gunOf : GoodIn wsX11_passes wsX11_gunOf := goodIn_sub (List.forall_mem_cons.mpr ⟨List.mem_cons_of_mem _ (List.mem_append_left _ (List.mem_of_getElem? (i := 9) rfl)), (List.forall_mem_append.mpr ⟨(List.forall_mem_cons.mpr ⟨List.mem_cons_of_mem _ (List.mem_append_left _ (List.mem_of_getElem? (i := 5) rfl)), (fun _ h => nomatch h)⟩), (fun _ h => List.mem_cons_of_mem _ (List.mem_append_right _ (h)))⟩)⟩) (by decide +kernel)
set_option maxRecDepth 20000 in
theorem gX11_passes_X11_gunOf : GoodIn wsX11_passes (wsV RX11 79 RX11 yX11_gunOf wsX11_gunOf) := goodIn_app (goodIn_of _ (by decide +kernel)) ggX11_passes_X11_gunOf
set_option maxRecDepth 20000 in
theorem ggX11_passes_X11_ofMat : GoodIn wsX11_passes wsX11_ofMat := goodIn_sub (List.forall_mem_cons.mpr ⟨List.mem_cons_of_mem _ (List.mem_append_left _ (List.mem_of_getElem? (i := 13) rfl)), (List.forall_mem_append.mpr ⟨(List.forall_mem_cons.mpr ⟨List.mem_cons_of_mem _ (List.mem_append_left _ (List.mem_of_getElem? (i := 5) rfl)), (fun _ h => nomatch h)⟩), (fun _ h => List.mem_cons_of_mem _ (List.mem_append_right _ (h)))⟩)⟩) (by decide +kernel)
set_option maxRecDepth 20000 in
theorem gX11_passes_X11_ofMat : GoodIn wsX11_passes (wsV RX11 56 RX11 yX11_ofMat wsX11_ofMat) := goodIn_app (goodIn_of _ (by decide +kernel)) ggX11_passes_X11_ofMat
set_option maxRecDepth 20000 in
theorem ggX11_passes_X11_made : GoodIn wsX11_passes wsX11_made := goodIn_sub (List.forall_mem_cons.mpr ⟨List.mem_cons_of_mem _ (List.mem_append_left _ (List.mem_of_getElem? (i := 16) rfl)), (List.forall_mem_cons.mpr ⟨List.mem_cons_of_mem _ (List.mem_append_left _ (List.mem_of_getElem? (i := 17) rfl)), (fun _ h => nomatch h)⟩)⟩) (by decide +kernel)
set_option maxRecDepth 20000 in
theorem gX11_passes_X11_made : GoodIn wsX11_passes (va_wsS RX11 105 yX11_made wsX11_made) := goodIn_app (goodIn_of _ (by decide +kernel)) ggX11_passes_X11_made
set_option maxHeartbeats 4000000 in
set_option maxRecDepth 100000 in
theorem mX11_passes (l : Launch) (D : va_G) (cB cI cZ : ClassId) (a_t : Nat) (a_t_now : Nat) (a_t_kept : Nat) (a_t_text : Nat) (a_t_passing : Nat) (a_t_order : Nat) (a_t_times : Nat) (t_thrown : Int32) (t_isKept : Int32) (t_length : Int32) (t_at : Int32) (t_fault : Int32) (t_open : Int32) (t_asked : Int32) (t_byGun : Int32) (t_prizeMost : Int32) (t_listed : Int32) (t_now : Nat → Int32) (sz : Nat) (x1 : Int32) (x2 : Int32) (r0 : Int32) (h : fX11_passes t_now x1 x2 = some (r0)) : Met l yX11_passes wsX11_passes ({ frames := 1, cells := 0, slots := 0, locals := 22 } : Room) (va_Pc [.ref a_t, .int x1, .int x2] (zPre D (zT cB cI cZ) [(a_t, .inr (11, [.int t_thrown, .ref a_t_now, .ref a_t_kept, .int t_isKept, .ref a_t_text, .int t_length, .ref a_t_passing, .int t_at, .int t_fault, .int t_open, .int t_asked, .int t_byGun, .int t_prizeMost, .ref a_t_order, .ref a_t_times, .int t_listed])), (a_t_now, .inl (cI, 1562, .inl t_now))] sz)) (zQi r0 D (zT cB cI cZ) [(a_t, .inr (11, [.int t_thrown, .ref a_t_now, .ref a_t_kept, .int t_isKept, .ref a_t_text, .int t_length, .ref a_t_passing, .int t_at, .int t_fault, .int t_open, .int t_asked, .int t_byGun, .int t_prizeMost, .ref a_t_order, .ref a_t_times, .int t_listed])), (a_t_now, .inl (cI, 1562, .inl t_now))] (va_A [(a_t, .inr (11, [.int t_thrown, .ref a_t_now, .ref a_t_kept, .int t_isKept, .ref a_t_text, .int t_length, .ref a_t_passing, .int t_at, .int t_fault, .int t_open, .int t_asked, .int t_byGun, .int t_prizeMost, .ref a_t_order, .ref a_t_times, .int t_listed])), (a_t_now, .inl (cI, 1562, .inl t_now))] sz)) 0 0 (va_A [(a_t, .inr (11, [.int t_thrown, .ref a_t_now, .ref a_t_kept, .int t_isKept, .ref a_t_text, .int t_length, .ref a_t_passing, .int t_at, .int t_fault, .int t_open, .int t_asked, .int t_byGun, .int t_prizeMost, .ref a_t_order, .ref a_t_times, .int t_listed])), (a_t_now, .inl (cI, 1562, .inl t_now))] sz) := by
  refine Met.ofW (cc := cX11_passes) (maxL := 4) (ret := (some .int)) (by decide) rfl ?_
  intro p e s m args below meth c s₁ B hml hv
  obtain ⟨rfl, hsz, hP, hK, hN, hZ, hD0⟩ := hv
  have hx := B.exec
  have hb := B.bytes
  have hr := B.returns
  have hts := atoms_spec (ws := wsX11_passes) B.pre
  have hown : s.vm.findClass RX11 = some m.cls := findClass_of_methodNamed B.named
  have hlocks := B.notSynchronized
  subst hsz
  have hD := hD0.self (sz := s.heap.size)
  generalize hAe : va_A [(a_t, .inr (11, [.int t_thrown, .ref a_t_now, .ref a_t_kept, .int t_isKept, .ref a_t_text, .int t_length, .ref a_t_passing, .int t_at, .int t_fault, .int t_open, .int t_asked, .int t_byGun, .int t_prizeMost, .ref a_t_order, .ref a_t_times, .int t_listed])), (a_t_now, .inl (cI, 1562, .inl t_now))] s.heap.size = A at hD hZ ⊢
  have hA : ∀ q : Nat, s.heap.size ≤ q → A q := fun q h => by rw [← hAe]; exact Or.inr h
  have hS : va_S A s.heap s.heap [] := va_S.rf
  have hl := lv_entry ([.ref a_t, .int x1, .int x2]) (n := 4) (Nat.le_of_ble_eq_true rfl)
  rw [lg_entry_eq]
  generalize (lg_sl ([.ref a_t, .int x1, .int x2]) ++ List.replicate (4 - (lg_sl ([.ref a_t, .int x1, .int x2])).length) Slot.unset).toArray = ls at hl ⊢
  have hl : lv_has ls 4 [(0, .ref a_t), (1, .int x1), (2, .int x2)] := hl
  unfold fX11_passes at h
  refine lv_aload_n hx hb dX11_passes_0 rfl (lv_at hl 0 rfl) ?_
  refine lv_aload_n hx hb dX11_passes_1 rfl (lv_at hl 0 rfl) ?_
  refine lv_iload_n hx hb dX11_passes_2 rfl (lv_at hl 1 rfl) ?_
  refine lv_iconst (v := (nI 5)) hx hb dX11_passes_3 rfl ?_
  obtain ⟨r1, e2, h⟩ := zz_b h
  refine zVi (As := [.int x1, .int (nI 5)]) (rest := [.ref a_t]) (C := RX11) (wr := []) [0, 1] [] 0 ⟨hx, hb, hml, hown, hts⟩ (mX11_of l D cB cI cZ a_t a_t_now a_t_kept a_t_text a_t_passing a_t_order a_t_times t_thrown t_isKept t_length t_at t_fault t_open t_asked t_byGun t_prizeMost t_listed t_now s.heap.size x1 (nI 5) r1 e2) (cwV 2 hts gX11_passes_X11_of rfl rfl rfl (by decide +kernel) ⟨Nat.le_of_ble_eq_true rfl, Nat.le_of_ble_eq_true rfl⟩) hK hN hZ hP hD hS hA rfl rfl rfl rfl rfl rfl rfl rfl hl.1 rfl (lv_room (Nat.le_of_ble_eq_true rfl)) dX11_passes_4 ⟨Nat.le_of_ble_eq_true rfl, Nat.le_of_ble_eq_true rfl⟩ (fun H locs hP hD hS => ?_)
  have hP : va_P D vwCl [(a_t, .inr (11, [.int t_thrown, .ref a_t_now, .ref a_t_kept, .int t_isKept, .ref a_t_text, .int t_length, .ref a_t_passing, .int t_at, .int t_fault, .int t_open, .int t_asked, .int t_byGun, .int t_prizeMost, .ref a_t_order, .ref a_t_times, .int t_listed])), (a_t_now, .inl (cI, 1562, .inl t_now))] H := hP
  have hD : va_D A [(a_t, .inr (11, [.int t_thrown, .ref a_t_now, .ref a_t_kept, .int t_isKept, .ref a_t_text, .int t_length, .ref a_t_passing, .int t_at, .int t_fault, .int t_open, .int t_asked, .int t_byGun, .int t_prizeMost, .ref a_t_order, .ref a_t_times, .int t_listed])), (a_t_now, .inl (cI, 1562, .inl t_now))] := hD
  obtain ⟨r3, e4, h⟩ := zz_b h
  refine zVi (As := [.int r1]) (rest := []) (C := RX11) (wr := []) [0, 1] [] 0 ⟨hx, hb, hml, hown, hts⟩ (mX11_gunOf l D cB cI cZ a_t a_t_now a_t_kept a_t_text a_t_passing a_t_order a_t_times t_thrown t_isKept t_length t_at t_fault t_open t_asked t_byGun t_prizeMost t_listed t_now H.size r1 r3 e4) (cwV 1 hts gX11_passes_X11_gunOf rfl rfl rfl (by decide +kernel) ⟨Nat.le_of_ble_eq_true rfl, Nat.le_of_ble_eq_true rfl⟩) hK hN hZ hP hD hS hA rfl rfl rfl rfl rfl rfl rfl rfl hl.1 rfl (lv_room (Nat.le_of_ble_eq_true rfl)) dX11_passes_7 ⟨Nat.le_of_ble_eq_true rfl, Nat.le_of_ble_eq_true rfl⟩ (fun H locs hP hD hS => ?_)
  have hP : va_P D vwCl [(a_t, .inr (11, [.int t_thrown, .ref a_t_now, .ref a_t_kept, .int t_isKept, .ref a_t_text, .int t_length, .ref a_t_passing, .int t_at, .int t_fault, .int t_open, .int t_asked, .int t_byGun, .int t_prizeMost, .ref a_t_order, .ref a_t_times, .int t_listed])), (a_t_now, .inl (cI, 1562, .inl t_now))] H := hP
  have hD : va_D A [(a_t, .inr (11, [.int t_thrown, .ref a_t_now, .ref a_t_kept, .int t_isKept, .ref a_t_text, .int t_length, .ref a_t_passing, .int t_at, .int t_fault, .int t_open, .int t_asked, .int t_byGun, .int t_prizeMost, .ref a_t_order, .ref a_t_times, .int t_listed])), (a_t_now, .inl (cI, 1562, .inl t_now))] := hD
  refine lv_istore_n (lv' := [(3, .int r3), (0, .ref a_t), (1, .int x1), (2, .int x2)]) hx hb dX11_passes_10 rfl hl (by decide) rfl (fun ls hl => ?_)
  refine lv_iload_n hx hb dX11_passes_11 rfl (lv_at hl 0 rfl) ?_
  refine lv_iconst (v := (-1 : Int32)) hx hb dX11_passes_12 rfl ?_
  refine lv_icmp_ne (tgt := 20) hx hb dX11_passes_13 (by decide) (fun c5 => ?_) (fun c5 => ?_)
  · have h := zz_f h c5
    refine lv_iload_n hx hb dX11_passes_20 rfl (lv_at hl 0 rfl) ?_
    refine lv_aload_n hx hb dX11_passes_21 rfl (lv_at hl 1 rfl) ?_
    refine lv_iload_n hx hb dX11_passes_22 rfl (lv_at hl 3 rfl) ?_
    refine lv_iconst (v := (nI 0)) hx hb dX11_passes_23 rfl ?_
    obtain ⟨r6, e7, h⟩ := zz_b h
    refine zVi (As := [.int x2, .int (nI 0)]) (rest := [.int r3]) (C := RX11) (wr := []) [0, 1] [] 0 ⟨hx, hb, hml, hown, hts⟩ (mX11_ofMat l D cB cI cZ a_t a_t_now a_t_kept a_t_text a_t_passing a_t_order a_t_times t_thrown t_isKept t_length t_at t_fault t_open t_asked t_byGun t_prizeMost t_listed t_now H.size x2 (nI 0) r6 e7) (cwV 2 hts gX11_passes_X11_ofMat rfl rfl rfl (by decide +kernel) ⟨Nat.le_of_ble_eq_true rfl, Nat.le_of_ble_eq_true rfl⟩) hK hN hZ hP hD hS hA rfl rfl rfl rfl rfl rfl rfl rfl hl.1 rfl (lv_room (Nat.le_of_ble_eq_true rfl)) dX11_passes_24 ⟨Nat.le_of_ble_eq_true rfl, Nat.le_of_ble_eq_true rfl⟩ (fun H locs hP hD hS => ?_)
    have hP : va_P D vwCl [(a_t, .inr (11, [.int t_thrown, .ref a_t_now, .ref a_t_kept, .int t_isKept, .ref a_t_text, .int t_length, .ref a_t_passing, .int t_at, .int t_fault, .int t_open, .int t_asked, .int t_byGun, .int t_prizeMost, .ref a_t_order, .ref a_t_times, .int t_listed])), (a_t_now, .inl (cI, 1562, .inl t_now))] H := hP
    have hD : va_D A [(a_t, .inr (11, [.int t_thrown, .ref a_t_now, .ref a_t_kept, .int t_isKept, .ref a_t_text, .int t_length, .ref a_t_passing, .int t_at, .int t_fault, .int t_open, .int t_asked, .int t_byGun, .int t_prizeMost, .ref a_t_order, .ref a_t_times, .int t_listed])), (a_t_now, .inl (cI, 1562, .inl t_now))] := hD
    refine lv_aload_n hx hb dX11_passes_27 rfl (lv_at hl 1 rfl) ?_
    refine lv_iload_n hx hb dX11_passes_28 rfl (lv_at hl 2 rfl) ?_
    refine lv_iconst (v := (nI 1)) hx hb dX11_passes_29 rfl ?_
    obtain ⟨r8, e9, h⟩ := zz_b h
    refine zVi (As := [.int x1, .int (nI 1)]) (rest := [.int r6, .int r3]) (C := RX11) (wr := []) [0, 1] [] 0 ⟨hx, hb, hml, hown, hts⟩ (mX11_of l D cB cI cZ a_t a_t_now a_t_kept a_t_text a_t_passing a_t_order a_t_times t_thrown t_isKept t_length t_at t_fault t_open t_asked t_byGun t_prizeMost t_listed t_now H.size x1 (nI 1) r8 e9) (cwV 2 hts gX11_passes_X11_of rfl rfl rfl (by decide +kernel) ⟨Nat.le_of_ble_eq_true rfl, Nat.le_of_ble_eq_true rfl⟩) hK hN hZ hP hD hS hA rfl rfl rfl rfl rfl rfl rfl rfl hl.1 rfl (lv_room (Nat.le_of_ble_eq_true rfl)) dX11_passes_30 ⟨Nat.le_of_ble_eq_true rfl, Nat.le_of_ble_eq_true rfl⟩ (fun H locs hP hD hS => ?_)
    have hP : va_P D vwCl [(a_t, .inr (11, [.int t_thrown, .ref a_t_now, .ref a_t_kept, .int t_isKept, .ref a_t_text, .int t_length, .ref a_t_passing, .int t_at, .int t_fault, .int t_open, .int t_asked, .int t_byGun, .int t_prizeMost, .ref a_t_order, .ref a_t_times, .int t_listed])), (a_t_now, .inl (cI, 1562, .inl t_now))] H := hP
    have hD : va_D A [(a_t, .inr (11, [.int t_thrown, .ref a_t_now, .ref a_t_kept, .int t_isKept, .ref a_t_text, .int t_length, .ref a_t_passing, .int t_at, .int t_fault, .int t_open, .int t_asked, .int t_byGun, .int t_prizeMost, .ref a_t_order, .ref a_t_times, .int t_listed])), (a_t_now, .inl (cI, 1562, .inl t_now))] := hD
    obtain ⟨r10, e11, h⟩ := zz_b h
    refine zSi (As := [.int r6, .int r8]) (rest := [.int r3]) (wr := [(a_t, .inr (11, [.int t_thrown, .ref a_t_now, .ref a_t_kept, .int t_isKept, .ref a_t_text, .int t_length, .ref a_t_passing, .int t_at, .int t_fault, .int t_open, .int t_asked, .int t_byGun, .int t_prizeMost, .ref a_t_order, .ref a_t_times, .int t_listed])), (a_t_now, .inl (cI, 1562, .inl t_now))]) [] [0, 1] ⟨hx, hb, hml, hown, hts⟩ (mX11_made l D cB cI cZ H.size r6 r8 r10 e11) (va_cwS 2 hts gX11_passes_X11_made rfl rfl rfl (by decide +kernel) ⟨Nat.le_of_ble_eq_true rfl, Nat.le_of_ble_eq_true rfl⟩) hK hN hZ hP hD hS hA rfl rfl rfl rfl rfl rfl hl.1 rfl (lv_room (Nat.le_of_ble_eq_true rfl)) dX11_passes_33 ⟨Nat.le_of_ble_eq_true rfl, Nat.le_of_ble_eq_true rfl⟩ (fun H locs hP hD hS => ?_)
    have hP : va_P D vwCl [(a_t, .inr (11, [.int t_thrown, .ref a_t_now, .ref a_t_kept, .int t_isKept, .ref a_t_text, .int t_length, .ref a_t_passing, .int t_at, .int t_fault, .int t_open, .int t_asked, .int t_byGun, .int t_prizeMost, .ref a_t_order, .ref a_t_times, .int t_listed])), (a_t_now, .inl (cI, 1562, .inl t_now))] H := hP
    have hD : va_D A [(a_t, .inr (11, [.int t_thrown, .ref a_t_now, .ref a_t_kept, .int t_isKept, .ref a_t_text, .int t_length, .ref a_t_passing, .int t_at, .int t_fault, .int t_open, .int t_asked, .int t_byGun, .int t_prizeMost, .ref a_t_order, .ref a_t_times, .int t_listed])), (a_t_now, .inl (cI, 1562, .inl t_now))] := hD
    refine lv_iadd hx hb dX11_passes_36 ?_
    have j0_ := Option.some.inj h
    subst j0_
    exact W.iret (v := (r3 + r10)) hx hb hr (fun t ht hW => ⟨⟨_, (), rfl, rfl, zPost.of hP hD hK ht hW [0, 1] rfl rfl rfl⟩, hS.F ht⟩) hS.2.2 dX11_passes_37
  · have h := zz_t h c5
    refine lv_iconst (v := (-1 : Int32)) hx hb dX11_passes_16 rfl ?_
    refine lv_goto (tgt := 37) hx hb dX11_passes_17 (by decide) ?_
    have j0_ := Option.some.inj h
    subst j0_
    exact W.iret (v := (-1 : Int32)) hx hb hr (fun t ht hW => ⟨⟨_, (), rfl, rfl, zPost.of hP hD hK ht hW [0, 1] rfl rfl rfl⟩, hS.F ht⟩) hS.2.2 dX11_passes_37
