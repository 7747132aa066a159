/-! RunDesk$Runners.enterSplit -/
theorem dX6_enterSplit_0 : decode cX6_enterSplit 0 = .ok (.aload_n 0, 1) := by decide +kernel
theorem dX6_enterSplit_1 : decode cX6_enterSplit 1 = .ok (.iload_n 1, 1) := by decide +kernel
theorem dX6_enterSplit_2 : decode cX6_enterSplit 2 = .ok (.invokevirtual 41, 3) := by decide +kernel
theorem dX6_enterSplit_5 : decode cX6_enterSplit 5 = .ok (.ifCond .eq 13, 3) := by decide +kernel
theorem dX6_enterSplit_8 : decode cX6_enterSplit 8 = .ok (.iload_n 2, 1) := by decide +kernel
theorem dX6_enterSplit_9 : decode cX6_enterSplit 9 = .ok (.ifCond .lt 9, 3) := by decide +kernel
theorem dX6_enterSplit_12 : decode cX6_enterSplit 12 = .ok (.iload_n 2, 1) := by decide +kernel
theorem dX6_enterSplit_13 : decode cX6_enterSplit 13 = .ok (.bipush 12, 2) := by decide +kernel
theorem dX6_enterSplit_15 : decode cX6_enterSplit 15 = .ok (.if_icmp .lt 5, 3) := by decide +kernel
theorem dX6_enterSplit_18 : decode cX6_enterSplit 18 = .ok (.iconst 0, 1) := by decide +kernel
theorem dX6_enterSplit_19 : decode cX6_enterSplit 19 = .ok (.ireturn, 1) := by decide +kernel
theorem dX6_enterSplit_20 : decode cX6_enterSplit 20 = .ok (.aload_n 0, 1) := by decide +kernel
theorem dX6_enterSplit_21 : decode cX6_enterSplit 21 = .ok (.getfield 15, 3) := by decide +kernel
theorem dX6_enterSplit_24 : decode cX6_enterSplit 24 = .ok (.iload_n 1, 1) := by decide +kernel
theorem dX6_enterSplit_25 : decode cX6_enterSplit 25 = .ok (.bipush 12, 2) := by decide +kernel
theorem dX6_enterSplit_27 : decode cX6_enterSplit 27 = .ok (.imul, 1) := by decide +kernel
theorem dX6_enterSplit_28 : decode cX6_enterSplit 28 = .ok (.iload_n 2, 1) := by decide +kernel
theorem dX6_enterSplit_29 : decode cX6_enterSplit 29 = .ok (.iadd, 1) := by decide +kernel
theorem dX6_enterSplit_30 : decode cX6_enterSplit 30 = .ok (.iaload, 1) := by decide +kernel
theorem dX6_enterSplit_31 : decode cX6_enterSplit 31 = .ok (.istore 4, 2) := by decide +kernel
theorem dX6_enterSplit_33 : decode cX6_enterSplit 33 = .ok (.iload 4, 2) := by decide +kernel
theorem dX6_enterSplit_35 : decode cX6_enterSplit 35 = .ok (.iconst (-1), 1) := by decide +kernel
theorem dX6_enterSplit_36 : decode cX6_enterSplit 36 = .ok (.if_icmp .eq 11, 3) := by decide +kernel
theorem dX6_enterSplit_39 : decode cX6_enterSplit 39 = .ok (.iload 4, 2) := by decide +kernel
theorem dX6_enterSplit_41 : decode cX6_enterSplit 41 = .ok (.iload_n 3, 1) := by decide +kernel
theorem dX6_enterSplit_42 : decode cX6_enterSplit 42 = .ok (.if_icmp .gt 5, 3) := by decide +kernel
theorem dX6_enterSplit_45 : decode cX6_enterSplit 45 = .ok (.iconst 0, 1) := by decide +kernel
theorem dX6_enterSplit_46 : decode cX6_enterSplit 46 = .ok (.ireturn, 1) := by decide +kernel
theorem dX6_enterSplit_47 : decode cX6_enterSplit 47 = .ok (.aload_n 0, 1) := by decide +kernel
theorem dX6_enterSplit_48 : decode cX6_enterSplit 48 = .ok (.getfield 15, 3) := by decide +kernel
theorem dX6_enterSplit_51 : decode cX6_enterSplit 51 = .ok (.iload_n 1, 1) := by decide +kernel
theorem dX6_enterSplit_52 : decode cX6_enterSplit 52 = .ok (.bipush 12, 2) := by decide +kernel
theorem dX6_enterSplit_54 : decode cX6_enterSplit 54 = .ok (.imul, 1) := by decide +kernel
theorem dX6_enterSplit_55 : decode cX6_enterSplit 55 = .ok (.iload_n 2, 1) := by decide +kernel
theorem dX6_enterSplit_56 : decode cX6_enterSplit 56 = .ok (.iadd, 1) := by decide +kernel
theorem dX6_enterSplit_57 : decode cX6_enterSplit 57 = .ok (.iload_n 3, 1) := by decide +kernel
theorem dX6_enterSplit_58 : decode cX6_enterSplit 58 = .ok (.iastore, 1) := by decide +kernel
theorem dX6_enterSplit_59 : decode cX6_enterSplit 59 = .ok (.iconst 1, 1) := by decide +kernel
theorem dX6_enterSplit_60 : decode cX6_enterSplit 60 = .ok (.ireturn, 1) := by decide +kernel
set_option maxRecDepth 20000 in
theorem ggX6_enterSplit_X6_has : GoodIn wsX6_enterSplit wsX6_has := goodIn_r _ [6, 7, 8, 9, 10, 11, 12, 13, 14, 15, 16] (by decide +kernel) (by decide +kernel)
set_option maxRecDepth 20000 in
theorem gX6_enterSplit_X6_has : GoodIn wsX6_enterSplit (wsV RX6 41 RX6 yX6_has wsX6_has) := goodIn_app (goodIn_of _ (by decide +kernel)) ggX6_enterSplit_X6_has
def fX6_enterSplit (t_entered : Int32) (t_splits : Nat → Int32) (x1 : Int32) (x2 : Int32) (x3 : Int32) : Option (Bool × (Nat → Int32)) := ((fX6_has t_entered x1).bind (fun b1 => (if (zb b1) = 0 then some (false, t_splits) else (if x2 < 0 then some (false, t_splits) else (if x2 < (12 : Int32) then (if zin ((x1 * (12 : Int32)) + x2) 720 then (if (t_splits (((x1 * (12 : Int32)) + x2)).toNatClampNeg) = (-1 : Int32) then (if zin ((x1 * (12 : Int32)) + x2) 720 then some (true, (upd t_splits (((x1 * (12 : Int32)) + x2)).toNatClampNeg x3)) else none) else (if x3 < (t_splits (((x1 * (12 : Int32)) + x2)).toNatClampNeg) then (if zin ((x1 * (12 : Int32)) + x2) 720 then some (true, (upd t_splits (((x1 * (12 : Int32)) + x2)).toNatClampNeg x3)) else none) else some (false, t_splits))) else none) else some (false, t_splits))))))
theorem kX6_enterSplit_0 : (.fieldLink RX6 15 "RunDesk$Runners" "splits" "[I" : Cond) ∈ wsX6_enterSplit := List.mem_of_getElem? (i := 1) (by decide +kernel)
theorem qX6_enterSplit_X6 : ∀ w ∈ wsX60, w ∈ wsX6_enterSplit := fun _ h => List.mem_cons_of_mem _ (List.mem_append_right _ (h))
set_option maxHeartbeats 4000000 in
set_option maxRecDepth 100000 in
theorem mX6_enterSplit (l : Launch) (D : va_G) (cB cI cZ : ClassId) (a_t : Nat) (a_t_facts : Nat) (a_t_splits : Nat) (a_t_torn : Nat) (a_t_dropped : Nat) (a_t_waved : Nat) (a_t_struck : Nat) (a_t_strikingOrder : Nat) (t_entered : Int32) (t_strikings : Int32) (t_splits : Nat → Int32) (sz : Nat) (x1 : Int32) (x2 : Int32) (x3 : Int32) (b0 : Bool) (t_splits' : Nat → Int32) (h : fX6_enterSplit t_entered t_splits x1 x2 x3 = some (b0, t_splits')) : Met l yX6_enterSplit wsX6_enterSplit ({ frames := 1, cells := 0, slots := 0, locals := 21 } : Room) (va_Pc [.ref a_t, .int x1, .int x2, .int x3] (zPre D (zT cB cI cZ) [(a_t, .inr (6, [.ref a_t_facts, .ref a_t_splits, .ref a_t_torn, .ref a_t_dropped, .ref a_t_waved, .ref a_t_struck, .ref a_t_strikingOrder, .int t_entered, .int t_strikings])), (a_t_splits, .inl (cI, 720, .inl t_splits))] sz)) (zQi (zb b0) D (zT cB cI cZ) [(a_t, .inr (6, [.ref a_t_facts, .ref a_t_splits, .ref a_t_torn, .ref a_t_dropped, .ref a_t_waved, .ref a_t_struck, .ref a_t_strikingOrder, .int t_entered, .int t_strikings])), (a_t_splits, .inl (cI, 720, .inl t_splits'))] (va_A [(a_t, .inr (6, [.ref a_t_facts, .ref a_t_splits, .ref a_t_torn, .ref a_t_dropped, .ref a_t_waved, .ref a_t_struck, .ref a_t_strikingOrder, .int t_entered, .int t_strikings])), (a_t_splits, .inl (cI, 720, .inl t_splits))] sz)) 0 0 (va_A [(a_t, .inr (6, [.ref a_t_facts, .ref a_t_splits, .ref a_t_torn, .ref a_t_dropped, .ref a_t_waved, .ref a_t_struck, .ref a_t_strikingOrder, .int t_entered, .int t_strikings])), (a_t_splits, .inl (cI, 720, .inl t_splits))] sz) := by
  refine Met.ofW (cc := cX6_enterSplit) (maxL := 5) (ret := (some .boolean)) (by decide) rfl ?_
  intro p e s m args below meth c s₁ B hml hv
  obtain ⟨rfl, hsz, hP, hK, hN, hZ, hD0⟩ := hv
  have hx := B.exec
  have hb := B.bytes
  have hr := B.returns
  have hts := atoms_spec (ws := wsX6_enterSplit) B.pre
  have hown : s.vm.findClass RX6 = some m.cls := findClass_of_methodNamed B.named
  have hlocks := B.notSynchronized
  subst hsz
  have hD := hD0.self (sz := s.heap.size)
  generalize hAe : va_A [(a_t, .inr (6, [.ref a_t_facts, .ref a_t_splits, .ref a_t_torn, .ref a_t_dropped, .ref a_t_waved, .ref a_t_struck, .ref a_t_strikingOrder, .int t_entered, .int t_strikings])), (a_t_splits, .inl (cI, 720, .inl t_splits))] s.heap.size = A at hD hZ ⊢
  have hA : ∀ q : Nat, s.heap.size ≤ q → A q := fun q h => by rw [← hAe]; exact Or.inr h
  have hS : va_S A s.heap s.heap [] := va_S.rf
  have hl := lv_entry ([.ref a_t, .int x1, .int x2, .int x3]) (n := 5) (Nat.le_of_ble_eq_true rfl)
  rw [lg_entry_eq]
  generalize (lg_sl ([.ref a_t, .int x1, .int x2, .int x3]) ++ List.replicate (5 - (lg_sl ([.ref a_t, .int x1, .int x2, .int x3])).length) Slot.unset).toArray = ls at hl ⊢
  have hl : lv_has ls 5 [(0, .ref a_t), (1, .int x1), (2, .int x2), (3, .int x3)] := hl
  unfold fX6_enterSplit at h
  refine lv_aload_n hx hb dX6_enterSplit_0 rfl (lv_at hl 0 rfl) ?_
  refine lv_iload_n hx hb dX6_enterSplit_1 rfl (lv_at hl 1 rfl) ?_
  obtain ⟨b1, e2, h⟩ := zz_b h
  refine zVi (As := [.int x1]) (rest := []) (C := RX6) (wr := [(a_t_splits, .inl (cI, 720, .inl t_splits))]) [0] [1] 0 ⟨hx, hb, hml, hown, hts⟩ (mX6_has l D cB cI cZ a_t a_t_facts a_t_splits a_t_torn a_t_dropped a_t_waved a_t_struck a_t_strikingOrder t_entered t_strikings s.heap.size x1 b1 e2) (cwV 1 hts gX6_enterSplit_X6_has rfl rfl rfl (by decide +kernel) ⟨Nat.le_of_ble_eq_true rfl, Nat.le_of_ble_eq_true rfl⟩) hK hN hZ hP hD hS hA rfl rfl rfl rfl rfl rfl rfl rfl hl.1 rfl (lv_room (Nat.le_of_ble_eq_true rfl)) dX6_enterSplit_2 ⟨Nat.le_of_ble_eq_true rfl, Nat.le_of_ble_eq_true rfl⟩ (fun H locs hP hD hS => ?_)
  have hP : va_P D vwCl [(a_t_splits, .inl (cI, 720, .inl t_splits)), (a_t, .inr (6, [.ref a_t_facts, .ref a_t_splits, .ref a_t_torn, .ref a_t_dropped, .ref a_t_waved, .ref a_t_struck, .ref a_t_strikingOrder, .int t_entered, .int t_strikings]))] H := hP
  have hD : va_D A [(a_t_splits, .inl (cI, 720, .inl t_splits)), (a_t, .inr (6, [.ref a_t_facts, .ref a_t_splits, .ref a_t_torn, .ref a_t_dropped, .ref a_t_waved, .ref a_t_struck, .ref a_t_strikingOrder, .int t_entered, .int t_strikings]))] := hD
  refine lv_if_eq (tgt := 18) hx hb dX6_enterSplit_5 (by decide) (fun c3 => ?_) (fun c3 => ?_)
  · have h := zz_t h c3
    refine lv_iconst (v := (0 : Int32)) hx hb dX6_enterSplit_18 rfl ?_
    obtain ⟨j0_, g_⟩ := Prod.mk.inj (Option.some.inj h)
    have j1_ := g_
    subst j0_
    subst j1_
    exact W.zret (v := (0 : Int32)) hx hb hr rfl (fun t ht hW => ⟨⟨_, (), rfl, rfl, zPost.of hP hD hK ht hW [1, 0] rfl rfl rfl⟩, hS.F ht⟩) hS.2.2 dX6_enterSplit_19
  · have h := zz_f h c3
    refine lv_iload_n hx hb dX6_enterSplit_8 rfl (lv_at hl 2 rfl) ?_
    refine lv_if_lt (tgt := 18) hx hb dX6_enterSplit_9 (by decide) (fun c4 => ?_) (fun c4 => ?_)
    · have h := zz_t h c4
      refine lv_iconst (v := (0 : Int32)) hx hb dX6_enterSplit_18 rfl ?_
      obtain ⟨j0_, g_⟩ := Prod.mk.inj (Option.some.inj h)
      have j1_ := g_
      subst j0_
      subst j1_
      exact W.zret (v := (0 : Int32)) hx hb hr rfl (fun t ht hW => ⟨⟨_, (), rfl, rfl, zPost.of hP hD hK ht hW [1, 0] rfl rfl rfl⟩, hS.F ht⟩) hS.2.2 dX6_enterSplit_19
    · have h := zz_f h c4
      refine lv_iload_n hx hb dX6_enterSplit_12 rfl (lv_at hl 2 rfl) ?_
      refine lv_bipush (v := (12 : Int32)) hx hb dX6_enterSplit_13 rfl ?_
      refine lv_icmp_lt (tgt := 20) hx hb dX6_enterSplit_15 (by decide) (fun c5 => ?_) (fun c5 => ?_)
      · have h := zz_t h c5
        refine lv_aload_n hx hb dX6_enterSplit_20 rfl (lv_at hl 0 rfl) ?_
        refine va_get (D := D) (ci := 6) (C := RX6) (T := TX6) (N := 9) hx hb hts qX6_enterSplit_X6 hown hK hP 1 rfl rfl 1 (by decide) (hts _ kX6_enterSplit_0) (fun _ h9 => h9) rfl dX6_enterSplit_21 ?_
        refine lv_iload_n hx hb dX6_enterSplit_24 rfl (lv_at hl 1 rfl) ?_
        refine lv_bipush (v := (12 : Int32)) hx hb dX6_enterSplit_25 rfl ?_
        refine lv_imul hx hb dX6_enterSplit_27 ?_
        refine lv_iload_n hx hb dX6_enterSplit_28 rfl (lv_at hl 2 rfl) ?_
        refine lv_iadd hx hb dX6_enterSplit_29 ?_
        obtain ⟨i6, h⟩ := zz_i h
        refine va_iald hx hb hK hP 0 1 rfl rfl i6 dX6_enterSplit_30 ?_
        refine lv_istore (lv' := [(4, .int (t_splits (((x1 * (12 : Int32)) + x2)).toNatClampNeg)), (0, .ref a_t), (1, .int x1), (2, .int x2), (3, .int x3)]) hx hb dX6_enterSplit_31 hl (by decide) rfl (fun ls hl => ?_)
        refine lv_iload hx hb dX6_enterSplit_33 (lv_at hl 0 rfl) ?_
        refine lv_iconst (v := (-1 : Int32)) hx hb dX6_enterSplit_35 rfl ?_
        refine lv_icmp_eq (tgt := 47) hx hb dX6_enterSplit_36 (by decide) (fun c7 => ?_) (fun c7 => ?_)
        · have h := zz_t h c7
          refine lv_aload_n hx hb dX6_enterSplit_47 rfl (lv_at hl 1 rfl) ?_
          refine va_get (D := D) (ci := 6) (C := RX6) (T := TX6) (N := 9) hx hb hts qX6_enterSplit_X6 hown hK hP 1 rfl rfl 1 (by decide) (hts _ kX6_enterSplit_0) (fun _ h9 => h9) rfl dX6_enterSplit_48 ?_
          refine lv_iload_n hx hb dX6_enterSplit_51 rfl (lv_at hl 2 rfl) ?_
          refine lv_bipush (v := (12 : Int32)) hx hb dX6_enterSplit_52 rfl ?_
          refine lv_imul hx hb dX6_enterSplit_54 ?_
          refine lv_iload_n hx hb dX6_enterSplit_55 rfl (lv_at hl 3 rfl) ?_
          refine lv_iadd hx hb dX6_enterSplit_56 ?_
          refine lv_iload_n hx hb dX6_enterSplit_57 rfl (lv_at hl 4 rfl) ?_
          obtain ⟨i8, h⟩ := zz_i h
          refine va_iast hx hb hK hP hD hS 0 1 rfl rfl i8 dX6_enterSplit_58 (fun H locs hP hD hS => ?_)
          have hP : va_P D vwCl [(a_t_splits, .inl (cI, 720, .inl (upd t_splits (((x1 * (12 : Int32)) + x2)).toNatClampNeg x3))), (a_t, .inr (6, [.ref a_t_facts, .ref a_t_splits, .ref a_t_torn, .ref a_t_dropped, .ref a_t_waved, .ref a_t_struck, .ref a_t_strikingOrder, .int t_entered, .int t_strikings]))] H := hP
          have hD : va_D A [(a_t_splits, .inl (cI, 720, .inl (upd t_splits (((x1 * (12 : Int32)) + x2)).toNatClampNeg x3))), (a_t, .inr (6, [.ref a_t_facts, .ref a_t_splits, .ref a_t_torn, .ref a_t_dropped, .ref a_t_waved, .ref a_t_struck, .ref a_t_strikingOrder, .int t_entered, .int t_strikings]))] := hD
          refine lv_iconst (v := (1 : Int32)) hx hb dX6_enterSplit_59 rfl ?_
          obtain ⟨j0_, g_⟩ := Prod.mk.inj (Option.some.inj h)
          have j1_ := g_
          subst j0_
          subst j1_
          exact W.zret (v := (1 : Int32)) hx hb hr rfl (fun t ht hW => ⟨⟨_, (), rfl, rfl, zPost.of hP hD hK ht hW [1, 0] rfl rfl rfl⟩, hS.F ht⟩) hS.2.2 dX6_enterSplit_60
        · have h := zz_f h c7
          refine lv_iload hx hb dX6_enterSplit_39 (lv_at hl 0 rfl) ?_
          refine lv_iload_n hx hb dX6_enterSplit_41 rfl (lv_at hl 4 rfl) ?_
          refine lv_icmp_gt (tgt := 47) hx hb dX6_enterSplit_42 (by decide) (fun c9 => ?_) (fun c9 => ?_)
          · have h := zz_t h c9
            refine lv_aload_n hx hb dX6_enterSplit_47 rfl (lv_at hl 1 rfl) ?_
            refine va_get (D := D) (ci := 6) (C := RX6) (T := TX6) (N := 9) hx hb hts qX6_enterSplit_X6 hown hK hP 1 rfl rfl 1 (by decide) (hts _ kX6_enterSplit_0) (fun _ h9 => h9) rfl dX6_enterSplit_48 ?_
            refine lv_iload_n hx hb dX6_enterSplit_51 rfl (lv_at hl 2 rfl) ?_
            refine lv_bipush (v := (12 : Int32)) hx hb dX6_enterSplit_52 rfl ?_
            refine lv_imul hx hb dX6_enterSplit_54 ?_
            refine lv_iload_n hx hb dX6_enterSplit_55 rfl (lv_at hl 3 rfl) ?_
            refine lv_iadd hx hb dX6_enterSplit_56 ?_
            refine lv_iload_n hx hb dX6_enterSplit_57 rfl (lv_at hl 4 rfl) ?_
            obtain ⟨i10, h⟩ := zz_i h
            refine va_iast hx hb hK hP hD hS 0 1 rfl rfl i10 dX6_enterSplit_58 (fun H locs hP hD hS => ?_)
            have hP : va_P D vwCl [(a_t_splits, .inl (cI, 720, .inl (upd t_splits (((x1 * (12 : Int32)) + x2)).toNatClampNeg x3))), (a_t, .inr (6, [.ref a_t_facts, .ref a_t_splits, .ref a_t_torn, .ref a_t_dropped, .ref a_t_waved, .ref a_t_struck, .ref a_t_strikingOrder, .int t_entered, .int t_strikings]))] H := hP
            have hD : va_D A [(a_t_splits, .inl (cI, 720, .inl (upd t_splits (((x1 * (12 : Int32)) + x2)).toNatClampNeg x3))), (a_t, .inr (6, [.ref a_t_facts, .ref a_t_splits, .ref a_t_torn, .ref a_t_dropped, .ref a_t_waved, .ref a_t_struck, .ref a_t_strikingOrder, .int t_entered, .int t_strikings]))] := hD
            refine lv_iconst (v := (1 : Int32)) hx hb dX6_enterSplit_59 rfl ?_
            obtain ⟨j0_, g_⟩ := Prod.mk.inj (Option.some.inj h)
            have j1_ := g_
            subst j0_
            subst j1_
            exact W.zret (v := (1 : Int32)) hx hb hr rfl (fun t ht hW => ⟨⟨_, (), rfl, rfl, zPost.of hP hD hK ht hW [1, 0] rfl rfl rfl⟩, hS.F ht⟩) hS.2.2 dX6_enterSplit_60
          · have h := zz_f h c9
            refine lv_iconst (v := (0 : Int32)) hx hb dX6_enterSplit_45 rfl ?_
            obtain ⟨j0_, g_⟩ := Prod.mk.inj (Option.some.inj h)
            have j1_ := g_
            subst j0_
            subst j1_
            exact W.zret (v := (0 : Int32)) hx hb hr rfl (fun t ht hW => ⟨⟨_, (), rfl, rfl, zPost.of hP hD hK ht hW [1, 0] rfl rfl rfl⟩, hS.F ht⟩) hS.2.2 dX6_enterSplit_46
      · have h := zz_f h c5
        refine lv_iconst (v := (0 : Int32)) hx hb dX6_enterSplit_18 rfl ?_
        obtain ⟨j0_, g_⟩ := Prod.mk.inj (Option.some.inj h)
        have j1_ := g_
        subst j0_
        subst j1_
        exact W.zret (v := (0 : Int32)) hx hb hr rfl (fun t ht hW => ⟨⟨_, (), rfl, rfl, zPost.of hP hD hK ht hW [1, 0] rfl rfl rfl⟩, hS.F ht⟩) hS.2.2 dX6_enterSplit_19
/-! RunDesk$Runners.isTorn -/
theorem dX6_isTorn_0 : decode cX6_isTorn 0 = .ok (.aload_n 0, 1) := by decide +kernel
theorem dX6_isTorn_1 : decode cX6_isTorn 1 = .ok (.iload_n 1, 1) := by decide +kernel
theorem dX6_isTorn_2 : decode cX6_isTorn 2 = .ok (.invokevirtual 45, 3) := by decide +kernel
theorem dX6_isTorn_5 : decode cX6_isTorn 5 = .ok (.istore_n 3, 1) := by decide +kernel
theorem dX6_isTorn_6 : decode cX6_isTorn 6 = .ok (.iload_n 3, 1) := by decide +kernel
theorem dX6_isTorn_7 : decode cX6_isTorn 7 = .ok (.iconst (-1), 1) := by decide +kernel
theorem dX6_isTorn_8 : decode cX6_isTorn 8 = .ok (.if_icmp .eq 12, 3) := by decide +kernel
theorem dX6_isTorn_11 : decode cX6_isTorn 11 = .ok (.iload_n 2, 1) := by decide +kernel
theorem dX6_isTorn_12 : decode cX6_isTorn 12 = .ok (.iload_n 3, 1) := by decide +kernel
theorem dX6_isTorn_13 : decode cX6_isTorn 13 = .ok (.if_icmp .lt 7, 3) := by decide +kernel
theorem dX6_isTorn_16 : decode cX6_isTorn 16 = .ok (.iconst 1, 1) := by decide +kernel
theorem dX6_isTorn_17 : decode cX6_isTorn 17 = .ok (.goto 4, 3) := by decide +kernel
theorem dX6_isTorn_20 : decode cX6_isTorn 20 = .ok (.iconst 0, 1) := by decide +kernel
theorem dX6_isTorn_21 : decode cX6_isTorn 21 = .ok (.ireturn, 1) := by decide +kernel
set_option maxRecDepth 20000 in
theorem ggX6_isTorn_X6_tornFrom : GoodIn wsX6_isTorn wsX6_tornFrom := goodIn_r _ [5, 6, 7, 8, 9, 4, 10, 11, 12, 13, 14, 15, 16, 17, 18, 19, 20] (by decide +kernel) (by decide +kernel)
set_option maxRecDepth 20000 in
theorem gX6_isTorn_X6_tornFrom : GoodIn wsX6_isTorn (wsV RX6 45 RX6 yX6_tornFrom wsX6_tornFrom) := goodIn_app (goodIn_of _ (by decide +kernel)) ggX6_isTorn_X6_tornFrom
def fX6_isTorn (t_entered : Int32) (t_torn : Nat → Int32) (x1 : Int32) (x2 : Int32) : Option (Bool) := ((fX6_tornFrom t_entered t_torn x1).bind (fun r1 => (if r1 = (-1 : Int32) then some (false) else (if x2 < r1 then some (false) else some (true)))))
set_option maxHeartbeats 4000000 in
set_option maxRecDepth 100000 in
theorem mX6_isTorn (l : Launch) (D : va_G) (cB cI cZ : ClassId) (a_t : Nat) (a_t_facts : Nat) (a_t_splits : Nat) (a_t_torn : Nat) (a_t_dropped : Nat) (a_t_waved : Nat) (a_t_struck : Nat) (a_t_strikingOrder : Nat) (t_entered : Int32) (t_strikings : Int32) (t_torn : Nat → Int32) (sz : Nat) (x1 : Int32) (x2 : Int32) (b0 : Bool) (h : fX6_isTorn t_entered t_torn x1 x2 = some (b0)) : Met l yX6_isTorn wsX6_isTorn ({ frames := 2, cells := 0, slots := 0, locals := 42 } : Room) (va_Pc [.ref a_t, .int x1, .int x2] (zPre D (zT cB cI cZ) [(a_t, .inr (6, [.ref a_t_facts, .ref a_t_splits, .ref a_t_torn, .ref a_t_dropped, .ref a_t_waved, .ref a_t_struck, .ref a_t_strikingOrder, .int t_entered, .int t_strikings])), (a_t_torn, .inl (cI, 60, .inl t_torn))] sz)) (zQi (zb b0) D (zT cB cI cZ) [(a_t, .inr (6, [.ref a_t_facts, .ref a_t_splits, .ref a_t_torn, .ref a_t_dropped, .ref a_t_waved, .ref a_t_struck, .ref a_t_strikingOrder, .int t_entered, .int t_strikings])), (a_t_torn, .inl (cI, 60, .inl t_torn))] (va_A [(a_t, .inr (6, [.ref a_t_facts, .ref a_t_splits, .ref a_t_torn, .ref a_t_dropped, .ref a_t_waved, .ref a_t_struck, .ref a_t_strikingOrder, .int t_entered, .int t_strikings])), (a_t_torn, .inl (cI, 60, .inl t_torn))] sz)) 0 0 (va_A [(a_t, .inr (6, [.ref a_t_facts, .ref a_t_splits, .ref a_t_torn, .ref a_t_dropped, .ref a_t_waved, .ref a_t_struck, .ref a_t_strikingOrder, .int t_entered, .int t_strikings])), (a_t_torn, .inl (cI, 60, .inl t_torn))] sz) := by
  refine Met.ofW (cc := cX6_isTorn) (maxL := 4) (ret := (some .boolean)) (by decide) rfl ?_
  intro p e s m args below meth c s₁ B hml hv
  obtain ⟨rfl, hsz, hP, hK, hN, hZ, hD0⟩ := hv
  have hx := B.exec
  have hb := B.bytes
  have hr := B.returns
  have hts := atoms_spec (ws := wsX6_isTorn) B.pre
  have hown : s.vm.findClass RX6 = some m.cls := findClass_of_methodNamed B.named
  have hlocks := B.notSynchronized
  subst hsz
  have hD := hD0.self (sz := s.heap.size)
  generalize hAe : va_A [(a_t, .inr (6, [.ref a_t_facts, .ref a_t_splits, .ref a_t_torn, .ref a_t_dropped, .ref a_t_waved, .ref a_t_struck, .ref a_t_strikingOrder, .int t_entered, .int t_strikings])), (a_t_torn, .inl (cI, 60, .inl t_torn))] s.heap.size = A at hD hZ ⊢
  have hA : ∀ q : Nat, s.heap.size ≤ q → A q := fun q h => by rw [← hAe]; exact Or.inr h
  have hS : va_S A s.heap s.heap [] := va_S.rf
  have hl := lv_entry ([.ref a_t, .int x1, .int x2]) (n := 4) (Nat.le_of_ble_eq_true rfl)
  rw [lg_entry_eq]
  generalize (lg_sl ([.ref a_t, .int x1, .int x2]) ++ List.replicate (4 - (lg_sl ([.ref a_t, .int x1, .int x2])).length) Slot.unset).toArray = ls at hl ⊢
  have hl : lv_has ls 4 [(0, .ref a_t), (1, .int x1), (2, .int x2)] := hl
  unfold fX6_isTorn at h
  refine lv_aload_n hx hb dX6_isTorn_0 rfl (lv_at hl 0 rfl) ?_
  refine lv_iload_n hx hb dX6_isTorn_1 rfl (lv_at hl 1 rfl) ?_
  obtain ⟨r1, e2, h⟩ := zz_b h
  refine zVi (As := [.int x1]) (rest := []) (C := RX6) (wr := []) [0, 1] [] 0 ⟨hx, hb, hml, hown, hts⟩ (mX6_tornFrom l D cB cI cZ a_t a_t_facts a_t_splits a_t_torn a_t_dropped a_t_waved a_t_struck a_t_strikingOrder t_entered t_strikings t_torn s.heap.size x1 r1 e2) (cwV 1 hts gX6_isTorn_X6_tornFrom rfl rfl rfl (by decide +kernel) ⟨Nat.le_of_ble_eq_true rfl, Nat.le_of_ble_eq_true rfl⟩) hK hN hZ hP hD hS hA rfl rfl rfl rfl rfl rfl rfl rfl hl.1 rfl (lv_room (Nat.le_of_ble_eq_true rfl)) dX6_isTorn_2 ⟨Nat.le_of_ble_eq_true rfl, Nat.le_of_ble_eq_true rfl⟩ (fun H locs hP hD hS => ?_)
  have hP : va_P D vwCl [(a_t, .inr (6, [.ref a_t_facts, .ref a_t_splits, .ref a_t_torn, .ref a_t_dropped, .ref a_t_waved, .ref a_t_struck, .ref a_t_strikingOrder, .int t_entered, .int t_strikings])), (a_t_torn, .inl (cI, 60, .inl t_torn))] H := hP
  have hD : va_D A [(a_t, .inr (6, [.ref a_t_facts, .ref a_t_splits, .ref a_t_torn, .ref a_t_dropped, .ref a_t_waved, .ref a_t_struck, .ref a_t_strikingOrder, .int t_entered, .int t_strikings])), (a_t_torn, .inl (cI, 60, .inl t_torn))] := hD
  refine lv_istore_n (lv' := [(3, .int r1), (0, .ref a_t), (1, .int x1), (2, .int x2)]) hx hb dX6_isTorn_5 rfl hl (by decide) rfl (fun ls hl => ?_)
  refine lv_iload_n hx hb dX6_isTorn_6 rfl (lv_at hl 0 rfl) ?_
  refine lv_iconst (v := (-1 : Int32)) hx hb dX6_isTorn_7 rfl ?_
  refine lv_icmp_eq (tgt := 20) hx hb dX6_isTorn_8 (by decide) (fun c3 => ?_) (fun c3 => ?_)
  · have h := zz_t h c3
    refine lv_iconst (v := (0 : Int32)) hx hb dX6_isTorn_20 rfl ?_
    have j0_ := Option.some.inj h
    subst j0_
    exact W.zret (v := (0 : Int32)) hx hb hr rfl (fun t ht hW => ⟨⟨_, (), rfl, rfl, zPost.of hP hD hK ht hW [0, 1] rfl rfl rfl⟩, hS.F ht⟩) hS.2.2 dX6_isTorn_21
  · have h := zz_f h c3
    refine lv_iload_n hx hb dX6_isTorn_11 rfl (lv_at hl 3 rfl) ?_
    refine lv_iload_n hx hb dX6_isTorn_12 rfl (lv_at hl 0 rfl) ?_
    refine lv_icmp_lt (tgt := 20) hx hb dX6_isTorn_13 (by decide) (fun c4 => ?_) (fun c4 => ?_)
    · have h := zz_t h c4
      refine lv_iconst (v := (0 : Int32)) hx hb dX6_isTorn_20 rfl ?_
      have j0_ := Option.some.inj h
      subst j0_
      exact W.zret (v := (0 : Int32)) hx hb hr rfl (fun t ht hW => ⟨⟨_, (), rfl, rfl, zPost.of hP hD hK ht hW [0, 1] rfl rfl rfl⟩, hS.F ht⟩) hS.2.2 dX6_isTorn_21
    · have h := zz_f h c4
      refine lv_iconst (v := (1 : Int32)) hx hb dX6_isTorn_16 rfl ?_
      refine lv_goto (tgt := 21) hx hb dX6_isTorn_17 (by decide) ?_
      have j0_ := Option.some.inj h
      subst j0_
      exact W.zret (v := (1 : Int32)) hx hb hr rfl (fun t ht hW => ⟨⟨_, (), rfl, rfl, zPost.of hP hD hK ht hW [0, 1] rfl rfl rfl⟩, hS.F ht⟩) hS.2.2 dX6_isTorn_21
/-! RunDesk$Runners.tearFrom -/
theorem dX6_tearFrom_0 : decode cX6_tearFrom 0 = .ok (.aload_n 0, 1) := by decide +kernel
theorem dX6_tearFrom_1 : decode cX6_tearFrom 1 = .ok (.iload_n 1, 1) := by decide +kernel
theorem dX6_tearFrom_2 : decode cX6_tearFrom 2 = .ok (.invokevirtual 41, 3) := by decide +kernel
theorem dX6_tearFrom_5 : decode cX6_tearFrom 5 = .ok (.ifCond .eq 13, 3) := by decide +kernel
theorem dX6_tearFrom_8 : decode cX6_tearFrom 8 = .ok (.iload_n 2, 1) := by decide +kernel
theorem dX6_tearFrom_9 : decode cX6_tearFrom 9 = .ok (.iconst 0, 1) := by decide +kernel
theorem dX6_tearFrom_10 : decode cX6_tearFrom 10 = .ok (.bipush 11, 2) := by decide +kernel
theorem dX6_tearFrom_12 : decode cX6_tearFrom 12 = .ok (.invokestatic 49, 3) := by decide +kernel
theorem dX6_tearFrom_15 : decode cX6_tearFrom 15 = .ok (.ifCond .ne 5, 3) := by decide +kernel
theorem dX6_tearFrom_18 : decode cX6_tearFrom 18 = .ok (.iconst 0, 1) := by decide +kernel
theorem dX6_tearFrom_19 : decode cX6_tearFrom 19 = .ok (.ireturn, 1) := by decide +kernel
theorem dX6_tearFrom_20 : decode cX6_tearFrom 20 = .ok (.aload_n 0, 1) := by decide +kernel
theorem dX6_tearFrom_21 : decode cX6_tearFrom 21 = .ok (.iload_n 1, 1) := by decide +kernel
theorem dX6_tearFrom_22 : decode cX6_tearFrom 22 = .ok (.iload_n 2, 1) := by decide +kernel
theorem dX6_tearFrom_23 : decode cX6_tearFrom 23 = .ok (.invokevirtual 53, 3) := by decide +kernel
theorem dX6_tearFrom_26 : decode cX6_tearFrom 26 = .ok (.ifCond .ne 10, 3) := by decide +kernel
theorem dX6_tearFrom_29 : decode cX6_tearFrom 29 = .ok (.aload_n 0, 1) := by decide +kernel
theorem dX6_tearFrom_30 : decode cX6_tearFrom 30 = .ok (.getfield 18, 3) := by decide +kernel
theorem dX6_tearFrom_33 : decode cX6_tearFrom 33 = .ok (.iload_n 1, 1) := by decide +kernel
theorem dX6_tearFrom_34 : decode cX6_tearFrom 34 = .ok (.iload_n 2, 1) := by decide +kernel
theorem dX6_tearFrom_35 : decode cX6_tearFrom 35 = .ok (.iastore, 1) := by decide +kernel
theorem dX6_tearFrom_36 : decode cX6_tearFrom 36 = .ok (.iload_n 2, 1) := by decide +kernel
theorem dX6_tearFrom_37 : decode cX6_tearFrom 37 = .ok (.istore_n 3, 1) := by decide +kernel
theorem dX6_tearFrom_38 : decode cX6_tearFrom 38 = .ok (.iload_n 3, 1) := by decide +kernel
theorem dX6_tearFrom_39 : decode cX6_tearFrom 39 = .ok (.bipush 12, 2) := by decide +kernel
theorem dX6_tearFrom_41 : decode cX6_tearFrom 41 = .ok (.if_icmp .ge 21, 3) := by decide +kernel
theorem dX6_tearFrom_44 : decode cX6_tearFrom 44 = .ok (.aload_n 0, 1) := by decide +kernel
theorem dX6_tearFrom_45 : decode cX6_tearFrom 45 = .ok (.getfield 15, 3) := by decide +kernel
theorem dX6_tearFrom_48 : decode cX6_tearFrom 48 = .ok (.iload_n 1, 1) := by decide +kernel
theorem dX6_tearFrom_49 : decode cX6_tearFrom 49 = .ok (.bipush 12, 2) := by decide +kernel
theorem dX6_tearFrom_51 : decode cX6_tearFrom 51 = .ok (.imul, 1) := by decide +kernel
theorem dX6_tearFrom_52 : decode cX6_tearFrom 52 = .ok (.iload_n 3, 1) := by decide +kernel
theorem dX6_tearFrom_53 : decode cX6_tearFrom 53 = .ok (.iadd, 1) := by decide +kernel
theorem dX6_tearFrom_54 : decode cX6_tearFrom 54 = .ok (.iconst (-1), 1) := by decide +kernel
theorem dX6_tearFrom_55 : decode cX6_tearFrom 55 = .ok (.iastore, 1) := by decide +kernel
theorem dX6_tearFrom_56 : decode cX6_tearFrom 56 = .ok (.iinc 3 1, 3) := by decide +kernel
theorem dX6_tearFrom_59 : decode cX6_tearFrom 59 = .ok (.goto (-21), 3) := by decide +kernel
theorem dX6_tearFrom_62 : decode cX6_tearFrom 62 = .ok (.iconst 1, 1) := by decide +kernel
theorem dX6_tearFrom_63 : decode cX6_tearFrom 63 = .ok (.ireturn, 1) := by decide +kernel
set_option maxRecDepth 20000 in
theorem ggX6_tearFrom_X6_has : GoodIn wsX6_tearFrom wsX6_has := goodIn_r _ [7, 8, 20, 21, 22, 23, 24, 25, 26, 27, 28] (by decide +kernel) (by decide +kernel)
set_option maxRecDepth 20000 in
theorem gX6_tearFrom_X6_has : GoodIn wsX6_tearFrom (wsV RX6 41 RX6 yX6_has wsX6_has) := goodIn_app (goodIn_of _ (by decide +kernel)) ggX6_tearFrom_X6_has
set_option maxRecDepth 20000 in
theorem ggX6_tearFrom_X10_within : GoodIn wsX6_tearFrom wsX10_within := goodIn_r _ [11] (by decide +kernel) (by decide +kernel)
set_option maxRecDepth 20000 in
theorem gX6_tearFrom_X10_within_n49 : GoodIn wsX6_tearFrom (wsX10_within) := ggX6_tearFrom_X10_within
set_option maxRecDepth 20000 in
theorem ggX6_tearFrom_X6_isTorn : GoodIn wsX6_tearFrom wsX6_isTorn := goodIn_r _ [15, 16, 17, 18, 6, 19, 1, 3, 4, 5, 7, 8, 20, 21, 22, 23, 24, 25, 26, 27, 28] (by decide +kernel) (by decide +kernel)
set_option maxRecDepth 20000 in
theorem gX6_tearFrom_X6_isTorn : GoodIn wsX6_tearFrom (wsV RX6 53 RX6 yX6_isTorn wsX6_isTorn) := goodIn_app (goodIn_of _ (by decide +kernel)) ggX6_tearFrom_X6_isTorn
def fX6_tearFrom_L38 (x1 : Int32) (K38_62 : Int32 → (Nat → Int32) → Option (Bool × (Nat → Int32) × (Nat → Int32))) : Nat → Int32 → (Nat → Int32) → Option (Bool × (Nat → Int32) × (Nat → Int32))
  | 0, _, _ => none
  | n38 + 1, v3_38, t_splits_l38 => (if (12 : Int32) ≤ v3_38 then (K38_62 v3_38 t_splits_l38) else (if zin ((x1 * (12 : Int32)) + v3_38) 720 then (fX6_tearFrom_L38 x1 K38_62 n38 (v3_38 + (1 : Int32)) (upd t_splits_l38 (((x1 * (12 : Int32)) + v3_38)).toNatClampNeg (-1 : Int32))) else none))
def fX6_tearFrom_J36 (N : Nat) (t_splits : Nat → Int32) (x1 : Int32) (x2 : Int32) (t_torn_j36 : Nat → Int32) : Option (Bool × (Nat → Int32) × (Nat → Int32)) := fX6_tearFrom_L38 x1 (fun (v3_38 : Int32) (t_splits_l38 : Nat → Int32) => some (true, t_splits_l38, t_torn_j36)) N x2 t_splits
def fX6_tearFrom (N : Nat) (t_entered : Int32) (t_splits : Nat → Int32) (t_torn : Nat → Int32) (x1 : Int32) (x2 : Int32) : Option (Bool × (Nat → Int32) × (Nat → Int32)) := ((fX6_has t_entered x1).bind (fun b1 => (if (zb b1) = 0 then some (false, t_splits, t_torn) else ((fX10_within x2 (0 : Int32) (11 : Int32)).bind (fun b4 => (if (zb b4) = 0 then some (false, t_splits, t_torn) else ((fX6_isTorn t_entered t_torn x1 x2).bind (fun b7 => (if (zb b7) = 0 then (if zin x1 60 then (fX6_tearFrom_J36 N t_splits x1 x2 (upd t_torn (x1).toNatClampNeg x2)) else none) else (fX6_tearFrom_J36 N t_splits x1 x2 t_torn))))))))))
theorem kX6_tearFrom_0 : (.initialized RX10 : Cond) ∈ wsX6_tearFrom := List.mem_of_getElem? (i := 10) (by decide +kernel)
theorem kX6_tearFrom_1 : (.static yX10_within : Cond) ∈ wsX6_tearFrom := List.mem_of_getElem? (i := 9) (by decide +kernel)
theorem kX6_tearFrom_2 : (.fieldLink RX6 18 "RunDesk$Runners" "torn" "[I" : Cond) ∈ wsX6_tearFrom := List.mem_of_getElem? (i := 1) (by decide +kernel)
theorem qX6_tearFrom_X6 : ∀ w ∈ wsX60, w ∈ wsX6_tearFrom := fun _ h => List.mem_cons_of_mem _ (List.mem_append_right _ (h))
theorem kX6_tearFrom_4 : (.fieldLink RX6 15 "RunDesk$Runners" "splits" "[I" : Cond) ∈ wsX6_tearFrom := List.mem_of_getElem? (i := 2) (by decide +kernel)
set_option maxHeartbeats 4000000 in
set_option maxRecDepth 100000 in
theorem mX6_tearFrom (l : Launch) (D : va_G) (cB cI cZ : ClassId) (a_t : Nat) (a_t_facts : Nat) (a_t_splits : Nat) (a_t_torn : Nat) (a_t_dropped : Nat) (a_t_waved : Nat) (a_t_struck : Nat) (a_t_strikingOrder : Nat) (t_entered : Int32) (t_strikings : Int32) (t_splits : Nat → Int32) (t_torn : Nat → Int32) (sz : Nat) (x1 : Int32) (x2 : Int32) (N : Nat) (b0 : Bool) (t_splits' : Nat → Int32) (t_torn' : Nat → Int32) (h : fX6_tearFrom N t_entered t_splits t_torn x1 x2 = some (b0, t_splits', t_torn')) : Met l yX6_tearFrom wsX6_tearFrom ({ frames := 3, cells := 0, slots := 0, locals := 65 } : Room) (va_Pc [.ref a_t, .int x1, .int x2] (zPre D (zT cB cI cZ) [(a_t, .inr (6, [.ref a_t_facts, .ref a_t_splits, .ref a_t_torn, .ref a_t_dropped, .ref a_t_waved, .ref a_t_struck, .ref a_t_strikingOrder, .int t_entered, .int t_strikings])), (a_t_splits, .inl (cI, 720, .inl t_splits)), (a_t_torn, .inl (cI, 60, .inl t_torn))] sz)) (zQi (zb b0) D (zT cB cI cZ) [(a_t, .inr (6, [.ref a_t_facts, .ref a_t_splits, .ref a_t_torn, .ref a_t_dropped, .ref a_t_waved, .ref a_t_struck, .ref a_t_strikingOrder, .int t_entered, .int t_strikings])), (a_t_splits, .inl (cI, 720, .inl t_splits')), (a_t_torn, .inl (cI, 60, .inl t_torn'))] (va_A [(a_t, .inr (6, [.ref a_t_facts, .ref a_t_splits, .ref a_t_torn, .ref a_t_dropped, .ref a_t_waved, .ref a_t_struck, .ref a_t_strikingOrder, .int t_entered, .int t_strikings])), (a_t_splits, .inl (cI, 720, .inl t_splits)), (a_t_torn, .inl (cI, 60, .inl t_torn))] sz)) 0 0 (va_A [(a_t, .inr (6, [.ref a_t_facts, .ref a_t_splits, .ref a_t_torn, .ref a_t_dropped, .ref a_t_waved, .ref a_t_struck, .ref a_t_strikingOrder, .int t_entered, .int t_strikings])), (a_t_splits, .inl (cI, 720, .inl t_splits)), (a_t_torn, .inl (cI, 60, .inl t_torn))] sz) := by
  refine Met.ofW (cc := cX6_tearFrom) (maxL := 4) (ret := (some .boolean)) (by decide) rfl ?_
  intro p e s m args below meth c s₁ B hml hv
  obtain ⟨rfl, hsz, hP, hK, hN, hZ, hD0⟩ := hv
  have hx := B.exec
  have hb := B.bytes
  have hr := B.returns
  have hts := atoms_spec (ws := wsX6_tearFrom) B.pre
  have hown : s.vm.findClass RX6 = some m.cls := findClass_of_methodNamed B.named
  have hlocks := B.notSynchronized
  subst hsz
  have hD := hD0.self (sz := s.heap.size)
  generalize hAe : va_A [(a_t, .inr (6, [.ref a_t_facts, .ref a_t_splits, .ref a_t_torn, .ref a_t_dropped, .ref a_t_waved, .ref a_t_struck, .ref a_t_strikingOrder, .int t_entered, .int t_strikings])), (a_t_splits, .inl (cI, 720, .inl t_splits)), (a_t_torn, .inl (cI, 60, .inl t_torn))] s.heap.size = A at hD hZ ⊢
  have hA : ∀ q : Nat, s.heap.size ≤ q → A q := fun q h => by rw [← hAe]; exact Or.inr h
  have hS : va_S A s.heap s.heap [] := va_S.rf
  have hl := lv_entry ([.ref a_t, .int x1, .int x2]) (n := 4) (Nat.le_of_ble_eq_true rfl)
  rw [lg_entry_eq]
  generalize (lg_sl ([.ref a_t, .int x1, .int x2]) ++ List.replicate (4 - (lg_sl ([.ref a_t, .int x1, .int x2])).length) Slot.unset).toArray = ls at hl ⊢
  have hl : lv_has ls 4 [(0, .ref a_t), (1, .int x1), (2, .int x2)] := hl
  unfold fX6_tearFrom at h
  refine lv_aload_n hx hb dX6_tearFrom_0 rfl (lv_at hl 0 rfl) ?_
  refine lv_iload_n hx hb dX6_tearFrom_1 rfl (lv_at hl 1 rfl) ?_
  obtain ⟨b1, e2, h⟩ := zz_b h
  refine zVi (As := [.int x1]) (rest := []) (C := RX6) (wr := [(a_t_splits, .inl (cI, 720, .inl t_splits)), (a_t_torn, .inl (cI, 60, .inl t_torn))]) [0] [1, 2] 0 ⟨hx, hb, hml, hown, hts⟩ (mX6_has l D cB cI cZ a_t a_t_facts a_t_splits a_t_torn a_t_dropped a_t_waved a_t_struck a_t_strikingOrder t_entered t_strikings s.heap.size x1 b1 e2) (cwV 1 hts gX6_tearFrom_X6_has rfl rfl rfl (by decide +kernel) ⟨Nat.le_of_ble_eq_true rfl, Nat.le_of_ble_eq_true rfl⟩) hK hN hZ hP hD hS hA rfl rfl rfl rfl rfl rfl rfl rfl hl.1 rfl (lv_room (Nat.le_of_ble_eq_true rfl)) dX6_tearFrom_2 ⟨Nat.le_of_ble_eq_true rfl, Nat.le_of_ble_eq_true rfl⟩ (fun H locs hP hD hS => ?_)
  have hP : va_P D vwCl [(a_t_splits, .inl (cI, 720, .inl t_splits)), (a_t_torn, .inl (cI, 60, .inl t_torn)), (a_t, .inr (6, [.ref a_t_facts, .ref a_t_splits, .ref a_t_torn, .ref a_t_dropped, .ref a_t_waved, .ref a_t_struck, .ref a_t_strikingOrder, .int t_entered, .int t_strikings]))] H := hP
  have hD : va_D A [(a_t_splits, .inl (cI, 720, .inl t_splits)), (a_t_torn, .inl (cI, 60, .inl t_torn)), (a_t, .inr (6, [.ref a_t_facts, .ref a_t_splits, .ref a_t_torn, .ref a_t_dropped, .ref a_t_waved, .ref a_t_struck, .ref a_t_strikingOrder, .int t_entered, .int t_strikings]))] := hD
  refine lv_if_eq (tgt := 18) hx hb dX6_tearFrom_5 (by decide) (fun c3 => ?_) (fun c3 => ?_)
  · have h := zz_t h c3
    refine lv_iconst (v := (0 : Int32)) hx hb dX6_tearFrom_18 rfl ?_
    obtain ⟨j0_, g_⟩ := Prod.mk.inj (Option.some.inj h)
    obtain ⟨j1_, g_⟩ := Prod.mk.inj g_
    have j2_ := g_
    subst j0_
    subst j1_
    subst j2_
    exact W.zret (v := (0 : Int32)) hx hb hr rfl (fun t ht hW => ⟨⟨_, (), rfl, rfl, zPost.of hP hD hK ht hW [2, 0, 1] rfl rfl rfl⟩, hS.F ht⟩) hS.2.2 dX6_tearFrom_19
  · have h := zz_f h c3
    refine lv_iload_n hx hb dX6_tearFrom_8 rfl (lv_at hl 2 rfl) ?_
    refine lv_iconst (v := (0 : Int32)) hx hb dX6_tearFrom_9 rfl ?_
    refine lv_bipush (v := (11 : Int32)) hx hb dX6_tearFrom_10 rfl ?_
    obtain ⟨b4, e5, h⟩ := zz_b h
    refine zNi (As := [.int x2, .int (0 : Int32), .int (11 : Int32)]) (rest := []) (host := "RunDesk") (wr := [(a_t_splits, .inl (cI, 720, .inl t_splits)), (a_t_torn, .inl (cI, 60, .inl t_torn)), (a_t, .inr (6, [.ref a_t_facts, .ref a_t_splits, .ref a_t_torn, .ref a_t_dropped, .ref a_t_waved, .ref a_t_struck, .ref a_t_strikingOrder, .int t_entered, .int t_strikings]))]) [] [0, 1, 2] ⟨hx, hb, hml, hown, hts⟩ (mX10_within l D cB cI cZ H.size x2 (0 : Int32) (11 : Int32) b4 e5) ⟨va_cnB 3 hts gX6_tearFrom_X10_within_n49 rfl rfl rfl (hN _ (List.mem_of_getElem? (i := 24) rfl)) (hts _ kX6_tearFrom_0) (by decide +kernel) ⟨Nat.le_of_ble_eq_true rfl, Nat.le_of_ble_eq_true rfl⟩, (hts _ kX6_tearFrom_1), trivial⟩ hK hN hZ hP hD hS hA rfl rfl rfl rfl rfl rfl hl.1 rfl (lv_room (Nat.le_of_ble_eq_true rfl)) dX6_tearFrom_12 ⟨Nat.le_of_ble_eq_true rfl, Nat.le_of_ble_eq_true rfl⟩ (fun H locs hP hD hS => ?_)
    have hP : va_P D vwCl [(a_t_splits, .inl (cI, 720, .inl t_splits)), (a_t_torn, .inl (cI, 60, .inl t_torn)), (a_t, .inr (6, [.ref a_t_facts, .ref a_t_splits, .ref a_t_torn, .ref a_t_dropped, .ref a_t_waved, .ref a_t_struck, .ref a_t_strikingOrder, .int t_entered, .int t_strikings]))] H := hP
    have hD : va_D A [(a_t_splits, .inl (cI, 720, .inl t_splits)), (a_t_torn, .inl (cI, 60, .inl t_torn)), (a_t, .inr (6, [.ref a_t_facts, .ref a_t_splits, .ref a_t_torn, .ref a_t_dropped, .ref a_t_waved, .ref a_t_struck, .ref a_t_strikingOrder, .int t_entered, .int t_strikings]))] := hD
    refine lv_if_ne (tgt := 20) hx hb dX6_tearFrom_15 (by decide) (fun c6 => ?_) (fun c6 => ?_)
    · have h := zz_f h c6
      refine lv_aload_n hx hb dX6_tearFrom_20 rfl (lv_at hl 0 rfl) ?_
      refine lv_iload_n hx hb dX6_tearFrom_21 rfl (lv_at hl 1 rfl) ?_
      refine lv_iload_n hx hb dX6_tearFrom_22 rfl (lv_at hl 2 rfl) ?_
      obtain ⟨b7, e8, h⟩ := zz_b h
      refine zVi (As := [.int x1, .int x2]) (rest := []) (C := RX6) (wr := [(a_t_splits, .inl (cI, 720, .inl t_splits))]) [2, 1] [0] 0 ⟨hx, hb, hml, hown, hts⟩ (mX6_isTorn l D cB cI cZ a_t a_t_facts a_t_splits a_t_torn a_t_dropped a_t_waved a_t_struck a_t_strikingOrder t_entered t_strikings t_torn H.size x1 x2 b7 e8) (cwV 2 hts gX6_tearFrom_X6_isTorn rfl rfl rfl (by decide +kernel) ⟨Nat.le_of_ble_eq_true rfl, Nat.le_of_ble_eq_true rfl⟩) hK hN hZ hP hD hS hA rfl rfl rfl rfl rfl rfl rfl rfl hl.1 rfl (lv_room (Nat.le_of_ble_eq_true rfl)) dX6_tearFrom_23 ⟨Nat.le_of_ble_eq_true rfl, Nat.le_of_ble_eq_true rfl⟩ (fun H locs hP hD hS => ?_)
      have hP : va_P D vwCl [(a_t_splits, .inl (cI, 720, .inl t_splits)), (a_t, .inr (6, [.ref a_t_facts, .ref a_t_splits, .ref a_t_torn, .ref a_t_dropped, .ref a_t_waved, .ref a_t_struck, .ref a_t_strikingOrder, .int t_entered, .int t_strikings])), (a_t_torn, .inl (cI, 60, .inl t_torn))] H := hP
      have hD : va_D A [(a_t_splits, .inl (cI, 720, .inl t_splits)), (a_t, .inr (6, [.ref a_t_facts, .ref a_t_splits, .ref a_t_torn, .ref a_t_dropped, .ref a_t_waved, .ref a_t_struck, .ref a_t_strikingOrder, .int t_entered, .int t_strikings])), (a_t_torn, .inl (cI, 60, .inl t_torn))] := hD
      have J36 : ∀ (t_torn_j36 : Nat → Int32) (H : Heap) (locs : List Loc) (ls : Array Slot), fX6_tearFrom_J36 N t_splits x1 x2 t_torn_j36 = some (b0, t_splits', t_torn') → va_P D vwCl [(a_t_splits, .inl (cI, 720, .inl t_splits)), (a_t, .inr (6, [.ref a_t_facts, .ref a_t_splits, .ref a_t_torn, .ref a_t_dropped, .ref a_t_waved, .ref a_t_struck, .ref a_t_strikingOrder, .int t_entered, .int t_strikings])), (a_t_torn, .inl (cI, 60, .inl t_torn_j36))] H → va_D A [(a_t_splits, .inl (cI, 720, .inl t_splits)), (a_t, .inr (6, [.ref a_t_facts, .ref a_t_splits, .ref a_t_torn, .ref a_t_dropped, .ref a_t_waved, .ref a_t_struck, .ref a_t_strikingOrder, .int t_entered, .int t_strikings])), (a_t_torn, .inl (cI, 60, .inl t_torn_j36))] → va_S A s.heap H locs → lv_has ls 4 [(0, .ref a_t), (1, .int x1), (2, .int x2)] → W p l e (headSpec wsX6_tearFrom ({ frames := 3, cells := 0, slots := 0, locals := 65 } : Room)).room s m #[Value.ref a_t, Value.int x1, Value.int x2] below meth c H locs 0 0 (MQ below (zQi (zb b0) D (zT cB cI cZ) [(a_t, .inr (6, [.ref a_t_facts, .ref a_t_splits, .ref a_t_torn, .ref a_t_dropped, .ref a_t_waved, .ref a_t_struck, .ref a_t_strikingOrder, .int t_entered, .int t_strikings])), (a_t_splits, .inl (cI, 720, .inl t_splits')), (a_t_torn, .inl (cI, 60, .inl t_torn'))] A) #[Value.ref a_t, Value.int x1, Value.int x2] s 0 0 A) (F0 m 36 ls []) := by
        intro t_torn_j36 H locs ls h hP hD hS hl
        unfold fX6_tearFrom_J36 at h
        refine lv_iload_n hx hb dX6_tearFrom_36 rfl (lv_at hl 2 rfl) ?_
        refine lv_istore_n (lv' := [(3, .int x2), (0, .ref a_t), (1, .int x1), (2, .int x2)]) hx hb dX6_tearFrom_37 rfl hl (by decide) rfl (fun ls hl => ?_)
        have X38_62 : ∀ (v3_38 : Int32) (t_splits_l38 : Nat → Int32) (H : Heap) (locs : List Loc) (ls : Array Slot), some (true, t_splits_l38, t_torn_j36) = some (b0, t_splits', t_torn') → va_P D vwCl [(a_t_splits, .inl (cI, 720, .inl t_splits_l38)), (a_t, .inr (6, [.ref a_t_facts, .ref a_t_splits, .ref a_t_torn, .ref a_t_dropped, .ref a_t_waved, .ref a_t_struck, .ref a_t_strikingOrder, .int t_entered, .int t_strikings])), (a_t_torn, .inl (cI, 60, .inl t_torn_j36))] H → va_D A [(a_t_splits, .inl (cI, 720, .inl t_splits_l38)), (a_t, .inr (6, [.ref a_t_facts, .ref a_t_splits, .ref a_t_torn, .ref a_t_dropped, .ref a_t_waved, .ref a_t_struck, .ref a_t_strikingOrder, .int t_entered, .int t_strikings])), (a_t_torn, .inl (cI, 60, .inl t_torn_j36))] → va_S A s.heap H locs → lv_has ls 4 [(3, .int v3_38), (0, .ref a_t), (1, .int x1), (2, .int x2)] → W p l e (headSpec wsX6_tearFrom ({ frames := 3, cells := 0, slots := 0, locals := 65 } : Room)).room s m #[Value.ref a_t, Value.int x1, Value.int x2] below meth c H locs 0 0 (MQ below (zQi (zb b0) D (zT cB cI cZ) [(a_t, .inr (6, [.ref a_t_facts, .ref a_t_splits, .ref a_t_torn, .ref a_t_dropped, .ref a_t_waved, .ref a_t_struck, .ref a_t_strikingOrder, .int t_entered, .int t_strikings])), (a_t_splits, .inl (cI, 720, .inl t_splits')), (a_t_torn, .inl (cI, 60, .inl t_torn'))] A) #[Value.ref a_t, Value.int x1, Value.int x2] s 0 0 A) (F0 m 62 ls []) := by
          intro v3_38 t_splits_l38 H locs ls h hP hD hS hl
          refine lv_iconst (v := (1 : Int32)) hx hb dX6_tearFrom_62 rfl ?_
          obtain ⟨j0_, g_⟩ := Prod.mk.inj (Option.some.inj h)
          obtain ⟨j1_, g_⟩ := Prod.mk.inj g_
          have j2_ := g_
          subst j0_
          subst j1_
          subst j2_
          exact W.zret (v := (1 : Int32)) hx hb hr rfl (fun t ht hW => ⟨⟨_, (), rfl, rfl, zPost.of hP hD hK ht hW [1, 0, 2] rfl rfl rfl⟩, hS.F ht⟩) hS.2.2 dX6_tearFrom_63
        have L38 : ∀ (n : Nat) (v3_38 : Int32) (t_splits_l38 : Nat → Int32) (H : Heap) (locs : List Loc) (ls : Array Slot), fX6_tearFrom_L38 x1 (fun (v3_38 : Int32) (t_splits_l38 : Nat → Int32) => some (true, t_splits_l38, t_torn_j36)) n v3_38 t_splits_l38 = some (b0, t_splits', t_torn') → va_P D vwCl [(a_t_splits, .inl (cI, 720, .inl t_splits_l38)), (a_t, .inr (6, [.ref a_t_facts, .ref a_t_splits, .ref a_t_torn, .ref a_t_dropped, .ref a_t_waved, .ref a_t_struck, .ref a_t_strikingOrder, .int t_entered, .int t_strikings])), (a_t_torn, .inl (cI, 60, .inl t_torn_j36))] H → va_D A [(a_t_splits, .inl (cI, 720, .inl t_splits_l38)), (a_t, .inr (6, [.ref a_t_facts, .ref a_t_splits, .ref a_t_torn, .ref a_t_dropped, .ref a_t_waved, .ref a_t_struck, .ref a_t_strikingOrder, .int t_entered, .int t_strikings])), (a_t_torn, .inl (cI, 60, .inl t_torn_j36))] → va_S A s.heap H locs → lv_has ls 4 [(3, .int v3_38), (0, .ref a_t), (1, .int x1), (2, .int x2)] → W p l e (headSpec wsX6_tearFrom ({ frames := 3, cells := 0, slots := 0, locals := 65 } : Room)).room s m #[Value.ref a_t, Value.int x1, Value.int x2] below meth c H locs 0 0 (MQ below (zQi (zb b0) D (zT cB cI cZ) [(a_t, .inr (6, [.ref a_t_facts, .ref a_t_splits, .ref a_t_torn, .ref a_t_dropped, .ref a_t_waved, .ref a_t_struck, .ref a_t_strikingOrder, .int t_entered, .int t_strikings])), (a_t_splits, .inl (cI, 720, .inl t_splits')), (a_t_torn, .inl (cI, 60, .inl t_torn'))] A) #[Value.ref a_t, Value.int x1, Value.int x2] s 0 0 A) (F0 m 38 ls []) := by
          intro n
          induction n with
          | zero => intro _ _ H locs ls h hP hD hS hl; cases h
          | succ n38 ih38 =>
            intro v3_38 t_splits_l38 H locs ls h hP hD hS hl
            rw [fX6_tearFrom_L38.eq_2] at h
            refine lv_iload_n hx hb dX6_tearFrom_38 rfl (lv_at hl 0 rfl) ?_
            refine lv_bipush (v := (12 : Int32)) hx hb dX6_tearFrom_39 rfl ?_
            refine lv_icmp_ge (tgt := 62) hx hb dX6_tearFrom_41 (by decide) (fun c9 => ?_) (fun c9 => ?_)
            · have h := zz_t h c9
              exact X38_62 v3_38 t_splits_l38 _ _ _ h (hP.sub [0, 1, 2] rfl) (hD.sub [0, 1, 2] rfl rfl) hS (lv_sub hl [0, 1, 2, 3] rfl)
            · have h := zz_f h c9
              refine lv_aload_n hx hb dX6_tearFrom_44 rfl (lv_at hl 1 rfl) ?_
              refine va_get (D := D) (ci := 6) (C := RX6) (T := TX6) (N := 9) hx hb hts qX6_tearFrom_X6 hown hK hP 1 rfl rfl 1 (by decide) (hts _ kX6_tearFrom_4) (fun _ h9 => h9) rfl dX6_tearFrom_45 ?_
              refine lv_iload_n hx hb dX6_tearFrom_48 rfl (lv_at hl 2 rfl) ?_
              refine lv_bipush (v := (12 : Int32)) hx hb dX6_tearFrom_49 rfl ?_
              refine lv_imul hx hb dX6_tearFrom_51 ?_
              refine lv_iload_n hx hb dX6_tearFrom_52 rfl (lv_at hl 0 rfl) ?_
              refine lv_iadd hx hb dX6_tearFrom_53 ?_
              refine lv_iconst (v := (-1 : Int32)) hx hb dX6_tearFrom_54 rfl ?_
              obtain ⟨i10, h⟩ := zz_i h
              refine va_iast hx hb hK hP hD hS 0 1 rfl rfl i10 dX6_tearFrom_55 (fun H locs hP hD hS => ?_)
              have hP : va_P D vwCl [(a_t_splits, .inl (cI, 720, .inl (upd t_splits_l38 (((x1 * (12 : Int32)) + v3_38)).toNatClampNeg (-1 : Int32)))), (a_t, .inr (6, [.ref a_t_facts, .ref a_t_splits, .ref a_t_torn, .ref a_t_dropped, .ref a_t_waved, .ref a_t_struck, .ref a_t_strikingOrder, .int t_entered, .int t_strikings])), (a_t_torn, .inl (cI, 60, .inl t_torn_j36))] H := hP
              have hD : va_D A [(a_t_splits, .inl (cI, 720, .inl (upd t_splits_l38 (((x1 * (12 : Int32)) + v3_38)).toNatClampNeg (-1 : Int32)))), (a_t, .inr (6, [.ref a_t_facts, .ref a_t_splits, .ref a_t_torn, .ref a_t_dropped, .ref a_t_waved, .ref a_t_struck, .ref a_t_strikingOrder, .int t_entered, .int t_strikings])), (a_t_torn, .inl (cI, 60, .inl t_torn_j36))] := hD
              refine lv_iinc (v := (v3_38 + (1 : Int32))) (lv' := [(3, .int (v3_38 + (1 : Int32))), (0, .ref a_t), (1, .int x1), (2, .int x2)]) hx hb dX6_tearFrom_56 hl (k := 0) rfl rfl (by decide) rfl (fun ls hl => ?_)
              refine lv_goto (tgt := 38) hx hb dX6_tearFrom_59 (by decide) ?_
              exact ih38 (v3_38 + (1 : Int32)) (upd t_splits_l38 (((x1 * (12 : Int32)) + v3_38)).toNatClampNeg (-1 : Int32)) _ _ _ h (hP.sub [0, 1, 2] rfl) (hD.sub [0, 1, 2] rfl rfl) hS (lv_sub hl [0, 1, 2, 3] rfl)
        exact L38 N x2 t_splits _ _ _ h hP hD hS hl
      refine lv_if_ne (tgt := 36) hx hb dX6_tearFrom_26 (by decide) (fun c11 => ?_) (fun c11 => ?_)
      · have h := zz_f h c11
        exact J36 t_torn _ _ _ h (hP.sub [0, 1, 2] rfl) (hD.sub [0, 1, 2] rfl rfl) hS (lv_sub hl [0, 1, 2] rfl)
      · have h := zz_t h c11
        refine lv_aload_n hx hb dX6_tearFrom_29 rfl (lv_at hl 0 rfl) ?_
        refine va_get (D := D) (ci := 6) (C := RX6) (T := TX6) (N := 9) hx hb hts qX6_tearFrom_X6 hown hK hP 1 rfl rfl 2 (by decide) (hts _ kX6_tearFrom_2) (fun _ h9 => h9) rfl dX6_tearFrom_30 ?_
        refine lv_iload_n hx hb dX6_tearFrom_33 rfl (lv_at hl 1 rfl) ?_
        refine lv_iload_n hx hb dX6_tearFrom_34 rfl (lv_at hl 2 rfl) ?_
        obtain ⟨i12, h⟩ := zz_i h
        refine va_iast hx hb hK hP hD hS 2 1 rfl rfl i12 dX6_tearFrom_35 (fun H locs hP hD hS => ?_)
        have hP : va_P D vwCl [(a_t_splits, .inl (cI, 720, .inl t_splits)), (a_t, .inr (6, [.ref a_t_facts, .ref a_t_splits, .ref a_t_torn, .ref a_t_dropped, .ref a_t_waved, .ref a_t_struck, .ref a_t_strikingOrder, .int t_entered, .int t_strikings])), (a_t_torn, .inl (cI, 60, .inl (upd t_torn (x1).toNatClampNeg x2)))] H := hP
        have hD : va_D A [(a_t_splits, .inl (cI, 720, .inl t_splits)), (a_t, .inr (6, [.ref a_t_facts, .ref a_t_splits, .ref a_t_torn, .ref a_t_dropped, .ref a_t_waved, .ref a_t_struck, .ref a_t_strikingOrder, .int t_entered, .int t_strikings])), (a_t_torn, .inl (cI, 60, .inl (upd t_torn (x1).toNatClampNeg x2)))] := hD
        exact J36 (upd t_torn (x1).toNatClampNeg x2) _ _ _ h (hP.sub [0, 1, 2] rfl) (hD.sub [0, 1, 2] rfl rfl) hS (lv_sub hl [0, 1, 2] rfl)
    · have h := zz_t h c6
      refine lv_iconst (v := (0 : Int32)) hx hb dX6_tearFrom_18 rfl ?_
      obtain ⟨j0_, g_⟩ := Prod.mk.inj (Option.some.inj h)
      obtain ⟨j1_, g_⟩ := Prod.mk.inj g_
      have j2_ := g_
      subst j0_
      subst j1_
      subst j2_
      exact W.zret (v := (0 : Int32)) hx hb hr rfl (fun t ht hW => ⟨⟨_, (), rfl, rfl, zPost.of hP hD hK ht hW [2, 0, 1] rfl rfl rfl⟩, hS.F ht⟩) hS.2.2 dX6_tearFrom_19
/-! RunDesk$Runners.setDropped -/
theorem dX6_setDropped_0 : decode cX6_setDropped 0 = .ok (.aload_n 0, 1) := by decide +kernel
theorem dX6_setDropped_1 : decode cX6_setDropped 1 = .ok (.iload_n 1, 1) := by decide +kernel
theorem dX6_setDropped_2 : decode cX6_setDropped 2 = .ok (.invokevirtual 41, 3) := by decide +kernel
theorem dX6_setDropped_5 : decode cX6_setDropped 5 = .ok (.ifCond .ne 5, 3) := by decide +kernel
theorem dX6_setDropped_8 : decode cX6_setDropped 8 = .ok (.iconst 0, 1) := by decide +kernel
theorem dX6_setDropped_9 : decode cX6_setDropped 9 = .ok (.ireturn, 1) := by decide +kernel
theorem dX6_setDropped_10 : decode cX6_setDropped 10 = .ok (.aload_n 0, 1) := by decide +kernel
theorem dX6_setDropped_11 : decode cX6_setDropped 11 = .ok (.getfield 21, 3) := by decide +kernel
theorem dX6_setDropped_14 : decode cX6_setDropped 14 = .ok (.iload_n 1, 1) := by decide +kernel
theorem dX6_setDropped_15 : decode cX6_setDropped 15 = .ok (.iload_n 2, 1) := by decide +kernel
theorem dX6_setDropped_16 : decode cX6_setDropped 16 = .ok (.bastore, 1) := by decide +kernel
theorem dX6_setDropped_17 : decode cX6_setDropped 17 = .ok (.iconst 1, 1) := by decide +kernel
theorem dX6_setDropped_18 : decode cX6_setDropped 18 = .ok (.ireturn, 1) := by decide +kernel
set_option maxRecDepth 20000 in
theorem ggX6_setDropped_X6_has : GoodIn wsX6_setDropped wsX6_has := goodIn_r _ [6, 7, 8, 9, 10, 11, 12, 13, 14, 15, 16] (by decide +kernel) (by decide +kernel)
set_option maxRecDepth 20000 in
theorem gX6_setDropped_X6_has : GoodIn wsX6_setDropped (wsV RX6 41 RX6 yX6_has wsX6_has) := goodIn_app (goodIn_of _ (by decide +kernel)) ggX6_setDropped_X6_has
def fX6_setDropped (t_entered : Int32) (t_dropped : Nat → Int32) (x1 : Int32) (x2 : Int32) : Option (Bool × (Nat → Int32)) := ((fX6_has t_entered x1).bind (fun b1 => (if (zb b1) = 0 then some (false, t_dropped) else (if zin x1 60 then some (true, (upd t_dropped (x1).toNatClampNeg (vp_nar .boolean x2))) else none))))
theorem kX6_setDropped_0 : (.fieldLink RX6 21 "RunDesk$Runners" "dropped" "[Z" : Cond) ∈ wsX6_setDropped := List.mem_of_getElem? (i := 1) (by decide +kernel)
theorem qX6_setDropped_X6 : ∀ w ∈ wsX60, w ∈ wsX6_setDropped := fun _ h => List.mem_cons_of_mem _ (List.mem_append_right _ (h))
set_option maxHeartbeats 4000000 in
set_option maxRecDepth 100000 in
theorem mX6_setDropped (l : Launch) (D : va_G) (cB cI cZ : ClassId) (a_t : Nat) (a_t_facts : Nat) (a_t_splits : Nat) (a_t_torn : Nat) (a_t_dropped : Nat) (a_t_waved : Nat) (a_t_struck : Nat) (a_t_strikingOrder : Nat) (t_entered : Int32) (t_strikings : Int32) (t_dropped : Nat → Int32) (sz : Nat) (x1 : Int32) (x2 : Int32) (b0 : Bool) (t_dropped' : Nat → Int32) (h : fX6_setDropped t_entered t_dropped x1 x2 = some (b0, t_dropped')) : Met l yX6_setDropped wsX6_setDropped ({ frames := 1, cells := 0, slots := 0, locals := 21 } : Room) (va_Pc [.ref a_t, .int x1, .int x2] (zPre D (zT cB cI cZ) [(a_t, .inr (6, [.ref a_t_facts, .ref a_t_splits, .ref a_t_torn, .ref a_t_dropped, .ref a_t_waved, .ref a_t_struck, .ref a_t_strikingOrder, .int t_entered, .int t_strikings])), (a_t_dropped, .inl (cZ, 60, .inl t_dropped))] sz)) (zQi (zb b0) D (zT cB cI cZ) [(a_t, .inr (6, [.ref a_t_facts, .ref a_t_splits, .ref a_t_torn, .ref a_t_dropped, .ref a_t_waved, .ref a_t_struck, .ref a_t_strikingOrder, .int t_entered, .int t_strikings])), (a_t_dropped, .inl (cZ, 60, .inl t_dropped'))] (va_A [(a_t, .inr (6, [.ref a_t_facts, .ref a_t_splits, .ref a_t_torn, .ref a_t_dropped, .ref a_t_waved, .ref a_t_struck, .ref a_t_strikingOrder, .int t_entered, .int t_strikings])), (a_t_dropped, .inl (cZ, 60, .inl t_dropped))] sz)) 0 0 (va_A [(a_t, .inr (6, [.ref a_t_facts, .ref a_t_splits, .ref a_t_torn, .ref a_t_dropped, .ref a_t_waved, .ref a_t_struck, .ref a_t_strikingOrder, .int t_entered, .int t_strikings])), (a_t_dropped, .inl (cZ, 60, .inl t_dropped))] sz) := by
  refine Met.ofW (cc := cX6_setDropped) (maxL := 3) (ret := (some .boolean)) (by decide) rfl ?_
  intro p e s m args below meth c s₁ B hml hv
  obtain ⟨rfl, hsz, hP, hK, hN, hZ, hD0⟩ := hv
  have hx := B.exec
  have hb := B.bytes
  have hr := B.returns
  have hts := atoms_spec (ws := wsX6_setDropped) B.pre
  have hown : s.vm.findClass RX6 = some m.cls := findClass_of_methodNamed B.named
  have hlocks := B.notSynchronized
  subst hsz
  have hD := hD0.self (sz := s.heap.size)
  generalize hAe : va_A [(a_t, .inr (6, [.ref a_t_facts, .ref a_t_splits, .ref a_t_torn, .ref a_t_dropped, .ref a_t_waved, .ref a_t_struck, .ref a_t_strikingOrder, .int t_entered, .int t_strikings])), (a_t_dropped, .inl (cZ, 60, .inl t_dropped))] s.heap.size = A at hD hZ ⊢
  have hA : ∀ q : Nat, s.heap.size ≤ q → A q := fun q h => by rw [← hAe]; exact Or.inr h
  have hS : va_S A s.heap s.heap [] := va_S.rf
  have hl := lv_entry ([.ref a_t, .int x1, .int x2]) (n := 3) (Nat.le_of_ble_eq_true rfl)
  rw [lg_entry_eq]
  generalize (lg_sl ([.ref a_t, .int x1, .int x2]) ++ List.replicate (3 - (lg_sl ([.ref a_t, .int x1, .int x2])).length) Slot.unset).toArray = ls at hl ⊢
  have hl : lv_has ls 3 [(0, .ref a_t), (1, .int x1), (2, .int x2)] := hl
  unfold fX6_setDropped at h
  refine lv_aload_n hx hb dX6_setDropped_0 rfl (lv_at hl 0 rfl) ?_
  refine lv_iload_n hx hb dX6_setDropped_1 rfl (lv_at hl 1 rfl) ?_
  obtain ⟨b1, e2, h⟩ := zz_b h
  refine zVi (As := [.int x1]) (rest := []) (C := RX6) (wr := [(a_t_dropped, .inl (cZ, 60, .inl t_dropped))]) [0] [1] 0 ⟨hx, hb, hml, hown, hts⟩ (mX6_has l D cB cI cZ a_t a_t_facts a_t_splits a_t_torn a_t_dropped a_t_waved a_t_struck a_t_strikingOrder t_entered t_strikings s.heap.size x1 b1 e2) (cwV 1 hts gX6_setDropped_X6_has rfl rfl rfl (by decide +kernel) ⟨Nat.le_of_ble_eq_true rfl, Nat.le_of_ble_eq_true rfl⟩) hK hN hZ hP hD hS hA rfl rfl rfl rfl rfl rfl rfl rfl hl.1 rfl (lv_room (Nat.le_of_ble_eq_true rfl)) dX6_setDropped_2 ⟨Nat.le_of_ble_eq_true rfl, Nat.le_of_ble_eq_true rfl⟩ (fun H locs hP hD hS => ?_)
  have hP : va_P D vwCl [(a_t_dropped, .inl (cZ, 60, .inl t_dropped)), (a_t, .inr (6, [.ref a_t_facts, .ref a_t_splits, .ref a_t_torn, .ref a_t_dropped, .ref a_t_waved, .ref a_t_struck, .ref a_t_strikingOrder, .int t_entered, .int t_strikings]))] H := hP
  have hD : va_D A [(a_t_dropped, .inl (cZ, 60, .inl t_dropped)), (a_t, .inr (6, [.ref a_t_facts, .ref a_t_splits, .ref a_t_torn, .ref a_t_dropped, .ref a_t_waved, .ref a_t_struck, .ref a_t_strikingOrder, .int t_entered, .int t_strikings]))] := hD
  refine lv_if_ne (tgt := 10) hx hb dX6_setDropped_5 (by decide) (fun c3 => ?_) (fun c3 => ?_)
  · have h := zz_f h c3
    refine lv_aload_n hx hb dX6_setDropped_10 rfl (lv_at hl 0 rfl) ?_
    refine va_get (D := D) (ci := 6) (C := RX6) (T := TX6) (N := 9) hx hb hts qX6_setDropped_X6 hown hK hP 1 rfl rfl 3 (by decide) (hts _ kX6_setDropped_0) (fun _ h9 => h9) rfl dX6_setDropped_11 ?_
    refine lv_iload_n hx hb dX6_setDropped_14 rfl (lv_at hl 1 rfl) ?_
    refine lv_iload_n hx hb dX6_setDropped_15 rfl (lv_at hl 2 rfl) ?_
    obtain ⟨i4, h⟩ := zz_i h
    refine va_zast hx hb hK hP hD hS 0 2 rfl rfl i4 dX6_setDropped_16 (fun H locs hP hD hS => ?_)
    have hP : va_P D vwCl [(a_t_dropped, .inl (cZ, 60, .inl (upd t_dropped (x1).toNatClampNeg (vp_nar .boolean x2)))), (a_t, .inr (6, [.ref a_t_facts, .ref a_t_splits, .ref a_t_torn, .ref a_t_dropped, .ref a_t_waved, .ref a_t_struck, .ref a_t_strikingOrder, .int t_entered, .int t_strikings]))] H := hP
    have hD : va_D A [(a_t_dropped, .inl (cZ, 60, .inl (upd t_dropped (x1).toNatClampNeg (vp_nar .boolean x2)))), (a_t, .inr (6, [.ref a_t_facts, .ref a_t_splits, .ref a_t_torn, .ref a_t_dropped, .ref a_t_waved, .ref a_t_struck, .ref a_t_strikingOrder, .int t_entered, .int t_strikings]))] := hD
    refine lv_iconst (v := (1 : Int32)) hx hb dX6_setDropped_17 rfl ?_
    obtain ⟨j0_, g_⟩ := Prod.mk.inj (Option.some.inj h)
    have j1_ := g_
    subst j0_
    subst j1_
    exact W.zret (v := (1 : Int32)) hx hb hr rfl (fun t ht hW => ⟨⟨_, (), rfl, rfl, zPost.of hP hD hK ht hW [1, 0] rfl rfl rfl⟩, hS.F ht⟩) hS.2.2 dX6_setDropped_18
  · have h := zz_t h c3
    refine lv_iconst (v := (0 : Int32)) hx hb dX6_setDropped_8 rfl ?_
    obtain ⟨j0_, g_⟩ := Prod.mk.inj (Option.some.inj h)
    have j1_ := g_
    subst j0_
    subst j1_
    exact W.zret (v := (0 : Int32)) hx hb hr rfl (fun t ht hW => ⟨⟨_, (), rfl, rfl, zPost.of hP hD hK ht hW [1, 0] rfl rfl rfl⟩, hS.F ht⟩) hS.2.2 dX6_setDropped_9
/-! RunDesk$Runners.setWaved -/
theorem dX6_setWaved_0 : decode cX6_setWaved 0 = .ok (.aload_n 0, 1) := by decide +kernel
theorem dX6_setWaved_1 : decode cX6_setWaved 1 = .ok (.iload_n 1, 1) := by decide +kernel
theorem dX6_setWaved_2 : decode cX6_setWaved 2 = .ok (.invokevirtual 41, 3) := by decide +kernel
theorem dX6_setWaved_5 : decode cX6_setWaved 5 = .ok (.ifCond .ne 5, 3) := by decide +kernel
theorem dX6_setWaved_8 : decode cX6_setWaved 8 = .ok (.iconst 0, 1) := by decide +kernel
theorem dX6_setWaved_9 : decode cX6_setWaved 9 = .ok (.ireturn, 1) := by decide +kernel
theorem dX6_setWaved_10 : decode cX6_setWaved 10 = .ok (.aload_n 0, 1) := by decide +kernel
theorem dX6_setWaved_11 : decode cX6_setWaved 11 = .ok (.getfield 25, 3) := by decide +kernel
theorem dX6_setWaved_14 : decode cX6_setWaved 14 = .ok (.iload_n 1, 1) := by decide +kernel
theorem dX6_setWaved_15 : decode cX6_setWaved 15 = .ok (.iload_n 2, 1) := by decide +kernel
theorem dX6_setWaved_16 : decode cX6_setWaved 16 = .ok (.bastore, 1) := by decide +kernel
theorem dX6_setWaved_17 : decode cX6_setWaved 17 = .ok (.iconst 1, 1) := by decide +kernel
theorem dX6_setWaved_18 : decode cX6_setWaved 18 = .ok (.ireturn, 1) := by decide +kernel
set_option maxRecDepth 20000 in
theorem ggX6_setWaved_X6_has : GoodIn wsX6_setWaved wsX6_has := goodIn_r _ [6, 7, 8, 9, 10, 11, 12, 13, 14, 15, 16] (by decide +kernel) (by decide +kernel)
set_option maxRecDepth 20000 in
theorem gX6_setWaved_X6_has : GoodIn wsX6_setWaved (wsV RX6 41 RX6 yX6_has wsX6_has) := goodIn_app (goodIn_of _ (by decide +kernel)) ggX6_setWaved_X6_has
def fX6_setWaved (t_entered : Int32) (t_waved : Nat → Int32) (x1 : Int32) (x2 : Int32) : Option (Bool × (Nat → Int32)) := ((fX6_has t_entered x1).bind (fun b1 => (if (zb b1) = 0 then some (false, t_waved) else (if zin x1 60 then some (true, (upd t_waved (x1).toNatClampNeg (vp_nar .boolean x2))) else none))))
theorem kX6_setWaved_0 : (.fieldLink RX6 25 "RunDesk$Runners" "waved" "[Z" : Cond) ∈ wsX6_setWaved := List.mem_of_getElem? (i := 1) (by decide +kernel)
theorem qX6_setWaved_X6 : ∀ w ∈ wsX60, w ∈ wsX6_setWaved := fun _ h => List.mem_cons_of_mem _ (List.mem_append_right _ (h))
set_option maxHeartbeats 4000000 in
set_option maxRecDepth 100000 in
theorem mX6_setWaved (l : Launch) (D : va_G) (cB cI cZ : ClassId) (a_t : Nat) (a_t_facts : Nat) (a_t_splits : Nat) (a_t_torn : Nat) (a_t_dropped : Nat) (a_t_waved : Nat) (a_t_struck : Nat) (a_t_strikingOrder : Nat) (t_entered : Int32) (t_strikings : Int32) (t_waved : Nat → Int32) (sz : Nat) (x1 : Int32) (x2 : Int32) (b0 : Bool) (t_waved' : Nat → Int32) (h : fX6_setWaved t_entered t_waved x1 x2 = some (b0, t_waved')) : Met l yX6_setWaved wsX6_setWaved ({ frames := 1, cells := 0, slots := 0, locals := 21 } : Room) (va_Pc [.ref a_t, .int x1, .int x2] (zPre D (zT cB cI cZ) [(a_t, .inr (6, [.ref a_t_facts, .ref a_t_splits, .ref a_t_torn, .ref a_t_dropped, .ref a_t_waved, .ref a_t_struck, .ref a_t_strikingOrder, .int t_entered, .int t_strikings])), (a_t_waved, .inl (cZ, 60, .inl t_waved))] sz)) (zQi (zb b0) D (zT cB cI cZ) [(a_t, .inr (6, [.ref a_t_facts, .ref a_t_splits, .ref a_t_torn, .ref a_t_dropped, .ref a_t_waved, .ref a_t_struck, .ref a_t_strikingOrder, .int t_entered, .int t_strikings])), (a_t_waved, .inl (cZ, 60, .inl t_waved'))] (va_A [(a_t, .inr (6, [.ref a_t_facts, .ref a_t_splits, .ref a_t_torn, .ref a_t_dropped, .ref a_t_waved, .ref a_t_struck, .ref a_t_strikingOrder, .int t_entered, .int t_strikings])), (a_t_waved, .inl (cZ, 60, .inl t_waved))] sz)) 0 0 (va_A [(a_t, .inr (6, [.ref a_t_facts, .ref a_t_splits, .ref a_t_torn, .ref a_t_dropped, .ref a_t_waved, .ref a_t_struck, .ref a_t_strikingOrder, .int t_entered, .int t_strikings])), (a_t_waved, .inl (cZ, 60, .inl t_waved))] sz) := by
  refine Met.ofW (cc := cX6_setWaved) (maxL := 3) (ret := (some .boolean)) (by decide) rfl ?_
  intro p e s m args below meth c s₁ B hml hv
  obtain ⟨rfl, hsz, hP, hK, hN, hZ, hD0⟩ := hv
  have hx := B.exec
  have hb := B.bytes
  have hr := B.returns
  have hts := atoms_spec (ws := wsX6_setWaved) B.pre
  have hown : s.vm.findClass RX6 = some m.cls := findClass_of_methodNamed B.named
  have hlocks := B.notSynchronized
  subst hsz
  have hD := hD0.self (sz := s.heap.size)
  generalize hAe : va_A [(a_t, .inr (6, [.ref a_t_facts, .ref a_t_splits, .ref a_t_torn, .ref a_t_dropped, .ref a_t_waved, .ref a_t_struck, .ref a_t_strikingOrder, .int t_entered, .int t_strikings])), (a_t_waved, .inl (cZ, 60, .inl t_waved))] s.heap.size = A at hD hZ ⊢
  have hA : ∀ q : Nat, s.heap.size ≤ q → A q := fun q h => by rw [← hAe]; exact Or.inr h
  have hS : va_S A s.heap s.heap [] := va_S.rf
  have hl := lv_entry ([.ref a_t, .int x1, .int x2]) (n := 3) (Nat.le_of_ble_eq_true rfl)
  rw [lg_entry_eq]
  generalize (lg_sl ([.ref a_t, .int x1, .int x2]) ++ List.replicate (3 - (lg_sl ([.ref a_t, .int x1, .int x2])).length) Slot.unset).toArray = ls at hl ⊢
  have hl : lv_has ls 3 [(0, .ref a_t), (1, .int x1), (2, .int x2)] := hl
  unfold fX6_setWaved at h
  refine lv_aload_n hx hb dX6_setWaved_0 rfl (lv_at hl 0 rfl) ?_
  refine lv_iload_n hx hb dX6_setWaved_1 rfl (lv_at hl 1 rfl) ?_
  obtain ⟨b1, e2, h⟩ := zz_b h
  refine zVi (As := [.int x1]) (rest := []) (C := RX6) (wr := [(a_t_waved, .inl (cZ, 60, .inl t_waved))]) [0] [1] 0 ⟨hx, hb, hml, hown, hts⟩ (mX6_has l D cB cI cZ a_t a_t_facts a_t_splits a_t_torn a_t_dropped a_t_waved a_t_struck a_t_strikingOrder t_entered t_strikings s.heap.size x1 b1 e2) (cwV 1 hts gX6_setWaved_X6_has rfl rfl rfl (by decide +kernel) ⟨Nat.le_of_ble_eq_true rfl, Nat.le_of_ble_eq_true rfl⟩) hK hN hZ hP hD hS hA rfl rfl rfl rfl rfl rfl rfl rfl hl.1 rfl (lv_room (Nat.le_of_ble_eq_true rfl)) dX6_setWaved_2 ⟨Nat.le_of_ble_eq_true rfl, Nat.le_of_ble_eq_true rfl⟩ (fun H locs hP hD hS => ?_)
  have hP : va_P D vwCl [(a_t_waved, .inl (cZ, 60, .inl t_waved)), (a_t, .inr (6, [.ref a_t_facts, .ref a_t_splits, .ref a_t_torn, .ref a_t_dropped, .ref a_t_waved, .ref a_t_struck, .ref a_t_strikingOrder, .int t_entered, .int t_strikings]))] H := hP
  have hD : va_D A [(a_t_waved, .inl (cZ, 60, .inl t_waved)), (a_t, .inr (6, [.ref a_t_facts, .ref a_t_splits, .ref a_t_torn, .ref a_t_dropped, .ref a_t_waved, .ref a_t_struck, .ref a_t_strikingOrder, .int t_entered, .int t_strikings]))] := hD
  refine lv_if_ne (tgt := 10) hx hb dX6_setWaved_5 (by decide) (fun c3 => ?_) (fun c3 => ?_)
  · have h := zz_f h c3
    refine lv_aload_n hx hb dX6_setWaved_10 rfl (lv_at hl 0 rfl) ?_
    refine va_get (D := D) (ci := 6) (C := RX6) (T := TX6) (N := 9) hx hb hts qX6_setWaved_X6 hown hK hP 1 rfl rfl 4 (by decide) (hts _ kX6_setWaved_0) (fun _ h9 => h9) rfl dX6_setWaved_11 ?_
    refine lv_iload_n hx hb dX6_setWaved_14 rfl (lv_at hl 1 rfl) ?_
    refine lv_iload_n hx hb dX6_setWaved_15 rfl (lv_at hl 2 rfl) ?_
    obtain ⟨i4, h⟩ := zz_i h
    refine va_zast hx hb hK hP hD hS 0 2 rfl rfl i4 dX6_setWaved_16 (fun H locs hP hD hS => ?_)
    have hP : va_P D vwCl [(a_t_waved, .inl (cZ, 60, .inl (upd t_waved (x1).toNatClampNeg (vp_nar .boolean x2)))), (a_t, .inr (6, [.ref a_t_facts, .ref a_t_splits, .ref a_t_torn, .ref a_t_dropped, .ref a_t_waved, .ref a_t_struck, .ref a_t_strikingOrder, .int t_entered, .int t_strikings]))] H := hP
    have hD : va_D A [(a_t_waved, .inl (cZ, 60, .inl (upd t_waved (x1).toNatClampNeg (vp_nar .boolean x2)))), (a_t, .inr (6, [.ref a_t_facts, .ref a_t_splits, .ref a_t_torn, .ref a_t_dropped, .ref a_t_waved, .ref a_t_struck, .ref a_t_strikingOrder, .int t_entered, .int t_strikings]))] := hD
    refine lv_iconst (v := (1 : Int32)) hx hb dX6_setWaved_17 rfl ?_
    obtain ⟨j0_, g_⟩ := Prod.mk.inj (Option.some.inj h)
    have j1_ := g_
    subst j0_
    subst j1_
    exact W.zret (v := (1 : Int32)) hx hb hr rfl (fun t ht hW => ⟨⟨_, (), rfl, rfl, zPost.of hP hD hK ht hW [1, 0] rfl rfl rfl⟩, hS.F ht⟩) hS.2.2 dX6_setWaved_18
  · have h := zz_t h c3
    refine lv_iconst (v := (0 : Int32)) hx hb dX6_setWaved_8 rfl ?_
    obtain ⟨j0_, g_⟩ := Prod.mk.inj (Option.some.inj h)
    have j1_ := g_
    subst j0_
    subst j1_
    exact W.zret (v := (0 : Int32)) hx hb hr rfl (fun t ht hW => ⟨⟨_, (), rfl, rfl, zPost.of hP hD hK ht hW [1, 0] rfl rfl rfl⟩, hS.F ht⟩) hS.2.2 dX6_setWaved_9
/-! RunDesk$Runners.strikeOff -/
theorem dX6_strikeOff_0 : decode cX6_strikeOff 0 = .ok (.aload_n 0, 1) := by decide +kernel
theorem dX6_strikeOff_1 : decode cX6_strikeOff 1 = .ok (.iload_n 1, 1) := by decide +kernel
theorem dX6_strikeOff_2 : decode cX6_strikeOff 2 = .ok (.invokevirtual 41, 3) := by decide +kernel
theorem dX6_strikeOff_5 : decode cX6_strikeOff 5 = .ok (.ifCond .eq 25, 3) := by decide +kernel
theorem dX6_strikeOff_8 : decode cX6_strikeOff 8 = .ok (.aload_n 0, 1) := by decide +kernel
theorem dX6_strikeOff_9 : decode cX6_strikeOff 9 = .ok (.getfield 28, 3) := by decide +kernel
theorem dX6_strikeOff_12 : decode cX6_strikeOff 12 = .ok (.iload_n 1, 1) := by decide +kernel
theorem dX6_strikeOff_13 : decode cX6_strikeOff 13 = .ok (.baload, 1) := by decide +kernel
theorem dX6_strikeOff_14 : decode cX6_strikeOff 14 = .ok (.ifCond .ne 16, 3) := by decide +kernel
theorem dX6_strikeOff_17 : decode cX6_strikeOff 17 = .ok (.aload_n 0, 1) := by decide +kernel
theorem dX6_strikeOff_18 : decode cX6_strikeOff 18 = .ok (.getfield 38, 3) := by decide +kernel
theorem dX6_strikeOff_21 : decode cX6_strikeOff 21 = .ok (.iconst 0, 1) := by decide +kernel
theorem dX6_strikeOff_22 : decode cX6_strikeOff 22 = .ok (.bipush 59, 2) := by decide +kernel
theorem dX6_strikeOff_24 : decode cX6_strikeOff 24 = .ok (.invokestatic 49, 3) := by decide +kernel
theorem dX6_strikeOff_27 : decode cX6_strikeOff 27 = .ok (.ifCond .ne 5, 3) := by decide +kernel
theorem dX6_strikeOff_30 : decode cX6_strikeOff 30 = .ok (.iconst 0, 1) := by decide +kernel
theorem dX6_strikeOff_31 : decode cX6_strikeOff 31 = .ok (.ireturn, 1) := by decide +kernel
theorem dX6_strikeOff_32 : decode cX6_strikeOff 32 = .ok (.aload_n 0, 1) := by decide +kernel
theorem dX6_strikeOff_33 : decode cX6_strikeOff 33 = .ok (.getfield 28, 3) := by decide +kernel
theorem dX6_strikeOff_36 : decode cX6_strikeOff 36 = .ok (.iload_n 1, 1) := by decide +kernel
theorem dX6_strikeOff_37 : decode cX6_strikeOff 37 = .ok (.iconst 1, 1) := by decide +kernel
theorem dX6_strikeOff_38 : decode cX6_strikeOff 38 = .ok (.bastore, 1) := by decide +kernel
theorem dX6_strikeOff_39 : decode cX6_strikeOff 39 = .ok (.aload_n 0, 1) := by decide +kernel
theorem dX6_strikeOff_40 : decode cX6_strikeOff 40 = .ok (.getfield 31, 3) := by decide +kernel
theorem dX6_strikeOff_43 : decode cX6_strikeOff 43 = .ok (.aload_n 0, 1) := by decide +kernel
theorem dX6_strikeOff_44 : decode cX6_strikeOff 44 = .ok (.getfield 38, 3) := by decide +kernel
theorem dX6_strikeOff_47 : decode cX6_strikeOff 47 = .ok (.iload_n 1, 1) := by decide +kernel
theorem dX6_strikeOff_48 : decode cX6_strikeOff 48 = .ok (.iastore, 1) := by decide +kernel
theorem dX6_strikeOff_49 : decode cX6_strikeOff 49 = .ok (.aload_n 0, 1) := by decide +kernel
theorem dX6_strikeOff_50 : decode cX6_strikeOff 50 = .ok (.dup, 1) := by decide +kernel
theorem dX6_strikeOff_51 : decode cX6_strikeOff 51 = .ok (.getfield 38, 3) := by decide +kernel
theorem dX6_strikeOff_54 : decode cX6_strikeOff 54 = .ok (.iconst 1, 1) := by decide +kernel
theorem dX6_strikeOff_55 : decode cX6_strikeOff 55 = .ok (.iadd, 1) := by decide +kernel
theorem dX6_strikeOff_56 : decode cX6_strikeOff 56 = .ok (.putfield 38, 3) := by decide +kernel
theorem dX6_strikeOff_59 : decode cX6_strikeOff 59 = .ok (.iconst 1, 1) := by decide +kernel
theorem dX6_strikeOff_60 : decode cX6_strikeOff 60 = .ok (.ireturn, 1) := by decide +kernel
set_option maxRecDepth 20000 in
theorem ggX6_strikeOff_X6_has : GoodIn wsX6_strikeOff wsX6_has := goodIn_r _ [8, 9, 13, 14, 15, 16, 17, 18, 19, 20, 21] (by decide +kernel) (by decide +kernel)
set_option maxRecDepth 20000 in
theorem gX6_strikeOff_X6_has : GoodIn wsX6_strikeOff (wsV RX6 41 RX6 yX6_has wsX6_has) := goodIn_app (goodIn_of _ (by decide +kernel)) ggX6_strikeOff_X6_has
set_option maxRecDepth 20000 in
theorem ggX6_strikeOff_X10_within : GoodIn wsX6_strikeOff wsX10_within := goodIn_r _ [12] (by decide +kernel) (by decide +kernel)
set_option maxRecDepth 20000 in
theorem gX6_strikeOff_X10_within_n49 : GoodIn wsX6_strikeOff (wsX10_within) := ggX6_strikeOff_X10_within
def fX6_strikeOff (t_entered : Int32) (t_strikings : Int32) (t_strikingOrder : Nat → Int32) (t_struck : Nat → Int32) (x1 : Int32) : Option (Bool × Int32 × (Nat → Int32) × (Nat → Int32)) := ((fX6_has t_entered x1).bind (fun b1 => (if (zb b1) = 0 then some (false, t_strikings, t_strikingOrder, t_struck) else (if zin x1 60 then (if (t_struck (x1).toNatClampNeg) = 0 then ((fX10_within t_strikings (0 : Int32) (59 : Int32)).bind (fun b6 => (if (zb b6) = 0 then some (false, t_strikings, t_strikingOrder, t_struck) else (if zin x1 60 then (if zin t_strikings 60 then some (true, (t_strikings + (1 : Int32)), (upd t_strikingOrder (t_strikings).toNatClampNeg x1), (upd t_struck (x1).toNatClampNeg (vp_nar .boolean (1 : Int32)))) else none) else none)))) else some (false, t_strikings, t_strikingOrder, t_struck)) else none))))
theorem kX6_strikeOff_0 : (.fieldLink RX6 28 "RunDesk$Runners" "struck" "[Z" : Cond) ∈ wsX6_strikeOff := List.mem_of_getElem? (i := 1) (by decide +kernel)
theorem qX6_strikeOff_X6 : ∀ w ∈ wsX60, w ∈ wsX6_strikeOff := fun _ h => List.mem_cons_of_mem _ (List.mem_append_right _ (h))
theorem kX6_strikeOff_2 : (.fieldLink RX6 38 "RunDesk$Runners" "strikings" "I" : Cond) ∈ wsX6_strikeOff := List.mem_of_getElem? (i := 2) (by decide +kernel)
theorem kX6_strikeOff_3 : (.initialized RX10 : Cond) ∈ wsX6_strikeOff := List.mem_of_getElem? (i := 11) (by decide +kernel)
theorem kX6_strikeOff_4 : (.static yX10_within : Cond) ∈ wsX6_strikeOff := List.mem_of_getElem? (i := 10) (by decide +kernel)
theorem kX6_strikeOff_5 : (.fieldLink RX6 31 "RunDesk$Runners" "strikingOrder" "[I" : Cond) ∈ wsX6_strikeOff := List.mem_of_getElem? (i := 3) (by decide +kernel)
set_option maxHeartbeats 4000000 in
set_option maxRecDepth 100000 in
theorem mX6_strikeOff (l : Launch) (D : va_G) (cB cI cZ : ClassId) (a_t : Nat) (a_t_facts : Nat) (a_t_splits : Nat) (a_t_torn : Nat) (a_t_dropped : Nat) (a_t_waved : Nat) (a_t_struck : Nat) (a_t_strikingOrder : Nat) (t_entered : Int32) (t_strikings : Int32) (t_strikingOrder : Nat → Int32) (t_struck : Nat → Int32) (sz : Nat) (x1 : Int32) (b0 : Bool) (t_strikings' : Int32) (t_strikingOrder' : Nat → Int32) (t_struck' : Nat → Int32) (h : fX6_strikeOff t_entered t_strikings t_strikingOrder t_struck x1 = some (b0, t_strikings', t_strikingOrder', t_struck')) : Met l yX6_strikeOff wsX6_strikeOff ({ frames := 1, cells := 0, slots := 0, locals := 22 } : Room) (va_Pc [.ref a_t, .int x1] (zPre D (zT cB cI cZ) [(a_t, .inr (6, [.ref a_t_facts, .ref a_t_splits, .ref a_t_torn, .ref a_t_dropped, .ref a_t_waved, .ref a_t_struck, .ref a_t_strikingOrder, .int t_entered, .int t_strikings])), (a_t_strikingOrder, .inl (cI, 60, .inl t_strikingOrder)), (a_t_struck, .inl (cZ, 60, .inl t_struck))] sz)) (zQi (zb b0) D (zT cB cI cZ) [(a_t, .inr (6, [.ref a_t_facts, .ref a_t_splits, .ref a_t_torn, .ref a_t_dropped, .ref a_t_waved, .ref a_t_struck, .ref a_t_strikingOrder, .int t_entered, .int t_strikings'])), (a_t_strikingOrder, .inl (cI, 60, .inl t_strikingOrder')), (a_t_struck, .inl (cZ, 60, .inl t_struck'))] (va_A [(a_t, .inr (6, [.ref a_t_facts, .ref a_t_splits, .ref a_t_torn, .ref a_t_dropped, .ref a_t_waved, .ref a_t_struck, .ref a_t_strikingOrder, .int t_entered, .int t_strikings])), (a_t_strikingOrder, .inl (cI, 60, .inl t_strikingOrder)), (a_t_struck, .inl (cZ, 60, .inl t_struck))] sz)) 0 0 (va_A [(a_t, .inr (6, [.ref a_t_facts, .ref a_t_splits, .ref a_t_torn, .ref a_t_dropped, .ref a_t_waved, .ref a_t_struck, .ref a_t_strikingOrder, .int t_entered, .int t_strikings])), (a_t_strikingOrder, .inl (cI, 60, .inl t_strikingOrder)), (a_t_struck, .inl (cZ, 60, .inl t_struck))] sz) := by
  refine Met.ofW (cc := cX6_strikeOff) (maxL := 2) (ret := (some .boolean)) (by decide) rfl ?_
  intro p e s m args below meth c s₁ B hml hv
  obtain ⟨rfl, hsz, hP, hK, hN, hZ, hD0⟩ := hv
  have hx := B.exec
  have hb := B.bytes
  have hr := B.returns
  have hts := atoms_spec (ws := wsX6_strikeOff) B.pre
  have hown : s.vm.findClass RX6 = some m.cls := findClass_of_methodNamed B.named
  have hlocks := B.notSynchronized
  subst hsz
  have hD := hD0.self (sz := s.heap.size)
  generalize hAe : va_A [(a_t, .inr (6, [.ref a_t_facts, .ref a_t_splits, .ref a_t_torn, .ref a_t_dropped, .ref a_t_waved, .ref a_t_struck, .ref a_t_strikingOrder, .int t_entered, .int t_strikings])), (a_t_strikingOrder, .inl (cI, 60, .inl t_strikingOrder)), (a_t_struck, .inl (cZ, 60, .inl t_struck))] s.heap.size = A at hD hZ ⊢
  have hA : ∀ q : Nat, s.heap.size ≤ q → A q := fun q h => by rw [← hAe]; exact Or.inr h
  have hS : va_S A s.heap s.heap [] := va_S.rf
  have hl := lv_entry ([.ref a_t, .int x1]) (n := 2) (Nat.le_of_ble_eq_true rfl)
  rw [lg_entry_eq]
  generalize (lg_sl ([.ref a_t, .int x1]) ++ List.replicate (2 - (lg_sl ([.ref a_t, .int x1])).length) Slot.unset).toArray = ls at hl ⊢
  have hl : lv_has ls 2 [(0, .ref a_t), (1, .int x1)] := hl
  unfold fX6_strikeOff at h
  refine lv_aload_n hx hb dX6_strikeOff_0 rfl (lv_at hl 0 rfl) ?_
  refine lv_iload_n hx hb dX6_strikeOff_1 rfl (lv_at hl 1 rfl) ?_
  obtain ⟨b1, e2, h⟩ := zz_b h
  refine zVi (As := [.int x1]) (rest := []) (C := RX6) (wr := [(a_t_strikingOrder, .inl (cI, 60, .inl t_strikingOrder)), (a_t_struck, .inl (cZ, 60, .inl t_struck))]) [0] [1, 2] 0 ⟨hx, hb, hml, hown, hts⟩ (mX6_has l D cB cI cZ a_t a_t_facts a_t_splits a_t_torn a_t_dropped a_t_waved a_t_struck a_t_strikingOrder t_entered t_strikings s.heap.size x1 b1 e2) (cwV 1 hts gX6_strikeOff_X6_has rfl rfl rfl (by decide +kernel) ⟨Nat.le_of_ble_eq_true rfl, Nat.le_of_ble_eq_true rfl⟩) hK hN hZ hP hD hS hA rfl rfl rfl rfl rfl rfl rfl rfl hl.1 rfl (lv_room (Nat.le_of_ble_eq_true rfl)) dX6_strikeOff_2 ⟨Nat.le_of_ble_eq_true rfl, Nat.le_of_ble_eq_true rfl⟩ (fun H locs hP hD hS => ?_)
  have hP : va_P D vwCl [(a_t_strikingOrder, .inl (cI, 60, .inl t_strikingOrder)), (a_t_struck, .inl (cZ, 60, .inl t_struck)), (a_t, .inr (6, [.ref a_t_facts, .ref a_t_splits, .ref a_t_torn, .ref a_t_dropped, .ref a_t_waved, .ref a_t_struck, .ref a_t_strikingOrder, .int t_entered, .int t_strikings]))] H := hP
  have hD : va_D A [(a_t_strikingOrder, .inl (cI, 60, .inl t_strikingOrder)), (a_t_struck, .inl (cZ, 60, .inl t_struck)), (a_t, .inr (6, [.ref a_t_facts, .ref a_t_splits, .ref a_t_torn, .ref a_t_dropped, .ref a_t_waved, .ref a_t_struck, .ref a_t_strikingOrder, .int t_entered, .int t_strikings]))] := hD
  refine lv_if_eq (tgt := 30) hx hb dX6_strikeOff_5 (by decide) (fun c3 => ?_) (fun c3 => ?_)
  · have h := zz_t h c3
    refine lv_iconst (v := (0 : Int32)) hx hb dX6_strikeOff_30 rfl ?_
    obtain ⟨j0_, g_⟩ := Prod.mk.inj (Option.some.inj h)
    obtain ⟨j1_, g_⟩ := Prod.mk.inj g_
    obtain ⟨j2_, g_⟩ := Prod.mk.inj g_
    have j3_ := g_
    subst j0_
    subst j1_
    subst j2_
    subst j3_
    exact W.zret (v := (0 : Int32)) hx hb hr rfl (fun t ht hW => ⟨⟨_, (), rfl, rfl, zPost.of hP hD hK ht hW [2, 0, 1] rfl rfl rfl⟩, hS.F ht⟩) hS.2.2 dX6_strikeOff_31
  · have h := zz_f h c3
    refine lv_aload_n hx hb dX6_strikeOff_8 rfl (lv_at hl 0 rfl) ?_
    refine va_get (D := D) (ci := 6) (C := RX6) (T := TX6) (N := 9) hx hb hts qX6_strikeOff_X6 hown hK hP 2 rfl rfl 5 (by decide) (hts _ kX6_strikeOff_0) (fun _ h9 => h9) rfl dX6_strikeOff_9 ?_
    refine lv_iload_n hx hb dX6_strikeOff_12 rfl (lv_at hl 1 rfl) ?_
    obtain ⟨i4, h⟩ := zz_i h
    refine va_zald hx hb hK hP 1 2 rfl rfl i4 dX6_strikeOff_13 ?_
    refine lv_if_ne (tgt := 30) hx hb dX6_strikeOff_14 (by decide) (fun c5 => ?_) (fun c5 => ?_)
    · have h := zz_f h c5
      refine lv_iconst (v := (0 : Int32)) hx hb dX6_strikeOff_30 rfl ?_
      obtain ⟨j0_, g_⟩ := Prod.mk.inj (Option.some.inj h)
      obtain ⟨j1_, g_⟩ := Prod.mk.inj g_
      obtain ⟨j2_, g_⟩ := Prod.mk.inj g_
      have j3_ := g_
      subst j0_
      subst j1_
      subst j2_
      subst j3_
      exact W.zret (v := (0 : Int32)) hx hb hr rfl (fun t ht hW => ⟨⟨_, (), rfl, rfl, zPost.of hP hD hK ht hW [2, 0, 1] rfl rfl rfl⟩, hS.F ht⟩) hS.2.2 dX6_strikeOff_31
    · have h := zz_t h c5
      refine lv_aload_n hx hb dX6_strikeOff_17 rfl (lv_at hl 0 rfl) ?_
      refine va_get (D := D) (ci := 6) (C := RX6) (T := TX6) (N := 9) hx hb hts qX6_strikeOff_X6 hown hK hP 2 rfl rfl 8 (by decide) (hts _ kX6_strikeOff_2) (fun _ h9 => h9) rfl dX6_strikeOff_18 ?_
      refine lv_iconst (v := (0 : Int32)) hx hb dX6_strikeOff_21 rfl ?_
      refine lv_bipush (v := (59 : Int32)) hx hb dX6_strikeOff_22 rfl ?_
      obtain ⟨b6, e7, h⟩ := zz_b h
      refine zNi (As := [.int t_strikings, .int (0 : Int32), .int (59 : Int32)]) (rest := []) (host := "RunDesk") (wr := [(a_t_strikingOrder, .inl (cI, 60, .inl t_strikingOrder)), (a_t_struck, .inl (cZ, 60, .inl t_struck)), (a_t, .inr (6, [.ref a_t_facts, .ref a_t_splits, .ref a_t_torn, .ref a_t_dropped, .ref a_t_waved, .ref a_t_struck, .ref a_t_strikingOrder, .int t_entered, .int t_strikings]))]) [] [0, 1, 2] ⟨hx, hb, hml, hown, hts⟩ (mX10_within l D cB cI cZ H.size t_strikings (0 : Int32) (59 : Int32) b6 e7) ⟨va_cnB 3 hts gX6_strikeOff_X10_within_n49 rfl rfl rfl (hN _ (List.mem_of_getElem? (i := 24) rfl)) (hts _ kX6_strikeOff_3) (by decide +kernel) ⟨Nat.le_of_ble_eq_true rfl, Nat.le_of_ble_eq_true rfl⟩, (hts _ kX6_strikeOff_4), trivial⟩ hK hN hZ hP hD hS hA rfl rfl rfl rfl rfl rfl hl.1 rfl (lv_room (Nat.le_of_ble_eq_true rfl)) dX6_strikeOff_24 ⟨Nat.le_of_ble_eq_true rfl, Nat.le_of_ble_eq_true rfl⟩ (fun H locs hP hD hS => ?_)
      have hP : va_P D vwCl [(a_t_strikingOrder, .inl (cI, 60, .inl t_strikingOrder)), (a_t_struck, .inl (cZ, 60, .inl t_struck)), (a_t, .inr (6, [.ref a_t_facts, .ref a_t_splits, .ref a_t_torn, .ref a_t_dropped, .ref a_t_waved, .ref a_t_struck, .ref a_t_strikingOrder, .int t_entered, .int t_strikings]))] H := hP
      have hD : va_D A [(a_t_strikingOrder, .inl (cI, 60, .inl t_strikingOrder)), (a_t_struck, .inl (cZ, 60, .inl t_struck)), (a_t, .inr (6, [.ref a_t_facts, .ref a_t_splits, .ref a_t_torn, .ref a_t_dropped, .ref a_t_waved, .ref a_t_struck, .ref a_t_strikingOrder, .int t_entered, .int t_strikings]))] := hD
      refine lv_if_ne (tgt := 32) hx hb dX6_strikeOff_27 (by decide) (fun c8 => ?_) (fun c8 => ?_)
      · have h := zz_f h c8
        refine lv_aload_n hx hb dX6_strikeOff_32 rfl (lv_at hl 0 rfl) ?_
        refine va_get (D := D) (ci := 6) (C := RX6) (T := TX6) (N := 9) hx hb hts qX6_strikeOff_X6 hown hK hP 2 rfl rfl 5 (by decide) (hts _ kX6_strikeOff_0) (fun _ h9 => h9) rfl dX6_strikeOff_33 ?_
        refine lv_iload_n hx hb dX6_strikeOff_36 rfl (lv_at hl 1 rfl) ?_
        refine lv_iconst (v := (1 : Int32)) hx hb dX6_strikeOff_37 rfl ?_
        obtain ⟨i9, h⟩ := zz_i h
        refine va_zast hx hb hK hP hD hS 1 2 rfl rfl i9 dX6_strikeOff_38 (fun H locs hP hD hS => ?_)
        have hP : va_P D vwCl [(a_t_strikingOrder, .inl (cI, 60, .inl t_strikingOrder)), (a_t_struck, .inl (cZ, 60, .inl (upd t_struck (x1).toNatClampNeg (vp_nar .boolean (1 : Int32))))), (a_t, .inr (6, [.ref a_t_facts, .ref a_t_splits, .ref a_t_torn, .ref a_t_dropped, .ref a_t_waved, .ref a_t_struck, .ref a_t_strikingOrder, .int t_entered, .int t_strikings]))] H := hP
        have hD : va_D A [(a_t_strikingOrder, .inl (cI, 60, .inl t_strikingOrder)), (a_t_struck, .inl (cZ, 60, .inl (upd t_struck (x1).toNatClampNeg (vp_nar .boolean (1 : Int32))))), (a_t, .inr (6, [.ref a_t_facts, .ref a_t_splits, .ref a_t_torn, .ref a_t_dropped, .ref a_t_waved, .ref a_t_struck, .ref a_t_strikingOrder, .int t_entered, .int t_strikings]))] := hD
        refine lv_aload_n hx hb dX6_strikeOff_39 rfl (lv_at hl 0 rfl) ?_
        refine va_get (D := D) (ci := 6) (C := RX6) (T := TX6) (N := 9) hx hb hts qX6_strikeOff_X6 hown hK hP 2 rfl rfl 6 (by decide) (hts _ kX6_strikeOff_5) (fun _ h9 => h9) rfl dX6_strikeOff_40 ?_
        refine lv_aload_n hx hb dX6_strikeOff_43 rfl (lv_at hl 0 rfl) ?_
        refine va_get (D := D) (ci := 6) (C := RX6) (T := TX6) (N := 9) hx hb hts qX6_strikeOff_X6 hown hK hP 2 rfl rfl 8 (by decide) (hts _ kX6_strikeOff_2) (fun _ h9 => h9) rfl dX6_strikeOff_44 ?_
        refine lv_iload_n hx hb dX6_strikeOff_47 rfl (lv_at hl 1 rfl) ?_
        obtain ⟨i10, h⟩ := zz_i h
        refine va_iast hx hb hK hP hD hS 0 1 rfl rfl i10 dX6_strikeOff_48 (fun H locs hP hD hS => ?_)
        have hP : va_P D vwCl [(a_t_strikingOrder, .inl (cI, 60, .inl (upd t_strikingOrder (t_strikings).toNatClampNeg x1))), (a_t_struck, .inl (cZ, 60, .inl (upd t_struck (x1).toNatClampNeg (vp_nar .boolean (1 : Int32))))), (a_t, .inr (6, [.ref a_t_facts, .ref a_t_splits, .ref a_t_torn, .ref a_t_dropped, .ref a_t_waved, .ref a_t_struck, .ref a_t_strikingOrder, .int t_entered, .int t_strikings]))] H := hP
        have hD : va_D A [(a_t_strikingOrder, .inl (cI, 60, .inl (upd t_strikingOrder (t_strikings).toNatClampNeg x1))), (a_t_struck, .inl (cZ, 60, .inl (upd t_struck (x1).toNatClampNeg (vp_nar .boolean (1 : Int32))))), (a_t, .inr (6, [.ref a_t_facts, .ref a_t_splits, .ref a_t_torn, .ref a_t_dropped, .ref a_t_waved, .ref a_t_struck, .ref a_t_strikingOrder, .int t_entered, .int t_strikings]))] := hD
        refine lv_aload_n hx hb dX6_strikeOff_49 rfl (lv_at hl 0 rfl) ?_
        refine lv_dup hx hb dX6_strikeOff_50 rfl ?_
        refine va_get (D := D) (ci := 6) (C := RX6) (T := TX6) (N := 9) hx hb hts qX6_strikeOff_X6 hown hK hP 2 rfl rfl 8 (by decide) (hts _ kX6_strikeOff_2) (fun _ h9 => h9) rfl dX6_strikeOff_51 ?_
        refine lv_iconst (v := (1 : Int32)) hx hb dX6_strikeOff_54 rfl ?_
        refine lv_iadd hx hb dX6_strikeOff_55 ?_
        refine va_put (D := D) (ci := 6) (ty := .int) (C := RX6) (T := TX6) (N := 9) hx hb hts qX6_strikeOff_X6 tyX6 tyX6_ok nmX6 hown hK hP hD hS 2 rfl rfl 8 (by decide) (hts _ kX6_strikeOff_2) (fun _ h9 => h9) rfl (by decide +kernel) rfl (by first | rfl | exact zz_fit) (Nat.le_of_ble_eq_true rfl) dX6_strikeOff_56 (fun H locs hP hD hS => ?_)
        have hP : va_P D vwCl [(a_t_strikingOrder, .inl (cI, 60, .inl (upd t_strikingOrder (t_strikings).toNatClampNeg x1))), (a_t_struck, .inl (cZ, 60, .inl (upd t_struck (x1).toNatClampNeg (vp_nar .boolean (1 : Int32))))), (a_t, .inr (6, [.ref a_t_facts, .ref a_t_splits, .ref a_t_torn, .ref a_t_dropped, .ref a_t_waved, .ref a_t_struck, .ref a_t_strikingOrder, .int t_entered, .int (t_strikings + (1 : Int32))]))] H := hP
        have hD : va_D A [(a_t_strikingOrder, .inl (cI, 60, .inl (upd t_strikingOrder (t_strikings).toNatClampNeg x1))), (a_t_struck, .inl (cZ, 60, .inl (upd t_struck (x1).toNatClampNeg (vp_nar .boolean (1 : Int32))))), (a_t, .inr (6, [.ref a_t_facts, .ref a_t_splits, .ref a_t_torn, .ref a_t_dropped, .ref a_t_waved, .ref a_t_struck, .ref a_t_strikingOrder, .int t_entered, .int (t_strikings + (1 : Int32))]))] := hD
        refine lv_iconst (v := (1 : Int32)) hx hb dX6_strikeOff_59 rfl ?_
        obtain ⟨j0_, g_⟩ := Prod.mk.inj (Option.some.inj h)
        obtain ⟨j1_, g_⟩ := Prod.mk.inj g_
        obtain ⟨j2_, g_⟩ := Prod.mk.inj g_
        have j3_ := g_
        subst j0_
        subst j1_
        subst j2_
        subst j3_
        exact W.zret (v := (1 : Int32)) hx hb hr rfl (fun t ht hW => ⟨⟨_, (), rfl, rfl, zPost.of hP hD hK ht hW [2, 0, 1] rfl rfl rfl⟩, hS.F ht⟩) hS.2.2 dX6_strikeOff_60
      · have h := zz_t h c8
        refine lv_iconst (v := (0 : Int32)) hx hb dX6_strikeOff_30 rfl ?_
        obtain ⟨j0_, g_⟩ := Prod.mk.inj (Option.some.inj h)
        obtain ⟨j1_, g_⟩ := Prod.mk.inj g_
        obtain ⟨j2_, g_⟩ := Prod.mk.inj g_
        have j3_ := g_
        subst j0_
        subst j1_
        subst j2_
        subst j3_
        exact W.zret (v := (0 : Int32)) hx hb hr rfl (fun t ht hW => ⟨⟨_, (), rfl, rfl, zPost.of hP hD hK ht hW [2, 0, 1] rfl rfl rfl⟩, hS.F ht⟩) hS.2.2 dX6_strikeOff_31
/-! RunDesk$Runners.takeStrikingBack -/
theorem dX6_takeStrikingBack_0 : decode cX6_takeStrikingBack 0 = .ok (.aload_n 0, 1) := by decide +kernel
theorem dX6_takeStrikingBack_1 : decode cX6_takeStrikingBack 1 = .ok (.getfield 38, 3) := by decide +kernel
theorem dX6_takeStrikingBack_4 : decode cX6_takeStrikingBack 4 = .ok (.iconst 1, 1) := by decide +kernel
theorem dX6_takeStrikingBack_5 : decode cX6_takeStrikingBack 5 = .ok (.bipush 60, 2) := by decide +kernel
theorem dX6_takeStrikingBack_7 : decode cX6_takeStrikingBack 7 = .ok (.invokestatic 49, 3) := by decide +kernel
theorem dX6_takeStrikingBack_10 : decode cX6_takeStrikingBack 10 = .ok (.ifCond .ne 5, 3) := by decide +kernel
theorem dX6_takeStrikingBack_13 : decode cX6_takeStrikingBack 13 = .ok (.iconst (-1), 1) := by decide +kernel
theorem dX6_takeStrikingBack_14 : decode cX6_takeStrikingBack 14 = .ok (.ireturn, 1) := by decide +kernel
theorem dX6_takeStrikingBack_15 : decode cX6_takeStrikingBack 15 = .ok (.aload_n 0, 1) := by decide +kernel
theorem dX6_takeStrikingBack_16 : decode cX6_takeStrikingBack 16 = .ok (.getfield 31, 3) := by decide +kernel
theorem dX6_takeStrikingBack_19 : decode cX6_takeStrikingBack 19 = .ok (.aload_n 0, 1) := by decide +kernel
theorem dX6_takeStrikingBack_20 : decode cX6_takeStrikingBack 20 = .ok (.getfield 38, 3) := by decide +kernel
theorem dX6_takeStrikingBack_23 : decode cX6_takeStrikingBack 23 = .ok (.iconst 1, 1) := by decide +kernel
theorem dX6_takeStrikingBack_24 : decode cX6_takeStrikingBack 24 = .ok (.isub, 1) := by decide +kernel
theorem dX6_takeStrikingBack_25 : decode cX6_takeStrikingBack 25 = .ok (.iaload, 1) := by decide +kernel
theorem dX6_takeStrikingBack_26 : decode cX6_takeStrikingBack 26 = .ok (.istore_n 1, 1) := by decide +kernel
theorem dX6_takeStrikingBack_27 : decode cX6_takeStrikingBack 27 = .ok (.aload_n 0, 1) := by decide +kernel
theorem dX6_takeStrikingBack_28 : decode cX6_takeStrikingBack 28 = .ok (.iload_n 1, 1) := by decide +kernel
theorem dX6_takeStrikingBack_29 : decode cX6_takeStrikingBack 29 = .ok (.invokevirtual 41, 3) := by decide +kernel
theorem dX6_takeStrikingBack_32 : decode cX6_takeStrikingBack 32 = .ok (.ifCond .ne 5, 3) := by decide +kernel
theorem dX6_takeStrikingBack_35 : decode cX6_takeStrikingBack 35 = .ok (.iconst (-1), 1) := by decide +kernel
theorem dX6_takeStrikingBack_36 : decode cX6_takeStrikingBack 36 = .ok (.ireturn, 1) := by decide +kernel
theorem dX6_takeStrikingBack_37 : decode cX6_takeStrikingBack 37 = .ok (.aload_n 0, 1) := by decide +kernel
theorem dX6_takeStrikingBack_38 : decode cX6_takeStrikingBack 38 = .ok (.dup, 1) := by decide +kernel
theorem dX6_takeStrikingBack_39 : decode cX6_takeStrikingBack 39 = .ok (.getfield 38, 3) := by decide +kernel
theorem dX6_takeStrikingBack_42 : decode cX6_takeStrikingBack 42 = .ok (.iconst 1, 1) := by decide +kernel
theorem dX6_takeStrikingBack_43 : decode cX6_takeStrikingBack 43 = .ok (.isub, 1) := by decide +kernel
theorem dX6_takeStrikingBack_44 : decode cX6_takeStrikingBack 44 = .ok (.putfield 38, 3) := by decide +kernel
theorem dX6_takeStrikingBack_47 : decode cX6_takeStrikingBack 47 = .ok (.aload_n 0, 1) := by decide +kernel
theorem dX6_takeStrikingBack_48 : decode cX6_takeStrikingBack 48 = .ok (.getfield 28, 3) := by decide +kernel
theorem dX6_takeStrikingBack_51 : decode cX6_takeStrikingBack 51 = .ok (.iload_n 1, 1) := by decide +kernel
theorem dX6_takeStrikingBack_52 : decode cX6_takeStrikingBack 52 = .ok (.iconst 0, 1) := by decide +kernel
theorem dX6_takeStrikingBack_53 : decode cX6_takeStrikingBack 53 = .ok (.bastore, 1) := by decide +kernel
theorem dX6_takeStrikingBack_54 : decode cX6_takeStrikingBack 54 = .ok (.iload_n 1, 1) := by decide +kernel
theorem dX6_takeStrikingBack_55 : decode cX6_takeStrikingBack 55 = .ok (.ireturn, 1) := by decide +kernel
set_option maxRecDepth 20000 in
theorem ggX6_takeStrikingBack_X10_within : GoodIn wsX6_takeStrikingBack wsX10_within := goodIn_r _ [6] (by decide +kernel) (by decide +kernel)
set_option maxRecDepth 20000 in
theorem gX6_takeStrikingBack_X10_within_n49 : GoodIn wsX6_takeStrikingBack (wsX10_within) := ggX6_takeStrikingBack_X10_within
set_option maxRecDepth 20000 in
theorem ggX6_takeStrikingBack_X6_has : GoodIn wsX6_takeStrikingBack wsX6_has := goodIn_r _ [11, 12, 13, 14, 15, 16, 17, 18, 19, 20, 21] (by decide +kernel) (by decide +kernel)
set_option maxRecDepth 20000 in
theorem gX6_takeStrikingBack_X6_has : GoodIn wsX6_takeStrikingBack (wsV RX6 41 RX6 yX6_has wsX6_has) := goodIn_app (goodIn_of _ (by decide +kernel)) ggX6_takeStrikingBack_X6_has
def fX6_takeStrikingBack (t_entered : Int32) (t_strikings : Int32) (t_strikingOrder : Nat → Int32) (t_struck : Nat → Int32) : Option (Int32 × Int32 × (Nat → Int32)) := ((fX10_within t_strikings (1 : Int32) (60 : Int32)).bind (fun b1 => (if (zb b1) = 0 then some ((-1 : Int32), t_strikings, t_struck) else (if zin (t_strikings - (1 : Int32)) 60 then ((fX6_has t_entered (t_strikingOrder ((t_strikings - (1 : Int32))).toNatClampNeg)).bind (fun b5 => (if (zb b5) = 0 then some ((-1 : Int32), t_strikings, t_struck) else (if zin (t_strikingOrder ((t_strikings - (1 : Int32))).toNatClampNeg) 60 then some ((t_strikingOrder ((t_strikings - (1 : Int32))).toNatClampNeg), (t_strikings - (1 : Int32)), (upd t_struck ((t_strikingOrder ((t_strikings - (1 : Int32))).toNatClampNeg)).toNatClampNeg (vp_nar .boolean (0 : Int32)))) else none)))) else none))))
theorem kX6_takeStrikingBack_0 : (.fieldLink RX6 38 "RunDesk$Runners" "strikings" "I" : Cond) ∈ wsX6_takeStrikingBack := List.mem_of_getElem? (i := 1) (by decide +kernel)
theorem qX6_takeStrikingBack_X6 : ∀ w ∈ wsX60, w ∈ wsX6_takeStrikingBack := fun _ h => List.mem_cons_of_mem _ (List.mem_append_right _ (h))
theorem kX6_takeStrikingBack_2 : (.initialized RX10 : Cond) ∈ wsX6_takeStrikingBack := List.mem_of_getElem? (i := 5) (by decide +kernel)
theorem kX6_takeStrikingBack_3 : (.static yX10_within : Cond) ∈ wsX6_takeStrikingBack := List.mem_of_getElem? (i := 4) (by decide +kernel)
theorem kX6_takeStrikingBack_4 : (.fieldLink RX6 31 "RunDesk$Runners" "strikingOrder" "[I" : Cond) ∈ wsX6_takeStrikingBack := List.mem_of_getElem? (i := 2) (by decide +kernel)
theorem kX6_takeStrikingBack_5 : (.fieldLink RX6 28 "RunDesk$Runners" "struck" "[Z" : Cond) ∈ wsX6_takeStrikingBack := List.mem_of_getElem? (i := 3) (by decide +kernel)
set_option maxHeartbeats 4000000 in
set_option maxRecDepth 100000 in
theorem mX6_takeStrikingBack (l : Launch) (D : va_G) (cB cI cZ : ClassId) (a_t : Nat) (a_t_facts : Nat) (a_t_splits : Nat) (a_t_torn : Nat) (a_t_dropped : Nat) (a_t_waved : Nat) (a_t_struck : Nat) (a_t_strikingOrder : Nat) (t_entered : Int32) (t_strikings : Int32) (t_strikingOrder : Nat → Int32) (t_struck : Nat → Int32) (sz : Nat) (r0 : Int32) (t_strikings' : Int32) (t_struck' : Nat → Int32) (h : fX6_takeStrikingBack t_entered t_strikings t_strikingOrder t_struck = some (r0, t_strikings', t_struck')) : Met l yX6_takeStrikingBack wsX6_takeStrikingBack ({ frames := 1, cells := 0, slots := 0, locals := 22 } : Room) (va_Pc [.ref a_t] (zPre D (zT cB cI cZ) [(a_t, .inr (6, [.ref a_t_facts, .ref a_t_splits, .ref a_t_torn, .ref a_t_dropped, .ref a_t_waved, .ref a_t_struck, .ref a_t_strikingOrder, .int t_entered, .int t_strikings])), (a_t_strikingOrder, .inl (cI, 60, .inl t_strikingOrder)), (a_t_struck, .inl (cZ, 60, .inl t_struck))] sz)) (zQi r0 D (zT cB cI cZ) [(a_t, .inr (6, [.ref a_t_facts, .ref a_t_splits, .ref a_t_torn, .ref a_t_dropped, .ref a_t_waved, .ref a_t_struck, .ref a_t_strikingOrder, .int t_entered, .int t_strikings'])), (a_t_strikingOrder, .inl (cI, 60, .inl t_strikingOrder)), (a_t_struck, .inl (cZ, 60, .inl t_struck'))] (va_A [(a_t, .inr (6, [.ref a_t_facts, .ref a_t_splits, .ref a_t_torn, .ref a_t_dropped, .ref a_t_waved, .ref a_t_struck, .ref a_t_strikingOrder, .int t_entered, .int t_strikings])), (a_t_strikingOrder, .inl (cI, 60, .inl t_strikingOrder)), (a_t_struck, .inl (cZ, 60, .inl t_struck))] sz)) 0 0 (va_A [(a_t, .inr (6, [.ref a_t_facts, .ref a_t_splits, .ref a_t_torn, .ref a_t_dropped, .ref a_t_waved, .ref a_t_struck, .ref a_t_strikingOrder, .int t_entered, .int t_strikings])), (a_t_strikingOrder, .inl (cI, 60, .inl t_strikingOrder)), (a_t_struck, .inl (cZ, 60, .inl t_struck))] sz) := by
  refine Met.ofW (cc := cX6_takeStrikingBack) (maxL := 2) (ret := (some .int)) (by decide) rfl ?_
  intro p e s m args below meth c s₁ B hml hv
  obtain ⟨rfl, hsz, hP, hK, hN, hZ, hD0⟩ := hv
  have hx := B.exec
  have hb := B.bytes
  have hr := B.returns
  have hts := atoms_spec (ws := wsX6_takeStrikingBack) B.pre
  have hown : s.vm.findClass RX6 = some m.cls := findClass_of_methodNamed B.named
  have hlocks := B.notSynchronized
  subst hsz
  have hD := hD0.self (sz := s.heap.size)
  generalize hAe : va_A [(a_t, .inr (6, [.ref a_t_facts, .ref a_t_splits, .ref a_t_torn, .ref a_t_dropped, .ref a_t_waved, .ref a_t_struck, .ref a_t_strikingOrder, .int t_entered, .int t_strikings])), (a_t_strikingOrder, .inl (cI, 60, .inl t_strikingOrder)), (a_t_struck, .inl (cZ, 60, .inl t_struck))] s.heap.size = A at hD hZ ⊢
  have hA : ∀ q : Nat, s.heap.size ≤ q → A q := fun q h => by rw [← hAe]; exact Or.inr h
  have hS : va_S A s.heap s.heap [] := va_S.rf
  have hl := lv_entry ([.ref a_t]) (n := 2) (Nat.le_of_ble_eq_true rfl)
  rw [lg_entry_eq]
  generalize (lg_sl ([.ref a_t]) ++ List.replicate (2 - (lg_sl ([.ref a_t])).length) Slot.unset).toArray = ls at hl ⊢
  have hl : lv_has ls 2 [(0, .ref a_t)] := hl
  unfold fX6_takeStrikingBack at h
  refine lv_aload_n hx hb dX6_takeStrikingBack_0 rfl (lv_at hl 0 rfl) ?_
  refine va_get (D := D) (ci := 6) (C := RX6) (T := TX6) (N := 9) hx hb hts qX6_takeStrikingBack_X6 hown hK hP 0 rfl rfl 8 (by decide) (hts _ kX6_takeStrikingBack_0) (fun _ h9 => h9) rfl dX6_takeStrikingBack_1 ?_
  refine lv_iconst (v := (1 : Int32)) hx hb dX6_takeStrikingBack_4 rfl ?_
  refine lv_bipush (v := (60 : Int32)) hx hb dX6_takeStrikingBack_5 rfl ?_
  obtain ⟨b1, e2, h⟩ := zz_b h
  refine zNi (As := [.int t_strikings, .int (1 : Int32), .int (60 : Int32)]) (rest := []) (host := "RunDesk") (wr := [(a_t, .inr (6, [.ref a_t_facts, .ref a_t_splits, .ref a_t_torn, .ref a_t_dropped, .ref a_t_waved, .ref a_t_struck, .ref a_t_strikingOrder, .int t_entered, .int t_strikings])), (a_t_strikingOrder, .inl (cI, 60, .inl t_strikingOrder)), (a_t_struck, .inl (cZ, 60, .inl t_struck))]) [] [0, 1, 2] ⟨hx, hb, hml, hown, hts⟩ (mX10_within l D cB cI cZ s.heap.size t_strikings (1 : Int32) (60 : Int32) b1 e2) ⟨va_cnB 3 hts gX6_takeStrikingBack_X10_within_n49 rfl rfl rfl (hN _ (List.mem_of_getElem? (i := 24) rfl)) (hts _ kX6_takeStrikingBack_2) (by decide +kernel) ⟨Nat.le_of_ble_eq_true rfl, Nat.le_of_ble_eq_true rfl⟩, (hts _ kX6_takeStrikingBack_3), trivial⟩ hK hN hZ hP hD hS hA rfl rfl rfl rfl rfl rfl hl.1 rfl (lv_room (Nat.le_of_ble_eq_true rfl)) dX6_takeStrikingBack_7 ⟨Nat.le_of_ble_eq_true rfl, Nat.le_of_ble_eq_true rfl⟩ (fun H locs hP hD hS => ?_)
  have hP : va_P D vwCl [(a_t, .inr (6, [.ref a_t_facts, .ref a_t_splits, .ref a_t_torn, .ref a_t_dropped, .ref a_t_waved, .ref a_t_struck, .ref a_t_strikingOrder, .int t_entered, .int t_strikings])), (a_t_strikingOrder, .inl (cI, 60, .inl t_strikingOrder)), (a_t_struck, .inl (cZ, 60, .inl t_struck))] H := hP
  have hD : va_D A [(a_t, .inr (6, [.ref a_t_facts, .ref a_t_splits, .ref a_t_torn, .ref a_t_dropped, .ref a_t_waved, .ref a_t_struck, .ref a_t_strikingOrder, .int t_entered, .int t_strikings])), (a_t_strikingOrder, .inl (cI, 60, .inl t_strikingOrder)), (a_t_struck, .inl (cZ, 60, .inl t_struck))] := hD
  refine lv_if_ne (tgt := 15) hx hb dX6_takeStrikingBack_10 (by decide) (fun c3 => ?_) (fun c3 => ?_)
  · have h := zz_f h c3
    refine lv_aload_n hx hb dX6_takeStrikingBack_15 rfl (lv_at hl 0 rfl) ?_
    refine va_get (D := D) (ci := 6) (C := RX6) (T := TX6) (N := 9) hx hb hts qX6_takeStrikingBack_X6 hown hK hP 0 rfl rfl 6 (by decide) (hts _ kX6_takeStrikingBack_4) (fun _ h9 => h9) rfl dX6_takeStrikingBack_16 ?_
    refine lv_aload_n hx hb dX6_takeStrikingBack_19 rfl (lv_at hl 0 rfl) ?_
    refine va_get (D := D) (ci := 6) (C := RX6) (T := TX6) (N := 9) hx hb hts qX6_takeStrikingBack_X6 hown hK hP 0 rfl rfl 8 (by decide) (hts _ kX6_takeStrikingBack_0) (fun _ h9 => h9) rfl dX6_takeStrikingBack_20 ?_
    refine lv_iconst (v := (1 : Int32)) hx hb dX6_takeStrikingBack_23 rfl ?_
    refine lv_isub hx hb dX6_takeStrikingBack_24 ?_
    obtain ⟨i4, h⟩ := zz_i h
    refine va_iald hx hb hK hP 1 1 rfl rfl i4 dX6_takeStrikingBack_25 ?_
    refine lv_istore_n (lv' := [(1, .int (t_strikingOrder ((t_strikings - (1 : Int32))).toNatClampNeg)), (0, .ref a_t)]) hx hb dX6_takeStrikingBack_26 rfl hl (by decide) rfl (fun ls hl => ?_)
    refine lv_aload_n hx hb dX6_takeStrikingBack_27 rfl (lv_at hl 1 rfl) ?_
    refine lv_iload_n hx hb dX6_takeStrikingBack_28 rfl (lv_at hl 0 rfl) ?_
    obtain ⟨b5, e6, h⟩ := zz_b h
    refine zVi (As := [.int (t_strikingOrder ((t_strikings - (1 : Int32))).toNatClampNeg)]) (rest := []) (C := RX6) (wr := [(a_t_strikingOrder, .inl (cI, 60, .inl t_strikingOrder)), (a_t_struck, .inl (cZ, 60, .inl t_struck))]) [0] [1, 2] 0 ⟨hx, hb, hml, hown, hts⟩ (mX6_has l D cB cI cZ a_t a_t_facts a_t_splits a_t_torn a_t_dropped a_t_waved a_t_struck a_t_strikingOrder t_entered t_strikings H.size (t_strikingOrder ((t_strikings - (1 : Int32))).toNatClampNeg) b5 e6) (cwV 1 hts gX6_takeStrikingBack_X6_has rfl rfl rfl (by decide +kernel) ⟨Nat.le_of_ble_eq_true rfl, Nat.le_of_ble_eq_true rfl⟩) hK hN hZ hP hD hS hA rfl rfl rfl rfl rfl rfl rfl rfl hl.1 rfl (lv_room (Nat.le_of_ble_eq_true rfl)) dX6_takeStrikingBack_29 ⟨Nat.le_of_ble_eq_true rfl, Nat.le_of_ble_eq_true rfl⟩ (fun H locs hP hD hS => ?_)
    have hP : va_P D vwCl [(a_t_strikingOrder, .inl (cI, 60, .inl t_strikingOrder)), (a_t_struck, .inl (cZ, 60, .inl t_struck)), (a_t, .inr (6, [.ref a_t_facts, .ref a_t_splits, .ref a_t_torn, .ref a_t_dropped, .ref a_t_waved, .ref a_t_struck, .ref a_t_strikingOrder, .int t_entered, .int t_strikings]))] H := hP
    have hD : va_D A [(a_t_strikingOrder, .inl (cI, 60, .inl t_strikingOrder)), (a_t_struck, .inl (cZ, 60, .inl t_struck)), (a_t, .inr (6, [.ref a_t_facts, .ref a_t_splits, .ref a_t_torn, .ref a_t_dropped, .ref a_t_waved, .ref a_t_struck, .ref a_t_strikingOrder, .int t_entered, .int t_strikings]))] := hD
    refine lv_if_ne (tgt := 37) hx hb dX6_takeStrikingBack_32 (by decide) (fun c7 => ?_) (fun c7 => ?_)
    · have h := zz_f h c7
      refine lv_aload_n hx hb dX6_takeStrikingBack_37 rfl (lv_at hl 1 rfl) ?_
      refine lv_dup hx hb dX6_takeStrikingBack_38 rfl ?_
      refine va_get (D := D) (ci := 6) (C := RX6) (T := TX6) (N := 9) hx hb hts qX6_takeStrikingBack_X6 hown hK hP 2 rfl rfl 8 (by decide) (hts _ kX6_takeStrikingBack_0) (fun _ h9 => h9) rfl dX6_takeStrikingBack_39 ?_
      refine lv_iconst (v := (1 : Int32)) hx hb dX6_takeStrikingBack_42 rfl ?_
      refine lv_isub hx hb dX6_takeStrikingBack_43 ?_
      refine va_put (D := D) (ci := 6) (ty := .int) (C := RX6) (T := TX6) (N := 9) hx hb hts qX6_takeStrikingBack_X6 tyX6 tyX6_ok nmX6 hown hK hP hD hS 2 rfl rfl 8 (by decide) (hts _ kX6_takeStrikingBack_0) (fun _ h9 => h9) rfl (by decide +kernel) rfl (by first | rfl | exact zz_fit) (Nat.le_of_ble_eq_true rfl) dX6_takeStrikingBack_44 (fun H locs hP hD hS => ?_)
      have hP : va_P D vwCl [(a_t_strikingOrder, .inl (cI, 60, .inl t_strikingOrder)), (a_t_struck, .inl (cZ, 60, .inl t_struck)), (a_t, .inr (6, [.ref a_t_facts, .ref a_t_splits, .ref a_t_torn, .ref a_t_dropped, .ref a_t_waved, .ref a_t_struck, .ref a_t_strikingOrder, .int t_entered, .int (t_strikings - (1 : Int32))]))] H := hP
      have hD : va_D A [(a_t_strikingOrder, .inl (cI, 60, .inl t_strikingOrder)), (a_t_struck, .inl (cZ, 60, .inl t_struck)), (a_t, .inr (6, [.ref a_t_facts, .ref a_t_splits, .ref a_t_torn, .ref a_t_dropped, .ref a_t_waved, .ref a_t_struck, .ref a_t_strikingOrder, .int t_entered, .int (t_strikings - (1 : Int32))]))] := hD
      refine lv_aload_n hx hb dX6_takeStrikingBack_47 rfl (lv_at hl 1 rfl) ?_
      refine va_get (D := D) (ci := 6) (C := RX6) (T := TX6) (N := 9) hx hb hts qX6_takeStrikingBack_X6 hown hK hP 2 rfl rfl 5 (by decide) (hts _ kX6_takeStrikingBack_5) (fun _ h9 => h9) rfl dX6_takeStrikingBack_48 ?_
      refine lv_iload_n hx hb dX6_takeStrikingBack_51 rfl (lv_at hl 0 rfl) ?_
      refine lv_iconst (v := (0 : Int32)) hx hb dX6_takeStrikingBack_52 rfl ?_
      obtain ⟨i8, h⟩ := zz_i h
      refine va_zast hx hb hK hP hD hS 1 2 rfl rfl i8 dX6_takeStrikingBack_53 (fun H locs hP hD hS => ?_)
      have hP : va_P D vwCl [(a_t_strikingOrder, .inl (cI, 60, .inl t_strikingOrder)), (a_t_struck, .inl (cZ, 60, .inl (upd t_struck ((t_strikingOrder ((t_strikings - (1 : Int32))).toNatClampNeg)).toNatClampNeg (vp_nar .boolean (0 : Int32))))), (a_t, .inr (6, [.ref a_t_facts, .ref a_t_splits, .ref a_t_torn, .ref a_t_dropped, .ref a_t_waved, .ref a_t_struck, .ref a_t_strikingOrder, .int t_entered, .int (t_strikings - (1 : Int32))]))] H := hP
      have hD : va_D A [(a_t_strikingOrder, .inl (cI, 60, .inl t_strikingOrder)), (a_t_struck, .inl (cZ, 60, .inl (upd t_struck ((t_strikingOrder ((t_strikings - (1 : Int32))).toNatClampNeg)).toNatClampNeg (vp_nar .boolean (0 : Int32))))), (a_t, .inr (6, [.ref a_t_facts, .ref a_t_splits, .ref a_t_torn, .ref a_t_dropped, .ref a_t_waved, .ref a_t_struck, .ref a_t_strikingOrder, .int t_entered, .int (t_strikings - (1 : Int32))]))] := hD
      refine lv_iload_n hx hb dX6_takeStrikingBack_54 rfl (lv_at hl 0 rfl) ?_
      obtain ⟨j0_, g_⟩ := Prod.mk.inj (Option.some.inj h)
      obtain ⟨j1_, g_⟩ := Prod.mk.inj g_
      have j2_ := g_
      subst j0_
      subst j1_
      subst j2_
      exact W.iret (v := (t_strikingOrder ((t_strikings - (1 : Int32))).toNatClampNeg)) hx hb hr (fun t ht hW => ⟨⟨_, (), rfl, rfl, zPost.of hP hD hK ht hW [2, 0, 1] rfl rfl rfl⟩, hS.F ht⟩) hS.2.2 dX6_takeStrikingBack_55
    · have h := zz_t h c7
      refine lv_iconst (v := (-1 : Int32)) hx hb dX6_takeStrikingBack_35 rfl ?_
      obtain ⟨j0_, g_⟩ := Prod.mk.inj (Option.some.inj h)
      obtain ⟨j1_, g_⟩ := Prod.mk.inj g_
      have j2_ := g_
      subst j0_
      subst j1_
      subst j2_
      exact W.iret (v := (-1 : Int32)) hx hb hr (fun t ht hW => ⟨⟨_, (), rfl, rfl, zPost.of hP hD hK ht hW [2, 0, 1] rfl rfl rfl⟩, hS.F ht⟩) hS.2.2 dX6_takeStrikingBack_36
  · have h := zz_t h c3
    refine lv_iconst (v := (-1 : Int32)) hx hb dX6_takeStrikingBack_13 rfl ?_
    obtain ⟨j0_, g_⟩ := Prod.mk.inj (Option.some.inj h)
    obtain ⟨j1_, g_⟩ := Prod.mk.inj g_
    have j2_ := g_
    subst j0_
    subst j1_
    subst j2_
    exact W.iret (v := (-1 : Int32)) hx hb hr (fun t ht hW => ⟨⟨_, (), rfl, rfl, zPost.of hP hD hK ht hW [0, 1, 2] rfl rfl rfl⟩, hS.F ht⟩) hS.2.2 dX6_takeStrikingBack_14
/-! RunDesk$Runners.strikings -/
theorem dX6_strikings_0 : decode cX6_strikings 0 = .ok (.aload_n 0, 1) := by decide +kernel
theorem dX6_strikings_1 : decode cX6_strikings 1 = .ok (.getfield 38, 3) := by decide +kernel
theorem dX6_strikings_4 : decode cX6_strikings 4 = .ok (.ireturn, 1) := by decide +kernel
def fX6_strikings (t_strikings : Int32) : Option (Int32) := some (t_strikings)
theorem kX6_strikings_0 : (.fieldLink RX6 38 "RunDesk$Runners" "strikings" "I" : Cond) ∈ wsX6_strikings := List.mem_of_getElem? (i := 1) (by decide +kernel)
theorem qX6_strikings_X6 : ∀ w ∈ wsX60, w ∈ wsX6_strikings := fun _ h => List.mem_cons_of_mem _ (List.mem_append_right _ (h))
set_option maxHeartbeats 4000000 in
set_option maxRecDepth 100000 in
theorem mX6_strikings (l : Launch) (D : va_G) (cB cI cZ : ClassId) (a_t : Nat) (a_t_facts : Nat) (a_t_splits : Nat) (a_t_torn : Nat) (a_t_dropped : Nat) (a_t_waved : Nat) (a_t_struck : Nat) (a_t_strikingOrder : Nat) (t_entered : Int32) (t_strikings : Int32) (sz : Nat) (r0 : Int32) (h : fX6_strikings t_strikings = some (r0)) : Met l yX6_strikings wsX6_strikings ({ frames := 0, cells := 0, slots := 0, locals := 0 } : Room) (va_Pc [.ref a_t] (zPre D (zT cB cI cZ) [(a_t, .inr (6, [.ref a_t_facts, .ref a_t_splits, .ref a_t_torn, .ref a_t_dropped, .ref a_t_waved, .ref a_t_struck, .ref a_t_strikingOrder, .int t_entered, .int t_strikings]))] sz)) (zQi r0 D (zT cB cI cZ) [(a_t, .inr (6, [.ref a_t_facts, .ref a_t_splits, .ref a_t_torn, .ref a_t_dropped, .ref a_t_waved, .ref a_t_struck, .ref a_t_strikingOrder, .int t_entered, .int t_strikings]))] (va_A [(a_t, .inr (6, [.ref a_t_facts, .ref a_t_splits, .ref a_t_torn, .ref a_t_dropped, .ref a_t_waved, .ref a_t_struck, .ref a_t_strikingOrder, .int t_entered, .int t_strikings]))] sz)) 0 0 (va_A [(a_t, .inr (6, [.ref a_t_facts, .ref a_t_splits, .ref a_t_torn, .ref a_t_dropped, .ref a_t_waved, .ref a_t_struck, .ref a_t_strikingOrder, .int t_entered, .int t_strikings]))] sz) := by
  refine Met.ofW (cc := cX6_strikings) (maxL := 1) (ret := (some .int)) (by decide) rfl ?_
  intro p e s m args below meth c s₁ B hml hv
  obtain ⟨rfl, hsz, hP, hK, hN, hZ, hD0⟩ := hv
  have hx := B.exec
  have hb := B.bytes
  have hr := B.returns
  have hts := atoms_spec (ws := wsX6_strikings) B.pre
  have hown : s.vm.findClass RX6 = some m.cls := findClass_of_methodNamed B.named
  have hlocks := B.notSynchronized
  subst hsz
  have hD := hD0.self (sz := s.heap.size)
  generalize hAe : va_A [(a_t, .inr (6, [.ref a_t_facts, .ref a_t_splits, .ref a_t_torn, .ref a_t_dropped, .ref a_t_waved, .ref a_t_struck, .ref a_t_strikingOrder, .int t_entered, .int t_strikings]))] s.heap.size = A at hD hZ ⊢
  have hA : ∀ q : Nat, s.heap.size ≤ q → A q := fun q h => by rw [← hAe]; exact Or.inr h
  have hS : va_S A s.heap s.heap [] := va_S.rf
  have hl := lv_entry ([.ref a_t]) (n := 1) (Nat.le_of_ble_eq_true rfl)
  rw [lg_entry_eq]
  generalize (lg_sl ([.ref a_t]) ++ List.replicate (1 - (lg_sl ([.ref a_t])).length) Slot.unset).toArray = ls at hl ⊢
  have hl : lv_has ls 1 [(0, .ref a_t)] := hl
  unfold fX6_strikings at h
  refine lv_aload_n hx hb dX6_strikings_0 rfl (lv_at hl 0 rfl) ?_
  refine va_get (D := D) (ci := 6) (C := RX6) (T := TX6) (N := 9) hx hb hts qX6_strikings_X6 hown hK hP 0 rfl rfl 8 (by decide) (hts _ kX6_strikings_0) (fun _ h9 => h9) rfl dX6_strikings_1 ?_
  have j0_ := Option.some.inj h
  subst j0_
  exact W.iret (v := t_strikings) hx hb hr (fun t ht hW => ⟨⟨_, (), rfl, rfl, zPost.of hP hD hK ht hW [0] rfl rfl rfl⟩, hS.F ht⟩) hS.2.2 dX6_strikings_4
/-! RunDesk$Text.howManyStand -/
theorem dX7_howManyStand_0 : decode cX7_howManyStand 0 = .ok (.iconst 0, 1) := by decide +kernel
theorem dX7_howManyStand_1 : decode cX7_howManyStand 1 = .ok (.istore_n 1, 1) := by decide +kernel
theorem dX7_howManyStand_2 : decode cX7_howManyStand 2 = .ok (.bipush 24, 2) := by decide +kernel
theorem dX7_howManyStand_4 : decode cX7_howManyStand 4 = .ok (.istore_n 2, 1) := by decide +kernel
theorem dX7_howManyStand_5 : decode cX7_howManyStand 5 = .ok (.iload_n 2, 1) := by decide +kernel
theorem dX7_howManyStand_6 : decode cX7_howManyStand 6 = .ok (.ifCond .lt 22, 3) := by decide +kernel
theorem dX7_howManyStand_9 : decode cX7_howManyStand 9 = .ok (.iload_n 0, 1) := by decide +kernel
theorem dX7_howManyStand_10 : decode cX7_howManyStand 10 = .ok (.iload_n 2, 1) := by decide +kernel
theorem dX7_howManyStand_11 : decode cX7_howManyStand 11 = .ok (.iushr, 1) := by decide +kernel
theorem dX7_howManyStand_12 : decode cX7_howManyStand 12 = .ok (.sipush 255, 3) := by decide +kernel
theorem dX7_howManyStand_15 : decode cX7_howManyStand 15 = .ok (.iand, 1) := by decide +kernel
theorem dX7_howManyStand_16 : decode cX7_howManyStand 16 = .ok (.ifCond .eq 6, 3) := by decide +kernel
theorem dX7_howManyStand_19 : decode cX7_howManyStand 19 = .ok (.iinc 1 1, 3) := by decide +kernel
theorem dX7_howManyStand_22 : decode cX7_howManyStand 22 = .ok (.iinc 2 (-8), 3) := by decide +kernel
theorem dX7_howManyStand_25 : decode cX7_howManyStand 25 = .ok (.goto (-20), 3) := by decide +kernel
theorem dX7_howManyStand_28 : decode cX7_howManyStand 28 = .ok (.iload_n 1, 1) := by decide +kernel
theorem dX7_howManyStand_29 : decode cX7_howManyStand 29 = .ok (.ireturn, 1) := by decide +kernel
def fX7_howManyStand_L5 (x1 : Int32) (K5_28 : Int32 → Int32 → Option (Int32)) : Nat → Int32 → Int32 → Option (Int32)
  | 0, _, _ => none
  | n5 + 1, v1_5, v2_5 => (if v2_5 < 0 then (K5_28 v1_5 v2_5) else (if (((x1).toUInt32 >>> ((v2_5).toUInt32 &&& Int32.toUInt32 31)).toInt32 &&& (255 : Int32)) = 0 then (fX7_howManyStand_L5 x1 K5_28 n5 v1_5 (v2_5 + (-8 : Int32))) else (fX7_howManyStand_L5 x1 K5_28 n5 (v1_5 + (1 : Int32)) (v2_5 + (-8 : Int32)))))
def fX7_howManyStand (N : Nat) (x1 : Int32) : Option (Int32) := fX7_howManyStand_L5 x1 (fun (v1_5 : Int32) (v2_5 : Int32) => some (v1_5)) N (0 : Int32) (24 : Int32)
set_option maxHeartbeats 4000000 in
set_option maxRecDepth 100000 in
theorem mX7_howManyStand (l : Launch) (D : va_G) (cB cI cZ : ClassId) (sz : Nat) (x1 : Int32) (N : Nat) (r0 : Int32) (h : fX7_howManyStand N x1 = some (r0)) : Met l yX7_howManyStand wsX7_howManyStand ({ frames := 0, cells := 0, slots := 0, locals := 0 } : Room) (va_Pc [.int x1] (zPre D (zT cB cI cZ) [] sz)) (zQi r0 D (zT cB cI cZ) [] (va_A [] sz)) 0 0 (va_A [] sz) := by
  refine Met.ofW (cc := cX7_howManyStand) (maxL := 3) (ret := (some .int)) (by decide) rfl ?_
  intro p e s m args below meth c s₁ B hml hv
  obtain ⟨rfl, hsz, hP, hK, hN, hZ, hD0⟩ := hv
  have hx := B.exec
  have hb := B.bytes
  have hr := B.returns
  have hts := atoms_spec (ws := wsX7_howManyStand) B.pre
  have hown : s.vm.findClass RX7 = some m.cls := findClass_of_methodNamed B.named
  have hlocks := B.notSynchronized
  subst hsz
  have hD := hD0.self (sz := s.heap.size)
  generalize hAe : va_A [] s.heap.size = A at hD hZ ⊢
  have hA : ∀ q : Nat, s.heap.size ≤ q → A q := fun q h => by rw [← hAe]; exact Or.inr h
  have hS : va_S A s.heap s.heap [] := va_S.rf
  have hl := lv_entry ([.int x1]) (n := 3) (Nat.le_of_ble_eq_true rfl)
  rw [lg_entry_eq]
  generalize (lg_sl ([.int x1]) ++ List.replicate (3 - (lg_sl ([.int x1])).length) Slot.unset).toArray = ls at hl ⊢
  have hl : lv_has ls 3 [(0, .int x1)] := hl
  unfold fX7_howManyStand at h
  refine lv_iconst (v := (0 : Int32)) hx hb dX7_howManyStand_0 rfl ?_
  refine lv_istore_n (lv' := [(1, .int (0 : Int32)), (0, .int x1)]) hx hb dX7_howManyStand_1 rfl hl (by decide) rfl (fun ls hl => ?_)
  refine lv_bipush (v := (24 : Int32)) hx hb dX7_howManyStand_2 rfl ?_
  refine lv_istore_n (lv' := [(2, .int (24 : Int32)), (1, .int (0 : Int32)), (0, .int x1)]) hx hb dX7_howManyStand_4 rfl hl (by decide) rfl (fun ls hl => ?_)
  have X5_28 : ∀ (v1_5 : Int32) (v2_5 : Int32) (H : Heap) (locs : List Loc) (ls : Array Slot), some (v1_5) = some (r0) → va_P D vwCl [] H → va_D A [] → va_S A s.heap H locs → lv_has ls 3 [(2, .int v2_5), (1, .int v1_5), (0, .int x1)] → W p l e (headSpec wsX7_howManyStand ({ frames := 0, cells := 0, slots := 0, locals := 0 } : Room)).room s m #[Value.int x1] below meth c H locs 0 0 (MQ below (zQi r0 D (zT cB cI cZ) [] A) #[Value.int x1] s 0 0 A) (F0 m 28 ls []) := by
    intro v1_5 v2_5 H locs ls h hP hD hS hl
    refine lv_iload_n hx hb dX7_howManyStand_28 rfl (lv_at hl 1 rfl) ?_
    have j0_ := Option.some.inj h
    subst j0_
    exact W.iret (v := v1_5) hx hb hr (fun t ht hW => ⟨⟨_, (), rfl, rfl, zPost.of hP hD hK ht hW [] rfl rfl rfl⟩, hS.F ht⟩) hS.2.2 dX7_howManyStand_29
  have L5 : ∀ (n : Nat) (v1_5 : Int32) (v2_5 : Int32) (H : Heap) (locs : List Loc) (ls : Array Slot), fX7_howManyStand_L5 x1 (fun (v1_5 : Int32) (v2_5 : Int32) => some (v1_5)) n v1_5 v2_5 = some (r0) → va_P D vwCl [] H → va_D A [] → va_S A s.heap H locs → lv_has ls 3 [(2, .int v2_5), (1, .int v1_5), (0, .int x1)] → W p l e (headSpec wsX7_howManyStand ({ frames := 0, cells := 0, slots := 0, locals := 0 } : Room)).room s m #[Value.int x1] below meth c H locs 0 0 (MQ below (zQi r0 D (zT cB cI cZ) [] A) #[Value.int x1] s 0 0 A) (F0 m 5 ls []) := by
    intro n
    induction n with
    | zero => intro _ _ H locs ls h hP hD hS hl; cases h
    | succ n5 ih5 =>
      intro v1_5 v2_5 H locs ls h hP hD hS hl
      rw [fX7_howManyStand_L5.eq_2] at h
      refine lv_iload_n hx hb dX7_howManyStand_5 rfl (lv_at hl 0 rfl) ?_
      refine lv_if_lt (tgt := 28) hx hb dX7_howManyStand_6 (by decide) (fun c1 => ?_) (fun c1 => ?_)
      · have h := zz_t h c1
        exact X5_28 v1_5 v2_5 _ _ _ h (hP.sub [] rfl) (hD.sub [] rfl rfl) hS (lv_sub hl [0, 1, 2] rfl)
      · have h := zz_f h c1
        refine lv_iload_n hx hb dX7_howManyStand_9 rfl (lv_at hl 2 rfl) ?_
        refine lv_iload_n hx hb dX7_howManyStand_10 rfl (lv_at hl 0 rfl) ?_
        refine lv_iushr hx hb dX7_howManyStand_11 rfl ?_
        refine lv_sipush (v := (255 : Int32)) hx hb dX7_howManyStand_12 rfl ?_
        refine lv_iand hx hb dX7_howManyStand_15 ?_
        refine lv_if_eq (tgt := 22) hx hb dX7_howManyStand_16 (by decide) (fun c2 => ?_) (fun c2 => ?_)
        · have h := zz_t h c2
          refine lv_iinc (v := (v2_5 + (-8 : Int32))) (lv' := [(2, .int (v2_5 + (-8 : Int32))), (1, .int v1_5), (0, .int x1)]) hx hb dX7_howManyStand_22 hl (k := 0) rfl rfl (by decide) rfl (fun ls hl => ?_)
          refine lv_goto (tgt := 5) hx hb dX7_howManyStand_25 (by decide) ?_
          exact ih5 v1_5 (v2_5 + (-8 : Int32)) _ _ _ h (hP.sub [] rfl) (hD.sub [] rfl rfl) hS (lv_sub hl [0, 1, 2] rfl)
        · have h := zz_f h c2
          refine lv_iinc (v := (v1_5 + (1 : Int32))) (lv' := [(1, .int (v1_5 + (1 : Int32))), (2, .int v2_5), (0, .int x1)]) hx hb dX7_howManyStand_19 hl (k := 1) rfl rfl (by decide) rfl (fun ls hl => ?_)
          refine lv_iinc (v := (v2_5 + (-8 : Int32))) (lv' := [(2, .int (v2_5 + (-8 : Int32))), (1, .int (v1_5 + (1 : Int32))), (0, .int x1)]) hx hb dX7_howManyStand_22 hl (k := 1) rfl rfl (by decide) rfl (fun ls hl => ?_)
          refine lv_goto (tgt := 5) hx hb dX7_howManyStand_25 (by decide) ?_
          exact ih5 (v1_5 + (1 : Int32)) (v2_5 + (-8 : Int32)) _ _ _ h (hP.sub [] rfl) (hD.sub [] rfl rfl) hS (lv_sub hl [0, 1, 2] rfl)
  exact L5 N (0 : Int32) (24 : Int32) _ _ _ h hP hD hS hl
/-! RunDesk$Text.append -/
theorem dX7_append_0 : decode cX7_append 0 = .ok (.aload_n 0, 1) := by decide +kernel
theorem dX7_append_1 : decode cX7_append 1 = .ok (.getfield 15, 3) := by decide +kernel
theorem dX7_append_4 : decode cX7_append 4 = .ok (.iload_n 1, 1) := by decide +kernel
theorem dX7_append_5 : decode cX7_append 5 = .ok (.invokestatic 19, 3) := by decide +kernel
theorem dX7_append_8 : decode cX7_append 8 = .ok (.iadd, 1) := by decide +kernel
theorem dX7_append_9 : decode cX7_append 9 = .ok (.sipush 200, 3) := by decide +kernel
theorem dX7_append_12 : decode cX7_append 12 = .ok (.if_icmp .le 5, 3) := by decide +kernel
theorem dX7_append_15 : decode cX7_append 15 = .ok (.iconst (-1), 1) := by decide +kernel
theorem dX7_append_16 : decode cX7_append 16 = .ok (.ireturn, 1) := by decide +kernel
theorem dX7_append_17 : decode cX7_append 17 = .ok (.bipush 24, 2) := by decide +kernel
theorem dX7_append_19 : decode cX7_append 19 = .ok (.istore_n 2, 1) := by decide +kernel
theorem dX7_append_20 : decode cX7_append 20 = .ok (.iload_n 2, 1) := by decide +kernel
theorem dX7_append_21 : decode cX7_append 21 = .ok (.ifCond .lt 58, 3) := by decide +kernel
theorem dX7_append_24 : decode cX7_append 24 = .ok (.iload_n 1, 1) := by decide +kernel
theorem dX7_append_25 : decode cX7_append 25 = .ok (.iload_n 2, 1) := by decide +kernel
theorem dX7_append_26 : decode cX7_append 26 = .ok (.iushr, 1) := by decide +kernel
theorem dX7_append_27 : decode cX7_append 27 = .ok (.sipush 255, 3) := by decide +kernel
theorem dX7_append_30 : decode cX7_append 30 = .ok (.iand, 1) := by decide +kernel
theorem dX7_append_31 : decode cX7_append 31 = .ok (.istore_n 3, 1) := by decide +kernel
theorem dX7_append_32 : decode cX7_append 32 = .ok (.iload_n 3, 1) := by decide +kernel
theorem dX7_append_33 : decode cX7_append 33 = .ok (.ifCond .eq 40, 3) := by decide +kernel
theorem dX7_append_36 : decode cX7_append 36 = .ok (.aload_n 0, 1) := by decide +kernel
theorem dX7_append_37 : decode cX7_append 37 = .ok (.getfield 15, 3) := by decide +kernel
theorem dX7_append_40 : decode cX7_append 40 = .ok (.ifCond .lt 33, 3) := by decide +kernel
theorem dX7_append_43 : decode cX7_append 43 = .ok (.aload_n 0, 1) := by decide +kernel
theorem dX7_append_44 : decode cX7_append 44 = .ok (.getfield 15, 3) := by decide +kernel
theorem dX7_append_47 : decode cX7_append 47 = .ok (.sipush 200, 3) := by decide +kernel
theorem dX7_append_50 : decode cX7_append 50 = .ok (.if_icmp .ge 23, 3) := by decide +kernel
theorem dX7_append_53 : decode cX7_append 53 = .ok (.aload_n 0, 1) := by decide +kernel
theorem dX7_append_54 : decode cX7_append 54 = .ok (.getfield 9, 3) := by decide +kernel
theorem dX7_append_57 : decode cX7_append 57 = .ok (.aload_n 0, 1) := by decide +kernel
theorem dX7_append_58 : decode cX7_append 58 = .ok (.getfield 15, 3) := by decide +kernel
theorem dX7_append_61 : decode cX7_append 61 = .ok (.iload_n 3, 1) := by decide +kernel
theorem dX7_append_62 : decode cX7_append 62 = .ok (.iastore, 1) := by decide +kernel
theorem dX7_append_63 : decode cX7_append 63 = .ok (.aload_n 0, 1) := by decide +kernel
theorem dX7_append_64 : decode cX7_append 64 = .ok (.dup, 1) := by decide +kernel
theorem dX7_append_65 : decode cX7_append 65 = .ok (.getfield 15, 3) := by decide +kernel
theorem dX7_append_68 : decode cX7_append 68 = .ok (.iconst 1, 1) := by decide +kernel
theorem dX7_append_69 : decode cX7_append 69 = .ok (.iadd, 1) := by decide +kernel
theorem dX7_append_70 : decode cX7_append 70 = .ok (.putfield 15, 3) := by decide +kernel
theorem dX7_append_73 : decode cX7_append 73 = .ok (.iinc 2 (-8), 3) := by decide +kernel
theorem dX7_append_76 : decode cX7_append 76 = .ok (.goto (-56), 3) := by decide +kernel
theorem dX7_append_79 : decode cX7_append 79 = .ok (.aload_n 0, 1) := by decide +kernel
theorem dX7_append_80 : decode cX7_append 80 = .ok (.getfield 15, 3) := by decide +kernel
theorem dX7_append_83 : decode cX7_append 83 = .ok (.ireturn, 1) := by decide +kernel
set_option maxRecDepth 20000 in
theorem ggX7_append_X7_howManyStand : GoodIn wsX7_append wsX7_howManyStand := goodIn_r _ [6] (by decide +kernel) (by decide +kernel)
set_option maxRecDepth 20000 in
theorem gX7_append_X7_howManyStand : GoodIn wsX7_append (va_wsS RX7 19 yX7_howManyStand wsX7_howManyStand) := goodIn_app (goodIn_of _ (by decide +kernel)) ggX7_append_X7_howManyStand
def fX7_append_L20 (x1 : Int32) (K20_79 : Int32 → Int32 → (Nat → Int32) → Option (Int32 × Int32 × (Nat → Int32))) : Nat → Int32 → Int32 → (Nat → Int32) → Option (Int32 × Int32 × (Nat → Int32))
  | 0, _, _, _ => none
  | n20 + 1, v2_20, t_length_l20, t_bytes_l20 => (if v2_20 < 0 then (K20_79 v2_20 t_length_l20 t_bytes_l20) else (if (((x1).toUInt32 >>> ((v2_20).toUInt32 &&& Int32.toUInt32 31)).toInt32 &&& (255 : Int32)) = 0 then (fX7_append_L20 x1 K20_79 n20 (v2_20 + (-8 : Int32)) t_length_l20 t_bytes_l20) else (if t_length_l20 < 0 then (fX7_append_L20 x1 K20_79 n20 (v2_20 + (-8 : Int32)) t_length_l20 t_bytes_l20) else (if (200 : Int32) ≤ t_length_l20 then (fX7_append_L20 x1 K20_79 n20 (v2_20 + (-8 : Int32)) t_length_l20 t_bytes_l20) else (if zin t_length_l20 200 then (fX7_append_L20 x1 K20_79 n20 (v2_20 + (-8 : Int32)) (t_length_l20 + (1 : Int32)) (upd t_bytes_l20 (t_length_l20).toNatClampNeg (((x1).toUInt32 >>> ((v2_20).toUInt32 &&& Int32.toUInt32 31)).toInt32 &&& (255 : Int32)))) else none)))))
def fX7_append (N : Nat) (t_length : Int32) (t_bytes : Nat → Int32) (x1 : Int32) : Option (Int32 × Int32 × (Nat → Int32)) := ((fX7_howManyStand N x1).bind (fun r1 => (if (t_length + r1) ≤ (200 : Int32) then fX7_append_L20 x1 (fun (v2_20 : Int32) (t_length_l20 : Int32) (t_bytes_l20 : Nat → Int32) => some (t_length_l20, t_length_l20, t_bytes_l20)) N (24 : Int32) t_length t_bytes else some ((-1 : Int32), t_length, t_bytes))))
theorem kX7_append_0 : (.fieldLink RX7 15 "RunDesk$Text" "length" "I" : Cond) ∈ wsX7_append := List.mem_of_getElem? (i := 1) (by decide +kernel)
theorem qX7_append_X7 : ∀ w ∈ wsX70, w ∈ wsX7_append := fun _ h => List.mem_cons_of_mem _ (List.mem_append_right _ (h))
theorem kX7_append_2 : (.fieldLink RX7 9 "RunDesk$Text" "bytes" "[I" : Cond) ∈ wsX7_append := List.mem_of_getElem? (i := 2) (by decide +kernel)
set_option maxHeartbeats 4000000 in
set_option maxRecDepth 100000 in
theorem mX7_append (l : Launch) (D : va_G) (cB cI cZ : ClassId) (a_t : Nat) (a_t_bytes : Nat) (t_length : Int32) (t_bytes : Nat → Int32) (sz : Nat) (x1 : Int32) (N : Nat) (r0 : Int32) (t_length' : Int32) (t_bytes' : Nat → Int32) (h : fX7_append N t_length t_bytes x1 = some (r0, t_length', t_bytes')) : Met l yX7_append wsX7_append ({ frames := 1, cells := 0, slots := 0, locals := 22 } : Room) (va_Pc [.ref a_t, .int x1] (zPre D (zT cB cI cZ) [(a_t, .inr (7, [.ref a_t_bytes, .int t_length])), (a_t_bytes, .inl (cI, 200, .inl t_bytes))] sz)) (zQi r0 D (zT cB cI cZ) [(a_t, .inr (7, [.ref a_t_bytes, .int t_length'])), (a_t_bytes, .inl (cI, 200, .inl t_bytes'))] (va_A [(a_t, .inr (7, [.ref a_t_bytes, .int t_length])), (a_t_bytes, .inl (cI, 200, .inl t_bytes))] sz)) 0 0 (va_A [(a_t, .inr (7, [.ref a_t_bytes, .int t_length])), (a_t_bytes, .inl (cI, 200, .inl t_bytes))] sz) := by
  refine Met.ofW (cc := cX7_append) (maxL := 4) (ret := (some .int)) (by decide) rfl ?_
  intro p e s m args below meth c s₁ B hml hv
  obtain ⟨rfl, hsz, hP, hK, hN, hZ, hD0⟩ := hv
  have hx := B.exec
  have hb := B.bytes
  have hr := B.returns
  have hts := atoms_spec (ws := wsX7_append) B.pre
  have hown : s.vm.findClass RX7 = some m.cls := findClass_of_methodNamed B.named
  have hlocks := B.notSynchronized
  subst hsz
  have hD := hD0.self (sz := s.heap.size)
  generalize hAe : va_A [(a_t, .inr (7, [.ref a_t_bytes, .int t_length])), (a_t_bytes, .inl (cI, 200, .inl t_bytes))] s.heap.size = A at hD hZ ⊢
  have hA : ∀ q : Nat, s.heap.size ≤ q → A q := fun q h => by rw [← hAe]; exact Or.inr h
  have hS : va_S A s.heap s.heap [] := va_S.rf
  have hl := lv_entry ([.ref a_t, .int x1]) (n := 4) (Nat.le_of_ble_eq_true rfl)
  rw [lg_entry_eq]
  generalize (lg_sl ([.ref a_t, .int x1]) ++ List.replicate (4 - (lg_sl ([.ref a_t, .int x1])).length) Slot.unset).toArray = ls at hl ⊢
  have hl : lv_has ls 4 [(0, .ref a_t), (1, .int x1)] := hl
  unfold fX7_append at h
  refine lv_aload_n hx hb dX7_append_0 rfl (lv_at hl 0 rfl) ?_
  refine va_get (D := D) (ci := 7) (C := RX7) (T := TX7) (N := 2) hx hb hts qX7_append_X7 hown hK hP 0 rfl rfl 1 (by decide) (hts _ kX7_append_0) (fun _ h9 => h9) rfl dX7_append_1 ?_
  refine lv_iload_n hx hb dX7_append_4 rfl (lv_at hl 1 rfl) ?_
  obtain ⟨r1, e2, h⟩ := zz_b h
  refine zSi (As := [.int x1]) (rest := [.int t_length]) (wr := [(a_t, .inr (7, [.ref a_t_bytes, .int t_length])), (a_t_bytes, .inl (cI, 200, .inl t_bytes))]) [] [0, 1] ⟨hx, hb, hml, hown, hts⟩ (mX7_howManyStand l D cB cI cZ s.heap.size x1 N r1 e2) (va_cwS 1 hts gX7_append_X7_howManyStand rfl rfl rfl (by decide +kernel) ⟨Nat.le_of_ble_eq_true rfl, Nat.le_of_ble_eq_true rfl⟩) hK hN hZ hP hD hS hA rfl rfl rfl rfl rfl rfl hl.1 rfl (lv_room (Nat.le_of_ble_eq_true rfl)) dX7_append_5 ⟨Nat.le_of_ble_eq_true rfl, Nat.le_of_ble_eq_true rfl⟩ (fun H locs hP hD hS => ?_)
  have hP : va_P D vwCl [(a_t, .inr (7, [.ref a_t_bytes, .int t_length])), (a_t_bytes, .inl (cI, 200, .inl t_bytes))] H := hP
  have hD : va_D A [(a_t, .inr (7, [.ref a_t_bytes, .int t_length])), (a_t_bytes, .inl (cI, 200, .inl t_bytes))] := hD
  refine lv_iadd hx hb dX7_append_8 ?_
  refine lv_sipush (v := (200 : Int32)) hx hb dX7_append_9 rfl ?_
  refine lv_icmp_le (tgt := 17) hx hb dX7_append_12 (by decide) (fun c3 => ?_) (fun c3 => ?_)
  · have h := zz_t h c3
    refine lv_bipush (v := (24 : Int32)) hx hb dX7_append_17 rfl ?_
    refine lv_istore_n (lv' := [(2, .int (24 : Int32)), (0, .ref a_t), (1, .int x1)]) hx hb dX7_append_19 rfl hl (by decide) rfl (fun ls hl => ?_)
    have X20_79 : ∀ (v2_20 : Int32) (t_length_l20 : Int32) (t_bytes_l20 : Nat → Int32) (H : Heap) (locs : List Loc) (ls : Array Slot), some (t_length_l20, t_length_l20, t_bytes_l20) = some (r0, t_length', t_bytes') → va_P D vwCl [(a_t, .inr (7, [.ref a_t_bytes, .int t_length_l20])), (a_t_bytes, .inl (cI, 200, .inl t_bytes_l20))] H → va_D A [(a_t, .inr (7, [.ref a_t_bytes, .int t_length_l20])), (a_t_bytes, .inl (cI, 200, .inl t_bytes_l20))] → va_S A s.heap H locs → lv_has ls 4 [(2, .int v2_20), (0, .ref a_t), (1, .int x1)] → W p l e (headSpec wsX7_append ({ frames := 1, cells := 0, slots := 0, locals := 22 } : Room)).room s m #[Value.ref a_t, Value.int x1] below meth c H locs 0 0 (MQ below (zQi r0 D (zT cB cI cZ) [(a_t, .inr (7, [.ref a_t_bytes, .int t_length'])), (a_t_bytes, .inl (cI, 200, .inl t_bytes'))] A) #[Value.ref a_t, Value.int x1] s 0 0 A) (F0 m 79 ls []) := by
      intro v2_20 t_length_l20 t_bytes_l20 H locs ls h hP hD hS hl
      refine lv_aload_n hx hb dX7_append_79 rfl (lv_at hl 1 rfl) ?_
      refine va_get (D := D) (ci := 7) (C := RX7) (T := TX7) (N := 2) hx hb hts qX7_append_X7 hown hK hP 0 rfl rfl 1 (by decide) (hts _ kX7_append_0) (fun _ h9 => h9) rfl dX7_append_80 ?_
      obtain ⟨j0_, g_⟩ := Prod.mk.inj (Option.some.inj h)
      obtain ⟨j1_, g_⟩ := Prod.mk.inj g_
      have j2_ := g_
      subst j0_
      subst j1_
      subst j2_
      exact W.iret (v := t_length_l20) hx hb hr (fun t ht hW => ⟨⟨_, (), rfl, rfl, zPost.of hP hD hK ht hW [0, 1] rfl rfl rfl⟩, hS.F ht⟩) hS.2.2 dX7_append_83
    have L20 : ∀ (n : Nat) (v2_20 : Int32) (t_length_l20 : Int32) (t_bytes_l20 : Nat → Int32) (H : Heap) (locs : List Loc) (ls : Array Slot), fX7_append_L20 x1 (fun (v2_20 : Int32) (t_length_l20 : Int32) (t_bytes_l20 : Nat → Int32) => some (t_length_l20, t_length_l20, t_bytes_l20)) n v2_20 t_length_l20 t_bytes_l20 = some (r0, t_length', t_bytes') → va_P D vwCl [(a_t, .inr (7, [.ref a_t_bytes, .int t_length_l20])), (a_t_bytes, .inl (cI, 200, .inl t_bytes_l20))] H → va_D A [(a_t, .inr (7, [.ref a_t_bytes, .int t_length_l20])), (a_t_bytes, .inl (cI, 200, .inl t_bytes_l20))] → va_S A s.heap H locs → lv_has ls 4 [(2, .int v2_20), (0, .ref a_t), (1, .int x1)] → W p l e (headSpec wsX7_append ({ frames := 1, cells := 0, slots := 0, locals := 22 } : Room)).room s m #[Value.ref a_t, Value.int x1] below meth c H locs 0 0 (MQ below (zQi r0 D (zT cB cI cZ) [(a_t, .inr (7, [.ref a_t_bytes, .int t_length'])), (a_t_bytes, .inl (cI, 200, .inl t_bytes'))] A) #[Value.ref a_t, Value.int x1] s 0 0 A) (F0 m 20 ls []) := by
      intro n
      induction n with
      | zero => intro _ _ _ H locs ls h hP hD hS hl; cases h
      | succ n20 ih20 =>
        intro v2_20 t_length_l20 t_bytes_l20 H locs ls h hP hD hS hl
        rw [fX7_append_L20.eq_2] at h
        refine lv_iload_n hx hb dX7_append_20 rfl (lv_at hl 0 rfl) ?_
        refine lv_if_lt (tgt := 79) hx hb dX7_append_21 (by decide) (fun c4 => ?_) (fun c4 => ?_)
        · have h := zz_t h c4
          exact X20_79 v2_20 t_length_l20 t_bytes_l20 _ _ _ h (hP.sub [0, 1] rfl) (hD.sub [0, 1] rfl rfl) hS (lv_sub hl [0, 1, 2] rfl)
        · have h := zz_f h c4
          refine lv_iload_n hx hb dX7_append_24 rfl (lv_at hl 2 rfl) ?_
          refine lv_iload_n hx hb dX7_append_25 rfl (lv_at hl 0 rfl) ?_
          refine lv_iushr hx hb dX7_append_26 rfl ?_
          refine lv_sipush (v := (255 : Int32)) hx hb dX7_append_27 rfl ?_
          refine lv_iand hx hb dX7_append_30 ?_
          refine lv_istore_n (lv' := [(3, .int (((x1).toUInt32 >>> ((v2_20).toUInt32 &&& Int32.toUInt32 31)).toInt32 &&& (255 : Int32))), (2, .int v2_20), (0, .ref a_t), (1, .int x1)]) hx hb dX7_append_31 rfl hl (by decide) rfl (fun ls hl => ?_)
          refine lv_iload_n hx hb dX7_append_32 rfl (lv_at hl 0 rfl) ?_
          refine lv_if_eq (tgt := 73) hx hb dX7_append_33 (by decide) (fun c5 => ?_) (fun c5 => ?_)
          · have h := zz_t h c5
            refine lv_iinc (v := (v2_20 + (-8 : Int32))) (lv' := [(2, .int (v2_20 + (-8 : Int32))), (3, .int (((x1).toUInt32 >>> ((v2_20).toUInt32 &&& Int32.toUInt32 31)).toInt32 &&& (255 : Int32))), (0, .ref a_t), (1, .int x1)]) hx hb dX7_append_73 hl (k := 1) rfl rfl (by decide) rfl (fun ls hl => ?_)
            refine lv_goto (tgt := 20) hx hb dX7_append_76 (by decide) ?_
            exact ih20 (v2_20 + (-8 : Int32)) t_length_l20 t_bytes_l20 _ _ _ h (hP.sub [0, 1] rfl) (hD.sub [0, 1] rfl rfl) hS (lv_sub hl [0, 2, 3] rfl)
          · have h := zz_f h c5
            refine lv_aload_n hx hb dX7_append_36 rfl (lv_at hl 2 rfl) ?_
            refine va_get (D := D) (ci := 7) (C := RX7) (T := TX7) (N := 2) hx hb hts qX7_append_X7 hown hK hP 0 rfl rfl 1 (by decide) (hts _ kX7_append_0) (fun _ h9 => h9) rfl dX7_append_37 ?_
            refine lv_if_lt (tgt := 73) hx hb dX7_append_40 (by decide) (fun c6 => ?_) (fun c6 => ?_)
            · have h := zz_t h c6
              refine lv_iinc (v := (v2_20 + (-8 : Int32))) (lv' := [(2, .int (v2_20 + (-8 : Int32))), (3, .int (((x1).toUInt32 >>> ((v2_20).toUInt32 &&& Int32.toUInt32 31)).toInt32 &&& (255 : Int32))), (0, .ref a_t), (1, .int x1)]) hx hb dX7_append_73 hl (k := 1) rfl rfl (by decide) rfl (fun ls hl => ?_)
              refine lv_goto (tgt := 20) hx hb dX7_append_76 (by decide) ?_
              exact ih20 (v2_20 + (-8 : Int32)) t_length_l20 t_bytes_l20 _ _ _ h (hP.sub [0, 1] rfl) (hD.sub [0, 1] rfl rfl) hS (lv_sub hl [0, 2, 3] rfl)
            · have h := zz_f h c6
              refine lv_aload_n hx hb dX7_append_43 rfl (lv_at hl 2 rfl) ?_
              refine va_get (D := D) (ci := 7) (C := RX7) (T := TX7) (N := 2) hx hb hts qX7_append_X7 hown hK hP 0 rfl rfl 1 (by decide) (hts _ kX7_append_0) (fun _ h9 => h9) rfl dX7_append_44 ?_
              refine lv_sipush (v := (200 : Int32)) hx hb dX7_append_47 rfl ?_
              refine lv_icmp_ge (tgt := 73) hx hb dX7_append_50 (by decide) (fun c7 => ?_) (fun c7 => ?_)
              · have h := zz_t h c7
                refine lv_iinc (v := (v2_20 + (-8 : Int32))) (lv' := [(2, .int (v2_20 + (-8 : Int32))), (3, .int (((x1).toUInt32 >>> ((v2_20).toUInt32 &&& Int32.toUInt32 31)).toInt32 &&& (255 : Int32))), (0, .ref a_t), (1, .int x1)]) hx hb dX7_append_73 hl (k := 1) rfl rfl (by decide) rfl (fun ls hl => ?_)
                refine lv_goto (tgt := 20) hx hb dX7_append_76 (by decide) ?_
                exact ih20 (v2_20 + (-8 : Int32)) t_length_l20 t_bytes_l20 _ _ _ h (hP.sub [0, 1] rfl) (hD.sub [0, 1] rfl rfl) hS (lv_sub hl [0, 2, 3] rfl)
              · have h := zz_f h c7
                refine lv_aload_n hx hb dX7_append_53 rfl (lv_at hl 2 rfl) ?_
                refine va_get (D := D) (ci := 7) (C := RX7) (T := TX7) (N := 2) hx hb hts qX7_append_X7 hown hK hP 0 rfl rfl 0 (by decide) (hts _ kX7_append_2) (fun _ h9 => h9) rfl dX7_append_54 ?_
                refine lv_aload_n hx hb dX7_append_57 rfl (lv_at hl 2 rfl) ?_
                refine va_get (D := D) (ci := 7) (C := RX7) (T := TX7) (N := 2) hx hb hts qX7_append_X7 hown hK hP 0 rfl rfl 1 (by decide) (hts _ kX7_append_0) (fun _ h9 => h9) rfl dX7_append_58 ?_
                refine lv_iload_n hx hb dX7_append_61 rfl (lv_at hl 0 rfl) ?_
                obtain ⟨i8, h⟩ := zz_i h
                refine va_iast hx hb hK hP hD hS 1 1 rfl rfl i8 dX7_append_62 (fun H locs hP hD hS => ?_)
                have hP : va_P D vwCl [(a_t, .inr (7, [.ref a_t_bytes, .int t_length_l20])), (a_t_bytes, .inl (cI, 200, .inl (upd t_bytes_l20 (t_length_l20).toNatClampNeg (((x1).toUInt32 >>> ((v2_20).toUInt32 &&& Int32.toUInt32 31)).toInt32 &&& (255 : Int32)))))] H := hP
                have hD : va_D A [(a_t, .inr (7, [.ref a_t_bytes, .int t_length_l20])), (a_t_bytes, .inl (cI, 200, .inl (upd t_bytes_l20 (t_length_l20).toNatClampNeg (((x1).toUInt32 >>> ((v2_20).toUInt32 &&& Int32.toUInt32 31)).toInt32 &&& (255 : Int32)))))] := hD
                refine lv_aload_n hx hb dX7_append_63 rfl (lv_at hl 2 rfl) ?_
                refine lv_dup hx hb dX7_append_64 rfl ?_
                refine va_get (D := D) (ci := 7) (C := RX7) (T := TX7) (N := 2) hx hb hts qX7_append_X7 hown hK hP 0 rfl rfl 1 (by decide) (hts _ kX7_append_0) (fun _ h9 => h9) rfl dX7_append_65 ?_
                refine lv_iconst (v := (1 : Int32)) hx hb dX7_append_68 rfl ?_
                refine lv_iadd hx hb dX7_append_69 ?_
                refine va_put (D := D) (ci := 7) (ty := .int) (C := RX7) (T := TX7) (N := 2) hx hb hts qX7_append_X7 tyX7 tyX7_ok nmX7 hown hK hP hD hS 0 rfl rfl 1 (by decide) (hts _ kX7_append_0) (fun _ h9 => h9) rfl (by decide +kernel) rfl (by first | rfl | exact zz_fit) (Nat.le_of_ble_eq_true rfl) dX7_append_70 (fun H locs hP hD hS => ?_)
                have hP : va_P D vwCl [(a_t, .inr (7, [.ref a_t_bytes, .int (t_length_l20 + (1 : Int32))])), (a_t_bytes, .inl (cI, 200, .inl (upd t_bytes_l20 (t_length_l20).toNatClampNeg (((x1).toUInt32 >>> ((v2_20).toUInt32 &&& Int32.toUInt32 31)).toInt32 &&& (255 : Int32)))))] H := hP
                have hD : va_D A [(a_t, .inr (7, [.ref a_t_bytes, .int (t_length_l20 + (1 : Int32))])), (a_t_bytes, .inl (cI, 200, .inl (upd t_bytes_l20 (t_length_l20).toNatClampNeg (((x1).toUInt32 >>> ((v2_20).toUInt32 &&& Int32.toUInt32 31)).toInt32 &&& (255 : Int32)))))] := hD
                refine lv_iinc (v := (v2_20 + (-8 : Int32))) (lv' := [(2, .int (v2_20 + (-8 : Int32))), (3, .int (((x1).toUInt32 >>> ((v2_20).toUInt32 &&& Int32.toUInt32 31)).toInt32 &&& (255 : Int32))), (0, .ref a_t), (1, .int x1)]) hx hb dX7_append_73 hl (k := 1) rfl rfl (by decide) rfl (fun ls hl => ?_)
                refine lv_goto (tgt := 20) hx hb dX7_append_76 (by decide) ?_
                exact ih20 (v2_20 + (-8 : Int32)) (t_length_l20 + (1 : Int32)) (upd t_bytes_l20 (t_length_l20).toNatClampNeg (((x1).toUInt32 >>> ((v2_20).toUInt32 &&& Int32.toUInt32 31)).toInt32 &&& (255 : Int32))) _ _ _ h (hP.sub [0, 1] rfl) (hD.sub [0, 1] rfl rfl) hS (lv_sub hl [0, 2, 3] rfl)
    exact L20 N (24 : Int32) t_length t_bytes _ _ _ h hP hD hS hl
  · have h := zz_f h c3
    refine lv_iconst (v := (-1 : Int32)) hx hb dX7_append_15 rfl ?_
    obtain ⟨j0_, g_⟩ := Prod.mk.inj (Option.some.inj h)
    obtain ⟨j1_, g_⟩ := Prod.mk.inj g_
    have j2_ := g_
    subst j0_
    subst j1_
    subst j2_
    exact W.iret (v := (-1 : Int32)) hx hb hr (fun t ht hW => ⟨⟨_, (), rfl, rfl, zPost.of hP hD hK ht hW [0, 1] rfl rfl rfl⟩, hS.F ht⟩) hS.2.2 dX7_append_16
/-! RunDesk$Text.shorten -/
theorem dX7_shorten_0 : decode cX7_shorten 0 = .ok (.iload_n 1, 1) := by decide +kernel
theorem dX7_shorten_1 : decode cX7_shorten 1 = .ok (.iconst 0, 1) := by decide +kernel
theorem dX7_shorten_2 : decode cX7_shorten 2 = .ok (.aload_n 0, 1) := by decide +kernel
theorem dX7_shorten_3 : decode cX7_shorten 3 = .ok (.getfield 15, 3) := by decide +kernel
theorem dX7_shorten_6 : decode cX7_shorten 6 = .ok (.invokestatic 23, 3) := by decide +kernel
theorem dX7_shorten_9 : decode cX7_shorten 9 = .ok (.ifCond .ne 5, 3) := by decide +kernel
theorem dX7_shorten_12 : decode cX7_shorten 12 = .ok (.iconst 0, 1) := by decide +kernel
theorem dX7_shorten_13 : decode cX7_shorten 13 = .ok (.ireturn, 1) := by decide +kernel
theorem dX7_shorten_14 : decode cX7_shorten 14 = .ok (.aload_n 0, 1) := by decide +kernel
theorem dX7_shorten_15 : decode cX7_shorten 15 = .ok (.iload_n 1, 1) := by decide +kernel
theorem dX7_shorten_16 : decode cX7_shorten 16 = .ok (.putfield 15, 3) := by decide +kernel
theorem dX7_shorten_19 : decode cX7_shorten 19 = .ok (.iconst 1, 1) := by decide +kernel
theorem dX7_shorten_20 : decode cX7_shorten 20 = .ok (.ireturn, 1) := by decide +kernel
set_option maxRecDepth 20000 in
theorem ggX7_shorten_X10_within : GoodIn wsX7_shorten wsX10_within := goodIn_r _ [4] (by decide +kernel) (by decide +kernel)
set_option maxRecDepth 20000 in
theorem gX7_shorten_X10_within_n23 : GoodIn wsX7_shorten (wsX10_within) := ggX7_shorten_X10_within
def fX7_shorten (t_length : Int32) (x1 : Int32) : Option (Bool × Int32) := ((fX10_within x1 (0 : Int32) t_length).bind (fun b1 => (if (zb b1) = 0 then some (false, t_length) else some (true, x1))))
theorem kX7_shorten_0 : (.fieldLink RX7 15 "RunDesk$Text" "length" "I" : Cond) ∈ wsX7_shorten := List.mem_of_getElem? (i := 1) (by decide +kernel)
theorem qX7_shorten_X7 : ∀ w ∈ wsX70, w ∈ wsX7_shorten := fun _ h => List.mem_cons_of_mem _ (List.mem_append_right _ (h))
theorem kX7_shorten_2 : (.initialized RX10 : Cond) ∈ wsX7_shorten := List.mem_of_getElem? (i := 3) (by decide +kernel)
theorem kX7_shorten_3 : (.static yX10_within : Cond) ∈ wsX7_shorten := List.mem_of_getElem? (i := 2) (by decide +kernel)
set_option maxHeartbeats 4000000 in
set_option maxRecDepth 100000 in
theorem mX7_shorten (l : Launch) (D : va_G) (cB cI cZ : ClassId) (a_t : Nat) (a_t_bytes : Nat) (t_length : Int32) (sz : Nat) (x1 : Int32) (b0 : Bool) (t_length' : Int32) (h : fX7_shorten t_length x1 = some (b0, t_length')) : Met l yX7_shorten wsX7_shorten ({ frames := 1, cells := 0, slots := 0, locals := 22 } : Room) (va_Pc [.ref a_t, .int x1] (zPre D (zT cB cI cZ) [(a_t, .inr (7, [.ref a_t_bytes, .int t_length]))] sz)) (zQi (zb b0) D (zT cB cI cZ) [(a_t, .inr (7, [.ref a_t_bytes, .int t_length']))] (va_A [(a_t, .inr (7, [.ref a_t_bytes, .int t_length]))] sz)) 0 0 (va_A [(a_t, .inr (7, [.ref a_t_bytes, .int t_length]))] sz) := by
  refine Met.ofW (cc := cX7_shorten) (maxL := 2) (ret := (some .boolean)) (by decide) rfl ?_
  intro p e s m args below meth c s₁ B hml hv
  obtain ⟨rfl, hsz, hP, hK, hN, hZ, hD0⟩ := hv
  have hx := B.exec
  have hb := B.bytes
  have hr := B.returns
  have hts := atoms_spec (ws := wsX7_shorten) B.pre
  have hown : s.vm.findClass RX7 = some m.cls := findClass_of_methodNamed B.named
  have hlocks := B.notSynchronized
  subst hsz
  have hD := hD0.self (sz := s.heap.size)
  generalize hAe : va_A [(a_t, .inr (7, [.ref a_t_bytes, .int t_length]))] s.heap.size = A at hD hZ ⊢
  have hA : ∀ q : Nat, s.heap.size ≤ q → A q := fun q h => by rw [← hAe]; exact Or.inr h
  have hS : va_S A s.heap s.heap [] := va_S.rf
  have hl := lv_entry ([.ref a_t, .int x1]) (n := 2) (Nat.le_of_ble_eq_true rfl)
  rw [lg_entry_eq]
  generalize (lg_sl ([.ref a_t, .int x1]) ++ List.replicate (2 - (lg_sl ([.ref a_t, .int x1])).length) Slot.unset).toArray = ls at hl ⊢
  have hl : lv_has ls 2 [(0, .ref a_t), (1, .int x1)] := hl
  unfold fX7_shorten at h
  refine lv_iload_n hx hb dX7_shorten_0 rfl (lv_at hl 1 rfl) ?_
  refine lv_iconst (v := (0 : Int32)) hx hb dX7_shorten_1 rfl ?_
  refine lv_aload_n hx hb dX7_shorten_2 rfl (lv_at hl 0 rfl) ?_
  refine va_get (D := D) (ci := 7) (C := RX7) (T := TX7) (N := 2) hx hb hts qX7_shorten_X7 hown hK hP 0 rfl rfl 1 (by decide) (hts _ kX7_shorten_0) (fun _ h9 => h9) rfl dX7_shorten_3 ?_
  obtain ⟨b1, e2, h⟩ := zz_b h
  refine zNi (As := [.int x1, .int (0 : Int32), .int t_length]) (rest := []) (host := "RunDesk") (wr := [(a_t, .inr (7, [.ref a_t_bytes, .int t_length]))]) [] [0] ⟨hx, hb, hml, hown, hts⟩ (mX10_within l D cB cI cZ s.heap.size x1 (0 : Int32) t_length b1 e2) ⟨va_cnB 3 hts gX7_shorten_X10_within_n23 rfl rfl rfl (hN _ (List.mem_of_getElem? (i := 32) rfl)) (hts _ kX7_shorten_2) (by decide +kernel) ⟨Nat.le_of_ble_eq_true rfl, Nat.le_of_ble_eq_true rfl⟩, (hts _ kX7_shorten_3), trivial⟩ hK hN hZ hP hD hS hA rfl rfl rfl rfl rfl rfl hl.1 rfl (lv_room (Nat.le_of_ble_eq_true rfl)) dX7_shorten_6 ⟨Nat.le_of_ble_eq_true rfl, Nat.le_of_ble_eq_true rfl⟩ (fun H locs hP hD hS => ?_)
  have hP : va_P D vwCl [(a_t, .inr (7, [.ref a_t_bytes, .int t_length]))] H := hP
  have hD : va_D A [(a_t, .inr (7, [.ref a_t_bytes, .int t_length]))] := hD
  refine lv_if_ne (tgt := 14) hx hb dX7_shorten_9 (by decide) (fun c3 => ?_) (fun c3 => ?_)
  · have h := zz_f h c3
    refine lv_aload_n hx hb dX7_shorten_14 rfl (lv_at hl 0 rfl) ?_
    refine lv_iload_n hx hb dX7_shorten_15 rfl (lv_at hl 1 rfl) ?_
    refine va_put (D := D) (ci := 7) (ty := .int) (C := RX7) (T := TX7) (N := 2) hx hb hts qX7_shorten_X7 tyX7 tyX7_ok nmX7 hown hK hP hD hS 0 rfl rfl 1 (by decide) (hts _ kX7_shorten_0) (fun _ h9 => h9) rfl (by decide +kernel) rfl (by first | rfl | exact zz_fit) (Nat.le_of_ble_eq_true rfl) dX7_shorten_16 (fun H locs hP hD hS => ?_)
    have hP : va_P D vwCl [(a_t, .inr (7, [.ref a_t_bytes, .int x1]))] H := hP
    have hD : va_D A [(a_t, .inr (7, [.ref a_t_bytes, .int x1]))] := hD
    refine lv_iconst (v := (1 : Int32)) hx hb dX7_shorten_19 rfl ?_
    obtain ⟨j0_, g_⟩ := Prod.mk.inj (Option.some.inj h)
    have j1_ := g_
    subst j0_
    subst j1_
    exact W.zret (v := (1 : Int32)) hx hb hr rfl (fun t ht hW => ⟨⟨_, (), rfl, rfl, zPost.of hP hD hK ht hW [0] rfl rfl rfl⟩, hS.F ht⟩) hS.2.2 dX7_shorten_20
  · have h := zz_t h c3
    refine lv_iconst (v := (0 : Int32)) hx hb dX7_shorten_12 rfl ?_
    obtain ⟨j0_, g_⟩ := Prod.mk.inj (Option.some.inj h)
    have j1_ := g_
    subst j0_
    subst j1_
    exact W.zret (v := (0 : Int32)) hx hb hr rfl (fun t ht hW => ⟨⟨_, (), rfl, rfl, zPost.of hP hD hK ht hW [0] rfl rfl rfl⟩, hS.F ht⟩) hS.2.2 dX7_shorten_13
/-! RunDesk$Way.farthest -/
theorem dX9_farthest_0 : decode cX9_farthest 0 = .ok (.aload_n 0, 1) := by decide +kernel
theorem dX9_farthest_1 : decode cX9_farthest 1 = .ok (.aload_n 0, 1) := by decide +kernel
theorem dX9_farthest_2 : decode cX9_farthest 2 = .ok (.getfield 25, 3) := by decide +kernel
theorem dX9_farthest_5 : decode cX9_farthest 5 = .ok (.iconst 1, 1) := by decide +kernel
theorem dX9_farthest_6 : decode cX9_farthest 6 = .ok (.isub, 1) := by decide +kernel
theorem dX9_farthest_7 : decode cX9_farthest 7 = .ok (.invokevirtual 29, 3) := by decide +kernel
theorem dX9_farthest_10 : decode cX9_farthest 10 = .ok (.ireturn, 1) := by decide +kernel
set_option maxRecDepth 20000 in
theorem ggX9_farthest_X9_placeAt : GoodIn wsX9_farthest wsX9_placeAt := goodIn_r _ [6, 7, 8, 9, 10, 5, 11, 1, 12, 13, 14, 15, 16] (by decide +kernel) (by decide +kernel)
set_option maxRecDepth 20000 in
theorem gX9_farthest_X9_placeAt : GoodIn wsX9_farthest (wsV RX9 29 RX9 yX9_placeAt wsX9_placeAt) := goodIn_app (goodIn_of _ (by decide +kernel)) ggX9_farthest_X9_placeAt
def fX9_farthest (t_mats : Int32) (t_places : Nat → Int32) : Option (Int32) := ((fX9_placeAt t_mats t_places (t_mats - (1 : Int32))).bind (fun r1 => some (r1)))
theorem kX9_farthest_0 : (.fieldLink RX9 25 "RunDesk$Way" "mats" "I" : Cond) ∈ wsX9_farthest := List.mem_of_getElem? (i := 1) (by decide +kernel)
theorem qX9_farthest_X9 : ∀ w ∈ wsX90, w ∈ wsX9_farthest := fun _ h => List.mem_cons_of_mem _ (List.mem_append_right _ (h))
set_option maxHeartbeats 4000000 in
set_option maxRecDepth 100000 in
theorem mX9_farthest (l : Launch) (D : va_G) (cB cI cZ : ClassId) (a_t : Nat) (a_t_places : Nat) (a_t_bearings : Nat) (a_t_cuts : Nat) (a_t_deaths : Nat) (t_mats : Int32) (t_places : Nat → Int32) (sz : Nat) (r0 : Int32) (h : fX9_farthest t_mats t_places = some (r0)) : Met l yX9_farthest wsX9_farthest ({ frames := 2, cells := 0, slots := 0, locals := 42 } : Room) (va_Pc [.ref a_t] (zPre D (zT cB cI cZ) [(a_t, .inr (9, [.ref a_t_places, .ref a_t_bearings, .ref a_t_cuts, .ref a_t_deaths, .int t_mats])), (a_t_places, .inl (cI, 12, .inl t_places))] sz)) (zQi r0 D (zT cB cI cZ) [(a_t, .inr (9, [.ref a_t_places, .ref a_t_bearings, .ref a_t_cuts, .ref a_t_deaths, .int t_mats])), (a_t_places, .inl (cI, 12, .inl t_places))] (va_A [(a_t, .inr (9, [.ref a_t_places, .ref a_t_bearings, .ref a_t_cuts, .ref a_t_deaths, .int t_mats])), (a_t_places, .inl (cI, 12, .inl t_places))] sz)) 0 0 (va_A [(a_t, .inr (9, [.ref a_t_places, .ref a_t_bearings, .ref a_t_cuts, .ref a_t_deaths, .int t_mats])), (a_t_places, .inl (cI, 12, .inl t_places))] sz) := by
  refine Met.ofW (cc := cX9_farthest) (maxL := 1) (ret := (some .int)) (by decide) rfl ?_
  intro p e s m args below meth c s₁ B hml hv
  obtain ⟨rfl, hsz, hP, hK, hN, hZ, hD0⟩ := hv
  have hx := B.exec
  have hb := B.bytes
  have hr := B.returns
  have hts := atoms_spec (ws := wsX9_farthest) B.pre
  have hown : s.vm.findClass RX9 = some m.cls := findClass_of_methodNamed B.named
  have hlocks := B.notSynchronized
  subst hsz
  have hD := hD0.self (sz := s.heap.size)
  generalize hAe : va_A [(a_t, .inr (9, [.ref a_t_places, .ref a_t_bearings, .ref a_t_cuts, .ref a_t_deaths, .int t_mats])), (a_t_places, .inl (cI, 12, .inl t_places))] s.heap.size = A at hD hZ ⊢
  have hA : ∀ q : Nat, s.heap.size ≤ q → A q := fun q h => by rw [← hAe]; exact Or.inr h
  have hS : va_S A s.heap s.heap [] := va_S.rf
  have hl := lv_entry ([.ref a_t]) (n := 1) (Nat.le_of_ble_eq_true rfl)
  rw [lg_entry_eq]
  generalize (lg_sl ([.ref a_t]) ++ List.replicate (1 - (lg_sl ([.ref a_t])).length) Slot.unset).toArray = ls at hl ⊢
  have hl : lv_has ls 1 [(0, .ref a_t)] := hl
  unfold fX9_farthest at h
  refine lv_aload_n hx hb dX9_farthest_0 rfl (lv_at hl 0 rfl) ?_
  refine lv_aload_n hx hb dX9_farthest_1 rfl (lv_at hl 0 rfl) ?_
  refine va_get (D := D) (ci := 9) (C := RX9) (T := TX9) (N := 5) hx hb hts qX9_farthest_X9 hown hK hP 0 rfl rfl 4 (by decide) (hts _ kX9_farthest_0) (fun _ h9 => h9) rfl dX9_farthest_2 ?_
  refine lv_iconst (v := (1 : Int32)) hx hb dX9_farthest_5 rfl ?_
  refine lv_isub hx hb dX9_farthest_6 ?_
  obtain ⟨r1, e2, h⟩ := zz_b h
  refine zVi (As := [.int (t_mats - (1 : Int32))]) (rest := []) (C := RX9) (wr := []) [0, 1] [] 0 ⟨hx, hb, hml, hown, hts⟩ (mX9_placeAt l D cB cI cZ a_t a_t_places a_t_bearings a_t_cuts a_t_deaths t_mats t_places s.heap.size (t_mats - (1 : Int32)) r1 e2) (cwV 1 hts gX9_farthest_X9_placeAt rfl rfl rfl (by decide +kernel) ⟨Nat.le_of_ble_eq_true rfl, Nat.le_of_ble_eq_true rfl⟩) hK hN hZ hP hD hS hA rfl rfl rfl rfl rfl rfl rfl rfl hl.1 rfl (lv_room (Nat.le_of_ble_eq_true rfl)) dX9_farthest_7 ⟨Nat.le_of_ble_eq_true rfl, Nat.le_of_ble_eq_true rfl⟩ (fun H locs hP hD hS => ?_)
  have hP : va_P D vwCl [(a_t, .inr (9, [.ref a_t_places, .ref a_t_bearings, .ref a_t_cuts, .ref a_t_deaths, .int t_mats])), (a_t_places, .inl (cI, 12, .inl t_places))] H := hP
  have hD : va_D A [(a_t, .inr (9, [.ref a_t_places, .ref a_t_bearings, .ref a_t_cuts, .ref a_t_deaths, .int t_mats])), (a_t_places, .inl (cI, 12, .inl t_places))] := hD
  have j0_ := Option.some.inj h
  subst j0_
  exact W.iret (v := r1) hx hb hr (fun t ht hW => ⟨⟨_, (), rfl, rfl, zPost.of hP hD hK ht hW [0, 1] rfl rfl rfl⟩, hS.F ht⟩) hS.2.2 dX9_farthest_10
/-! RunDesk$Way.setCut -/
theorem dX9_setCut_0 : decode cX9_setCut 0 = .ok (.aload_n 0, 1) := by decide +kernel
theorem dX9_setCut_1 : decode cX9_setCut 1 = .ok (.iload_n 1, 1) := by decide +kernel
theorem dX9_setCut_2 : decode cX9_setCut 2 = .ok (.invokevirtual 33, 3) := by decide +kernel
theorem dX9_setCut_5 : decode cX9_setCut 5 = .ok (.ifCond .ne 5, 3) := by decide +kernel
theorem dX9_setCut_8 : decode cX9_setCut 8 = .ok (.iconst 0, 1) := by decide +kernel
theorem dX9_setCut_9 : decode cX9_setCut 9 = .ok (.ireturn, 1) := by decide +kernel
theorem dX9_setCut_10 : decode cX9_setCut 10 = .ok (.aload_n 0, 1) := by decide +kernel
theorem dX9_setCut_11 : decode cX9_setCut 11 = .ok (.getfield 18, 3) := by decide +kernel
theorem dX9_setCut_14 : decode cX9_setCut 14 = .ok (.iload_n 1, 1) := by decide +kernel
theorem dX9_setCut_15 : decode cX9_setCut 15 = .ok (.iload_n 2, 1) := by decide +kernel
theorem dX9_setCut_16 : decode cX9_setCut 16 = .ok (.iastore, 1) := by decide +kernel
theorem dX9_setCut_17 : decode cX9_setCut 17 = .ok (.iconst 1, 1) := by decide +kernel
theorem dX9_setCut_18 : decode cX9_setCut 18 = .ok (.ireturn, 1) := by decide +kernel
set_option maxRecDepth 20000 in
theorem ggX9_setCut_X9_has : GoodIn wsX9_setCut wsX9_has := goodIn_r _ [6, 7, 8, 9, 10, 11, 12] (by decide +kernel) (by decide +kernel)
set_option maxRecDepth 20000 in
theorem gX9_setCut_X9_has : GoodIn wsX9_setCut (wsV RX9 33 RX9 yX9_has wsX9_has) := goodIn_app (goodIn_of _ (by decide +kernel)) ggX9_setCut_X9_has
def fX9_setCut (t_mats : Int32) (t_cuts : Nat → Int32) (x1 : Int32) (x2 : Int32) : Option (Bool × (Nat → Int32)) := ((fX9_has t_mats x1).bind (fun b1 => (if (zb b1) = 0 then some (false, t_cuts) else (if zin x1 12 then some (true, (upd t_cuts (x1).toNatClampNeg x2)) else none))))
theorem kX9_setCut_0 : (.fieldLink RX9 18 "RunDesk$Way" "cuts" "[I" : Cond) ∈ wsX9_setCut := List.mem_of_getElem? (i := 1) (by decide +kernel)
theorem qX9_setCut_X9 : ∀ w ∈ wsX90, w ∈ wsX9_setCut := fun _ h => List.mem_cons_of_mem _ (List.mem_append_right _ (h))
set_option maxHeartbeats 4000000 in
set_option maxRecDepth 100000 in
theorem mX9_setCut (l : Launch) (D : va_G) (cB cI cZ : ClassId) (a_t : Nat) (a_t_places : Nat) (a_t_bearings : Nat) (a_t_cuts : Nat) (a_t_deaths : Nat) (t_mats : Int32) (t_cuts : Nat → Int32) (sz : Nat) (x1 : Int32) (x2 : Int32) (b0 : Bool) (t_cuts' : Nat → Int32) (h : fX9_setCut t_mats t_cuts x1 x2 = some (b0, t_cuts')) : Met l yX9_setCut wsX9_setCut ({ frames := 1, cells := 0, slots := 0, locals := 21 } : Room) (va_Pc [.ref a_t, .int x1, .int x2] (zPre D (zT cB cI cZ) [(a_t, .inr (9, [.ref a_t_places, .ref a_t_bearings, .ref a_t_cuts, .ref a_t_deaths, .int t_mats])), (a_t_cuts, .inl (cI, 12, .inl t_cuts))] sz)) (zQi (zb b0) D (zT cB cI cZ) [(a_t, .inr (9, [.ref a_t_places, .ref a_t_bearings, .ref a_t_cuts, .ref a_t_deaths, .int t_mats])), (a_t_cuts, .inl (cI, 12, .inl t_cuts'))] (va_A [(a_t, .inr (9, [.ref a_t_places, .ref a_t_bearings, .ref a_t_cuts, .ref a_t_deaths, .int t_mats])), (a_t_cuts, .inl (cI, 12, .inl t_cuts))] sz)) 0 0 (va_A [(a_t, .inr (9, [.ref a_t_places, .ref a_t_bearings, .ref a_t_cuts, .ref a_t_deaths, .int t_mats])), (a_t_cuts, .inl (cI, 12, .inl t_cuts))] sz) := by
  refine Met.ofW (cc := cX9_setCut) (maxL := 3) (ret := (some .boolean)) (by decide) rfl ?_
  intro p e s m args below meth c s₁ B hml hv
  obtain ⟨rfl, hsz, hP, hK, hN, hZ, hD0⟩ := hv
  have hx := B.exec
  have hb := B.bytes
  have hr := B.returns
  have hts := atoms_spec (ws := wsX9_setCut) B.pre
  have hown : s.vm.findClass RX9 = some m.cls := findClass_of_methodNamed B.named
  have hlocks := B.notSynchronized
  subst hsz
  have hD := hD0.self (sz := s.heap.size)
  generalize hAe : va_A [(a_t, .inr (9, [.ref a_t_places, .ref a_t_bearings, .ref a_t_cuts, .ref a_t_deaths, .int t_mats])), (a_t_cuts, .inl (cI, 12, .inl t_cuts))] s.heap.size = A at hD hZ ⊢
  have hA : ∀ q : Nat, s.heap.size ≤ q → A q := fun q h => by rw [← hAe]; exact Or.inr h
  have hS : va_S A s.heap s.heap [] := va_S.rf
  have hl := lv_entry ([.ref a_t, .int x1, .int x2]) (n := 3) (Nat.le_of_ble_eq_true rfl)
  rw [lg_entry_eq]
  generalize (lg_sl ([.ref a_t, .int x1, .int x2]) ++ List.replicate (3 - (lg_sl ([.ref a_t, .int x1, .int x2])).length) Slot.unset).toArray = ls at hl ⊢
  have hl : lv_has ls 3 [(0, .ref a_t), (1, .int x1), (2, .int x2)] := hl
  unfold fX9_setCut at h
  refine lv_aload_n hx hb dX9_setCut_0 rfl (lv_at hl 0 rfl) ?_
  refine lv_iload_n hx hb dX9_setCut_1 rfl (lv_at hl 1 rfl) ?_
  obtain ⟨b1, e2, h⟩ := zz_b h
  refine zVi (As := [.int x1]) (rest := []) (C := RX9) (wr := [(a_t_cuts, .inl (cI, 12, .inl t_cuts))]) [0] [1] 0 ⟨hx, hb, hml, hown, hts⟩ (mX9_has l D cB cI cZ a_t a_t_places a_t_bearings a_t_cuts a_t_deaths t_mats s.heap.size x1 b1 e2) (cwV 1 hts gX9_setCut_X9_has rfl rfl rfl (by decide +kernel) ⟨Nat.le_of_ble_eq_true rfl, Nat.le_of_ble_eq_true rfl⟩) hK hN hZ hP hD hS hA rfl rfl rfl rfl rfl rfl rfl rfl hl.1 rfl (lv_room (Nat.le_of_ble_eq_true rfl)) dX9_setCut_2 ⟨Nat.le_of_ble_eq_true rfl, Nat.le_of_ble_eq_true rfl⟩ (fun H locs hP hD hS => ?_)
  have hP : va_P D vwCl [(a_t_cuts, .inl (cI, 12, .inl t_cuts)), (a_t, .inr (9, [.ref a_t_places, .ref a_t_bearings, .ref a_t_cuts, .ref a_t_deaths, .int t_mats]))] H := hP
  have hD : va_D A [(a_t_cuts, .inl (cI, 12, .inl t_cuts)), (a_t, .inr (9, [.ref a_t_places, .ref a_t_bearings, .ref a_t_cuts, .ref a_t_deaths, .int t_mats]))] := hD
  refine lv_if_ne (tgt := 10) hx hb dX9_setCut_5 (by decide) (fun c3 => ?_) (fun c3 => ?_)
  · have h := zz_f h c3
    refine lv_aload_n hx hb dX9_setCut_10 rfl (lv_at hl 0 rfl) ?_
    refine va_get (D := D) (ci := 9) (C := RX9) (T := TX9) (N := 5) hx hb hts qX9_setCut_X9 hown hK hP 1 rfl rfl 2 (by decide) (hts _ kX9_setCut_0) (fun _ h9 => h9) rfl dX9_setCut_11 ?_
    refine lv_iload_n hx hb dX9_setCut_14 rfl (lv_at hl 1 rfl) ?_
    refine lv_iload_n hx hb dX9_setCut_15 rfl (lv_at hl 2 rfl) ?_
    obtain ⟨i4, h⟩ := zz_i h
    refine va_iast hx hb hK hP hD hS 0 1 rfl rfl i4 dX9_setCut_16 (fun H locs hP hD hS => ?_)
    have hP : va_P D vwCl [(a_t_cuts, .inl (cI, 12, .inl (upd t_cuts (x1).toNatClampNeg x2))), (a_t, .inr (9, [.ref a_t_places, .ref a_t_bearings, .ref a_t_cuts, .ref a_t_deaths, .int t_mats]))] H := hP
    have hD : va_D A [(a_t_cuts, .inl (cI, 12, .inl (upd t_cuts (x1).toNatClampNeg x2))), (a_t, .inr (9, [.ref a_t_places, .ref a_t_bearings, .ref a_t_cuts, .ref a_t_deaths, .int t_mats]))] := hD
    refine lv_iconst (v := (1 : Int32)) hx hb dX9_setCut_17 rfl ?_
    obtain ⟨j0_, g_⟩ := Prod.mk.inj (Option.some.inj h)
    have j1_ := g_
    subst j0_
    subst j1_
    exact W.zret (v := (1 : Int32)) hx hb hr rfl (fun t ht hW => ⟨⟨_, (), rfl, rfl, zPost.of hP hD hK ht hW [1, 0] rfl rfl rfl⟩, hS.F ht⟩) hS.2.2 dX9_setCut_18
  · have h := zz_t h c3
    refine lv_iconst (v := (0 : Int32)) hx hb dX9_setCut_8 rfl ?_
    obtain ⟨j0_, g_⟩ := Prod.mk.inj (Option.some.inj h)
    have j1_ := g_
    subst j0_
    subst j1_
    exact W.zret (v := (0 : Int32)) hx hb hr rfl (fun t ht hW => ⟨⟨_, (), rfl, rfl, zPost.of hP hD hK ht hW [1, 0] rfl rfl rfl⟩, hS.F ht⟩) hS.2.2 dX9_setCut_9
/-! RunDesk$Way.isDead -/
theorem dX9_isDead_0 : decode cX9_isDead 0 = .ok (.aload_n 0, 1) := by decide +kernel
theorem dX9_isDead_1 : decode cX9_isDead 1 = .ok (.iload_n 1, 1) := by decide +kernel
theorem dX9_isDead_2 : decode cX9_isDead 2 = .ok (.invokevirtual 33, 3) := by decide +kernel
theorem dX9_isDead_5 : decode cX9_isDead 5 = .ok (.ifCond .eq 16, 3) := by decide +kernel
theorem dX9_isDead_8 : decode cX9_isDead 8 = .ok (.aload_n 0, 1) := by decide +kernel
theorem dX9_isDead_9 : decode cX9_isDead 9 = .ok (.getfield 21, 3) := by decide +kernel
theorem dX9_isDead_12 : decode cX9_isDead 12 = .ok (.iload_n 1, 1) := by decide +kernel
theorem dX9_isDead_13 : decode cX9_isDead 13 = .ok (.baload, 1) := by decide +kernel
theorem dX9_isDead_14 : decode cX9_isDead 14 = .ok (.ifCond .eq 7, 3) := by decide +kernel
theorem dX9_isDead_17 : decode cX9_isDead 17 = .ok (.iconst 1, 1) := by decide +kernel
theorem dX9_isDead_18 : decode cX9_isDead 18 = .ok (.goto 4, 3) := by decide +kernel
theorem dX9_isDead_21 : decode cX9_isDead 21 = .ok (.iconst 0, 1) := by decide +kernel
theorem dX9_isDead_22 : decode cX9_isDead 22 = .ok (.ireturn, 1) := by decide +kernel
set_option maxRecDepth 20000 in
theorem ggX9_isDead_X9_has : GoodIn wsX9_isDead wsX9_has := goodIn_r _ [6, 7, 8, 9, 10, 11, 12] (by decide +kernel) (by decide +kernel)
set_option maxRecDepth 20000 in
theorem gX9_isDead_X9_has : GoodIn wsX9_isDead (wsV RX9 33 RX9 yX9_has wsX9_has) := goodIn_app (goodIn_of _ (by decide +kernel)) ggX9_isDead_X9_has
def fX9_isDead (t_mats : Int32) (t_deaths : Nat → Int32) (x1 : Int32) : Option (Bool) := ((fX9_has t_mats x1).bind (fun b1 => (if (zb b1) = 0 then some (false) else (if zin x1 12 then (if (t_deaths (x1).toNatClampNeg) = 0 then some (false) else some (true)) else none))))
theorem kX9_isDead_0 : (.fieldLink RX9 21 "RunDesk$Way" "deaths" "[Z" : Cond) ∈ wsX9_isDead := List.mem_of_getElem? (i := 1) (by decide +kernel)
theorem qX9_isDead_X9 : ∀ w ∈ wsX90, w ∈ wsX9_isDead := fun _ h => List.mem_cons_of_mem _ (List.mem_append_right _ (h))
set_option maxHeartbeats 4000000 in
set_option maxRecDepth 100000 in
theorem mX9_isDead (l : Launch) (D : va_G) (cB cI cZ : ClassId) (a_t : Nat) (a_t_places : Nat) (a_t_bearings : Nat) (a_t_cuts : Nat) (a_t_deaths : Nat) (t_mats : Int32) (t_deaths : Nat → Int32) (sz : Nat) (x1 : Int32) (b0 : Bool) (h : fX9_isDead t_mats t_deaths x1 = some (b0)) : Met l yX9_isDead wsX9_isDead ({ frames := 1, cells := 0, slots := 0, locals := 21 } : Room) (va_Pc [.ref a_t, .int x1] (zPre D (zT cB cI cZ) [(a_t, .inr (9, [.ref a_t_places, .ref a_t_bearings, .ref a_t_cuts, .ref a_t_deaths, .int t_mats])), (a_t_deaths, .inl (cZ, 12, .inl t_deaths))] sz)) (zQi (zb b0) D (zT cB cI cZ) [(a_t, .inr (9, [.ref a_t_places, .ref a_t_bearings, .ref a_t_cuts, .ref a_t_deaths, .int t_mats])), (a_t_deaths, .inl (cZ, 12, .inl t_deaths))] (va_A [(a_t, .inr (9, [.ref a_t_places, .ref a_t_bearings, .ref a_t_cuts, .ref a_t_deaths, .int t_mats])), (a_t_deaths, .inl (cZ, 12, .inl t_deaths))] sz)) 0 0 (va_A [(a_t, .inr (9, [.ref a_t_places, .ref a_t_bearings, .ref a_t_cuts, .ref a_t_deaths, .int t_mats])), (a_t_deaths, .inl (cZ, 12, .inl t_deaths))] sz) := by
  refine Met.ofW (cc := cX9_isDead) (maxL := 2) (ret := (some .boolean)) (by decide) rfl ?_
  intro p e s m args below meth c s₁ B hml hv
  obtain ⟨rfl, hsz, hP, hK, hN, hZ, hD0⟩ := hv
  have hx := B.exec
  have hb := B.bytes
  have hr := B.returns
  have hts := atoms_spec (ws := wsX9_isDead) B.pre
  have hown : s.vm.findClass RX9 = some m.cls := findClass_of_methodNamed B.named
  have hlocks := B.notSynchronized
  subst hsz
  have hD := hD0.self (sz := s.heap.size)
  generalize hAe : va_A [(a_t, .inr (9, [.ref a_t_places, .ref a_t_bearings, .ref a_t_cuts, .ref a_t_deaths, .int t_mats])), (a_t_deaths, .inl (cZ, 12, .inl t_deaths))] s.heap.size = A at hD hZ ⊢
  have hA : ∀ q : Nat, s.heap.size ≤ q → A q := fun q h => by rw [← hAe]; exact Or.inr h
  have hS : va_S A s.heap s.heap [] := va_S.rf
  have hl := lv_entry ([.ref a_t, .int x1]) (n := 2) (Nat.le_of_ble_eq_true rfl)
  rw [lg_entry_eq]
  generalize (lg_sl ([.ref a_t, .int x1]) ++ List.replicate (2 - (lg_sl ([.ref a_t, .int x1])).length) Slot.unset).toArray = ls at hl ⊢
  have hl : lv_has ls 2 [(0, .ref a_t), (1, .int x1)] := hl
  unfold fX9_isDead at h
  refine lv_aload_n hx hb dX9_isDead_0 rfl (lv_at hl 0 rfl) ?_
  refine lv_iload_n hx hb dX9_isDead_1 rfl (lv_at hl 1 rfl) ?_
  obtain ⟨b1, e2, h⟩ := zz_b h
  refine zVi (As := [.int x1]) (rest := []) (C := RX9) (wr := [(a_t_deaths, .inl (cZ, 12, .inl t_deaths))]) [0] [1] 0 ⟨hx, hb, hml, hown, hts⟩ (mX9_has l D cB cI cZ a_t a_t_places a_t_bearings a_t_cuts a_t_deaths t_mats s.heap.size x1 b1 e2) (cwV 1 hts gX9_isDead_X9_has rfl rfl rfl (by decide +kernel) ⟨Nat.le_of_ble_eq_true rfl, Nat.le_of_ble_eq_true rfl⟩) hK hN hZ hP hD hS hA rfl rfl rfl rfl rfl rfl rfl rfl hl.1 rfl (lv_room (Nat.le_of_ble_eq_true rfl)) dX9_isDead_2 ⟨Nat.le_of_ble_eq_true rfl, Nat.le_of_ble_eq_true rfl⟩ (fun H locs hP hD hS => ?_)
  have hP : va_P D vwCl [(a_t_deaths, .inl (cZ, 12, .inl t_deaths)), (a_t, .inr (9, [.ref a_t_places, .ref a_t_bearings, .ref a_t_cuts, .ref a_t_deaths, .int t_mats]))] H := hP
  have hD : va_D A [(a_t_deaths, .inl (cZ, 12, .inl t_deaths)), (a_t, .inr (9, [.ref a_t_places, .ref a_t_bearings, .ref a_t_cuts, .ref a_t_deaths, .int t_mats]))] := hD
  refine lv_if_eq (tgt := 21) hx hb dX9_isDead_5 (by decide) (fun c3 => ?_) (fun c3 => ?_)
  · have h := zz_t h c3
    refine lv_iconst (v := (0 : Int32)) hx hb dX9_isDead_21 rfl ?_
    have j0_ := Option.some.inj h
    subst j0_
    exact W.zret (v := (0 : Int32)) hx hb hr rfl (fun t ht hW => ⟨⟨_, (), rfl, rfl, zPost.of hP hD hK ht hW [1, 0] rfl rfl rfl⟩, hS.F ht⟩) hS.2.2 dX9_isDead_22
  · have h := zz_f h c3
    refine lv_aload_n hx hb dX9_isDead_8 rfl (lv_at hl 0 rfl) ?_
    refine va_get (D := D) (ci := 9) (C := RX9) (T := TX9) (N := 5) hx hb hts qX9_isDead_X9 hown hK hP 1 rfl rfl 3 (by decide) (hts _ kX9_isDead_0) (fun _ h9 => h9) rfl dX9_isDead_9 ?_
    refine lv_iload_n hx hb dX9_isDead_12 rfl (lv_at hl 1 rfl) ?_
    obtain ⟨i4, h⟩ := zz_i h
    refine va_zald hx hb hK hP 0 2 rfl rfl i4 dX9_isDead_13 ?_
    refine lv_if_eq (tgt := 21) hx hb dX9_isDead_14 (by decide) (fun c5 => ?_) (fun c5 => ?_)
    · have h := zz_t h c5
      refine lv_iconst (v := (0 : Int32)) hx hb dX9_isDead_21 rfl ?_
      have j0_ := Option.some.inj h
      subst j0_
      exact W.zret (v := (0 : Int32)) hx hb hr rfl (fun t ht hW => ⟨⟨_, (), rfl, rfl, zPost.of hP hD hK ht hW [1, 0] rfl rfl rfl⟩, hS.F ht⟩) hS.2.2 dX9_isDead_22
    · have h := zz_f h c5
      refine lv_iconst (v := (1 : Int32)) hx hb dX9_isDead_17 rfl ?_
      refine lv_goto (tgt := 22) hx hb dX9_isDead_18 (by decide) ?_
      have j0_ := Option.some.inj h
      subst j0_
      exact W.zret (v := (1 : Int32)) hx hb hr rfl (fun t ht hW => ⟨⟨_, (), rfl, rfl, zPost.of hP hD hK ht hW [1, 0] rfl rfl rfl⟩, hS.F ht⟩) hS.2.2 dX9_isDead_22
/-! RunDesk$Way.setDead -/
theorem dX9_setDead_0 : decode cX9_setDead 0 = .ok (.aload_n 0, 1) := by decide +kernel
theorem dX9_setDead_1 : decode cX9_setDead 1 = .ok (.iload_n 1, 1) := by decide +kernel
theorem dX9_setDead_2 : decode cX9_setDead 2 = .ok (.invokevirtual 33, 3) := by decide +kernel
theorem dX9_setDead_5 : decode cX9_setDead 5 = .ok (.ifCond .ne 5, 3) := by decide +kernel
theorem dX9_setDead_8 : decode cX9_setDead 8 = .ok (.iconst 0, 1) := by decide +kernel
theorem dX9_setDead_9 : decode cX9_setDead 9 = .ok (.ireturn, 1) := by decide +kernel
theorem dX9_setDead_10 : decode cX9_setDead 10 = .ok (.aload_n 0, 1) := by decide +kernel
theorem dX9_setDead_11 : decode cX9_setDead 11 = .ok (.getfield 21, 3) := by decide +kernel
theorem dX9_setDead_14 : decode cX9_setDead 14 = .ok (.iload_n 1, 1) := by decide +kernel
theorem dX9_setDead_15 : decode cX9_setDead 15 = .ok (.iload_n 2, 1) := by decide +kernel
theorem dX9_setDead_16 : decode cX9_setDead 16 = .ok (.bastore, 1) := by decide +kernel
theorem dX9_setDead_17 : decode cX9_setDead 17 = .ok (.iconst 1, 1) := by decide +kernel
theorem dX9_setDead_18 : decode cX9_setDead 18 = .ok (.ireturn, 1) := by decide +kernel
set_option maxRecDepth 20000 in
theorem ggX9_setDead_X9_has : GoodIn wsX9_setDead wsX9_has := goodIn_r _ [6, 7, 8, 9, 10, 11, 12] (by decide +kernel) (by decide +kernel)
set_option maxRecDepth 20000 in
theorem gX9_setDead_X9_has : GoodIn wsX9_setDead (wsV RX9 33 RX9 yX9_has wsX9_has) := goodIn_app (goodIn_of _ (by decide +kernel)) ggX9_setDead_X9_has
def fX9_setDead (t_mats : Int32) (t_deaths : Nat → Int32) (x1 : Int32) (x2 : Int32) : Option (Bool × (Nat → Int32)) := ((fX9_has t_mats x1).bind (fun b1 => (if (zb b1) = 0 then some (false, t_deaths) else (if zin x1 12 then some (true, (upd t_deaths (x1).toNatClampNeg (vp_nar .boolean x2))) else none))))
theorem kX9_setDead_0 : (.fieldLink RX9 21 "RunDesk$Way" "deaths" "[Z" : Cond) ∈ wsX9_setDead := List.mem_of_getElem? (i := 1) (by decide +kernel)
theorem qX9_setDead_X9 : ∀ w ∈ wsX90, w ∈ wsX9_setDead := fun _ h => List.mem_cons_of_mem _ (List.mem_append_right _ (h))
set_option maxHeartbeats 4000000 in
set_option maxRecDepth 100000 in
theorem mX9_setDead (l : Launch) (D : va_G) (cB cI cZ : ClassId) (a_t : Nat) (a_t_places : Nat) (a_t_bearings : Nat) (a_t_cuts : Nat) (a_t_deaths : Nat) (t_mats : Int32) (t_deaths : Nat → Int32) (sz : Nat) (x1 : Int32) (x2 : Int32) (b0 : Bool) (t_deaths' : Nat → Int32) (h : fX9_setDead t_mats t_deaths x1 x2 = some (b0, t_deaths')) : Met l yX9_setDead wsX9_setDead ({ frames := 1, cells := 0, slots := 0, locals := 21 } : Room) (va_Pc [.ref a_t, .int x1, .int x2] (zPre D (zT cB cI cZ) [(a_t, .inr (9, [.ref a_t_places, .ref a_t_bearings, .ref a_t_cuts, .ref a_t_deaths, .int t_mats])), (a_t_deaths, .inl (cZ, 12, .inl t_deaths))] sz)) (zQi (zb b0) D (zT cB cI cZ) [(a_t, .inr (9, [.ref a_t_places, .ref a_t_bearings, .ref a_t_cuts, .ref a_t_deaths, .int t_mats])), (a_t_deaths, .inl (cZ, 12, .inl t_deaths'))] (va_A [(a_t, .inr (9, [.ref a_t_places, .ref a_t_bearings, .ref a_t_cuts, .ref a_t_deaths, .int t_mats])), (a_t_deaths, .inl (cZ, 12, .inl t_deaths))] sz)) 0 0 (va_A [(a_t, .inr (9, [.ref a_t_places, .ref a_t_bearings, .ref a_t_cuts, .ref a_t_deaths, .int t_mats])), (a_t_deaths, .inl (cZ, 12, .inl t_deaths))] sz) := by
  refine Met.ofW (cc := cX9_setDead) (maxL := 3) (ret := (some .boolean)) (by decide) rfl ?_
  intro p e s m args below meth c s₁ B hml hv
  obtain ⟨rfl, hsz, hP, hK, hN, hZ, hD0⟩ := hv
  have hx := B.exec
  have hb := B.bytes
  have hr := B.returns
  have hts := atoms_spec (ws := wsX9_setDead) B.pre
  have hown : s.vm.findClass RX9 = some m.cls := findClass_of_methodNamed B.named
  have hlocks := B.notSynchronized
  subst hsz
  have hD := hD0.self (sz := s.heap.size)
  generalize hAe : va_A [(a_t, .inr (9, [.ref a_t_places, .ref a_t_bearings, .ref a_t_cuts, .ref a_t_deaths, .int t_mats])), (a_t_deaths, .inl (cZ, 12, .inl t_deaths))] s.heap.size = A at hD hZ ⊢
  have hA : ∀ q : Nat, s.heap.size ≤ q → A q := fun q h => by rw [← hAe]; exact Or.inr h
  have hS : va_S A s.heap s.heap [] := va_S.rf
  have hl := lv_entry ([.ref a_t, .int x1, .int x2]) (n := 3) (Nat.le_of_ble_eq_true rfl)
  rw [lg_entry_eq]
  generalize (lg_sl ([.ref a_t, .int x1, .int x2]) ++ List.replicate (3 - (lg_sl ([.ref a_t, .int x1, .int x2])).length) Slot.unset).toArray = ls at hl ⊢
  have hl : lv_has ls 3 [(0, .ref a_t), (1, .int x1), (2, .int x2)] := hl
  unfold fX9_setDead at h
  refine lv_aload_n hx hb dX9_setDead_0 rfl (lv_at hl 0 rfl) ?_
  refine lv_iload_n hx hb dX9_setDead_1 rfl (lv_at hl 1 rfl) ?_
  obtain ⟨b1, e2, h⟩ := zz_b h
  refine zVi (As := [.int x1]) (rest := []) (C := RX9) (wr := [(a_t_deaths, .inl (cZ, 12, .inl t_deaths))]) [0] [1] 0 ⟨hx, hb, hml, hown, hts⟩ (mX9_has l D cB cI cZ a_t a_t_places a_t_bearings a_t_cuts a_t_deaths t_mats s.heap.size x1 b1 e2) (cwV 1 hts gX9_setDead_X9_has rfl rfl rfl (by decide +kernel) ⟨Nat.le_of_ble_eq_true rfl, Nat.le_of_ble_eq_true rfl⟩) hK hN hZ hP hD hS hA rfl rfl rfl rfl rfl rfl rfl rfl hl.1 rfl (lv_room (Nat.le_of_ble_eq_true rfl)) dX9_setDead_2 ⟨Nat.le_of_ble_eq_true rfl, Nat.le_of_ble_eq_true rfl⟩ (fun H locs hP hD hS => ?_)
  have hP : va_P D vwCl [(a_t_deaths, .inl (cZ, 12, .inl t_deaths)), (a_t, .inr (9, [.ref a_t_places, .ref a_t_bearings, .ref a_t_cuts, .ref a_t_deaths, .int t_mats]))] H := hP
  have hD : va_D A [(a_t_deaths, .inl (cZ, 12, .inl t_deaths)), (a_t, .inr (9, [.ref a_t_places, .ref a_t_bearings, .ref a_t_cuts, .ref a_t_deaths, .int t_mats]))] := hD
  refine lv_if_ne (tgt := 10) hx hb dX9_setDead_5 (by decide) (fun c3 => ?_) (fun c3 => ?_)
  · have h := zz_f h c3
    refine lv_aload_n hx hb dX9_setDead_10 rfl (lv_at hl 0 rfl) ?_
    refine va_get (D := D) (ci := 9) (C := RX9) (T := TX9) (N := 5) hx hb hts qX9_setDead_X9 hown hK hP 1 rfl rfl 3 (by decide) (hts _ kX9_setDead_0) (fun _ h9 => h9) rfl dX9_setDead_11 ?_
    refine lv_iload_n hx hb dX9_setDead_14 rfl (lv_at hl 1 rfl) ?_
    refine lv_iload_n hx hb dX9_setDead_15 rfl (lv_at hl 2 rfl) ?_
    obtain ⟨i4, h⟩ := zz_i h
    refine va_zast hx hb hK hP hD hS 0 2 rfl rfl i4 dX9_setDead_16 (fun H locs hP hD hS => ?_)
    have hP : va_P D vwCl [(a_t_deaths, .inl (cZ, 12, .inl (upd t_deaths (x1).toNatClampNeg (vp_nar .boolean x2)))), (a_t, .inr (9, [.ref a_t_places, .ref a_t_bearings, .ref a_t_cuts, .ref a_t_deaths, .int t_mats]))] H := hP
    have hD : va_D A [(a_t_deaths, .inl (cZ, 12, .inl (upd t_deaths (x1).toNatClampNeg (vp_nar .boolean x2)))), (a_t, .inr (9, [.ref a_t_places, .ref a_t_bearings, .ref a_t_cuts, .ref a_t_deaths, .int t_mats]))] := hD
    refine lv_iconst (v := (1 : Int32)) hx hb dX9_setDead_17 rfl ?_
    obtain ⟨j0_, g_⟩ := Prod.mk.inj (Option.some.inj h)
    have j1_ := g_
    subst j0_
    subst j1_
    exact W.zret (v := (1 : Int32)) hx hb hr rfl (fun t ht hW => ⟨⟨_, (), rfl, rfl, zPost.of hP hD hK ht hW [1, 0] rfl rfl rfl⟩, hS.F ht⟩) hS.2.2 dX9_setDead_18
  · have h := zz_t h c3
    refine lv_iconst (v := (0 : Int32)) hx hb dX9_setDead_8 rfl ?_
    obtain ⟨j0_, g_⟩ := Prod.mk.inj (Option.some.inj h)
    have j1_ := g_
    subst j0_
    subst j1_
    exact W.zret (v := (0 : Int32)) hx hb hr rfl (fun t ht hW => ⟨⟨_, (), rfl, rfl, zPost.of hP hD hK ht hW [1, 0] rfl rfl rfl⟩, hS.F ht⟩) hS.2.2 dX9_setDead_9
/-! RunDesk.way -/
theorem dX10_way_0 : decode cX10_way 0 = .ok (.iload_n 1, 1) := by decide +kernel
theorem dX10_way_1 : decode cX10_way 1 = .ok (.iconst 1, 1) := by decide +kernel
theorem dX10_way_2 : decode cX10_way 2 = .ok (.sipush 1000, 3) := by decide +kernel
theorem dX10_way_5 : decode cX10_way 5 = .ok (.invokestatic 68, 3) := by decide +kernel
theorem dX10_way_8 : decode cX10_way 8 = .ok (.ifCond .ne 5, 3) := by decide +kernel
theorem dX10_way_11 : decode cX10_way 11 = .ok (.iconst 0, 1) := by decide +kernel
theorem dX10_way_12 : decode cX10_way 12 = .ok (.ireturn, 1) := by decide +kernel
theorem dX10_way_13 : decode cX10_way 13 = .ok (.aload_n 0, 1) := by decide +kernel
theorem dX10_way_14 : decode cX10_way 14 = .ok (.getfield 10, 3) := by decide +kernel
theorem dX10_way_17 : decode cX10_way 17 = .ok (.iload_n 1, 1) := by decide +kernel
theorem dX10_way_18 : decode cX10_way 18 = .ok (.invokevirtual 54, 3) := by decide +kernel
theorem dX10_way_21 : decode cX10_way 21 = .ok (.iconst 1, 1) := by decide +kernel
theorem dX10_way_22 : decode cX10_way 22 = .ok (.ireturn, 1) := by decide +kernel
set_option maxRecDepth 20000 in
theorem ggX10_way_X10_within : GoodIn wsX10_way wsX10_within := goodIn_r _ [5] (by decide +kernel) (by decide +kernel)
set_option maxRecDepth 20000 in
theorem gX10_way_X10_within : GoodIn wsX10_way (va_wsS RX10 68 yX10_within wsX10_within) := goodIn_app (goodIn_of _ (by decide +kernel)) ggX10_way_X10_within
set_option maxRecDepth 20000 in
theorem ggX10_way_X4_begin : GoodIn wsX10_way wsX4_begin := goodIn_r _ [10, 11, 12, 13, 14, 15, 16, 17, 18, 19, 20, 21, 22, 23, 24, 25, 26, 27, 28, 29, 30, 31, 32, 33, 34, 35, 36, 37, 38, 39, 40, 41, 42, 43, 44, 53, 54, 55, 56, 57, 58, 59, 60, 61, 62, 63, 64, 65, 66, 67, 68, 69, 70] (by decide +kernel) (by decide +kernel)
set_option maxRecDepth 20000 in
theorem gX10_way_X4_begin : GoodIn wsX10_way (wsV RX10 54 RX4 yX4_begin wsX4_begin) := goodIn_app (goodIn_of _ (by decide +kernel)) ggX10_way_X4_begin
def fX10_way (N : Nat) (t_race_guns_ticks : Nat → Int32) (t_race_runners_entered : Int32) (t_race_runners_strikings : Int32) (t_race_way_mats : Int32) (t_race_way_bearings : Nat → Int32) (t_race_way_cuts : Nat → Int32) (t_race_way_deaths : Nat → Int32) (t_race_way_places : Nat → Int32) (x1 : Int32) : Option (Bool × (Nat → Int32) × Int32 × Int32 × Int32 × (Nat → Int32) × (Nat → Int32) × (Nat → Int32) × (Nat → Int32)) := ((fX10_within x1 (1 : Int32) (1000 : Int32)).bind (fun b1 => (if (zb b1) = 0 then some (false, t_race_guns_ticks, t_race_runners_entered, t_race_runners_strikings, t_race_way_mats, t_race_way_bearings, t_race_way_cuts, t_race_way_deaths, t_race_way_places) else ((fX4_begin N t_race_guns_ticks t_race_runners_entered t_race_runners_strikings t_race_way_mats t_race_way_bearings t_race_way_cuts t_race_way_deaths t_race_way_places x1).bind (fun (t_race_guns_ticks_r4, t_race_runners_entered_r5, t_race_runners_strikings_r6, t_race_way_mats_r7, t_race_way_bearings_r8, t_race_way_cuts_r9, t_race_way_deaths_r10, t_race_way_places_r11) => some (true, t_race_guns_ticks_r4, t_race_runners_entered_r5, t_race_runners_strikings_r6, t_race_way_mats_r7, t_race_way_bearings_r8, t_race_way_cuts_r9, t_race_way_deaths_r10, t_race_way_places_r11))))))
theorem kX10_way_0 : (.fieldLink RX10 10 "RunDesk" "race" "LRunDesk$Race;" : Cond) ∈ wsX10_way := List.mem_of_getElem? (i := 1) (by decide +kernel)
theorem qX10_way_X10 : ∀ w ∈ wsX100, w ∈ wsX10_way := fun _ h => List.mem_cons_of_mem _ (List.mem_append_left _ (List.mem_append_left _ (List.mem_append_left _ (List.mem_append_left _ (List.mem_append_right _ (h))))))
set_option maxHeartbeats 4000000 in
set_option maxRecDepth 100000 in
theorem mX10_way (l : Launch) (D : va_G) (cB cI cZ : ClassId) (a_t : Nat) (a_t_race : Nat) (a_t_kept : Nat) (a_t_trail : Nat) (a_t_doubts : Nat) (a_t_foretelling : Nat) (a_t_text : Nat) (a_t_listing : Nat) (a_t_race_way : Nat) (a_t_race_guns : Nat) (a_t_race_runners : Nat) (a_t_race_guns_ticks : Nat) (a_t_race_runners_facts : Nat) (a_t_race_runners_splits : Nat) (a_t_race_runners_torn : Nat) (a_t_race_runners_dropped : Nat) (a_t_race_runners_waved : Nat) (a_t_race_runners_struck : Nat) (a_t_race_runners_strikingOrder : Nat) (a_t_race_way_places : Nat) (a_t_race_way_bearings : Nat) (a_t_race_way_cuts : Nat) (a_t_race_way_deaths : Nat) (t_isKept : Int32) (t_race_guns_ticks : Nat → Int32) (t_race_runners_entered : Int32) (t_race_runners_strikings : Int32) (t_race_way_mats : Int32) (t_race_way_bearings : Nat → Int32) (t_race_way_cuts : Nat → Int32) (t_race_way_deaths : Nat → Int32) (t_race_way_places : Nat → Int32) (sz : Nat) (x1 : Int32) (N : Nat) (b0 : Bool) (t_race_guns_ticks' : Nat → Int32) (t_race_runners_entered' : Int32) (t_race_runners_strikings' : Int32) (t_race_way_mats' : Int32) (t_race_way_bearings' : Nat → Int32) (t_race_way_cuts' : Nat → Int32) (t_race_way_deaths' : Nat → Int32) (t_race_way_places' : Nat → Int32) (h : fX10_way N t_race_guns_ticks t_race_runners_entered t_race_runners_strikings t_race_way_mats t_race_way_bearings t_race_way_cuts t_race_way_deaths t_race_way_places x1 = some (b0, t_race_guns_ticks', t_race_runners_entered', t_race_runners_strikings', t_race_way_mats', t_race_way_bearings', t_race_way_cuts', t_race_way_deaths', t_race_way_places')) : Met l yX10_way wsX10_way ({ frames := 3, cells := 0, slots := 0, locals := 64 } : Room) (va_Pc [.ref a_t, .int x1] (zPre D (zT cB cI cZ) [(a_t, .inr (10, [.ref a_t_race, .ref a_t_kept, .ref a_t_trail, .ref a_t_doubts, .ref a_t_foretelling, .ref a_t_text, .ref a_t_listing, .int t_isKept])), (a_t_race, .inr (4, [.ref a_t_race_way, .ref a_t_race_guns, .ref a_t_race_runners])), (a_t_race_guns, .inr (2, [.ref a_t_race_guns_ticks])), (a_t_race_guns_ticks, .inl (cI, 6, .inl t_race_guns_ticks)), (a_t_race_runners, .inr (6, [.ref a_t_race_runners_facts, .ref a_t_race_runners_splits, .ref a_t_race_runners_torn, .ref a_t_race_runners_dropped, .ref a_t_race_runners_waved, .ref a_t_race_runners_struck, .ref a_t_race_runners_strikingOrder, .int t_race_runners_entered, .int t_race_runners_strikings])), (a_t_race_way, .inr (9, [.ref a_t_race_way_places, .ref a_t_race_way_bearings, .ref a_t_race_way_cuts, .ref a_t_race_way_deaths, .int t_race_way_mats])), (a_t_race_way_bearings, .inl (cI, 12, .inl t_race_way_bearings)), (a_t_race_way_cuts, .inl (cI, 12, .inl t_race_way_cuts)), (a_t_race_way_deaths, .inl (cZ, 12, .inl t_race_way_deaths)), (a_t_race_way_places, .inl (cI, 12, .inl t_race_way_places))] sz)) (zQi (zb b0) D (zT cB cI cZ) [(a_t, .inr (10, [.ref a_t_race, .ref a_t_kept, .ref a_t_trail, .ref a_t_doubts, .ref a_t_foretelling, .ref a_t_text, .ref a_t_listing, .int t_isKept])), (a_t_race, .inr (4, [.ref a_t_race_way, .ref a_t_race_guns, .ref a_t_race_runners])), (a_t_race_guns, .inr (2, [.ref a_t_race_guns_ticks])), (a_t_race_guns_ticks, .inl (cI, 6, .inl t_race_guns_ticks')), (a_t_race_runners, .inr (6, [.ref a_t_race_runners_facts, .ref a_t_race_runners_splits, .ref a_t_race_runners_torn, .ref a_t_race_runners_dropped, .ref a_t_race_runners_waved, .ref a_t_race_runners_struck, .ref a_t_race_runners_strikingOrder, .int t_race_runners_entered', .int t_race_runners_strikings'])), (a_t_race_way, .inr (9, [.ref a_t_race_way_places, .ref a_t_race_way_bearings, .ref a_t_race_way_cuts, .ref a_t_race_way_deaths, .int t_race_way_mats'])), (a_t_race_way_bearings, .inl (cI, 12, .inl t_race_way_bearings')), (a_t_race_way_cuts, .inl (cI, 12, .inl t_race_way_cuts')), (a_t_race_way_deaths, .inl (cZ, 12, .inl t_race_way_deaths')), (a_t_race_way_places, .inl (cI, 12, .inl t_race_way_places'))] (va_A [(a_t, .inr (10, [.ref a_t_race, .ref a_t_kept, .ref a_t_trail, .ref a_t_doubts, .ref a_t_foretelling, .ref a_t_text, .ref a_t_listing, .int t_isKept])), (a_t_race, .inr (4, [.ref a_t_race_way, .ref a_t_race_guns, .ref a_t_race_runners])), (a_t_race_guns, .inr (2, [.ref a_t_race_guns_ticks])), (a_t_race_guns_ticks, .inl (cI, 6, .inl t_race_guns_ticks)), (a_t_race_runners, .inr (6, [.ref a_t_race_runners_facts, .ref a_t_race_runners_splits, .ref a_t_race_runners_torn, .ref a_t_race_runners_dropped, .ref a_t_race_runners_waved, .ref a_t_race_runners_struck, .ref a_t_race_runners_strikingOrder, .int t_race_runners_entered, .int t_race_runners_strikings])), (a_t_race_way, .inr (9, [.ref a_t_race_way_places, .ref a_t_race_way_bearings, .ref a_t_race_way_cuts, .ref a_t_race_way_deaths, .int t_race_way_mats])), (a_t_race_way_bearings, .inl (cI, 12, .inl t_race_way_bearings)), (a_t_race_way_cuts, .inl (cI, 12, .inl t_race_way_cuts)), (a_t_race_way_deaths, .inl (cZ, 12, .inl t_race_way_deaths)), (a_t_race_way_places, .inl (cI, 12, .inl t_race_way_places))] sz)) 0 0 (va_A [(a_t, .inr (10, [.ref a_t_race, .ref a_t_kept, .ref a_t_trail, .ref a_t_doubts, .ref a_t_foretelling, .ref a_t_text, .ref a_t_listing, .int t_isKept])), (a_t_race, .inr (4, [.ref a_t_race_way, .ref a_t_race_guns, .ref a_t_race_runners])), (a_t_race_guns, .inr (2, [.ref a_t_race_guns_ticks])), (a_t_race_guns_ticks, .inl (cI, 6, .inl t_race_guns_ticks)), (a_t_race_runners, .inr (6, [.ref a_t_race_runners_facts, .ref a_t_race_runners_splits, .ref a_t_race_runners_torn, .ref a_t_race_runners_dropped, .ref a_t_race_runners_waved, .ref a_t_race_runners_struck, .ref a_t_race_runners_strikingOrder, .int t_race_runners_entered, .int t_race_runners_strikings])), (a_t_race_way, .inr (9, [.ref a_t_race_way_places, .ref a_t_race_way_bearings, .ref a_t_race_way_cuts, .ref a_t_race_way_deaths, .int t_race_way_mats])), (a_t_race_way_bearings, .inl (cI, 12, .inl t_race_way_bearings)), (a_t_race_way_cuts, .inl (cI, 12, .inl t_race_way_cuts)), (a_t_race_way_deaths, .inl (cZ, 12, .inl t_race_way_deaths)), (a_t_race_way_places, .inl (cI, 12, .inl t_race_way_places))] sz) := by
  refine Met.ofW (cc := cX10_way) (maxL := 2) (ret := (some .boolean)) (by decide) rfl ?_
  intro p e s m args below meth c s₁ B hml hv
  obtain ⟨rfl, hsz, hP, hK, hN, hZ, hD0⟩ := hv
  have hx := B.exec
  have hb := B.bytes
  have hr := B.returns
  have hts := atoms_spec (ws := wsX10_way) B.pre
  have hown : s.vm.findClass RX10 = some m.cls := findClass_of_methodNamed B.named
  have hlocks := B.notSynchronized
  subst hsz
  have hD := hD0.self (sz := s.heap.size)
  generalize hAe : va_A [(a_t, .inr (10, [.ref a_t_race, .ref a_t_kept, .ref a_t_trail, .ref a_t_doubts, .ref a_t_foretelling, .ref a_t_text, .ref a_t_listing, .int t_isKept])), (a_t_race, .inr (4, [.ref a_t_race_way, .ref a_t_race_guns, .ref a_t_race_runners])), (a_t_race_guns, .inr (2, [.ref a_t_race_guns_ticks])), (a_t_race_guns_ticks, .inl (cI, 6, .inl t_race_guns_ticks)), (a_t_race_runners, .inr (6, [.ref a_t_race_runners_facts, .ref a_t_race_runners_splits, .ref a_t_race_runners_torn, .ref a_t_race_runners_dropped, .ref a_t_race_runners_waved, .ref a_t_race_runners_struck, .ref a_t_race_runners_strikingOrder, .int t_race_runners_entered, .int t_race_runners_strikings])), (a_t_race_way, .inr (9, [.ref a_t_race_way_places, .ref a_t_race_way_bearings, .ref a_t_race_way_cuts, .ref a_t_race_way_deaths, .int t_race_way_mats])), (a_t_race_way_bearings, .inl (cI, 12, .inl t_race_way_bearings)), (a_t_race_way_cuts, .inl (cI, 12, .inl t_race_way_cuts)), (a_t_race_way_deaths, .inl (cZ, 12, .inl t_race_way_deaths)), (a_t_race_way_places, .inl (cI, 12, .inl t_race_way_places))] s.heap.size = A at hD hZ ⊢
  have hA : ∀ q : Nat, s.heap.size ≤ q → A q := fun q h => by rw [← hAe]; exact Or.inr h
  have hS : va_S A s.heap s.heap [] := va_S.rf
  have hl := lv_entry ([.ref a_t, .int x1]) (n := 2) (Nat.le_of_ble_eq_true rfl)
  rw [lg_entry_eq]
  generalize (lg_sl ([.ref a_t, .int x1]) ++ List.replicate (2 - (lg_sl ([.ref a_t, .int x1])).length) Slot.unset).toArray = ls at hl ⊢
  have hl : lv_has ls 2 [(0, .ref a_t), (1, .int x1)] := hl
  unfold fX10_way at h
  refine lv_iload_n hx hb dX10_way_0 rfl (lv_at hl 1 rfl) ?_
  refine lv_iconst (v := (1 : Int32)) hx hb dX10_way_1 rfl ?_
  refine lv_sipush (v := (1000 : Int32)) hx hb dX10_way_2 rfl ?_
  obtain ⟨b1, e2, h⟩ := zz_b h
  refine zSi (As := [.int x1, .int (1 : Int32), .int (1000 : Int32)]) (rest := []) (wr := [(a_t, .inr (10, [.ref a_t_race, .ref a_t_kept, .ref a_t_trail, .ref a_t_doubts, .ref a_t_foretelling, .ref a_t_text, .ref a_t_listing, .int t_isKept])), (a_t_race, .inr (4, [.ref a_t_race_way, .ref a_t_race_guns, .ref a_t_race_runners])), (a_t_race_guns, .inr (2, [.ref a_t_race_guns_ticks])), (a_t_race_guns_ticks, .inl (cI, 6, .inl t_race_guns_ticks)), (a_t_race_runners, .inr (6, [.ref a_t_race_runners_facts, .ref a_t_race_runners_splits, .ref a_t_race_runners_torn, .ref a_t_race_runners_dropped, .ref a_t_race_runners_waved, .ref a_t_race_runners_struck, .ref a_t_race_runners_strikingOrder, .int t_race_runners_entered, .int t_race_runners_strikings])), (a_t_race_way, .inr (9, [.ref a_t_race_way_places, .ref a_t_race_way_bearings, .ref a_t_race_way_cuts, .ref a_t_race_way_deaths, .int t_race_way_mats])), (a_t_race_way_bearings, .inl (cI, 12, .inl t_race_way_bearings)), (a_t_race_way_cuts, .inl (cI, 12, .inl t_race_way_cuts)), (a_t_race_way_deaths, .inl (cZ, 12, .inl t_race_way_deaths)), (a_t_race_way_places, .inl (cI, 12, .inl t_race_way_places))]) [] [0, 1, 2, 3, 4, 5, 6, 7, 8, 9] ⟨hx, hb, hml, hown, hts⟩ (mX10_within l D cB cI cZ s.heap.size x1 (1 : Int32) (1000 : Int32) b1 e2) (va_cwS 3 hts gX10_way_X10_within rfl rfl rfl (by decide +kernel) ⟨Nat.le_of_ble_eq_true rfl, Nat.le_of_ble_eq_true rfl⟩) hK hN hZ hP hD hS hA rfl rfl rfl rfl rfl rfl hl.1 rfl (lv_room (Nat.le_of_ble_eq_true rfl)) dX10_way_5 ⟨Nat.le_of_ble_eq_true rfl, Nat.le_of_ble_eq_true rfl⟩ (fun H locs hP hD hS => ?_)
  have hP : va_P D vwCl [(a_t, .inr (10, [.ref a_t_race, .ref a_t_kept, .ref a_t_trail, .ref a_t_doubts, .ref a_t_foretelling, .ref a_t_text, .ref a_t_listing, .int t_isKept])), (a_t_race, .inr (4, [.ref a_t_race_way, .ref a_t_race_guns, .ref a_t_race_runners])), (a_t_race_guns, .inr (2, [.ref a_t_race_guns_ticks])), (a_t_race_guns_ticks, .inl (cI, 6, .inl t_race_guns_ticks)), (a_t_race_runners, .inr (6, [.ref a_t_race_runners_facts, .ref a_t_race_runners_splits, .ref a_t_race_runners_torn, .ref a_t_race_runners_dropped, .ref a_t_race_runners_waved, .ref a_t_race_runners_struck, .ref a_t_race_runners_strikingOrder, .int t_race_runners_entered, .int t_race_runners_strikings])), (a_t_race_way, .inr (9, [.ref a_t_race_way_places, .ref a_t_race_way_bearings, .ref a_t_race_way_cuts, .ref a_t_race_way_deaths, .int t_race_way_mats])), (a_t_race_way_bearings, .inl (cI, 12, .inl t_race_way_bearings)), (a_t_race_way_cuts, .inl (cI, 12, .inl t_race_way_cuts)), (a_t_race_way_deaths, .inl (cZ, 12, .inl t_race_way_deaths)), (a_t_race_way_places, .inl (cI, 12, .inl t_race_way_places))] H := hP
  have hD : va_D A [(a_t, .inr (10, [.ref a_t_race, .ref a_t_kept, .ref a_t_trail, .ref a_t_doubts, .ref a_t_foretelling, .ref a_t_text, .ref a_t_listing, .int t_isKept])), (a_t_race, .inr (4, [.ref a_t_race_way, .ref a_t_race_guns, .ref a_t_race_runners])), (a_t_race_guns, .inr (2, [.ref a_t_race_guns_ticks])), (a_t_race_guns_ticks, .inl (cI, 6, .inl t_race_guns_ticks)), (a_t_race_runners, .inr (6, [.ref a_t_race_runners_facts, .ref a_t_race_runners_splits, .ref a_t_race_runners_torn, .ref a_t_race_runners_dropped, .ref a_t_race_runners_waved, .ref a_t_race_runners_struck, .ref a_t_race_runners_strikingOrder, .int t_race_runners_entered, .int t_race_runners_strikings])), (a_t_race_way, .inr (9, [.ref a_t_race_way_places, .ref a_t_race_way_bearings, .ref a_t_race_way_cuts, .ref a_t_race_way_deaths, .int t_race_way_mats])), (a_t_race_way_bearings, .inl (cI, 12, .inl t_race_way_bearings)), (a_t_race_way_cuts, .inl (cI, 12, .inl t_race_way_cuts)), (a_t_race_way_deaths, .inl (cZ, 12, .inl t_race_way_deaths)), (a_t_race_way_places, .inl (cI, 12, .inl t_race_way_places))] := hD
  refine lv_if_ne (tgt := 13) hx hb dX10_way_8 (by decide) (fun c3 => ?_) (fun c3 => ?_)
  · have h := zz_f h c3
    refine lv_aload_n hx hb dX10_way_13 rfl (lv_at hl 0 rfl) ?_
    refine va_get (D := D) (ci := 10) (C := RX10) (T := TX10) (N := 8) hx hb hts qX10_way_X10 hown hK hP 0 rfl rfl 0 (by decide) (hts _ kX10_way_0) (fun _ h9 => h9) rfl dX10_way_14 ?_
    refine lv_iload_n hx hb dX10_way_17 rfl (lv_at hl 1 rfl) ?_
    obtain ⟨⟨t_race_guns_ticks_r4, t_race_runners_entered_r5, t_race_runners_strikings_r6, t_race_way_mats_r7, t_race_way_bearings_r8, t_race_way_cuts_r9, t_race_way_deaths_r10, t_race_way_places_r11⟩, e12, h⟩ := zz_b h
    dsimp only at h
    refine zVv (As := [.int x1]) (rest := []) (C := RX4) (wr := [(a_t, .inr (10, [.ref a_t_race, .ref a_t_kept, .ref a_t_trail, .ref a_t_doubts, .ref a_t_foretelling, .ref a_t_text, .ref a_t_listing, .int t_isKept]))]) [1, 2, 3, 4, 5, 6, 7, 8, 9] [0] 0 ⟨hx, hb, hml, hown, hts⟩ (mX4_begin l D cB cI cZ a_t_race a_t_race_way a_t_race_guns a_t_race_runners a_t_race_guns_ticks a_t_race_runners_facts a_t_race_runners_splits a_t_race_runners_torn a_t_race_runners_dropped a_t_race_runners_waved a_t_race_runners_struck a_t_race_runners_strikingOrder a_t_race_way_places a_t_race_way_bearings a_t_race_way_cuts a_t_race_way_deaths t_race_guns_ticks t_race_runners_entered t_race_runners_strikings t_race_way_mats t_race_way_bearings t_race_way_cuts t_race_way_deaths t_race_way_places H.size x1 N t_race_guns_ticks_r4 t_race_runners_entered_r5 t_race_runners_strikings_r6 t_race_way_mats_r7 t_race_way_bearings_r8 t_race_way_cuts_r9 t_race_way_deaths_r10 t_race_way_places_r11 e12) (cwV 1 hts gX10_way_X4_begin rfl rfl rfl (by decide +kernel) ⟨Nat.le_of_ble_eq_true rfl, Nat.le_of_ble_eq_true rfl⟩) hK hN hZ hP hD hS hA rfl rfl rfl rfl rfl rfl rfl rfl hl.1 rfl (lv_room (Nat.le_of_ble_eq_true rfl)) dX10_way_18 ⟨Nat.le_of_ble_eq_true rfl, Nat.le_of_ble_eq_true rfl⟩ (fun H locs hP hD hS => ?_)
    have hP : va_P D vwCl [(a_t, .inr (10, [.ref a_t_race, .ref a_t_kept, .ref a_t_trail, .ref a_t_doubts, .ref a_t_foretelling, .ref a_t_text, .ref a_t_listing, .int t_isKept])), (a_t_race, .inr (4, [.ref a_t_race_way, .ref a_t_race_guns, .ref a_t_race_runners])), (a_t_race_guns, .inr (2, [.ref a_t_race_guns_ticks])), (a_t_race_guns_ticks, .inl (cI, 6, .inl t_race_guns_ticks_r4)), (a_t_race_runners, .inr (6, [.ref a_t_race_runners_facts, .ref a_t_race_runners_splits, .ref a_t_race_runners_torn, .ref a_t_race_runners_dropped, .ref a_t_race_runners_waved, .ref a_t_race_runners_struck, .ref a_t_race_runners_strikingOrder, .int t_race_runners_entered_r5, .int t_race_runners_strikings_r6])), (a_t_race_way, .inr (9, [.ref a_t_race_way_places, .ref a_t_race_way_bearings, .ref a_t_race_way_cuts, .ref a_t_race_way_deaths, .int t_race_way_mats_r7])), (a_t_race_way_bearings, .inl (cI, 12, .inl t_race_way_bearings_r8)), (a_t_race_way_cuts, .inl (cI, 12, .inl t_race_way_cuts_r9)), (a_t_race_way_deaths, .inl (cZ, 12, .inl t_race_way_deaths_r10)), (a_t_race_way_places, .inl (cI, 12, .inl t_race_way_places_r11))] H := hP
    have hD : va_D A [(a_t, .inr (10, [.ref a_t_race, .ref a_t_kept, .ref a_t_trail, .ref a_t_doubts, .ref a_t_foretelling, .ref a_t_text, .ref a_t_listing, .int t_isKept])), (a_t_race, .inr (4, [.ref a_t_race_way, .ref a_t_race_guns, .ref a_t_race_runners])), (a_t_race_guns, .inr (2, [.ref a_t_race_guns_ticks])), (a_t_race_guns_ticks, .inl (cI, 6, .inl t_race_guns_ticks_r4)), (a_t_race_runners, .inr (6, [.ref a_t_race_runners_facts, .ref a_t_race_runners_splits, .ref a_t_race_runners_torn, .ref a_t_race_runners_dropped, .ref a_t_race_runners_waved, .ref a_t_race_runners_struck, .ref a_t_race_runners_strikingOrder, .int t_race_runners_entered_r5, .int t_race_runners_strikings_r6])), (a_t_race_way, .inr (9, [.ref a_t_race_way_places, .ref a_t_race_way_bearings, .ref a_t_race_way_cuts, .ref a_t_race_way_deaths, .int t_race_way_mats_r7])), (a_t_race_way_bearings, .inl (cI, 12, .inl t_race_way_bearings_r8)), (a_t_race_way_cuts, .inl (cI, 12, .inl t_race_way_cuts_r9)), (a_t_race_way_deaths, .inl (cZ, 12, .inl t_race_way_deaths_r10)), (a_t_race_way_places, .inl (cI, 12, .inl t_race_way_places_r11))] := hD
    refine lv_iconst (v := (1 : Int32)) hx hb dX10_way_21 rfl ?_
    obtain ⟨j0_, g_⟩ := Prod.mk.inj (Option.some.inj h)
    obtain ⟨j1_, g_⟩ := Prod.mk.inj g_
    obtain ⟨j2_, g_⟩ := Prod.mk.inj g_
    obtain ⟨j3_, g_⟩ := Prod.mk.inj g_
    obtain ⟨j4_, g_⟩ := Prod.mk.inj g_
    obtain ⟨j5_, g_⟩ := Prod.mk.inj g_
    obtain ⟨j6_, g_⟩ := Prod.mk.inj g_
    obtain ⟨j7_, g_⟩ := Prod.mk.inj g_
    have j8_ := g_
    subst j0_
    subst j1_
    subst j2_
    subst j3_
    subst j4_
    subst j5_
    subst j6_
    subst j7_
    subst j8_
    exact W.zret (v := (1 : Int32)) hx hb hr rfl (fun t ht hW => ⟨⟨_, (), rfl, rfl, zPost.of hP hD hK ht hW [0, 1, 2, 3, 4, 5, 6, 7, 8, 9] rfl rfl rfl⟩, hS.F ht⟩) hS.2.2 dX10_way_22
  · have h := zz_t h c3
    refine lv_iconst (v := (0 : Int32)) hx hb dX10_way_11 rfl ?_
    obtain ⟨j0_, g_⟩ := Prod.mk.inj (Option.some.inj h)
    obtain ⟨j1_, g_⟩ := Prod.mk.inj g_
    obtain ⟨j2_, g_⟩ := Prod.mk.inj g_
    obtain ⟨j3_, g_⟩ := Prod.mk.inj g_
    obtain ⟨j4_, g_⟩ := Prod.mk.inj g_
    obtain ⟨j5_, g_⟩ := Prod.mk.inj g_
    obtain ⟨j6_, g_⟩ := Prod.mk.inj g_
    obtain ⟨j7_, g_⟩ := Prod.mk.inj g_
    have j8_ := g_
    subst j0_
    subst j1_
    subst j2_
    subst j3_
    subst j4_
    subst j5_
    subst j6_
    subst j7_
    subst j8_
    exact W.zret (v := (0 : Int32)) hx hb hr rfl (fun t ht hW => ⟨⟨_, (), rfl, rfl, zPost.of hP hD hK ht hW [0, 1, 2, 3, 4, 5, 6, 7, 8, 9] rfl rfl rfl⟩, hS.F ht⟩) hS.2.2 dX10_way_12
/-! RunDesk.mat -/
theorem dX10_mat_0 : decode cX10_mat 0 = .ok (.iload_n 2, 1) := by decide +kernel
theorem dX10_mat_1 : decode cX10_mat 1 = .ok (.iconst 1, 1) := by decide +kernel
theorem dX10_mat_2 : decode cX10_mat 2 = .ok (.sipush 1000, 3) := by decide +kernel
theorem dX10_mat_5 : decode cX10_mat 5 = .ok (.invokestatic 68, 3) := by decide +kernel
theorem dX10_mat_8 : decode cX10_mat 8 = .ok (.ifCond .eq 24, 3) := by decide +kernel
theorem dX10_mat_11 : decode cX10_mat 11 = .ok (.iload_n 1, 1) := by decide +kernel
theorem dX10_mat_12 : decode cX10_mat 12 = .ok (.aload_n 0, 1) := by decide +kernel
theorem dX10_mat_13 : decode cX10_mat 13 = .ok (.getfield 10, 3) := by decide +kernel
theorem dX10_mat_16 : decode cX10_mat 16 = .ok (.getfield 58, 3) := by decide +kernel
theorem dX10_mat_19 : decode cX10_mat 19 = .ok (.invokevirtual 72, 3) := by decide +kernel
theorem dX10_mat_22 : decode cX10_mat 22 = .ok (.iconst 1, 1) := by decide +kernel
theorem dX10_mat_23 : decode cX10_mat 23 = .ok (.iadd, 1) := by decide +kernel
theorem dX10_mat_24 : decode cX10_mat 24 = .ok (.ldc 76, 2) := by decide +kernel
theorem dX10_mat_26 : decode cX10_mat 26 = .ok (.invokestatic 68, 3) := by decide +kernel
theorem dX10_mat_29 : decode cX10_mat 29 = .ok (.ifCond .ne 5, 3) := by decide +kernel
theorem dX10_mat_32 : decode cX10_mat 32 = .ok (.iconst (-1), 1) := by decide +kernel
theorem dX10_mat_33 : decode cX10_mat 33 = .ok (.ireturn, 1) := by decide +kernel
theorem dX10_mat_34 : decode cX10_mat 34 = .ok (.aload_n 0, 1) := by decide +kernel
theorem dX10_mat_35 : decode cX10_mat 35 = .ok (.getfield 10, 3) := by decide +kernel
theorem dX10_mat_38 : decode cX10_mat 38 = .ok (.getfield 58, 3) := by decide +kernel
theorem dX10_mat_41 : decode cX10_mat 41 = .ok (.iload_n 1, 1) := by decide +kernel
theorem dX10_mat_42 : decode cX10_mat 42 = .ok (.iload_n 2, 1) := by decide +kernel
theorem dX10_mat_43 : decode cX10_mat 43 = .ok (.invokevirtual 62, 3) := by decide +kernel
theorem dX10_mat_46 : decode cX10_mat 46 = .ok (.ireturn, 1) := by decide +kernel
set_option maxRecDepth 20000 in
theorem ggX10_mat_X10_within : GoodIn wsX10_mat wsX10_within := goodIn_r _ [6] (by decide +kernel) (by decide +kernel)
set_option maxRecDepth 20000 in
theorem gX10_mat_X10_within : GoodIn wsX10_mat (va_wsS RX10 68 yX10_within wsX10_within) := goodIn_app (goodIn_of _ (by decide +kernel)) ggX10_mat_X10_within
set_option maxRecDepth 20000 in
theorem ggX10_mat_X9_farthest : GoodIn wsX10_mat wsX9_farthest := goodIn_r _ [11, 12, 13, 14, 15, 10, 16, 17, 18, 19, 20, 21, 40, 41, 42, 43, 44] (by decide +kernel) (by decide +kernel)
set_option maxRecDepth 20000 in
theorem gX10_mat_X9_farthest : GoodIn wsX10_mat (wsV RX10 72 RX9 yX9_farthest wsX9_farthest) := goodIn_app (goodIn_of _ (by decide +kernel)) ggX10_mat_X9_farthest
set_option maxRecDepth 20000 in
theorem ggX10_mat_X9_append : GoodIn wsX10_mat wsX9_append := goodIn_r _ [25, 12, 17, 26, 27, 28, 40, 41, 42, 43, 44] (by decide +kernel) (by decide +kernel)
set_option maxRecDepth 20000 in
theorem gX10_mat_X9_append : GoodIn wsX10_mat (wsV RX10 62 RX9 yX9_append wsX9_append) := goodIn_app (goodIn_of _ (by decide +kernel)) ggX10_mat_X9_append
def fX10_mat (t_race_way_mats : Int32) (t_race_way_bearings : Nat → Int32) (t_race_way_cuts : Nat → Int32) (t_race_way_deaths : Nat → Int32) (t_race_way_places : Nat → Int32) (x1 : Int32) (x2 : Int32) : Option (Int32 × Int32 × (Nat → Int32) × (Nat → Int32) × (Nat → Int32) × (Nat → Int32)) := ((fX10_within x2 (1 : Int32) (1000 : Int32)).bind (fun b1 => (if (zb b1) = 0 then some ((-1 : Int32), t_race_way_mats, t_race_way_bearings, t_race_way_cuts, t_race_way_deaths, t_race_way_places) else ((fX9_farthest t_race_way_mats t_race_way_places).bind (fun r4 => ((fX10_within x1 (r4 + (1 : Int32)) (100000 : Int32)).bind (fun b6 => (if (zb b6) = 0 then some ((-1 : Int32), t_race_way_mats, t_race_way_bearings, t_race_way_cuts, t_race_way_deaths, t_race_way_places) else ((fX9_append t_race_way_mats t_race_way_bearings t_race_way_cuts t_race_way_deaths t_race_way_places x1 x2).bind (fun (r9, t_race_way_mats_r10, t_race_way_bearings_r11, t_race_way_cuts_r12, t_race_way_deaths_r13, t_race_way_places_r14) => some (r9, t_race_way_mats_r10, t_race_way_bearings_r11, t_race_way_cuts_r12, t_race_way_deaths_r13, t_race_way_places_r14)))))))))))
theorem kX10_mat_0 : (.fieldLink RX10 10 "RunDesk" "race" "LRunDesk$Race;" : Cond) ∈ wsX10_mat := List.mem_of_getElem? (i := 1) (by decide +kernel)
theorem qX10_mat_X10 : ∀ w ∈ wsX100, w ∈ wsX10_mat := fun _ h => List.mem_cons_of_mem _ (List.mem_append_left _ (List.mem_append_left _ (List.mem_append_right _ (h))))
theorem qX10_mat_X4 : ∀ w ∈ wsX40, w ∈ wsX10_mat := fun _ h => List.mem_cons_of_mem _ (List.mem_append_left _ (List.mem_append_right _ (h)))
theorem kX10_mat_3 : (.constant RX10 76 (100000) : Cond) ∈ wsX10_mat := List.mem_of_getElem? (i := 2) (by decide +kernel)
set_option maxHeartbeats 4000000 in
set_option maxRecDepth 100000 in
theorem mX10_mat (l : Launch) (D : va_G) (cB cI cZ : ClassId) (a_t : Nat) (a_t_race : Nat) (a_t_kept : Nat) (a_t_trail : Nat) (a_t_doubts : Nat) (a_t_foretelling : Nat) (a_t_text : Nat) (a_t_listing : Nat) (a_t_race_way : Nat) (a_t_race_guns : Nat) (a_t_race_runners : Nat) (a_t_race_way_places : Nat) (a_t_race_way_bearings : Nat) (a_t_race_way_cuts : Nat) (a_t_race_way_deaths : Nat) (t_isKept : Int32) (t_race_way_mats : Int32) (t_race_way_bearings : Nat → Int32) (t_race_way_cuts : Nat → Int32) (t_race_way_deaths : Nat → Int32) (t_race_way_places : Nat → Int32) (sz : Nat) (x1 : Int32) (x2 : Int32) (r0 : Int32) (t_race_way_mats' : Int32) (t_race_way_bearings' : Nat → Int32) (t_race_way_cuts' : Nat → Int32) (t_race_way_deaths' : Nat → Int32) (t_race_way_places' : Nat → Int32) (h : fX10_mat t_race_way_mats t_race_way_bearings t_race_way_cuts t_race_way_deaths t_race_way_places x1 x2 = some (r0, t_race_way_mats', t_race_way_bearings', t_race_way_cuts', t_race_way_deaths', t_race_way_places')) : Met l yX10_mat wsX10_mat ({ frames := 3, cells := 0, slots := 0, locals := 62 } : Room) (va_Pc [.ref a_t, .int x1, .int x2] (zPre D (zT cB cI cZ) [(a_t, .inr (10, [.ref a_t_race, .ref a_t_kept, .ref a_t_trail, .ref a_t_doubts, .ref a_t_foretelling, .ref a_t_text, .ref a_t_listing, .int t_isKept])), (a_t_race, .inr (4, [.ref a_t_race_way, .ref a_t_race_guns, .ref a_t_race_runners])), (a_t_race_way, .inr (9, [.ref a_t_race_way_places, .ref a_t_race_way_bearings, .ref a_t_race_way_cuts, .ref a_t_race_way_deaths, .int t_race_way_mats])), (a_t_race_way_bearings, .inl (cI, 12, .inl t_race_way_bearings)), (a_t_race_way_cuts, .inl (cI, 12, .inl t_race_way_cuts)), (a_t_race_way_deaths, .inl (cZ, 12, .inl t_race_way_deaths)), (a_t_race_way_places, .inl (cI, 12, .inl t_race_way_places))] sz)) (zQi r0 D (zT cB cI cZ) [(a_t, .inr (10, [.ref a_t_race, .ref a_t_kept, .ref a_t_trail, .ref a_t_doubts, .ref a_t_foretelling, .ref a_t_text, .ref a_t_listing, .int t_isKept])), (a_t_race, .inr (4, [.ref a_t_race_way, .ref a_t_race_guns, .ref a_t_race_runners])), (a_t_race_way, .inr (9, [.ref a_t_race_way_places, .ref a_t_race_way_bearings, .ref a_t_race_way_cuts, .ref a_t_race_way_deaths, .int t_race_way_mats'])), (a_t_race_way_bearings, .inl (cI, 12, .inl t_race_way_bearings')), (a_t_race_way_cuts, .inl (cI, 12, .inl t_race_way_cuts')), (a_t_race_way_deaths, .inl (cZ, 12, .inl t_race_way_deaths')), (a_t_race_way_places, .inl (cI, 12, .inl t_race_way_places'))] (va_A [(a_t, .inr (10, [.ref a_t_race, .ref a_t_kept, .ref a_t_trail, .ref a_t_doubts, .ref a_t_foretelling, .ref a_t_text, .ref a_t_listing, .int t_isKept])), (a_t_race, .inr (4, [.ref a_t_race_way, .ref a_t_race_guns, .ref a_t_race_runners])), (a_t_race_way, .inr (9, [.ref a_t_race_way_places, .ref a_t_race_way_bearings, .ref a_t_race_way_cuts, .ref a_t_race_way_deaths, .int t_race_way_mats])), (a_t_race_way_bearings, .inl (cI, 12, .inl t_race_way_bearings)), (a_t_race_way_cuts, .inl (cI, 12, .inl t_race_way_cuts)), (a_t_race_way_deaths, .inl (cZ, 12, .inl t_race_way_deaths)), (a_t_race_way_places, .inl (cI, 12, .inl t_race_way_places))] sz)) 0 0 (va_A [(a_t, .inr (10, [.ref a_t_race, .ref a_t_kept, .ref a_t_trail, .ref a_t_doubts, .ref a_t_foretelling, .ref a_t_text, .ref a_t_listing, .int t_isKept])), (a_t_race, .inr (4, [.ref a_t_race_way, .ref a_t_race_guns, .ref a_t_race_runners])), (a_t_race_way, .inr (9, [.ref a_t_race_way_places, .ref a_t_race_way_bearings, .ref a_t_race_way_cuts, .ref a_t_race_way_deaths, .int t_race_way_mats])), (a_t_race_way_bearings, .inl (cI, 12, .inl t_race_way_bearings)), (a_t_race_way_cuts, .inl (cI, 12, .inl t_race_way_cuts)), (a_t_race_way_deaths, .inl (cZ, 12, .inl t_race_way_deaths)), (a_t_race_way_places, .inl (cI, 12, .inl t_race_way_places))] sz) := by
  refine Met.ofW (cc := cX10_mat) (maxL := 3) (ret := (some .int)) (by decide) rfl ?_
  intro p e s m args below meth c s₁ B hml hv
  obtain ⟨rfl, hsz, hP, hK, hN, hZ, hD0⟩ := hv
  have hx := B.exec
  have hb := B.bytes
  have hr := B.returns
  have hts := atoms_spec (ws := wsX10_mat) B.pre
  have hown : s.vm.findClass RX10 = some m.cls := findClass_of_methodNamed B.named
  have hlocks := B.notSynchronized
  subst hsz
  have hD := hD0.self (sz := s.heap.size)
  generalize hAe : va_A [(a_t, .inr (10, [.ref a_t_race, .ref a_t_kept, .ref a_t_trail, .ref a_t_doubts, .ref a_t_foretelling, .ref a_t_text, .ref a_t_listing, .int t_isKept])), (a_t_race, .inr (4, [.ref a_t_race_way, .ref a_t_race_guns, .ref a_t_race_runners])), (a_t_race_way, .inr (9, [.ref a_t_race_way_places, .ref a_t_race_way_bearings, .ref a_t_race_way_cuts, .ref a_t_race_way_deaths, .int t_race_way_mats])), (a_t_race_way_bearings, .inl (cI, 12, .inl t_race_way_bearings)), (a_t_race_way_cuts, .inl (cI, 12, .inl t_race_way_cuts)), (a_t_race_way_deaths, .inl (cZ, 12, .inl t_race_way_deaths)), (a_t_race_way_places, .inl (cI, 12, .inl t_race_way_places))] s.heap.size = A at hD hZ ⊢
  have hA : ∀ q : Nat, s.heap.size ≤ q → A q := fun q h => by rw [← hAe]; exact Or.inr h
  have hS : va_S A s.heap s.heap [] := va_S.rf
  have hl := lv_entry ([.ref a_t, .int x1, .int x2]) (n := 3) (Nat.le_of_ble_eq_true rfl)
  rw [lg_entry_eq]
  generalize (lg_sl ([.ref a_t, .int x1, .int x2]) ++ List.replicate (3 - (lg_sl ([.ref a_t, .int x1, .int x2])).length) Slot.unset).toArray = ls at hl ⊢
  have hl : lv_has ls 3 [(0, .ref a_t), (1, .int x1), (2, .int x2)] := hl
  unfold fX10_mat at h
  refine lv_iload_n hx hb dX10_mat_0 rfl (lv_at hl 2 rfl) ?_
  refine lv_iconst (v := (1 : Int32)) hx hb dX10_mat_1 rfl ?_
  refine lv_sipush (v := (1000 : Int32)) hx hb dX10_mat_2 rfl ?_
  obtain ⟨b1, e2, h⟩ := zz_b h
  refine zSi (As := [.int x2, .int (1 : Int32), .int (1000 : Int32)]) (rest := []) (wr := [(a_t, .inr (10, [.ref a_t_race, .ref a_t_kept, .ref a_t_trail, .ref a_t_doubts, .ref a_t_foretelling, .ref a_t_text, .ref a_t_listing, .int t_isKept])), (a_t_race, .inr (4, [.ref a_t_race_way, .ref a_t_race_guns, .ref a_t_race_runners])), (a_t_race_way, .inr (9, [.ref a_t_race_way_places, .ref a_t_race_way_bearings, .ref a_t_race_way_cuts, .ref a_t_race_way_deaths, .int t_race_way_mats])), (a_t_race_way_bearings, .inl (cI, 12, .inl t_race_way_bearings)), (a_t_race_way_cuts, .inl (cI, 12, .inl t_race_way_cuts)), (a_t_race_way_deaths, .inl (cZ, 12, .inl t_race_way_deaths)), (a_t_race_way_places, .inl (cI, 12, .inl t_race_way_places))]) [] [0, 1, 2, 3, 4, 5, 6] ⟨hx, hb, hml, hown, hts⟩ (mX10_within l D cB cI cZ s.heap.size x2 (1 : Int32) (1000 : Int32) b1 e2) (va_cwS 3 hts gX10_mat_X10_within rfl rfl rfl (by decide +kernel) ⟨Nat.le_of_ble_eq_true rfl, Nat.le_of_ble_eq_true rfl⟩) hK hN hZ hP hD hS hA rfl rfl rfl rfl rfl rfl hl.1 rfl (lv_room (Nat.le_of_ble_eq_true rfl)) dX10_mat_5 ⟨Nat.le_of_ble_eq_true rfl, Nat.le_of_ble_eq_true rfl⟩ (fun H locs hP hD hS => ?_)
  have hP : va_P D vwCl [(a_t, .inr (10, [.ref a_t_race, .ref a_t_kept, .ref a_t_trail, .ref a_t_doubts, .ref a_t_foretelling, .ref a_t_text, .ref a_t_listing, .int t_isKept])), (a_t_race, .inr (4, [.ref a_t_race_way, .ref a_t_race_guns, .ref a_t_race_runners])), (a_t_race_way, .inr (9, [.ref a_t_race_way_places, .ref a_t_race_way_bearings, .ref a_t_race_way_cuts, .ref a_t_race_way_deaths, .int t_race_way_mats])), (a_t_race_way_bearings, .inl (cI, 12, .inl t_race_way_bearings)), (a_t_race_way_cuts, .inl (cI, 12, .inl t_race_way_cuts)), (a_t_race_way_deaths, .inl (cZ, 12, .inl t_race_way_deaths)), (a_t_race_way_places, .inl (cI, 12, .inl t_race_way_places))] H := hP
  have hD : va_D A [(a_t, .inr (10, [.ref a_t_race, .ref a_t_kept, .ref a_t_trail, .ref a_t_doubts, .ref a_t_foretelling, .ref a_t_text, .ref a_t_listing, .int t_isKept])), (a_t_race, .inr (4, [.ref a_t_race_way, .ref a_t_race_guns, .ref a_t_race_runners])), (a_t_race_way, .inr (9, [.ref a_t_race_way_places, .ref a_t_race_way_bearings, .ref a_t_race_way_cuts, .ref a_t_race_way_deaths, .int t_race_way_mats])), (a_t_race_way_bearings, .inl (cI, 12, .inl t_race_way_bearings)), (a_t_race_way_cuts, .inl (cI, 12, .inl t_race_way_cuts)), (a_t_race_way_deaths, .inl (cZ, 12, .inl t_race_way_deaths)), (a_t_race_way_places, .inl (cI, 12, .inl t_race_way_places))] := hD
  refine lv_if_eq (tgt := 32) hx hb dX10_mat_8 (by decide) (fun c3 => ?_) (fun c3 => ?_)
  · have h := zz_t h c3
    refine lv_iconst (v := (-1 : Int32)) hx hb dX10_mat_32 rfl ?_
    obtain ⟨j0_, g_⟩ := Prod.mk.inj (Option.some.inj h)
    obtain ⟨j1_, g_⟩ := Prod.mk.inj g_
    obtain ⟨j2_, g_⟩ := Prod.mk.inj g_
    obtain ⟨j3_, g_⟩ := Prod.mk.inj g_
    obtain ⟨j4_, g_⟩ := Prod.mk.inj g_
    have j5_ := g_
    subst j0_
    subst j1_
    subst j2_
    subst j3_
    subst j4_
    subst j5_
    exact W.iret (v := (-1 : Int32)) hx hb hr (fun t ht hW => ⟨⟨_, (), rfl, rfl, zPost.of hP hD hK ht hW [0, 1, 2, 3, 4, 5, 6] rfl rfl rfl⟩, hS.F ht⟩) hS.2.2 dX10_mat_33
  · have h := zz_f h c3
    refine lv_iload_n hx hb dX10_mat_11 rfl (lv_at hl 1 rfl) ?_
    refine lv_aload_n hx hb dX10_mat_12 rfl (lv_at hl 0 rfl) ?_
    refine va_get (D := D) (ci := 10) (C := RX10) (T := TX10) (N := 8) hx hb hts qX10_mat_X10 hown hK hP 0 rfl rfl 0 (by decide) (hts _ kX10_mat_0) (fun _ h9 => h9) rfl dX10_mat_13 ?_
    refine va_getN (host := "RunDesk") (D := D) (ci := 4) (C := RX4) (T := TX4) (N := 3) hx hb hts qX10_mat_X4 hown hK hP 1 rfl rfl 0 (by decide) (va_Nw.use rfl (hN _ (List.mem_of_getElem? (i := 0) rfl))) (fun _ h9 => h9) rfl dX10_mat_16 ?_
    obtain ⟨r4, e5, h⟩ := zz_b h
    refine zVi (As := []) (rest := [.int x1]) (C := RX9) (wr := [(a_t, .inr (10, [.ref a_t_race, .ref a_t_kept, .ref a_t_trail, .ref a_t_doubts, .ref a_t_foretelling, .ref a_t_text, .ref a_t_listing, .int t_isKept])), (a_t_race, .inr (4, [.ref a_t_race_way, .ref a_t_race_guns, .ref a_t_race_runners])), (a_t_race_way_bearings, .inl (cI, 12, .inl t_race_way_bearings)), (a_t_race_way_cuts, .inl (cI, 12, .inl t_race_way_cuts)), (a_t_race_way_deaths, .inl (cZ, 12, .inl t_race_way_deaths))]) [2, 6] [0, 1, 3, 4, 5] 0 ⟨hx, hb, hml, hown, hts⟩ (mX9_farthest l D cB cI cZ a_t_race_way a_t_race_way_places a_t_race_way_bearings a_t_race_way_cuts a_t_race_way_deaths t_race_way_mats t_race_way_places H.size r4 e5) (cwV 0 hts gX10_mat_X9_farthest rfl rfl rfl (by decide +kernel) ⟨Nat.le_of_ble_eq_true rfl, Nat.le_of_ble_eq_true rfl⟩) hK hN hZ hP hD hS hA rfl rfl rfl rfl rfl rfl rfl rfl hl.1 rfl (lv_room (Nat.le_of_ble_eq_true rfl)) dX10_mat_19 ⟨Nat.le_of_ble_eq_true rfl, Nat.le_of_ble_eq_true rfl⟩ (fun H locs hP hD hS => ?_)
    have hP : va_P D vwCl [(a_t, .inr (10, [.ref a_t_race, .ref a_t_kept, .ref a_t_trail, .ref a_t_doubts, .ref a_t_foretelling, .ref a_t_text, .ref a_t_listing, .int t_isKept])), (a_t_race, .inr (4, [.ref a_t_race_way, .ref a_t_race_guns, .ref a_t_race_runners])), (a_t_race_way_bearings, .inl (cI, 12, .inl t_race_way_bearings)), (a_t_race_way_cuts, .inl (cI, 12, .inl t_race_way_cuts)), (a_t_race_way_deaths, .inl (cZ, 12, .inl t_race_way_deaths)), (a_t_race_way, .inr (9, [.ref a_t_race_way_places, .ref a_t_race_way_bearings, .ref a_t_race_way_cuts, .ref a_t_race_way_deaths, .int t_race_way_mats])), (a_t_race_way_places, .inl (cI, 12, .inl t_race_way_places))] H := hP
    have hD : va_D A [(a_t, .inr (10, [.ref a_t_race, .ref a_t_kept, .ref a_t_trail, .ref a_t_doubts, .ref a_t_foretelling, .ref a_t_text, .ref a_t_listing, .int t_isKept])), (a_t_race, .inr (4, [.ref a_t_race_way, .ref a_t_race_guns, .ref a_t_race_runners])), (a_t_race_way_bearings, .inl (cI, 12, .inl t_race_way_bearings)), (a_t_race_way_cuts, .inl (cI, 12, .inl t_race_way_cuts)), (a_t_race_way_deaths, .inl (cZ, 12, .inl t_race_way_deaths)), (a_t_race_way, .inr (9, [.ref a_t_race_way_places, .ref a_t_race_way_bearings, .ref a_t_race_way_cuts, .ref a_t_race_way_deaths, .int t_race_way_mats])), (a_t_race_way_places, .inl (cI, 12, .inl t_race_way_places))] := hD
    refine lv_iconst (v := (1 : Int32)) hx hb dX10_mat_22 rfl ?_
    refine lv_iadd hx hb dX10_mat_23 ?_
    refine lv_ldc (v := (100000 : Int32)) hx hb hown (hts _ kX10_mat_3) dX10_mat_24 ?_
    obtain ⟨b6, e7, h⟩ := zz_b h
    refine zSi (As := [.int x1, .int (r4 + (1 : Int32)), .int (100000 : Int32)]) (rest := []) (wr := [(a_t, .inr (10, [.ref a_t_race, .ref a_t_kept, .ref a_t_trail, .ref a_t_doubts, .ref a_t_foretelling, .ref a_t_text, .ref a_t_listing, .int t_isKept])), (a_t_race, .inr (4, [.ref a_t_race_way, .ref a_t_race_guns, .ref a_t_race_runners])), (a_t_race_way_bearings, .inl (cI, 12, .inl t_race_way_bearings)), (a_t_race_way_cuts, .inl (cI, 12, .inl t_race_way_cuts)), (a_t_race_way_deaths, .inl (cZ, 12, .inl t_race_way_deaths)), (a_t_race_way, .inr (9, [.ref a_t_race_way_places, .ref a_t_race_way_bearings, .ref a_t_race_way_cuts, .ref a_t_race_way_deaths, .int t_race_way_mats])), (a_t_race_way_places, .inl (cI, 12, .inl t_race_way_places))]) [] [0, 1, 2, 3, 4, 5, 6] ⟨hx, hb, hml, hown, hts⟩ (mX10_within l D cB cI cZ H.size x1 (r4 + (1 : Int32)) (100000 : Int32) b6 e7) (va_cwS 3 hts gX10_mat_X10_within rfl rfl rfl (by decide +kernel) ⟨Nat.le_of_ble_eq_true rfl, Nat.le_of_ble_eq_true rfl⟩) hK hN hZ hP hD hS hA rfl rfl rfl rfl rfl rfl hl.1 rfl (lv_room (Nat.le_of_ble_eq_true rfl)) dX10_mat_26 ⟨Nat.le_of_ble_eq_true rfl, Nat.le_of_ble_eq_true rfl⟩ (fun H locs hP hD hS => ?_)
    have hP : va_P D vwCl [(a_t, .inr (10, [.ref a_t_race, .ref a_t_kept, .ref a_t_trail, .ref a_t_doubts, .ref a_t_foretelling, .ref a_t_text, .ref a_t_listing, .int t_isKept])), (a_t_race, .inr (4, [.ref a_t_race_way, .ref a_t_race_guns, .ref a_t_race_runners])), (a_t_race_way_bearings, .inl (cI, 12, .inl t_race_way_bearings)), (a_t_race_way_cuts, .inl (cI, 12, .inl t_race_way_cuts)), (a_t_race_way_deaths, .inl (cZ, 12, .inl t_race_way_deaths)), (a_t_race_way, .inr (9, [.ref a_t_race_way_places, .ref a_t_race_way_bearings, .ref a_t_race_way_cuts, .ref a_t_race_way_deaths, .int t_race_way_mats])), (a_t_race_way_places, .inl (cI, 12, .inl t_race_way_places))] H := hP
    have hD : va_D A [(a_t, .inr (10, [.ref a_t_race, .ref a_t_kept, .ref a_t_trail, .ref a_t_doubts, .ref a_t_foretelling, .ref a_t_text, .ref a_t_listing, .int t_isKept])), (a_t_race, .inr (4, [.ref a_t_race_way, .ref a_t_race_guns, .ref a_t_race_runners])), (a_t_race_way_bearings, .inl (cI, 12, .inl t_race_way_bearings)), (a_t_race_way_cuts, .inl (cI, 12, .inl t_race_way_cuts)), (a_t_race_way_deaths, .inl (cZ, 12, .inl t_race_way_deaths)), (a_t_race_way, .inr (9, [.ref a_t_race_way_places, .ref a_t_race_way_bearings, .ref a_t_race_way_cuts, .ref a_t_race_way_deaths, .int t_race_way_mats])), (a_t_race_way_places, .inl (cI, 12, .inl t_race_way_places))] := hD
    refine lv_if_ne (tgt := 34) hx hb dX10_mat_29 (by decide) (fun c8 => ?_) (fun c8 => ?_)
    · have h := zz_f h c8
      refine lv_aload_n hx hb dX10_mat_34 rfl (lv_at hl 0 rfl) ?_
      refine va_get (D := D) (ci := 10) (C := RX10) (T := TX10) (N := 8) hx hb hts qX10_mat_X10 hown hK hP 0 rfl rfl 0 (by decide) (hts _ kX10_mat_0) (fun _ h9 => h9) rfl dX10_mat_35 ?_
      refine va_getN (host := "RunDesk") (D := D) (ci := 4) (C := RX4) (T := TX4) (N := 3) hx hb hts qX10_mat_X4 hown hK hP 1 rfl rfl 0 (by decide) (va_Nw.use rfl (hN _ (List.mem_of_getElem? (i := 0) rfl))) (fun _ h9 => h9) rfl dX10_mat_38 ?_
      refine lv_iload_n hx hb dX10_mat_41 rfl (lv_at hl 1 rfl) ?_
      refine lv_iload_n hx hb dX10_mat_42 rfl (lv_at hl 2 rfl) ?_
      obtain ⟨⟨r9, t_race_way_mats_r10, t_race_way_bearings_r11, t_race_way_cuts_r12, t_race_way_deaths_r13, t_race_way_places_r14⟩, e15, h⟩ := zz_b h
      dsimp only at h
      refine zVi (As := [.int x1, .int x2]) (rest := []) (C := RX9) (wr := [(a_t, .inr (10, [.ref a_t_race, .ref a_t_kept, .ref a_t_trail, .ref a_t_doubts, .ref a_t_foretelling, .ref a_t_text, .ref a_t_listing, .int t_isKept])), (a_t_race, .inr (4, [.ref a_t_race_way, .ref a_t_race_guns, .ref a_t_race_runners]))]) [5, 2, 3, 4, 6] [0, 1] 0 ⟨hx, hb, hml, hown, hts⟩ (mX9_append l D cB cI cZ a_t_race_way a_t_race_way_places a_t_race_way_bearings a_t_race_way_cuts a_t_race_way_deaths t_race_way_mats t_race_way_bearings t_race_way_cuts t_race_way_deaths t_race_way_places H.size x1 x2 r9 t_race_way_mats_r10 t_race_way_bearings_r11 t_race_way_cuts_r12 t_race_way_deaths_r13 t_race_way_places_r14 e15) (cwV 2 hts gX10_mat_X9_append rfl rfl rfl (by decide +kernel) ⟨Nat.le_of_ble_eq_true rfl, Nat.le_of_ble_eq_true rfl⟩) hK hN hZ hP hD hS hA rfl rfl rfl rfl rfl rfl rfl rfl hl.1 rfl (lv_room (Nat.le_of_ble_eq_true rfl)) dX10_mat_43 ⟨Nat.le_of_ble_eq_true rfl, Nat.le_of_ble_eq_true rfl⟩ (fun H locs hP hD hS => ?_)
      have hP : va_P D vwCl [(a_t, .inr (10, [.ref a_t_race, .ref a_t_kept, .ref a_t_trail, .ref a_t_doubts, .ref a_t_foretelling, .ref a_t_text, .ref a_t_listing, .int t_isKept])), (a_t_race, .inr (4, [.ref a_t_race_way, .ref a_t_race_guns, .ref a_t_race_runners])), (a_t_race_way, .inr (9, [.ref a_t_race_way_places, .ref a_t_race_way_bearings, .ref a_t_race_way_cuts, .ref a_t_race_way_deaths, .int t_race_way_mats_r10])), (a_t_race_way_bearings, .inl (cI, 12, .inl t_race_way_bearings_r11)), (a_t_race_way_cuts, .inl (cI, 12, .inl t_race_way_cuts_r12)), (a_t_race_way_deaths, .inl (cZ, 12, .inl t_race_way_deaths_r13)), (a_t_race_way_places, .inl (cI, 12, .inl t_race_way_places_r14))] H := hP
      have hD : va_D A [(a_t, .inr (10, [.ref a_t_race, .ref a_t_kept, .ref a_t_trail, .ref a_t_doubts, .ref a_t_foretelling, .ref a_t_text, .ref a_t_listing, .int t_isKept])), (a_t_race, .inr (4, [.ref a_t_race_way, .ref a_t_race_guns, .ref a_t_race_runners])), (a_t_race_way, .inr (9, [.ref a_t_race_way_places, .ref a_t_race_way_bearings, .ref a_t_race_way_cuts, .ref a_t_race_way_deaths, .int t_race_way_mats_r10])), (a_t_race_way_bearings, .inl (cI, 12, .inl t_race_way_bearings_r11)), (a_t_race_way_cuts, .inl (cI, 12, .inl t_race_way_cuts_r12)), (a_t_race_way_deaths, .inl (cZ, 12, .inl t_race_way_deaths_r13)), (a_t_race_way_places, .inl (cI, 12, .inl t_race_way_places_r14))] := hD
      obtain ⟨j0_, g_⟩ := Prod.mk.inj (Option.some.inj h)
      obtain ⟨j1_, g_⟩ := Prod.mk.inj g_
      obtain ⟨j2_, g_⟩ := Prod.mk.inj g_
      obtain ⟨j3_, g_⟩ := Prod.mk.inj g_
      obtain ⟨j4_, g_⟩ := Prod.mk.inj g_
      have j5_ := g_
      subst j0_
      subst j1_
      subst j2_
      subst j3_
      subst j4_
      subst j5_
      exact W.iret (v := r9) hx hb hr (fun t ht hW => ⟨⟨_, (), rfl, rfl, zPost.of hP hD hK ht hW [0, 1, 2, 3, 4, 5, 6] rfl rfl rfl⟩, hS.F ht⟩) hS.2.2 dX10_mat_46
    · have h := zz_t h c8
      refine lv_iconst (v := (-1 : Int32)) hx hb dX10_mat_32 rfl ?_
      obtain ⟨j0_, g_⟩ := Prod.mk.inj (Option.some.inj h)
      obtain ⟨j1_, g_⟩ := Prod.mk.inj g_
      obtain ⟨j2_, g_⟩ := Prod.mk.inj g_
      obtain ⟨j3_, g_⟩ := Prod.mk.inj g_
      obtain ⟨j4_, g_⟩ := Prod.mk.inj g_
      have j5_ := g_
      subst j0_
      subst j1_
      subst j2_
      subst j3_
      subst j4_
      subst j5_
      exact W.iret (v := (-1 : Int32)) hx hb hr (fun t ht hW => ⟨⟨_, (), rfl, rfl, zPost.of hP hD hK ht hW [0, 1, 5, 2, 3, 4, 6] rfl rfl rfl⟩, hS.F ht⟩) hS.2.2 dX10_mat_33
/-! RunDesk.runner -/
theorem dX10_runner_0 : decode cX10_runner 0 = .ok (.iload_n 1, 1) := by decide +kernel
theorem dX10_runner_1 : decode cX10_runner 1 = .ok (.iconst 0, 1) := by decide +kernel
theorem dX10_runner_2 : decode cX10_runner 2 = .ok (.iconst 3, 1) := by decide +kernel
theorem dX10_runner_3 : decode cX10_runner 3 = .ok (.invokestatic 68, 3) := by decide +kernel
theorem dX10_runner_6 : decode cX10_runner 6 = .ok (.ifCond .eq 25, 3) := by decide +kernel
theorem dX10_runner_9 : decode cX10_runner 9 = .ok (.iload_n 2, 1) := by decide +kernel
theorem dX10_runner_10 : decode cX10_runner 10 = .ok (.bipush 60, 2) := by decide +kernel
theorem dX10_runner_12 : decode cX10_runner 12 = .ok (.sipush 2000, 3) := by decide +kernel
theorem dX10_runner_15 : decode cX10_runner 15 = .ok (.invokestatic 68, 3) := by decide +kernel
theorem dX10_runner_18 : decode cX10_runner 18 = .ok (.ifCond .eq 13, 3) := by decide +kernel
theorem dX10_runner_21 : decode cX10_runner 21 = .ok (.iload_n 3, 1) := by decide +kernel
theorem dX10_runner_22 : decode cX10_runner 22 = .ok (.iconst 0, 1) := by decide +kernel
theorem dX10_runner_23 : decode cX10_runner 23 = .ok (.bipush 99, 2) := by decide +kernel
theorem dX10_runner_25 : decode cX10_runner 25 = .ok (.invokestatic 68, 3) := by decide +kernel
theorem dX10_runner_28 : decode cX10_runner 28 = .ok (.ifCond .ne 5, 3) := by decide +kernel
theorem dX10_runner_31 : decode cX10_runner 31 = .ok (.iconst (-1), 1) := by decide +kernel
theorem dX10_runner_32 : decode cX10_runner 32 = .ok (.ireturn, 1) := by decide +kernel
theorem dX10_runner_33 : decode cX10_runner 33 = .ok (.iload 4, 2) := by decide +kernel
theorem dX10_runner_35 : decode cX10_runner 35 = .ok (.iconst 0, 1) := by decide +kernel
theorem dX10_runner_36 : decode cX10_runner 36 = .ok (.iconst 1, 1) := by decide +kernel
theorem dX10_runner_37 : decode cX10_runner 37 = .ok (.invokestatic 68, 3) := by decide +kernel
theorem dX10_runner_40 : decode cX10_runner 40 = .ok (.ifCond .eq 24, 3) := by decide +kernel
theorem dX10_runner_43 : decode cX10_runner 43 = .ok (.iload 5, 2) := by decide +kernel
theorem dX10_runner_45 : decode cX10_runner 45 = .ok (.iconst 0, 1) := by decide +kernel
theorem dX10_runner_46 : decode cX10_runner 46 = .ok (.bipush 9, 2) := by decide +kernel
theorem dX10_runner_48 : decode cX10_runner 48 = .ok (.invokestatic 68, 3) := by decide +kernel
theorem dX10_runner_51 : decode cX10_runner 51 = .ok (.ifCond .eq 13, 3) := by decide +kernel
theorem dX10_runner_54 : decode cX10_runner 54 = .ok (.iload 6, 2) := by decide +kernel
theorem dX10_runner_56 : decode cX10_runner 56 = .ok (.iconst 0, 1) := by decide +kernel
theorem dX10_runner_57 : decode cX10_runner 57 = .ok (.iconst 5, 1) := by decide +kernel
theorem dX10_runner_58 : decode cX10_runner 58 = .ok (.invokestatic 68, 3) := by decide +kernel
theorem dX10_runner_61 : decode cX10_runner 61 = .ok (.ifCond .ne 5, 3) := by decide +kernel
theorem dX10_runner_64 : decode cX10_runner 64 = .ok (.iconst (-1), 1) := by decide +kernel
theorem dX10_runner_65 : decode cX10_runner 65 = .ok (.ireturn, 1) := by decide +kernel
theorem dX10_runner_66 : decode cX10_runner 66 = .ok (.aload_n 0, 1) := by decide +kernel
theorem dX10_runner_67 : decode cX10_runner 67 = .ok (.getfield 10, 3) := by decide +kernel
theorem dX10_runner_70 : decode cX10_runner 70 = .ok (.getfield 77, 3) := by decide +kernel
theorem dX10_runner_73 : decode cX10_runner 73 = .ok (.iload_n 1, 1) := by decide +kernel
theorem dX10_runner_74 : decode cX10_runner 74 = .ok (.iload_n 2, 1) := by decide +kernel
theorem dX10_runner_75 : decode cX10_runner 75 = .ok (.iload_n 3, 1) := by decide +kernel
theorem dX10_runner_76 : decode cX10_runner 76 = .ok (.iload 4, 2) := by decide +kernel
theorem dX10_runner_78 : decode cX10_runner 78 = .ok (.iload 5, 2) := by decide +kernel
theorem dX10_runner_80 : decode cX10_runner 80 = .ok (.iload 6, 2) := by decide +kernel
theorem dX10_runner_82 : decode cX10_runner 82 = .ok (.invokevirtual 81, 3) := by decide +kernel
theorem dX10_runner_85 : decode cX10_runner 85 = .ok (.ireturn, 1) := by decide +kernel
set_option maxRecDepth 20000 in
theorem ggX10_runner_X10_within : GoodIn wsX10_runner wsX10_within := goodIn_r _ [5] (by decide +kernel) (by decide +kernel)
set_option maxRecDepth 20000 in
theorem gX10_runner_X10_within : GoodIn wsX10_runner (va_wsS RX10 68 yX10_within wsX10_within) := goodIn_app (goodIn_of _ (by decide +kernel)) ggX10_runner_X10_within
set_option maxRecDepth 20000 in
theorem ggX10_runner_X6_enter : GoodIn wsX10_runner wsX6_enter := goodIn_r _ [10, 11, 12, 13, 14, 15, 16, 17, 29, 30, 31, 32, 33, 34, 35, 36, 37] (by decide +kernel) (by decide +kernel)
set_option maxRecDepth 20000 in
theorem gX10_runner_X6_enter : GoodIn wsX10_runner (wsV RX10 81 RX6 yX6_enter wsX6_enter) := goodIn_app (goodIn_of _ (by decide +kernel)) ggX10_runner_X6_enter
def fX10_runner (N : Nat) (t_race_runners_entered : Int32) (t_race_runners_dropped : Nat → Int32) (t_race_runners_facts : Nat → Int32) (t_race_runners_splits : Nat → Int32) (t_race_runners_struck : Nat → Int32) (t_race_runners_torn : Nat → Int32) (t_race_runners_waved : Nat → Int32) (x1 : Int32) (x2 : Int32) (x3 : Int32) (x4 : Int32) (x5 : Int32) (x6 : Int32) : Option (Int32 × Int32 × (Nat → Int32) × (Nat → Int32) × (Nat → Int32) × (Nat → Int32) × (Nat → Int32) × (Nat → Int32)) := ((fX10_within x1 (0 : Int32) (3 : Int32)).bind (fun b1 => (if (zb b1) = 0 then some ((-1 : Int32), t_race_runners_entered, t_race_runners_dropped, t_race_runners_facts, t_race_runners_splits, t_race_runners_struck, t_race_runners_torn, t_race_runners_waved) else ((fX10_within x2 (60 : Int32) (2000 : Int32)).bind (fun b4 => (if (zb b4) = 0 then some ((-1 : Int32), t_race_runners_entered, t_race_runners_dropped, t_race_runners_facts, t_race_runners_splits, t_race_runners_struck, t_race_runners_torn, t_race_runners_waved) else ((fX10_within x3 (0 : Int32) (99 : Int32)).bind (fun b7 => (if (zb b7) = 0 then some ((-1 : Int32), t_race_runners_entered, t_race_runners_dropped, t_race_runners_facts, t_race_runners_splits, t_race_runners_struck, t_race_runners_torn, t_race_runners_waved) else ((fX10_within x4 (0 : Int32) (1 : Int32)).bind (fun b10 => (if (zb b10) = 0 then some ((-1 : Int32), t_race_runners_entered, t_race_runners_dropped, t_race_runners_facts, t_race_runners_splits, t_race_runners_struck, t_race_runners_torn, t_race_runners_waved) else ((fX10_within x5 (0 : Int32) (9 : Int32)).bind (fun b13 => (if (zb b13) = 0 then some ((-1 : Int32), t_race_runners_entered, t_race_runners_dropped, t_race_runners_facts, t_race_runners_splits, t_race_runners_struck, t_race_runners_torn, t_race_runners_waved) else ((fX10_within x6 (0 : Int32) (5 : Int32)).bind (fun b16 => (if (zb b16) = 0 then some ((-1 : Int32), t_race_runners_entered, t_race_runners_dropped, t_race_runners_facts, t_race_runners_splits, t_race_runners_struck, t_race_runners_torn, t_race_runners_waved) else ((fX6_enter N t_race_runners_entered t_race_runners_dropped t_race_runners_facts t_race_runners_splits t_race_runners_struck t_race_runners_torn t_race_runners_waved x1 x2 x3 x4 x5 x6).bind (fun (r19, t_race_runners_entered_r20, t_race_runners_dropped_r21, t_race_runners_facts_r22, t_race_runners_splits_r23, t_race_runners_struck_r24, t_race_runners_torn_r25, t_race_runners_waved_r26) => some (r19, t_race_runners_entered_r20, t_race_runners_dropped_r21, t_race_runners_facts_r22, t_race_runners_splits_r23, t_race_runners_struck_r24, t_race_runners_torn_r25, t_race_runners_waved_r26)))))))))))))))))))))
theorem kX10_runner_0 : (.fieldLink RX10 10 "RunDesk" "race" "LRunDesk$Race;" : Cond) ∈ wsX10_runner := List.mem_of_getElem? (i := 1) (by decide +kernel)
theorem qX10_runner_X10 : ∀ w ∈ wsX100, w ∈ wsX10_runner := fun _ h => List.mem_cons_of_mem _ (List.mem_append_left _ (List.mem_append_left _ (List.mem_append_right _ (h))))
theorem qX10_runner_X4 : ∀ w ∈ wsX40, w ∈ wsX10_runner := fun _ h => List.mem_cons_of_mem _ (List.mem_append_left _ (List.mem_append_right _ (h)))
set_option maxHeartbeats 4000000 in
set_option maxRecDepth 100000 in
theorem mX10_runner (l : Launch) (D : va_G) (cB cI cZ : ClassId) (a_t : Nat) (a_t_race : Nat) (a_t_kept : Nat) (a_t_trail : Nat) (a_t_doubts : Nat) (a_t_foretelling : Nat) (a_t_text : Nat) (a_t_listing : Nat) (a_t_race_way : Nat) (a_t_race_guns : Nat) (a_t_race_runners : Nat) (a_t_race_runners_facts : Nat) (a_t_race_runners_splits : Nat) (a_t_race_runners_torn : Nat) (a_t_race_runners_dropped : Nat) (a_t_race_runners_waved : Nat) (a_t_race_runners_struck : Nat) (a_t_race_runners_strikingOrder : Nat) (t_isKept : Int32) (t_race_runners_entered : Int32) (t_race_runners_strikings : Int32) (t_race_runners_dropped : Nat → Int32) (t_race_runners_facts : Nat → Int32) (t_race_runners_splits : Nat → Int32) (t_race_runners_struck : Nat → Int32) (t_race_runners_torn : Nat → Int32) (t_race_runners_waved : Nat → Int32) (sz : Nat) (x1 : Int32) (x2 : Int32) (x3 : Int32) (x4 : Int32) (x5 : Int32) (x6 : Int32) (N : Nat) (r0 : Int32) (t_race_runners_entered' : Int32) (t_race_runners_dropped' : Nat → Int32) (t_race_runners_facts' : Nat → Int32) (t_race_runners_splits' : Nat → Int32) (t_race_runners_struck' : Nat → Int32) (t_race_runners_torn' : Nat → Int32) (t_race_runners_waved' : Nat → Int32) (h : fX10_runner N t_race_runners_entered t_race_runners_dropped t_race_runners_facts t_race_runners_splits t_race_runners_struck t_race_runners_torn t_race_runners_waved x1 x2 x3 x4 x5 x6 = some (r0, t_race_runners_entered', t_race_runners_dropped', t_race_runners_facts', t_race_runners_splits', t_race_runners_struck', t_race_runners_torn', t_race_runners_waved')) : Met l yX10_runner wsX10_runner ({ frames := 1, cells := 0, slots := 0, locals := 28 } : Room) (va_Pc [.ref a_t, .int x1, .int x2, .int x3, .int x4, .int x5, .int x6] (zPre D (zT cB cI cZ) [(a_t, .inr (10, [.ref a_t_race, .ref a_t_kept, .ref a_t_trail, .ref a_t_doubts, .ref a_t_foretelling, .ref a_t_text, .ref a_t_listing, .int t_isKept])), (a_t_race, .inr (4, [.ref a_t_race_way, .ref a_t_race_guns, .ref a_t_race_runners])), (a_t_race_runners, .inr (6, [.ref a_t_race_runners_facts, .ref a_t_race_runners_splits, .ref a_t_race_runners_torn, .ref a_t_race_runners_dropped, .ref a_t_race_runners_waved, .ref a_t_race_runners_struck, .ref a_t_race_runners_strikingOrder, .int t_race_runners_entered, .int t_race_runners_strikings])), (a_t_race_runners_dropped, .inl (cZ, 60, .inl t_race_runners_dropped)), (a_t_race_runners_facts, .inl (cI, 360, .inl t_race_runners_facts)), (a_t_race_runners_splits, .inl (cI, 720, .inl t_race_runners_splits)), (a_t_race_runners_struck, .inl (cZ, 60, .inl t_race_runners_struck)), (a_t_race_runners_torn, .inl (cI, 60, .inl t_race_runners_torn)), (a_t_race_runners_waved, .inl (cZ, 60, .inl t_race_runners_waved))] sz)) (zQi r0 D (zT cB cI cZ) [(a_t, .inr (10, [.ref a_t_race, .ref a_t_kept, .ref a_t_trail, .ref a_t_doubts, .ref a_t_foretelling, .ref a_t_text, .ref a_t_listing, .int t_isKept])), (a_t_race, .inr (4, [.ref a_t_race_way, .ref a_t_race_guns, .ref a_t_race_runners])), (a_t_race_runners, .inr (6, [.ref a_t_race_runners_facts, .ref a_t_race_runners_splits, .ref a_t_race_runners_torn, .ref a_t_race_runners_dropped, .ref a_t_race_runners_waved, .ref a_t_race_runners_struck, .ref a_t_race_runners_strikingOrder, .int t_race_runners_entered', .int t_race_runners_strikings])), (a_t_race_runners_dropped, .inl (cZ, 60, .inl t_race_runners_dropped')), (a_t_race_runners_facts, .inl (cI, 360, .inl t_race_runners_facts')), (a_t_race_runners_splits, .inl (cI, 720, .inl t_race_runners_splits')), (a_t_race_runners_struck, .inl (cZ, 60, .inl t_race_runners_struck')), (a_t_race_runners_torn, .inl (cI, 60, .inl t_race_runners_torn')), (a_t_race_runners_waved, .inl (cZ, 60, .inl t_race_runners_waved'))] (va_A [(a_t, .inr (10, [.ref a_t_race, .ref a_t_kept, .ref a_t_trail, .ref a_t_doubts, .ref a_t_foretelling, .ref a_t_text, .ref a_t_listing, .int t_isKept])), (a_t_race, .inr (4, [.ref a_t_race_way, .ref a_t_race_guns, .ref a_t_race_runners])), (a_t_race_runners, .inr (6, [.ref a_t_race_runners_facts, .ref a_t_race_runners_splits, .ref a_t_race_runners_torn, .ref a_t_race_runners_dropped, .ref a_t_race_runners_waved, .ref a_t_race_runners_struck, .ref a_t_race_runners_strikingOrder, .int t_race_runners_entered, .int t_race_runners_strikings])), (a_t_race_runners_dropped, .inl (cZ, 60, .inl t_race_runners_dropped)), (a_t_race_runners_facts, .inl (cI, 360, .inl t_race_runners_facts)), (a_t_race_runners_splits, .inl (cI, 720, .inl t_race_runners_splits)), (a_t_race_runners_struck, .inl (cZ, 60, .inl t_race_runners_struck)), (a_t_race_runners_torn, .inl (cI, 60, .inl t_race_runners_torn)), (a_t_race_runners_waved, .inl (cZ, 60, .inl t_race_runners_waved))] sz)) 0 0 (va_A [(a_t, .inr (10, [.ref a_t_race, .ref a_t_kept, .ref a_t_trail, .ref a_t_doubts, .ref a_t_foretelling, .ref a_t_text, .ref a_t_listing, .int t_isKept])), (a_t_race, .inr (4, [.ref a_t_race_way, .ref a_t_race_guns, .ref a_t_race_runners])), (a_t_race_runners, .inr (6, [.ref a_t_race_runners_facts, .ref a_t_race_runners_splits, .ref a_t_race_runners_torn, .ref a_t_race_runners_dropped, .ref a_t_race_runners_waved, .ref a_t_race_runners_struck, .ref a_t_race_runners_strikingOrder, .int t_race_runners_entered, .int t_race_runners_strikings])), (a_t_race_runners_dropped, .inl (cZ, 60, .inl t_race_runners_dropped)), (a_t_race_runners_facts, .inl (cI, 360, .inl t_race_runners_facts)), (a_t_race_runners_splits, .inl (cI, 720, .inl t_race_runners_splits)), (a_t_race_runners_struck, .inl (cZ, 60, .inl t_race_runners_struck)), (a_t_race_runners_torn, .inl (cI, 60, .inl t_race_runners_torn)), (a_t_race_runners_waved, .inl (cZ, 60, .inl t_race_runners_waved))] sz) := by
  refine Met.ofW (cc := cX10_runner) (maxL := 7) (ret := (some .int)) (by decide) rfl ?_
  intro p e s m args below meth c s₁ B hml hv
  obtain ⟨rfl, hsz, hP, hK, hN, hZ, hD0⟩ := hv
  have hx := B.exec
  have hb := B.bytes
  have hr := B.returns
  have hts := atoms_spec (ws := wsX10_runner) B.pre
  have hown : s.vm.findClass RX10 = some m.cls := findClass_of_methodNamed B.named
  have hlocks := B.notSynchronized
  subst hsz
  have hD := hD0.self (sz := s.heap.size)
  generalize hAe : va_A [(a_t, .inr (10, [.ref a_t_race, .ref a_t_kept, .ref a_t_trail, .ref a_t_doubts, .ref a_t_foretelling, .ref a_t_text, .ref a_t_listing, .int t_isKept])), (a_t_race, .inr (4, [.ref a_t_race_way, .ref a_t_race_guns, .ref a_t_race_runners])), (a_t_race_runners, .inr (6, [.ref a_t_race_runners_facts, .ref a_t_race_runners_splits, .ref a_t_race_runners_torn, .ref a_t_race_runners_dropped, .ref a_t_race_runners_waved, .ref a_t_race_runners_struck, .ref a_t_race_runners_strikingOrder, .int t_race_runners_entered, .int t_race_runners_strikings])), (a_t_race_runners_dropped, .inl (cZ, 60, .inl t_race_runners_dropped)), (a_t_race_runners_facts, .inl (cI, 360, .inl t_race_runners_facts)), (a_t_race_runners_splits, .inl (cI, 720, .inl t_race_runners_splits)), (a_t_race_runners_struck, .inl (cZ, 60, .inl t_race_runners_struck)), (a_t_race_runners_torn, .inl (cI, 60, .inl t_race_runners_torn)), (a_t_race_runners_waved, .inl (cZ, 60, .inl t_race_runners_waved))] s.heap.size = A at hD hZ ⊢
  have hA : ∀ q : Nat, s.heap.size ≤ q → A q := fun q h => by rw [← hAe]; exact Or.inr h
  have hS : va_S A s.heap s.heap [] := va_S.rf
  have hl := lv_entry ([.ref a_t, .int x1, .int x2, .int x3, .int x4, .int x5, .int x6]) (n := 7) (Nat.le_of_ble_eq_true rfl)
  rw [lg_entry_eq]
  generalize (lg_sl ([.ref a_t, .int x1, .int x2, .int x3, .int x4, .int x5, .int x6]) ++ List.replicate (7 - (lg_sl ([.ref a_t, .int x1, .int x2, .int x3, .int x4, .int x5, .int x6])).length) Slot.unset).toArray = ls at hl ⊢
  have hl : lv_has ls 7 [(0, .ref a_t), (1, .int x1), (2, .int x2), (3, .int x3), (4, .int x4), (5, .int x5), (6, .int x6)] := hl
  unfold fX10_runner at h
  refine lv_iload_n hx hb dX10_runner_0 rfl (lv_at hl 1 rfl) ?_
  refine lv_iconst (v := (0 : Int32)) hx hb dX10_runner_1 rfl ?_
  refine lv_iconst (v := (3 : Int32)) hx hb dX10_runner_2 rfl ?_
  obtain ⟨b1, e2, h⟩ := zz_b h
  refine zSi (As := [.int x1, .int (0 : Int32), .int (3 : Int32)]) (rest := []) (wr := [(a_t, .inr (10, [.ref a_t_race, .ref a_t_kept, .ref a_t_trail, .ref a_t_doubts, .ref a_t_foretelling, .ref a_t_text, .ref a_t_listing, .int t_isKept])), (a_t_race, .inr (4, [.ref a_t_race_way, .ref a_t_race_guns, .ref a_t_race_runners])), (a_t_race_runners, .inr (6, [.ref a_t_race_runners_facts, .ref a_t_race_runners_splits, .ref a_t_race_runners_torn, .ref a_t_race_runners_dropped, .ref a_t_race_runners_waved, .ref a_t_race_runners_struck, .ref a_t_race_runners_strikingOrder, .int t_race_runners_entered, .int t_race_runners_strikings])), (a_t_race_runners_dropped, .inl (cZ, 60, .inl t_race_runners_dropped)), (a_t_race_runners_facts, .inl (cI, 360, .inl t_race_runners_facts)), (a_t_race_runners_splits, .inl (cI, 720, .inl t_race_runners_splits)), (a_t_race_runners_struck, .inl (cZ, 60, .inl t_race_runners_struck)), (a_t_race_runners_torn, .inl (cI, 60, .inl t_race_runners_torn)), (a_t_race_runners_waved, .inl (cZ, 60, .inl t_race_runners_waved))]) [] [0, 1, 2, 3, 4, 5, 6, 7, 8] ⟨hx, hb, hml, hown, hts⟩ (mX10_within l D cB cI cZ s.heap.size x1 (0 : Int32) (3 : Int32) b1 e2) (va_cwS 3 hts gX10_runner_X10_within rfl rfl rfl (by decide +kernel) ⟨Nat.le_of_ble_eq_true rfl, Nat.le_of_ble_eq_true rfl⟩) hK hN hZ hP hD hS hA rfl rfl rfl rfl rfl rfl hl.1 rfl (lv_room (Nat.le_of_ble_eq_true rfl)) dX10_runner_3 ⟨Nat.le_of_ble_eq_true rfl, Nat.le_of_ble_eq_true rfl⟩ (fun H locs hP hD hS => ?_)
  have hP : va_P D vwCl [(a_t, .inr (10, [.ref a_t_race, .ref a_t_kept, .ref a_t_trail, .ref a_t_doubts, .ref a_t_foretelling, .ref a_t_text, .ref a_t_listing, .int t_isKept])), (a_t_race, .inr (4, [.ref a_t_race_way, .ref a_t_race_guns, .ref a_t_race_runners])), (a_t_race_runners, .inr (6, [.ref a_t_race_runners_facts, .ref a_t_race_runners_splits, .ref a_t_race_runners_torn, .ref a_t_race_runners_dropped, .ref a_t_race_runners_waved, .ref a_t_race_runners_struck, .ref a_t_race_runners_strikingOrder, .int t_race_runners_entered, .int t_race_runners_strikings])), (a_t_race_runners_dropped, .inl (cZ, 60, .inl t_race_runners_dropped)), (a_t_race_runners_facts, .inl (cI, 360, .inl t_race_runners_facts)), (a_t_race_runners_splits, .inl (cI, 720, .inl t_race_runners_splits)), (a_t_race_runners_struck, .inl (cZ, 60, .inl t_race_runners_struck)), (a_t_race_runners_torn, .inl (cI, 60, .inl t_race_runners_torn)), (a_t_race_runners_waved, .inl (cZ, 60, .inl t_race_runners_waved))] H := hP
  have hD : va_D A [(a_t, .inr (10, [.ref a_t_race, .ref a_t_kept, .ref a_t_trail, .ref a_t_doubts, .ref a_t_foretelling, .ref a_t_text, .ref a_t_listing, .int t_isKept])), (a_t_race, .inr (4, [.ref a_t_race_way, .ref a_t_race_guns, .ref a_t_race_runners])), (a_t_race_runners, .inr (6, [.ref a_t_race_runners_facts, .ref a_t_race_runners_splits, .ref a_t_race_runners_torn, .ref a_t_race_runners_dropped, .ref a_t_race_runners_waved, .ref a_t_race_runners_struck, .ref a_t_race_runners_strikingOrder, .int t_race_runners_entered, .int t_race_runners_strikings])), (a_t_race_runners_dropped, .inl (cZ, 60, .inl t_race_runners_dropped)), (a_t_race_runners_facts, .inl (cI, 360, .inl t_race_runners_facts)), (a_t_race_runners_splits, .inl (cI, 720, .inl t_race_runners_splits)), (a_t_race_runners_struck, .inl (cZ, 60, .inl t_race_runners_struck)), (a_t_race_runners_torn, .inl (cI, 60, .inl t_race_runners_torn)), (a_t_race_runners_waved, .inl (cZ, 60, .inl t_race_runners_waved))] := hD
  refine lv_if_eq (tgt := 31) hx hb dX10_runner_6 (by decide) (fun c3 => ?_) (fun c3 => ?_)
  · have h := zz_t h c3
    refine lv_iconst (v := (-1 : Int32)) hx hb dX10_runner_31 rfl ?_
    obtain ⟨j0_, g_⟩ := Prod.mk.inj (Option.some.inj h)
    obtain ⟨j1_, g_⟩ := Prod.mk.inj g_
    obtain ⟨j2_, g_⟩ := Prod.mk.inj g_
    obtain ⟨j3_, g_⟩ := Prod.mk.inj g_
    obtain ⟨j4_, g_⟩ := Prod.mk.inj g_
    obtain ⟨j5_, g_⟩ := Prod.mk.inj g_
    obtain ⟨j6_, g_⟩ := Prod.mk.inj g_
    have j7_ := g_
    subst j0_
    subst j1_
    subst j2_
    subst j3_
    subst j4_
    subst j5_
    subst j6_
    subst j7_
    exact W.iret (v := (-1 : Int32)) hx hb hr (fun t ht hW => ⟨⟨_, (), rfl, rfl, zPost.of hP hD hK ht hW [0, 1, 2, 3, 4, 5, 6, 7, 8] rfl rfl rfl⟩, hS.F ht⟩) hS.2.2 dX10_runner_32
  · have h := zz_f h c3
    refine lv_iload_n hx hb dX10_runner_9 rfl (lv_at hl 2 rfl) ?_
    refine lv_bipush (v := (60 : Int32)) hx hb dX10_runner_10 rfl ?_
    refine lv_sipush (v := (2000 : Int32)) hx hb dX10_runner_12 rfl ?_
    obtain ⟨b4, e5, h⟩ := zz_b h
    refine zSi (As := [.int x2, .int (60 : Int32), .int (2000 : Int32)]) (rest := []) (wr := [(a_t, .inr (10, [.ref a_t_race, .ref a_t_kept, .ref a_t_trail, .ref a_t_doubts, .ref a_t_foretelling, .ref a_t_text, .ref a_t_listing, .int t_isKept])), (a_t_race, .inr (4, [.ref a_t_race_way, .ref a_t_race_guns, .ref a_t_race_runners])), (a_t_race_runners, .inr (6, [.ref a_t_race_runners_facts, .ref a_t_race_runners_splits, .ref a_t_race_runners_torn, .ref a_t_race_runners_dropped, .ref a_t_race_runners_waved, .ref a_t_race_runners_struck, .ref a_t_race_runners_strikingOrder, .int t_race_runners_entered, .int t_race_runners_strikings])), (a_t_race_runners_dropped, .inl (cZ, 60, .inl t_race_runners_dropped)), (a_t_race_runners_facts, .inl (cI, 360, .inl t_race_runners_facts)), (a_t_race_runners_splits, .inl (cI, 720, .inl t_race_runners_splits)), (a_t_race_runners_struck, .inl (cZ, 60, .inl t_race_runners_struck)), (a_t_race_runners_torn, .inl (cI, 60, .inl t_race_runners_torn)), (a_t_race_runners_waved, .inl (cZ, 60, .inl t_race_runners_waved))]) [] [0, 1, 2, 3, 4, 5, 6, 7, 8] ⟨hx, hb, hml, hown, hts⟩ (mX10_within l D cB cI cZ H.size x2 (60 : Int32) (2000 : Int32) b4 e5) (va_cwS 3 hts gX10_runner_X10_within rfl rfl rfl (by decide +kernel) ⟨Nat.le_of_ble_eq_true rfl, Nat.le_of_ble_eq_true rfl⟩) hK hN hZ hP hD hS hA rfl rfl rfl rfl rfl rfl hl.1 rfl (lv_room (Nat.le_of_ble_eq_true rfl)) dX10_runner_15 ⟨Nat.le_of_ble_eq_true rfl, Nat.le_of_ble_eq_true rfl⟩ (fun H locs hP hD hS => ?_)
    have hP : va_P D vwCl [(a_t, .inr (10, [.ref a_t_race, .ref a_t_kept, .ref a_t_trail, .ref a_t_doubts, .ref a_t_foretelling, .ref a_t_text, .ref a_t_listing, .int t_isKept])), (a_t_race, .inr (4, [.ref a_t_race_way, .ref a_t_race_guns, .ref a_t_race_runners])), (a_t_race_runners, .inr (6, [.ref a_t_race_runners_facts, .ref a_t_race_runners_splits, .ref a_t_race_runners_torn, .ref a_t_race_runners_dropped, .ref a_t_race_runners_waved, .ref a_t_race_runners_struck, .ref a_t_race_runners_strikingOrder, .int t_race_runners_entered, .int t_race_runners_strikings])), (a_t_race_runners_dropped, .inl (cZ, 60, .inl t_race_runners_dropped)), (a_t_race_runners_facts, .inl (cI, 360, .inl t_race_runners_facts)), (a_t_race_runners_splits, .inl (cI, 720, .inl t_race_runners_splits)), (a_t_race_runners_struck, .inl (cZ, 60, .inl t_race_runners_struck)), (a_t_race_runners_torn, .inl (cI, 60, .inl t_race_runners_torn)), (a_t_race_runners_waved, .inl (cZ, 60, .inl t_race_runners_waved))] H := hP
    have hD : va_D A [(a_t, .inr (10, [.ref a_t_race, .ref a_t_kept, .ref a_t_trail, .ref a_t_doubts, .ref a_t_foretelling, .ref a_t_text, .ref a_t_listing, .int t_isKept])), (a_t_race, .inr (4, [.ref a_t_race_way, .ref a_t_race_guns, .ref a_t_race_runners])), (a_t_race_runners, .inr (6, [.ref a_t_race_runners_facts, .ref a_t_race_runners_splits, .ref a_t_race_runners_torn, .ref a_t_race_runners_dropped, .ref a_t_race_runners_waved, .ref a_t_race_runners_struck, .ref a_t_race_runners_strikingOrder, .int t_race_runners_entered, .int t_race_runners_strikings])), (a_t_race_runners_dropped, .inl (cZ, 60, .inl t_race_runners_dropped)), (a_t_race_runners_facts, .inl (cI, 360, .inl t_race_runners_facts)), (a_t_race_runners_splits, .inl (cI, 720, .inl t_race_runners_splits)), (a_t_race_runners_struck, .inl (cZ, 60, .inl t_race_runners_struck)), (a_t_race_runners_torn, .inl (cI, 60, .inl t_race_runners_torn)), (a_t_race_runners_waved, .inl (cZ, 60, .inl t_race_runners_waved))] := hD
    refine lv_if_eq (tgt := 31) hx hb dX10_runner_18 (by decide) (fun c6 => ?_) (fun c6 => ?_)
    · have h := zz_t h c6
      refine lv_iconst (v := (-1 : Int32)) hx hb dX10_runner_31 rfl ?_
      obtain ⟨j0_, g_⟩ := Prod.mk.inj (Option.some.inj h)
      obtain ⟨j1_, g_⟩ := Prod.mk.inj g_
      obtain ⟨j2_, g_⟩ := Prod.mk.inj g_
      obtain ⟨j3_, g_⟩ := Prod.mk.inj g_
      obtain ⟨j4_, g_⟩ := Prod.mk.inj g_
      obtain ⟨j5_, g_⟩ := Prod.mk.inj g_
      obtain ⟨j6_, g_⟩ := Prod.mk.inj g_
      have j7_ := g_
      subst j0_
      subst j1_
      subst j2_
      subst j3_
      subst j4_
      subst j5_
      subst j6_
      subst j7_
      exact W.iret (v := (-1 : Int32)) hx hb hr (fun t ht hW => ⟨⟨_, (), rfl, rfl, zPost.of hP hD hK ht hW [0, 1, 2, 3, 4, 5, 6, 7, 8] rfl rfl rfl⟩, hS.F ht⟩) hS.2.2 dX10_runner_32
    · have h := zz_f h c6
      refine lv_iload_n hx hb dX10_runner_21 rfl (lv_at hl 3 rfl) ?_
      refine lv_iconst (v := (0 : Int32)) hx hb dX10_runner_22 rfl ?_
      refine lv_bipush (v := (99 : Int32)) hx hb dX10_runner_23 rfl ?_
      obtain ⟨b7, e8, h⟩ := zz_b h
      refine zSi (As := [.int x3, .int (0 : Int32), .int (99 : Int32)]) (rest := []) (wr := [(a_t, .inr (10, [.ref a_t_race, .ref a_t_kept, .ref a_t_trail, .ref a_t_doubts, .ref a_t_foretelling, .ref a_t_text, .ref a_t_listing, .int t_isKept])), (a_t_race, .inr (4, [.ref a_t_race_way, .ref a_t_race_guns, .ref a_t_race_runners])), (a_t_race_runners, .inr (6, [.ref a_t_race_runners_facts, .ref a_t_race_runners_splits, .ref a_t_race_runners_torn, .ref a_t_race_runners_dropped, .ref a_t_race_runners_waved, .ref a_t_race_runners_struck, .ref a_t_race_runners_strikingOrder, .int t_race_runners_entered, .int t_race_runners_strikings])), (a_t_race_runners_dropped, .inl (cZ, 60, .inl t_race_runners_dropped)), (a_t_race_runners_facts, .inl (cI, 360, .inl t_race_runners_facts)), (a_t_race_runners_splits, .inl (cI, 720, .inl t_race_runners_splits)), (a_t_race_runners_struck, .inl (cZ, 60, .inl t_race_runners_struck)), (a_t_race_runners_torn, .inl (cI, 60, .inl t_race_runners_torn)), (a_t_race_runners_waved, .inl (cZ, 60, .inl t_race_runners_waved))]) [] [0, 1, 2, 3, 4, 5, 6, 7, 8] ⟨hx, hb, hml, hown, hts⟩ (mX10_within l D cB cI cZ H.size x3 (0 : Int32) (99 : Int32) b7 e8) (va_cwS 3 hts gX10_runner_X10_within rfl rfl rfl (by decide +kernel) ⟨Nat.le_of_ble_eq_true rfl, Nat.le_of_ble_eq_true rfl⟩) hK hN hZ hP hD hS hA rfl rfl rfl rfl rfl rfl hl.1 rfl (lv_room (Nat.le_of_ble_eq_true rfl)) dX10_runner_25 ⟨Nat.le_of_ble_eq_true rfl, Nat.le_of_ble_eq_true rfl⟩ (fun H locs hP hD hS => ?_)
      have hP : va_P D vwCl [(a_t, .inr (10, [.ref a_t_race, .ref a_t_kept, .ref a_t_trail, .ref a_t_doubts, .ref a_t_foretelling, .ref a_t_text, .ref a_t_listing, .int t_isKept])), (a_t_race, .inr (4, [.ref a_t_race_way, .ref a_t_race_guns, .ref a_t_race_runners])), (a_t_race_runners, .inr (6, [.ref a_t_race_runners_facts, .ref a_t_race_runners_splits, .ref a_t_race_runners_torn, .ref a_t_race_runners_dropped, .ref a_t_race_runners_waved, .ref a_t_race_runners_struck, .ref a_t_race_runners_strikingOrder, .int t_race_runners_entered, .int t_race_runners_strikings])), (a_t_race_runners_dropped, .inl (cZ, 60, .inl t_race_runners_dropped)), (a_t_race_runners_facts, .inl (cI, 360, .inl t_race_runners_facts)), (a_t_race_runners_splits, .inl (cI, 720, .inl t_race_runners_splits)), (a_t_race_runners_struck, .inl (cZ, 60, .inl t_race_runners_struck)), (a_t_race_runners_torn, .inl (cI, 60, .inl t_race_runners_torn)), (a_t_race_runners_waved, .inl (cZ, 60, .inl t_race_runners_waved))] H := hP
      have hD : va_D A [(a_t, .inr (10, [.ref a_t_race, .ref a_t_kept, .ref a_t_trail, .ref a_t_doubts, .ref a_t_foretelling, .ref a_t_text, .ref a_t_listing, .int t_isKept])), (a_t_race, .inr (4, [.ref a_t_race_way, .ref a_t_race_guns, .ref a_t_race_runners])), (a_t_race_runners, .inr (6, [.ref a_t_race_runners_facts, .ref a_t_race_runners_splits, .ref a_t_race_runners_torn, .ref a_t_race_runners_dropped, .ref a_t_race_runners_waved, .ref a_t_race_runners_struck, .ref a_t_race_runners_strikingOrder, .int t_race_runners_entered, .int t_race_runners_strikings])), (a_t_race_runners_dropped, .inl (cZ, 60, .inl t_race_runners_dropped)), (a_t_race_runners_facts, .inl (cI, 360, .inl t_race_runners_facts)), (a_t_race_runners_splits, .inl (cI, 720, .inl t_race_runners_splits)), (a_t_race_runners_struck, .inl (cZ, 60, .inl t_race_runners_struck)), (a_t_race_runners_torn, .inl (cI, 60, .inl t_race_runners_torn)), (a_t_race_runners_waved, .inl (cZ, 60, .inl t_race_runners_waved))] := hD
      refine lv_if_ne (tgt := 33) hx hb dX10_runner_28 (by decide) (fun c9 => ?_) (fun c9 => ?_)
      · have h := zz_f h c9
        refine lv_iload hx hb dX10_runner_33 (lv_at hl 4 rfl) ?_
        refine lv_iconst (v := (0 : Int32)) hx hb dX10_runner_35 rfl ?_
        refine lv_iconst (v := (1 : Int32)) hx hb dX10_runner_36 rfl ?_
        obtain ⟨b10, e11, h⟩ := zz_b h
        refine zSi (As := [.int x4, .int (0 : Int32), .int (1 : Int32)]) (rest := []) (wr := [(a_t, .inr (10, [.ref a_t_race, .ref a_t_kept, .ref a_t_trail, .ref a_t_doubts, .ref a_t_foretelling, .ref a_t_text, .ref a_t_listing, .int t_isKept])), (a_t_race, .inr (4, [.ref a_t_race_way, .ref a_t_race_guns, .ref a_t_race_runners])), (a_t_race_runners, .inr (6, [.ref a_t_race_runners_facts, .ref a_t_race_runners_splits, .ref a_t_race_runners_torn, .ref a_t_race_runners_dropped, .ref a_t_race_runners_waved, .ref a_t_race_runners_struck, .ref a_t_race_runners_strikingOrder, .int t_race_runners_entered, .int t_race_runners_strikings])), (a_t_race_runners_dropped, .inl (cZ, 60, .inl t_race_runners_dropped)), (a_t_race_runners_facts, .inl (cI, 360, .inl t_race_runners_facts)), (a_t_race_runners_splits, .inl (cI, 720, .inl t_race_runners_splits)), (a_t_race_runners_struck, .inl (cZ, 60, .inl t_race_runners_struck)), (a_t_race_runners_torn, .inl (cI, 60, .inl t_race_runners_torn)), (a_t_race_runners_waved, .inl (cZ, 60, .inl t_race_runners_waved))]) [] [0, 1, 2, 3, 4, 5, 6, 7, 8] ⟨hx, hb, hml, hown, hts⟩ (mX10_within l D cB cI cZ H.size x4 (0 : Int32) (1 : Int32) b10 e11) (va_cwS 3 hts gX10_runner_X10_within rfl rfl rfl (by decide +kernel) ⟨Nat.le_of_ble_eq_true rfl, Nat.le_of_ble_eq_true rfl⟩) hK hN hZ hP hD hS hA rfl rfl rfl rfl rfl rfl hl.1 rfl (lv_room (Nat.le_of_ble_eq_true rfl)) dX10_runner_37 ⟨Nat.le_of_ble_eq_true rfl, Nat.le_of_ble_eq_true rfl⟩ (fun H locs hP hD hS => ?_)
        have hP : va_P D vwCl [(a_t, .inr (10, [.ref a_t_race, .ref a_t_kept, .ref a_t_trail, .ref a_t_doubts, .ref a_t_foretelling, .ref a_t_text, .ref a_t_listing, .int t_isKept])), (a_t_race, .inr (4, [.ref a_t_race_way, .ref a_t_race_guns, .ref a_t_race_runners])), (a_t_race_runners, .inr (6, [.ref a_t_race_runners_facts, .ref a_t_race_runners_splits, .ref a_t_race_runners_torn, .ref a_t_race_runners_dropped, .ref a_t_race_runners_waved, .ref a_t_race_runners_struck, .ref a_t_race_runners_strikingOrder, .int t_race_runners_entered, .int t_race_runners_strikings])), (a_t_race_runners_dropped, .inl (cZ, 60, .inl t_race_runners_dropped)), (a_t_race_runners_facts, .inl (cI, 360, .inl t_race_runners_facts)), (a_t_race_runners_splits, .inl (cI, 720, .inl t_race_runners_splits)), (a_t_race_runners_struck, .inl (cZ, 60, .inl t_race_runners_struck)), (a_t_race_runners_torn, .inl (cI, 60, .inl t_race_runners_torn)), (a_t_race_runners_waved, .inl (cZ, 60, .inl t_race_runners_waved))] H := hP
        have hD : va_D A [(a_t, .inr (10, [.ref a_t_race, .ref a_t_kept, .ref a_t_trail, .ref a_t_doubts, .ref a_t_foretelling, .ref a_t_text, .ref a_t_listing, .int t_isKept])), (a_t_race, .inr (4, [.ref a_t_race_way, .ref a_t_race_guns, .ref a_t_race_runners])), (a_t_race_runners, .inr (6, [.ref a_t_race_runners_facts, .ref a_t_race_runners_splits, .ref a_t_race_runners_torn, .ref a_t_race_runners_dropped, .ref a_t_race_runners_waved, .ref a_t_race_runners_struck, .ref a_t_race_runners_strikingOrder, .int t_race_runners_entered, .int t_race_runners_strikings])), (a_t_race_runners_dropped, .inl (cZ, 60, .inl t_race_runners_dropped)), (a_t_race_runners_facts, .inl (cI, 360, .inl t_race_runners_facts)), (a_t_race_runners_splits, .inl (cI, 720, .inl t_race_runners_splits)), (a_t_race_runners_struck, .inl (cZ, 60, .inl t_race_runners_struck)), (a_t_race_runners_torn, .inl (cI, 60, .inl t_race_runners_torn)), (a_t_race_runners_waved, .inl (cZ, 60, .inl t_race_runners_waved))] := hD
        refine lv_if_eq (tgt := 64) hx hb dX10_runner_40 (by decide) (fun c12 => ?_) (fun c12 => ?_)
        · have h := zz_t h c12
          refine lv_iconst (v := (-1 : Int32)) hx hb dX10_runner_64 rfl ?_
          obtain ⟨j0_, g_⟩ := Prod.mk.inj (Option.some.inj h)
          obtain ⟨j1_, g_⟩ := Prod.mk.inj g_
          obtain ⟨j2_, g_⟩ := Prod.mk.inj g_
          obtain ⟨j3_, g_⟩ := Prod.mk.inj g_
          obtain ⟨j4_, g_⟩ := Prod.mk.inj g_
          obtain ⟨j5_, g_⟩ := Prod.mk.inj g_
          obtain ⟨j6_, g_⟩ := Prod.mk.inj g_
          have j7_ := g_
          subst j0_
          subst j1_
          subst j2_
          subst j3_
          subst j4_
          subst j5_
          subst j6_
          subst j7_
          exact W.iret (v := (-1 : Int32)) hx hb hr (fun t ht hW => ⟨⟨_, (), rfl, rfl, zPost.of hP hD hK ht hW [0, 1, 2, 3, 4, 5, 6, 7, 8] rfl rfl rfl⟩, hS.F ht⟩) hS.2.2 dX10_runner_65
        · have h := zz_f h c12
          refine lv_iload hx hb dX10_runner_43 (lv_at hl 5 rfl) ?_
          refine lv_iconst (v := (0 : Int32)) hx hb dX10_runner_45 rfl ?_
          refine lv_bipush (v := (9 : Int32)) hx hb dX10_runner_46 rfl ?_
          obtain ⟨b13, e14, h⟩ := zz_b h
          refine zSi (As := [.int x5, .int (0 : Int32), .int (9 : Int32)]) (rest := []) (wr := [(a_t, .inr (10, [.ref a_t_race, .ref a_t_kept, .ref a_t_trail, .ref a_t_doubts, .ref a_t_foretelling, .ref a_t_text, .ref a_t_listing, .int t_isKept])), (a_t_race, .inr (4, [.ref a_t_race_way, .ref a_t_race_guns, .ref a_t_race_runners])), (a_t_race_runners, .inr (6, [.ref a_t_race_runners_facts, .ref a_t_race_runners_splits, .ref a_t_race_runners_torn, .ref a_t_race_runners_dropped, .ref a_t_race_runners_waved, .ref a_t_race_runners_struck, .ref a_t_race_runners_strikingOrder, .int t_race_runners_entered, .int t_race_runners_strikings])), (a_t_race_runners_dropped, .inl (cZ, 60, .inl t_race_runners_dropped)), (a_t_race_runners_facts, .inl (cI, 360, .inl t_race_runners_facts)), (a_t_race_runners_splits, .inl (cI, 720, .inl t_race_runners_splits)), (a_t_race_runners_struck, .inl (cZ, 60, .inl t_race_runners_struck)), (a_t_race_runners_torn, .inl (cI, 60, .inl t_race_runners_torn)), (a_t_race_runners_waved, .inl (cZ, 60, .inl t_race_runners_waved))]) [] [0, 1, 2, 3, 4, 5, 6, 7, 8] ⟨hx, hb, hml, hown, hts⟩ (mX10_within l D cB cI cZ H.size x5 (0 : Int32) (9 : Int32) b13 e14) (va_cwS 3 hts gX10_runner_X10_within rfl rfl rfl (by decide +kernel) ⟨Nat.le_of_ble_eq_true rfl, Nat.le_of_ble_eq_true rfl⟩) hK hN hZ hP hD hS hA rfl rfl rfl rfl rfl rfl hl.1 rfl (lv_room (Nat.le_of_ble_eq_true rfl)) dX10_runner_48 ⟨Nat.le_of_ble_eq_true rfl, Nat.le_of_ble_eq_true rfl⟩ (fun H locs hP hD hS => ?_)
          have hP : va_P D vwCl [(a_t, .inr (10, [.ref a_t_race, .ref a_t_kept, .ref a_t_trail, .ref a_t_doubts, .ref a_t_foretelling, .ref a_t_text, .ref a_t_listing, .int t_isKept])), (a_t_race, .inr (4, [.ref a_t_race_way, .ref a_t_race_guns, .ref a_t_race_runners])), (a_t_race_runners, .inr (6, [.ref a_t_race_runners_facts, .ref a_t_race_runners_splits, .ref a_t_race_runners_torn, .ref a_t_race_runners_dropped, .ref a_t_race_runners_waved, .ref a_t_race_runners_struck, .ref a_t_race_runners_strikingOrder, .int t_race_runners_entered, .int t_race_runners_strikings])), (a_t_race_runners_dropped, .inl (cZ, 60, .inl t_race_runners_dropped)), (a_t_race_runners_facts, .inl (cI, 360, .inl t_race_runners_facts)), (a_t_race_runners_splits, .inl (cI, 720, .inl t_race_runners_splits)), (a_t_race_runners_struck, .inl (cZ, 60, .inl t_race_runners_struck)), (a_t_race_runners_torn, .inl (cI, 60, .inl t_race_runners_torn)), (a_t_race_runners_waved, .inl (cZ, 60, .inl t_race_runners_waved))] H := hP
          have hD : va_D A [(a_t, .inr (10, [.ref a_t_race, .ref a_t_kept, .ref a_t_trail, .ref a_t_doubts, .ref a_t_foretelling, .ref a_t_text, .ref a_t_listing, .int t_isKept])), (a_t_race, .inr (4, [.ref a_t_race_way, .ref a_t_race_guns, .ref a_t_race_runners])), (a_t_race_runners, .inr (6, [.ref a_t_race_runners_facts, .ref a_t_race_runners_splits, .ref a_t_race_runners_torn, .ref a_t_race_runners_dropped, .ref a_t_race_runners_waved, .ref a_t_race_runners_struck, .ref a_t_race_runners_strikingOrder, .int t_race_runners_entered, .int t_race_runners_strikings])), (a_t_race_runners_dropped, .inl (cZ, 60, .inl t_race_runners_dropped)), (a_t_race_runners_facts, .inl (cI, 360, .inl t_race_runners_facts)), (a_t_race_runners_splits, .inl (cI, 720, .inl t_race_runners_splits)), (a_t_race_runners_struck, .inl (cZ, 60, .inl t_race_runners_struck)), (a_t_race_runners_torn, .inl (cI, 60, .inl t_race_runners_torn)), (a_t_race_runners_waved, .inl (cZ, 60, .inl t_race_runners_waved))] := hD
          refine lv_if_eq (tgt := 64) hx hb dX10_runner_51 (by decide) (fun c15 => ?_) (fun c15 => ?_)
          · have h := zz_t h c15
            refine lv_iconst (v := (-1 : Int32)) hx hb dX10_runner_64 rfl ?_
            obtain ⟨j0_, g_⟩ := Prod.mk.inj (Option.some.inj h)
            obtain ⟨j1_, g_⟩ := Prod.mk.inj g_
            obtain ⟨j2_, g_⟩ := Prod.mk.inj g_
            obtain ⟨j3_, g_⟩ := Prod.mk.inj g_
            obtain ⟨j4_, g_⟩ := Prod.mk.inj g_
            obtain ⟨j5_, g_⟩ := Prod.mk.inj g_
            obtain ⟨j6_, g_⟩ := Prod.mk.inj g_
            have j7_ := g_
            subst j0_
            subst j1_
            subst j2_
            subst j3_
            subst j4_
            subst j5_
            subst j6_
            subst j7_
            exact W.iret (v := (-1 : Int32)) hx hb hr (fun t ht hW => ⟨⟨_, (), rfl, rfl, zPost.of hP hD hK ht hW [0, 1, 2, 3, 4, 5, 6, 7, 8] rfl rfl rfl⟩, hS.F ht⟩) hS.2.2 dX10_runner_65
          · have h := zz_f h c15
            refine lv_iload hx hb dX10_runner_54 (lv_at hl 6 rfl) ?_
            refine lv_iconst (v := (0 : Int32)) hx hb dX10_runner_56 rfl ?_
            refine lv_iconst (v := (5 : Int32)) hx hb dX10_runner_57 rfl ?_
            obtain ⟨b16, e17, h⟩ := zz_b h
            refine zSi (As := [.int x6, .int (0 : Int32), .int (5 : Int32)]) (rest := []) (wr := [(a_t, .inr (10, [.ref a_t_race, .ref a_t_kept, .ref a_t_trail, .ref a_t_doubts, .ref a_t_foretelling, .ref a_t_text, .ref a_t_listing, .int t_isKept])), (a_t_race, .inr (4, [.ref a_t_race_way, .ref a_t_race_guns, .ref a_t_race_runners])), (a_t_race_runners, .inr (6, [.ref a_t_race_runners_facts, .ref a_t_race_runners_splits, .ref a_t_race_runners_torn, .ref a_t_race_runners_dropped, .ref a_t_race_runners_waved, .ref a_t_race_runners_struck, .ref a_t_race_runners_strikingOrder, .int t_race_runners_entered, .int t_race_runners_strikings])), (a_t_race_runners_dropped, .inl (cZ, 60, .inl t_race_runners_dropped)), (a_t_race_runners_facts, .inl (cI, 360, .inl t_race_runners_facts)), (a_t_race_runners_splits, .inl (cI, 720, .inl t_race_runners_splits)), (a_t_race_runners_struck, .inl (cZ, 60, .inl t_race_runners_struck)), (a_t_race_runners_torn, .inl (cI, 60, .inl t_race_runners_torn)), (a_t_race_runners_waved, .inl (cZ, 60, .inl t_race_runners_waved))]) [] [0, 1, 2, 3, 4, 5, 6, 7, 8] ⟨hx, hb, hml, hown, hts⟩ (mX10_within l D cB cI cZ H.size x6 (0 : Int32) (5 : Int32) b16 e17) (va_cwS 3 hts gX10_runner_X10_within rfl rfl rfl (by decide +kernel) ⟨Nat.le_of_ble_eq_true rfl, Nat.le_of_ble_eq_true rfl⟩) hK hN hZ hP hD hS hA rfl rfl rfl rfl rfl rfl hl.1 rfl (lv_room (Nat.le_of_ble_eq_true rfl)) dX10_runner_58 ⟨Nat.le_of_ble_eq_true rfl, Nat.le_of_ble_eq_true rfl⟩ (fun H locs hP hD hS => ?_)
            have hP : va_P D vwCl [(a_t, .inr (10, [.ref a_t_race, .ref a_t_kept, .ref a_t_trail, .ref a_t_doubts, .ref a_t_foretelling, .ref a_t_text, .ref a_t_listing, .int t_isKept])), (a_t_race, .inr (4, [.ref a_t_race_way, .ref a_t_race_guns, .ref a_t_race_runners])), (a_t_race_runners, .inr (6, [.ref a_t_race_runners_facts, .ref a_t_race_runners_splits, .ref a_t_race_runners_torn, .ref a_t_race_runners_dropped, .ref a_t_race_runners_waved, .ref a_t_race_runners_struck, .ref a_t_race_runners_strikingOrder, .int t_race_runners_entered, .int t_race_runners_strikings])), (a_t_race_runners_dropped, .inl (cZ, 60, .inl t_race_runners_dropped)), (a_t_race_runners_facts, .inl (cI, 360, .inl t_race_runners_facts)), (a_t_race_runners_splits, .inl (cI, 720, .inl t_race_runners_splits)), (a_t_race_runners_struck, .inl (cZ, 60, .inl t_race_runners_struck)), (a_t_race_runners_torn, .inl (cI, 60, .inl t_race_runners_torn)), (a_t_race_runners_waved, .inl (cZ, 60, .inl t_race_runners_waved))] H := hP
            have hD : va_D A [(a_t, .inr (10, [.ref a_t_race, .ref a_t_kept, .ref a_t_trail, .ref a_t_doubts, .ref a_t_foretelling, .ref a_t_text, .ref a_t_listing, .int t_isKept])), (a_t_race, .inr (4, [.ref a_t_race_way, .ref a_t_race_guns, .ref a_t_race_runners])), (a_t_race_runners, .inr (6, [.ref a_t_race_runners_facts, .ref a_t_race_runners_splits, .ref a_t_race_runners_torn, .ref a_t_race_runners_dropped, .ref a_t_race_runners_waved, .ref a_t_race_runners_struck, .ref a_t_race_runners_strikingOrder, .int t_race_runners_entered, .int t_race_runners_strikings])), (a_t_race_runners_dropped, .inl (cZ, 60, .inl t_race_runners_dropped)), (a_t_race_runners_facts, .inl (cI, 360, .inl t_race_runners_facts)), (a_t_race_runners_splits, .inl (cI, 720, .inl t_race_runners_splits)), (a_t_race_runners_struck, .inl (cZ, 60, .inl t_race_runners_struck)), (a_t_race_runners_torn, .inl (cI, 60, .inl t_race_runners_torn)), (a_t_race_runners_waved, .inl (cZ, 60, .inl t_race_runners_waved))] := hD
            refine lv_if_ne (tgt := 66) hx hb dX10_runner_61 (by decide) (fun c18 => ?_) (fun c18 => ?_)
            · have h := zz_f h c18
              refine lv_aload_n hx hb dX10_runner_66 rfl (lv_at hl 0 rfl) ?_
              refine va_get (D := D) (ci := 10) (C := RX10) (T := TX10) (N := 8) hx hb hts qX10_runner_X10 hown hK hP 0 rfl rfl 0 (by decide) (hts _ kX10_runner_0) (fun _ h9 => h9) rfl dX10_runner_67 ?_
              refine va_getN (host := "RunDesk") (D := D) (ci := 4) (C := RX4) (T := TX4) (N := 3) hx hb hts qX10_runner_X4 hown hK hP 1 rfl rfl 2 (by decide) (va_Nw.use rfl (hN _ (List.mem_of_getElem? (i := 10) rfl))) (fun _ h9 => h9) rfl dX10_runner_70 ?_
              refine lv_iload_n hx hb dX10_runner_73 rfl (lv_at hl 1 rfl) ?_
              refine lv_iload_n hx hb dX10_runner_74 rfl (lv_at hl 2 rfl) ?_
              refine lv_iload_n hx hb dX10_runner_75 rfl (lv_at hl 3 rfl) ?_
              refine lv_iload hx hb dX10_runner_76 (lv_at hl 4 rfl) ?_
              refine lv_iload hx hb dX10_runner_78 (lv_at hl 5 rfl) ?_
              refine lv_iload hx hb dX10_runner_80 (lv_at hl 6 rfl) ?_
              obtain ⟨⟨r19, t_race_runners_entered_r20, t_race_runners_dropped_r21, t_race_runners_facts_r22, t_race_runners_splits_r23, t_race_runners_struck_r24, t_race_runners_torn_r25, t_race_runners_waved_r26⟩, e27, h⟩ := zz_b h
              dsimp only at h
              refine zVi (As := [.int x1, .int x2, .int x3, .int x4, .int x5, .int x6]) (rest := []) (C := RX6) (wr := [(a_t, .inr (10, [.ref a_t_race, .ref a_t_kept, .ref a_t_trail, .ref a_t_doubts, .ref a_t_foretelling, .ref a_t_text, .ref a_t_listing, .int t_isKept])), (a_t_race, .inr (4, [.ref a_t_race_way, .ref a_t_race_guns, .ref a_t_race_runners]))]) [2, 3, 4, 5, 6, 7, 8] [0, 1] 0 ⟨hx, hb, hml, hown, hts⟩ (mX6_enter l D cB cI cZ a_t_race_runners a_t_race_runners_facts a_t_race_runners_splits a_t_race_runners_torn a_t_race_runners_dropped a_t_race_runners_waved a_t_race_runners_struck a_t_race_runners_strikingOrder t_race_runners_entered t_race_runners_strikings t_race_runners_dropped t_race_runners_facts t_race_runners_splits t_race_runners_struck t_race_runners_torn t_race_runners_waved H.size x1 x2 x3 x4 x5 x6 N r19 t_race_runners_entered_r20 t_race_runners_dropped_r21 t_race_runners_facts_r22 t_race_runners_splits_r23 t_race_runners_struck_r24 t_race_runners_torn_r25 t_race_runners_waved_r26 e27) (cwV 6 hts gX10_runner_X6_enter rfl rfl rfl (by decide +kernel) ⟨Nat.le_of_ble_eq_true rfl, Nat.le_of_ble_eq_true rfl⟩) hK hN hZ hP hD hS hA rfl rfl rfl rfl rfl rfl rfl rfl hl.1 rfl (lv_room (Nat.le_of_ble_eq_true rfl)) dX10_runner_82 ⟨Nat.le_of_ble_eq_true rfl, Nat.le_of_ble_eq_true rfl⟩ (fun H locs hP hD hS => ?_)
              have hP : va_P D vwCl [(a_t, .inr (10, [.ref a_t_race, .ref a_t_kept, .ref a_t_trail, .ref a_t_doubts, .ref a_t_foretelling, .ref a_t_text, .ref a_t_listing, .int t_isKept])), (a_t_race, .inr (4, [.ref a_t_race_way, .ref a_t_race_guns, .ref a_t_race_runners])), (a_t_race_runners, .inr (6, [.ref a_t_race_runners_facts, .ref a_t_race_runners_splits, .ref a_t_race_runners_torn, .ref a_t_race_runners_dropped, .ref a_t_race_runners_waved, .ref a_t_race_runners_struck, .ref a_t_race_runners_strikingOrder, .int t_race_runners_entered_r20, .int t_race_runners_strikings])), (a_t_race_runners_dropped, .inl (cZ, 60, .inl t_race_runners_dropped_r21)), (a_t_race_runners_facts, .inl (cI, 360, .inl t_race_runners_facts_r22)), (a_t_race_runners_splits, .inl (cI, 720, .inl t_race_runners_splits_r23)), (a_t_race_runners_struck, .inl (cZ, 60, .inl t_race_runners_struck_r24)), (a_t_race_runners_torn, .inl (cI, 60, .inl t_race_runners_torn_r25)), (a_t_race_runners_waved, .inl (cZ, 60, .inl t_race_runners_waved_r26))] H := hP
              have hD : va_D A [(a_t, .inr (10, [.ref a_t_race, .ref a_t_kept, .ref a_t_trail, .ref a_t_doubts, .ref a_t_foretelling, .ref a_t_text, .ref a_t_listing, .int t_isKept])), (a_t_race, .inr (4, [.ref a_t_race_way, .ref a_t_race_guns, .ref a_t_race_runners])), (a_t_race_runners, .inr (6, [.ref a_t_race_runners_facts, .ref a_t_race_runners_splits, .ref a_t_race_runners_torn, .ref a_t_race_runners_dropped, .ref a_t_race_runners_waved, .ref a_t_race_runners_struck, .ref a_t_race_runners_strikingOrder, .int t_race_runners_entered_r20, .int t_race_runners_strikings])), (a_t_race_runners_dropped, .inl (cZ, 60, .inl t_race_runners_dropped_r21)), (a_t_race_runners_facts, .inl (cI, 360, .inl t_race_runners_facts_r22)), (a_t_race_runners_splits, .inl (cI, 720, .inl t_race_runners_splits_r23)), (a_t_race_runners_struck, .inl (cZ, 60, .inl t_race_runners_struck_r24)), (a_t_race_runners_torn, .inl (cI, 60, .inl t_race_runners_torn_r25)), (a_t_race_runners_waved, .inl (cZ, 60, .inl t_race_runners_waved_r26))] := hD
              obtain ⟨j0_, g_⟩ := Prod.mk.inj (Option.some.inj h)
              obtain ⟨j1_, g_⟩ := Prod.mk.inj g_
              obtain ⟨j2_, g_⟩ := Prod.mk.inj g_
              obtain ⟨j3_, g_⟩ := Prod.mk.inj g_
              obtain ⟨j4_, g_⟩ := Prod.mk.inj g_
              obtain ⟨j5_, g_⟩ := Prod.mk.inj g_
              obtain ⟨j6_, g_⟩ := Prod.mk.inj g_
              have j7_ := g_
              subst j0_
              subst j1_
              subst j2_
              subst j3_
              subst j4_
              subst j5_
              subst j6_
              subst j7_
              exact W.iret (v := r19) hx hb hr (fun t ht hW => ⟨⟨_, (), rfl, rfl, zPost.of hP hD hK ht hW [0, 1, 2, 3, 4, 5, 6, 7, 8] rfl rfl rfl⟩, hS.F ht⟩) hS.2.2 dX10_runner_85
            · have h := zz_t h c18
              refine lv_iconst (v := (-1 : Int32)) hx hb dX10_runner_64 rfl ?_
              obtain ⟨j0_, g_⟩ := Prod.mk.inj (Option.some.inj h)
              obtain ⟨j1_, g_⟩ := Prod.mk.inj g_
              obtain ⟨j2_, g_⟩ := Prod.mk.inj g_
              obtain ⟨j3_, g_⟩ := Prod.mk.inj g_
              obtain ⟨j4_, g_⟩ := Prod.mk.inj g_
              obtain ⟨j5_, g_⟩ := Prod.mk.inj g_
              obtain ⟨j6_, g_⟩ := Prod.mk.inj g_
              have j7_ := g_
              subst j0_
              subst j1_
              subst j2_
              subst j3_
              subst j4_
              subst j5_
              subst j6_
              subst j7_
              exact W.iret (v := (-1 : Int32)) hx hb hr (fun t ht hW => ⟨⟨_, (), rfl, rfl, zPost.of hP hD hK ht hW [0, 1, 2, 3, 4, 5, 6, 7, 8] rfl rfl rfl⟩, hS.F ht⟩) hS.2.2 dX10_runner_65
      · have h := zz_t h c9
        refine lv_iconst (v := (-1 : Int32)) hx hb dX10_runner_31 rfl ?_
        obtain ⟨j0_, g_⟩ := Prod.mk.inj (Option.some.inj h)
        obtain ⟨j1_, g_⟩ := Prod.mk.inj g_
        obtain ⟨j2_, g_⟩ := Prod.mk.inj g_
        obtain ⟨j3_, g_⟩ := Prod.mk.inj g_
        obtain ⟨j4_, g_⟩ := Prod.mk.inj g_
        obtain ⟨j5_, g_⟩ := Prod.mk.inj g_
        obtain ⟨j6_, g_⟩ := Prod.mk.inj g_
        have j7_ := g_
        subst j0_
        subst j1_
        subst j2_
        subst j3_
        subst j4_
        subst j5_
        subst j6_
        subst j7_
        exact W.iret (v := (-1 : Int32)) hx hb hr (fun t ht hW => ⟨⟨_, (), rfl, rfl, zPost.of hP hD hK ht hW [0, 1, 2, 3, 4, 5, 6, 7, 8] rfl rfl rfl⟩, hS.F ht⟩) hS.2.2 dX10_runner_32
/-! RunDesk.isTickOrNone -/
theorem dX10_isTickOrNone_0 : decode cX10_isTickOrNone 0 = .ok (.iload_n 0, 1) := by decide +kernel
theorem dX10_isTickOrNone_1 : decode cX10_isTickOrNone 1 = .ok (.iconst (-1), 1) := by decide +kernel
theorem dX10_isTickOrNone_2 : decode cX10_isTickOrNone 2 = .ok (.if_icmp .eq 13, 3) := by decide +kernel
theorem dX10_isTickOrNone_5 : decode cX10_isTickOrNone 5 = .ok (.iload_n 0, 1) := by decide +kernel
theorem dX10_isTickOrNone_6 : decode cX10_isTickOrNone 6 = .ok (.iconst 0, 1) := by decide +kernel
theorem dX10_isTickOrNone_7 : decode cX10_isTickOrNone 7 = .ok (.ldc 104, 2) := by decide +kernel
theorem dX10_isTickOrNone_9 : decode cX10_isTickOrNone 9 = .ok (.invokestatic 68, 3) := by decide +kernel
theorem dX10_isTickOrNone_12 : decode cX10_isTickOrNone 12 = .ok (.ifCond .eq 7, 3) := by decide +kernel
theorem dX10_isTickOrNone_15 : decode cX10_isTickOrNone 15 = .ok (.iconst 1, 1) := by decide +kernel
theorem dX10_isTickOrNone_16 : decode cX10_isTickOrNone 16 = .ok (.goto 4, 3) := by decide +kernel
theorem dX10_isTickOrNone_19 : decode cX10_isTickOrNone 19 = .ok (.iconst 0, 1) := by decide +kernel
theorem dX10_isTickOrNone_20 : decode cX10_isTickOrNone 20 = .ok (.ireturn, 1) := by decide +kernel
set_option maxRecDepth 20000 in
theorem ggX10_isTickOrNone_X10_within : GoodIn wsX10_isTickOrNone wsX10_within := goodIn_r _ [5] (by decide +kernel) (by decide +kernel)
set_option maxRecDepth 20000 in
theorem gX10_isTickOrNone_X10_within : GoodIn wsX10_isTickOrNone (va_wsS RX10 68 yX10_within wsX10_within) := goodIn_app (goodIn_of _ (by decide +kernel)) ggX10_isTickOrNone_X10_within
def fX10_isTickOrNone (x1 : Int32) : Option (Bool) := (if x1 = (-1 : Int32) then some (true) else ((fX10_within x1 (0 : Int32) (40000 : Int32)).bind (fun b2 => (if (zb b2) = 0 then some (false) else some (true)))))
theorem kX10_isTickOrNone_0 : (.constant RX10 104 (40000) : Cond) ∈ wsX10_isTickOrNone := List.mem_of_getElem? (i := 1) (by decide +kernel)
set_option maxHeartbeats 4000000 in
set_option maxRecDepth 100000 in
theorem mX10_isTickOrNone (l : Launch) (D : va_G) (cB cI cZ : ClassId) (sz : Nat) (x1 : Int32) (b0 : Bool) (h : fX10_isTickOrNone x1 = some (b0)) : Met l yX10_isTickOrNone wsX10_isTickOrNone ({ frames := 1, cells := 0, slots := 0, locals := 22 } : Room) (va_Pc [.int x1] (zPre D (zT cB cI cZ) [] sz)) (zQi (zb b0) D (zT cB cI cZ) [] (va_A [] sz)) 0 0 (va_A [] sz) := by
  refine Met.ofW (cc := cX10_isTickOrNone) (maxL := 1) (ret := (some .boolean)) (by decide) rfl ?_
  intro p e s m args below meth c s₁ B hml hv
  obtain ⟨rfl, hsz, hP, hK, hN, hZ, hD0⟩ := hv
  have hx := B.exec
  have hb := B.bytes
  have hr := B.returns
  have hts := atoms_spec (ws := wsX10_isTickOrNone) B.pre
  have hown : s.vm.findClass RX10 = some m.cls := findClass_of_methodNamed B.named
  have hlocks := B.notSynchronized
  subst hsz
  have hD := hD0.self (sz := s.heap.size)
  generalize hAe : va_A [] s.heap.size = A at hD hZ ⊢
  have hA : ∀ q : Nat, s.heap.size ≤ q → A q := fun q h => by rw [← hAe]; exact Or.inr h
  have hS : va_S A s.heap s.heap [] := va_S.rf
  have hl := lv_entry ([.int x1]) (n := 1) (Nat.le_of_ble_eq_true rfl)
  rw [lg_entry_eq]
  generalize (lg_sl ([.int x1]) ++ List.replicate (1 - (lg_sl ([.int x1])).length) Slot.unset).toArray = ls at hl ⊢
  have hl : lv_has ls 1 [(0, .int x1)] := hl
  unfold fX10_isTickOrNone at h
  refine lv_iload_n hx hb dX10_isTickOrNone_0 rfl (lv_at hl 0 rfl) ?_
  refine lv_iconst (v := (-1 : Int32)) hx hb dX10_isTickOrNone_1 rfl ?_
  refine lv_icmp_eq (tgt := 15) hx hb dX10_isTickOrNone_2 (by decide) (fun c1 => ?_) (fun c1 => ?_)
  · have h := zz_t h c1
    refine lv_iconst (v := (1 : Int32)) hx hb dX10_isTickOrNone_15 rfl ?_
    refine lv_goto (tgt := 20) hx hb dX10_isTickOrNone_16 (by decide) ?_
    have j0_ := Option.some.inj h
    subst j0_
    exact W.zret (v := (1 : Int32)) hx hb hr rfl (fun t ht hW => ⟨⟨_, (), rfl, rfl, zPost.of hP hD hK ht hW [] rfl rfl rfl⟩, hS.F ht⟩) hS.2.2 dX10_isTickOrNone_20
  · have h := zz_f h c1
    refine lv_iload_n hx hb dX10_isTickOrNone_5 rfl (lv_at hl 0 rfl) ?_
    refine lv_iconst (v := (0 : Int32)) hx hb dX10_isTickOrNone_6 rfl ?_
    refine lv_ldc (v := (40000 : Int32)) hx hb hown (hts _ kX10_isTickOrNone_0) dX10_isTickOrNone_7 ?_
    obtain ⟨b2, e3, h⟩ := zz_b h
    refine zSi (As := [.int x1, .int (0 : Int32), .int (40000 : Int32)]) (rest := []) (wr := []) [] [] ⟨hx, hb, hml, hown, hts⟩ (mX10_within l D cB cI cZ s.heap.size x1 (0 : Int32) (40000 : Int32) b2 e3) (va_cwS 3 hts gX10_isTickOrNone_X10_within rfl rfl rfl (by decide +kernel) ⟨Nat.le_of_ble_eq_true rfl, Nat.le_of_ble_eq_true rfl⟩) hK hN hZ hP hD hS hA rfl rfl rfl rfl rfl rfl hl.1 rfl (lv_room (Nat.le_of_ble_eq_true rfl)) dX10_isTickOrNone_9 ⟨Nat.le_of_ble_eq_true rfl, Nat.le_of_ble_eq_true rfl⟩ (fun H locs hP hD hS => ?_)
    have hP : va_P D vwCl [] H := hP
    have hD : va_D A [] := hD
    refine lv_if_eq (tgt := 19) hx hb dX10_isTickOrNone_12 (by decide) (fun c4 => ?_) (fun c4 => ?_)
    · have h := zz_t h c4
      refine lv_iconst (v := (0 : Int32)) hx hb dX10_isTickOrNone_19 rfl ?_
      have j0_ := Option.some.inj h
      subst j0_
      exact W.zret (v := (0 : Int32)) hx hb hr rfl (fun t ht hW => ⟨⟨_, (), rfl, rfl, zPost.of hP hD hK ht hW [] rfl rfl rfl⟩, hS.F ht⟩) hS.2.2 dX10_isTickOrNone_20
    · have h := zz_f h c4
      refine lv_iconst (v := (1 : Int32)) hx hb dX10_isTickOrNone_15 rfl ?_
      refine lv_goto (tgt := 20) hx hb dX10_isTickOrNone_16 (by decide) ?_
      have j0_ := Option.some.inj h
      subst j0_
      exact W.zret (v := (1 : Int32)) hx hb hr rfl (fun t ht hW => ⟨⟨_, (), rfl, rfl, zPost.of hP hD hK ht hW [] rfl rfl rfl⟩, hS.F ht⟩) hS.2.2 dX10_isTickOrNone_20
/-! RunDesk.gun -/
theorem dX10_gun_0 : decode cX10_gun 0 = .ok (.iload_n 2, 1) := by decide +kernel
theorem dX10_gun_1 : decode cX10_gun 1 = .ok (.invokestatic 87, 3) := by decide +kernel
theorem dX10_gun_4 : decode cX10_gun 4 = .ok (.ifCond .eq 22, 3) := by decide +kernel
theorem dX10_gun_7 : decode cX10_gun 7 = .ok (.aload_n 0, 1) := by decide +kernel
theorem dX10_gun_8 : decode cX10_gun 8 = .ok (.getfield 10, 3) := by decide +kernel
theorem dX10_gun_11 : decode cX10_gun 11 = .ok (.getfield 91, 3) := by decide +kernel
theorem dX10_gun_14 : decode cX10_gun 14 = .ok (.iload_n 1, 1) := by decide +kernel
theorem dX10_gun_15 : decode cX10_gun 15 = .ok (.iload_n 2, 1) := by decide +kernel
theorem dX10_gun_16 : decode cX10_gun 16 = .ok (.invokevirtual 95, 3) := by decide +kernel
theorem dX10_gun_19 : decode cX10_gun 19 = .ok (.ifCond .eq 7, 3) := by decide +kernel
theorem dX10_gun_22 : decode cX10_gun 22 = .ok (.iconst 1, 1) := by decide +kernel
theorem dX10_gun_23 : decode cX10_gun 23 = .ok (.goto 4, 3) := by decide +kernel
theorem dX10_gun_26 : decode cX10_gun 26 = .ok (.iconst 0, 1) := by decide +kernel
theorem dX10_gun_27 : decode cX10_gun 27 = .ok (.ireturn, 1) := by decide +kernel
set_option maxRecDepth 20000 in
theorem ggX10_gun_X10_isTickOrNone : GoodIn wsX10_gun wsX10_isTickOrNone := goodIn_r _ [5, 6, 7, 8, 4, 9] (by decide +kernel) (by decide +kernel)
set_option maxRecDepth 20000 in
theorem gX10_gun_X10_isTickOrNone : GoodIn wsX10_gun (va_wsS RX10 87 yX10_isTickOrNone wsX10_isTickOrNone) := goodIn_app (goodIn_of _ (by decide +kernel)) ggX10_gun_X10_isTickOrNone
set_option maxRecDepth 20000 in
theorem ggX10_gun_X2_fire : GoodIn wsX10_gun wsX2_fire := goodIn_r _ [14, 15, 8, 4, 9, 27] (by decide +kernel) (by decide +kernel)
set_option maxRecDepth 20000 in
theorem gX10_gun_X2_fire : GoodIn wsX10_gun (wsV RX10 95 RX2 yX2_fire wsX2_fire) := goodIn_app (goodIn_of _ (by decide +kernel)) ggX10_gun_X2_fire
def fX10_gun (t_race_guns_ticks : Nat → Int32) (x1 : Int32) (x2 : Int32) : Option (Bool × (Nat → Int32)) := ((fX10_isTickOrNone x2).bind (fun b1 => (if (zb b1) = 0 then some (false, t_race_guns_ticks) else ((fX2_fire t_race_guns_ticks x1 x2).bind (fun (b4, t_race_guns_ticks_r5) => (if (zb b4) = 0 then some (false, t_race_guns_ticks_r5) else some (true, t_race_guns_ticks_r5)))))))
theorem kX10_gun_0 : (.fieldLink RX10 10 "RunDesk" "race" "LRunDesk$Race;" : Cond) ∈ wsX10_gun := List.mem_of_getElem? (i := 1) (by decide +kernel)
theorem qX10_gun_X10 : ∀ w ∈ wsX100, w ∈ wsX10_gun := fun _ h => List.mem_cons_of_mem _ (List.mem_append_left _ (List.mem_append_left _ (List.mem_append_right _ (h))))
theorem qX10_gun_X4 : ∀ w ∈ wsX40, w ∈ wsX10_gun := fun _ h => List.mem_cons_of_mem _ (List.mem_append_left _ (List.mem_append_right _ (h)))
set_option maxHeartbeats 4000000 in
set_option maxRecDepth 100000 in
theorem mX10_gun (l : Launch) (D : va_G) (cB cI cZ : ClassId) (a_t : Nat) (a_t_race : Nat) (a_t_kept : Nat) (a_t_trail : Nat) (a_t_doubts : Nat) (a_t_foretelling : Nat) (a_t_text : Nat) (a_t_listing : Nat) (a_t_race_way : Nat) (a_t_race_guns : Nat) (a_t_race_runners : Nat) (a_t_race_guns_ticks : Nat) (t_isKept : Int32) (t_race_guns_ticks : Nat → Int32) (sz : Nat) (x1 : Int32) (x2 : Int32) (b0 : Bool) (t_race_guns_ticks' : Nat → Int32) (h : fX10_gun t_race_guns_ticks x1 x2 = some (b0, t_race_guns_ticks')) : Met l yX10_gun wsX10_gun ({ frames := 2, cells := 0, slots := 0, locals := 44 } : Room) (va_Pc [.ref a_t, .int x1, .int x2] (zPre D (zT cB cI cZ) [(a_t, .inr (10, [.ref a_t_race, .ref a_t_kept, .ref a_t_trail, .ref a_t_doubts, .ref a_t_foretelling, .ref a_t_text, .ref a_t_listing, .int t_isKept])), (a_t_race, .inr (4, [.ref a_t_race_way, .ref a_t_race_guns, .ref a_t_race_runners])), (a_t_race_guns, .inr (2, [.ref a_t_race_guns_ticks])), (a_t_race_guns_ticks, .inl (cI, 6, .inl t_race_guns_ticks))] sz)) (zQi (zb b0) D (zT cB cI cZ) [(a_t, .inr (10, [.ref a_t_race, .ref a_t_kept, .ref a_t_trail, .ref a_t_doubts, .ref a_t_foretelling, .ref a_t_text, .ref a_t_listing, .int t_isKept])), (a_t_race, .inr (4, [.ref a_t_race_way, .ref a_t_race_guns, .ref a_t_race_runners])), (a_t_race_guns, .inr (2, [.ref a_t_race_guns_ticks])), (a_t_race_guns_ticks, .inl (cI, 6, .inl t_race_guns_ticks'))] (va_A [(a_t, .inr (10, [.ref a_t_race, .ref a_t_kept, .ref a_t_trail, .ref a_t_doubts, .ref a_t_foretelling, .ref a_t_text, .ref a_t_listing, .int t_isKept])), (a_t_race, .inr (4, [.ref a_t_race_way, .ref a_t_race_guns, .ref a_t_race_runners])), (a_t_race_guns, .inr (2, [.ref a_t_race_guns_ticks])), (a_t_race_guns_ticks, .inl (cI, 6, .inl t_race_guns_ticks))] sz)) 0 0 (va_A [(a_t, .inr (10, [.ref a_t_race, .ref a_t_kept, .ref a_t_trail, .ref a_t_doubts, .ref a_t_foretelling, .ref a_t_text, .ref a_t_listing, .int t_isKept])), (a_t_race, .inr (4, [.ref a_t_race_way, .ref a_t_race_guns, .ref a_t_race_runners])), (a_t_race_guns, .inr (2, [.ref a_t_race_guns_ticks])), (a_t_race_guns_ticks, .inl (cI, 6, .inl t_race_guns_ticks))] sz) := by
  refine Met.ofW (cc := cX10_gun) (maxL := 3) (ret := (some .boolean)) (by decide) rfl ?_
  intro p e s m args below meth c s₁ B hml hv
  obtain ⟨rfl, hsz, hP, hK, hN, hZ, hD0⟩ := hv
  have hx := B.exec
  have hb := B.bytes
  have hr := B.returns
  have hts := atoms_spec (ws := wsX10_gun) B.pre
  have hown : s.vm.findClass RX10 = some m.cls := findClass_of_methodNamed B.named
  have hlocks := B.notSynchronized
  subst hsz
  have hD := hD0.self (sz := s.heap.size)
  generalize hAe : va_A [(a_t, .inr (10, [.ref a_t_race, .ref a_t_kept, .ref a_t_trail, .ref a_t_doubts, .ref a_t_foretelling, .ref a_t_text, .ref a_t_listing, .int t_isKept])), (a_t_race, .inr (4, [.ref a_t_race_way, .ref a_t_race_guns, .ref a_t_race_runners])), (a_t_race_guns, .inr (2, [.ref a_t_race_guns_ticks])), (a_t_race_guns_ticks, .inl (cI, 6, .inl t_race_guns_ticks))] s.heap.size = A at hD hZ ⊢
  have hA : ∀ q : Nat, s.heap.size ≤ q → A q := fun q h => by rw [← hAe]; exact Or.inr h
  have hS : va_S A s.heap s.heap [] := va_S.rf
  have hl := lv_entry ([.ref a_t, .int x1, .int x2]) (n := 3) (Nat.le_of_ble_eq_true rfl)
  rw [lg_entry_eq]
  generalize (lg_sl ([.ref a_t, .int x1, .int x2]) ++ List.replicate (3 - (lg_sl ([.ref a_t, .int x1, .int x2])).length) Slot.unset).toArray = ls at hl ⊢
  have hl : lv_has ls 3 [(0, .ref a_t), (1, .int x1), (2, .int x2)] := hl
  unfold fX10_gun at h
  refine lv_iload_n hx hb dX10_gun_0 rfl (lv_at hl 2 rfl) ?_
  obtain ⟨b1, e2, h⟩ := zz_b h
  refine zSi (As := [.int x2]) (rest := []) (wr := [(a_t, .inr (10, [.ref a_t_race, .ref a_t_kept, .ref a_t_trail, .ref a_t_doubts, .ref a_t_foretelling, .ref a_t_text, .ref a_t_listing, .int t_isKept])), (a_t_race, .inr (4, [.ref a_t_race_way, .ref a_t_race_guns, .ref a_t_race_runners])), (a_t_race_guns, .inr (2, [.ref a_t_race_guns_ticks])), (a_t_race_guns_ticks, .inl (cI, 6, .inl t_race_guns_ticks))]) [] [0, 1, 2, 3] ⟨hx, hb, hml, hown, hts⟩ (mX10_isTickOrNone l D cB cI cZ s.heap.size x2 b1 e2) (va_cwS 1 hts gX10_gun_X10_isTickOrNone rfl rfl rfl (by decide +kernel) ⟨Nat.le_of_ble_eq_true rfl, Nat.le_of_ble_eq_true rfl⟩) hK hN hZ hP hD hS hA rfl rfl rfl rfl rfl rfl hl.1 rfl (lv_room (Nat.le_of_ble_eq_true rfl)) dX10_gun_1 ⟨Nat.le_of_ble_eq_true rfl, Nat.le_of_ble_eq_true rfl⟩ (fun H locs hP hD hS => ?_)
  have hP : va_P D vwCl [(a_t, .inr (10, [.ref a_t_race, .ref a_t_kept, .ref a_t_trail, .ref a_t_doubts, .ref a_t_foretelling, .ref a_t_text, .ref a_t_listing, .int t_isKept])), (a_t_race, .inr (4, [.ref a_t_race_way, .ref a_t_race_guns, .ref a_t_race_runners])), (a_t_race_guns, .inr (2, [.ref a_t_race_guns_ticks])), (a_t_race_guns_ticks, .inl (cI, 6, .inl t_race_guns_ticks))] H := hP
  have hD : va_D A [(a_t, .inr (10, [.ref a_t_race, .ref a_t_kept, .ref a_t_trail, .ref a_t_doubts, .ref a_t_foretelling, .ref a_t_text, .ref a_t_listing, .int t_isKept])), (a_t_race, .inr (4, [.ref a_t_race_way, .ref a_t_race_guns, .ref a_t_race_runners])), (a_t_race_guns, .inr (2, [.ref a_t_race_guns_ticks])), (a_t_race_guns_ticks, .inl (cI, 6, .inl t_race_guns_ticks))] := hD
  refine lv_if_eq (tgt := 26) hx hb dX10_gun_4 (by decide) (fun c3 => ?_) (fun c3 => ?_)
  · have h := zz_t h c3
    refine lv_iconst (v := (0 : Int32)) hx hb dX10_gun_26 rfl ?_
    obtain ⟨j0_, g_⟩ := Prod.mk.inj (Option.some.inj h)
    have j1_ := g_
    subst j0_
    subst j1_
    exact W.zret (v := (0 : Int32)) hx hb hr rfl (fun t ht hW => ⟨⟨_, (), rfl, rfl, zPost.of hP hD hK ht hW [0, 1, 2, 3] rfl rfl rfl⟩, hS.F ht⟩) hS.2.2 dX10_gun_27
  · have h := zz_f h c3
    refine lv_aload_n hx hb dX10_gun_7 rfl (lv_at hl 0 rfl) ?_
    refine va_get (D := D) (ci := 10) (C := RX10) (T := TX10) (N := 8) hx hb hts qX10_gun_X10 hown hK hP 0 rfl rfl 0 (by decide) (hts _ kX10_gun_0) (fun _ h9 => h9) rfl dX10_gun_8 ?_
    refine va_getN (host := "RunDesk") (D := D) (ci := 4) (C := RX4) (T := TX4) (N := 3) hx hb hts qX10_gun_X4 hown hK hP 1 rfl rfl 1 (by decide) (va_Nw.use rfl (hN _ (List.mem_of_getElem? (i := 5) rfl))) (fun _ h9 => h9) rfl dX10_gun_11 ?_
    refine lv_iload_n hx hb dX10_gun_14 rfl (lv_at hl 1 rfl) ?_
    refine lv_iload_n hx hb dX10_gun_15 rfl (lv_at hl 2 rfl) ?_
    obtain ⟨⟨b4, t_race_guns_ticks_r5⟩, e6, h⟩ := zz_b h
    dsimp only at h
    refine zVi (As := [.int x1, .int x2]) (rest := []) (C := RX2) (wr := [(a_t, .inr (10, [.ref a_t_race, .ref a_t_kept, .ref a_t_trail, .ref a_t_doubts, .ref a_t_foretelling, .ref a_t_text, .ref a_t_listing, .int t_isKept])), (a_t_race, .inr (4, [.ref a_t_race_way, .ref a_t_race_guns, .ref a_t_race_runners]))]) [2, 3] [0, 1] 0 ⟨hx, hb, hml, hown, hts⟩ (mX2_fire l D cB cI cZ a_t_race_guns a_t_race_guns_ticks t_race_guns_ticks H.size x1 x2 b4 t_race_guns_ticks_r5 e6) (cwV 2 hts gX10_gun_X2_fire rfl rfl rfl (by decide +kernel) ⟨Nat.le_of_ble_eq_true rfl, Nat.le_of_ble_eq_true rfl⟩) hK hN hZ hP hD hS hA rfl rfl rfl rfl rfl rfl rfl rfl hl.1 rfl (lv_room (Nat.le_of_ble_eq_true rfl)) dX10_gun_16 ⟨Nat.le_of_ble_eq_true rfl, Nat.le_of_ble_eq_true rfl⟩ (fun H locs hP hD hS => ?_)
    have hP : va_P D vwCl [(a_t, .inr (10, [.ref a_t_race, .ref a_t_kept, .ref a_t_trail, .ref a_t_doubts, .ref a_t_foretelling, .ref a_t_text, .ref a_t_listing, .int t_isKept])), (a_t_race, .inr (4, [.ref a_t_race_way, .ref a_t_race_guns, .ref a_t_race_runners])), (a_t_race_guns, .inr (2, [.ref a_t_race_guns_ticks])), (a_t_race_guns_ticks, .inl (cI, 6, .inl t_race_guns_ticks_r5))] H := hP
    have hD : va_D A [(a_t, .inr (10, [.ref a_t_race, .ref a_t_kept, .ref a_t_trail, .ref a_t_doubts, .ref a_t_foretelling, .ref a_t_text, .ref a_t_listing, .int t_isKept])), (a_t_race, .inr (4, [.ref a_t_race_way, .ref a_t_race_guns, .ref a_t_race_runners])), (a_t_race_guns, .inr (2, [.ref a_t_race_guns_ticks])), (a_t_race_guns_ticks, .inl (cI, 6, .inl t_race_guns_ticks_r5))] := hD
    refine lv_if_eq (tgt := 26) hx hb dX10_gun_19 (by decide) (fun c7 => ?_) (fun c7 => ?_)
    · have h := zz_t h c7
      refine lv_iconst (v := (0 : Int32)) hx hb dX10_gun_26 rfl ?_
      obtain ⟨j0_, g_⟩ := Prod.mk.inj (Option.some.inj h)
      have j1_ := g_
      subst j0_
      subst j1_
      exact W.zret (v := (0 : Int32)) hx hb hr rfl (fun t ht hW => ⟨⟨_, (), rfl, rfl, zPost.of hP hD hK ht hW [0, 1, 2, 3] rfl rfl rfl⟩, hS.F ht⟩) hS.2.2 dX10_gun_27
    · have h := zz_f h c7
      refine lv_iconst (v := (1 : Int32)) hx hb dX10_gun_22 rfl ?_
      refine lv_goto (tgt := 27) hx hb dX10_gun_23 (by decide) ?_
      obtain ⟨j0_, g_⟩ := Prod.mk.inj (Option.some.inj h)
      have j1_ := g_
      subst j0_
      subst j1_
      exact W.zret (v := (1 : Int32)) hx hb hr rfl (fun t ht hW => ⟨⟨_, (), rfl, rfl, zPost.of hP hD hK ht hW [0, 1, 2, 3] rfl rfl rfl⟩, hS.F ht⟩) hS.2.2 dX10_gun_27
/-! RunDesk.saw -/
theorem dX10_saw_0 : decode cX10_saw 0 = .ok (.aload_n 0, 1) := by decide +kernel
theorem dX10_saw_1 : decode cX10_saw 1 = .ok (.getfield 10, 3) := by decide +kernel
theorem dX10_saw_4 : decode cX10_saw 4 = .ok (.iload_n 1, 1) := by decide +kernel
theorem dX10_saw_5 : decode cX10_saw 5 = .ok (.iload_n 2, 1) := by decide +kernel
theorem dX10_saw_6 : decode cX10_saw 6 = .ok (.invokevirtual 101, 3) := by decide +kernel
theorem dX10_saw_9 : decode cX10_saw 9 = .ok (.ifCond .eq 13, 3) := by decide +kernel
theorem dX10_saw_12 : decode cX10_saw 12 = .ok (.iload_n 3, 1) := by decide +kernel
theorem dX10_saw_13 : decode cX10_saw 13 = .ok (.iconst 0, 1) := by decide +kernel
theorem dX10_saw_14 : decode cX10_saw 14 = .ok (.ldc 104, 2) := by decide +kernel
theorem dX10_saw_16 : decode cX10_saw 16 = .ok (.invokestatic 68, 3) := by decide +kernel
theorem dX10_saw_19 : decode cX10_saw 19 = .ok (.ifCond .ne 5, 3) := by decide +kernel
theorem dX10_saw_22 : decode cX10_saw 22 = .ok (.iconst (-1), 1) := by decide +kernel
theorem dX10_saw_23 : decode cX10_saw 23 = .ok (.ireturn, 1) := by decide +kernel
theorem dX10_saw_24 : decode cX10_saw 24 = .ok (.aload_n 0, 1) := by decide +kernel
theorem dX10_saw_25 : decode cX10_saw 25 = .ok (.getfield 10, 3) := by decide +kernel
theorem dX10_saw_28 : decode cX10_saw 28 = .ok (.getfield 58, 3) := by decide +kernel
theorem dX10_saw_31 : decode cX10_saw 31 = .ok (.iload_n 2, 1) := by decide +kernel
theorem dX10_saw_32 : decode cX10_saw 32 = .ok (.invokevirtual 105, 3) := by decide +kernel
theorem dX10_saw_35 : decode cX10_saw 35 = .ok (.ifCond .ne 18, 3) := by decide +kernel
theorem dX10_saw_38 : decode cX10_saw 38 = .ok (.aload_n 0, 1) := by decide +kernel
theorem dX10_saw_39 : decode cX10_saw 39 = .ok (.getfield 10, 3) := by decide +kernel
theorem dX10_saw_42 : decode cX10_saw 42 = .ok (.getfield 77, 3) := by decide +kernel
theorem dX10_saw_45 : decode cX10_saw 45 = .ok (.iload_n 1, 1) := by decide +kernel
theorem dX10_saw_46 : decode cX10_saw 46 = .ok (.iload_n 2, 1) := by decide +kernel
theorem dX10_saw_47 : decode cX10_saw 47 = .ok (.invokevirtual 108, 3) := by decide +kernel
theorem dX10_saw_50 : decode cX10_saw 50 = .ok (.ifCond .eq 5, 3) := by decide +kernel
theorem dX10_saw_53 : decode cX10_saw 53 = .ok (.iconst (-1), 1) := by decide +kernel
theorem dX10_saw_54 : decode cX10_saw 54 = .ok (.ireturn, 1) := by decide +kernel
theorem dX10_saw_55 : decode cX10_saw 55 = .ok (.aload_n 0, 1) := by decide +kernel
theorem dX10_saw_56 : decode cX10_saw 56 = .ok (.getfield 10, 3) := by decide +kernel
theorem dX10_saw_59 : decode cX10_saw 59 = .ok (.getfield 77, 3) := by decide +kernel
theorem dX10_saw_62 : decode cX10_saw 62 = .ok (.iload_n 1, 1) := by decide +kernel
theorem dX10_saw_63 : decode cX10_saw 63 = .ok (.iload_n 2, 1) := by decide +kernel
theorem dX10_saw_64 : decode cX10_saw 64 = .ok (.iload_n 3, 1) := by decide +kernel
theorem dX10_saw_65 : decode cX10_saw 65 = .ok (.invokevirtual 111, 3) := by decide +kernel
theorem dX10_saw_68 : decode cX10_saw 68 = .ok (.ifCond .eq 7, 3) := by decide +kernel
theorem dX10_saw_71 : decode cX10_saw 71 = .ok (.iconst 1, 1) := by decide +kernel
theorem dX10_saw_72 : decode cX10_saw 72 = .ok (.goto 4, 3) := by decide +kernel
theorem dX10_saw_75 : decode cX10_saw 75 = .ok (.iconst 0, 1) := by decide +kernel
theorem dX10_saw_76 : decode cX10_saw 76 = .ok (.ireturn, 1) := by decide +kernel
set_option maxRecDepth 20000 in
theorem ggX10_saw_X4_hasCell : GoodIn wsX10_saw wsX4_hasCell := goodIn_r _ [7, 8, 9, 10, 11, 12, 13, 14, 15, 16, 17, 18, 19, 20, 21, 55, 56, 57, 58, 59, 60, 61, 62, 63, 64, 65, 66, 67, 68, 69, 70, 71] (by decide +kernel) (by decide +kernel)
set_option maxRecDepth 20000 in
theorem gX10_saw_X4_hasCell : GoodIn wsX10_saw (wsV RX10 101 RX4 yX4_hasCell wsX4_hasCell) := goodIn_app (goodIn_of _ (by decide +kernel)) ggX10_saw_X4_hasCell
set_option maxRecDepth 20000 in
theorem ggX10_saw_X10_within : GoodIn wsX10_saw wsX10_within := goodIn_r _ [25] (by decide +kernel) (by decide +kernel)
set_option maxRecDepth 20000 in
theorem gX10_saw_X10_within : GoodIn wsX10_saw (va_wsS RX10 68 yX10_within wsX10_within) := goodIn_app (goodIn_of _ (by decide +kernel)) ggX10_saw_X10_within
set_option maxRecDepth 20000 in
theorem ggX10_saw_X9_isDead : GoodIn wsX10_saw wsX9_isDead := goodIn_r _ [29, 30, 31, 17, 18, 19, 20, 21, 67, 68, 69, 70, 71] (by decide +kernel) (by decide +kernel)
set_option maxRecDepth 20000 in
theorem gX10_saw_X9_isDead : GoodIn wsX10_saw (wsV RX10 105 RX9 yX9_isDead wsX9_isDead) := goodIn_app (goodIn_of _ (by decide +kernel)) ggX10_saw_X9_isDead
set_option maxRecDepth 20000 in
theorem ggX10_saw_X6_isTorn : GoodIn wsX10_saw wsX6_isTorn := goodIn_r _ [35, 36, 37, 38, 13, 39, 40, 41, 11, 12, 14, 15, 58, 59, 60, 61, 62, 63, 64, 65, 66] (by decide +kernel) (by decide +kernel)
set_option maxRecDepth 20000 in
theorem gX10_saw_X6_isTorn : GoodIn wsX10_saw (wsV RX10 108 RX6 yX6_isTorn wsX6_isTorn) := goodIn_app (goodIn_of _ (by decide +kernel)) ggX10_saw_X6_isTorn
set_option maxRecDepth 20000 in
theorem ggX10_saw_X6_enterSplit : GoodIn wsX10_saw wsX6_enterSplit := goodIn_r _ [45, 46, 41, 11, 12, 13, 14, 15, 58, 59, 60, 61, 62, 63, 64, 65, 66] (by decide +kernel) (by decide +kernel)
set_option maxRecDepth 20000 in
theorem gX10_saw_X6_enterSplit : GoodIn wsX10_saw (wsV RX10 111 RX6 yX6_enterSplit wsX6_enterSplit) := goodIn_app (goodIn_of _ (by decide +kernel)) ggX10_saw_X6_enterSplit
def fX10_saw (t_race_runners_entered : Int32) (t_race_runners_splits : Nat → Int32) (t_race_runners_torn : Nat → Int32) (t_race_way_mats : Int32) (t_race_way_deaths : Nat → Int32) (x1 : Int32) (x2 : Int32) (x3 : Int32) : Option (Int32 × (Nat → Int32)) := ((fX4_hasCell t_race_runners_entered t_race_way_mats x1 x2).bind (fun b1 => (if (zb b1) = 0 then some ((-1 : Int32), t_race_runners_splits) else ((fX10_within x3 (0 : Int32) (40000 : Int32)).bind (fun b4 => (if (zb b4) = 0 then some ((-1 : Int32), t_race_runners_splits) else ((fX9_isDead t_race_way_mats t_race_way_deaths x2).bind (fun b7 => (if (zb b7) = 0 then ((fX6_isTorn t_race_runners_entered t_race_runners_torn x1 x2).bind (fun b10 => (if (zb b10) = 0 then ((fX6_enterSplit t_race_runners_entered t_race_runners_splits x1 x2 x3).bind (fun (b13, t_race_runners_splits_r14) => (if (zb b13) = 0 then some ((0 : Int32), t_race_runners_splits_r14) else some ((1 : Int32), t_race_runners_splits_r14)))) else some ((-1 : Int32), t_race_runners_splits)))) else some ((-1 : Int32), t_race_runners_splits))))))))))
theorem kX10_saw_0 : (.fieldLink RX10 10 "RunDesk" "race" "LRunDesk$Race;" : Cond) ∈ wsX10_saw := List.mem_of_getElem? (i := 1) (by decide +kernel)
theorem qX10_saw_X10 : ∀ w ∈ wsX100, w ∈ wsX10_saw := fun _ h => List.mem_cons_of_mem _ (List.mem_append_left _ (List.mem_append_left _ (List.mem_append_left _ (List.mem_append_right _ (h)))))
theorem kX10_saw_2 : (.constant RX10 104 (40000) : Cond) ∈ wsX10_saw := List.mem_of_getElem? (i := 2) (by decide +kernel)
theorem qX10_saw_X4 : ∀ w ∈ wsX40, w ∈ wsX10_saw := fun _ h => List.mem_cons_of_mem _ (List.mem_append_left _ (List.mem_append_left _ (List.mem_append_right _ (h))))
set_option maxHeartbeats 4000000 in
set_option maxRecDepth 100000 in
theorem mX10_saw (l : Launch) (D : va_G) (cB cI cZ : ClassId) (a_t : Nat) (a_t_race : Nat) (a_t_kept : Nat) (a_t_trail : Nat) (a_t_doubts : Nat) (a_t_foretelling : Nat) (a_t_text : Nat) (a_t_listing : Nat) (a_t_race_way : Nat) (a_t_race_guns : Nat) (a_t_race_runners : Nat) (a_t_race_runners_facts : Nat) (a_t_race_runners_splits : Nat) (a_t_race_runners_torn : Nat) (a_t_race_runners_dropped : Nat) (a_t_race_runners_waved : Nat) (a_t_race_runners_struck : Nat) (a_t_race_runners_strikingOrder : Nat) (a_t_race_way_places : Nat) (a_t_race_way_bearings : Nat) (a_t_race_way_cuts : Nat) (a_t_race_way_deaths : Nat) (t_isKept : Int32) (t_race_runners_entered : Int32) (t_race_runners_strikings : Int32) (t_race_runners_splits : Nat → Int32) (t_race_runners_torn : Nat → Int32) (t_race_way_mats : Int32) (t_race_way_deaths : Nat → Int32) (sz : Nat) (x1 : Int32) (x2 : Int32) (x3 : Int32) (r0 : Int32) (t_race_runners_splits' : Nat → Int32) (h : fX10_saw t_race_runners_entered t_race_runners_splits t_race_runners_torn t_race_way_mats t_race_way_deaths x1 x2 x3 = some (r0, t_race_runners_splits')) : Met l yX10_saw wsX10_saw ({ frames := 3, cells := 0, slots := 0, locals := 65 } : Room) (va_Pc [.ref a_t, .int x1, .int x2, .int x3] (zPre D (zT cB cI cZ) [(a_t, .inr (10, [.ref a_t_race, .ref a_t_kept, .ref a_t_trail, .ref a_t_doubts, .ref a_t_foretelling, .ref a_t_text, .ref a_t_listing, .int t_isKept])), (a_t_race, .inr (4, [.ref a_t_race_way, .ref a_t_race_guns, .ref a_t_race_runners])), (a_t_race_runners, .inr (6, [.ref a_t_race_runners_facts, .ref a_t_race_runners_splits, .ref a_t_race_runners_torn, .ref a_t_race_runners_dropped, .ref a_t_race_runners_waved, .ref a_t_race_runners_struck, .ref a_t_race_runners_strikingOrder, .int t_race_runners_entered, .int t_race_runners_strikings])), (a_t_race_runners_splits, .inl (cI, 720, .inl t_race_runners_splits)), (a_t_race_runners_torn, .inl (cI, 60, .inl t_race_runners_torn)), (a_t_race_way, .inr (9, [.ref a_t_race_way_places, .ref a_t_race_way_bearings, .ref a_t_race_way_cuts, .ref a_t_race_way_deaths, .int t_race_way_mats])), (a_t_race_way_deaths, .inl (cZ, 12, .inl t_race_way_deaths))] sz)) (zQi r0 D (zT cB cI cZ) [(a_t, .inr (10, [.ref a_t_race, .ref a_t_kept, .ref a_t_trail, .ref a_t_doubts, .ref a_t_foretelling, .ref a_t_text, .ref a_t_listing, .int t_isKept])), (a_t_race, .inr (4, [.ref a_t_race_way, .ref a_t_race_guns, .ref a_t_race_runners])), (a_t_race_runners, .inr (6, [.ref a_t_race_runners_facts, .ref a_t_race_runners_splits, .ref a_t_race_runners_torn, .ref a_t_race_runners_dropped, .ref a_t_race_runners_waved, .ref a_t_race_runners_struck, .ref a_t_race_runners_strikingOrder, .int t_race_runners_entered, .int t_race_runners_strikings])), (a_t_race_runners_splits, .inl (cI, 720, .inl t_race_runners_splits')), (a_t_race_runners_torn, .inl (cI, 60, .inl t_race_runners_torn)), (a_t_race_way, .inr (9, [.ref a_t_race_way_places, .ref a_t_race_way_bearings, .ref a_t_race_way_cuts, .ref a_t_race_way_deaths, .int t_race_way_mats])), (a_t_race_way_deaths, .inl (cZ, 12, .inl t_race_way_deaths))] (va_A [(a_t, .inr (10, [.ref a_t_race, .ref a_t_kept, .ref a_t_trail, .ref a_t_doubts, .ref a_t_foretelling, .ref a_t_text, .ref a_t_listing, .int t_isKept])), (a_t_race, .inr (4, [.ref a_t_race_way, .ref a_t_race_guns, .ref a_t_race_runners])), (a_t_race_runners, .inr (6, [.ref a_t_race_runners_facts, .ref a_t_race_runners_splits, .ref a_t_race_runners_torn, .ref a_t_race_runners_dropped, .ref a_t_race_runners_waved, .ref a_t_race_runners_struck, .ref a_t_race_runners_strikingOrder, .int t_race_runners_entered, .int t_race_runners_strikings])), (a_t_race_runners_splits, .inl (cI, 720, .inl t_race_runners_splits)), (a_t_race_runners_torn, .inl (cI, 60, .inl t_race_runners_torn)), (a_t_race_way, .inr (9, [.ref a_t_race_way_places, .ref a_t_race_way_bearings, .ref a_t_race_way_cuts, .ref a_t_race_way_deaths, .int t_race_way_mats])), (a_t_race_way_deaths, .inl (cZ, 12, .inl t_race_way_deaths))] sz)) 0 0 (va_A [(a_t, .inr (10, [.ref a_t_race, .ref a_t_kept, .ref a_t_trail, .ref a_t_doubts, .ref a_t_foretelling, .ref a_t_text, .ref a_t_listing, .int t_isKept])), (a_t_race, .inr (4, [.ref a_t_race_way, .ref a_t_race_guns, .ref a_t_race_runners])), (a_t_race_runners, .inr (6, [.ref a_t_race_runners_facts, .ref a_t_race_runners_splits, .ref a_t_race_runners_torn, .ref a_t_race_runners_dropped, .ref a_t_race_runners_waved, .ref a_t_race_runners_struck, .ref a_t_race_runners_strikingOrder, .int t_race_runners_entered, .int t_race_runners_strikings])), (a_t_race_runners_splits, .inl (cI, 720, .inl t_race_runners_splits)), (a_t_race_runners_torn, .inl (cI, 60, .inl t_race_runners_torn)), (a_t_race_way, .inr (9, [.ref a_t_race_way_places, .ref a_t_race_way_bearings, .ref a_t_race_way_cuts, .ref a_t_race_way_deaths, .int t_race_way_mats])), (a_t_race_way_deaths, .inl (cZ, 12, .inl t_race_way_deaths))] sz) := by
  refine Met.ofW (cc := cX10_saw) (maxL := 4) (ret := (some .int)) (by decide) rfl ?_
  intro p e s m args below meth c s₁ B hml hv
  obtain ⟨rfl, hsz, hP, hK, hN, hZ, hD0⟩ := hv
  have hx := B.exec
  have hb := B.bytes
  have hr := B.returns
  have hts := atoms_spec (ws := wsX10_saw) B.pre
  have hown : s.vm.findClass RX10 = some m.cls := findClass_of_methodNamed B.named
  have hlocks := B.notSynchronized
  subst hsz
  have hD := hD0.self (sz := s.heap.size)
  generalize hAe : va_A [(a_t, .inr (10, [.ref a_t_race, .ref a_t_kept, .ref a_t_trail, .ref a_t_doubts, .ref a_t_foretelling, .ref a_t_text, .ref a_t_listing, .int t_isKept])), (a_t_race, .inr (4, [.ref a_t_race_way, .ref a_t_race_guns, .ref a_t_race_runners])), (a_t_race_runners, .inr (6, [.ref a_t_race_runners_facts, .ref a_t_race_runners_splits, .ref a_t_race_runners_torn, .ref a_t_race_runners_dropped, .ref a_t_race_runners_waved, .ref a_t_race_runners_struck, .ref a_t_race_runners_strikingOrder, .int t_race_runners_entered, .int t_race_runners_strikings])), (a_t_race_runners_splits, .inl (cI, 720, .inl t_race_runners_splits)), (a_t_race_runners_torn, .inl (cI, 60, .inl t_race_runners_torn)), (a_t_race_way, .inr (9, [.ref a_t_race_way_places, .ref a_t_race_way_bearings, .ref a_t_race_way_cuts, .ref a_t_race_way_deaths, .int t_race_way_mats])), (a_t_race_way_deaths, .inl (cZ, 12, .inl t_race_way_deaths))] s.heap.size = A at hD hZ ⊢
  have hA : ∀ q : Nat, s.heap.size ≤ q → A q := fun q h => by rw [← hAe]; exact Or.inr h
  have hS : va_S A s.heap s.heap [] := va_S.rf
  have hl := lv_entry ([.ref a_t, .int x1, .int x2, .int x3]) (n := 4) (Nat.le_of_ble_eq_true rfl)
  rw [lg_entry_eq]
  generalize (lg_sl ([.ref a_t, .int x1, .int x2, .int x3]) ++ List.replicate (4 - (lg_sl ([.ref a_t, .int x1, .int x2, .int x3])).length) Slot.unset).toArray = ls at hl ⊢
  have hl : lv_has ls 4 [(0, .ref a_t), (1, .int x1), (2, .int x2), (3, .int x3)] := hl
  unfold fX10_saw at h
  refine lv_aload_n hx hb dX10_saw_0 rfl (lv_at hl 0 rfl) ?_
  refine va_get (D := D) (ci := 10) (C := RX10) (T := TX10) (N := 8) hx hb hts qX10_saw_X10 hown hK hP 0 rfl rfl 0 (by decide) (hts _ kX10_saw_0) (fun _ h9 => h9) rfl dX10_saw_1 ?_
  refine lv_iload_n hx hb dX10_saw_4 rfl (lv_at hl 1 rfl) ?_
  refine lv_iload_n hx hb dX10_saw_5 rfl (lv_at hl 2 rfl) ?_
  obtain ⟨b1, e2, h⟩ := zz_b h
  refine zVi (As := [.int x1, .int x2]) (rest := []) (C := RX4) (wr := [(a_t, .inr (10, [.ref a_t_race, .ref a_t_kept, .ref a_t_trail, .ref a_t_doubts, .ref a_t_foretelling, .ref a_t_text, .ref a_t_listing, .int t_isKept])), (a_t_race_runners_splits, .inl (cI, 720, .inl t_race_runners_splits)), (a_t_race_runners_torn, .inl (cI, 60, .inl t_race_runners_torn)), (a_t_race_way_deaths, .inl (cZ, 12, .inl t_race_way_deaths))]) [1, 2, 5] [0, 3, 4, 6] 0 ⟨hx, hb, hml, hown, hts⟩ (mX4_hasCell l D cB cI cZ a_t_race a_t_race_way a_t_race_guns a_t_race_runners a_t_race_runners_facts a_t_race_runners_splits a_t_race_runners_torn a_t_race_runners_dropped a_t_race_runners_waved a_t_race_runners_struck a_t_race_runners_strikingOrder a_t_race_way_places a_t_race_way_bearings a_t_race_way_cuts a_t_race_way_deaths t_race_runners_entered t_race_runners_strikings t_race_way_mats s.heap.size x1 x2 b1 e2) (cwV 2 hts gX10_saw_X4_hasCell rfl rfl rfl (by decide +kernel) ⟨Nat.le_of_ble_eq_true rfl, Nat.le_of_ble_eq_true rfl⟩) hK hN hZ hP hD hS hA rfl rfl rfl rfl rfl rfl rfl rfl hl.1 rfl (lv_room (Nat.le_of_ble_eq_true rfl)) dX10_saw_6 ⟨Nat.le_of_ble_eq_true rfl, Nat.le_of_ble_eq_true rfl⟩ (fun H locs hP hD hS => ?_)
  have hP : va_P D vwCl [(a_t, .inr (10, [.ref a_t_race, .ref a_t_kept, .ref a_t_trail, .ref a_t_doubts, .ref a_t_foretelling, .ref a_t_text, .ref a_t_listing, .int t_isKept])), (a_t_race_runners_splits, .inl (cI, 720, .inl t_race_runners_splits)), (a_t_race_runners_torn, .inl (cI, 60, .inl t_race_runners_torn)), (a_t_race_way_deaths, .inl (cZ, 12, .inl t_race_way_deaths)), (a_t_race, .inr (4, [.ref a_t_race_way, .ref a_t_race_guns, .ref a_t_race_runners])), (a_t_race_runners, .inr (6, [.ref a_t_race_runners_facts, .ref a_t_race_runners_splits, .ref a_t_race_runners_torn, .ref a_t_race_runners_dropped, .ref a_t_race_runners_waved, .ref a_t_race_runners_struck, .ref a_t_race_runners_strikingOrder, .int t_race_runners_entered, .int t_race_runners_strikings])), (a_t_race_way, .inr (9, [.ref a_t_race_way_places, .ref a_t_race_way_bearings, .ref a_t_race_way_cuts, .ref a_t_race_way_deaths, .int t_race_way_mats]))] H := hP
  have hD : va_D A [(a_t, .inr (10, [.ref a_t_race, .ref a_t_kept, .ref a_t_trail, .ref a_t_doubts, .ref a_t_foretelling, .ref a_t_text, .ref a_t_listing, .int t_isKept])), (a_t_race_runners_splits, .inl (cI, 720, .inl t_race_runners_splits)), (a_t_race_runners_torn, .inl (cI, 60, .inl t_race_runners_torn)), (a_t_race_way_deaths, .inl (cZ, 12, .inl t_race_way_deaths)), (a_t_race, .inr (4, [.ref a_t_race_way, .ref a_t_race_guns, .ref a_t_race_runners])), (a_t_race_runners, .inr (6, [.ref a_t_race_runners_facts, .ref a_t_race_runners_splits, .ref a_t_race_runners_torn, .ref a_t_race_runners_dropped, .ref a_t_race_runners_waved, .ref a_t_race_runners_struck, .ref a_t_race_runners_strikingOrder, .int t_race_runners_entered, .int t_race_runners_strikings])), (a_t_race_way, .inr (9, [.ref a_t_race_way_places, .ref a_t_race_way_bearings, .ref a_t_race_way_cuts, .ref a_t_race_way_deaths, .int t_race_way_mats]))] := hD
  refine lv_if_eq (tgt := 22) hx hb dX10_saw_9 (by decide) (fun c3 => ?_) (fun c3 => ?_)
  · have h := zz_t h c3
    refine lv_iconst (v := (-1 : Int32)) hx hb dX10_saw_22 rfl ?_
    obtain ⟨j0_, g_⟩ := Prod.mk.inj (Option.some.inj h)
    have j1_ := g_
    subst j0_
    subst j1_
    exact W.iret (v := (-1 : Int32)) hx hb hr (fun t ht hW => ⟨⟨_, (), rfl, rfl, zPost.of hP hD hK ht hW [0, 4, 5, 1, 2, 6, 3] rfl rfl rfl⟩, hS.F ht⟩) hS.2.2 dX10_saw_23
  · have h := zz_f h c3
    refine lv_iload_n hx hb dX10_saw_12 rfl (lv_at hl 3 rfl) ?_
    refine lv_iconst (v := (0 : Int32)) hx hb dX10_saw_13 rfl ?_
    refine lv_ldc (v := (40000 : Int32)) hx hb hown (hts _ kX10_saw_2) dX10_saw_14 ?_
    obtain ⟨b4, e5, h⟩ := zz_b h
    refine zSi (As := [.int x3, .int (0 : Int32), .int (40000 : Int32)]) (rest := []) (wr := [(a_t, .inr (10, [.ref a_t_race, .ref a_t_kept, .ref a_t_trail, .ref a_t_doubts, .ref a_t_foretelling, .ref a_t_text, .ref a_t_listing, .int t_isKept])), (a_t_race_runners_splits, .inl (cI, 720, .inl t_race_runners_splits)), (a_t_race_runners_torn, .inl (cI, 60, .inl t_race_runners_torn)), (a_t_race_way_deaths, .inl (cZ, 12, .inl t_race_way_deaths)), (a_t_race, .inr (4, [.ref a_t_race_way, .ref a_t_race_guns, .ref a_t_race_runners])), (a_t_race_runners, .inr (6, [.ref a_t_race_runners_facts, .ref a_t_race_runners_splits, .ref a_t_race_runners_torn, .ref a_t_race_runners_dropped, .ref a_t_race_runners_waved, .ref a_t_race_runners_struck, .ref a_t_race_runners_strikingOrder, .int t_race_runners_entered, .int t_race_runners_strikings])), (a_t_race_way, .inr (9, [.ref a_t_race_way_places, .ref a_t_race_way_bearings, .ref a_t_race_way_cuts, .ref a_t_race_way_deaths, .int t_race_way_mats]))]) [] [0, 1, 2, 3, 4, 5, 6] ⟨hx, hb, hml, hown, hts⟩ (mX10_within l D cB cI cZ H.size x3 (0 : Int32) (40000 : Int32) b4 e5) (va_cwS 3 hts gX10_saw_X10_within rfl rfl rfl (by decide +kernel) ⟨Nat.le_of_ble_eq_true rfl, Nat.le_of_ble_eq_true rfl⟩) hK hN hZ hP hD hS hA rfl rfl rfl rfl rfl rfl hl.1 rfl (lv_room (Nat.le_of_ble_eq_true rfl)) dX10_saw_16 ⟨Nat.le_of_ble_eq_true rfl, Nat.le_of_ble_eq_true rfl⟩ (fun H locs hP hD hS => ?_)
    have hP : va_P D vwCl [(a_t, .inr (10, [.ref a_t_race, .ref a_t_kept, .ref a_t_trail, .ref a_t_doubts, .ref a_t_foretelling, .ref a_t_text, .ref a_t_listing, .int t_isKept])), (a_t_race_runners_splits, .inl (cI, 720, .inl t_race_runners_splits)), (a_t_race_runners_torn, .inl (cI, 60, .inl t_race_runners_torn)), (a_t_race_way_deaths, .inl (cZ, 12, .inl t_race_way_deaths)), (a_t_race, .inr (4, [.ref a_t_race_way, .ref a_t_race_guns, .ref a_t_race_runners])), (a_t_race_runners, .inr (6, [.ref a_t_race_runners_facts, .ref a_t_race_runners_splits, .ref a_t_race_runners_torn, .ref a_t_race_runners_dropped, .ref a_t_race_runners_waved, .ref a_t_race_runners_struck, .ref a_t_race_runners_strikingOrder, .int t_race_runners_entered, .int t_race_runners_strikings])), (a_t_race_way, .inr (9, [.ref a_t_race_way_places, .ref a_t_race_way_bearings, .ref a_t_race_way_cuts, .ref a_t_race_way_deaths, .int t_race_way_mats]))] H := hP
    have hD : va_D A [(a_t, .inr (10, [.ref a_t_race, .ref a_t_kept, .ref a_t_trail, .ref a_t_doubts, .ref a_t_foretelling, .ref a_t_text, .ref a_t_listing, .int t_isKept])), (a_t_race_runners_splits, .inl (cI, 720, .inl t_race_runners_splits)), (a_t_race_runners_torn, .inl (cI, 60, .inl t_race_runners_torn)), (a_t_race_way_deaths, .inl (cZ, 12, .inl t_race_way_deaths)), (a_t_race, .inr (4, [.ref a_t_race_way, .ref a_t_race_guns, .ref a_t_race_runners])), (a_t_race_runners, .inr (6, [.ref a_t_race_runners_facts, .ref a_t_race_runners_splits, .ref a_t_race_runners_torn, .ref a_t_race_runners_dropped, .ref a_t_race_runners_waved, .ref a_t_race_runners_struck, .ref a_t_race_runners_strikingOrder, .int t_race_runners_entered, .int t_race_runners_strikings])), (a_t_race_way, .inr (9, [.ref a_t_race_way_places, .ref a_t_race_way_bearings, .ref a_t_race_way_cuts, .ref a_t_race_way_deaths, .int t_race_way_mats]))] := hD
    refine lv_if_ne (tgt := 24) hx hb dX10_saw_19 (by decide) (fun c6 => ?_) (fun c6 => ?_)
    · have h := zz_f h c6
      refine lv_aload_n hx hb dX10_saw_24 rfl (lv_at hl 0 rfl) ?_
      refine va_get (D := D) (ci := 10) (C := RX10) (T := TX10) (N := 8) hx hb hts qX10_saw_X10 hown hK hP 0 rfl rfl 0 (by decide) (hts _ kX10_saw_0) (fun _ h9 => h9) rfl dX10_saw_25 ?_
      refine va_getN (host := "RunDesk") (D := D) (ci := 4) (C := RX4) (T := TX4) (N := 3) hx hb hts qX10_saw_X4 hown hK hP 4 rfl rfl 0 (by decide) (va_Nw.use rfl (hN _ (List.mem_of_getElem? (i := 0) rfl))) (fun _ h9 => h9) rfl dX10_saw_28 ?_
      refine lv_iload_n hx hb dX10_saw_31 rfl (lv_at hl 2 rfl) ?_
      obtain ⟨b7, e8, h⟩ := zz_b h
      refine zVi (As := [.int x2]) (rest := []) (C := RX9) (wr := [(a_t, .inr (10, [.ref a_t_race, .ref a_t_kept, .ref a_t_trail, .ref a_t_doubts, .ref a_t_foretelling, .ref a_t_text, .ref a_t_listing, .int t_isKept])), (a_t_race_runners_splits, .inl (cI, 720, .inl t_race_runners_splits)), (a_t_race_runners_torn, .inl (cI, 60, .inl t_race_runners_torn)), (a_t_race, .inr (4, [.ref a_t_race_way, .ref a_t_race_guns, .ref a_t_race_runners])), (a_t_race_runners, .inr (6, [.ref a_t_race_runners_facts, .ref a_t_race_runners_splits, .ref a_t_race_runners_torn, .ref a_t_race_runners_dropped, .ref a_t_race_runners_waved, .ref a_t_race_runners_struck, .ref a_t_race_runners_strikingOrder, .int t_race_runners_entered, .int t_race_runners_strikings]))]) [6, 3] [0, 1, 2, 4, 5] 0 ⟨hx, hb, hml, hown, hts⟩ (mX9_isDead l D cB cI cZ a_t_race_way a_t_race_way_places a_t_race_way_bearings a_t_race_way_cuts a_t_race_way_deaths t_race_way_mats t_race_way_deaths H.size x2 b7 e8) (cwV 1 hts gX10_saw_X9_isDead rfl rfl rfl (by decide +kernel) ⟨Nat.le_of_ble_eq_true rfl, Nat.le_of_ble_eq_true rfl⟩) hK hN hZ hP hD hS hA rfl rfl rfl rfl rfl rfl rfl rfl hl.1 rfl (lv_room (Nat.le_of_ble_eq_true rfl)) dX10_saw_32 ⟨Nat.le_of_ble_eq_true rfl, Nat.le_of_ble_eq_true rfl⟩ (fun H locs hP hD hS => ?_)
      have hP : va_P D vwCl [(a_t, .inr (10, [.ref a_t_race, .ref a_t_kept, .ref a_t_trail, .ref a_t_doubts, .ref a_t_foretelling, .ref a_t_text, .ref a_t_listing, .int t_isKept])), (a_t_race_runners_splits, .inl (cI, 720, .inl t_race_runners_splits)), (a_t_race_runners_torn, .inl (cI, 60, .inl t_race_runners_torn)), (a_t_race, .inr (4, [.ref a_t_race_way, .ref a_t_race_guns, .ref a_t_race_runners])), (a_t_race_runners, .inr (6, [.ref a_t_race_runners_facts, .ref a_t_race_runners_splits, .ref a_t_race_runners_torn, .ref a_t_race_runners_dropped, .ref a_t_race_runners_waved, .ref a_t_race_runners_struck, .ref a_t_race_runners_strikingOrder, .int t_race_runners_entered, .int t_race_runners_strikings])), (a_t_race_way, .inr (9, [.ref a_t_race_way_places, .ref a_t_race_way_bearings, .ref a_t_race_way_cuts, .ref a_t_race_way_deaths, .int t_race_way_mats])), (a_t_race_way_deaths, .inl (cZ, 12, .inl t_race_way_deaths))] H := hP
      have hD : va_D A [(a_t, .inr (10, [.ref a_t_race, .ref a_t_kept, .ref a_t_trail, .ref a_t_doubts, .ref a_t_foretelling, .ref a_t_text, .ref a_t_listing, .int t_isKept])), (a_t_race_runners_splits, .inl (cI, 720, .inl t_race_runners_splits)), (a_t_race_runners_torn, .inl (cI, 60, .inl t_race_runners_torn)), (a_t_race, .inr (4, [.ref a_t_race_way, .ref a_t_race_guns, .ref a_t_race_runners])), (a_t_race_runners, .inr (6, [.ref a_t_race_runners_facts, .ref a_t_race_runners_splits, .ref a_t_race_runners_torn, .ref a_t_race_runners_dropped, .ref a_t_race_runners_waved, .ref a_t_race_runners_struck, .ref a_t_race_runners_strikingOrder, .int t_race_runners_entered, .int t_race_runners_strikings])), (a_t_race_way, .inr (9, [.ref a_t_race_way_places, .ref a_t_race_way_bearings, .ref a_t_race_way_cuts, .ref a_t_race_way_deaths, .int t_race_way_mats])), (a_t_race_way_deaths, .inl (cZ, 12, .inl t_race_way_deaths))] := hD
      refine lv_if_ne (tgt := 53) hx hb dX10_saw_35 (by decide) (fun c9 => ?_) (fun c9 => ?_)
      · have h := zz_f h c9
        refine lv_iconst (v := (-1 : Int32)) hx hb dX10_saw_53 rfl ?_
        obtain ⟨j0_, g_⟩ := Prod.mk.inj (Option.some.inj h)
        have j1_ := g_
        subst j0_
        subst j1_
        exact W.iret (v := (-1 : Int32)) hx hb hr (fun t ht hW => ⟨⟨_, (), rfl, rfl, zPost.of hP hD hK ht hW [0, 3, 4, 1, 2, 5, 6] rfl rfl rfl⟩, hS.F ht⟩) hS.2.2 dX10_saw_54
      · have h := zz_t h c9
        refine lv_aload_n hx hb dX10_saw_38 rfl (lv_at hl 0 rfl) ?_
        refine va_get (D := D) (ci := 10) (C := RX10) (T := TX10) (N := 8) hx hb hts qX10_saw_X10 hown hK hP 0 rfl rfl 0 (by decide) (hts _ kX10_saw_0) (fun _ h9 => h9) rfl dX10_saw_39 ?_
        refine va_getN (host := "RunDesk") (D := D) (ci := 4) (C := RX4) (T := TX4) (N := 3) hx hb hts qX10_saw_X4 hown hK hP 3 rfl rfl 2 (by decide) (va_Nw.use rfl (hN _ (List.mem_of_getElem? (i := 10) rfl))) (fun _ h9 => h9) rfl dX10_saw_42 ?_
        refine lv_iload_n hx hb dX10_saw_45 rfl (lv_at hl 1 rfl) ?_
        refine lv_iload_n hx hb dX10_saw_46 rfl (lv_at hl 2 rfl) ?_
        obtain ⟨b10, e11, h⟩ := zz_b h
        refine zVi (As := [.int x1, .int x2]) (rest := []) (C := RX6) (wr := [(a_t, .inr (10, [.ref a_t_race, .ref a_t_kept, .ref a_t_trail, .ref a_t_doubts, .ref a_t_foretelling, .ref a_t_text, .ref a_t_listing, .int t_isKept])), (a_t_race_runners_splits, .inl (cI, 720, .inl t_race_runners_splits)), (a_t_race, .inr (4, [.ref a_t_race_way, .ref a_t_race_guns, .ref a_t_race_runners])), (a_t_race_way, .inr (9, [.ref a_t_race_way_places, .ref a_t_race_way_bearings, .ref a_t_race_way_cuts, .ref a_t_race_way_deaths, .int t_race_way_mats])), (a_t_race_way_deaths, .inl (cZ, 12, .inl t_race_way_deaths))]) [4, 2] [0, 1, 3, 5, 6] 0 ⟨hx, hb, hml, hown, hts⟩ (mX6_isTorn l D cB cI cZ a_t_race_runners a_t_race_runners_facts a_t_race_runners_splits a_t_race_runners_torn a_t_race_runners_dropped a_t_race_runners_waved a_t_race_runners_struck a_t_race_runners_strikingOrder t_race_runners_entered t_race_runners_strikings t_race_runners_torn H.size x1 x2 b10 e11) (cwV 2 hts gX10_saw_X6_isTorn rfl rfl rfl (by decide +kernel) ⟨Nat.le_of_ble_eq_true rfl, Nat.le_of_ble_eq_true rfl⟩) hK hN hZ hP hD hS hA rfl rfl rfl rfl rfl rfl rfl rfl hl.1 rfl (lv_room (Nat.le_of_ble_eq_true rfl)) dX10_saw_47 ⟨Nat.le_of_ble_eq_true rfl, Nat.le_of_ble_eq_true rfl⟩ (fun H locs hP hD hS => ?_)
        have hP : va_P D vwCl [(a_t, .inr (10, [.ref a_t_race, .ref a_t_kept, .ref a_t_trail, .ref a_t_doubts, .ref a_t_foretelling, .ref a_t_text, .ref a_t_listing, .int t_isKept])), (a_t_race_runners_splits, .inl (cI, 720, .inl t_race_runners_splits)), (a_t_race, .inr (4, [.ref a_t_race_way, .ref a_t_race_guns, .ref a_t_race_runners])), (a_t_race_way, .inr (9, [.ref a_t_race_way_places, .ref a_t_race_way_bearings, .ref a_t_race_way_cuts, .ref a_t_race_way_deaths, .int t_race_way_mats])), (a_t_race_way_deaths, .inl (cZ, 12, .inl t_race_way_deaths)), (a_t_race_runners, .inr (6, [.ref a_t_race_runners_facts, .ref a_t_race_runners_splits, .ref a_t_race_runners_torn, .ref a_t_race_runners_dropped, .ref a_t_race_runners_waved, .ref a_t_race_runners_struck, .ref a_t_race_runners_strikingOrder, .int t_race_runners_entered, .int t_race_runners_strikings])), (a_t_race_runners_torn, .inl (cI, 60, .inl t_race_runners_torn))] H := hP
        have hD : va_D A [(a_t, .inr (10, [.ref a_t_race, .ref a_t_kept, .ref a_t_trail, .ref a_t_doubts, .ref a_t_foretelling, .ref a_t_text, .ref a_t_listing, .int t_isKept])), (a_t_race_runners_splits, .inl (cI, 720, .inl t_race_runners_splits)), (a_t_race, .inr (4, [.ref a_t_race_way, .ref a_t_race_guns, .ref a_t_race_runners])), (a_t_race_way, .inr (9, [.ref a_t_race_way_places, .ref a_t_race_way_bearings, .ref a_t_race_way_cuts, .ref a_t_race_way_deaths, .int t_race_way_mats])), (a_t_race_way_deaths, .inl (cZ, 12, .inl t_race_way_deaths)), (a_t_race_runners, .inr (6, [.ref a_t_race_runners_facts, .ref a_t_race_runners_splits, .ref a_t_race_runners_torn, .ref a_t_race_runners_dropped, .ref a_t_race_runners_waved, .ref a_t_race_runners_struck, .ref a_t_race_runners_strikingOrder, .int t_race_runners_entered, .int t_race_runners_strikings])), (a_t_race_runners_torn, .inl (cI, 60, .inl t_race_runners_torn))] := hD
        refine lv_if_eq (tgt := 55) hx hb dX10_saw_50 (by decide) (fun c12 => ?_) (fun c12 => ?_)
        · have h := zz_t h c12
          refine lv_aload_n hx hb dX10_saw_55 rfl (lv_at hl 0 rfl) ?_
          refine va_get (D := D) (ci := 10) (C := RX10) (T := TX10) (N := 8) hx hb hts qX10_saw_X10 hown hK hP 0 rfl rfl 0 (by decide) (hts _ kX10_saw_0) (fun _ h9 => h9) rfl dX10_saw_56 ?_
          refine va_getN (host := "RunDesk") (D := D) (ci := 4) (C := RX4) (T := TX4) (N := 3) hx hb hts qX10_saw_X4 hown hK hP 2 rfl rfl 2 (by decide) (va_Nw.use rfl (hN _ (List.mem_of_getElem? (i := 10) rfl))) (fun _ h9 => h9) rfl dX10_saw_59 ?_
          refine lv_iload_n hx hb dX10_saw_62 rfl (lv_at hl 1 rfl) ?_
          refine lv_iload_n hx hb dX10_saw_63 rfl (lv_at hl 2 rfl) ?_
          refine lv_iload_n hx hb dX10_saw_64 rfl (lv_at hl 3 rfl) ?_
          obtain ⟨⟨b13, t_race_runners_splits_r14⟩, e15, h⟩ := zz_b h
          dsimp only at h
          refine zVi (As := [.int x1, .int x2, .int x3]) (rest := []) (C := RX6) (wr := [(a_t, .inr (10, [.ref a_t_race, .ref a_t_kept, .ref a_t_trail, .ref a_t_doubts, .ref a_t_foretelling, .ref a_t_text, .ref a_t_listing, .int t_isKept])), (a_t_race, .inr (4, [.ref a_t_race_way, .ref a_t_race_guns, .ref a_t_race_runners])), (a_t_race_way, .inr (9, [.ref a_t_race_way_places, .ref a_t_race_way_bearings, .ref a_t_race_way_cuts, .ref a_t_race_way_deaths, .int t_race_way_mats])), (a_t_race_way_deaths, .inl (cZ, 12, .inl t_race_way_deaths)), (a_t_race_runners_torn, .inl (cI, 60, .inl t_race_runners_torn))]) [5, 1] [0, 2, 3, 4, 6] 0 ⟨hx, hb, hml, hown, hts⟩ (mX6_enterSplit l D cB cI cZ a_t_race_runners a_t_race_runners_facts a_t_race_runners_splits a_t_race_runners_torn a_t_race_runners_dropped a_t_race_runners_waved a_t_race_runners_struck a_t_race_runners_strikingOrder t_race_runners_entered t_race_runners_strikings t_race_runners_splits H.size x1 x2 x3 b13 t_race_runners_splits_r14 e15) (cwV 3 hts gX10_saw_X6_enterSplit rfl rfl rfl (by decide +kernel) ⟨Nat.le_of_ble_eq_true rfl, Nat.le_of_ble_eq_true rfl⟩) hK hN hZ hP hD hS hA rfl rfl rfl rfl rfl rfl rfl rfl hl.1 rfl (lv_room (Nat.le_of_ble_eq_true rfl)) dX10_saw_65 ⟨Nat.le_of_ble_eq_true rfl, Nat.le_of_ble_eq_true rfl⟩ (fun H locs hP hD hS => ?_)
          have hP : va_P D vwCl [(a_t, .inr (10, [.ref a_t_race, .ref a_t_kept, .ref a_t_trail, .ref a_t_doubts, .ref a_t_foretelling, .ref a_t_text, .ref a_t_listing, .int t_isKept])), (a_t_race, .inr (4, [.ref a_t_race_way, .ref a_t_race_guns, .ref a_t_race_runners])), (a_t_race_way, .inr (9, [.ref a_t_race_way_places, .ref a_t_race_way_bearings, .ref a_t_race_way_cuts, .ref a_t_race_way_deaths, .int t_race_way_mats])), (a_t_race_way_deaths, .inl (cZ, 12, .inl t_race_way_deaths)), (a_t_race_runners_torn, .inl (cI, 60, .inl t_race_runners_torn)), (a_t_race_runners, .inr (6, [.ref a_t_race_runners_facts, .ref a_t_race_runners_splits, .ref a_t_race_runners_torn, .ref a_t_race_runners_dropped, .ref a_t_race_runners_waved, .ref a_t_race_runners_struck, .ref a_t_race_runners_strikingOrder, .int t_race_runners_entered, .int t_race_runners_strikings])), (a_t_race_runners_splits, .inl (cI, 720, .inl t_race_runners_splits_r14))] H := hP
          have hD : va_D A [(a_t, .inr (10, [.ref a_t_race, .ref a_t_kept, .ref a_t_trail, .ref a_t_doubts, .ref a_t_foretelling, .ref a_t_text, .ref a_t_listing, .int t_isKept])), (a_t_race, .inr (4, [.ref a_t_race_way, .ref a_t_race_guns, .ref a_t_race_runners])), (a_t_race_way, .inr (9, [.ref a_t_race_way_places, .ref a_t_race_way_bearings, .ref a_t_race_way_cuts, .ref a_t_race_way_deaths, .int t_race_way_mats])), (a_t_race_way_deaths, .inl (cZ, 12, .inl t_race_way_deaths)), (a_t_race_runners_torn, .inl (cI, 60, .inl t_race_runners_torn)), (a_t_race_runners, .inr (6, [.ref a_t_race_runners_facts, .ref a_t_race_runners_splits, .ref a_t_race_runners_torn, .ref a_t_race_runners_dropped, .ref a_t_race_runners_waved, .ref a_t_race_runners_struck, .ref a_t_race_runners_strikingOrder, .int t_race_runners_entered, .int t_race_runners_strikings])), (a_t_race_runners_splits, .inl (cI, 720, .inl t_race_runners_splits_r14))] := hD
          refine lv_if_eq (tgt := 75) hx hb dX10_saw_68 (by decide) (fun c16 => ?_) (fun c16 => ?_)
          · have h := zz_t h c16
            refine lv_iconst (v := (0 : Int32)) hx hb dX10_saw_75 rfl ?_
            obtain ⟨j0_, g_⟩ := Prod.mk.inj (Option.some.inj h)
            have j1_ := g_
            subst j0_
            subst j1_
            exact W.iret (v := (0 : Int32)) hx hb hr (fun t ht hW => ⟨⟨_, (), rfl, rfl, zPost.of hP hD hK ht hW [0, 1, 5, 6, 4, 2, 3] rfl rfl rfl⟩, hS.F ht⟩) hS.2.2 dX10_saw_76
          · have h := zz_f h c16
            refine lv_iconst (v := (1 : Int32)) hx hb dX10_saw_71 rfl ?_
            refine lv_goto (tgt := 76) hx hb dX10_saw_72 (by decide) ?_
            obtain ⟨j0_, g_⟩ := Prod.mk.inj (Option.some.inj h)
            have j1_ := g_
            subst j0_
            subst j1_
            exact W.iret (v := (1 : Int32)) hx hb hr (fun t ht hW => ⟨⟨_, (), rfl, rfl, zPost.of hP hD hK ht hW [0, 1, 5, 6, 4, 2, 3] rfl rfl rfl⟩, hS.F ht⟩) hS.2.2 dX10_saw_76
        · have h := zz_f h c12
          refine lv_iconst (v := (-1 : Int32)) hx hb dX10_saw_53 rfl ?_
          obtain ⟨j0_, g_⟩ := Prod.mk.inj (Option.some.inj h)
          have j1_ := g_
          subst j0_
          subst j1_
          exact W.iret (v := (-1 : Int32)) hx hb hr (fun t ht hW => ⟨⟨_, (), rfl, rfl, zPost.of hP hD hK ht hW [0, 2, 5, 1, 6, 3, 4] rfl rfl rfl⟩, hS.F ht⟩) hS.2.2 dX10_saw_54
    · have h := zz_t h c6
      refine lv_iconst (v := (-1 : Int32)) hx hb dX10_saw_22 rfl ?_
      obtain ⟨j0_, g_⟩ := Prod.mk.inj (Option.some.inj h)
      have j1_ := g_
      subst j0_
      subst j1_
      exact W.iret (v := (-1 : Int32)) hx hb hr (fun t ht hW => ⟨⟨_, (), rfl, rfl, zPost.of hP hD hK ht hW [0, 4, 5, 1, 2, 6, 3] rfl rfl rfl⟩, hS.F ht⟩) hS.2.2 dX10_saw_23
/-! RunDesk.dead -/
theorem dX10_dead_0 : decode cX10_dead 0 = .ok (.aload_n 0, 1) := by decide +kernel
theorem dX10_dead_1 : decode cX10_dead 1 = .ok (.getfield 10, 3) := by decide +kernel
theorem dX10_dead_4 : decode cX10_dead 4 = .ok (.getfield 58, 3) := by decide +kernel
theorem dX10_dead_7 : decode cX10_dead 7 = .ok (.iload_n 1, 1) := by decide +kernel
theorem dX10_dead_8 : decode cX10_dead 8 = .ok (.iload_n 2, 1) := by decide +kernel
theorem dX10_dead_9 : decode cX10_dead 9 = .ok (.invokevirtual 114, 3) := by decide +kernel
theorem dX10_dead_12 : decode cX10_dead 12 = .ok (.ireturn, 1) := by decide +kernel
set_option maxRecDepth 20000 in
theorem ggX10_dead_X9_setDead : GoodIn wsX10_dead wsX9_setDead := goodIn_r _ [6, 7, 8, 9, 10, 5, 11, 12, 24, 25, 26, 27, 28] (by decide +kernel) (by decide +kernel)
set_option maxRecDepth 20000 in
theorem gX10_dead_X9_setDead : GoodIn wsX10_dead (wsV RX10 114 RX9 yX9_setDead wsX9_setDead) := goodIn_app (goodIn_of _ (by decide +kernel)) ggX10_dead_X9_setDead
def fX10_dead (t_race_way_mats : Int32) (t_race_way_deaths : Nat → Int32) (x1 : Int32) (x2 : Int32) : Option (Bool × (Nat → Int32)) := ((fX9_setDead t_race_way_mats t_race_way_deaths x1 x2).bind (fun (b1, t_race_way_deaths_r2) => some (b1, t_race_way_deaths_r2)))
theorem kX10_dead_0 : (.fieldLink RX10 10 "RunDesk" "race" "LRunDesk$Race;" : Cond) ∈ wsX10_dead := List.mem_of_getElem? (i := 1) (by decide +kernel)
theorem qX10_dead_X10 : ∀ w ∈ wsX100, w ∈ wsX10_dead := fun _ h => List.mem_cons_of_mem _ (List.mem_append_left _ (List.mem_append_left _ (List.mem_append_right _ (h))))
theorem qX10_dead_X4 : ∀ w ∈ wsX40, w ∈ wsX10_dead := fun _ h => List.mem_cons_of_mem _ (List.mem_append_left _ (List.mem_append_right _ (h)))
set_option maxHeartbeats 4000000 in
set_option maxRecDepth 100000 in
theorem mX10_dead (l : Launch) (D : va_G) (cB cI cZ : ClassId) (a_t : Nat) (a_t_race : Nat) (a_t_kept : Nat) (a_t_trail : Nat) (a_t_doubts : Nat) (a_t_foretelling : Nat) (a_t_text : Nat) (a_t_listing : Nat) (a_t_race_way : Nat) (a_t_race_guns : Nat) (a_t_race_runners : Nat) (a_t_race_way_places : Nat) (a_t_race_way_bearings : Nat) (a_t_race_way_cuts : Nat) (a_t_race_way_deaths : Nat) (t_isKept : Int32) (t_race_way_mats : Int32) (t_race_way_deaths : Nat → Int32) (sz : Nat) (x1 : Int32) (x2 : Int32) (b0 : Bool) (t_race_way_deaths' : Nat → Int32) (h : fX10_dead t_race_way_mats t_race_way_deaths x1 x2 = some (b0, t_race_way_deaths')) : Met l yX10_dead wsX10_dead ({ frames := 2, cells := 0, slots := 0, locals := 43 } : Room) (va_Pc [.ref a_t, .int x1, .int x2] (zPre D (zT cB cI cZ) [(a_t, .inr (10, [.ref a_t_race, .ref a_t_kept, .ref a_t_trail, .ref a_t_doubts, .ref a_t_foretelling, .ref a_t_text, .ref a_t_listing, .int t_isKept])), (a_t_race, .inr (4, [.ref a_t_race_way, .ref a_t_race_guns, .ref a_t_race_runners])), (a_t_race_way, .inr (9, [.ref a_t_race_way_places, .ref a_t_race_way_bearings, .ref a_t_race_way_cuts, .ref a_t_race_way_deaths, .int t_race_way_mats])), (a_t_race_way_deaths, .inl (cZ, 12, .inl t_race_way_deaths))] sz)) (zQi (zb b0) D (zT cB cI cZ) [(a_t, .inr (10, [.ref a_t_race, .ref a_t_kept, .ref a_t_trail, .ref a_t_doubts, .ref a_t_foretelling, .ref a_t_text, .ref a_t_listing, .int t_isKept])), (a_t_race, .inr (4, [.ref a_t_race_way, .ref a_t_race_guns, .ref a_t_race_runners])), (a_t_race_way, .inr (9, [.ref a_t_race_way_places, .ref a_t_race_way_bearings, .ref a_t_race_way_cuts, .ref a_t_race_way_deaths, .int t_race_way_mats])), (a_t_race_way_deaths, .inl (cZ, 12, .inl t_race_way_deaths'))] (va_A [(a_t, .inr (10, [.ref a_t_race, .ref a_t_kept, .ref a_t_trail, .ref a_t_doubts, .ref a_t_foretelling, .ref a_t_text, .ref a_t_listing, .int t_isKept])), (a_t_race, .inr (4, [.ref a_t_race_way, .ref a_t_race_guns, .ref a_t_race_runners])), (a_t_race_way, .inr (9, [.ref a_t_race_way_places, .ref a_t_race_way_bearings, .ref a_t_race_way_cuts, .ref a_t_race_way_deaths, .int t_race_way_mats])), (a_t_race_way_deaths, .inl (cZ, 12, .inl t_race_way_deaths))] sz)) 0 0 (va_A [(a_t, .inr (10, [.ref a_t_race, .ref a_t_kept, .ref a_t_trail, .ref a_t_doubts, .ref a_t_foretelling, .ref a_t_text, .ref a_t_listing, .int t_isKept])), (a_t_race, .inr (4, [.ref a_t_race_way, .ref a_t_race_guns, .ref a_t_race_runners])), (a_t_race_way, .inr (9, [.ref a_t_race_way_places, .ref a_t_race_way_bearings, .ref a_t_race_way_cuts, .ref a_t_race_way_deaths, .int t_race_way_mats])), (a_t_race_way_deaths, .inl (cZ, 12, .inl t_race_way_deaths))] sz) := by
  refine Met.ofW (cc := cX10_dead) (maxL := 3) (ret := (some .boolean)) (by decide) rfl ?_
  intro p e s m args below meth c s₁ B hml hv
  obtain ⟨rfl, hsz, hP, hK, hN, hZ, hD0⟩ := hv
  have hx := B.exec
  have hb := B.bytes
  have hr := B.returns
  have hts := atoms_spec (ws := wsX10_dead) B.pre
  have hown : s.vm.findClass RX10 = some m.cls := findClass_of_methodNamed B.named
  have hlocks := B.notSynchronized
  subst hsz
  have hD := hD0.self (sz := s.heap.size)
  generalize hAe : va_A [(a_t, .inr (10, [.ref a_t_race, .ref a_t_kept, .ref a_t_trail, .ref a_t_doubts, .ref a_t_foretelling, .ref a_t_text, .ref a_t_listing, .int t_isKept])), (a_t_race, .inr (4, [.ref a_t_race_way, .ref a_t_race_guns, .ref a_t_race_runners])), (a_t_race_way, .inr (9, [.ref a_t_race_way_places, .ref a_t_race_way_bearings, .ref a_t_race_way_cuts, .ref a_t_race_way_deaths, .int t_race_way_mats])), (a_t_race_way_deaths, .inl (cZ, 12, .inl t_race_way_deaths))] s.heap.size = A at hD hZ ⊢
  have hA : ∀ q : Nat, s.heap.size ≤ q → A q := fun q h => by rw [← hAe]; exact Or.inr h
  have hS : va_S A s.heap s.heap [] := va_S.rf
  have hl := lv_entry ([.ref a_t, .int x1, .int x2]) (n := 3) (Nat.le_of_ble_eq_true rfl)
  rw [lg_entry_eq]
  generalize (lg_sl ([.ref a_t, .int x1, .int x2]) ++ List.replicate (3 - (lg_sl ([.ref a_t, .int x1, .int x2])).length) Slot.unset).toArray = ls at hl ⊢
  have hl : lv_has ls 3 [(0, .ref a_t), (1, .int x1), (2, .int x2)] := hl
  unfold fX10_dead at h
  refine lv_aload_n hx hb dX10_dead_0 rfl (lv_at hl 0 rfl) ?_
  refine va_get (D := D) (ci := 10) (C := RX10) (T := TX10) (N := 8) hx hb hts qX10_dead_X10 hown hK hP 0 rfl rfl 0 (by decide) (hts _ kX10_dead_0) (fun _ h9 => h9) rfl dX10_dead_1 ?_
  refine va_getN (host := "RunDesk") (D := D) (ci := 4) (C := RX4) (T := TX4) (N := 3) hx hb hts qX10_dead_X4 hown hK hP 1 rfl rfl 0 (by decide) (va_Nw.use rfl (hN _ (List.mem_of_getElem? (i := 0) rfl))) (fun _ h9 => h9) rfl dX10_dead_4 ?_
  refine lv_iload_n hx hb dX10_dead_7 rfl (lv_at hl 1 rfl) ?_
  refine lv_iload_n hx hb dX10_dead_8 rfl (lv_at hl 2 rfl) ?_
  obtain ⟨⟨b1, t_race_way_deaths_r2⟩, e3, h⟩ := zz_b h
  dsimp only at h
  refine zVi (As := [.int x1, .int x2]) (rest := []) (C := RX9) (wr := [(a_t, .inr (10, [.ref a_t_race, .ref a_t_kept, .ref a_t_trail, .ref a_t_doubts, .ref a_t_foretelling, .ref a_t_text, .ref a_t_listing, .int t_isKept])), (a_t_race, .inr (4, [.ref a_t_race_way, .ref a_t_race_guns, .ref a_t_race_runners]))]) [2, 3] [0, 1] 0 ⟨hx, hb, hml, hown, hts⟩ (mX9_setDead l D cB cI cZ a_t_race_way a_t_race_way_places a_t_race_way_bearings a_t_race_way_cuts a_t_race_way_deaths t_race_way_mats t_race_way_deaths s.heap.size x1 x2 b1 t_race_way_deaths_r2 e3) (cwV 2 hts gX10_dead_X9_setDead rfl rfl rfl (by decide +kernel) ⟨Nat.le_of_ble_eq_true rfl, Nat.le_of_ble_eq_true rfl⟩) hK hN hZ hP hD hS hA rfl rfl rfl rfl rfl rfl rfl rfl hl.1 rfl (lv_room (Nat.le_of_ble_eq_true rfl)) dX10_dead_9 ⟨Nat.le_of_ble_eq_true rfl, Nat.le_of_ble_eq_true rfl⟩ (fun H locs hP hD hS => ?_)
  have hP : va_P D vwCl [(a_t, .inr (10, [.ref a_t_race, .ref a_t_kept, .ref a_t_trail, .ref a_t_doubts, .ref a_t_foretelling, .ref a_t_text, .ref a_t_listing, .int t_isKept])), (a_t_race, .inr (4, [.ref a_t_race_way, .ref a_t_race_guns, .ref a_t_race_runners])), (a_t_race_way, .inr (9, [.ref a_t_race_way_places, .ref a_t_race_way_bearings, .ref a_t_race_way_cuts, .ref a_t_race_way_deaths, .int t_race_way_mats])), (a_t_race_way_deaths, .inl (cZ, 12, .inl t_race_way_deaths_r2))] H := hP
  have hD : va_D A [(a_t, .inr (10, [.ref a_t_race, .ref a_t_kept, .ref a_t_trail, .ref a_t_doubts, .ref a_t_foretelling, .ref a_t_text, .ref a_t_listing, .int t_isKept])), (a_t_race, .inr (4, [.ref a_t_race_way, .ref a_t_race_guns, .ref a_t_race_runners])), (a_t_race_way, .inr (9, [.ref a_t_race_way_places, .ref a_t_race_way_bearings, .ref a_t_race_way_cuts, .ref a_t_race_way_deaths, .int t_race_way_mats])), (a_t_race_way_deaths, .inl (cZ, 12, .inl t_race_way_deaths_r2))] := hD
  obtain ⟨j0_, g_⟩ := Prod.mk.inj (Option.some.inj h)
  have j1_ := g_
  subst j0_
  subst j1_
  exact W.zret (v := (zb b1)) hx hb hr zz_n (fun t ht hW => ⟨⟨_, (), rfl, rfl, zPost.of hP hD hK ht hW [0, 1, 2, 3] rfl rfl rfl⟩, hS.F ht⟩) hS.2.2 dX10_dead_12
/-! RunDesk.tear -/
theorem dX10_tear_0 : decode cX10_tear 0 = .ok (.aload_n 0, 1) := by decide +kernel
theorem dX10_tear_1 : decode cX10_tear 1 = .ok (.getfield 10, 3) := by decide +kernel
theorem dX10_tear_4 : decode cX10_tear 4 = .ok (.getfield 58, 3) := by decide +kernel
theorem dX10_tear_7 : decode cX10_tear 7 = .ok (.iload_n 2, 1) := by decide +kernel
theorem dX10_tear_8 : decode cX10_tear 8 = .ok (.invokevirtual 118, 3) := by decide +kernel
theorem dX10_tear_11 : decode cX10_tear 11 = .ok (.ifCond .eq 22, 3) := by decide +kernel
theorem dX10_tear_14 : decode cX10_tear 14 = .ok (.aload_n 0, 1) := by decide +kernel
theorem dX10_tear_15 : decode cX10_tear 15 = .ok (.getfield 10, 3) := by decide +kernel
theorem dX10_tear_18 : decode cX10_tear 18 = .ok (.getfield 77, 3) := by decide +kernel
theorem dX10_tear_21 : decode cX10_tear 21 = .ok (.iload_n 1, 1) := by decide +kernel
theorem dX10_tear_22 : decode cX10_tear 22 = .ok (.iload_n 2, 1) := by decide +kernel
theorem dX10_tear_23 : decode cX10_tear 23 = .ok (.invokevirtual 121, 3) := by decide +kernel
theorem dX10_tear_26 : decode cX10_tear 26 = .ok (.ifCond .eq 7, 3) := by decide +kernel
theorem dX10_tear_29 : decode cX10_tear 29 = .ok (.iconst 1, 1) := by decide +kernel
theorem dX10_tear_30 : decode cX10_tear 30 = .ok (.goto 4, 3) := by decide +kernel
theorem dX10_tear_33 : decode cX10_tear 33 = .ok (.iconst 0, 1) := by decide +kernel
theorem dX10_tear_34 : decode cX10_tear 34 = .ok (.ireturn, 1) := by decide +kernel
set_option maxRecDepth 20000 in
theorem ggX10_tear_X9_has : GoodIn wsX10_tear wsX9_has := goodIn_r _ [6, 7, 42, 43, 44, 45, 46] (by decide +kernel) (by decide +kernel)
set_option maxRecDepth 20000 in
theorem gX10_tear_X9_has : GoodIn wsX10_tear (wsV RX10 118 RX9 yX9_has wsX9_has) := goodIn_app (goodIn_of _ (by decide +kernel)) ggX10_tear_X9_has
set_option maxRecDepth 20000 in
theorem ggX10_tear_X6_tearFrom : GoodIn wsX10_tear wsX6_tearFrom := goodIn_r _ [12, 13, 14, 15, 16, 17, 11, 18, 19, 20, 21, 22, 23, 24, 25, 26, 27, 28, 29, 30, 47, 48, 49, 50, 51, 52, 53, 54, 55] (by decide +kernel) (by decide +kernel)
set_option maxRecDepth 20000 in
theorem gX10_tear_X6_tearFrom : GoodIn wsX10_tear (wsV RX10 121 RX6 yX6_tearFrom wsX6_tearFrom) := goodIn_app (goodIn_of _ (by decide +kernel)) ggX10_tear_X6_tearFrom
def fX10_tear (N : Nat) (t_race_runners_entered : Int32) (t_race_runners_splits : Nat → Int32) (t_race_runners_torn : Nat → Int32) (t_race_way_mats : Int32) (x1 : Int32) (x2 : Int32) : Option (Bool × (Nat → Int32) × (Nat → Int32)) := ((fX9_has t_race_way_mats x2).bind (fun b1 => (if (zb b1) = 0 then some (false, t_race_runners_splits, t_race_runners_torn) else ((fX6_tearFrom N t_race_runners_entered t_race_runners_splits t_race_runners_torn x1 x2).bind (fun (b4, t_race_runners_splits_r5, t_race_runners_torn_r6) => (if (zb b4) = 0 then some (false, t_race_runners_splits_r5, t_race_runners_torn_r6) else some (true, t_race_runners_splits_r5, t_race_runners_torn_r6)))))))
theorem kX10_tear_0 : (.fieldLink RX10 10 "RunDesk" "race" "LRunDesk$Race;" : Cond) ∈ wsX10_tear := List.mem_of_getElem? (i := 1) (by decide +kernel)
theorem qX10_tear_X10 : ∀ w ∈ wsX100, w ∈ wsX10_tear := fun _ h => List.mem_cons_of_mem _ (List.mem_append_left _ (List.mem_append_left _ (List.mem_append_left _ (List.mem_append_right _ (h)))))
theorem qX10_tear_X4 : ∀ w ∈ wsX40, w ∈ wsX10_tear := fun _ h => List.mem_cons_of_mem _ (List.mem_append_left _ (List.mem_append_left _ (List.mem_append_right _ (h))))
set_option maxHeartbeats 4000000 in
set_option maxRecDepth 100000 in
theorem mX10_tear (l : Launch) (D : va_G) (cB cI cZ : ClassId) (a_t : Nat) (a_t_race : Nat) (a_t_kept : Nat) (a_t_trail : Nat) (a_t_doubts : Nat) (a_t_foretelling : Nat) (a_t_text : Nat) (a_t_listing : Nat) (a_t_race_way : Nat) (a_t_race_guns : Nat) (a_t_race_runners : Nat) (a_t_race_runners_facts : Nat) (a_t_race_runners_splits : Nat) (a_t_race_runners_torn : Nat) (a_t_race_runners_dropped : Nat) (a_t_race_runners_waved : Nat) (a_t_race_runners_struck : Nat) (a_t_race_runners_strikingOrder : Nat) (a_t_race_way_places : Nat) (a_t_race_way_bearings : Nat) (a_t_race_way_cuts : Nat) (a_t_race_way_deaths : Nat) (t_isKept : Int32) (t_race_runners_entered : Int32) (t_race_runners_strikings : Int32) (t_race_runners_splits : Nat → Int32) (t_race_runners_torn : Nat → Int32) (t_race_way_mats : Int32) (sz : Nat) (x1 : Int32) (x2 : Int32) (N : Nat) (b0 : Bool) (t_race_runners_splits' : Nat → Int32) (t_race_runners_torn' : Nat → Int32) (h : fX10_tear N t_race_runners_entered t_race_runners_splits t_race_runners_torn t_race_way_mats x1 x2 = some (b0, t_race_runners_splits', t_race_runners_torn')) : Met l yX10_tear wsX10_tear ({ frames := 4, cells := 0, slots := 0, locals := 88 } : Room) (va_Pc [.ref a_t, .int x1, .int x2] (zPre D (zT cB cI cZ) [(a_t, .inr (10, [.ref a_t_race, .ref a_t_kept, .ref a_t_trail, .ref a_t_doubts, .ref a_t_foretelling, .ref a_t_text, .ref a_t_listing, .int t_isKept])), (a_t_race, .inr (4, [.ref a_t_race_way, .ref a_t_race_guns, .ref a_t_race_runners])), (a_t_race_runners, .inr (6, [.ref a_t_race_runners_facts, .ref a_t_race_runners_splits, .ref a_t_race_runners_torn, .ref a_t_race_runners_dropped, .ref a_t_race_runners_waved, .ref a_t_race_runners_struck, .ref a_t_race_runners_strikingOrder, .int t_race_runners_entered, .int t_race_runners_strikings])), (a_t_race_runners_splits, .inl (cI, 720, .inl t_race_runners_splits)), (a_t_race_runners_torn, .inl (cI, 60, .inl t_race_runners_torn)), (a_t_race_way, .inr (9, [.ref a_t_race_way_places, .ref a_t_race_way_bearings, .ref a_t_race_way_cuts, .ref a_t_race_way_deaths, .int t_race_way_mats]))] sz)) (zQi (zb b0) D (zT cB cI cZ) [(a_t, .inr (10, [.ref a_t_race, .ref a_t_kept, .ref a_t_trail, .ref a_t_doubts, .ref a_t_foretelling, .ref a_t_text, .ref a_t_listing, .int t_isKept])), (a_t_race, .inr (4, [.ref a_t_race_way, .ref a_t_race_guns, .ref a_t_race_runners])), (a_t_race_runners, .inr (6, [.ref a_t_race_runners_facts, .ref a_t_race_runners_splits, .ref a_t_race_runners_torn, .ref a_t_race_runners_dropped, .ref a_t_race_runners_waved, .ref a_t_race_runners_struck, .ref a_t_race_runners_strikingOrder, .int t_race_runners_entered, .int t_race_runners_strikings])), (a_t_race_runners_splits, .inl (cI, 720, .inl t_race_runners_splits')), (a_t_race_runners_torn, .inl (cI, 60, .inl t_race_runners_torn')), (a_t_race_way, .inr (9, [.ref a_t_race_way_places, .ref a_t_race_way_bearings, .ref a_t_race_way_cuts, .ref a_t_race_way_deaths, .int t_race_way_mats]))] (va_A [(a_t, .inr (10, [.ref a_t_race, .ref a_t_kept, .ref a_t_trail, .ref a_t_doubts, .ref a_t_foretelling, .ref a_t_text, .ref a_t_listing, .int t_isKept])), (a_t_race, .inr (4, [.ref a_t_race_way, .ref a_t_race_guns, .ref a_t_race_runners])), (a_t_race_runners, .inr (6, [.ref a_t_race_runners_facts, .ref a_t_race_runners_splits, .ref a_t_race_runners_torn, .ref a_t_race_runners_dropped, .ref a_t_race_runners_waved, .ref a_t_race_runners_struck, .ref a_t_race_runners_strikingOrder, .int t_race_runners_entered, .int t_race_runners_strikings])), (a_t_race_runners_splits, .inl (cI, 720, .inl t_race_runners_splits)), (a_t_race_runners_torn, .inl (cI, 60, .inl t_race_runners_torn)), (a_t_race_way, .inr (9, [.ref a_t_race_way_places, .ref a_t_race_way_bearings, .ref a_t_race_way_cuts, .ref a_t_race_way_deaths, .int t_race_way_mats]))] sz)) 0 0 (va_A [(a_t, .inr (10, [.ref a_t_race, .ref a_t_kept, .ref a_t_trail, .ref a_t_doubts, .ref a_t_foretelling, .ref a_t_text, .ref a_t_listing, .int t_isKept])), (a_t_race, .inr (4, [.ref a_t_race_way, .ref a_t_race_guns, .ref a_t_race_runners])), (a_t_race_runners, .inr (6, [.ref a_t_race_runners_facts, .ref a_t_race_runners_splits, .ref a_t_race_runners_torn, .ref a_t_race_runners_dropped, .ref a_t_race_runners_waved, .ref a_t_race_runners_struck, .ref a_t_race_runners_strikingOrder, .int t_race_runners_entered, .int t_race_runners_strikings])), (a_t_race_runners_splits, .inl (cI, 720, .inl t_race_runners_splits)), (a_t_race_runners_torn, .inl (cI, 60, .inl t_race_runners_torn)), (a_t_race_way, .inr (9, [.ref a_t_race_way_places, .ref a_t_race_way_bearings, .ref a_t_race_way_cuts, .ref a_t_race_way_deaths, .int t_race_way_mats]))] sz) := by
  refine Met.ofW (cc := cX10_tear) (maxL := 3) (ret := (some .boolean)) (by decide) rfl ?_
  intro p e s m args below meth c s₁ B hml hv
  obtain ⟨rfl, hsz, hP, hK, hN, hZ, hD0⟩ := hv
  have hx := B.exec
  have hb := B.bytes
  have hr := B.returns
  have hts := atoms_spec (ws := wsX10_tear) B.pre
  have hown : s.vm.findClass RX10 = some m.cls := findClass_of_methodNamed B.named
  have hlocks := B.notSynchronized
  subst hsz
  have hD := hD0.self (sz := s.heap.size)
  generalize hAe : va_A [(a_t, .inr (10, [.ref a_t_race, .ref a_t_kept, .ref a_t_trail, .ref a_t_doubts, .ref a_t_foretelling, .ref a_t_text, .ref a_t_listing, .int t_isKept])), (a_t_race, .inr (4, [.ref a_t_race_way, .ref a_t_race_guns, .ref a_t_race_runners])), (a_t_race_runners, .inr (6, [.ref a_t_race_runners_facts, .ref a_t_race_runners_splits, .ref a_t_race_runners_torn, .ref a_t_race_runners_dropped, .ref a_t_race_runners_waved, .ref a_t_race_runners_struck, .ref a_t_race_runners_strikingOrder, .int t_race_runners_entered, .int t_race_runners_strikings])), (a_t_race_runners_splits, .inl (cI, 720, .inl t_race_runners_splits)), (a_t_race_runners_torn, .inl (cI, 60, .inl t_race_runners_torn)), (a_t_race_way, .inr (9, [.ref a_t_race_way_places, .ref a_t_race_way_bearings, .ref a_t_race_way_cuts, .ref a_t_race_way_deaths, .int t_race_way_mats]))] s.heap.size = A at hD hZ ⊢
  have hA : ∀ q : Nat, s.heap.size ≤ q → A q := fun q h => by rw [← hAe]; exact Or.inr h
  have hS : va_S A s.heap s.heap [] := va_S.rf
  have hl := lv_entry ([.ref a_t, .int x1, .int x2]) (n := 3) (Nat.le_of_ble_eq_true rfl)
  rw [lg_entry_eq]
  generalize (lg_sl ([.ref a_t, .int x1, .int x2]) ++ List.replicate (3 - (lg_sl ([.ref a_t, .int x1, .int x2])).length) Slot.unset).toArray = ls at hl ⊢
  have hl : lv_has ls 3 [(0, .ref a_t), (1, .int x1), (2, .int x2)] := hl
  unfold fX10_tear at h
  refine lv_aload_n hx hb dX10_tear_0 rfl (lv_at hl 0 rfl) ?_
  refine va_get (D := D) (ci := 10) (C := RX10) (T := TX10) (N := 8) hx hb hts qX10_tear_X10 hown hK hP 0 rfl rfl 0 (by decide) (hts _ kX10_tear_0) (fun _ h9 => h9) rfl dX10_tear_1 ?_
  refine va_getN (host := "RunDesk") (D := D) (ci := 4) (C := RX4) (T := TX4) (N := 3) hx hb hts qX10_tear_X4 hown hK hP 1 rfl rfl 0 (by decide) (va_Nw.use rfl (hN _ (List.mem_of_getElem? (i := 0) rfl))) (fun _ h9 => h9) rfl dX10_tear_4 ?_
  refine lv_iload_n hx hb dX10_tear_7 rfl (lv_at hl 2 rfl) ?_
  obtain ⟨b1, e2, h⟩ := zz_b h
  refine zVi (As := [.int x2]) (rest := []) (C := RX9) (wr := [(a_t, .inr (10, [.ref a_t_race, .ref a_t_kept, .ref a_t_trail, .ref a_t_doubts, .ref a_t_foretelling, .ref a_t_text, .ref a_t_listing, .int t_isKept])), (a_t_race, .inr (4, [.ref a_t_race_way, .ref a_t_race_guns, .ref a_t_race_runners])), (a_t_race_runners, .inr (6, [.ref a_t_race_runners_facts, .ref a_t_race_runners_splits, .ref a_t_race_runners_torn, .ref a_t_race_runners_dropped, .ref a_t_race_runners_waved, .ref a_t_race_runners_struck, .ref a_t_race_runners_strikingOrder, .int t_race_runners_entered, .int t_race_runners_strikings])), (a_t_race_runners_splits, .inl (cI, 720, .inl t_race_runners_splits)), (a_t_race_runners_torn, .inl (cI, 60, .inl t_race_runners_torn))]) [5] [0, 1, 2, 3, 4] 0 ⟨hx, hb, hml, hown, hts⟩ (mX9_has l D cB cI cZ a_t_race_way a_t_race_way_places a_t_race_way_bearings a_t_race_way_cuts a_t_race_way_deaths t_race_way_mats s.heap.size x2 b1 e2) (cwV 1 hts gX10_tear_X9_has rfl rfl rfl (by decide +kernel) ⟨Nat.le_of_ble_eq_true rfl, Nat.le_of_ble_eq_true rfl⟩) hK hN hZ hP hD hS hA rfl rfl rfl rfl rfl rfl rfl rfl hl.1 rfl (lv_room (Nat.le_of_ble_eq_true rfl)) dX10_tear_8 ⟨Nat.le_of_ble_eq_true rfl, Nat.le_of_ble_eq_true rfl⟩ (fun H locs hP hD hS => ?_)
  have hP : va_P D vwCl [(a_t, .inr (10, [.ref a_t_race, .ref a_t_kept, .ref a_t_trail, .ref a_t_doubts, .ref a_t_foretelling, .ref a_t_text, .ref a_t_listing, .int t_isKept])), (a_t_race, .inr (4, [.ref a_t_race_way, .ref a_t_race_guns, .ref a_t_race_runners])), (a_t_race_runners, .inr (6, [.ref a_t_race_runners_facts, .ref a_t_race_runners_splits, .ref a_t_race_runners_torn, .ref a_t_race_runners_dropped, .ref a_t_race_runners_waved, .ref a_t_race_runners_struck, .ref a_t_race_runners_strikingOrder, .int t_race_runners_entered, .int t_race_runners_strikings])), (a_t_race_runners_splits, .inl (cI, 720, .inl t_race_runners_splits)), (a_t_race_runners_torn, .inl (cI, 60, .inl t_race_runners_torn)), (a_t_race_way, .inr (9, [.ref a_t_race_way_places, .ref a_t_race_way_bearings, .ref a_t_race_way_cuts, .ref a_t_race_way_deaths, .int t_race_way_mats]))] H := hP
  have hD : va_D A [(a_t, .inr (10, [.ref a_t_race, .ref a_t_kept, .ref a_t_trail, .ref a_t_doubts, .ref a_t_foretelling, .ref a_t_text, .ref a_t_listing, .int t_isKept])), (a_t_race, .inr (4, [.ref a_t_race_way, .ref a_t_race_guns, .ref a_t_race_runners])), (a_t_race_runners, .inr (6, [.ref a_t_race_runners_facts, .ref a_t_race_runners_splits, .ref a_t_race_runners_torn, .ref a_t_race_runners_dropped, .ref a_t_race_runners_waved, .ref a_t_race_runners_struck, .ref a_t_race_runners_strikingOrder, .int t_race_runners_entered, .int t_race_runners_strikings])), (a_t_race_runners_splits, .inl (cI, 720, .inl t_race_runners_splits)), (a_t_race_runners_torn, .inl (cI, 60, .inl t_race_runners_torn)), (a_t_race_way, .inr (9, [.ref a_t_race_way_places, .ref a_t_race_way_bearings, .ref a_t_race_way_cuts, .ref a_t_race_way_deaths, .int t_race_way_mats]))] := hD
  refine lv_if_eq (tgt := 33) hx hb dX10_tear_11 (by decide) (fun c3 => ?_) (fun c3 => ?_)
  · have h := zz_t h c3
    refine lv_iconst (v := (0 : Int32)) hx hb dX10_tear_33 rfl ?_
    obtain ⟨j0_, g_⟩ := Prod.mk.inj (Option.some.inj h)
    obtain ⟨j1_, g_⟩ := Prod.mk.inj g_
    have j2_ := g_
    subst j0_
    subst j1_
    subst j2_
    exact W.zret (v := (0 : Int32)) hx hb hr rfl (fun t ht hW => ⟨⟨_, (), rfl, rfl, zPost.of hP hD hK ht hW [0, 1, 2, 3, 4, 5] rfl rfl rfl⟩, hS.F ht⟩) hS.2.2 dX10_tear_34
  · have h := zz_f h c3
    refine lv_aload_n hx hb dX10_tear_14 rfl (lv_at hl 0 rfl) ?_
    refine va_get (D := D) (ci := 10) (C := RX10) (T := TX10) (N := 8) hx hb hts qX10_tear_X10 hown hK hP 0 rfl rfl 0 (by decide) (hts _ kX10_tear_0) (fun _ h9 => h9) rfl dX10_tear_15 ?_
    refine va_getN (host := "RunDesk") (D := D) (ci := 4) (C := RX4) (T := TX4) (N := 3) hx hb hts qX10_tear_X4 hown hK hP 1 rfl rfl 2 (by decide) (va_Nw.use rfl (hN _ (List.mem_of_getElem? (i := 10) rfl))) (fun _ h9 => h9) rfl dX10_tear_18 ?_
    refine lv_iload_n hx hb dX10_tear_21 rfl (lv_at hl 1 rfl) ?_
    refine lv_iload_n hx hb dX10_tear_22 rfl (lv_at hl 2 rfl) ?_
    obtain ⟨⟨b4, t_race_runners_splits_r5, t_race_runners_torn_r6⟩, e7, h⟩ := zz_b h
    dsimp only at h
    refine zVi (As := [.int x1, .int x2]) (rest := []) (C := RX6) (wr := [(a_t, .inr (10, [.ref a_t_race, .ref a_t_kept, .ref a_t_trail, .ref a_t_doubts, .ref a_t_foretelling, .ref a_t_text, .ref a_t_listing, .int t_isKept])), (a_t_race, .inr (4, [.ref a_t_race_way, .ref a_t_race_guns, .ref a_t_race_runners])), (a_t_race_way, .inr (9, [.ref a_t_race_way_places, .ref a_t_race_way_bearings, .ref a_t_race_way_cuts, .ref a_t_race_way_deaths, .int t_race_way_mats]))]) [2, 3, 4] [0, 1, 5] 0 ⟨hx, hb, hml, hown, hts⟩ (mX6_tearFrom l D cB cI cZ a_t_race_runners a_t_race_runners_facts a_t_race_runners_splits a_t_race_runners_torn a_t_race_runners_dropped a_t_race_runners_waved a_t_race_runners_struck a_t_race_runners_strikingOrder t_race_runners_entered t_race_runners_strikings t_race_runners_splits t_race_runners_torn H.size x1 x2 N b4 t_race_runners_splits_r5 t_race_runners_torn_r6 e7) (cwV 2 hts gX10_tear_X6_tearFrom rfl rfl rfl (by decide +kernel) ⟨Nat.le_of_ble_eq_true rfl, Nat.le_of_ble_eq_true rfl⟩) hK hN hZ hP hD hS hA rfl rfl rfl rfl rfl rfl rfl rfl hl.1 rfl (lv_room (Nat.le_of_ble_eq_true rfl)) dX10_tear_23 ⟨Nat.le_of_ble_eq_true rfl, Nat.le_of_ble_eq_true rfl⟩ (fun H locs hP hD hS => ?_)
    have hP : va_P D vwCl [(a_t, .inr (10, [.ref a_t_race, .ref a_t_kept, .ref a_t_trail, .ref a_t_doubts, .ref a_t_foretelling, .ref a_t_text, .ref a_t_listing, .int t_isKept])), (a_t_race, .inr (4, [.ref a_t_race_way, .ref a_t_race_guns, .ref a_t_race_runners])), (a_t_race_way, .inr (9, [.ref a_t_race_way_places, .ref a_t_race_way_bearings, .ref a_t_race_way_cuts, .ref a_t_race_way_deaths, .int t_race_way_mats])), (a_t_race_runners, .inr (6, [.ref a_t_race_runners_facts, .ref a_t_race_runners_splits, .ref a_t_race_runners_torn, .ref a_t_race_runners_dropped, .ref a_t_race_runners_waved, .ref a_t_race_runners_struck, .ref a_t_race_runners_strikingOrder, .int t_race_runners_entered, .int t_race_runners_strikings])), (a_t_race_runners_splits, .inl (cI, 720, .inl t_race_runners_splits_r5)), (a_t_race_runners_torn, .inl (cI, 60, .inl t_race_runners_torn_r6))] H := hP
    have hD : va_D A [(a_t, .inr (10, [.ref a_t_race, .ref a_t_kept, .ref a_t_trail, .ref a_t_doubts, .ref a_t_foretelling, .ref a_t_text, .ref a_t_listing, .int t_isKept])), (a_t_race, .inr (4, [.ref a_t_race_way, .ref a_t_race_guns, .ref a_t_race_runners])), (a_t_race_way, .inr (9, [.ref a_t_race_way_places, .ref a_t_race_way_bearings, .ref a_t_race_way_cuts, .ref a_t_race_way_deaths, .int t_race_way_mats])), (a_t_race_runners, .inr (6, [.ref a_t_race_runners_facts, .ref a_t_race_runners_splits, .ref a_t_race_runners_torn, .ref a_t_race_runners_dropped, .ref a_t_race_runners_waved, .ref a_t_race_runners_struck, .ref a_t_race_runners_strikingOrder, .int t_race_runners_entered, .int t_race_runners_strikings])), (a_t_race_runners_splits, .inl (cI, 720, .inl t_race_runners_splits_r5)), (a_t_race_runners_torn, .inl (cI, 60, .inl t_race_runners_torn_r6))] := hD
    refine lv_if_eq (tgt := 33) hx hb dX10_tear_26 (by decide) (fun c8 => ?_) (fun c8 => ?_)
    · have h := zz_t h c8
      refine lv_iconst (v := (0 : Int32)) hx hb dX10_tear_33 rfl ?_
      obtain ⟨j0_, g_⟩ := Prod.mk.inj (Option.some.inj h)
      obtain ⟨j1_, g_⟩ := Prod.mk.inj g_
      have j2_ := g_
      subst j0_
      subst j1_
      subst j2_
      exact W.zret (v := (0 : Int32)) hx hb hr rfl (fun t ht hW => ⟨⟨_, (), rfl, rfl, zPost.of hP hD hK ht hW [0, 1, 3, 4, 5, 2] rfl rfl rfl⟩, hS.F ht⟩) hS.2.2 dX10_tear_34
    · have h := zz_f h c8
      refine lv_iconst (v := (1 : Int32)) hx hb dX10_tear_29 rfl ?_
      refine lv_goto (tgt := 34) hx hb dX10_tear_30 (by decide) ?_
      obtain ⟨j0_, g_⟩ := Prod.mk.inj (Option.some.inj h)
      obtain ⟨j1_, g_⟩ := Prod.mk.inj g_
      have j2_ := g_
      subst j0_
      subst j1_
      subst j2_
      exact W.zret (v := (1 : Int32)) hx hb hr rfl (fun t ht hW => ⟨⟨_, (), rfl, rfl, zPost.of hP hD hK ht hW [0, 1, 3, 4, 5, 2] rfl rfl rfl⟩, hS.F ht⟩) hS.2.2 dX10_tear_34
/-! RunDesk.drop -/
theorem dX10_drop_0 : decode cX10_drop 0 = .ok (.aload_n 0, 1) := by decide +kernel
theorem dX10_drop_1 : decode cX10_drop 1 = .ok (.getfield 10, 3) := by decide +kernel
theorem dX10_drop_4 : decode cX10_drop 4 = .ok (.getfield 77, 3) := by decide +kernel
theorem dX10_drop_7 : decode cX10_drop 7 = .ok (.iload_n 1, 1) := by decide +kernel
theorem dX10_drop_8 : decode cX10_drop 8 = .ok (.iload_n 2, 1) := by decide +kernel
theorem dX10_drop_9 : decode cX10_drop 9 = .ok (.invokevirtual 124, 3) := by decide +kernel
theorem dX10_drop_12 : decode cX10_drop 12 = .ok (.ireturn, 1) := by decide +kernel
set_option maxRecDepth 20000 in
theorem ggX10_drop_X6_setDropped : GoodIn wsX10_drop wsX6_setDropped := goodIn_r _ [6, 7, 8, 9, 10, 5, 11, 12, 24, 25, 26, 27, 28, 29, 30, 31, 32] (by decide +kernel) (by decide +kernel)
set_option maxRecDepth 20000 in
theorem gX10_drop_X6_setDropped : GoodIn wsX10_drop (wsV RX10 124 RX6 yX6_setDropped wsX6_setDropped) := goodIn_app (goodIn_of _ (by decide +kernel)) ggX10_drop_X6_setDropped
def fX10_drop (t_race_runners_entered : Int32) (t_race_runners_dropped : Nat → Int32) (x1 : Int32) (x2 : Int32) : Option (Bool × (Nat → Int32)) := ((fX6_setDropped t_race_runners_entered t_race_runners_dropped x1 x2).bind (fun (b1, t_race_runners_dropped_r2) => some (b1, t_race_runners_dropped_r2)))
theorem kX10_drop_0 : (.fieldLink RX10 10 "RunDesk" "race" "LRunDesk$Race;" : Cond) ∈ wsX10_drop := List.mem_of_getElem? (i := 1) (by decide +kernel)
theorem qX10_drop_X10 : ∀ w ∈ wsX100, w ∈ wsX10_drop := fun _ h => List.mem_cons_of_mem _ (List.mem_append_left _ (List.mem_append_left _ (List.mem_append_right _ (h))))
theorem qX10_drop_X4 : ∀ w ∈ wsX40, w ∈ wsX10_drop := fun _ h => List.mem_cons_of_mem _ (List.mem_append_left _ (List.mem_append_right _ (h)))
set_option maxHeartbeats 4000000 in
set_option maxRecDepth 100000 in
theorem mX10_drop (l : Launch) (D : va_G) (cB cI cZ : ClassId) (a_t : Nat) (a_t_race : Nat) (a_t_kept : Nat) (a_t_trail : Nat) (a_t_doubts : Nat) (a_t_foretelling : Nat) (a_t_text : Nat) (a_t_listing : Nat) (a_t_race_way : Nat) (a_t_race_guns : Nat) (a_t_race_runners : Nat) (a_t_race_runners_facts : Nat) (a_t_race_runners_splits : Nat) (a_t_race_runners_torn : Nat) (a_t_race_runners_dropped : Nat) (a_t_race_runners_waved : Nat) (a_t_race_runners_struck : Nat) (a_t_race_runners_strikingOrder : Nat) (t_isKept : Int32) (t_race_runners_entered : Int32) (t_race_runners_strikings : Int32) (t_race_runners_dropped : Nat → Int32) (sz : Nat) (x1 : Int32) (x2 : Int32) (b0 : Bool) (t_race_runners_dropped' : Nat → Int32) (h : fX10_drop t_race_runners_entered t_race_runners_dropped x1 x2 = some (b0, t_race_runners_dropped')) : Met l yX10_drop wsX10_drop ({ frames := 2, cells := 0, slots := 0, locals := 43 } : Room) (va_Pc [.ref a_t, .int x1, .int x2] (zPre D (zT cB cI cZ) [(a_t, .inr (10, [.ref a_t_race, .ref a_t_kept, .ref a_t_trail, .ref a_t_doubts, .ref a_t_foretelling, .ref a_t_text, .ref a_t_listing, .int t_isKept])), (a_t_race, .inr (4, [.ref a_t_race_way, .ref a_t_race_guns, .ref a_t_race_runners])), (a_t_race_runners, .inr (6, [.ref a_t_race_runners_facts, .ref a_t_race_runners_splits, .ref a_t_race_runners_torn, .ref a_t_race_runners_dropped, .ref a_t_race_runners_waved, .ref a_t_race_runners_struck, .ref a_t_race_runners_strikingOrder, .int t_race_runners_entered, .int t_race_runners_strikings])), (a_t_race_runners_dropped, .inl (cZ, 60, .inl t_race_runners_dropped))] sz)) (zQi (zb b0) D (zT cB cI cZ) [(a_t, .inr (10, [.ref a_t_race, .ref a_t_kept, .ref a_t_trail, .ref a_t_doubts, .ref a_t_foretelling, .ref a_t_text, .ref a_t_listing, .int t_isKept])), (a_t_race, .inr (4, [.ref a_t_race_way, .ref a_t_race_guns, .ref a_t_race_runners])), (a_t_race_runners, .inr (6, [.ref a_t_race_runners_facts, .ref a_t_race_runners_splits, .ref a_t_race_runners_torn, .ref a_t_race_runners_dropped, .ref a_t_race_runners_waved, .ref a_t_race_runners_struck, .ref a_t_race_runners_strikingOrder, .int t_race_runners_entered, .int t_race_runners_strikings])), (a_t_race_runners_dropped, .inl (cZ, 60, .inl t_race_runners_dropped'))] (va_A [(a_t, .inr (10, [.ref a_t_race, .ref a_t_kept, .ref a_t_trail, .ref a_t_doubts, .ref a_t_foretelling, .ref a_t_text, .ref a_t_listing, .int t_isKept])), (a_t_race, .inr (4, [.ref a_t_race_way, .ref a_t_race_guns, .ref a_t_race_runners])), (a_t_race_runners, .inr (6, [.ref a_t_race_runners_facts, .ref a_t_race_runners_splits, .ref a_t_race_runners_torn, .ref a_t_race_runners_dropped, .ref a_t_race_runners_waved, .ref a_t_race_runners_struck, .ref a_t_race_runners_strikingOrder, .int t_race_runners_entered, .int t_race_runners_strikings])), (a_t_race_runners_dropped, .inl (cZ, 60, .inl t_race_runners_dropped))] sz)) 0 0 (va_A [(a_t, .inr (10, [.ref a_t_race, .ref a_t_kept, .ref a_t_trail, .ref a_t_doubts, .ref a_t_foretelling, .ref a_t_text, .ref a_t_listing, .int t_isKept])), (a_t_race, .inr (4, [.ref a_t_race_way, .ref a_t_race_guns, .ref a_t_race_runners])), (a_t_race_runners, .inr (6, [.ref a_t_race_runners_facts, .ref a_t_race_runners_splits, .ref a_t_race_runners_torn, .ref a_t_race_runners_dropped, .ref a_t_race_runners_waved, .ref a_t_race_runners_struck, .ref a_t_race_runners_strikingOrder, .int t_race_runners_entered, .int t_race_runners_strikings])), (a_t_race_runners_dropped, .inl (cZ, 60, .inl t_race_runners_dropped))] sz) := by
  refine Met.ofW (cc := cX10_drop) (maxL := 3) (ret := (some .boolean)) (by decide) rfl ?_
  intro p e s m args below meth c s₁ B hml hv
  obtain ⟨rfl, hsz, hP, hK, hN, hZ, hD0⟩ := hv
  have hx := B.exec
  have hb := B.bytes
  have hr := B.returns
  have hts := atoms_spec (ws := wsX10_drop) B.pre
  have hown : s.vm.findClass RX10 = some m.cls := findClass_of_methodNamed B.named
  have hlocks := B.notSynchronized
  subst hsz
  have hD := hD0.self (sz := s.heap.size)
  generalize hAe : va_A [(a_t, .inr (10, [.ref a_t_race, .ref a_t_kept, .ref a_t_trail, .ref a_t_doubts, .ref a_t_foretelling, .ref a_t_text, .ref a_t_listing, .int t_isKept])), (a_t_race, .inr (4, [.ref a_t_race_way, .ref a_t_race_guns, .ref a_t_race_runners])), (a_t_race_runners, .inr (6, [.ref a_t_race_runners_facts, .ref a_t_race_runners_splits, .ref a_t_race_runners_torn, .ref a_t_race_runners_dropped, .ref a_t_race_runners_waved, .ref a_t_race_runners_struck, .ref a_t_race_runners_strikingOrder, .int t_race_runners_entered, .int t_race_runners_strikings])), (a_t_race_runners_dropped, .inl (cZ, 60, .inl t_race_runners_dropped))] s.heap.size = A at hD hZ ⊢
  have hA : ∀ q : Nat, s.heap.size ≤ q → A q := fun q h => by rw [← hAe]; exact Or.inr h
  have hS : va_S A s.heap s.heap [] := va_S.rf
  have hl := lv_entry ([.ref a_t, .int x1, .int x2]) (n := 3) (Nat.le_of_ble_eq_true rfl)
  rw [lg_entry_eq]
  generalize (lg_sl ([.ref a_t, .int x1, .int x2]) ++ List.replicate (3 - (lg_sl ([.ref a_t, .int x1, .int x2])).length) Slot.unset).toArray = ls at hl ⊢
  have hl : lv_has ls 3 [(0, .ref a_t), (1, .int x1), (2, .int x2)] := hl
  unfold fX10_drop at h
  refine lv_aload_n hx hb dX10_drop_0 rfl (lv_at hl 0 rfl) ?_
  refine va_get (D := D) (ci := 10) (C := RX10) (T := TX10) (N := 8) hx hb hts qX10_drop_X10 hown hK hP 0 rfl rfl 0 (by decide) (hts _ kX10_drop_0) (fun _ h9 => h9) rfl dX10_drop_1 ?_
  refine va_getN (host := "RunDesk") (D := D) (ci := 4) (C := RX4) (T := TX4) (N := 3) hx hb hts qX10_drop_X4 hown hK hP 1 rfl rfl 2 (by decide) (va_Nw.use rfl (hN _ (List.mem_of_getElem? (i := 10) rfl))) (fun _ h9 => h9) rfl dX10_drop_4 ?_
  refine lv_iload_n hx hb dX10_drop_7 rfl (lv_at hl 1 rfl) ?_
  refine lv_iload_n hx hb dX10_drop_8 rfl (lv_at hl 2 rfl) ?_
  obtain ⟨⟨b1, t_race_runners_dropped_r2⟩, e3, h⟩ := zz_b h
  dsimp only at h
  refine zVi (As := [.int x1, .int x2]) (rest := []) (C := RX6) (wr := [(a_t, .inr (10, [.ref a_t_race, .ref a_t_kept, .ref a_t_trail, .ref a_t_doubts, .ref a_t_foretelling, .ref a_t_text, .ref a_t_listing, .int t_isKept])), (a_t_race, .inr (4, [.ref a_t_race_way, .ref a_t_race_guns, .ref a_t_race_runners]))]) [2, 3] [0, 1] 0 ⟨hx, hb, hml, hown, hts⟩ (mX6_setDropped l D cB cI cZ a_t_race_runners a_t_race_runners_facts a_t_race_runners_splits a_t_race_runners_torn a_t_race_runners_dropped a_t_race_runners_waved a_t_race_runners_struck a_t_race_runners_strikingOrder t_race_runners_entered t_race_runners_strikings t_race_runners_dropped s.heap.size x1 x2 b1 t_race_runners_dropped_r2 e3) (cwV 2 hts gX10_drop_X6_setDropped rfl rfl rfl (by decide +kernel) ⟨Nat.le_of_ble_eq_true rfl, Nat.le_of_ble_eq_true rfl⟩) hK hN hZ hP hD hS hA rfl rfl rfl rfl rfl rfl rfl rfl hl.1 rfl (lv_room (Nat.le_of_ble_eq_true rfl)) dX10_drop_9 ⟨Nat.le_of_ble_eq_true rfl, Nat.le_of_ble_eq_true rfl⟩ (fun H locs hP hD hS => ?_)
  have hP : va_P D vwCl [(a_t, .inr (10, [.ref a_t_race, .ref a_t_kept, .ref a_t_trail, .ref a_t_doubts, .ref a_t_foretelling, .ref a_t_text, .ref a_t_listing, .int t_isKept])), (a_t_race, .inr (4, [.ref a_t_race_way, .ref a_t_race_guns, .ref a_t_race_runners])), (a_t_race_runners, .inr (6, [.ref a_t_race_runners_facts, .ref a_t_race_runners_splits, .ref a_t_race_runners_torn, .ref a_t_race_runners_dropped, .ref a_t_race_runners_waved, .ref a_t_race_runners_struck, .ref a_t_race_runners_strikingOrder, .int t_race_runners_entered, .int t_race_runners_strikings])), (a_t_race_runners_dropped, .inl (cZ, 60, .inl t_race_runners_dropped_r2))] H := hP
  have hD : va_D A [(a_t, .inr (10, [.ref a_t_race, .ref a_t_kept, .ref a_t_trail, .ref a_t_doubts, .ref a_t_foretelling, .ref a_t_text, .ref a_t_listing, .int t_isKept])), (a_t_race, .inr (4, [.ref a_t_race_way, .ref a_t_race_guns, .ref a_t_race_runners])), (a_t_race_runners, .inr (6, [.ref a_t_race_runners_facts, .ref a_t_race_runners_splits, .ref a_t_race_runners_torn, .ref a_t_race_runners_dropped, .ref a_t_race_runners_waved, .ref a_t_race_runners_struck, .ref a_t_race_runners_strikingOrder, .int t_race_runners_entered, .int t_race_runners_strikings])), (a_t_race_runners_dropped, .inl (cZ, 60, .inl t_race_runners_dropped_r2))] := hD
  obtain ⟨j0_, g_⟩ := Prod.mk.inj (Option.some.inj h)
  have j1_ := g_
  subst j0_
  subst j1_
  exact W.zret (v := (zb b1)) hx hb hr zz_n (fun t ht hW => ⟨⟨_, (), rfl, rfl, zPost.of hP hD hK ht hW [0, 1, 2, 3] rfl rfl rfl⟩, hS.F ht⟩) hS.2.2 dX10_drop_12
/-! RunDesk.cut -/
theorem dX10_cut_0 : decode cX10_cut 0 = .ok (.iload_n 2, 1) := by decide +kernel
theorem dX10_cut_1 : decode cX10_cut 1 = .ok (.invokestatic 87, 3) := by decide +kernel
theorem dX10_cut_4 : decode cX10_cut 4 = .ok (.ifCond .eq 22, 3) := by decide +kernel
theorem dX10_cut_7 : decode cX10_cut 7 = .ok (.aload_n 0, 1) := by decide +kernel
theorem dX10_cut_8 : decode cX10_cut 8 = .ok (.getfield 10, 3) := by decide +kernel
theorem dX10_cut_11 : decode cX10_cut 11 = .ok (.getfield 58, 3) := by decide +kernel
theorem dX10_cut_14 : decode cX10_cut 14 = .ok (.iload_n 1, 1) := by decide +kernel
theorem dX10_cut_15 : decode cX10_cut 15 = .ok (.iload_n 2, 1) := by decide +kernel
theorem dX10_cut_16 : decode cX10_cut 16 = .ok (.invokevirtual 127, 3) := by decide +kernel
theorem dX10_cut_19 : decode cX10_cut 19 = .ok (.ifCond .eq 7, 3) := by decide +kernel
theorem dX10_cut_22 : decode cX10_cut 22 = .ok (.iconst 1, 1) := by decide +kernel
theorem dX10_cut_23 : decode cX10_cut 23 = .ok (.goto 4, 3) := by decide +kernel
theorem dX10_cut_26 : decode cX10_cut 26 = .ok (.iconst 0, 1) := by decide +kernel
theorem dX10_cut_27 : decode cX10_cut 27 = .ok (.ireturn, 1) := by decide +kernel
set_option maxRecDepth 20000 in
theorem ggX10_cut_X10_isTickOrNone : GoodIn wsX10_cut wsX10_isTickOrNone := goodIn_r _ [5, 6, 7, 8, 4, 9] (by decide +kernel) (by decide +kernel)
set_option maxRecDepth 20000 in
theorem gX10_cut_X10_isTickOrNone : GoodIn wsX10_cut (va_wsS RX10 87 yX10_isTickOrNone wsX10_isTickOrNone) := goodIn_app (goodIn_of _ (by decide +kernel)) ggX10_cut_X10_isTickOrNone
set_option maxRecDepth 20000 in
theorem ggX10_cut_X9_setCut : GoodIn wsX10_cut wsX9_setCut := goodIn_r _ [14, 15, 16, 17, 18, 13, 19, 20, 32, 33, 34, 35, 36] (by decide +kernel) (by decide +kernel)
set_option maxRecDepth 20000 in
theorem gX10_cut_X9_setCut : GoodIn wsX10_cut (wsV RX10 127 RX9 yX9_setCut wsX9_setCut) := goodIn_app (goodIn_of _ (by decide +kernel)) ggX10_cut_X9_setCut
def fX10_cut (t_race_way_mats : Int32) (t_race_way_cuts : Nat → Int32) (x1 : Int32) (x2 : Int32) : Option (Bool × (Nat → Int32)) := ((fX10_isTickOrNone x2).bind (fun b1 => (if (zb b1) = 0 then some (false, t_race_way_cuts) else ((fX9_setCut t_race_way_mats t_race_way_cuts x1 x2).bind (fun (b4, t_race_way_cuts_r5) => (if (zb b4) = 0 then some (false, t_race_way_cuts_r5) else some (true, t_race_way_cuts_r5)))))))
theorem kX10_cut_0 : (.fieldLink RX10 10 "RunDesk" "race" "LRunDesk$Race;" : Cond) ∈ wsX10_cut := List.mem_of_getElem? (i := 1) (by decide +kernel)
theorem qX10_cut_X10 : ∀ w ∈ wsX100, w ∈ wsX10_cut := fun _ h => List.mem_cons_of_mem _ (List.mem_append_left _ (List.mem_append_left _ (List.mem_append_right _ (h))))
theorem qX10_cut_X4 : ∀ w ∈ wsX40, w ∈ wsX10_cut := fun _ h => List.mem_cons_of_mem _ (List.mem_append_left _ (List.mem_append_right _ (h)))
set_option maxHeartbeats 4000000 in
set_option maxRecDepth 100000 in
theorem mX10_cut (l : Launch) (D : va_G) (cB cI cZ : ClassId) (a_t : Nat) (a_t_race : Nat) (a_t_kept : Nat) (a_t_trail : Nat) (a_t_doubts : Nat) (a_t_foretelling : Nat) (a_t_text : Nat) (a_t_listing : Nat) (a_t_race_way : Nat) (a_t_race_guns : Nat) (a_t_race_runners : Nat) (a_t_race_way_places : Nat) (a_t_race_way_bearings : Nat) (a_t_race_way_cuts : Nat) (a_t_race_way_deaths : Nat) (t_isKept : Int32) (t_race_way_mats : Int32) (t_race_way_cuts : Nat → Int32) (sz : Nat) (x1 : Int32) (x2 : Int32) (b0 : Bool) (t_race_way_cuts' : Nat → Int32) (h : fX10_cut t_race_way_mats t_race_way_cuts x1 x2 = some (b0, t_race_way_cuts')) : Met l yX10_cut wsX10_cut ({ frames := 2, cells := 0, slots := 0, locals := 43 } : Room) (va_Pc [.ref a_t, .int x1, .int x2] (zPre D (zT cB cI cZ) [(a_t, .inr (10, [.ref a_t_race, .ref a_t_kept, .ref a_t_trail, .ref a_t_doubts, .ref a_t_foretelling, .ref a_t_text, .ref a_t_listing, .int t_isKept])), (a_t_race, .inr (4, [.ref a_t_race_way, .ref a_t_race_guns, .ref a_t_race_runners])), (a_t_race_way, .inr (9, [.ref a_t_race_way_places, .ref a_t_race_way_bearings, .ref a_t_race_way_cuts, .ref a_t_race_way_deaths, .int t_race_way_mats])), (a_t_race_way_cuts, .inl (cI, 12, .inl t_race_way_cuts))] sz)) (zQi (zb b0) D (zT cB cI cZ) [(a_t, .inr (10, [.ref a_t_race, .ref a_t_kept, .ref a_t_trail, .ref a_t_doubts, .ref a_t_foretelling, .ref a_t_text, .ref a_t_listing, .int t_isKept])), (a_t_race, .inr (4, [.ref a_t_race_way, .ref a_t_race_guns, .ref a_t_race_runners])), (a_t_race_way, .inr (9, [.ref a_t_race_way_places, .ref a_t_race_way_bearings, .ref a_t_race_way_cuts, .ref a_t_race_way_deaths, .int t_race_way_mats])), (a_t_race_way_cuts, .inl (cI, 12, .inl t_race_way_cuts'))] (va_A [(a_t, .inr (10, [.ref a_t_race, .ref a_t_kept, .ref a_t_trail, .ref a_t_doubts, .ref a_t_foretelling, .ref a_t_text, .ref a_t_listing, .int t_isKept])), (a_t_race, .inr (4, [.ref a_t_race_way, .ref a_t_race_guns, .ref a_t_race_runners])), (a_t_race_way, .inr (9, [.ref a_t_race_way_places, .ref a_t_race_way_bearings, .ref a_t_race_way_cuts, .ref a_t_race_way_deaths, .int t_race_way_mats])), (a_t_race_way_cuts, .inl (cI, 12, .inl t_race_way_cuts))] sz)) 0 0 (va_A [(a_t, .inr (10, [.ref a_t_race, .ref a_t_kept, .ref a_t_trail, .ref a_t_doubts, .ref a_t_foretelling, .ref a_t_text, .ref a_t_listing, .int t_isKept])), (a_t_race, .inr (4, [.ref a_t_race_way, .ref a_t_race_guns, .ref a_t_race_runners])), (a_t_race_way, .inr (9, [.ref a_t_race_way_places, .ref a_t_race_way_bearings, .ref a_t_race_way_cuts, .ref a_t_race_way_deaths, .int t_race_way_mats])), (a_t_race_way_cuts, .inl (cI, 12, .inl t_race_way_cuts))] sz) := by
  refine Met.ofW (cc := cX10_cut) (maxL := 3) (ret := (some .boolean)) (by decide) rfl ?_
  intro p e s m args below meth c s₁ B hml hv
  obtain ⟨rfl, hsz, hP, hK, hN, hZ, hD0⟩ := hv
  have hx := B.exec
  have hb := B.bytes
  have hr := B.returns
  have hts := atoms_spec (ws := wsX10_cut) B.pre
  have hown : s.vm.findClass RX10 = some m.cls := findClass_of_methodNamed B.named
  have hlocks := B.notSynchronized
  subst hsz
  have hD := hD0.self (sz := s.heap.size)
  generalize hAe : va_A [(a_t, .inr (10, [.ref a_t_race, .ref a_t_kept, .ref a_t_trail, .ref a_t_doubts, .ref a_t_foretelling, .ref a_t_text, .ref a_t_listing, .int t_isKept])), (a_t_race, .inr (4, [.ref a_t_race_way, .ref a_t_race_guns, .ref a_t_race_runners])), (a_t_race_way, .inr (9, [.ref a_t_race_way_places, .ref a_t_race_way_bearings, .ref a_t_race_way_cuts, .ref a_t_race_way_deaths, .int t_race_way_mats])), (a_t_race_way_cuts, .inl (cI, 12, .inl t_race_way_cuts))] s.heap.size = A at hD hZ ⊢
  have hA : ∀ q : Nat, s.heap.size ≤ q → A q := fun q h => by rw [← hAe]; exact Or.inr h
  have hS : va_S A s.heap s.heap [] := va_S.rf
  have hl := lv_entry ([.ref a_t, .int x1, .int x2]) (n := 3) (Nat.le_of_ble_eq_true rfl)
  rw [lg_entry_eq]
  generalize (lg_sl ([.ref a_t, .int x1, .int x2]) ++ List.replicate (3 - (lg_sl ([.ref a_t, .int x1, .int x2])).length) Slot.unset).toArray = ls at hl ⊢
  have hl : lv_has ls 3 [(0, .ref a_t), (1, .int x1), (2, .int x2)] := hl
  unfold fX10_cut at h
  refine lv_iload_n hx hb dX10_cut_0 rfl (lv_at hl 2 rfl) ?_
  obtain ⟨b1, e2, h⟩ := zz_b h
  refine zSi (As := [.int x2]) (rest := []) (wr := [(a_t, .inr (10, [.ref a_t_race, .ref a_t_kept, .ref a_t_trail, .ref a_t_doubts, .ref a_t_foretelling, .ref a_t_text, .ref a_t_listing, .int t_isKept])), (a_t_race, .inr (4, [.ref a_t_race_way, .ref a_t_race_guns, .ref a_t_race_runners])), (a_t_race_way, .inr (9, [.ref a_t_race_way_places, .ref a_t_race_way_bearings, .ref a_t_race_way_cuts, .ref a_t_race_way_deaths, .int t_race_way_mats])), (a_t_race_way_cuts, .inl (cI, 12, .inl t_race_way_cuts))]) [] [0, 1, 2, 3] ⟨hx, hb, hml, hown, hts⟩ (mX10_isTickOrNone l D cB cI cZ s.heap.size x2 b1 e2) (va_cwS 1 hts gX10_cut_X10_isTickOrNone rfl rfl rfl (by decide +kernel) ⟨Nat.le_of_ble_eq_true rfl, Nat.le_of_ble_eq_true rfl⟩) hK hN hZ hP hD hS hA rfl rfl rfl rfl rfl rfl hl.1 rfl (lv_room (Nat.le_of_ble_eq_true rfl)) dX10_cut_1 ⟨Nat.le_of_ble_eq_true rfl, Nat.le_of_ble_eq_true rfl⟩ (fun H locs hP hD hS => ?_)
  have hP : va_P D vwCl [(a_t, .inr (10, [.ref a_t_race, .ref a_t_kept, .ref a_t_trail, .ref a_t_doubts, .ref a_t_foretelling, .ref a_t_text, .ref a_t_listing, .int t_isKept])), (a_t_race, .inr (4, [.ref a_t_race_way, .ref a_t_race_guns, .ref a_t_race_runners])), (a_t_race_way, .inr (9, [.ref a_t_race_way_places, .ref a_t_race_way_bearings, .ref a_t_race_way_cuts, .ref a_t_race_way_deaths, .int t_race_way_mats])), (a_t_race_way_cuts, .inl (cI, 12, .inl t_race_way_cuts))] H := hP
  have hD : va_D A [(a_t, .inr (10, [.ref a_t_race, .ref a_t_kept, .ref a_t_trail, .ref a_t_doubts, .ref a_t_foretelling, .ref a_t_text, .ref a_t_listing, .int t_isKept])), (a_t_race, .inr (4, [.ref a_t_race_way, .ref a_t_race_guns, .ref a_t_race_runners])), (a_t_race_way, .inr (9, [.ref a_t_race_way_places, .ref a_t_race_way_bearings, .ref a_t_race_way_cuts, .ref a_t_race_way_deaths, .int t_race_way_mats])), (a_t_race_way_cuts, .inl (cI, 12, .inl t_race_way_cuts))] := hD
  refine lv_if_eq (tgt := 26) hx hb dX10_cut_4 (by decide) (fun c3 => ?_) (fun c3 => ?_)
  · have h := zz_t h c3
    refine lv_iconst (v := (0 : Int32)) hx hb dX10_cut_26 rfl ?_
    obtain ⟨j0_, g_⟩ := Prod.mk.inj (Option.some.inj h)
    have j1_ := g_
    subst j0_
    subst j1_
    exact W.zret (v := (0 : Int32)) hx hb hr rfl (fun t ht hW => ⟨⟨_, (), rfl, rfl, zPost.of hP hD hK ht hW [0, 1, 2, 3] rfl rfl rfl⟩, hS.F ht⟩) hS.2.2 dX10_cut_27
  · have h := zz_f h c3
    refine lv_aload_n hx hb dX10_cut_7 rfl (lv_at hl 0 rfl) ?_
    refine va_get (D := D) (ci := 10) (C := RX10) (T := TX10) (N := 8) hx hb hts qX10_cut_X10 hown hK hP 0 rfl rfl 0 (by decide) (hts _ kX10_cut_0) (fun _ h9 => h9) rfl dX10_cut_8 ?_
    refine va_getN (host := "RunDesk") (D := D) (ci := 4) (C := RX4) (T := TX4) (N := 3) hx hb hts qX10_cut_X4 hown hK hP 1 rfl rfl 0 (by decide) (va_Nw.use rfl (hN _ (List.mem_of_getElem? (i := 0) rfl))) (fun _ h9 => h9) rfl dX10_cut_11 ?_
    refine lv_iload_n hx hb dX10_cut_14 rfl (lv_at hl 1 rfl) ?_
    refine lv_iload_n hx hb dX10_cut_15 rfl (lv_at hl 2 rfl) ?_
    obtain ⟨⟨b4, t_race_way_cuts_r5⟩, e6, h⟩ := zz_b h
    dsimp only at h
    refine zVi (As := [.int x1, .int x2]) (rest := []) (C := RX9) (wr := [(a_t, .inr (10, [.ref a_t_race, .ref a_t_kept, .ref a_t_trail, .ref a_t_doubts, .ref a_t_foretelling, .ref a_t_text, .ref a_t_listing, .int t_isKept])), (a_t_race, .inr (4, [.ref a_t_race_way, .ref a_t_race_guns, .ref a_t_race_runners]))]) [2, 3] [0, 1] 0 ⟨hx, hb, hml, hown, hts⟩ (mX9_setCut l D cB cI cZ a_t_race_way a_t_race_way_places a_t_race_way_bearings a_t_race_way_cuts a_t_race_way_deaths t_race_way_mats t_race_way_cuts H.size x1 x2 b4 t_race_way_cuts_r5 e6) (cwV 2 hts gX10_cut_X9_setCut rfl rfl rfl (by decide +kernel) ⟨Nat.le_of_ble_eq_true rfl, Nat.le_of_ble_eq_true rfl⟩) hK hN hZ hP hD hS hA rfl rfl rfl rfl rfl rfl rfl rfl hl.1 rfl (lv_room (Nat.le_of_ble_eq_true rfl)) dX10_cut_16 ⟨Nat.le_of_ble_eq_true rfl, Nat.le_of_ble_eq_true rfl⟩ (fun H locs hP hD hS => ?_)
    have hP : va_P D vwCl [(a_t, .inr (10, [.ref a_t_race, .ref a_t_kept, .ref a_t_trail, .ref a_t_doubts, .ref a_t_foretelling, .ref a_t_text, .ref a_t_listing, .int t_isKept])), (a_t_race, .inr (4, [.ref a_t_race_way, .ref a_t_race_guns, .ref a_t_race_runners])), (a_t_race_way, .inr (9, [.ref a_t_race_way_places, .ref a_t_race_way_bearings, .ref a_t_race_way_cuts, .ref a_t_race_way_deaths, .int t_race_way_mats])), (a_t_race_way_cuts, .inl (cI, 12, .inl t_race_way_cuts_r5))] H := hP
    have hD : va_D A [(a_t, .inr (10, [.ref a_t_race, .ref a_t_kept, .ref a_t_trail, .ref a_t_doubts, .ref a_t_foretelling, .ref a_t_text, .ref a_t_listing, .int t_isKept])), (a_t_race, .inr (4, [.ref a_t_race_way, .ref a_t_race_guns, .ref a_t_race_runners])), (a_t_race_way, .inr (9, [.ref a_t_race_way_places, .ref a_t_race_way_bearings, .ref a_t_race_way_cuts, .ref a_t_race_way_deaths, .int t_race_way_mats])), (a_t_race_way_cuts, .inl (cI, 12, .inl t_race_way_cuts_r5))] := hD
    refine lv_if_eq (tgt := 26) hx hb dX10_cut_19 (by decide) (fun c7 => ?_) (fun c7 => ?_)
    · have h := zz_t h c7
      refine lv_iconst (v := (0 : Int32)) hx hb dX10_cut_26 rfl ?_
      obtain ⟨j0_, g_⟩ := Prod.mk.inj (Option.some.inj h)
      have j1_ := g_
      subst j0_
      subst j1_
      exact W.zret (v := (0 : Int32)) hx hb hr rfl (fun t ht hW => ⟨⟨_, (), rfl, rfl, zPost.of hP hD hK ht hW [0, 1, 2, 3] rfl rfl rfl⟩, hS.F ht⟩) hS.2.2 dX10_cut_27
    · have h := zz_f h c7
      refine lv_iconst (v := (1 : Int32)) hx hb dX10_cut_22 rfl ?_
      refine lv_goto (tgt := 27) hx hb dX10_cut_23 (by decide) ?_
      obtain ⟨j0_, g_⟩ := Prod.mk.inj (Option.some.inj h)
      have j1_ := g_
      subst j0_
      subst j1_
      exact W.zret (v := (1 : Int32)) hx hb hr rfl (fun t ht hW => ⟨⟨_, (), rfl, rfl, zPost.of hP hD hK ht hW [0, 1, 2, 3] rfl rfl rfl⟩, hS.F ht⟩) hS.2.2 dX10_cut_27
/-! RunDesk.wave -/
theorem dX10_wave_0 : decode cX10_wave 0 = .ok (.aload_n 0, 1) := by decide +kernel
theorem dX10_wave_1 : decode cX10_wave 1 = .ok (.getfield 10, 3) := by decide +kernel
theorem dX10_wave_4 : decode cX10_wave 4 = .ok (.getfield 77, 3) := by decide +kernel
theorem dX10_wave_7 : decode cX10_wave 7 = .ok (.iload_n 1, 1) := by decide +kernel
theorem dX10_wave_8 : decode cX10_wave 8 = .ok (.iload_n 2, 1) := by decide +kernel
theorem dX10_wave_9 : decode cX10_wave 9 = .ok (.invokevirtual 130, 3) := by decide +kernel
theorem dX10_wave_12 : decode cX10_wave 12 = .ok (.ireturn, 1) := by decide +kernel
set_option maxRecDepth 20000 in
theorem ggX10_wave_X6_setWaved : GoodIn wsX10_wave wsX6_setWaved := goodIn_r _ [6, 7, 8, 9, 10, 5, 11, 12, 24, 25, 26, 27, 28, 29, 30, 31, 32] (by decide +kernel) (by decide +kernel)
set_option maxRecDepth 20000 in
theorem gX10_wave_X6_setWaved : GoodIn wsX10_wave (wsV RX10 130 RX6 yX6_setWaved wsX6_setWaved) := goodIn_app (goodIn_of _ (by decide +kernel)) ggX10_wave_X6_setWaved
def fX10_wave (t_race_runners_entered : Int32) (t_race_runners_waved : Nat → Int32) (x1 : Int32) (x2 : Int32) : Option (Bool × (Nat → Int32)) := ((fX6_setWaved t_race_runners_entered t_race_runners_waved x1 x2).bind (fun (b1, t_race_runners_waved_r2) => some (b1, t_race_runners_waved_r2)))
theorem kX10_wave_0 : (.fieldLink RX10 10 "RunDesk" "race" "LRunDesk$Race;" : Cond) ∈ wsX10_wave := List.mem_of_getElem? (i := 1) (by decide +kernel)
theorem qX10_wave_X10 : ∀ w ∈ wsX100, w ∈ wsX10_wave := fun _ h => List.mem_cons_of_mem _ (List.mem_append_left _ (List.mem_append_left _ (List.mem_append_right _ (h))))
theorem qX10_wave_X4 : ∀ w ∈ wsX40, w ∈ wsX10_wave := fun _ h => List.mem_cons_of_mem _ (List.mem_append_left _ (List.mem_append_right _ (h)))
set_option maxHeartbeats 4000000 in
set_option maxRecDepth 100000 in
theorem mX10_wave (l : Launch) (D : va_G) (cB cI cZ : ClassId) (a_t : Nat) (a_t_race : Nat) (a_t_kept : Nat) (a_t_trail : Nat) (a_t_doubts : Nat) (a_t_foretelling : Nat) (a_t_text : Nat) (a_t_listing : Nat) (a_t_race_way : Nat) (a_t_race_guns : Nat) (a_t_race_runners : Nat) (a_t_race_runners_facts : Nat) (a_t_race_runners_splits : Nat) (a_t_race_runners_torn : Nat) (a_t_race_runners_dropped : Nat) (a_t_race_runners_waved : Nat) (a_t_race_runners_struck : Nat) (a_t_race_runners_strikingOrder : Nat) (t_isKept : Int32) (t_race_runners_entered : Int32) (t_race_runners_strikings : Int32) (t_race_runners_waved : Nat → Int32) (sz : Nat) (x1 : Int32) (x2 : Int32) (b0 : Bool) (t_race_runners_waved' : Nat → Int32) (h : fX10_wave t_race_runners_entered t_race_runners_waved x1 x2 = some (b0, t_race_runners_waved')) : Met l yX10_wave wsX10_wave ({ frames := 2, cells := 0, slots := 0, locals := 43 } : Room) (va_Pc [.ref a_t, .int x1, .int x2] (zPre D (zT cB cI cZ) [(a_t, .inr (10, [.ref a_t_race, .ref a_t_kept, .ref a_t_trail, .ref a_t_doubts, .ref a_t_foretelling, .ref a_t_text, .ref a_t_listing, .int t_isKept])), (a_t_race, .inr (4, [.ref a_t_race_way, .ref a_t_race_guns, .ref a_t_race_runners])), (a_t_race_runners, .inr (6, [.ref a_t_race_runners_facts, .ref a_t_race_runners_splits, .ref a_t_race_runners_torn, .ref a_t_race_runners_dropped, .ref a_t_race_runners_waved, .ref a_t_race_runners_struck, .ref a_t_race_runners_strikingOrder, .int t_race_runners_entered, .int t_race_runners_strikings])), (a_t_race_runners_waved, .inl (cZ, 60, .inl t_race_runners_waved))] sz)) (zQi (zb b0) D (zT cB cI cZ) [(a_t, .inr (10, [.ref a_t_race, .ref a_t_kept, .ref a_t_trail, .ref a_t_doubts, .ref a_t_foretelling, .ref a_t_text, .ref a_t_listing, .int t_isKept])), (a_t_race, .inr (4, [.ref a_t_race_way, .ref a_t_race_guns, .ref a_t_race_runners])), (a_t_race_runners, .inr (6, [.ref a_t_race_runners_facts, .ref a_t_race_runners_splits, .ref a_t_race_runners_torn, .ref a_t_race_runners_dropped, .ref a_t_race_runners_waved, .ref a_t_race_runners_struck, .ref a_t_race_runners_strikingOrder, .int t_race_runners_entered, .int t_race_runners_strikings])), (a_t_race_runners_waved, .inl (cZ, 60, .inl t_race_runners_waved'))] (va_A [(a_t, .inr (10, [.ref a_t_race, .ref a_t_kept, .ref a_t_trail, .ref a_t_doubts, .ref a_t_foretelling, .ref a_t_text, .ref a_t_listing, .int t_isKept])), (a_t_race, .inr (4, [.ref a_t_race_way, .ref a_t_race_guns, .ref a_t_race_runners])), (a_t_race_runners, .inr (6, [.ref a_t_race_runners_facts, .ref a_t_race_runners_splits, .ref a_t_race_runners_torn, .ref a_t_race_runners_dropped, .ref a_t_race_runners_waved, .ref a_t_race_runners_struck, .ref a_t_race_runners_strikingOrder, .int t_race_runners_entered, .int t_race_runners_strikings])), (a_t_race_runners_waved, .inl (cZ, 60, .inl t_race_runners_waved))] sz)) 0 0 (va_A [(a_t, .inr (10, [.ref a_t_race, .ref a_t_kept, .ref a_t_trail, .ref a_t_doubts, .ref a_t_foretelling, .ref a_t_text, .ref a_t_listing, .int t_isKept])), (a_t_race, .inr (4, [.ref a_t_race_way, .ref a_t_race_guns, .ref a_t_race_runners])), (a_t_race_runners, .inr (6, [.ref a_t_race_runners_facts, .ref a_t_race_runners_splits, .ref a_t_race_runners_torn, .ref a_t_race_runners_dropped, .ref a_t_race_runners_waved, .ref a_t_race_runners_struck, .ref a_t_race_runners_strikingOrder, .int t_race_runners_entered, .int t_race_runners_strikings])), (a_t_race_runners_waved, .inl (cZ, 60, .inl t_race_runners_waved))] sz) := by
  refine Met.ofW (cc := cX10_wave) (maxL := 3) (ret := (some .boolean)) (by decide) rfl ?_
  intro p e s m args below meth c s₁ B hml hv
  obtain ⟨rfl, hsz, hP, hK, hN, hZ, hD0⟩ := hv
  have hx := B.exec
  have hb := B.bytes
  have hr := B.returns
  have hts := atoms_spec (ws := wsX10_wave) B.pre
  have hown : s.vm.findClass RX10 = some m.cls := findClass_of_methodNamed B.named
  have hlocks := B.notSynchronized
  subst hsz
  have hD := hD0.self (sz := s.heap.size)
  generalize hAe : va_A [(a_t, .inr (10, [.ref a_t_race, .ref a_t_kept, .ref a_t_trail, .ref a_t_doubts, .ref a_t_foretelling, .ref a_t_text, .ref a_t_listing, .int t_isKept])), (a_t_race, .inr (4, [.ref a_t_race_way, .ref a_t_race_guns, .ref a_t_race_runners])), (a_t_race_runners, .inr (6, [.ref a_t_race_runners_facts, .ref a_t_race_runners_splits, .ref a_t_race_runners_torn, .ref a_t_race_runners_dropped, .ref a_t_race_runners_waved, .ref a_t_race_runners_struck, .ref a_t_race_runners_strikingOrder, .int t_race_runners_entered, .int t_race_runners_strikings])), (a_t_race_runners_waved, .inl (cZ, 60, .inl t_race_runners_waved))] s.heap.size = A at hD hZ ⊢
  have hA : ∀ q : Nat, s.heap.size ≤ q → A q := fun q h => by rw [← hAe]; exact Or.inr h
  have hS : va_S A s.heap s.heap [] := va_S.rf
  have hl := lv_entry ([.ref a_t, .int x1, .int x2]) (n := 3) (Nat.le_of_ble_eq_true rfl)
  rw [lg_entry_eq]
  generalize (lg_sl ([.ref a_t, .int x1, .int x2]) ++ List.replicate (3 - (lg_sl ([.ref a_t, .int x1, .int x2])).length) Slot.unset).toArray = ls at hl ⊢
  have hl : lv_has ls 3 [(0, .ref a_t), (1, .int x1), (2, .int x2)] := hl
  unfold fX10_wave at h
  refine lv_aload_n hx hb dX10_wave_0 rfl (lv_at hl 0 rfl) ?_
  refine va_get (D := D) (ci := 10) (C := RX10) (T := TX10) (N := 8) hx hb hts qX10_wave_X10 hown hK hP 0 rfl rfl 0 (by decide) (hts _ kX10_wave_0) (fun _ h9 => h9) rfl dX10_wave_1 ?_
  refine va_getN (host := "RunDesk") (D := D) (ci := 4) (C := RX4) (T := TX4) (N := 3) hx hb hts qX10_wave_X4 hown hK hP 1 rfl rfl 2 (by decide) (va_Nw.use rfl (hN _ (List.mem_of_getElem? (i := 10) rfl))) (fun _ h9 => h9) rfl dX10_wave_4 ?_
  refine lv_iload_n hx hb dX10_wave_7 rfl (lv_at hl 1 rfl) ?_
  refine lv_iload_n hx hb dX10_wave_8 rfl (lv_at hl 2 rfl) ?_
  obtain ⟨⟨b1, t_race_runners_waved_r2⟩, e3, h⟩ := zz_b h
  dsimp only at h
  refine zVi (As := [.int x1, .int x2]) (rest := []) (C := RX6) (wr := [(a_t, .inr (10, [.ref a_t_race, .ref a_t_kept, .ref a_t_trail, .ref a_t_doubts, .ref a_t_foretelling, .ref a_t_text, .ref a_t_listing, .int t_isKept])), (a_t_race, .inr (4, [.ref a_t_race_way, .ref a_t_race_guns, .ref a_t_race_runners]))]) [2, 3] [0, 1] 0 ⟨hx, hb, hml, hown, hts⟩ (mX6_setWaved l D cB cI cZ a_t_race_runners a_t_race_runners_facts a_t_race_runners_splits a_t_race_runners_torn a_t_race_runners_dropped a_t_race_runners_waved a_t_race_runners_struck a_t_race_runners_strikingOrder t_race_runners_entered t_race_runners_strikings t_race_runners_waved s.heap.size x1 x2 b1 t_race_runners_waved_r2 e3) (cwV 2 hts gX10_wave_X6_setWaved rfl rfl rfl (by decide +kernel) ⟨Nat.le_of_ble_eq_true rfl, Nat.le_of_ble_eq_true rfl⟩) hK hN hZ hP hD hS hA rfl rfl rfl rfl rfl rfl rfl rfl hl.1 rfl (lv_room (Nat.le_of_ble_eq_true rfl)) dX10_wave_9 ⟨Nat.le_of_ble_eq_true rfl, Nat.le_of_ble_eq_true rfl⟩ (fun H locs hP hD hS => ?_)
  have hP : va_P D vwCl [(a_t, .inr (10, [.ref a_t_race, .ref a_t_kept, .ref a_t_trail, .ref a_t_doubts, .ref a_t_foretelling, .ref a_t_text, .ref a_t_listing, .int t_isKept])), (a_t_race, .inr (4, [.ref a_t_race_way, .ref a_t_race_guns, .ref a_t_race_runners])), (a_t_race_runners, .inr (6, [.ref a_t_race_runners_facts, .ref a_t_race_runners_splits, .ref a_t_race_runners_torn, .ref a_t_race_runners_dropped, .ref a_t_race_runners_waved, .ref a_t_race_runners_struck, .ref a_t_race_runners_strikingOrder, .int t_race_runners_entered, .int t_race_runners_strikings])), (a_t_race_runners_waved, .inl (cZ, 60, .inl t_race_runners_waved_r2))] H := hP
  have hD : va_D A [(a_t, .inr (10, [.ref a_t_race, .ref a_t_kept, .ref a_t_trail, .ref a_t_doubts, .ref a_t_foretelling, .ref a_t_text, .ref a_t_listing, .int t_isKept])), (a_t_race, .inr (4, [.ref a_t_race_way, .ref a_t_race_guns, .ref a_t_race_runners])), (a_t_race_runners, .inr (6, [.ref a_t_race_runners_facts, .ref a_t_race_runners_splits, .ref a_t_race_runners_torn, .ref a_t_race_runners_dropped, .ref a_t_race_runners_waved, .ref a_t_race_runners_struck, .ref a_t_race_runners_strikingOrder, .int t_race_runners_entered, .int t_race_runners_strikings])), (a_t_race_runners_waved, .inl (cZ, 60, .inl t_race_runners_waved_r2))] := hD
  obtain ⟨j0_, g_⟩ := Prod.mk.inj (Option.some.inj h)
  have j1_ := g_
  subst j0_
  subst j1_
  exact W.zret (v := (zb b1)) hx hb hr zz_n (fun t ht hW => ⟨⟨_, (), rfl, rfl, zPost.of hP hD hK ht hW [0, 1, 2, 3] rfl rfl rfl⟩, hS.F ht⟩) hS.2.2 dX10_wave_12
/-! RunDesk.strike -/
theorem dX10_strike_0 : decode cX10_strike 0 = .ok (.aload_n 0, 1) := by decide +kernel
theorem dX10_strike_1 : decode cX10_strike 1 = .ok (.getfield 10, 3) := by decide +kernel
theorem dX10_strike_4 : decode cX10_strike 4 = .ok (.getfield 77, 3) := by decide +kernel
theorem dX10_strike_7 : decode cX10_strike 7 = .ok (.iload_n 1, 1) := by decide +kernel
theorem dX10_strike_8 : decode cX10_strike 8 = .ok (.invokevirtual 133, 3) := by decide +kernel
theorem dX10_strike_11 : decode cX10_strike 11 = .ok (.ireturn, 1) := by decide +kernel
set_option maxRecDepth 20000 in
theorem ggX10_strike_X6_strikeOff : GoodIn wsX10_strike wsX6_strikeOff := goodIn_r _ [6, 7, 8, 9, 10, 11, 12, 5, 13, 14, 15, 16, 17, 29, 30, 31, 32, 33, 34, 35, 36, 37] (by decide +kernel) (by decide +kernel)
set_option maxRecDepth 20000 in
theorem gX10_strike_X6_strikeOff : GoodIn wsX10_strike (wsV RX10 133 RX6 yX6_strikeOff wsX6_strikeOff) := goodIn_app (goodIn_of _ (by decide +kernel)) ggX10_strike_X6_strikeOff
def fX10_strike (t_race_runners_entered : Int32) (t_race_runners_strikings : Int32) (t_race_runners_strikingOrder : Nat → Int32) (t_race_runners_struck : Nat → Int32) (x1 : Int32) : Option (Bool × Int32 × (Nat → Int32) × (Nat → Int32)) := ((fX6_strikeOff t_race_runners_entered t_race_runners_strikings t_race_runners_strikingOrder t_race_runners_struck x1).bind (fun (b1, t_race_runners_strikings_r2, t_race_runners_strikingOrder_r3, t_race_runners_struck_r4) => some (b1, t_race_runners_strikings_r2, t_race_runners_strikingOrder_r3, t_race_runners_struck_r4)))
theorem kX10_strike_0 : (.fieldLink RX10 10 "RunDesk" "race" "LRunDesk$Race;" : Cond) ∈ wsX10_strike := List.mem_of_getElem? (i := 1) (by decide +kernel)
theorem qX10_strike_X10 : ∀ w ∈ wsX100, w ∈ wsX10_strike := fun _ h => List.mem_cons_of_mem _ (List.mem_append_left _ (List.mem_append_left _ (List.mem_append_right _ (h))))
theorem qX10_strike_X4 : ∀ w ∈ wsX40, w ∈ wsX10_strike := fun _ h => List.mem_cons_of_mem _ (List.mem_append_left _ (List.mem_append_right _ (h)))
set_option maxHeartbeats 4000000 in
set_option maxRecDepth 100000 in
theorem mX10_strike (l : Launch) (D : va_G) (cB cI cZ : ClassId) (a_t : Nat) (a_t_race : Nat) (a_t_kept : Nat) (a_t_trail : Nat) (a_t_doubts : Nat) (a_t_foretelling : Nat) (a_t_text : Nat) (a_t_listing : Nat) (a_t_race_way : Nat) (a_t_race_guns : Nat) (a_t_race_runners : Nat) (a_t_race_runners_facts : Nat) (a_t_race_runners_splits : Nat) (a_t_race_runners_torn : Nat) (a_t_race_runners_dropped : Nat) (a_t_race_runners_waved : Nat) (a_t_race_runners_struck : Nat) (a_t_race_runners_strikingOrder : Nat) (t_isKept : Int32) (t_race_runners_entered : Int32) (t_race_runners_strikings : Int32) (t_race_runners_strikingOrder : Nat → Int32) (t_race_runners_struck : Nat → Int32) (sz : Nat) (x1 : Int32) (b0 : Bool) (t_race_runners_strikings' : Int32) (t_race_runners_strikingOrder' : Nat → Int32) (t_race_runners_struck' : Nat → Int32) (h : fX10_strike t_race_runners_entered t_race_runners_strikings t_race_runners_strikingOrder t_race_runners_struck x1 = some (b0, t_race_runners_strikings', t_race_runners_strikingOrder', t_race_runners_struck')) : Met l yX10_strike wsX10_strike ({ frames := 2, cells := 0, slots := 0, locals := 43 } : Room) (va_Pc [.ref a_t, .int x1] (zPre D (zT cB cI cZ) [(a_t, .inr (10, [.ref a_t_race, .ref a_t_kept, .ref a_t_trail, .ref a_t_doubts, .ref a_t_foretelling, .ref a_t_text, .ref a_t_listing, .int t_isKept])), (a_t_race, .inr (4, [.ref a_t_race_way, .ref a_t_race_guns, .ref a_t_race_runners])), (a_t_race_runners, .inr (6, [.ref a_t_race_runners_facts, .ref a_t_race_runners_splits, .ref a_t_race_runners_torn, .ref a_t_race_runners_dropped, .ref a_t_race_runners_waved, .ref a_t_race_runners_struck, .ref a_t_race_runners_strikingOrder, .int t_race_runners_entered, .int t_race_runners_strikings])), (a_t_race_runners_strikingOrder, .inl (cI, 60, .inl t_race_runners_strikingOrder)), (a_t_race_runners_struck, .inl (cZ, 60, .inl t_race_runners_struck))] sz)) (zQi (zb b0) D (zT cB cI cZ) [(a_t, .inr (10, [.ref a_t_race, .ref a_t_kept, .ref a_t_trail, .ref a_t_doubts, .ref a_t_foretelling, .ref a_t_text, .ref a_t_listing, .int t_isKept])), (a_t_race, .inr (4, [.ref a_t_race_way, .ref a_t_race_guns, .ref a_t_race_runners])), (a_t_race_runners, .inr (6, [.ref a_t_race_runners_facts, .ref a_t_race_runners_splits, .ref a_t_race_runners_torn, .ref a_t_race_runners_dropped, .ref a_t_race_runners_waved, .ref a_t_race_runners_struck, .ref a_t_race_runners_strikingOrder, .int t_race_runners_entered, .int t_race_runners_strikings'])), (a_t_race_runners_strikingOrder, .inl (cI, 60, .inl t_race_runners_strikingOrder')), (a_t_race_runners_struck, .inl (cZ, 60, .inl t_race_runners_struck'))] (va_A [(a_t, .inr (10, [.ref a_t_race, .ref a_t_kept, .ref a_t_trail, .ref a_t_doubts, .ref a_t_foretelling, .ref a_t_text, .ref a_t_listing, .int t_isKept])), (a_t_race, .inr (4, [.ref a_t_race_way, .ref a_t_race_guns, .ref a_t_race_runners])), (a_t_race_runners, .inr (6, [.ref a_t_race_runners_facts, .ref a_t_race_runners_splits, .ref a_t_race_runners_torn, .ref a_t_race_runners_dropped, .ref a_t_race_runners_waved, .ref a_t_race_runners_struck, .ref a_t_race_runners_strikingOrder, .int t_race_runners_entered, .int t_race_runners_strikings])), (a_t_race_runners_strikingOrder, .inl (cI, 60, .inl t_race_runners_strikingOrder)), (a_t_race_runners_struck, .inl (cZ, 60, .inl t_race_runners_struck))] sz)) 0 0 (va_A [(a_t, .inr (10, [.ref a_t_race, .ref a_t_kept, .ref a_t_trail, .ref a_t_doubts, .ref a_t_foretelling, .ref a_t_text, .ref a_t_listing, .int t_isKept])), (a_t_race, .inr (4, [.ref a_t_race_way, .ref a_t_race_guns, .ref a_t_race_runners])), (a_t_race_runners, .inr (6, [.ref a_t_race_runners_facts, .ref a_t_race_runners_splits, .ref a_t_race_runners_torn, .ref a_t_race_runners_dropped, .ref a_t_race_runners_waved, .ref a_t_race_runners_struck, .ref a_t_race_runners_strikingOrder, .int t_race_runners_entered, .int t_race_runners_strikings])), (a_t_race_runners_strikingOrder, .inl (cI, 60, .inl t_race_runners_strikingOrder)), (a_t_race_runners_struck, .inl (cZ, 60, .inl t_race_runners_struck))] sz) := by
  refine Met.ofW (cc := cX10_strike) (maxL := 2) (ret := (some .boolean)) (by decide) rfl ?_
  intro p e s m args below meth c s₁ B hml hv
  obtain ⟨rfl, hsz, hP, hK, hN, hZ, hD0⟩ := hv
  have hx := B.exec
  have hb := B.bytes
  have hr := B.returns
  have hts := atoms_spec (ws := wsX10_strike) B.pre
  have hown : s.vm.findClass RX10 = some m.cls := findClass_of_methodNamed B.named
  have hlocks := B.notSynchronized
  subst hsz
  have hD := hD0.self (sz := s.heap.size)
  generalize hAe : va_A [(a_t, .inr (10, [.ref a_t_race, .ref a_t_kept, .ref a_t_trail, .ref a_t_doubts, .ref a_t_foretelling, .ref a_t_text, .ref a_t_listing, .int t_isKept])), (a_t_race, .inr (4, [.ref a_t_race_way, .ref a_t_race_guns, .ref a_t_race_runners])), (a_t_race_runners, .inr (6, [.ref a_t_race_runners_facts, .ref a_t_race_runners_splits, .ref a_t_race_runners_torn, .ref a_t_race_runners_dropped, .ref a_t_race_runners_waved, .ref a_t_race_runners_struck, .ref a_t_race_runners_strikingOrder, .int t_race_runners_entered, .int t_race_runners_strikings])), (a_t_race_runners_strikingOrder, .inl (cI, 60, .inl t_race_runners_strikingOrder)), (a_t_race_runners_struck, .inl (cZ, 60, .inl t_race_runners_struck))] s.heap.size = A at hD hZ ⊢
  have hA : ∀ q : Nat, s.heap.size ≤ q → A q := fun q h => by rw [← hAe]; exact Or.inr h
  have hS : va_S A s.heap s.heap [] := va_S.rf
  have hl := lv_entry ([.ref a_t, .int x1]) (n := 2) (Nat.le_of_ble_eq_true rfl)
  rw [lg_entry_eq]
  generalize (lg_sl ([.ref a_t, .int x1]) ++ List.replicate (2 - (lg_sl ([.ref a_t, .int x1])).length) Slot.unset).toArray = ls at hl ⊢
  have hl : lv_has ls 2 [(0, .ref a_t), (1, .int x1)] := hl
  unfold fX10_strike at h
  refine lv_aload_n hx hb dX10_strike_0 rfl (lv_at hl 0 rfl) ?_
  refine va_get (D := D) (ci := 10) (C := RX10) (T := TX10) (N := 8) hx hb hts qX10_strike_X10 hown hK hP 0 rfl rfl 0 (by decide) (hts _ kX10_strike_0) (fun _ h9 => h9) rfl dX10_strike_1 ?_
  refine va_getN (host := "RunDesk") (D := D) (ci := 4) (C := RX4) (T := TX4) (N := 3) hx hb hts qX10_strike_X4 hown hK hP 1 rfl rfl 2 (by decide) (va_Nw.use rfl (hN _ (List.mem_of_getElem? (i := 10) rfl))) (fun _ h9 => h9) rfl dX10_strike_4 ?_
  refine lv_iload_n hx hb dX10_strike_7 rfl (lv_at hl 1 rfl) ?_
  obtain ⟨⟨b1, t_race_runners_strikings_r2, t_race_runners_strikingOrder_r3, t_race_runners_struck_r4⟩, e5, h⟩ := zz_b h
  dsimp only at h
  refine zVi (As := [.int x1]) (rest := []) (C := RX6) (wr := [(a_t, .inr (10, [.ref a_t_race, .ref a_t_kept, .ref a_t_trail, .ref a_t_doubts, .ref a_t_foretelling, .ref a_t_text, .ref a_t_listing, .int t_isKept])), (a_t_race, .inr (4, [.ref a_t_race_way, .ref a_t_race_guns, .ref a_t_race_runners]))]) [2, 3, 4] [0, 1] 0 ⟨hx, hb, hml, hown, hts⟩ (mX6_strikeOff l D cB cI cZ a_t_race_runners a_t_race_runners_facts a_t_race_runners_splits a_t_race_runners_torn a_t_race_runners_dropped a_t_race_runners_waved a_t_race_runners_struck a_t_race_runners_strikingOrder t_race_runners_entered t_race_runners_strikings t_race_runners_strikingOrder t_race_runners_struck s.heap.size x1 b1 t_race_runners_strikings_r2 t_race_runners_strikingOrder_r3 t_race_runners_struck_r4 e5) (cwV 1 hts gX10_strike_X6_strikeOff rfl rfl rfl (by decide +kernel) ⟨Nat.le_of_ble_eq_true rfl, Nat.le_of_ble_eq_true rfl⟩) hK hN hZ hP hD hS hA rfl rfl rfl rfl rfl rfl rfl rfl hl.1 rfl (lv_room (Nat.le_of_ble_eq_true rfl)) dX10_strike_8 ⟨Nat.le_of_ble_eq_true rfl, Nat.le_of_ble_eq_true rfl⟩ (fun H locs hP hD hS => ?_)
  have hP : va_P D vwCl [(a_t, .inr (10, [.ref a_t_race, .ref a_t_kept, .ref a_t_trail, .ref a_t_doubts, .ref a_t_foretelling, .ref a_t_text, .ref a_t_listing, .int t_isKept])), (a_t_race, .inr (4, [.ref a_t_race_way, .ref a_t_race_guns, .ref a_t_race_runners])), (a_t_race_runners, .inr (6, [.ref a_t_race_runners_facts, .ref a_t_race_runners_splits, .ref a_t_race_runners_torn, .ref a_t_race_runners_dropped, .ref a_t_race_runners_waved, .ref a_t_race_runners_struck, .ref a_t_race_runners_strikingOrder, .int t_race_runners_entered, .int t_race_runners_strikings_r2])), (a_t_race_runners_strikingOrder, .inl (cI, 60, .inl t_race_runners_strikingOrder_r3)), (a_t_race_runners_struck, .inl (cZ, 60, .inl t_race_runners_struck_r4))] H := hP
  have hD : va_D A [(a_t, .inr (10, [.ref a_t_race, .ref a_t_kept, .ref a_t_trail, .ref a_t_doubts, .ref a_t_foretelling, .ref a_t_text, .ref a_t_listing, .int t_isKept])), (a_t_race, .inr (4, [.ref a_t_race_way, .ref a_t_race_guns, .ref a_t_race_runners])), (a_t_race_runners, .inr (6, [.ref a_t_race_runners_facts, .ref a_t_race_runners_splits, .ref a_t_race_runners_torn, .ref a_t_race_runners_dropped, .ref a_t_race_runners_waved, .ref a_t_race_runners_struck, .ref a_t_race_runners_strikingOrder, .int t_race_runners_entered, .int t_race_runners_strikings_r2])), (a_t_race_runners_strikingOrder, .inl (cI, 60, .inl t_race_runners_strikingOrder_r3)), (a_t_race_runners_struck, .inl (cZ, 60, .inl t_race_runners_struck_r4))] := hD
  obtain ⟨j0_, g_⟩ := Prod.mk.inj (Option.some.inj h)
  obtain ⟨j1_, g_⟩ := Prod.mk.inj g_
  obtain ⟨j2_, g_⟩ := Prod.mk.inj g_
  have j3_ := g_
  subst j0_
  subst j1_
  subst j2_
  subst j3_
  exact W.zret (v := (zb b1)) hx hb hr zz_n (fun t ht hW => ⟨⟨_, (), rfl, rfl, zPost.of hP hD hK ht hW [0, 1, 2, 3, 4] rfl rfl rfl⟩, hS.F ht⟩) hS.2.2 dX10_strike_11
