/-! RunDeskModel.look -/
theorem dX11_look_0 : decode cX11_look 0 = .ok (.aload_n 0, 1) := by decide +kernel
theorem dX11_look_1 : decode cX11_look 1 = .ok (.getfield 148, 3) := by decide +kernel
theorem dX11_look_4 : decode cX11_look 4 = .ok (.aload_n 0, 1) := by decide +kernel
theorem dX11_look_5 : decode cX11_look 5 = .ok (.getfield 145, 3) := by decide +kernel
theorem dX11_look_8 : decode cX11_look 8 = .ok (.if_icmp .ge 30, 3) := by decide +kernel
theorem dX11_look_11 : decode cX11_look 11 = .ok (.aload_n 0, 1) := by decide +kernel
theorem dX11_look_12 : decode cX11_look 12 = .ok (.getfield 16, 3) := by decide +kernel
theorem dX11_look_15 : decode cX11_look 15 = .ok (.aload_n 0, 1) := by decide +kernel
theorem dX11_look_16 : decode cX11_look 16 = .ok (.getfield 148, 3) := by decide +kernel
theorem dX11_look_19 : decode cX11_look 19 = .ok (.baload, 1) := by decide +kernel
theorem dX11_look_20 : decode cX11_look 20 = .ok (.bipush 32, 2) := by decide +kernel
theorem dX11_look_22 : decode cX11_look 22 = .ok (.if_icmp .ne 16, 3) := by decide +kernel
theorem dX11_look_25 : decode cX11_look 25 = .ok (.aload_n 0, 1) := by decide +kernel
theorem dX11_look_26 : decode cX11_look 26 = .ok (.dup, 1) := by decide +kernel
theorem dX11_look_27 : decode cX11_look 27 = .ok (.getfield 148, 3) := by decide +kernel
theorem dX11_look_30 : decode cX11_look 30 = .ok (.iconst 1, 1) := by decide +kernel
theorem dX11_look_31 : decode cX11_look 31 = .ok (.iadd, 1) := by decide +kernel
theorem dX11_look_32 : decode cX11_look 32 = .ok (.putfield 148, 3) := by decide +kernel
theorem dX11_look_35 : decode cX11_look 35 = .ok (.goto (-35), 3) := by decide +kernel
theorem dX11_look_38 : decode cX11_look 38 = .ok (.aload_n 0, 1) := by decide +kernel
theorem dX11_look_39 : decode cX11_look 39 = .ok (.getfield 148, 3) := by decide +kernel
theorem dX11_look_42 : decode cX11_look 42 = .ok (.aload_n 0, 1) := by decide +kernel
theorem dX11_look_43 : decode cX11_look 43 = .ok (.getfield 145, 3) := by decide +kernel
theorem dX11_look_46 : decode cX11_look 46 = .ok (.if_icmp .ge 19, 3) := by decide +kernel
theorem dX11_look_49 : decode cX11_look 49 = .ok (.aload_n 0, 1) := by decide +kernel
theorem dX11_look_50 : decode cX11_look 50 = .ok (.getfield 16, 3) := by decide +kernel
theorem dX11_look_53 : decode cX11_look 53 = .ok (.aload_n 0, 1) := by decide +kernel
theorem dX11_look_54 : decode cX11_look 54 = .ok (.getfield 148, 3) := by decide +kernel
theorem dX11_look_57 : decode cX11_look 57 = .ok (.baload, 1) := by decide +kernel
theorem dX11_look_58 : decode cX11_look 58 = .ok (.sipush 255, 3) := by decide +kernel
theorem dX11_look_61 : decode cX11_look 61 = .ok (.iand, 1) := by decide +kernel
theorem dX11_look_62 : decode cX11_look 62 = .ok (.goto 4, 3) := by decide +kernel
theorem dX11_look_65 : decode cX11_look 65 = .ok (.iconst (-1), 1) := by decide +kernel
theorem dX11_look_66 : decode cX11_look 66 = .ok (.ireturn, 1) := by decide +kernel
def fX11_look_L0 (t_length : Int32) (t_text : Nat → Int32) (K0_38 : Int32 → Option (Int32 × Int32)) : Nat → Int32 → Option (Int32 × Int32)
  | 0, _ => none
  | n0 + 1, t_at_0 => (if t_length ≤ t_at_0 then (K0_38 t_at_0) else (if zin t_at_0 200 then (if (t_text (t_at_0).toNatClampNeg) = (32 : Int32) then (fX11_look_L0 t_length t_text K0_38 n0 (t_at_0 + (1 : Int32))) else (K0_38 t_at_0)) else none))
def fX11_look (N : Nat) (t_at : Int32) (t_length : Int32) (t_text : Nat → Int32) : Option (Int32 × Int32) := fX11_look_L0 t_length t_text (fun (t_at_0 : Int32) => (if t_length ≤ t_at_0 then some ((-1 : Int32), t_at_0) else (if zin t_at_0 200 then some (((t_text (t_at_0).toNatClampNeg) &&& (255 : Int32)), t_at_0) else none))) N t_at
theorem kX11_look_0 : (.fieldLink RX11 148 "RunDeskModel" "at" "I" : Cond) ∈ wsX11_look := List.mem_of_getElem? (i := 1) (by decide +kernel)
theorem qX11_look_X11 : ∀ w ∈ wsX110, w ∈ wsX11_look := fun _ h => List.mem_cons_of_mem _ (List.mem_append_right _ (h))
theorem kX11_look_2 : (.fieldLink RX11 145 "RunDeskModel" "length" "I" : Cond) ∈ wsX11_look := List.mem_of_getElem? (i := 2) (by decide +kernel)
theorem kX11_look_3 : (.fieldLink RX11 16 "RunDeskModel" "text" "[B" : Cond) ∈ wsX11_look := List.mem_of_getElem? (i := 3) (by decide +kernel)
set_option maxHeartbeats 4000000 in
set_option maxRecDepth 100000 in
theorem mX11_look (l : Launch) (D : va_G) (cB cI cZ : ClassId) (a_t : Nat) (a_t_now : Nat) (a_t_kept : Nat) (a_t_text : Nat) (a_t_passing : Nat) (a_t_order : Nat) (a_t_times : Nat) (t_thrown : Int32) (t_isKept : Int32) (t_length : Int32) (t_at : Int32) (t_fault : Int32) (t_open : Int32) (t_asked : Int32) (t_byGun : Int32) (t_prizeMost : Int32) (t_listed : Int32) (t_text : Nat → Int32) (sz : Nat) (N : Nat) (r0 : Int32) (t_at' : Int32) (h : fX11_look N t_at t_length t_text = some (r0, t_at')) : Met l yX11_look wsX11_look ({ frames := 0, cells := 0, slots := 0, locals := 0 } : Room) (va_Pc [.ref a_t] (zPre D (zT cB cI cZ) [(a_t, .inr (11, [.int t_thrown, .ref a_t_now, .ref a_t_kept, .int t_isKept, .ref a_t_text, .int t_length, .ref a_t_passing, .int t_at, .int t_fault, .int t_open, .int t_asked, .int t_byGun, .int t_prizeMost, .ref a_t_order, .ref a_t_times, .int t_listed])), (a_t_text, .inl (cB, 200, .inl t_text))] sz)) (zQi r0 D (zT cB cI cZ) [(a_t, .inr (11, [.int t_thrown, .ref a_t_now, .ref a_t_kept, .int t_isKept, .ref a_t_text, .int t_length, .ref a_t_passing, .int t_at', .int t_fault, .int t_open, .int t_asked, .int t_byGun, .int t_prizeMost, .ref a_t_order, .ref a_t_times, .int t_listed])), (a_t_text, .inl (cB, 200, .inl t_text))] (va_A [(a_t, .inr (11, [.int t_thrown, .ref a_t_now, .ref a_t_kept, .int t_isKept, .ref a_t_text, .int t_length, .ref a_t_passing, .int t_at, .int t_fault, .int t_open, .int t_asked, .int t_byGun, .int t_prizeMost, .ref a_t_order, .ref a_t_times, .int t_listed])), (a_t_text, .inl (cB, 200, .inl t_text))] sz)) 0 0 (va_A [(a_t, .inr (11, [.int t_thrown, .ref a_t_now, .ref a_t_kept, .int t_isKept, .ref a_t_text, .int t_length, .ref a_t_passing, .int t_at, .int t_fault, .int t_open, .int t_asked, .int t_byGun, .int t_prizeMost, .ref a_t_order, .ref a_t_times, .int t_listed])), (a_t_text, .inl (cB, 200, .inl t_text))] sz) := by
  refine Met.ofW (cc := cX11_look) (maxL := 1) (ret := (some .int)) (by decide) rfl ?_
  intro p e s m args below meth c s₁ B hml hv
  obtain ⟨rfl, hsz, hP, hK, hN, hZ, hD0⟩ := hv
  have hx := B.exec
  have hb := B.bytes
  have hr := B.returns
  have hts := atoms_spec (ws := wsX11_look) B.pre
  have hown : s.vm.findClass RX11 = some m.cls := findClass_of_methodNamed B.named
  have hlocks := B.notSynchronized
  subst hsz
  have hD := hD0.self (sz := s.heap.size)
  generalize hAe : va_A [(a_t, .inr (11, [.int t_thrown, .ref a_t_now, .ref a_t_kept, .int t_isKept, .ref a_t_text, .int t_length, .ref a_t_passing, .int t_at, .int t_fault, .int t_open, .int t_asked, .int t_byGun, .int t_prizeMost, .ref a_t_order, .ref a_t_times, .int t_listed])), (a_t_text, .inl (cB, 200, .inl t_text))] s.heap.size = A at hD hZ ⊢
  have hA : ∀ q : Nat, s.heap.size ≤ q → A q := fun q h => by rw [← hAe]; exact Or.inr h
  have hS : va_S A s.heap s.heap [] := va_S.rf
  have hl := lv_entry ([.ref a_t]) (n := 1) (Nat.le_of_ble_eq_true rfl)
  rw [lg_entry_eq]
  generalize (lg_sl ([.ref a_t]) ++ List.replicate (1 - (lg_sl ([.ref a_t])).length) Slot.unset).toArray = ls at hl ⊢
  have hl : lv_has ls 1 [(0, .ref a_t)] := hl
  unfold fX11_look at h
  have X0_38 : ∀ (t_at_0 : Int32) (H : Heap) (locs : List Loc) (ls : Array Slot), (if t_length ≤ t_at_0 then some ((-1 : Int32), t_at_0) else (if zin t_at_0 200 then some (((t_text (t_at_0).toNatClampNeg) &&& (255 : Int32)), t_at_0) else none)) = some (r0, t_at') → va_P D vwCl [(a_t, .inr (11, [.int t_thrown, .ref a_t_now, .ref a_t_kept, .int t_isKept, .ref a_t_text, .int t_length, .ref a_t_passing, .int t_at_0, .int t_fault, .int t_open, .int t_asked, .int t_byGun, .int t_prizeMost, .ref a_t_order, .ref a_t_times, .int t_listed])), (a_t_text, .inl (cB, 200, .inl t_text))] H → va_D A [(a_t, .inr (11, [.int t_thrown, .ref a_t_now, .ref a_t_kept, .int t_isKept, .ref a_t_text, .int t_length, .ref a_t_passing, .int t_at_0, .int t_fault, .int t_open, .int t_asked, .int t_byGun, .int t_prizeMost, .ref a_t_order, .ref a_t_times, .int t_listed])), (a_t_text, .inl (cB, 200, .inl t_text))] → va_S A s.heap H locs → lv_has ls 1 [(0, .ref a_t)] → W p l e (headSpec wsX11_look ({ frames := 0, cells := 0, slots := 0, locals := 0 } : Room)).room s m #[Value.ref a_t] below meth c H locs 0 0 (MQ below (zQi r0 D (zT cB cI cZ) [(a_t, .inr (11, [.int t_thrown, .ref a_t_now, .ref a_t_kept, .int t_isKept, .ref a_t_text, .int t_length, .ref a_t_passing, .int t_at', .int t_fault, .int t_open, .int t_asked, .int t_byGun, .int t_prizeMost, .ref a_t_order, .ref a_t_times, .int t_listed])), (a_t_text, .inl (cB, 200, .inl t_text))] A) #[Value.ref a_t] s 0 0 A) (F0 m 38 ls []) := by
    intro t_at_0 H locs ls h hP hD hS hl
    refine lv_aload_n hx hb dX11_look_38 rfl (lv_at hl 0 rfl) ?_
    refine va_get (D := D) (ci := 11) (C := RX11) (T := TX11) (N := 16) hx hb hts qX11_look_X11 hown hK hP 0 rfl rfl 7 (by decide) (hts _ kX11_look_0) (fun _ h9 => h9) rfl dX11_look_39 ?_
    refine lv_aload_n hx hb dX11_look_42 rfl (lv_at hl 0 rfl) ?_
    refine va_get (D := D) (ci := 11) (C := RX11) (T := TX11) (N := 16) hx hb hts qX11_look_X11 hown hK hP 0 rfl rfl 5 (by decide) (hts _ kX11_look_2) (fun _ h9 => h9) rfl dX11_look_43 ?_
    refine lv_icmp_ge (tgt := 65) hx hb dX11_look_46 (by decide) (fun c1 => ?_) (fun c1 => ?_)
    · have h := zz_t h c1
      refine lv_iconst (v := (-1 : Int32)) hx hb dX11_look_65 rfl ?_
      obtain ⟨j0_, g_⟩ := Prod.mk.inj (Option.some.inj h)
      have j1_ := g_
      subst j0_
      subst j1_
      exact W.iret (v := (-1 : Int32)) hx hb hr (fun t ht hW => ⟨⟨_, (), rfl, rfl, zPost.of hP hD hK ht hW [0, 1] rfl rfl rfl⟩, hS.F ht⟩) hS.2.2 dX11_look_66
    · have h := zz_f h c1
      refine lv_aload_n hx hb dX11_look_49 rfl (lv_at hl 0 rfl) ?_
      refine va_get (D := D) (ci := 11) (C := RX11) (T := TX11) (N := 16) hx hb hts qX11_look_X11 hown hK hP 0 rfl rfl 4 (by decide) (hts _ kX11_look_3) (fun _ h9 => h9) rfl dX11_look_50 ?_
      refine lv_aload_n hx hb dX11_look_53 rfl (lv_at hl 0 rfl) ?_
      refine va_get (D := D) (ci := 11) (C := RX11) (T := TX11) (N := 16) hx hb hts qX11_look_X11 hown hK hP 0 rfl rfl 7 (by decide) (hts _ kX11_look_0) (fun _ h9 => h9) rfl dX11_look_54 ?_
      obtain ⟨i2, h⟩ := zz_i h
      refine va_bald hx hb hK hP 1 0 rfl rfl i2 dX11_look_57 ?_
      refine lv_sipush (v := (255 : Int32)) hx hb dX11_look_58 rfl ?_
      refine lv_iand hx hb dX11_look_61 ?_
      refine lv_goto (tgt := 66) hx hb dX11_look_62 (by decide) ?_
      obtain ⟨j0_, g_⟩ := Prod.mk.inj (Option.some.inj h)
      have j1_ := g_
      subst j0_
      subst j1_
      exact W.iret (v := ((t_text (t_at_0).toNatClampNeg) &&& (255 : Int32))) hx hb hr (fun t ht hW => ⟨⟨_, (), rfl, rfl, zPost.of hP hD hK ht hW [0, 1] rfl rfl rfl⟩, hS.F ht⟩) hS.2.2 dX11_look_66
  have L0 : ∀ (n : Nat) (t_at_0 : Int32) (H : Heap) (locs : List Loc) (ls : Array Slot), fX11_look_L0 t_length t_text (fun (t_at_0 : Int32) => (if t_length ≤ t_at_0 then some ((-1 : Int32), t_at_0) else (if zin t_at_0 200 then some (((t_text (t_at_0).toNatClampNeg) &&& (255 : Int32)), t_at_0) else none))) n t_at_0 = some (r0, t_at') → va_P D vwCl [(a_t, .inr (11, [.int t_thrown, .ref a_t_now, .ref a_t_kept, .int t_isKept, .ref a_t_text, .int t_length, .ref a_t_passing, .int t_at_0, .int t_fault, .int t_open, .int t_asked, .int t_byGun, .int t_prizeMost, .ref a_t_order, .ref a_t_times, .int t_listed])), (a_t_text, .inl (cB, 200, .inl t_text))] H → va_D A [(a_t, .inr (11, [.int t_thrown, .ref a_t_now, .ref a_t_kept, .int t_isKept, .ref a_t_text, .int t_length, .ref a_t_passing, .int t_at_0, .int t_fault, .int t_open, .int t_asked, .int t_byGun, .int t_prizeMost, .ref a_t_order, .ref a_t_times, .int t_listed])), (a_t_text, .inl (cB, 200, .inl t_text))] → va_S A s.heap H locs → lv_has ls 1 [(0, .ref a_t)] → W p l e (headSpec wsX11_look ({ frames := 0, cells := 0, slots := 0, locals := 0 } : Room)).room s m #[Value.ref a_t] below meth c H locs 0 0 (MQ below (zQi r0 D (zT cB cI cZ) [(a_t, .inr (11, [.int t_thrown, .ref a_t_now, .ref a_t_kept, .int t_isKept, .ref a_t_text, .int t_length, .ref a_t_passing, .int t_at', .int t_fault, .int t_open, .int t_asked, .int t_byGun, .int t_prizeMost, .ref a_t_order, .ref a_t_times, .int t_listed])), (a_t_text, .inl (cB, 200, .inl t_text))] A) #[Value.ref a_t] s 0 0 A) (F0 m 0 ls []) := by
    intro n
    induction n with
    | zero => intro _ H locs ls h hP hD hS hl; cases h
    | succ n0 ih0 =>
      intro t_at_0 H locs ls h hP hD hS hl
      rw [fX11_look_L0.eq_2] at h
      refine lv_aload_n hx hb dX11_look_0 rfl (lv_at hl 0 rfl) ?_
      refine va_get (D := D) (ci := 11) (C := RX11) (T := TX11) (N := 16) hx hb hts qX11_look_X11 hown hK hP 0 rfl rfl 7 (by decide) (hts _ kX11_look_0) (fun _ h9 => h9) rfl dX11_look_1 ?_
      refine lv_aload_n hx hb dX11_look_4 rfl (lv_at hl 0 rfl) ?_
      refine va_get (D := D) (ci := 11) (C := RX11) (T := TX11) (N := 16) hx hb hts qX11_look_X11 hown hK hP 0 rfl rfl 5 (by decide) (hts _ kX11_look_2) (fun _ h9 => h9) rfl dX11_look_5 ?_
      refine lv_icmp_ge (tgt := 38) hx hb dX11_look_8 (by decide) (fun c3 => ?_) (fun c3 => ?_)
      · have h := zz_t h c3
        exact X0_38 t_at_0 _ _ _ h (hP.sub [0, 1] rfl) (hD.sub [0, 1] rfl rfl) hS (lv_sub hl [0] rfl)
      · have h := zz_f h c3
        refine lv_aload_n hx hb dX11_look_11 rfl (lv_at hl 0 rfl) ?_
        refine va_get (D := D) (ci := 11) (C := RX11) (T := TX11) (N := 16) hx hb hts qX11_look_X11 hown hK hP 0 rfl rfl 4 (by decide) (hts _ kX11_look_3) (fun _ h9 => h9) rfl dX11_look_12 ?_
        refine lv_aload_n hx hb dX11_look_15 rfl (lv_at hl 0 rfl) ?_
        refine va_get (D := D) (ci := 11) (C := RX11) (T := TX11) (N := 16) hx hb hts qX11_look_X11 hown hK hP 0 rfl rfl 7 (by decide) (hts _ kX11_look_0) (fun _ h9 => h9) rfl dX11_look_16 ?_
        obtain ⟨i4, h⟩ := zz_i h
        refine va_bald hx hb hK hP 1 0 rfl rfl i4 dX11_look_19 ?_
        refine lv_bipush (v := (32 : Int32)) hx hb dX11_look_20 rfl ?_
        refine lv_icmp_ne (tgt := 38) hx hb dX11_look_22 (by decide) (fun c5 => ?_) (fun c5 => ?_)
        · have h := zz_f h c5
          exact X0_38 t_at_0 _ _ _ h (hP.sub [0, 1] rfl) (hD.sub [0, 1] rfl rfl) hS (lv_sub hl [0] rfl)
        · have h := zz_t h c5
          refine lv_aload_n hx hb dX11_look_25 rfl (lv_at hl 0 rfl) ?_
          refine lv_dup hx hb dX11_look_26 rfl ?_
          refine va_get (D := D) (ci := 11) (C := RX11) (T := TX11) (N := 16) hx hb hts qX11_look_X11 hown hK hP 0 rfl rfl 7 (by decide) (hts _ kX11_look_0) (fun _ h9 => h9) rfl dX11_look_27 ?_
          refine lv_iconst (v := (1 : Int32)) hx hb dX11_look_30 rfl ?_
          refine lv_iadd hx hb dX11_look_31 ?_
          refine va_put (D := D) (ci := 11) (ty := .int) (C := RX11) (T := TX11) (N := 16) hx hb hts qX11_look_X11 tyX11 tyX11_ok nmX11 hown hK hP hD hS 0 rfl rfl 7 (by decide) (hts _ kX11_look_0) (fun _ h9 => h9) rfl (by decide +kernel) rfl (by first | rfl | exact zz_fit) (Nat.le_of_ble_eq_true rfl) dX11_look_32 (fun H locs hP hD hS => ?_)
          have hP : va_P D vwCl [(a_t, .inr (11, [.int t_thrown, .ref a_t_now, .ref a_t_kept, .int t_isKept, .ref a_t_text, .int t_length, .ref a_t_passing, .int (t_at_0 + (1 : Int32)), .int t_fault, .int t_open, .int t_asked, .int t_byGun, .int t_prizeMost, .ref a_t_order, .ref a_t_times, .int t_listed])), (a_t_text, .inl (cB, 200, .inl t_text))] H := hP
          have hD : va_D A [(a_t, .inr (11, [.int t_thrown, .ref a_t_now, .ref a_t_kept, .int t_isKept, .ref a_t_text, .int t_length, .ref a_t_passing, .int (t_at_0 + (1 : Int32)), .int t_fault, .int t_open, .int t_asked, .int t_byGun, .int t_prizeMost, .ref a_t_order, .ref a_t_times, .int t_listed])), (a_t_text, .inl (cB, 200, .inl t_text))] := hD
          refine lv_goto (tgt := 0) hx hb dX11_look_35 (by decide) ?_
          exact ih0 (t_at_0 + (1 : Int32)) _ _ _ h (hP.sub [0, 1] rfl) (hD.sub [0, 1] rfl rfl) hS (lv_sub hl [0] rfl)
  exact L0 N t_at _ _ _ h hP hD hS hl
/-! RunDeskModel.isFine -/
theorem dX11_isFine_0 : decode cX11_isFine 0 = .ok (.aload_n 0, 1) := by decide +kernel
theorem dX11_isFine_1 : decode cX11_isFine 1 = .ok (.getfield 151, 3) := by decide +kernel
theorem dX11_isFine_4 : decode cX11_isFine 4 = .ok (.iconst (-1), 1) := by decide +kernel
theorem dX11_isFine_5 : decode cX11_isFine 5 = .ok (.if_icmp .ne 7, 3) := by decide +kernel
theorem dX11_isFine_8 : decode cX11_isFine 8 = .ok (.iconst 1, 1) := by decide +kernel
theorem dX11_isFine_9 : decode cX11_isFine 9 = .ok (.goto 4, 3) := by decide +kernel
theorem dX11_isFine_12 : decode cX11_isFine 12 = .ok (.iconst 0, 1) := by decide +kernel
theorem dX11_isFine_13 : decode cX11_isFine 13 = .ok (.ireturn, 1) := by decide +kernel
def fX11_isFine (t_fault : Int32) : Option (Bool) := (if t_fault = (-1 : Int32) then some (true) else some (false))
theorem kX11_isFine_0 : (.fieldLink RX11 151 "RunDeskModel" "fault" "I" : Cond) ∈ wsX11_isFine := List.mem_of_getElem? (i := 1) (by decide +kernel)
theorem qX11_isFine_X11 : ∀ w ∈ wsX110, w ∈ wsX11_isFine := fun _ h => List.mem_cons_of_mem _ (List.mem_append_right _ (h))
set_option maxHeartbeats 4000000 in
set_option maxRecDepth 100000 in
theorem mX11_isFine (l : Launch) (D : va_G) (cB cI cZ : ClassId) (a_t : Nat) (a_t_now : Nat) (a_t_kept : Nat) (a_t_text : Nat) (a_t_passing : Nat) (a_t_order : Nat) (a_t_times : Nat) (t_thrown : Int32) (t_isKept : Int32) (t_length : Int32) (t_at : Int32) (t_fault : Int32) (t_open : Int32) (t_asked : Int32) (t_byGun : Int32) (t_prizeMost : Int32) (t_listed : Int32) (sz : Nat) (b0 : Bool) (h : fX11_isFine t_fault = some (b0)) : Met l yX11_isFine wsX11_isFine ({ frames := 0, cells := 0, slots := 0, locals := 0 } : Room) (va_Pc [.ref a_t] (zPre D (zT cB cI cZ) [(a_t, .inr (11, [.int t_thrown, .ref a_t_now, .ref a_t_kept, .int t_isKept, .ref a_t_text, .int t_length, .ref a_t_passing, .int t_at, .int t_fault, .int t_open, .int t_asked, .int t_byGun, .int t_prizeMost, .ref a_t_order, .ref a_t_times, .int t_listed]))] sz)) (zQi (zb b0) D (zT cB cI cZ) [(a_t, .inr (11, [.int t_thrown, .ref a_t_now, .ref a_t_kept, .int t_isKept, .ref a_t_text, .int t_length, .ref a_t_passing, .int t_at, .int t_fault, .int t_open, .int t_asked, .int t_byGun, .int t_prizeMost, .ref a_t_order, .ref a_t_times, .int t_listed]))] (va_A [(a_t, .inr (11, [.int t_thrown, .ref a_t_now, .ref a_t_kept, .int t_isKept, .ref a_t_text, .int t_length, .ref a_t_passing, .int t_at, .int t_fault, .int t_open, .int t_asked, .int t_byGun, .int t_prizeMost, .ref a_t_order, .ref a_t_times, .int t_listed]))] sz)) 0 0 (va_A [(a_t, .inr (11, [.int t_thrown, .ref a_t_now, .ref a_t_kept, .int t_isKept, .ref a_t_text, .int t_length, .ref a_t_passing, .int t_at, .int t_fault, .int t_open, .int t_asked, .int t_byGun, .int t_prizeMost, .ref a_t_order, .ref a_t_times, .int t_listed]))] sz) := by
  refine Met.ofW (cc := cX11_isFine) (maxL := 1) (ret := (some .boolean)) (by decide) rfl ?_
  intro p e s m args below meth c s₁ B hml hv
  obtain ⟨rfl, hsz, hP, hK, hN, hZ, hD0⟩ := hv
  have hx := B.exec
  have hb := B.bytes
  have hr := B.returns
  have hts := atoms_spec (ws := wsX11_isFine) B.pre
  have hown : s.vm.findClass RX11 = some m.cls := findClass_of_methodNamed B.named
  have hlocks := B.notSynchronized
  subst hsz
  have hD := hD0.self (sz := s.heap.size)
  generalize hAe : va_A [(a_t, .inr (11, [.int t_thrown, .ref a_t_now, .ref a_t_kept, .int t_isKept, .ref a_t_text, .int t_length, .ref a_t_passing, .int t_at, .int t_fault, .int t_open, .int t_asked, .int t_byGun, .int t_prizeMost, .ref a_t_order, .ref a_t_times, .int t_listed]))] s.heap.size = A at hD hZ ⊢
  have hA : ∀ q : Nat, s.heap.size ≤ q → A q := fun q h => by rw [← hAe]; exact Or.inr h
  have hS : va_S A s.heap s.heap [] := va_S.rf
  have hl := lv_entry ([.ref a_t]) (n := 1) (Nat.le_of_ble_eq_true rfl)
  rw [lg_entry_eq]
  generalize (lg_sl ([.ref a_t]) ++ List.replicate (1 - (lg_sl ([.ref a_t])).length) Slot.unset).toArray = ls at hl ⊢
  have hl : lv_has ls 1 [(0, .ref a_t)] := hl
  unfold fX11_isFine at h
  refine lv_aload_n hx hb dX11_isFine_0 rfl (lv_at hl 0 rfl) ?_
  refine va_get (D := D) (ci := 11) (C := RX11) (T := TX11) (N := 16) hx hb hts qX11_isFine_X11 hown hK hP 0 rfl rfl 8 (by decide) (hts _ kX11_isFine_0) (fun _ h9 => h9) rfl dX11_isFine_1 ?_
  refine lv_iconst (v := (-1 : Int32)) hx hb dX11_isFine_4 rfl ?_
  refine lv_icmp_ne (tgt := 12) hx hb dX11_isFine_5 (by decide) (fun c1 => ?_) (fun c1 => ?_)
  · have h := zz_f h c1
    refine lv_iconst (v := (0 : Int32)) hx hb dX11_isFine_12 rfl ?_
    have j0_ := Option.some.inj h
    subst j0_
    exact W.zret (v := (0 : Int32)) hx hb hr rfl (fun t ht hW => ⟨⟨_, (), rfl, rfl, zPost.of hP hD hK ht hW [0] rfl rfl rfl⟩, hS.F ht⟩) hS.2.2 dX11_isFine_13
  · have h := zz_t h c1
    refine lv_iconst (v := (1 : Int32)) hx hb dX11_isFine_8 rfl ?_
    refine lv_goto (tgt := 13) hx hb dX11_isFine_9 (by decide) ?_
    have j0_ := Option.some.inj h
    subst j0_
    exact W.zret (v := (1 : Int32)) hx hb hr rfl (fun t ht hW => ⟨⟨_, (), rfl, rfl, zPost.of hP hD hK ht hW [0] rfl rfl rfl⟩, hS.F ht⟩) hS.2.2 dX11_isFine_13
/-! RunDeskModel.wrong -/
theorem dX11_wrong_0 : decode cX11_wrong 0 = .ok (.aload_n 0, 1) := by decide +kernel
theorem dX11_wrong_1 : decode cX11_wrong 1 = .ok (.getfield 151, 3) := by decide +kernel
theorem dX11_wrong_4 : decode cX11_wrong 4 = .ok (.iconst (-1), 1) := by decide +kernel
theorem dX11_wrong_5 : decode cX11_wrong 5 = .ok (.if_icmp .ne 11, 3) := by decide +kernel
theorem dX11_wrong_8 : decode cX11_wrong 8 = .ok (.aload_n 0, 1) := by decide +kernel
theorem dX11_wrong_9 : decode cX11_wrong 9 = .ok (.aload_n 0, 1) := by decide +kernel
theorem dX11_wrong_10 : decode cX11_wrong 10 = .ok (.getfield 148, 3) := by decide +kernel
theorem dX11_wrong_13 : decode cX11_wrong 13 = .ok (.putfield 151, 3) := by decide +kernel
theorem dX11_wrong_16 : decode cX11_wrong 16 = .ok (.return_, 1) := by decide +kernel
def fX11_wrong (t_at : Int32) (t_fault : Int32) : Option (Int32) := (if t_fault = (-1 : Int32) then some (t_at) else some (t_fault))
theorem kX11_wrong_0 : (.fieldLink RX11 151 "RunDeskModel" "fault" "I" : Cond) ∈ wsX11_wrong := List.mem_of_getElem? (i := 1) (by decide +kernel)
theorem qX11_wrong_X11 : ∀ w ∈ wsX110, w ∈ wsX11_wrong := fun _ h => List.mem_cons_of_mem _ (List.mem_append_right _ (h))
theorem kX11_wrong_2 : (.fieldLink RX11 148 "RunDeskModel" "at" "I" : Cond) ∈ wsX11_wrong := List.mem_of_getElem? (i := 2) (by decide +kernel)
set_option maxHeartbeats 4000000 in
set_option maxRecDepth 100000 in
theorem mX11_wrong (l : Launch) (D : va_G) (cB cI cZ : ClassId) (a_t : Nat) (a_t_now : Nat) (a_t_kept : Nat) (a_t_text : Nat) (a_t_passing : Nat) (a_t_order : Nat) (a_t_times : Nat) (t_thrown : Int32) (t_isKept : Int32) (t_length : Int32) (t_at : Int32) (t_fault : Int32) (t_open : Int32) (t_asked : Int32) (t_byGun : Int32) (t_prizeMost : Int32) (t_listed : Int32) (sz : Nat) (t_fault' : Int32) (h : fX11_wrong t_at t_fault = some (t_fault')) : Met l yX11_wrong wsX11_wrong ({ frames := 0, cells := 0, slots := 0, locals := 0 } : Room) (va_Pc [.ref a_t] (zPre D (zT cB cI cZ) [(a_t, .inr (11, [.int t_thrown, .ref a_t_now, .ref a_t_kept, .int t_isKept, .ref a_t_text, .int t_length, .ref a_t_passing, .int t_at, .int t_fault, .int t_open, .int t_asked, .int t_byGun, .int t_prizeMost, .ref a_t_order, .ref a_t_times, .int t_listed]))] sz)) (zQv D (zT cB cI cZ) [(a_t, .inr (11, [.int t_thrown, .ref a_t_now, .ref a_t_kept, .int t_isKept, .ref a_t_text, .int t_length, .ref a_t_passing, .int t_at, .int t_fault', .int t_open, .int t_asked, .int t_byGun, .int t_prizeMost, .ref a_t_order, .ref a_t_times, .int t_listed]))] (va_A [(a_t, .inr (11, [.int t_thrown, .ref a_t_now, .ref a_t_kept, .int t_isKept, .ref a_t_text, .int t_length, .ref a_t_passing, .int t_at, .int t_fault, .int t_open, .int t_asked, .int t_byGun, .int t_prizeMost, .ref a_t_order, .ref a_t_times, .int t_listed]))] sz)) 0 0 (va_A [(a_t, .inr (11, [.int t_thrown, .ref a_t_now, .ref a_t_kept, .int t_isKept, .ref a_t_text, .int t_length, .ref a_t_passing, .int t_at, .int t_fault, .int t_open, .int t_asked, .int t_byGun, .int t_prizeMost, .ref a_t_order, .ref a_t_times, .int t_listed]))] sz) := by
  refine Met.ofW (cc := cX11_wrong) (maxL := 1) (ret := none) (by decide) rfl ?_
  intro p e s m args below meth c s₁ B hml hv
  obtain ⟨rfl, hsz, hP, hK, hN, hZ, hD0⟩ := hv
  have hx := B.exec
  have hb := B.bytes
  have hr := B.returns
  have hts := atoms_spec (ws := wsX11_wrong) B.pre
  have hown : s.vm.findClass RX11 = some m.cls := findClass_of_methodNamed B.named
  have hlocks := B.notSynchronized
  subst hsz
  have hD := hD0.self (sz := s.heap.size)
  generalize hAe : va_A [(a_t, .inr (11, [.int t_thrown, .ref a_t_now, .ref a_t_kept, .int t_isKept, .ref a_t_text, .int t_length, .ref a_t_passing, .int t_at, .int t_fault, .int t_open, .int t_asked, .int t_byGun, .int t_prizeMost, .ref a_t_order, .ref a_t_times, .int t_listed]))] s.heap.size = A at hD hZ ⊢
  have hA : ∀ q : Nat, s.heap.size ≤ q → A q := fun q h => by rw [← hAe]; exact Or.inr h
  have hS : va_S A s.heap s.heap [] := va_S.rf
  have hl := lv_entry ([.ref a_t]) (n := 1) (Nat.le_of_ble_eq_true rfl)
  rw [lg_entry_eq]
  generalize (lg_sl ([.ref a_t]) ++ List.replicate (1 - (lg_sl ([.ref a_t])).length) Slot.unset).toArray = ls at hl ⊢
  have hl : lv_has ls 1 [(0, .ref a_t)] := hl
  unfold fX11_wrong at h
  refine lv_aload_n hx hb dX11_wrong_0 rfl (lv_at hl 0 rfl) ?_
  refine va_get (D := D) (ci := 11) (C := RX11) (T := TX11) (N := 16) hx hb hts qX11_wrong_X11 hown hK hP 0 rfl rfl 8 (by decide) (hts _ kX11_wrong_0) (fun _ h9 => h9) rfl dX11_wrong_1 ?_
  refine lv_iconst (v := (-1 : Int32)) hx hb dX11_wrong_4 rfl ?_
  refine lv_icmp_ne (tgt := 16) hx hb dX11_wrong_5 (by decide) (fun c1 => ?_) (fun c1 => ?_)
  · have h := zz_f h c1
    have j0_ := Option.some.inj h
    subst j0_
    exact W.vret hx hb hr (fun t ht hW => ⟨⟨(), rfl, trivial, zPost.of hP hD hK ht hW [0] rfl rfl rfl⟩, hS.F ht⟩) hS.2.2 dX11_wrong_16
  · have h := zz_t h c1
    refine lv_aload_n hx hb dX11_wrong_8 rfl (lv_at hl 0 rfl) ?_
    refine lv_aload_n hx hb dX11_wrong_9 rfl (lv_at hl 0 rfl) ?_
    refine va_get (D := D) (ci := 11) (C := RX11) (T := TX11) (N := 16) hx hb hts qX11_wrong_X11 hown hK hP 0 rfl rfl 7 (by decide) (hts _ kX11_wrong_2) (fun _ h9 => h9) rfl dX11_wrong_10 ?_
    refine va_put (D := D) (ci := 11) (ty := .int) (C := RX11) (T := TX11) (N := 16) hx hb hts qX11_wrong_X11 tyX11 tyX11_ok nmX11 hown hK hP hD hS 0 rfl rfl 8 (by decide) (hts _ kX11_wrong_0) (fun _ h9 => h9) rfl (by decide +kernel) rfl (by first | rfl | exact zz_fit) (Nat.le_of_ble_eq_true rfl) dX11_wrong_13 (fun H locs hP hD hS => ?_)
    have hP : va_P D vwCl [(a_t, .inr (11, [.int t_thrown, .ref a_t_now, .ref a_t_kept, .int t_isKept, .ref a_t_text, .int t_length, .ref a_t_passing, .int t_at, .int t_at, .int t_open, .int t_asked, .int t_byGun, .int t_prizeMost, .ref a_t_order, .ref a_t_times, .int t_listed]))] H := hP
    have hD : va_D A [(a_t, .inr (11, [.int t_thrown, .ref a_t_now, .ref a_t_kept, .int t_isKept, .ref a_t_text, .int t_length, .ref a_t_passing, .int t_at, .int t_at, .int t_open, .int t_asked, .int t_byGun, .int t_prizeMost, .ref a_t_order, .ref a_t_times, .int t_listed]))] := hD
    have j0_ := Option.some.inj h
    subst j0_
    exact W.vret hx hb hr (fun t ht hW => ⟨⟨(), rfl, trivial, zPost.of hP hD hK ht hW [0] rfl rfl rfl⟩, hS.F ht⟩) hS.2.2 dX11_wrong_16
/-! RunDeskModel.isDigit -/
theorem dX11_isDigit_0 : decode cX11_isDigit 0 = .ok (.iload_n 0, 1) := by decide +kernel
theorem dX11_isDigit_1 : decode cX11_isDigit 1 = .ok (.bipush 48, 2) := by decide +kernel
theorem dX11_isDigit_3 : decode cX11_isDigit 3 = .ok (.if_icmp .lt 13, 3) := by decide +kernel
theorem dX11_isDigit_6 : decode cX11_isDigit 6 = .ok (.iload_n 0, 1) := by decide +kernel
theorem dX11_isDigit_7 : decode cX11_isDigit 7 = .ok (.bipush 57, 2) := by decide +kernel
theorem dX11_isDigit_9 : decode cX11_isDigit 9 = .ok (.if_icmp .gt 7, 3) := by decide +kernel
theorem dX11_isDigit_12 : decode cX11_isDigit 12 = .ok (.iconst 1, 1) := by decide +kernel
theorem dX11_isDigit_13 : decode cX11_isDigit 13 = .ok (.goto 4, 3) := by decide +kernel
theorem dX11_isDigit_16 : decode cX11_isDigit 16 = .ok (.iconst 0, 1) := by decide +kernel
theorem dX11_isDigit_17 : decode cX11_isDigit 17 = .ok (.ireturn, 1) := by decide +kernel
def fX11_isDigit (x1 : Int32) : Option (Bool) := (if x1 < (48 : Int32) then some (false) else (if (57 : Int32) < x1 then some (false) else some (true)))
set_option maxHeartbeats 4000000 in
set_option maxRecDepth 100000 in
theorem mX11_isDigit (l : Launch) (D : va_G) (cB cI cZ : ClassId) (sz : Nat) (x1 : Int32) (b0 : Bool) (h : fX11_isDigit x1 = some (b0)) : Met l yX11_isDigit wsX11_isDigit ({ frames := 0, cells := 0, slots := 0, locals := 0 } : Room) (va_Pc [.int x1] (zPre D (zT cB cI cZ) [] sz)) (zQi (zb b0) D (zT cB cI cZ) [] (va_A [] sz)) 0 0 (va_A [] sz) := by
  refine Met.ofW (cc := cX11_isDigit) (maxL := 1) (ret := (some .boolean)) (by decide) rfl ?_
  intro p e s m args below meth c s₁ B hml hv
  obtain ⟨rfl, hsz, hP, hK, hN, hZ, hD0⟩ := hv
  have hx := B.exec
  have hb := B.bytes
  have hr := B.returns
  have hts := atoms_spec (ws := wsX11_isDigit) B.pre
  have hown : s.vm.findClass RX11 = some m.cls := findClass_of_methodNamed B.named
  have hlocks := B.notSynchronized
  subst hsz
  have hD := hD0.self (sz := s.heap.size)
  generalize hAe : va_A [] s.heap.size = A at hD hZ ⊢
  have hA : ∀ q : Nat, s.heap.size ≤ q → A q := fun q h => by rw [← hAe]; exact Or.inr h
  have hS : va_S A s.heap s.heap [] := va_S.rf
  have hl := lv_entry ([.int x1]) (n := 1) (Nat.le_of_ble_eq_true rfl)
  rw [lg_entry_eq]
  generalize (lg_sl ([.int x1]) ++ List.replicate (1 - (lg_sl ([.int x1])).length) Slot.unset).toArray = ls at hl ⊢
  have hl : lv_has ls 1 [(0, .int x1)] := hl
  unfold fX11_isDigit at h
  refine lv_iload_n hx hb dX11_isDigit_0 rfl (lv_at hl 0 rfl) ?_
  refine lv_bipush (v := (48 : Int32)) hx hb dX11_isDigit_1 rfl ?_
  refine lv_icmp_lt (tgt := 16) hx hb dX11_isDigit_3 (by decide) (fun c1 => ?_) (fun c1 => ?_)
  · have h := zz_t h c1
    refine lv_iconst (v := (0 : Int32)) hx hb dX11_isDigit_16 rfl ?_
    have j0_ := Option.some.inj h
    subst j0_
    exact W.zret (v := (0 : Int32)) hx hb hr rfl (fun t ht hW => ⟨⟨_, (), rfl, rfl, zPost.of hP hD hK ht hW [] rfl rfl rfl⟩, hS.F ht⟩) hS.2.2 dX11_isDigit_17
  · have h := zz_f h c1
    refine lv_iload_n hx hb dX11_isDigit_6 rfl (lv_at hl 0 rfl) ?_
    refine lv_bipush (v := (57 : Int32)) hx hb dX11_isDigit_7 rfl ?_
    refine lv_icmp_gt (tgt := 16) hx hb dX11_isDigit_9 (by decide) (fun c2 => ?_) (fun c2 => ?_)
    · have h := zz_t h c2
      refine lv_iconst (v := (0 : Int32)) hx hb dX11_isDigit_16 rfl ?_
      have j0_ := Option.some.inj h
      subst j0_
      exact W.zret (v := (0 : Int32)) hx hb hr rfl (fun t ht hW => ⟨⟨_, (), rfl, rfl, zPost.of hP hD hK ht hW [] rfl rfl rfl⟩, hS.F ht⟩) hS.2.2 dX11_isDigit_17
    · have h := zz_f h c2
      refine lv_iconst (v := (1 : Int32)) hx hb dX11_isDigit_12 rfl ?_
      refine lv_goto (tgt := 17) hx hb dX11_isDigit_13 (by decide) ?_
      have j0_ := Option.some.inj h
      subst j0_
      exact W.zret (v := (1 : Int32)) hx hb hr rfl (fun t ht hW => ⟨⟨_, (), rfl, rfl, zPost.of hP hD hK ht hW [] rfl rfl rfl⟩, hS.F ht⟩) hS.2.2 dX11_isDigit_17
/-! RunDeskModel.number -/
theorem dX11_number_0 : decode cX11_number 0 = .ok (.aload_n 0, 1) := by decide +kernel
theorem dX11_number_1 : decode cX11_number 1 = .ok (.invokevirtual 154, 3) := by decide +kernel
theorem dX11_number_4 : decode cX11_number 4 = .ok (.invokestatic 157, 3) := by decide +kernel
theorem dX11_number_7 : decode cX11_number 7 = .ok (.ifCond .ne 9, 3) := by decide +kernel
theorem dX11_number_10 : decode cX11_number 10 = .ok (.aload_n 0, 1) := by decide +kernel
theorem dX11_number_11 : decode cX11_number 11 = .ok (.invokevirtual 160, 3) := by decide +kernel
theorem dX11_number_14 : decode cX11_number 14 = .ok (.iconst 0, 1) := by decide +kernel
theorem dX11_number_15 : decode cX11_number 15 = .ok (.ireturn, 1) := by decide +kernel
theorem dX11_number_16 : decode cX11_number 16 = .ok (.iconst 0, 1) := by decide +kernel
theorem dX11_number_17 : decode cX11_number 17 = .ok (.istore_n 1, 1) := by decide +kernel
theorem dX11_number_18 : decode cX11_number 18 = .ok (.iconst 0, 1) := by decide +kernel
theorem dX11_number_19 : decode cX11_number 19 = .ok (.istore_n 2, 1) := by decide +kernel
theorem dX11_number_20 : decode cX11_number 20 = .ok (.aload_n 0, 1) := by decide +kernel
theorem dX11_number_21 : decode cX11_number 21 = .ok (.getfield 148, 3) := by decide +kernel
theorem dX11_number_24 : decode cX11_number 24 = .ok (.aload_n 0, 1) := by decide +kernel
theorem dX11_number_25 : decode cX11_number 25 = .ok (.getfield 145, 3) := by decide +kernel
theorem dX11_number_28 : decode cX11_number 28 = .ok (.if_icmp .ge 63, 3) := by decide +kernel
theorem dX11_number_31 : decode cX11_number 31 = .ok (.aload_n 0, 1) := by decide +kernel
theorem dX11_number_32 : decode cX11_number 32 = .ok (.getfield 16, 3) := by decide +kernel
theorem dX11_number_35 : decode cX11_number 35 = .ok (.aload_n 0, 1) := by decide +kernel
theorem dX11_number_36 : decode cX11_number 36 = .ok (.getfield 148, 3) := by decide +kernel
theorem dX11_number_39 : decode cX11_number 39 = .ok (.baload, 1) := by decide +kernel
theorem dX11_number_40 : decode cX11_number 40 = .ok (.invokestatic 157, 3) := by decide +kernel
theorem dX11_number_43 : decode cX11_number 43 = .ok (.ifCond .eq 48, 3) := by decide +kernel
theorem dX11_number_46 : decode cX11_number 46 = .ok (.iload_n 2, 1) := by decide +kernel
theorem dX11_number_47 : decode cX11_number 47 = .ok (.iconst 5, 1) := by decide +kernel
theorem dX11_number_48 : decode cX11_number 48 = .ok (.if_icmp .ne 9, 3) := by decide +kernel
theorem dX11_number_51 : decode cX11_number 51 = .ok (.aload_n 0, 1) := by decide +kernel
theorem dX11_number_52 : decode cX11_number 52 = .ok (.invokevirtual 160, 3) := by decide +kernel
theorem dX11_number_55 : decode cX11_number 55 = .ok (.iconst 0, 1) := by decide +kernel
theorem dX11_number_56 : decode cX11_number 56 = .ok (.ireturn, 1) := by decide +kernel
theorem dX11_number_57 : decode cX11_number 57 = .ok (.bipush 10, 2) := by decide +kernel
theorem dX11_number_59 : decode cX11_number 59 = .ok (.iload_n 1, 1) := by decide +kernel
theorem dX11_number_60 : decode cX11_number 60 = .ok (.imul, 1) := by decide +kernel
theorem dX11_number_61 : decode cX11_number 61 = .ok (.aload_n 0, 1) := by decide +kernel
theorem dX11_number_62 : decode cX11_number 62 = .ok (.getfield 16, 3) := by decide +kernel
theorem dX11_number_65 : decode cX11_number 65 = .ok (.aload_n 0, 1) := by decide +kernel
theorem dX11_number_66 : decode cX11_number 66 = .ok (.getfield 148, 3) := by decide +kernel
theorem dX11_number_69 : decode cX11_number 69 = .ok (.baload, 1) := by decide +kernel
theorem dX11_number_70 : decode cX11_number 70 = .ok (.iadd, 1) := by decide +kernel
theorem dX11_number_71 : decode cX11_number 71 = .ok (.bipush 48, 2) := by decide +kernel
theorem dX11_number_73 : decode cX11_number 73 = .ok (.isub, 1) := by decide +kernel
theorem dX11_number_74 : decode cX11_number 74 = .ok (.istore_n 1, 1) := by decide +kernel
theorem dX11_number_75 : decode cX11_number 75 = .ok (.iinc 2 1, 3) := by decide +kernel
theorem dX11_number_78 : decode cX11_number 78 = .ok (.aload_n 0, 1) := by decide +kernel
theorem dX11_number_79 : decode cX11_number 79 = .ok (.dup, 1) := by decide +kernel
theorem dX11_number_80 : decode cX11_number 80 = .ok (.getfield 148, 3) := by decide +kernel
theorem dX11_number_83 : decode cX11_number 83 = .ok (.iconst 1, 1) := by decide +kernel
theorem dX11_number_84 : decode cX11_number 84 = .ok (.iadd, 1) := by decide +kernel
theorem dX11_number_85 : decode cX11_number 85 = .ok (.putfield 148, 3) := by decide +kernel
theorem dX11_number_88 : decode cX11_number 88 = .ok (.goto (-68), 3) := by decide +kernel
theorem dX11_number_91 : decode cX11_number 91 = .ok (.iload_n 1, 1) := by decide +kernel
theorem dX11_number_92 : decode cX11_number 92 = .ok (.ireturn, 1) := by decide +kernel
set_option maxRecDepth 20000 in
theorem ggX11_number_X11_look : GoodIn wsX11_number wsX11_look := goodIn_r _ [8, 1, 2, 3, 17, 18, 19, 20, 21, 22, 23, 24, 25, 26, 27, 28, 29, 30, 31, 32] (by decide +kernel) (by decide +kernel)
set_option maxRecDepth 20000 in
theorem gX11_number_X11_look : GoodIn wsX11_number (wsV RX11 154 RX11 yX11_look wsX11_look) := goodIn_app (goodIn_of _ (by decide +kernel)) ggX11_number_X11_look
set_option maxRecDepth 20000 in
theorem ggX11_number_X11_isDigit : GoodIn wsX11_number wsX11_isDigit := goodIn_r _ [11] (by decide +kernel) (by decide +kernel)
set_option maxRecDepth 20000 in
theorem gX11_number_X11_isDigit : GoodIn wsX11_number (va_wsS RX11 157 yX11_isDigit wsX11_isDigit) := goodIn_app (goodIn_of _ (by decide +kernel)) ggX11_number_X11_isDigit
set_option maxRecDepth 20000 in
theorem ggX11_number_X11_wrong : GoodIn wsX11_number wsX11_wrong := goodIn_r _ [15, 16, 1, 17, 18, 19, 20, 21, 22, 23, 24, 25, 26, 27, 28, 29, 30, 31, 32] (by decide +kernel) (by decide +kernel)
set_option maxRecDepth 20000 in
theorem gX11_number_X11_wrong : GoodIn wsX11_number (wsV RX11 160 RX11 yX11_wrong wsX11_wrong) := goodIn_app (goodIn_of _ (by decide +kernel)) ggX11_number_X11_wrong
def fX11_number_L20 (t_length : Int32) (t_text : Nat → Int32) (K20_91 : Int32 → Int32 → Int32 → Int32 → Option (Int32 × Int32 × Int32)) : Nat → Int32 → Int32 → Int32 → Int32 → Option (Int32 × Int32 × Int32)
  | 0, _, _, _, _ => none
  | n20 + 1, v1_20, v2_20, t_at_20, t_fault_20 => (if t_length ≤ t_at_20 then (K20_91 v1_20 v2_20 t_at_20 t_fault_20) else (if zin t_at_20 200 then ((fX11_isDigit (t_text (t_at_20).toNatClampNeg)).bind (fun b9 => (if (zb b9) = 0 then (K20_91 v1_20 v2_20 t_at_20 t_fault_20) else (if v2_20 = (5 : Int32) then ((fX11_wrong t_at_20 t_fault_20).bind (fun t_fault_14 => some ((0 : Int32), t_at_20, t_fault_14))) else (if zin t_at_20 200 then (fX11_number_L20 t_length t_text K20_91 n20 ((((10 : Int32) * v1_20) + (t_text (t_at_20).toNatClampNeg)) - (48 : Int32)) (v2_20 + (1 : Int32)) (t_at_20 + (1 : Int32)) t_fault_20) else none))))) else none))
def fX11_number (N : Nat) (t_at : Int32) (t_fault : Int32) (t_length : Int32) (t_text : Nat → Int32) : Option (Int32 × Int32 × Int32) := ((fX11_look N t_at t_length t_text).bind (fun (r1, t_at_2) => ((fX11_isDigit r1).bind (fun b4 => (if (zb b4) = 0 then ((fX11_wrong t_at_2 t_fault).bind (fun t_fault_16 => some ((0 : Int32), t_at_2, t_fault_16))) else fX11_number_L20 t_length t_text (fun (v1_20 : Int32) (v2_20 : Int32) (t_at_20 : Int32) (t_fault_20 : Int32) => some (v1_20, t_at_20, t_fault_20)) N (0 : Int32) (0 : Int32) t_at_2 t_fault)))))
theorem kX11_number_0 : (.fieldLink RX11 148 "RunDeskModel" "at" "I" : Cond) ∈ wsX11_number := List.mem_of_getElem? (i := 1) (by decide +kernel)
theorem qX11_number_X11 : ∀ w ∈ wsX110, w ∈ wsX11_number := fun _ h => List.mem_cons_of_mem _ (List.mem_append_right _ (h))
theorem kX11_number_2 : (.fieldLink RX11 145 "RunDeskModel" "length" "I" : Cond) ∈ wsX11_number := List.mem_of_getElem? (i := 2) (by decide +kernel)
theorem kX11_number_3 : (.fieldLink RX11 16 "RunDeskModel" "text" "[B" : Cond) ∈ wsX11_number := List.mem_of_getElem? (i := 3) (by decide +kernel)
set_option maxHeartbeats 4000000 in
set_option maxRecDepth 100000 in
theorem mX11_number (l : Launch) (D : va_G) (cB cI cZ : ClassId) (a_t : Nat) (a_t_now : Nat) (a_t_kept : Nat) (a_t_text : Nat) (a_t_passing : Nat) (a_t_order : Nat) (a_t_times : Nat) (t_thrown : Int32) (t_isKept : Int32) (t_length : Int32) (t_at : Int32) (t_fault : Int32) (t_open : Int32) (t_asked : Int32) (t_byGun : Int32) (t_prizeMost : Int32) (t_listed : Int32) (t_text : Nat → Int32) (sz : Nat) (N : Nat) (r0 : Int32) (t_at' : Int32) (t_fault' : Int32) (h : fX11_number N t_at t_fault t_length t_text = some (r0, t_at', t_fault')) : Met l yX11_number wsX11_number ({ frames := 1, cells := 0, slots := 0, locals := 20 } : Room) (va_Pc [.ref a_t] (zPre D (zT cB cI cZ) [(a_t, .inr (11, [.int t_thrown, .ref a_t_now, .ref a_t_kept, .int t_isKept, .ref a_t_text, .int t_length, .ref a_t_passing, .int t_at, .int t_fault, .int t_open, .int t_asked, .int t_byGun, .int t_prizeMost, .ref a_t_order, .ref a_t_times, .int t_listed])), (a_t_text, .inl (cB, 200, .inl t_text))] sz)) (zQi r0 D (zT cB cI cZ) [(a_t, .inr (11, [.int t_thrown, .ref a_t_now, .ref a_t_kept, .int t_isKept, .ref a_t_text, .int t_length, .ref a_t_passing, .int t_at', .int t_fault', .int t_open, .int t_asked, .int t_byGun, .int t_prizeMost, .ref a_t_order, .ref a_t_times, .int t_listed])), (a_t_text, .inl (cB, 200, .inl t_text))] (va_A [(a_t, .inr (11, [.int t_thrown, .ref a_t_now, .ref a_t_kept, .int t_isKept, .ref a_t_text, .int t_length, .ref a_t_passing, .int t_at, .int t_fault, .int t_open, .int t_asked, .int t_byGun, .int t_prizeMost, .ref a_t_order, .ref a_t_times, .int t_listed])), (a_t_text, .inl (cB, 200, .inl t_text))] sz)) 0 0 (va_A [(a_t, .inr (11, [.int t_thrown, .ref a_t_now, .ref a_t_kept, .int t_isKept, .ref a_t_text, .int t_length, .ref a_t_passing, .int t_at, .int t_fault, .int t_open, .int t_asked, .int t_byGun, .int t_prizeMost, .ref a_t_order, .ref a_t_times, .int t_listed])), (a_t_text, .inl (cB, 200, .inl t_text))] sz) := by
  refine Met.ofW (cc := cX11_number) (maxL := 3) (ret := (some .int)) (by decide) rfl ?_
  intro p e s m args below meth c s₁ B hml hv
  obtain ⟨rfl, hsz, hP, hK, hN, hZ, hD0⟩ := hv
  have hx := B.exec
  have hb := B.bytes
  have hr := B.returns
  have hts := atoms_spec (ws := wsX11_number) B.pre
  have hown : s.vm.findClass RX11 = some m.cls := findClass_of_methodNamed B.named
  have hlocks := B.notSynchronized
  subst hsz
  have hD := hD0.self (sz := s.heap.size)
  generalize hAe : va_A [(a_t, .inr (11, [.int t_thrown, .ref a_t_now, .ref a_t_kept, .int t_isKept, .ref a_t_text, .int t_length, .ref a_t_passing, .int t_at, .int t_fault, .int t_open, .int t_asked, .int t_byGun, .int t_prizeMost, .ref a_t_order, .ref a_t_times, .int t_listed])), (a_t_text, .inl (cB, 200, .inl t_text))] s.heap.size = A at hD hZ ⊢
  have hA : ∀ q : Nat, s.heap.size ≤ q → A q := fun q h => by rw [← hAe]; exact Or.inr h
  have hS : va_S A s.heap s.heap [] := va_S.rf
  have hl := lv_entry ([.ref a_t]) (n := 3) (Nat.le_of_ble_eq_true rfl)
  rw [lg_entry_eq]
  generalize (lg_sl ([.ref a_t]) ++ List.replicate (3 - (lg_sl ([.ref a_t])).length) Slot.unset).toArray = ls at hl ⊢
  have hl : lv_has ls 3 [(0, .ref a_t)] := hl
  unfold fX11_number at h
  refine lv_aload_n hx hb dX11_number_0 rfl (lv_at hl 0 rfl) ?_
  obtain ⟨⟨r1, t_at_2⟩, e3, h⟩ := zz_b h
  dsimp only at h
  refine zVi (As := []) (rest := []) (C := RX11) (wr := []) [0, 1] [] 0 ⟨hx, hb, hml, hown, hts⟩ (mX11_look l D cB cI cZ a_t a_t_now a_t_kept a_t_text a_t_passing a_t_order a_t_times t_thrown t_isKept t_length t_at t_fault t_open t_asked t_byGun t_prizeMost t_listed t_text s.heap.size N r1 t_at_2 e3) (cwV 0 hts gX11_number_X11_look rfl rfl rfl (by decide +kernel) ⟨Nat.le_of_ble_eq_true rfl, Nat.le_of_ble_eq_true rfl⟩) hK hN hZ hP hD hS hA rfl rfl rfl rfl rfl rfl rfl rfl hl.1 rfl (lv_room (Nat.le_of_ble_eq_true rfl)) dX11_number_1 ⟨Nat.le_of_ble_eq_true rfl, Nat.le_of_ble_eq_true rfl⟩ (fun H locs hP hD hS => ?_)
  have hP : va_P D vwCl [(a_t, .inr (11, [.int t_thrown, .ref a_t_now, .ref a_t_kept, .int t_isKept, .ref a_t_text, .int t_length, .ref a_t_passing, .int t_at_2, .int t_fault, .int t_open, .int t_asked, .int t_byGun, .int t_prizeMost, .ref a_t_order, .ref a_t_times, .int t_listed])), (a_t_text, .inl (cB, 200, .inl t_text))] H := hP
  have hD : va_D A [(a_t, .inr (11, [.int t_thrown, .ref a_t_now, .ref a_t_kept, .int t_isKept, .ref a_t_text, .int t_length, .ref a_t_passing, .int t_at_2, .int t_fault, .int t_open, .int t_asked, .int t_byGun, .int t_prizeMost, .ref a_t_order, .ref a_t_times, .int t_listed])), (a_t_text, .inl (cB, 200, .inl t_text))] := hD
  obtain ⟨b4, e5, h⟩ := zz_b h
  refine zSi (As := [.int r1]) (rest := []) (wr := [(a_t, .inr (11, [.int t_thrown, .ref a_t_now, .ref a_t_kept, .int t_isKept, .ref a_t_text, .int t_length, .ref a_t_passing, .int t_at_2, .int t_fault, .int t_open, .int t_asked, .int t_byGun, .int t_prizeMost, .ref a_t_order, .ref a_t_times, .int t_listed])), (a_t_text, .inl (cB, 200, .inl t_text))]) [] [0, 1] ⟨hx, hb, hml, hown, hts⟩ (mX11_isDigit l D cB cI cZ H.size r1 b4 e5) (va_cwS 1 hts gX11_number_X11_isDigit rfl rfl rfl (by decide +kernel) ⟨Nat.le_of_ble_eq_true rfl, Nat.le_of_ble_eq_true rfl⟩) hK hN hZ hP hD hS hA rfl rfl rfl rfl rfl rfl hl.1 rfl (lv_room (Nat.le_of_ble_eq_true rfl)) dX11_number_4 ⟨Nat.le_of_ble_eq_true rfl, Nat.le_of_ble_eq_true rfl⟩ (fun H locs hP hD hS => ?_)
  have hP : va_P D vwCl [(a_t, .inr (11, [.int t_thrown, .ref a_t_now, .ref a_t_kept, .int t_isKept, .ref a_t_text, .int t_length, .ref a_t_passing, .int t_at_2, .int t_fault, .int t_open, .int t_asked, .int t_byGun, .int t_prizeMost, .ref a_t_order, .ref a_t_times, .int t_listed])), (a_t_text, .inl (cB, 200, .inl t_text))] H := hP
  have hD : va_D A [(a_t, .inr (11, [.int t_thrown, .ref a_t_now, .ref a_t_kept, .int t_isKept, .ref a_t_text, .int t_length, .ref a_t_passing, .int t_at_2, .int t_fault, .int t_open, .int t_asked, .int t_byGun, .int t_prizeMost, .ref a_t_order, .ref a_t_times, .int t_listed])), (a_t_text, .inl (cB, 200, .inl t_text))] := hD
  refine lv_if_ne (tgt := 16) hx hb dX11_number_7 (by decide) (fun c6 => ?_) (fun c6 => ?_)
  · have h := zz_f h c6
    refine lv_iconst (v := (0 : Int32)) hx hb dX11_number_16 rfl ?_
    refine lv_istore_n (lv' := [(1, .int (0 : Int32)), (0, .ref a_t)]) hx hb dX11_number_17 rfl hl (by decide) rfl (fun ls hl => ?_)
    refine lv_iconst (v := (0 : Int32)) hx hb dX11_number_18 rfl ?_
    refine lv_istore_n (lv' := [(2, .int (0 : Int32)), (1, .int (0 : Int32)), (0, .ref a_t)]) hx hb dX11_number_19 rfl hl (by decide) rfl (fun ls hl => ?_)
    have X20_91 : ∀ (v1_20 : Int32) (v2_20 : Int32) (t_at_20 : Int32) (t_fault_20 : Int32) (H : Heap) (locs : List Loc) (ls : Array Slot), some (v1_20, t_at_20, t_fault_20) = some (r0, t_at', t_fault') → va_P D vwCl [(a_t, .inr (11, [.int t_thrown, .ref a_t_now, .ref a_t_kept, .int t_isKept, .ref a_t_text, .int t_length, .ref a_t_passing, .int t_at_20, .int t_fault_20, .int t_open, .int t_asked, .int t_byGun, .int t_prizeMost, .ref a_t_order, .ref a_t_times, .int t_listed])), (a_t_text, .inl (cB, 200, .inl t_text))] H → va_D A [(a_t, .inr (11, [.int t_thrown, .ref a_t_now, .ref a_t_kept, .int t_isKept, .ref a_t_text, .int t_length, .ref a_t_passing, .int t_at_20, .int t_fault_20, .int t_open, .int t_asked, .int t_byGun, .int t_prizeMost, .ref a_t_order, .ref a_t_times, .int t_listed])), (a_t_text, .inl (cB, 200, .inl t_text))] → va_S A s.heap H locs → lv_has ls 3 [(2, .int v2_20), (1, .int v1_20), (0, .ref a_t)] → W p l e (headSpec wsX11_number ({ frames := 1, cells := 0, slots := 0, locals := 20 } : Room)).room s m #[Value.ref a_t] below meth c H locs 0 0 (MQ below (zQi r0 D (zT cB cI cZ) [(a_t, .inr (11, [.int t_thrown, .ref a_t_now, .ref a_t_kept, .int t_isKept, .ref a_t_text, .int t_length, .ref a_t_passing, .int t_at', .int t_fault', .int t_open, .int t_asked, .int t_byGun, .int t_prizeMost, .ref a_t_order, .ref a_t_times, .int t_listed])), (a_t_text, .inl (cB, 200, .inl t_text))] A) #[Value.ref a_t] s 0 0 A) (F0 m 91 ls []) := by
      intro v1_20 v2_20 t_at_20 t_fault_20 H locs ls h hP hD hS hl
      refine lv_iload_n hx hb dX11_number_91 rfl (lv_at hl 1 rfl) ?_
      obtain ⟨j0_, g_⟩ := Prod.mk.inj (Option.some.inj h)
      obtain ⟨j1_, g_⟩ := Prod.mk.inj g_
      have j2_ := g_
      subst j0_
      subst j1_
      subst j2_
      exact W.iret (v := v1_20) hx hb hr (fun t ht hW => ⟨⟨_, (), rfl, rfl, zPost.of hP hD hK ht hW [0, 1] rfl rfl rfl⟩, hS.F ht⟩) hS.2.2 dX11_number_92
    have L20 : ∀ (n : Nat) (v1_20 : Int32) (v2_20 : Int32) (t_at_20 : Int32) (t_fault_20 : Int32) (H : Heap) (locs : List Loc) (ls : Array Slot), fX11_number_L20 t_length t_text (fun (v1_20 : Int32) (v2_20 : Int32) (t_at_20 : Int32) (t_fault_20 : Int32) => some (v1_20, t_at_20, t_fault_20)) n v1_20 v2_20 t_at_20 t_fault_20 = some (r0, t_at', t_fault') → va_P D vwCl [(a_t, .inr (11, [.int t_thrown, .ref a_t_now, .ref a_t_kept, .int t_isKept, .ref a_t_text, .int t_length, .ref a_t_passing, .int t_at_20, .int t_fault_20, .int t_open, .int t_asked, .int t_byGun, .int t_prizeMost, .ref a_t_order, .ref a_t_times, .int t_listed])), (a_t_text, .inl (cB, 200, .inl t_text))] H → va_D A [(a_t, .inr (11, [.int t_thrown, .ref a_t_now, .ref a_t_kept, .int t_isKept, .ref a_t_text, .int t_length, .ref a_t_passing, .int t_at_20, .int t_fault_20, .int t_open, .int t_asked, .int t_byGun, .int t_prizeMost, .ref a_t_order, .ref a_t_times, .int t_listed])), (a_t_text, .inl (cB, 200, .inl t_text))] → va_S A s.heap H locs → lv_has ls 3 [(2, .int v2_20), (1, .int v1_20), (0, .ref a_t)] → W p l e (headSpec wsX11_number ({ frames := 1, cells := 0, slots := 0, locals := 20 } : Room)).room s m #[Value.ref a_t] below meth c H locs 0 0 (MQ below (zQi r0 D (zT cB cI cZ) [(a_t, .inr (11, [.int t_thrown, .ref a_t_now, .ref a_t_kept, .int t_isKept, .ref a_t_text, .int t_length, .ref a_t_passing, .int t_at', .int t_fault', .int t_open, .int t_asked, .int t_byGun, .int t_prizeMost, .ref a_t_order, .ref a_t_times, .int t_listed])), (a_t_text, .inl (cB, 200, .inl t_text))] A) #[Value.ref a_t] s 0 0 A) (F0 m 20 ls []) := by
      intro n
      induction n with
      | zero => intro _ _ _ _ H locs ls h hP hD hS hl; cases h
      | succ n20 ih20 =>
        intro v1_20 v2_20 t_at_20 t_fault_20 H locs ls h hP hD hS hl
        rw [fX11_number_L20.eq_2] at h
        refine lv_aload_n hx hb dX11_number_20 rfl (lv_at hl 2 rfl) ?_
        refine va_get (D := D) (ci := 11) (C := RX11) (T := TX11) (N := 16) hx hb hts qX11_number_X11 hown hK hP 0 rfl rfl 7 (by decide) (hts _ kX11_number_0) (fun _ h9 => h9) rfl dX11_number_21 ?_
        refine lv_aload_n hx hb dX11_number_24 rfl (lv_at hl 2 rfl) ?_
        refine va_get (D := D) (ci := 11) (C := RX11) (T := TX11) (N := 16) hx hb hts qX11_number_X11 hown hK hP 0 rfl rfl 5 (by decide) (hts _ kX11_number_2) (fun _ h9 => h9) rfl dX11_number_25 ?_
        refine lv_icmp_ge (tgt := 91) hx hb dX11_number_28 (by decide) (fun c7 => ?_) (fun c7 => ?_)
        · have h := zz_t h c7
          exact X20_91 v1_20 v2_20 t_at_20 t_fault_20 _ _ _ h (hP.sub [0, 1] rfl) (hD.sub [0, 1] rfl rfl) hS (lv_sub hl [0, 1, 2] rfl)
        · have h := zz_f h c7
          refine lv_aload_n hx hb dX11_number_31 rfl (lv_at hl 2 rfl) ?_
          refine va_get (D := D) (ci := 11) (C := RX11) (T := TX11) (N := 16) hx hb hts qX11_number_X11 hown hK hP 0 rfl rfl 4 (by decide) (hts _ kX11_number_3) (fun _ h9 => h9) rfl dX11_number_32 ?_
          refine lv_aload_n hx hb dX11_number_35 rfl (lv_at hl 2 rfl) ?_
          refine va_get (D := D) (ci := 11) (C := RX11) (T := TX11) (N := 16) hx hb hts qX11_number_X11 hown hK hP 0 rfl rfl 7 (by decide) (hts _ kX11_number_0) (fun _ h9 => h9) rfl dX11_number_36 ?_
          obtain ⟨i8, h⟩ := zz_i h
          refine va_bald hx hb hK hP 1 0 rfl rfl i8 dX11_number_39 ?_
          obtain ⟨b9, e10, h⟩ := zz_b h
          refine zSi (As := [.int (t_text (t_at_20).toNatClampNeg)]) (rest := []) (wr := [(a_t, .inr (11, [.int t_thrown, .ref a_t_now, .ref a_t_kept, .int t_isKept, .ref a_t_text, .int t_length, .ref a_t_passing, .int t_at_20, .int t_fault_20, .int t_open, .int t_asked, .int t_byGun, .int t_prizeMost, .ref a_t_order, .ref a_t_times, .int t_listed])), (a_t_text, .inl (cB, 200, .inl t_text))]) [] [0, 1] ⟨hx, hb, hml, hown, hts⟩ (mX11_isDigit l D cB cI cZ H.size (t_text (t_at_20).toNatClampNeg) b9 e10) (va_cwS 1 hts gX11_number_X11_isDigit rfl rfl rfl (by decide +kernel) ⟨Nat.le_of_ble_eq_true rfl, Nat.le_of_ble_eq_true rfl⟩) hK hN hZ hP hD hS hA rfl rfl rfl rfl rfl rfl hl.1 rfl (lv_room (Nat.le_of_ble_eq_true rfl)) dX11_number_40 ⟨Nat.le_of_ble_eq_true rfl, Nat.le_of_ble_eq_true rfl⟩ (fun H locs hP hD hS => ?_)
          have hP : va_P D vwCl [(a_t, .inr (11, [.int t_thrown, .ref a_t_now, .ref a_t_kept, .int t_isKept, .ref a_t_text, .int t_length, .ref a_t_passing, .int t_at_20, .int t_fault_20, .int t_open, .int t_asked, .int t_byGun, .int t_prizeMost, .ref a_t_order, .ref a_t_times, .int t_listed])), (a_t_text, .inl (cB, 200, .inl t_text))] H := hP
          have hD : va_D A [(a_t, .inr (11, [.int t_thrown, .ref a_t_now, .ref a_t_kept, .int t_isKept, .ref a_t_text, .int t_length, .ref a_t_passing, .int t_at_20, .int t_fault_20, .int t_open, .int t_asked, .int t_byGun, .int t_prizeMost, .ref a_t_order, .ref a_t_times, .int t_listed])), (a_t_text, .inl (cB, 200, .inl t_text))] := hD
          refine lv_if_eq (tgt := 91) hx hb dX11_number_43 (by decide) (fun c11 => ?_) (fun c11 => ?_)
          · have h := zz_t h c11
            exact X20_91 v1_20 v2_20 t_at_20 t_fault_20 _ _ _ h (hP.sub [0, 1] rfl) (hD.sub [0, 1] rfl rfl) hS (lv_sub hl [0, 1, 2] rfl)
          · have h := zz_f h c11
            refine lv_iload_n hx hb dX11_number_46 rfl (lv_at hl 0 rfl) ?_
            refine lv_iconst (v := (5 : Int32)) hx hb dX11_number_47 rfl ?_
            refine lv_icmp_ne (tgt := 57) hx hb dX11_number_48 (by decide) (fun c12 => ?_) (fun c12 => ?_)
            · have h := zz_f h c12
              refine lv_bipush (v := (10 : Int32)) hx hb dX11_number_57 rfl ?_
              refine lv_iload_n hx hb dX11_number_59 rfl (lv_at hl 1 rfl) ?_
              refine lv_imul hx hb dX11_number_60 ?_
              refine lv_aload_n hx hb dX11_number_61 rfl (lv_at hl 2 rfl) ?_
              refine va_get (D := D) (ci := 11) (C := RX11) (T := TX11) (N := 16) hx hb hts qX11_number_X11 hown hK hP 0 rfl rfl 4 (by decide) (hts _ kX11_number_3) (fun _ h9 => h9) rfl dX11_number_62 ?_
              refine lv_aload_n hx hb dX11_number_65 rfl (lv_at hl 2 rfl) ?_
              refine va_get (D := D) (ci := 11) (C := RX11) (T := TX11) (N := 16) hx hb hts qX11_number_X11 hown hK hP 0 rfl rfl 7 (by decide) (hts _ kX11_number_0) (fun _ h9 => h9) rfl dX11_number_66 ?_
              obtain ⟨i13, h⟩ := zz_i h
              refine va_bald hx hb hK hP 1 0 rfl rfl i13 dX11_number_69 ?_
              refine lv_iadd hx hb dX11_number_70 ?_
              refine lv_bipush (v := (48 : Int32)) hx hb dX11_number_71 rfl ?_
              refine lv_isub hx hb dX11_number_73 ?_
              refine lv_istore_n (lv' := [(1, .int ((((10 : Int32) * v1_20) + (t_text (t_at_20).toNatClampNeg)) - (48 : Int32))), (2, .int v2_20), (0, .ref a_t)]) hx hb dX11_number_74 rfl hl (by decide) rfl (fun ls hl => ?_)
              refine lv_iinc (v := (v2_20 + (1 : Int32))) (lv' := [(2, .int (v2_20 + (1 : Int32))), (1, .int ((((10 : Int32) * v1_20) + (t_text (t_at_20).toNatClampNeg)) - (48 : Int32))), (0, .ref a_t)]) hx hb dX11_number_75 hl (k := 1) rfl rfl (by decide) rfl (fun ls hl => ?_)
              refine lv_aload_n hx hb dX11_number_78 rfl (lv_at hl 2 rfl) ?_
              refine lv_dup hx hb dX11_number_79 rfl ?_
              refine va_get (D := D) (ci := 11) (C := RX11) (T := TX11) (N := 16) hx hb hts qX11_number_X11 hown hK hP 0 rfl rfl 7 (by decide) (hts _ kX11_number_0) (fun _ h9 => h9) rfl dX11_number_80 ?_
              refine lv_iconst (v := (1 : Int32)) hx hb dX11_number_83 rfl ?_
              refine lv_iadd hx hb dX11_number_84 ?_
              refine va_put (D := D) (ci := 11) (ty := .int) (C := RX11) (T := TX11) (N := 16) hx hb hts qX11_number_X11 tyX11 tyX11_ok nmX11 hown hK hP hD hS 0 rfl rfl 7 (by decide) (hts _ kX11_number_0) (fun _ h9 => h9) rfl (by decide +kernel) rfl (by first | rfl | exact zz_fit) (Nat.le_of_ble_eq_true rfl) dX11_number_85 (fun H locs hP hD hS => ?_)
              have hP : va_P D vwCl [(a_t, .inr (11, [.int t_thrown, .ref a_t_now, .ref a_t_kept, .int t_isKept, .ref a_t_text, .int t_length, .ref a_t_passing, .int (t_at_20 + (1 : Int32)), .int t_fault_20, .int t_open, .int t_asked, .int t_byGun, .int t_prizeMost, .ref a_t_order, .ref a_t_times, .int t_listed])), (a_t_text, .inl (cB, 200, .inl t_text))] H := hP
              have hD : va_D A [(a_t, .inr (11, [.int t_thrown, .ref a_t_now, .ref a_t_kept, .int t_isKept, .ref a_t_text, .int t_length, .ref a_t_passing, .int (t_at_20 + (1 : Int32)), .int t_fault_20, .int t_open, .int t_asked, .int t_byGun, .int t_prizeMost, .ref a_t_order, .ref a_t_times, .int t_listed])), (a_t_text, .inl (cB, 200, .inl t_text))] := hD
              refine lv_goto (tgt := 20) hx hb dX11_number_88 (by decide) ?_
              exact ih20 ((((10 : Int32) * v1_20) + (t_text (t_at_20).toNatClampNeg)) - (48 : Int32)) (v2_20 + (1 : Int32)) (t_at_20 + (1 : Int32)) t_fault_20 _ _ _ h (hP.sub [0, 1] rfl) (hD.sub [0, 1] rfl rfl) hS (lv_sub hl [0, 1, 2] rfl)
            · have h := zz_t h c12
              refine lv_aload_n hx hb dX11_number_51 rfl (lv_at hl 2 rfl) ?_
              obtain ⟨t_fault_14, e15, h⟩ := zz_b h
              refine zVv (As := []) (rest := []) (C := RX11) (wr := [(a_t_text, .inl (cB, 200, .inl t_text))]) [0] [1] 0 ⟨hx, hb, hml, hown, hts⟩ (mX11_wrong l D cB cI cZ a_t a_t_now a_t_kept a_t_text a_t_passing a_t_order a_t_times t_thrown t_isKept t_length t_at_20 t_fault_20 t_open t_asked t_byGun t_prizeMost t_listed H.size t_fault_14 e15) (cwV 0 hts gX11_number_X11_wrong rfl rfl rfl (by decide +kernel) ⟨Nat.le_of_ble_eq_true rfl, Nat.le_of_ble_eq_true rfl⟩) hK hN hZ hP hD hS hA rfl rfl rfl rfl rfl rfl rfl rfl hl.1 rfl (lv_room (Nat.le_of_ble_eq_true rfl)) dX11_number_52 ⟨Nat.le_of_ble_eq_true rfl, Nat.le_of_ble_eq_true rfl⟩ (fun H locs hP hD hS => ?_)
              have hP : va_P D vwCl [(a_t_text, .inl (cB, 200, .inl t_text)), (a_t, .inr (11, [.int t_thrown, .ref a_t_now, .ref a_t_kept, .int t_isKept, .ref a_t_text, .int t_length, .ref a_t_passing, .int t_at_20, .int t_fault_14, .int t_open, .int t_asked, .int t_byGun, .int t_prizeMost, .ref a_t_order, .ref a_t_times, .int t_listed]))] H := hP
              have hD : va_D A [(a_t_text, .inl (cB, 200, .inl t_text)), (a_t, .inr (11, [.int t_thrown, .ref a_t_now, .ref a_t_kept, .int t_isKept, .ref a_t_text, .int t_length, .ref a_t_passing, .int t_at_20, .int t_fault_14, .int t_open, .int t_asked, .int t_byGun, .int t_prizeMost, .ref a_t_order, .ref a_t_times, .int t_listed]))] := hD
              refine lv_iconst (v := (0 : Int32)) hx hb dX11_number_55 rfl ?_
              obtain ⟨j0_, g_⟩ := Prod.mk.inj (Option.some.inj h)
              obtain ⟨j1_, g_⟩ := Prod.mk.inj g_
              have j2_ := g_
              subst j0_
              subst j1_
              subst j2_
              exact W.iret (v := (0 : Int32)) hx hb hr (fun t ht hW => ⟨⟨_, (), rfl, rfl, zPost.of hP hD hK ht hW [1, 0] rfl rfl rfl⟩, hS.F ht⟩) hS.2.2 dX11_number_56
    exact L20 N (0 : Int32) (0 : Int32) t_at_2 t_fault _ _ _ h hP hD hS hl
  · have h := zz_t h c6
    refine lv_aload_n hx hb dX11_number_10 rfl (lv_at hl 0 rfl) ?_
    obtain ⟨t_fault_16, e17, h⟩ := zz_b h
    refine zVv (As := []) (rest := []) (C := RX11) (wr := [(a_t_text, .inl (cB, 200, .inl t_text))]) [0] [1] 0 ⟨hx, hb, hml, hown, hts⟩ (mX11_wrong l D cB cI cZ a_t a_t_now a_t_kept a_t_text a_t_passing a_t_order a_t_times t_thrown t_isKept t_length t_at_2 t_fault t_open t_asked t_byGun t_prizeMost t_listed H.size t_fault_16 e17) (cwV 0 hts gX11_number_X11_wrong rfl rfl rfl (by decide +kernel) ⟨Nat.le_of_ble_eq_true rfl, Nat.le_of_ble_eq_true rfl⟩) hK hN hZ hP hD hS hA rfl rfl rfl rfl rfl rfl rfl rfl hl.1 rfl (lv_room (Nat.le_of_ble_eq_true rfl)) dX11_number_11 ⟨Nat.le_of_ble_eq_true rfl, Nat.le_of_ble_eq_true rfl⟩ (fun H locs hP hD hS => ?_)
    have hP : va_P D vwCl [(a_t_text, .inl (cB, 200, .inl t_text)), (a_t, .inr (11, [.int t_thrown, .ref a_t_now, .ref a_t_kept, .int t_isKept, .ref a_t_text, .int t_length, .ref a_t_passing, .int t_at_2, .int t_fault_16, .int t_open, .int t_asked, .int t_byGun, .int t_prizeMost, .ref a_t_order, .ref a_t_times, .int t_listed]))] H := hP
    have hD : va_D A [(a_t_text, .inl (cB, 200, .inl t_text)), (a_t, .inr (11, [.int t_thrown, .ref a_t_now, .ref a_t_kept, .int t_isKept, .ref a_t_text, .int t_length, .ref a_t_passing, .int t_at_2, .int t_fault_16, .int t_open, .int t_asked, .int t_byGun, .int t_prizeMost, .ref a_t_order, .ref a_t_times, .int t_listed]))] := hD
    refine lv_iconst (v := (0 : Int32)) hx hb dX11_number_14 rfl ?_
    obtain ⟨j0_, g_⟩ := Prod.mk.inj (Option.some.inj h)
    obtain ⟨j1_, g_⟩ := Prod.mk.inj g_
    have j2_ := g_
    subst j0_
    subst j1_
    subst j2_
    exact W.iret (v := (0 : Int32)) hx hb hr (fun t ht hW => ⟨⟨_, (), rfl, rfl, zPost.of hP hD hK ht hW [1, 0] rfl rfl rfl⟩, hS.F ht⟩) hS.2.2 dX11_number_15
/-! RunDeskModel.sign -/
theorem dX11_sign_0 : decode cX11_sign 0 = .ok (.aload_n 0, 1) := by decide +kernel
theorem dX11_sign_1 : decode cX11_sign 1 = .ok (.invokevirtual 163, 3) := by decide +kernel
theorem dX11_sign_4 : decode cX11_sign 4 = .ok (.ifCond .ne 4, 3) := by decide +kernel
theorem dX11_sign_7 : decode cX11_sign 7 = .ok (.return_, 1) := by decide +kernel
theorem dX11_sign_8 : decode cX11_sign 8 = .ok (.aload_n 0, 1) := by decide +kernel
theorem dX11_sign_9 : decode cX11_sign 9 = .ok (.invokevirtual 154, 3) := by decide +kernel
theorem dX11_sign_12 : decode cX11_sign 12 = .ok (.iload_n 1, 1) := by decide +kernel
theorem dX11_sign_13 : decode cX11_sign 13 = .ok (.if_icmp .ne 16, 3) := by decide +kernel
theorem dX11_sign_16 : decode cX11_sign 16 = .ok (.aload_n 0, 1) := by decide +kernel
theorem dX11_sign_17 : decode cX11_sign 17 = .ok (.dup, 1) := by decide +kernel
theorem dX11_sign_18 : decode cX11_sign 18 = .ok (.getfield 148, 3) := by decide +kernel
theorem dX11_sign_21 : decode cX11_sign 21 = .ok (.iconst 1, 1) := by decide +kernel
theorem dX11_sign_22 : decode cX11_sign 22 = .ok (.iadd, 1) := by decide +kernel
theorem dX11_sign_23 : decode cX11_sign 23 = .ok (.putfield 148, 3) := by decide +kernel
theorem dX11_sign_26 : decode cX11_sign 26 = .ok (.goto 7, 3) := by decide +kernel
theorem dX11_sign_29 : decode cX11_sign 29 = .ok (.aload_n 0, 1) := by decide +kernel
theorem dX11_sign_30 : decode cX11_sign 30 = .ok (.invokevirtual 160, 3) := by decide +kernel
theorem dX11_sign_33 : decode cX11_sign 33 = .ok (.return_, 1) := by decide +kernel
set_option maxRecDepth 20000 in
theorem ggX11_sign_X11_isFine : GoodIn wsX11_sign wsX11_isFine := goodIn_r _ [6, 7, 18, 19, 20, 21, 22, 23, 24, 25, 26, 27, 28, 29, 30, 31, 32, 33] (by decide +kernel) (by decide +kernel)
set_option maxRecDepth 20000 in
theorem gX11_sign_X11_isFine : GoodIn wsX11_sign (wsV RX11 163 RX11 yX11_isFine wsX11_isFine) := goodIn_app (goodIn_of _ (by decide +kernel)) ggX11_sign_X11_isFine
set_option maxRecDepth 20000 in
theorem ggX11_sign_X11_look : GoodIn wsX11_sign wsX11_look := goodIn_r _ [11, 1, 12, 13, 18, 19, 20, 21, 22, 23, 24, 25, 26, 27, 28, 29, 30, 31, 32, 33] (by decide +kernel) (by decide +kernel)
set_option maxRecDepth 20000 in
theorem gX11_sign_X11_look : GoodIn wsX11_sign (wsV RX11 154 RX11 yX11_look wsX11_look) := goodIn_app (goodIn_of _ (by decide +kernel)) ggX11_sign_X11_look
set_option maxRecDepth 20000 in
theorem ggX11_sign_X11_wrong : GoodIn wsX11_sign wsX11_wrong := goodIn_r _ [17, 7, 1, 18, 19, 20, 21, 22, 23, 24, 25, 26, 27, 28, 29, 30, 31, 32, 33] (by decide +kernel) (by decide +kernel)
set_option maxRecDepth 20000 in
theorem gX11_sign_X11_wrong : GoodIn wsX11_sign (wsV RX11 160 RX11 yX11_wrong wsX11_wrong) := goodIn_app (goodIn_of _ (by decide +kernel)) ggX11_sign_X11_wrong
def fX11_sign (N : Nat) (t_at : Int32) (t_fault : Int32) (t_length : Int32) (t_text : Nat → Int32) (x1 : Int32) : Option (Int32 × Int32) := ((fX11_isFine t_fault).bind (fun b1 => (if (zb b1) = 0 then some (t_at, t_fault) else ((fX11_look N t_at t_length t_text).bind (fun (r4, t_at_5) => (if r4 = x1 then some ((t_at_5 + (1 : Int32)), t_fault) else ((fX11_wrong t_at_5 t_fault).bind (fun t_fault_8 => some (t_at_5, t_fault_8)))))))))
theorem kX11_sign_0 : (.fieldLink RX11 148 "RunDeskModel" "at" "I" : Cond) ∈ wsX11_sign := List.mem_of_getElem? (i := 1) (by decide +kernel)
theorem qX11_sign_X11 : ∀ w ∈ wsX110, w ∈ wsX11_sign := fun _ h => List.mem_cons_of_mem _ (List.mem_append_right _ (h))
set_option maxHeartbeats 4000000 in
set_option maxRecDepth 100000 in
theorem mX11_sign (l : Launch) (D : va_G) (cB cI cZ : ClassId) (a_t : Nat) (a_t_now : Nat) (a_t_kept : Nat) (a_t_text : Nat) (a_t_passing : Nat) (a_t_order : Nat) (a_t_times : Nat) (t_thrown : Int32) (t_isKept : Int32) (t_length : Int32) (t_at : Int32) (t_fault : Int32) (t_open : Int32) (t_asked : Int32) (t_byGun : Int32) (t_prizeMost : Int32) (t_listed : Int32) (t_text : Nat → Int32) (sz : Nat) (x1 : Int32) (N : Nat) (t_at' : Int32) (t_fault' : Int32) (h : fX11_sign N t_at t_fault t_length t_text x1 = some (t_at', t_fault')) : Met l yX11_sign wsX11_sign ({ frames := 1, cells := 0, slots := 0, locals := 20 } : Room) (va_Pc [.ref a_t, .int x1] (zPre D (zT cB cI cZ) [(a_t, .inr (11, [.int t_thrown, .ref a_t_now, .ref a_t_kept, .int t_isKept, .ref a_t_text, .int t_length, .ref a_t_passing, .int t_at, .int t_fault, .int t_open, .int t_asked, .int t_byGun, .int t_prizeMost, .ref a_t_order, .ref a_t_times, .int t_listed])), (a_t_text, .inl (cB, 200, .inl t_text))] sz)) (zQv D (zT cB cI cZ) [(a_t, .inr (11, [.int t_thrown, .ref a_t_now, .ref a_t_kept, .int t_isKept, .ref a_t_text, .int t_length, .ref a_t_passing, .int t_at', .int t_fault', .int t_open, .int t_asked, .int t_byGun, .int t_prizeMost, .ref a_t_order, .ref a_t_times, .int t_listed])), (a_t_text, .inl (cB, 200, .inl t_text))] (va_A [(a_t, .inr (11, [.int t_thrown, .ref a_t_now, .ref a_t_kept, .int t_isKept, .ref a_t_text, .int t_length, .ref a_t_passing, .int t_at, .int t_fault, .int t_open, .int t_asked, .int t_byGun, .int t_prizeMost, .ref a_t_order, .ref a_t_times, .int t_listed])), (a_t_text, .inl (cB, 200, .inl t_text))] sz)) 0 0 (va_A [(a_t, .inr (11, [.int t_thrown, .ref a_t_now, .ref a_t_kept, .int t_isKept, .ref a_t_text, .int t_length, .ref a_t_passing, .int t_at, .int t_fault, .int t_open, .int t_asked, .int t_byGun, .int t_prizeMost, .ref a_t_order, .ref a_t_times, .int t_listed])), (a_t_text, .inl (cB, 200, .inl t_text))] sz) := by
  refine Met.ofW (cc := cX11_sign) (maxL := 2) (ret := none) (by decide) rfl ?_
  intro p e s m args below meth c s₁ B hml hv
  obtain ⟨rfl, hsz, hP, hK, hN, hZ, hD0⟩ := hv
  have hx := B.exec
  have hb := B.bytes
  have hr := B.returns
  have hts := atoms_spec (ws := wsX11_sign) B.pre
  have hown : s.vm.findClass RX11 = some m.cls := findClass_of_methodNamed B.named
  have hlocks := B.notSynchronized
  subst hsz
  have hD := hD0.self (sz := s.heap.size)
  generalize hAe : va_A [(a_t, .inr (11, [.int t_thrown, .ref a_t_now, .ref a_t_kept, .int t_isKept, .ref a_t_text, .int t_length, .ref a_t_passing, .int t_at, .int t_fault, .int t_open, .int t_asked, .int t_byGun, .int t_prizeMost, .ref a_t_order, .ref a_t_times, .int t_listed])), (a_t_text, .inl (cB, 200, .inl t_text))] s.heap.size = A at hD hZ ⊢
  have hA : ∀ q : Nat, s.heap.size ≤ q → A q := fun q h => by rw [← hAe]; exact Or.inr h
  have hS : va_S A s.heap s.heap [] := va_S.rf
  have hl := lv_entry ([.ref a_t, .int x1]) (n := 2) (Nat.le_of_ble_eq_true rfl)
  rw [lg_entry_eq]
  generalize (lg_sl ([.ref a_t, .int x1]) ++ List.replicate (2 - (lg_sl ([.ref a_t, .int x1])).length) Slot.unset).toArray = ls at hl ⊢
  have hl : lv_has ls 2 [(0, .ref a_t), (1, .int x1)] := hl
  unfold fX11_sign at h
  refine lv_aload_n hx hb dX11_sign_0 rfl (lv_at hl 0 rfl) ?_
  obtain ⟨b1, e2, h⟩ := zz_b h
  refine zVi (As := []) (rest := []) (C := RX11) (wr := [(a_t_text, .inl (cB, 200, .inl t_text))]) [0] [1] 0 ⟨hx, hb, hml, hown, hts⟩ (mX11_isFine l D cB cI cZ a_t a_t_now a_t_kept a_t_text a_t_passing a_t_order a_t_times t_thrown t_isKept t_length t_at t_fault t_open t_asked t_byGun t_prizeMost t_listed s.heap.size b1 e2) (cwV 0 hts gX11_sign_X11_isFine rfl rfl rfl (by decide +kernel) ⟨Nat.le_of_ble_eq_true rfl, Nat.le_of_ble_eq_true rfl⟩) hK hN hZ hP hD hS hA rfl rfl rfl rfl rfl rfl rfl rfl hl.1 rfl (lv_room (Nat.le_of_ble_eq_true rfl)) dX11_sign_1 ⟨Nat.le_of_ble_eq_true rfl, Nat.le_of_ble_eq_true rfl⟩ (fun H locs hP hD hS => ?_)
  have hP : va_P D vwCl [(a_t_text, .inl (cB, 200, .inl t_text)), (a_t, .inr (11, [.int t_thrown, .ref a_t_now, .ref a_t_kept, .int t_isKept, .ref a_t_text, .int t_length, .ref a_t_passing, .int t_at, .int t_fault, .int t_open, .int t_asked, .int t_byGun, .int t_prizeMost, .ref a_t_order, .ref a_t_times, .int t_listed]))] H := hP
  have hD : va_D A [(a_t_text, .inl (cB, 200, .inl t_text)), (a_t, .inr (11, [.int t_thrown, .ref a_t_now, .ref a_t_kept, .int t_isKept, .ref a_t_text, .int t_length, .ref a_t_passing, .int t_at, .int t_fault, .int t_open, .int t_asked, .int t_byGun, .int t_prizeMost, .ref a_t_order, .ref a_t_times, .int t_listed]))] := hD
  refine lv_if_ne (tgt := 8) hx hb dX11_sign_4 (by decide) (fun c3 => ?_) (fun c3 => ?_)
  · have h := zz_f h c3
    refine lv_aload_n hx hb dX11_sign_8 rfl (lv_at hl 0 rfl) ?_
    obtain ⟨⟨r4, t_at_5⟩, e6, h⟩ := zz_b h
    dsimp only at h
    refine zVi (As := []) (rest := []) (C := RX11) (wr := []) [1, 0] [] 0 ⟨hx, hb, hml, hown, hts⟩ (mX11_look l D cB cI cZ a_t a_t_now a_t_kept a_t_text a_t_passing a_t_order a_t_times t_thrown t_isKept t_length t_at t_fault t_open t_asked t_byGun t_prizeMost t_listed t_text H.size N r4 t_at_5 e6) (cwV 0 hts gX11_sign_X11_look rfl rfl rfl (by decide +kernel) ⟨Nat.le_of_ble_eq_true rfl, Nat.le_of_ble_eq_true rfl⟩) hK hN hZ hP hD hS hA rfl rfl rfl rfl rfl rfl rfl rfl hl.1 rfl (lv_room (Nat.le_of_ble_eq_true rfl)) dX11_sign_9 ⟨Nat.le_of_ble_eq_true rfl, Nat.le_of_ble_eq_true rfl⟩ (fun H locs hP hD hS => ?_)
    have hP : va_P D vwCl [(a_t, .inr (11, [.int t_thrown, .ref a_t_now, .ref a_t_kept, .int t_isKept, .ref a_t_text, .int t_length, .ref a_t_passing, .int t_at_5, .int t_fault, .int t_open, .int t_asked, .int t_byGun, .int t_prizeMost, .ref a_t_order, .ref a_t_times, .int t_listed])), (a_t_text, .inl (cB, 200, .inl t_text))] H := hP
    have hD : va_D A [(a_t, .inr (11, [.int t_thrown, .ref a_t_now, .ref a_t_kept, .int t_isKept, .ref a_t_text, .int t_length, .ref a_t_passing, .int t_at_5, .int t_fault, .int t_open, .int t_asked, .int t_byGun, .int t_prizeMost, .ref a_t_order, .ref a_t_times, .int t_listed])), (a_t_text, .inl (cB, 200, .inl t_text))] := hD
    refine lv_iload_n hx hb dX11_sign_12 rfl (lv_at hl 1 rfl) ?_
    refine lv_icmp_ne (tgt := 29) hx hb dX11_sign_13 (by decide) (fun c7 => ?_) (fun c7 => ?_)
    · have h := zz_f h c7
      refine lv_aload_n hx hb dX11_sign_29 rfl (lv_at hl 0 rfl) ?_
      obtain ⟨t_fault_8, e9, h⟩ := zz_b h
      refine zVv (As := []) (rest := []) (C := RX11) (wr := [(a_t_text, .inl (cB, 200, .inl t_text))]) [0] [1] 0 ⟨hx, hb, hml, hown, hts⟩ (mX11_wrong l D cB cI cZ a_t a_t_now a_t_kept a_t_text a_t_passing a_t_order a_t_times t_thrown t_isKept t_length t_at_5 t_fault t_open t_asked t_byGun t_prizeMost t_listed H.size t_fault_8 e9) (cwV 0 hts gX11_sign_X11_wrong rfl rfl rfl (by decide +kernel) ⟨Nat.le_of_ble_eq_true rfl, Nat.le_of_ble_eq_true rfl⟩) hK hN hZ hP hD hS hA rfl rfl rfl rfl rfl rfl rfl rfl hl.1 rfl (lv_room (Nat.le_of_ble_eq_true rfl)) dX11_sign_30 ⟨Nat.le_of_ble_eq_true rfl, Nat.le_of_ble_eq_true rfl⟩ (fun H locs hP hD hS => ?_)
      have hP : va_P D vwCl [(a_t_text, .inl (cB, 200, .inl t_text)), (a_t, .inr (11, [.int t_thrown, .ref a_t_now, .ref a_t_kept, .int t_isKept, .ref a_t_text, .int t_length, .ref a_t_passing, .int t_at_5, .int t_fault_8, .int t_open, .int t_asked, .int t_byGun, .int t_prizeMost, .ref a_t_order, .ref a_t_times, .int t_listed]))] H := hP
      have hD : va_D A [(a_t_text, .inl (cB, 200, .inl t_text)), (a_t, .inr (11, [.int t_thrown, .ref a_t_now, .ref a_t_kept, .int t_isKept, .ref a_t_text, .int t_length, .ref a_t_passing, .int t_at_5, .int t_fault_8, .int t_open, .int t_asked, .int t_byGun, .int t_prizeMost, .ref a_t_order, .ref a_t_times, .int t_listed]))] := hD
      obtain ⟨j0_, g_⟩ := Prod.mk.inj (Option.some.inj h)
      have j1_ := g_
      subst j0_
      subst j1_
      exact W.vret hx hb hr (fun t ht hW => ⟨⟨(), rfl, trivial, zPost.of hP hD hK ht hW [1, 0] rfl rfl rfl⟩, hS.F ht⟩) hS.2.2 dX11_sign_33
    · have h := zz_t h c7
      refine lv_aload_n hx hb dX11_sign_16 rfl (lv_at hl 0 rfl) ?_
      refine lv_dup hx hb dX11_sign_17 rfl ?_
      refine va_get (D := D) (ci := 11) (C := RX11) (T := TX11) (N := 16) hx hb hts qX11_sign_X11 hown hK hP 0 rfl rfl 7 (by decide) (hts _ kX11_sign_0) (fun _ h9 => h9) rfl dX11_sign_18 ?_
      refine lv_iconst (v := (1 : Int32)) hx hb dX11_sign_21 rfl ?_
      refine lv_iadd hx hb dX11_sign_22 ?_
      refine va_put (D := D) (ci := 11) (ty := .int) (C := RX11) (T := TX11) (N := 16) hx hb hts qX11_sign_X11 tyX11 tyX11_ok nmX11 hown hK hP hD hS 0 rfl rfl 7 (by decide) (hts _ kX11_sign_0) (fun _ h9 => h9) rfl (by decide +kernel) rfl (by first | rfl | exact zz_fit) (Nat.le_of_ble_eq_true rfl) dX11_sign_23 (fun H locs hP hD hS => ?_)
      have hP : va_P D vwCl [(a_t, .inr (11, [.int t_thrown, .ref a_t_now, .ref a_t_kept, .int t_isKept, .ref a_t_text, .int t_length, .ref a_t_passing, .int (t_at_5 + (1 : Int32)), .int t_fault, .int t_open, .int t_asked, .int t_byGun, .int t_prizeMost, .ref a_t_order, .ref a_t_times, .int t_listed])), (a_t_text, .inl (cB, 200, .inl t_text))] H := hP
      have hD : va_D A [(a_t, .inr (11, [.int t_thrown, .ref a_t_now, .ref a_t_kept, .int t_isKept, .ref a_t_text, .int t_length, .ref a_t_passing, .int (t_at_5 + (1 : Int32)), .int t_fault, .int t_open, .int t_asked, .int t_byGun, .int t_prizeMost, .ref a_t_order, .ref a_t_times, .int t_listed])), (a_t_text, .inl (cB, 200, .inl t_text))] := hD
      refine lv_goto (tgt := 33) hx hb dX11_sign_26 (by decide) ?_
      obtain ⟨j0_, g_⟩ := Prod.mk.inj (Option.some.inj h)
      have j1_ := g_
      subst j0_
      subst j1_
      exact W.vret hx hb hr (fun t ht hW => ⟨⟨(), rfl, trivial, zPost.of hP hD hK ht hW [0, 1] rfl rfl rfl⟩, hS.F ht⟩) hS.2.2 dX11_sign_33
  · have h := zz_t h c3
    obtain ⟨j0_, g_⟩ := Prod.mk.inj (Option.some.inj h)
    have j1_ := g_
    subst j0_
    subst j1_
    exact W.vret hx hb hr (fun t ht hW => ⟨⟨(), rfl, trivial, zPost.of hP hD hK ht hW [1, 0] rfl rfl rfl⟩, hS.F ht⟩) hS.2.2 dX11_sign_7
