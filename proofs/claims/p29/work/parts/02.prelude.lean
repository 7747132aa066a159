def zNestL : List Cond := [
  .fieldLinkNest "RunDesk" 58 "RunDesk$Race" "way" "LRunDesk$Way;" "RunDesk",
  .fieldLinkNest "RunDesk$Foretelling" 31 "RunDesk$Race" "way" "LRunDesk$Way;" "RunDesk",
  .fieldLinkNest "RunDesk$Trail" 44 "RunDesk$Race" "way" "LRunDesk$Way;" "RunDesk",
  .fieldLinkNest "RunDesk$Doubts" 37 "RunDesk$Race" "way" "LRunDesk$Way;" "RunDesk",
  .fieldLinkNest "RunDesk$Foretelling" 67 "RunDesk$Race" "guns" "LRunDesk$Guns;" "RunDesk",
  .fieldLinkNest "RunDesk" 91 "RunDesk$Race" "guns" "LRunDesk$Guns;" "RunDesk",
  .fieldLinkNest "RunDesk$Trail" 18 "RunDesk$Race" "runners" "LRunDesk$Runners;" "RunDesk",
  .fieldLinkNest "RunDesk$Doubts" 19 "RunDesk$Race" "runners" "LRunDesk$Runners;" "RunDesk",
  .fieldLinkNest "RunDesk$Foretelling" 43 "RunDesk$Race" "runners" "LRunDesk$Runners;" "RunDesk",
  .fieldLinkNest "RunDesk$Listing" 32 "RunDesk$Race" "runners" "LRunDesk$Runners;" "RunDesk",
  .fieldLinkNest "RunDesk" 77 "RunDesk$Race" "runners" "LRunDesk$Runners;" "RunDesk",
  .fieldLinkNest "RunDesk$Reading" 93 "RunDesk$Race" "runners" "LRunDesk$Runners;" "RunDesk",
  .methodLinkNest "RunDesk" 9 ⟨"RunDesk$Race", "<init>", "()V"⟩ "RunDesk",
  .methodLinkNest "RunDesk$Race" 11 ⟨"RunDesk$Way", "<init>", "()V"⟩ "RunDesk",
  .methodLinkNest "RunDesk$Race" 20 ⟨"RunDesk$Guns", "<init>", "()V"⟩ "RunDesk",
  .methodLinkNest "RunDesk$Race" 27 ⟨"RunDesk$Runners", "<init>", "()V"⟩ "RunDesk",
  .methodLinkNest "RunDesk" 21 ⟨"RunDesk$Trail", "<init>", "()V"⟩ "RunDesk",
  .methodLinkNest "RunDesk" 28 ⟨"RunDesk$Doubts", "<init>", "()V"⟩ "RunDesk",
  .methodLinkNest "RunDesk" 35 ⟨"RunDesk$Foretelling", "<init>", "()V"⟩ "RunDesk",
  .methodLinkNest "RunDesk$Foretelling" 26 ⟨"RunDesk$Guns", "<init>", "()V"⟩ "RunDesk",
  .methodLinkNest "RunDesk" 42 ⟨"RunDesk$Text", "<init>", "()V"⟩ "RunDesk",
  .methodLinkNest "RunDesk" 49 ⟨"RunDesk$Listing", "<init>", "()V"⟩ "RunDesk",
  .methodLinkNest "RunDesk$Listing" 11 ⟨"RunDesk$Reading", "<init>", "()V"⟩ "RunDesk",
  .methodLinkNest "RunDesk$Guns" 21 ⟨"RunDesk", "within", "(III)Z"⟩ "RunDesk",
  .methodLinkNest "RunDesk$Runners" 49 ⟨"RunDesk", "within", "(III)Z"⟩ "RunDesk",
  .methodLinkNest "RunDesk$Race" 56 ⟨"RunDesk", "within", "(III)Z"⟩ "RunDesk",
  .methodLinkNest "RunDesk$Race" 120 ⟨"RunDesk", "secondsCut", "(II)I"⟩ "RunDesk",
  .methodLinkNest "RunDesk$Trail" 30 ⟨"RunDesk", "leastLimit", "(I)I"⟩ "RunDesk",
  .methodLinkNest "RunDesk$Trail" 38 ⟨"RunDesk", "greatestLimit", "(I)I"⟩ "RunDesk",
  .methodLinkNest "RunDesk$Trail" 77 ⟨"RunDesk", "secondsCut", "(II)I"⟩ "RunDesk",
  .methodLinkNest "RunDesk$Trail" 74 ⟨"RunDesk", "secondsUp", "(II)I"⟩ "RunDesk",
  .methodLinkNest "RunDesk$Foretelling" 60 ⟨"RunDesk", "secondsCut", "(II)I"⟩ "RunDesk",
  .methodLinkNest "RunDesk$Text" 23 ⟨"RunDesk", "within", "(III)Z"⟩ "RunDesk",
  .methodLinkNest "RunDesk$Reading" 85 ⟨"RunDesk", "within", "(III)Z"⟩ "RunDesk",
  .methodLinkNest "RunDesk$Listing" 63 ⟨"RunDesk", "within", "(III)Z"⟩ "RunDesk"]
/-! own rows: options, worlds, calls -/
abbrev zb : Bool → Int32
  | true => 1
  | false => 0
abbrev zin (i : Int32) (n : Nat) : Prop := ¬ (i < 0 ∨ n ≤ i.toNatClampNeg)
theorem zz_t {α : Type} {c : Prop} {inst : Decidable c} {A B : Option α} {r : α} (h : (@ite _ c inst A B) = some r) (hc : c) : A = some r := by rw [if_pos hc] at h; exact h
theorem zz_f {α : Type} {c : Prop} {inst : Decidable c} {A B : Option α} {r : α} (h : (@ite _ c inst A B) = some r) (hc : ¬ c) : B = some r := by rw [if_neg hc] at h; exact h
theorem zz_i {α : Type} {c : Prop} {inst : Decidable c} {A : Option α} {r : α} (h : (@ite _ c inst A none) = some r) : c ∧ A = some r := by
  by_cases hc : c
  · exact ⟨hc, zz_t h hc⟩
  · have h2 := zz_f h hc
    cases h2
theorem zz_b {α β : Type} {x : Option α} {k : α → Option β} {r : β} (h : x.bind k = some r) : ∃ a, x = some a ∧ k a = some r := by
  cases x with
  | none => cases h
  | some a => exact ⟨a, rfl, h⟩
theorem zz_n {b : Bool} : narrow .boolean (.int (zb b)) = .int (zb b) := by cases b <;> rfl
theorem zz_fit {b : Bool} : fits .boolean (.int (zb b)) = true := by cases b <;> rfl
theorem zz_v {b : Bool} : vp_nar .boolean (zb b) = zb b := by cases b <;> rfl
abbrev zT (cB cI cZ : ClassId) : List (ClassId × FieldType) := [(cB, .byte), (cI, .int), (cZ, .boolean)]
def zNest (U : State) : Prop := ∀ w ∈ zNestL, va_Nw w U
theorem zNestL_ok : ∀ w ∈ zNestL, (∃ a i b n d h, w = .fieldLinkNest a i b n d h) ∨ (∃ a i x h, w = .methodLinkNest a i x h) := by
  unfold zNestL
  repeat' (first | (refine List.forall_mem_cons.mpr ⟨?_, ?_⟩) | exact fun _ h => nomatch h | exact Or.inl ⟨_, _, _, _, _, _, rfl⟩ | exact Or.inr ⟨_, _, _, _, rfl⟩)
theorem zNest.warm {s U : State} (hW : s.WarmedH U.vm) (h : zNest s) : zNest U := by
  intro w hw
  have h1 := h w hw
  rcases zNestL_ok w hw with ⟨_, _, _, _, _, _, rfl⟩ | ⟨_, _, _, _, rfl⟩
  · exact va_Nw.warmF hW h1
  · exact va_Nw.warmM hW h1
theorem zNest.same {u U : State} (hv : u.vm = U.vm) (h : zNest u) : zNest U := by
  intro w hw
  have h1 := h w hw
  rcases zNestL_ok w hw with ⟨_, _, _, _, _, _, rfl⟩ | ⟨_, _, _, _, rfl⟩
  · exact va_Nw.same rfl hv h1
  · exact va_Nw.same rfl hv h1
def zfL : Nat → Int32
  | 0 => 150
  | 1 => 150
  | 2 => 80
  | _ => 300
def zfG : Nat → Int32
  | 0 => 900
  | 1 => 900
  | 2 => 900
  | _ => 1500
/-- the reference's two static rows -/
def zStat (A : Nat → Prop) (U : State) (H : Heap) : Prop := ∃ tL tG : Nat, va_Z RX11 "LEAST" "[I" (.ref tL) A U H ∧ va_T .int tL 4 (fun j => .int (zfL j)) A U H ∧ va_Z RX11 "GREATEST" "[I" (.ref tG) A U H ∧ va_T .int tG 4 (fun j => .int (zfG j)) A U H
theorem zStat.to {A B : Nat → Prop} {u U : State} {H H1 : Heap} (h : zStat A u H) (hvm : u.vm.Alike U.vm) (hq : ∀ a : Nat, a < H.size → ¬ A a → H1[a]? = H[a]?) (hAB : ∀ q, B q → A q) : zStat B U H1 := by
  obtain ⟨tL, tG, h1, h2, h3, h4⟩ := h
  exact ⟨tL, tG, (va_Z.moved hvm (h1.kept hq)).narrow hAB, (va_T.moved hvm (h2.kept hq)).narrow hAB, (va_Z.moved hvm (h3.kept hq)).narrow hAB, (va_T.moved hvm (h4.kept hq)).narrow hAB⟩
def zPre (D : va_G) (tys : List (ClassId × FieldType)) (ws : va_W) (sz : Nat) (U : State) : Prop := U.heap.size = sz ∧ va_P D vwCl ws U.heap ∧ va_K D vwCl tys U ∧ zNest U ∧ zStat (va_A ws sz) U U.heap ∧ va_D (fun _ => True) ws
def zPost (D : va_G) (tys : List (ClassId × FieldType)) (ws : va_W) (A : Nat → Prop) (t : State) : Prop := va_P D vwCl ws t.heap ∧ va_K D vwCl tys t ∧ va_D A ws
theorem zPre.blind {D : va_G} {tys : List (ClassId × FieldType)} {ws : va_W} {sz : Nat} {av : List Value} : FrameBlind (va_Pc av (zPre D tys ws sz)) := fun a U g mk q => by
  obtain ⟨q0, q1, q2, q3, q4, q6, q5⟩ := q
  exact ⟨q0, q1, q2, va_K.moved (u := U) (U := U.calling g mk a) (Vm.Alike.refl U.vm) q3, zNest.same (u := U) (U := U.calling g mk a) rfl q4, zStat.to (U := U.calling g mk a) q6 (Vm.Alike.refl U.vm) (fun _ _ _ => rfl) (fun _ h => h), q5⟩
theorem zPost.of {D : va_G} {tys : List (ClassId × FieldType)} {ws ws' : va_W} {A : Nat → Prop} {s t : State} {H : Heap} (hP : va_P D vwCl ws H) (hD : va_D A ws) (hK : va_K D vwCl tys s) (ht : t.heap = H) (hW : s.WarmedH t.vm) (is : List Nat) (hs : is.filterMap (fun i => ws[i]?) = ws') (hn : va_nd is = true) (hd : is.map (fun i => ws[i]?) = ws'.map some) : zPost D tys ws' A t :=
  ⟨by rw [ht]; exact hP.sub is hs, va_K.moved hW.alike hK, hD.sub is hn hd⟩
def zdis (isR isC : List Nat) : Bool := isR.all (fun i => !(isC.contains i))
theorem zdis_ok {isR isC : List Nat} (h : zdis isR isC = true) : ∀ i ∈ isR, i ∉ isC := by
  intro i hi hc
  have h1 := List.all_eq_true.mp h i hi
  simp [hc] at h1
theorem zpick {ws wc : va_W} {is : List Nat} (h : is.map (fun i => ws[i]?) = wc.map some) : is.filterMap (fun i => ws[i]?) = wc := by
  induction is generalizing wc with
  | nil => cases wc with
    | nil => rfl
    | cons a b => simp at h
  | cons i t ih => cases wc with
    | nil => simp at h
    | cons a b =>
      simp only [List.map_cons, List.cons.injEq] at h
      simp [h.1, ih h.2]
section ZC
variable {p : Program} {l : Launch} {e : Env} {R : Room} {s : State} {m : MethodId} {args : Array Value} {below : List Frame} {meth : Method} {c : Code} {H : Heap} {locs : List Loc} {cells slots : Nat} {Q : State → Prop}
variable {pc : Nat} {ls : Array Slot} {rest st : List Value} {A0 : Nat → Prop} {H0 : Heap} {mc ms : Nat} {D : va_G} {tys : List (ClassId × FieldType)} {ws wc wr wn : va_W}
variable {y : MethodName} {bytes cc : ByteArray} {maxL nL n index : Nat} {ret : Option FieldType} {wsy : List Cond} {rm : Room} {Ts : List Cond} {own C host : String} {b : Addr} {As : List Value} {r0 : Int32}
abbrev zQi (r0 : Int32) (D : va_G) (tys : List (ClassId × FieldType)) (wn : va_W) (A : Nat → Prop) : Array Value → State → Outcome → State → Prop := va_Qi (fun r (_ : Unit) => r = r0) (fun _ t => zPost D tys wn A t) A
abbrev zQv (D : va_G) (tys : List (ClassId × FieldType)) (wn : va_W) (A : Nat → Prop) : Array Value → State → Outcome → State → Prop := va_Qv (fun (_ : Unit) => True) (fun _ t => zPost D tys wn A t) A
theorem zk_i {av : Array Value} (isC isR : List Nat) (hr : va_Run p l e R s m args below meth c H locs cells slots mc ms (F0 m pc ls st) rest (zQi r0 D tys wn (va_A wc H.size) av) (va_A wc H.size))
    (hP : va_P D vwCl ws H) (hD : va_D A0 ws) (hS : va_S A0 H0 H locs) (hF : ∀ q, va_A wc H.size q → A0 q)
    (hC : isC.map (fun i => ws[i]?) = wc.map some) (hR : isR.map (fun i => ws[i]?) = wr.map some) (hnR : va_nd isR = true) (hdis : zdis isR isC = true)
    (kk : ∀ (H1 : Heap) (locs1 : List Loc), va_P D vwCl (wr ++ wn) H1 → va_D A0 (wr ++ wn) → va_S A0 H0 H1 locs1 → W p l e R s m args below meth c H1 locs1 (cells + mc) (slots + ms) Q (F0 m (pc + 3) ls (.int r0 :: rest))) :
    W p l e R s m args below meth c H locs cells slots Q (F0 m pc ls st) := by
  refine va_calli hr hS (fun q _ h => hF q h) hF (fun r u t H1 locs1 ht hvm hw hB hz1 hk1 hS1 => ?_)
  obtain ⟨hP1, hK1, hD1⟩ := hB
  subst hw
  rw [ht] at hP1
  obtain ⟨hP2, hD2⟩ := va_join hP hD isC isR hC hR hnR (zdis_ok hdis) hk1 hF hP1 hD1
  exact kk H1 locs1 hP2 hD2 hS1
theorem zk_v {av : Array Value} (isC isR : List Nat) (hr : va_Run p l e R s m args below meth c H locs cells slots mc ms (F0 m pc ls st) rest (zQv D tys wn (va_A wc H.size) av) (va_A wc H.size))
    (hP : va_P D vwCl ws H) (hD : va_D A0 ws) (hS : va_S A0 H0 H locs) (hF : ∀ q, va_A wc H.size q → A0 q)
    (hC : isC.map (fun i => ws[i]?) = wc.map some) (hR : isR.map (fun i => ws[i]?) = wr.map some) (hnR : va_nd isR = true) (hdis : zdis isR isC = true)
    (kk : ∀ (H1 : Heap) (locs1 : List Loc), va_P D vwCl (wr ++ wn) H1 → va_D A0 (wr ++ wn) → va_S A0 H0 H1 locs1 → W p l e R s m args below meth c H1 locs1 (cells + mc) (slots + ms) Q (F0 m (pc + 3) ls rest)) :
    W p l e R s m args below meth c H locs cells slots Q (F0 m pc ls st) := by
  refine va_callv hr hS (fun q _ h => hF q h) hF (fun u t H1 locs1 ht hvm hw hB hz1 hk1 hS1 => ?_)
  obtain ⟨hP1, hK1, hD1⟩ := hB
  rw [ht] at hP1
  obtain ⟨hP2, hD2⟩ := va_join hP hD isC isR hC hR hnR (zdis_ok hdis) hk1 hF hP1 hD1
  exact kk H1 locs1 hP2 hD2 hS1
/-- what a call's start wants of the world: the callee's cells cut out -/
theorem zpre_s {av : List Value} (isC : List Nat) (hP : va_P D vwCl ws H) (hD : va_D A0 ws) (hK : va_K D vwCl tys s) (hN : zNest s) (hZ : zStat A0 s s.heap) (hS : va_S A0 s.heap H locs) (hF : ∀ q, va_A wc H.size q → A0 q)
    (hC : isC.map (fun i => ws[i]?) = wc.map some) (hnC : va_nd isC = true) : PreS s H (va_Pc av (zPre D tys wc H.size)) av :=
  ⟨zPre.blind, fun U hU hW => ⟨rfl, by rw [hU], by rw [hU]; exact hP.sub isC (zpick hC), va_K.moved hW.alike hK, zNest.warm hW hN, zStat.to hZ hW.alike (by rw [hU]; exact hS.2.1) hF, (hD.sub isC hnC hC).weaken (fun _ _ _ _ => trivial)⟩⟩
theorem zpre_v {N ci : Nat} {T : u_T} {fs : List Value} (isC : List Nat) (hP : va_P D vwCl ws H) (hD : va_D A0 ws) (hK : va_K D vwCl tys s) (hN : zNest s) (hZ : zStat A0 s s.heap) (hS : va_S A0 s.heap H locs) (hF : ∀ q, va_A wc H.size q → A0 q)
    (hC : isC.map (fun i => ws[i]?) = wc.map some) (hnC : va_nd isC = true) (q0 : Nat) (hc : vwCl[ci]? = some (C, T, N)) (he : wc[q0]? = some (b, .inr (ci, fs))) : PreV s H C b (va_Pc (.ref b :: As) (zPre D tys wc H.size)) As :=
  ⟨zPre.blind, va_recv hK (hP.sub isC (zpick hC)) hc he, (zpre_s isC hP hD hK hN hZ hS hF hC hnC).2⟩
theorem zfree (isC : List Nat) (hD : va_D A0 ws) (hS : va_S A0 H0 H locs) (hA : ∀ q, H0.size ≤ q → A0 q) (hC : isC.map (fun i => ws[i]?) = wc.map some) : ∀ q, va_A wc H.size q → A0 q := va_free hD hS hA isC hC
/-- an instance method's call that answers an int -/
theorem zVi {N ci : Nat} {T : u_T} {fs : List Value} (isC isR : List Nat) (q0 : Nat) (S : CallFix p m c cc nL s args Ts own) (hM : Met l y wsy rm (va_Pc (.ref b :: As) (zPre D tys wc H.size)) (zQi r0 D tys wn (va_A wc H.size)) mc ms (va_A wc H.size)) (cw : CallW R s args own C index y bytes maxL ret wsy rm mc ms n)
    (hK : va_K D vwCl tys s) (hN : zNest s) (hZ : zStat A0 s s.heap) (hP : va_P D vwCl ws H) (hD : va_D A0 ws) (hS : va_S A0 s.heap H locs) (hA : ∀ q, s.heap.size ≤ q → A0 q)
    (hC : isC.map (fun i => ws[i]?) = wc.map some) (hnC : va_nd isC = true) (hR : isR.map (fun i => ws[i]?) = wr.map some) (hnR : va_nd isR = true) (hdis : zdis isR isC = true)
    (hc : vwCl[ci]? = some (C, T, N)) (he : wc[q0]? = some (b, .inr (ci, fs)))
    (hn : As.length = n) (hsize : ls.size = nL) (hst : st = As.reverse ++ .ref b :: rest) (hW : 2 * (F0 m pc ls st).monitorRoom + (rest.map fun v => v.category).sum ≤ 8) (hdg : decode cc pc = .ok (.invokevirtual index, 3)) (hf : cells + mc ≤ R.cells ∧ slots + ms ≤ R.slots)
    (kk : ∀ (H1 : Heap) (locs1 : List Loc), va_P D vwCl (wr ++ wn) H1 → va_D A0 (wr ++ wn) → va_S A0 s.heap H1 locs1 → W p l e R s m args below meth c H1 locs1 (cells + mc) (slots + ms) Q (F0 m (pc + 3) ls (.int r0 :: rest))) :
    W p l e R s m args below meth c H locs cells slots Q (F0 m pc ls st) :=
  zk_i isC isR (va_runV S hM cw (zpre_v isC hP hD hK hN hZ hS (zfree isC hD hS hA hC) hC hnC q0 hc he) rfl hn hsize hst hW hdg hf) hP hD hS (zfree isC hD hS hA hC) hC hR hnR hdis kk
theorem zVv {N ci : Nat} {T : u_T} {fs : List Value} (isC isR : List Nat) (q0 : Nat) (S : CallFix p m c cc nL s args Ts own) (hM : Met l y wsy rm (va_Pc (.ref b :: As) (zPre D tys wc H.size)) (zQv D tys wn (va_A wc H.size)) mc ms (va_A wc H.size)) (cw : CallW R s args own C index y bytes maxL ret wsy rm mc ms n)
    (hK : va_K D vwCl tys s) (hN : zNest s) (hZ : zStat A0 s s.heap) (hP : va_P D vwCl ws H) (hD : va_D A0 ws) (hS : va_S A0 s.heap H locs) (hA : ∀ q, s.heap.size ≤ q → A0 q)
    (hC : isC.map (fun i => ws[i]?) = wc.map some) (hnC : va_nd isC = true) (hR : isR.map (fun i => ws[i]?) = wr.map some) (hnR : va_nd isR = true) (hdis : zdis isR isC = true)
    (hc : vwCl[ci]? = some (C, T, N)) (he : wc[q0]? = some (b, .inr (ci, fs)))
    (hn : As.length = n) (hsize : ls.size = nL) (hst : st = As.reverse ++ .ref b :: rest) (hW : 2 * (F0 m pc ls st).monitorRoom + (rest.map fun v => v.category).sum ≤ 8) (hdg : decode cc pc = .ok (.invokevirtual index, 3)) (hf : cells + mc ≤ R.cells ∧ slots + ms ≤ R.slots)
    (kk : ∀ (H1 : Heap) (locs1 : List Loc), va_P D vwCl (wr ++ wn) H1 → va_D A0 (wr ++ wn) → va_S A0 s.heap H1 locs1 → W p l e R s m args below meth c H1 locs1 (cells + mc) (slots + ms) Q (F0 m (pc + 3) ls rest)) :
    W p l e R s m args below meth c H locs cells slots Q (F0 m pc ls st) :=
  zk_v isC isR (va_runV S hM cw (zpre_v isC hP hD hK hN hZ hS (zfree isC hD hS hA hC) hC hnC q0 hc he) rfl hn hsize hst hW hdg hf) hP hD hS (zfree isC hD hS hA hC) hC hR hnR hdis kk
/-- a static method's call that answers an int: one of its own link, one of a nest mate's -/
theorem zSi (isC isR : List Nat) (S : CallFix p m c cc nL s args Ts own) (hM : Met l y wsy rm (va_Pc As (zPre D tys wc H.size)) (zQi r0 D tys wn (va_A wc H.size)) mc ms (va_A wc H.size)) (cw : CallB R s args own index y bytes maxL ret wsy rm mc ms n ∧ (Cond.static y).before args s = true)
    (hK : va_K D vwCl tys s) (hN : zNest s) (hZ : zStat A0 s s.heap) (hP : va_P D vwCl ws H) (hD : va_D A0 ws) (hS : va_S A0 s.heap H locs) (hA : ∀ q, s.heap.size ≤ q → A0 q)
    (hC : isC.map (fun i => ws[i]?) = wc.map some) (hnC : va_nd isC = true) (hR : isR.map (fun i => ws[i]?) = wr.map some) (hnR : va_nd isR = true) (hdis : zdis isR isC = true)
    (hn : As.length = n) (hsize : ls.size = nL) (hst : st = As.reverse ++ rest) (hW : 2 * (F0 m pc ls st).monitorRoom + (rest.map fun v => v.category).sum ≤ 8) (hdg : decode cc pc = .ok (.invokestatic index, 3)) (hf : cells + mc ≤ R.cells ∧ slots + ms ≤ R.slots)
    (kk : ∀ (H1 : Heap) (locs1 : List Loc), va_P D vwCl (wr ++ wn) H1 → va_D A0 (wr ++ wn) → va_S A0 s.heap H1 locs1 → W p l e R s m args below meth c H1 locs1 (cells + mc) (slots + ms) Q (F0 m (pc + 3) ls (.int r0 :: rest))) :
    W p l e R s m args below meth c H locs cells slots Q (F0 m pc ls st) :=
  zk_i isC isR (va_runS S hM cw (zpre_s isC hP hD hK hN hZ hS (zfree isC hD hS hA hC) hC hnC) rfl hn hsize hst hW hdg hf) hP hD hS (zfree isC hD hS hA hC) hC hR hnR hdis kk
theorem zSv (isC isR : List Nat) (S : CallFix p m c cc nL s args Ts own) (hM : Met l y wsy rm (va_Pc As (zPre D tys wc H.size)) (zQv D tys wn (va_A wc H.size)) mc ms (va_A wc H.size)) (cw : CallB R s args own index y bytes maxL ret wsy rm mc ms n ∧ (Cond.static y).before args s = true)
    (hK : va_K D vwCl tys s) (hN : zNest s) (hZ : zStat A0 s s.heap) (hP : va_P D vwCl ws H) (hD : va_D A0 ws) (hS : va_S A0 s.heap H locs) (hA : ∀ q, s.heap.size ≤ q → A0 q)
    (hC : isC.map (fun i => ws[i]?) = wc.map some) (hnC : va_nd isC = true) (hR : isR.map (fun i => ws[i]?) = wr.map some) (hnR : va_nd isR = true) (hdis : zdis isR isC = true)
    (hn : As.length = n) (hsize : ls.size = nL) (hst : st = As.reverse ++ rest) (hW : 2 * (F0 m pc ls st).monitorRoom + (rest.map fun v => v.category).sum ≤ 8) (hdg : decode cc pc = .ok (.invokestatic index, 3)) (hf : cells + mc ≤ R.cells ∧ slots + ms ≤ R.slots)
    (kk : ∀ (H1 : Heap) (locs1 : List Loc), va_P D vwCl (wr ++ wn) H1 → va_D A0 (wr ++ wn) → va_S A0 s.heap H1 locs1 → W p l e R s m args below meth c H1 locs1 (cells + mc) (slots + ms) Q (F0 m (pc + 3) ls rest)) :
    W p l e R s m args below meth c H locs cells slots Q (F0 m pc ls st) :=
  zk_v isC isR (va_runS S hM cw (zpre_s isC hP hD hK hN hZ hS (zfree isC hD hS hA hC) hC hnC) rfl hn hsize hst hW hdg hf) hP hD hS (zfree isC hD hS hA hC) hC hR hnR hdis kk
theorem zNi (isC isR : List Nat) (S : CallFix p m c cc nL s args Ts own) (hM : Met l y wsy rm (va_Pc As (zPre D tys wc H.size)) (zQi r0 D tys wn (va_A wc H.size)) mc ms (va_A wc H.size)) (cw : va_CN R s args own index y host bytes maxL ret wsy rm mc ms n ∧ (Cond.static y).before args s = true ∧ True)
    (hK : va_K D vwCl tys s) (hN : zNest s) (hZ : zStat A0 s s.heap) (hP : va_P D vwCl ws H) (hD : va_D A0 ws) (hS : va_S A0 s.heap H locs) (hA : ∀ q, s.heap.size ≤ q → A0 q)
    (hC : isC.map (fun i => ws[i]?) = wc.map some) (hnC : va_nd isC = true) (hR : isR.map (fun i => ws[i]?) = wr.map some) (hnR : va_nd isR = true) (hdis : zdis isR isC = true)
    (hn : As.length = n) (hsize : ls.size = nL) (hst : st = As.reverse ++ rest) (hW : 2 * (F0 m pc ls st).monitorRoom + (rest.map fun v => v.category).sum ≤ 8) (hdg : decode cc pc = .ok (.invokestatic index, 3)) (hf : cells + mc ≤ R.cells ∧ slots + ms ≤ R.slots)
    (kk : ∀ (H1 : Heap) (locs1 : List Loc), va_P D vwCl (wr ++ wn) H1 → va_D A0 (wr ++ wn) → va_S A0 s.heap H1 locs1 → W p l e R s m args below meth c H1 locs1 (cells + mc) (slots + ms) Q (F0 m (pc + 3) ls (.int r0 :: rest))) :
    W p l e R s m args below meth c H locs cells slots Q (F0 m pc ls st) :=
  zk_i isC isR (va_runSN S hM cw (zpre_s isC hP hD hK hN hZ hS (zfree isC hD hS hA hC) hC hnC) rfl hn hsize hst hW hdg hf) hP hD hS (zfree isC hD hS hA hC) hC hR hnR hdis kk
abbrev zQn (D : va_G) (tys : List (ClassId × FieldType)) (wnu : (Nat → Nat) → va_W) (A : Nat → Prop) : Array Value → State → Outcome → State → Prop := va_Qv (fun (_ : Nat → Nat) => True) (fun u t => zPost D tys (wnu u) A t) A
theorem zk_n {av : Array Value} {wnu : (Nat → Nat) → va_W} (isC isR : List Nat) (hr : va_Run p l e R s m args below meth c H locs cells slots mc ms (F0 m pc ls st) rest (zQn D tys wnu (va_A wc H.size) av) (va_A wc H.size))
    (hP : va_P D vwCl ws H) (hD : va_D A0 ws) (hS : va_S A0 H0 H locs) (hF : ∀ q, va_A wc H.size q → A0 q)
    (hC : isC.map (fun i => ws[i]?) = wc.map some) (hR : isR.map (fun i => ws[i]?) = wr.map some) (hnR : va_nd isR = true) (hdis : zdis isR isC = true)
    (kk : ∀ (u : Nat → Nat) (H1 : Heap) (locs1 : List Loc), va_P D vwCl (wr ++ wnu u) H1 → va_D A0 (wr ++ wnu u) → va_S A0 H0 H1 locs1 → W p l e R s m args below meth c H1 locs1 (cells + mc) (slots + ms) Q (F0 m (pc + 3) ls rest)) :
    W p l e R s m args below meth c H locs cells slots Q (F0 m pc ls st) := by
  refine va_callv hr hS (fun q _ h => hF q h) hF (fun u t H1 locs1 ht hvm hw hB hz1 hk1 hS1 => ?_)
  obtain ⟨hP1, hK1, hD1⟩ := hB
  rw [ht] at hP1
  obtain ⟨hP2, hD2⟩ := va_join hP hD isC isR hC hR hnR (zdis_ok hdis) hk1 hF hP1 hD1
  exact kk u H1 locs1 hP2 hD2 hS1
/-- a constructor's call: of its own link, of a nest mate's -/
theorem zIn {wnu : (Nat → Nat) → va_W} (isC isR : List Nat) (S : CallFix p m c cc nL s args Ts own) (hM : Met l y wsy rm (va_Pc (.ref b :: As) (zPre D tys wc H.size)) (zQn D tys wnu (va_A wc H.size)) mc ms (va_A wc H.size)) (cw : CallB R s args own index y bytes maxL none wsy rm mc ms n ∧ y.name = "<init>" ∧ (Cond.instanceMethod y).before args s = true)
    (hK : va_K D vwCl tys s) (hN : zNest s) (hZ : zStat A0 s s.heap) (hP : va_P D vwCl ws H) (hD : va_D A0 ws) (hS : va_S A0 s.heap H locs) (hA : ∀ q, s.heap.size ≤ q → A0 q)
    (hC : isC.map (fun i => ws[i]?) = wc.map some) (hnC : va_nd isC = true) (hR : isR.map (fun i => ws[i]?) = wr.map some) (hnR : va_nd isR = true) (hdis : zdis isR isC = true)
    (hn : As.length = n) (hsize : ls.size = nL) (hst : st = As.reverse ++ .ref b :: rest) (hW : 2 * (F0 m pc ls st).monitorRoom + (rest.map fun v => v.category).sum ≤ 8) (hdg : decode cc pc = .ok (.invokespecial index, 3)) (hf : cells + mc ≤ R.cells ∧ slots + ms ≤ R.slots)
    (kk : ∀ (u : Nat → Nat) (H1 : Heap) (locs1 : List Loc), va_P D vwCl (wr ++ wnu u) H1 → va_D A0 (wr ++ wnu u) → va_S A0 s.heap H1 locs1 → W p l e R s m args below meth c H1 locs1 (cells + mc) (slots + ms) Q (F0 m (pc + 3) ls rest)) :
    W p l e R s m args below meth c H locs cells slots Q (F0 m pc ls st) :=
  zk_n isC isR (va_runI S hM cw (zpre_s isC hP hD hK hN hZ hS (zfree isC hD hS hA hC) hC hnC) rfl hn hsize hst hW hdg hf) hP hD hS (zfree isC hD hS hA hC) hC hR hnR hdis kk
theorem zINn {wnu : (Nat → Nat) → va_W} (isC isR : List Nat) (S : CallFix p m c cc nL s args Ts own) (hM : Met l y wsy rm (va_Pc (.ref b :: As) (zPre D tys wc H.size)) (zQn D tys wnu (va_A wc H.size)) mc ms (va_A wc H.size)) (cw : va_CN R s args own index y host bytes maxL none wsy rm mc ms n ∧ y.name = "<init>" ∧ (Cond.instanceMethod y).before args s = true)
    (hK : va_K D vwCl tys s) (hN : zNest s) (hZ : zStat A0 s s.heap) (hP : va_P D vwCl ws H) (hD : va_D A0 ws) (hS : va_S A0 s.heap H locs) (hA : ∀ q, s.heap.size ≤ q → A0 q)
    (hC : isC.map (fun i => ws[i]?) = wc.map some) (hnC : va_nd isC = true) (hR : isR.map (fun i => ws[i]?) = wr.map some) (hnR : va_nd isR = true) (hdis : zdis isR isC = true)
    (hn : As.length = n) (hsize : ls.size = nL) (hst : st = As.reverse ++ .ref b :: rest) (hW : 2 * (F0 m pc ls st).monitorRoom + (rest.map fun v => v.category).sum ≤ 8) (hdg : decode cc pc = .ok (.invokespecial index, 3)) (hf : cells + mc ≤ R.cells ∧ slots + ms ≤ R.slots)
    (kk : ∀ (u : Nat → Nat) (H1 : Heap) (locs1 : List Loc), va_P D vwCl (wr ++ wnu u) H1 → va_D A0 (wr ++ wnu u) → va_S A0 s.heap H1 locs1 → W p l e R s m args below meth c H1 locs1 (cells + mc) (slots + ms) Q (F0 m (pc + 3) ls rest)) :
    W p l e R s m args below meth c H locs cells slots Q (F0 m pc ls st) :=
  zk_n isC isR (va_runIN S hM cw (zpre_s isC hP hD hK hN hZ hS (zfree isC hD hS hA hC) hC hnC) rfl hn hsize hst hW hdg hf) hP hD hS (zfree isC hD hS hA hC) hC hR hnR hdis kk
/-- a switch's default road, past the gaps of its table -/
theorem zz_tab {dflt lo hi : Int} {offs : Array Int} {len : Nat} {x : Int32} {tgt : Nat} (hexec : p.tables.exec = Jvm.exec) (hb : c.code = cc) (hdg : decode cc pc = .ok (.tableswitch dflt lo hi offs, len)) (h : (x.toInt < lo ∨ hi < x.toInt) ∨ (¬ x.toInt < lo ∧ ¬ hi < x.toInt ∧ offs[(x.toInt - lo).toNat]? = some dflt)) (ht : (pc : Int) + dflt = (tgt : Int))
    (k : W p l e R s m args below meth c H locs cells slots Q (F0 m tgt ls rest)) : W p l e R s m args below meth c H locs cells slots Q (F0 m pc ls (.int x :: rest)) := by
  rcases h with h | ⟨h1, h2, h3⟩
  · exact lv_tableOut hexec hb hdg h ht k
  · exact lv_tableIn hexec hb hdg h1 h2 h3 ht k
/-- a new row of ints, its class the known one -/
theorem znewi {cB cI cZ : ClassId} (hexec : p.tables.exec = Jvm.exec) (hb : c.code = cc) (harr : (Cond.arrayClass .int).before args s = true) (hK : va_K D vwCl (zT cB cI cZ) s) (hP : va_P D vwCl ws H) (hD : va_D A0 ws) (hS : va_S A0 H0 H locs) (hA : ∀ q, H0.size ≤ q → A0 q)
    {n : Int32} {N' : Nat} (hn : ¬ n < 0) (hN : n.toNatClampNeg = N') (hbytes : N' * componentBytes .int ≤ 536870912) (hcells : cells + 1 ≤ R.cells) (hslots : slots + N' ≤ R.slots) (hdg : decode cc pc = .ok (.newarray .int, 2))
    (kk : ∀ (q : Nat) (H1 : Heap), va_P D vwCl (ws ++ [(q, .inl (cI, N', .inl (fun _ => 0)))]) H1 → va_D A0 (ws ++ [(q, .inl (cI, N', .inl (fun _ => 0)))]) → va_S A0 H0 H1 locs →
      W p l e R s m args below meth c H1 locs (cells + 1) (slots + N') Q (F0 m (pc + 2) ls (.ref q :: rest))) : W p l e R s m args below meth c H locs cells slots Q (F0 m pc ls (.int n :: rest)) := by
  refine va_newa (atype := .int) (ty := .int) (a0 := (N', .inl (fun _ => 0))) hexec hb harr rfl hK hP hD hS hA (fun _ => rfl) hn hN hbytes hcells hslots hdg (fun q cA H1 hK1 hP1 hD1 hS1 => ?_)
  have e : cA = cI := Option.some.inj ((hK1.2 3 _ rfl).2.symm.trans (hK.2 1 _ rfl).2)
  subst e
  exact kk q H1 hP1 hD1 hS1
theorem znewz {cB cI cZ : ClassId} (hexec : p.tables.exec = Jvm.exec) (hb : c.code = cc) (harr : (Cond.arrayClass .boolean).before args s = true) (hK : va_K D vwCl (zT cB cI cZ) s) (hP : va_P D vwCl ws H) (hD : va_D A0 ws) (hS : va_S A0 H0 H locs) (hA : ∀ q, H0.size ≤ q → A0 q)
    {n : Int32} {N' : Nat} (hn : ¬ n < 0) (hN : n.toNatClampNeg = N') (hbytes : N' * componentBytes .boolean ≤ 536870912) (hcells : cells + 1 ≤ R.cells) (hslots : slots + N' ≤ R.slots) (hdg : decode cc pc = .ok (.newarray .boolean, 2))
    (kk : ∀ (q : Nat) (H1 : Heap), va_P D vwCl (ws ++ [(q, .inl (cZ, N', .inl (fun _ => 0)))]) H1 → va_D A0 (ws ++ [(q, .inl (cZ, N', .inl (fun _ => 0)))]) → va_S A0 H0 H1 locs →
      W p l e R s m args below meth c H1 locs (cells + 1) (slots + N') Q (F0 m (pc + 2) ls (.ref q :: rest))) : W p l e R s m args below meth c H locs cells slots Q (F0 m pc ls (.int n :: rest)) := by
  refine va_newa (atype := .boolean) (ty := .boolean) (a0 := (N', .inl (fun _ => 0))) hexec hb harr rfl hK hP hD hS hA (fun _ => rfl) hn hN hbytes hcells hslots hdg (fun q cA H1 hK1 hP1 hD1 hS1 => ?_)
  have e : cA = cZ := Option.some.inj ((hK1.2 3 _ rfl).2.symm.trans (hK.2 2 _ rfl).2)
  subst e
  exact kk q H1 hP1 hD1 hS1
theorem znewb {cB cI cZ : ClassId} (hexec : p.tables.exec = Jvm.exec) (hb : c.code = cc) (harr : (Cond.arrayClass .byte).before args s = true) (hK : va_K D vwCl (zT cB cI cZ) s) (hP : va_P D vwCl ws H) (hD : va_D A0 ws) (hS : va_S A0 H0 H locs) (hA : ∀ q, H0.size ≤ q → A0 q)
    {n : Int32} {N' : Nat} (hn : ¬ n < 0) (hN : n.toNatClampNeg = N') (hbytes : N' * componentBytes .byte ≤ 536870912) (hcells : cells + 1 ≤ R.cells) (hslots : slots + N' ≤ R.slots) (hdg : decode cc pc = .ok (.newarray .byte, 2))
    (kk : ∀ (q : Nat) (H1 : Heap), va_P D vwCl (ws ++ [(q, .inl (cB, N', .inl (fun _ => 0)))]) H1 → va_D A0 (ws ++ [(q, .inl (cB, N', .inl (fun _ => 0)))]) → va_S A0 H0 H1 locs →
      W p l e R s m args below meth c H1 locs (cells + 1) (slots + N') Q (F0 m (pc + 2) ls (.ref q :: rest))) : W p l e R s m args below meth c H locs cells slots Q (F0 m pc ls (.int n :: rest)) := by
  refine va_newa (atype := .byte) (ty := .byte) (a0 := (N', .inl (fun _ => 0))) hexec hb harr rfl hK hP hD hS hA (fun _ => rfl) hn hN hbytes hcells hslots hdg (fun q cA H1 hK1 hP1 hD1 hS1 => ?_)
  have e : cA = cB := Option.some.inj ((hK1.2 3 _ rfl).2.symm.trans (hK.2 0 _ rfl).2)
  subst e
  exact kk q H1 hP1 hD1 hS1
end ZC
