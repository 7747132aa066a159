/-! THE CLAIM OUT OF ONE WALK OF THE LAW'S BODY. Your part is whole_start (and what it stands on); all else here is the same for every law, but numbers. -/
def R_law : String := "RunDeskLaw"
def lw_P (b : Addr) (xs : List Int32) (args : Array Value) (s : State) : Prop := args = #[.ref b] ∧ s.IntsAt b xs ∧ xs.length ≤ 3584 ∧ (Jvm.Cond.and given_1 narrow_1).before args s = true
def lw_Q (_ : Array Value) (s : State) (o : Outcome) (t : State) : Prop := o = .returned (some (.int 1)) ∧ Framed s o t [] 601024 7293034
def lw_Z (below : List Frame) (a : Array Value) (s : State) : State → Prop := fun t => ∃ o, t.status = .running ∧ Ended t below o ∧ lw_Q a s o t
/-- the law's own end, with 1 on the stack, nothing written that was there before, its room as the claim has it -/
theorem lw_ret {p : Program} {l : Launch} {e : Env} {s : State} {m : MethodId} {below : List Frame} {meth : Method} {c : Code} {b : Nat} (hx : p.tables.exec = Jvm.exec) (hb : c.code = code) (hr : meth.sig.returnType = ret) (hlocks : meth.locks = false) {pc : Nat} {H : Heap} {ls : Array Slot} (hdg : decode code pc = .ok (.ireturn, 1)) : W p l e room_1 s m #[Value.ref b] below meth c H [] 601024 7293034 (lw_Z below #[Value.ref b] s) (F0 m pc ls [.int 1]) := by
  intro T hT X
  obtain ⟨fs, hret, hrun, hended, hW, hframe⟩ := X.leave (v := some (.int 1)) (hlocks := hlocks) (fun h => by rw [hr] at h; cases h)
  have hmeth' : T.vm.method? m = some meth := X.method'
  refine ⟨T.setFrames fs, ?_, .returned (some (.int 1)), hrun, hended, rfl, ⟨_, rfl⟩, hW, hframe⟩
  jvm_step X.here [X.here.top, hx, hb, hdg, hmeth', hr, ret, narrow_b1]
  (try refine ⟨rfl, ?_⟩); (try refine ⟨rfl, ?_⟩)
  first | (intro acts; rw [hret _ acts rfl rfl rfl]) | rw [hret _ _ rfl rfl rfl]
  exact Steps.refl _
/-- what holds at the law's entry: the machine, the code, the tables' words (any of lw_tbl by 'hts w (by decide +kernel)'), the script of L ints xs at the cell b, what the Statement gives of the start (any of its parts by flat_of_before) -/
def lw_At (p : Program) (s : State) (m : MethodId) (meth : Method) (c : Code) (b L : Nat) (xs : Nat → Int32) : Prop :=
  p.tables.exec = Jvm.exec ∧ c.code = code ∧ meth.sig.returnType = ret ∧ c.maxLocals = 5 ∧ s.vm.findClass R_law = some m.cls ∧ (∀ w ∈ lw_tbl, w.before #[Value.ref b] s = true) ∧ va_X b L xs s s.heap ∧ b < s.heap.size ∧ meth.locks = false ∧ (Jvm.Cond.and given_1 narrow_1).before #[Value.ref b] s = true
/-! what the law's walk wants beside: numbers, words, the reference's static rows -/
theorem zfit {cells slots mc ms : Nat} (hc : cells + mc ≤ 601024) (hs : slots + ms ≤ 7293034) : cells + mc ≤ room_1.cells ∧ slots + ms ≤ room_1.slots := ⟨hc, hs⟩
theorem zle_head {L k : Nat} (hL : L ≤ 3584) (hk : k ≤ 4000) (h : ¬ (Int32.ofNat L - 7 < nI k)) : k + 7 ≤ L := by
  rcases Nat.lt_or_ge L (k + 7) with q | q
  · refine absurd ?_ h
    show nI L - nI 7 < nI k
    rw [Int32.lt_iff_toInt_lt, pk_sub_toInt (by omega) (by omega), nI_toInt (by omega)]
    omega
  · exact q
set_option maxRecDepth 20000 in
theorem zNestL_in : ∀ w ∈ zNestL, w ∈ lw_tbl := by decide +kernel
theorem zNest_of {args : Array Value} {s : State} (hts : ∀ w ∈ lw_tbl, w.before args s = true) : zNest s := by
  intro w hw
  have h1 := hts w (zNestL_in w hw)
  rcases zNestL_ok w hw with ⟨_, _, _, _, _, _, rfl⟩ | ⟨_, _, _, _, rfl⟩
  · exact va_Nw.of rfl h1
  · exact va_Nw.of rfl h1
theorem zw_lL : (.laysStatic RX11 "LEAST" "[I" : Cond) ∈ lw_tbl := by decide +kernel
theorem zw_lG : (.laysStatic RX11 "GREATEST" "[I" : Cond) ∈ lw_tbl := by decide +kernel
theorem zw_i : (.initialized RX11 : Cond) ∈ lw_tbl := by decide +kernel
theorem zStat_of {args : Array Value} {s : State} (hts : ∀ w ∈ lw_tbl, w.before args s = true) (hgv : (Jvm.Cond.and given_1 narrow_1).before args s = true) : zStat (fun q : Nat => s.heap.size ≤ q) s s.heap := by
  have hs := flat_of_before _ hgv
  have hA : ∀ a : Nat, a < s.heap.size → ¬ (fun q : Nat => s.heap.size ≤ q) a := fun a h => Nat.not_le.mpr h
  obtain ⟨tL, eL, hL⟩ := va_Tof (tm := .static "RunDeskModel" "LEAST" "[I") (ty := .int) (N := 4) (f := fun j => .int (zfL j)) (A := fun q : Nat => s.heap.size ≤ q) (by decide) (hs (.arrayOf (.static "RunDeskModel" "LEAST" "[I") .int) (by decide +kernel)) (va_eqt (hs (.eq (.length (.static "RunDeskModel" "LEAST" "[I")) (.int 4)) (by decide +kernel))) (fun j hj => by
    rcases (show j = 0 ∨ j = 1 ∨ j = 2 ∨ j = 3 by omega) with rfl | rfl | rfl | rfl
    · exact va_eqt (hs (.eq (.elem (.static "RunDeskModel" "LEAST" "[I") (.int 0)) (.int 150)) (by decide +kernel))
    · exact va_eqt (hs (.eq (.elem (.static "RunDeskModel" "LEAST" "[I") (.int 1)) (.int 150)) (by decide +kernel))
    · exact va_eqt (hs (.eq (.elem (.static "RunDeskModel" "LEAST" "[I") (.int 2)) (.int 80)) (by decide +kernel))
    · exact va_eqt (hs (.eq (.elem (.static "RunDeskModel" "LEAST" "[I") (.int 3)) (.int 300)) (by decide +kernel))) hA
  obtain ⟨tG, eG, hG⟩ := va_Tof (tm := .static "RunDeskModel" "GREATEST" "[I") (ty := .int) (N := 4) (f := fun j => .int (zfG j)) (A := fun q : Nat => s.heap.size ≤ q) (by decide) (hs (.arrayOf (.static "RunDeskModel" "GREATEST" "[I") .int) (by decide +kernel)) (va_eqt (hs (.eq (.length (.static "RunDeskModel" "GREATEST" "[I")) (.int 4)) (by decide +kernel))) (fun j hj => by
    rcases (show j = 0 ∨ j = 1 ∨ j = 2 ∨ j = 3 by omega) with rfl | rfl | rfl | rfl
    · exact va_eqt (hs (.eq (.elem (.static "RunDeskModel" "GREATEST" "[I") (.int 0)) (.int 900)) (by decide +kernel))
    · exact va_eqt (hs (.eq (.elem (.static "RunDeskModel" "GREATEST" "[I") (.int 1)) (.int 900)) (by decide +kernel))
    · exact va_eqt (hs (.eq (.elem (.static "RunDeskModel" "GREATEST" "[I") (.int 2)) (.int 900)) (by decide +kernel))
    · exact va_eqt (hs (.eq (.elem (.static "RunDeskModel" "GREATEST" "[I") (.int 3)) (.int 1500)) (by decide +kernel))) hA
  exact ⟨tL, tG, va_Zof (hts _ zw_lL) (hts _ zw_i) eL hA, hL, va_Zof (hts _ zw_lG) (hts _ zw_i) eG hA, hG⟩
