def zhas : List Nat → Nat → Bool
  | [], _ => false
  | a :: t, i => Nat.beq a i || zhas t i
def zups {α : Type} : List (Nat × α) → (Nat → α) → Nat → α
  | [], f => f
  | u :: t, f => fun j => cond (Nat.beq j u.1) u.2 (zups t f j)
theorem zups_n {α : Type} {f : Nat → α} {i : Nat} : ∀ (u : List (Nat × α)) (ks : List Nat), u.map Prod.fst = ks → zhas ks i = false → zups u f i = f i
  | [], _, _, _ => rfl
  | a :: t, ks, e, h => by
    cases ks with
    | nil => cases e
    | cons k ks =>
      simp only [List.map_cons, List.cons.injEq] at e
      simp only [zhas, Bool.or_eq_false_iff] at h
      have h1 : Nat.beq i a.1 = false := by
        rw [e.1]
        cases hb : Nat.beq i k with
        | false => rfl
        | true =>
          have := Nat.eq_of_beq_eq_true hb
          rw [this] at h
          rw [Nat.beq_refl] at h
          exact absurd h.1 (by decide)
      show cond (Nat.beq i a.1) a.2 (zups t f i) = f i
      rw [h1]
      exact zups_n t ks e.2 h.2
def zup {α : Type} (f : Nat → α) (k : Nat) (v : α) : Nat → α := fun j => cond (Nat.beq j k) v (f j)
def zfam {α : Type} (l : List α) (d : α) : Nat → α := fun k => l.getD k d
def zrst (is : List Nat) (W : va_W) : va_W := is.filterMap (fun i => W[i]?)
theorem zrst_map {W : va_W} {is : List Nat} {n : Nat} (hn : W.length = n) (h : is.all (fun i => Nat.blt i n) = true) : is.map (fun i => W[i]?) = (zrst is W).map some := by
  induction is with
  | nil => rfl
  | cons i t ih =>
    simp only [List.all_cons, Bool.and_eq_true] at h
    have hi : i < W.length := by rw [hn]; exact Nat.blt_eq.mp h.1
    have e : W[i]? = some W[i] := List.getElem?_eq_getElem hi
    have h2 := ih h.2
    unfold zrst at h2 ⊢
    rw [List.filterMap_cons, e, List.map_cons, List.map_cons, e, h2]
theorem zmap_eq {α β : Type} {f g : α → β} : ∀ {l : List α}, l.map f = l.map g → ∀ a ∈ l, f a = g a
  | [], _, a, h => by cases h
  | b :: t, e, a, h => by
    simp only [List.map_cons, List.cons.injEq] at e
    rcases List.mem_cons.mp h with q | q
    · rw [q]; exact e.1
    · exact zmap_eq e.2 a q
theorem zback {D : va_G} {cl : List vw_C} {H : Heap} {W W' wn : va_W} {n : Nat} (isC isR : List Nat) (hW : W.length = n) (hW' : W'.length = n) (hcov : (List.range n).all (fun k => isR.contains k || isC.contains k) = true) (hR : ∀ k ∈ isR, W'[k]? = W[k]?) (hC : isC.map (fun i => W'[i]?) = wn.map some) (hP : va_P D cl (zrst isR W ++ wn) H) : va_P D cl W' H := by
  intro k q hk
  have hlt : k < n := by
    rw [← hW']
    exact (List.getElem?_eq_some_iff.mp hk).1
  have h1 := List.all_eq_true.mp hcov k (List.mem_range.mpr hlt)
  have hin : q ∈ zrst isR W ++ wn := by
    rcases Bool.or_eq_true _ _ ▸ h1 with h | h
    · have hm : k ∈ isR := by simpa using h
      have e := hR k hm
      refine List.mem_append_left _ (List.mem_filterMap.mpr ⟨k, hm, ?_⟩)
      rw [← e]; exact hk
    · have hm : k ∈ isC := by simpa using h
      have e : W'[k]? ∈ isC.map (fun i => W'[i]?) := List.mem_map_of_mem hm
      rw [hC, hk] at e
      obtain ⟨z, hz, ez⟩ := List.mem_map.mp e
      cases ez
      exact List.mem_append_right _ hz
  obtain ⟨i, hi⟩ := List.getElem?_of_mem hin
  exact hP i q hi
theorem zD_same {P : Nat → Prop} {W W' : va_W} (h : W.map Prod.fst = W'.map Prod.fst) (hD : va_D P W) : va_D P W' := by
  have key : ∀ (k : Nat) (q : Nat × va_E), W'[k]? = some q → ∃ q0, W[k]? = some q0 ∧ q0.1 = q.1 := by
    intro k q hk
    have e : (W'.map Prod.fst)[k]? = some q.1 := by rw [List.getElem?_map, hk]; rfl
    rw [← h, List.getElem?_map] at e
    cases hw : W[k]? with
    | none => rw [hw] at e; cases e
    | some q0 => rw [hw] at e; exact ⟨q0, rfl, Option.some.inj e⟩
  refine ⟨fun i j a c hi hj hac => ?_, fun k q hk => ?_⟩
  · obtain ⟨a0, ha, ea⟩ := key i a hi
    obtain ⟨c0, hc, ec⟩ := key j c hj
    exact hD.1 i j a0 c0 ha hc (by rw [ea, ec]; exact hac)
  · obtain ⟨q0, hq, eq⟩ := key k q hk
    rw [← eq]; exact hD.2 k q0 hq
def zWd (cB cI cZ : ClassId) (A : Nat → Nat) (I : Nat → Int32) (F : Nat → Nat → Int32) : va_W := [((A 0), .inr (10, [.ref (A 32), .ref (A 10), .ref (A 50), .ref (A 1), .ref (A 3), .ref (A 48), .ref (A 26), .int (I 0)])), ((A 1), .inr (0, [.ref (A 2), .int (I 1)])), ((A 2), .inl (cI, 2160, .inl (F 0))), ((A 3), .inr (1, [.ref (A 7), .ref (A 6), .ref (A 4), .ref (A 5), .ref (A 8)])), ((A 4), .inl (cI, 60, .inl (F 1))), ((A 5), .inl (cI, 4001, .inl (F 2))), ((A 6), .inl (cI, 60, .inl (F 3))), ((A 7), .inl (cI, 720, .inl (F 4))), ((A 8), .inr (2, [.ref (A 9)])), ((A 9), .inl (cI, 6, .inl (F 5))), ((A 10), .inr (4, [.ref (A 21), .ref (A 11), .ref (A 13)])), ((A 11), .inr (2, [.ref (A 12)])), ((A 12), .inl (cI, 6, .inl (F 6))), ((A 13), .inr (6, [.ref (A 15), .ref (A 16), .ref (A 19), .ref (A 14), .ref (A 20), .ref (A 18), .ref (A 17), .int (I 2), .int (I 3)])), ((A 14), .inl (cZ, 60, .inl (F 7))), ((A 15), .inl (cI, 360, .inl (F 8))), ((A 16), .inl (cI, 720, .inl (F 9))), ((A 17), .inl (cI, 60, .inl (F 10))), ((A 18), .inl (cZ, 60, .inl (F 11))), ((A 19), .inl (cI, 60, .inl (F 12))), ((A 20), .inl (cZ, 60, .inl (F 13))), ((A 21), .inr (9, [.ref (A 25), .ref (A 22), .ref (A 23), .ref (A 24), .int (I 4)])), ((A 22), .inl (cI, 12, .inl (F 14))), ((A 23), .inl (cI, 12, .inl (F 15))), ((A 24), .inl (cZ, 12, .inl (F 16))), ((A 25), .inl (cI, 12, .inl (F 17))), ((A 26), .inr (3, [.ref (A 27), .ref (A 31)])), ((A 27), .inr (5, [.ref (A 29), .ref (A 30), .ref (A 28), .int (I 5), .int (I 6), .int (I 7), .int (I 8), .int (I 9), .int (I 10)])), ((A 28), .inl (cI, 200, .inl (F 18))), ((A 29), .inl (cI, 200, .inl (F 19))), ((A 30), .inl (cI, 200, .inl (F 20))), ((A 31), .inl (cI, 60, .inl (F 21))), ((A 32), .inr (4, [.ref (A 43), .ref (A 33), .ref (A 35)])), ((A 33), .inr (2, [.ref (A 34)])), ((A 34), .inl (cI, 6, .inl (F 22))), ((A 35), .inr (6, [.ref (A 37), .ref (A 38), .ref (A 41), .ref (A 36), .ref (A 42), .ref (A 40), .ref (A 39), .int (I 11), .int (I 12)])), ((A 36), .inl (cZ, 60, .inl (F 23))), ((A 37), .inl (cI, 360, .inl (F 24))), ((A 38), .inl (cI, 720, .inl (F 25))), ((A 39), .inl (cI, 60, .inl (F 26))), ((A 40), .inl (cZ, 60, .inl (F 27))), ((A 41), .inl (cI, 60, .inl (F 28))), ((A 42), .inl (cZ, 60, .inl (F 29))), ((A 43), .inr (9, [.ref (A 47), .ref (A 44), .ref (A 45), .ref (A 46), .int (I 13)])), ((A 44), .inl (cI, 12, .inl (F 30))), ((A 45), .inl (cI, 12, .inl (F 31))), ((A 46), .inl (cZ, 12, .inl (F 32))), ((A 47), .inl (cI, 12, .inl (F 33))), ((A 48), .inr (7, [.ref (A 49), .int (I 14)])), ((A 49), .inl (cI, 200, .inl (F 34))), ((A 50), .inr (8, [.ref (A 52), .ref (A 51), .int (I 15), .int (I 16), .int (I 17)])), ((A 51), .inl (cI, 12, .inl (F 35))), ((A 52), .inl (cI, 12, .inl (F 36))), ((A 53), .inr (11, [.int (I 18), .ref (A 55), .ref (A 54), .int (I 19), .ref (A 58), .int (I 20), .ref (A 57), .int (I 21), .int (I 22), .int (I 23), .int (I 24), .int (I 25), .int (I 26), .ref (A 56), .ref (A 59), .int (I 27)])), ((A 54), .inl (cI, 1562, .inl (F 37))), ((A 55), .inl (cI, 1562, .inl (F 38))), ((A 56), .inl (cI, 60, .inl (F 39))), ((A 57), .inl (cI, 5000, .inl (F 40))), ((A 58), .inl (cB, 200, .inl (F 41))), ((A 59), .inl (cI, 60, .inl (F 42)))]
def zIF (I : Nat → Int32) (F : Nat → Nat → Int32) : Prop := zInv (F 22) (I 11) (I 12) (F 23) (F 24) (F 25) (F 26) (F 27) (F 28) (F 29) (I 13) (F 30) (F 31) (F 32) (F 33) (F 38) (F 6) (I 2) (I 3) (F 7) (F 8) (F 9) (F 10) (F 11) (F 12) (F 13) (I 4) (F 14) (F 15) (F 16) (F 17) (F 37) (I 0) (I 19) (I 14) (F 34) (I 20) (F 41) (F 2) (F 40)
theorem zWd_len {cB cI cZ : ClassId} {A : Nat → Nat} {I : Nat → Int32} {F : Nat → Nat → Int32} : (zWd cB cI cZ A I F).length = 60 := rfl
theorem zWd_D {P : Nat → Prop} {cB cI cZ : ClassId} {A : Nat → Nat} {I : Nat → Int32} {F : Nat → Nat → Int32} (I2 : Nat → Int32) (F2 : Nat → Nat → Int32) (h : va_D P (zWd cB cI cZ A I F)) : va_D P (zWd cB cI cZ A I2 F2) := zD_same (W := zWd cB cI cZ A I F) (W' := zWd cB cI cZ A I2 F2) rfl h
def zdI (k : Nat) : List Nat := ([[0], [1], [], [], [], [], [], [], [], [], [], [], [], [2, 3], [], [], [], [], [], [], [], [4], [], [], [], [], [], [5, 6, 7, 8, 9, 10], [], [], [], [], [], [], [], [11, 12], [], [], [], [], [], [], [], [13], [], [], [], [], [14], [], [15, 16, 17], [], [], [18, 19, 20, 21, 22, 23, 24, 25, 26, 27], [], [], [], [], [], []] : List (List Nat)).getD k []
def zdF (k : Nat) : List Nat := ([[], [], [0], [], [1], [2], [3], [4], [], [5], [], [], [6], [], [7], [8], [9], [10], [11], [12], [13], [], [14], [15], [16], [17], [], [], [18], [19], [20], [21], [], [], [22], [], [23], [24], [25], [26], [27], [28], [29], [], [30], [31], [32], [33], [], [34], [], [35], [36], [], [37], [38], [39], [40], [41], [42]] : List (List Nat)).getD k []
theorem zc_0 {cB cI cZ : ClassId} {A : Nat → Nat} {I I' : Nat → Int32} {F F' : Nat → Nat → Int32} (h1 : ∀ i, zhas (zdI 0) i = true → I' i = I i) (h2 : ∀ i, zhas (zdF 0) i = true → F' i = F i) : (zWd cB cI cZ A I' F')[0]? = (zWd cB cI cZ A I F)[0]? := by
  show some (((A 0), .inr (10, [.ref (A 32), .ref (A 10), .ref (A 50), .ref (A 1), .ref (A 3), .ref (A 48), .ref (A 26), .int (I' 0)])) : Nat × va_E) = some (((A 0), .inr (10, [.ref (A 32), .ref (A 10), .ref (A 50), .ref (A 1), .ref (A 3), .ref (A 48), .ref (A 26), .int (I 0)])) : Nat × va_E)
  rw [h1 0 rfl]
theorem zc_1 {cB cI cZ : ClassId} {A : Nat → Nat} {I I' : Nat → Int32} {F F' : Nat → Nat → Int32} (h1 : ∀ i, zhas (zdI 1) i = true → I' i = I i) (h2 : ∀ i, zhas (zdF 1) i = true → F' i = F i) : (zWd cB cI cZ A I' F')[1]? = (zWd cB cI cZ A I F)[1]? := by
  show some (((A 1), .inr (0, [.ref (A 2), .int (I' 1)])) : Nat × va_E) = some (((A 1), .inr (0, [.ref (A 2), .int (I 1)])) : Nat × va_E)
  rw [h1 1 rfl]
theorem zc_2 {cB cI cZ : ClassId} {A : Nat → Nat} {I I' : Nat → Int32} {F F' : Nat → Nat → Int32} (h1 : ∀ i, zhas (zdI 2) i = true → I' i = I i) (h2 : ∀ i, zhas (zdF 2) i = true → F' i = F i) : (zWd cB cI cZ A I' F')[2]? = (zWd cB cI cZ A I F)[2]? := by
  show some (((A 2), .inl (cI, 2160, .inl (F' 0))) : Nat × va_E) = some (((A 2), .inl (cI, 2160, .inl (F 0))) : Nat × va_E)
  rw [h2 0 rfl]
theorem zc_3 {cB cI cZ : ClassId} {A : Nat → Nat} {I I' : Nat → Int32} {F F' : Nat → Nat → Int32} (h1 : ∀ i, zhas (zdI 3) i = true → I' i = I i) (h2 : ∀ i, zhas (zdF 3) i = true → F' i = F i) : (zWd cB cI cZ A I' F')[3]? = (zWd cB cI cZ A I F)[3]? := by
  show some (((A 3), .inr (1, [.ref (A 7), .ref (A 6), .ref (A 4), .ref (A 5), .ref (A 8)])) : Nat × va_E) = some (((A 3), .inr (1, [.ref (A 7), .ref (A 6), .ref (A 4), .ref (A 5), .ref (A 8)])) : Nat × va_E)
  rfl
theorem zc_4 {cB cI cZ : ClassId} {A : Nat → Nat} {I I' : Nat → Int32} {F F' : Nat → Nat → Int32} (h1 : ∀ i, zhas (zdI 4) i = true → I' i = I i) (h2 : ∀ i, zhas (zdF 4) i = true → F' i = F i) : (zWd cB cI cZ A I' F')[4]? = (zWd cB cI cZ A I F)[4]? := by
  show some (((A 4), .inl (cI, 60, .inl (F' 1))) : Nat × va_E) = some (((A 4), .inl (cI, 60, .inl (F 1))) : Nat × va_E)
  rw [h2 1 rfl]
theorem zc_5 {cB cI cZ : ClassId} {A : Nat → Nat} {I I' : Nat → Int32} {F F' : Nat → Nat → Int32} (h1 : ∀ i, zhas (zdI 5) i = true → I' i = I i) (h2 : ∀ i, zhas (zdF 5) i = true → F' i = F i) : (zWd cB cI cZ A I' F')[5]? = (zWd cB cI cZ A I F)[5]? := by
  show some (((A 5), .inl (cI, 4001, .inl (F' 2))) : Nat × va_E) = some (((A 5), .inl (cI, 4001, .inl (F 2))) : Nat × va_E)
  rw [h2 2 rfl]
theorem zc_6 {cB cI cZ : ClassId} {A : Nat → Nat} {I I' : Nat → Int32} {F F' : Nat → Nat → Int32} (h1 : ∀ i, zhas (zdI 6) i = true → I' i = I i) (h2 : ∀ i, zhas (zdF 6) i = true → F' i = F i) : (zWd cB cI cZ A I' F')[6]? = (zWd cB cI cZ A I F)[6]? := by
  show some (((A 6), .inl (cI, 60, .inl (F' 3))) : Nat × va_E) = some (((A 6), .inl (cI, 60, .inl (F 3))) : Nat × va_E)
  rw [h2 3 rfl]
theorem zc_7 {cB cI cZ : ClassId} {A : Nat → Nat} {I I' : Nat → Int32} {F F' : Nat → Nat → Int32} (h1 : ∀ i, zhas (zdI 7) i = true → I' i = I i) (h2 : ∀ i, zhas (zdF 7) i = true → F' i = F i) : (zWd cB cI cZ A I' F')[7]? = (zWd cB cI cZ A I F)[7]? := by
  show some (((A 7), .inl (cI, 720, .inl (F' 4))) : Nat × va_E) = some (((A 7), .inl (cI, 720, .inl (F 4))) : Nat × va_E)
  rw [h2 4 rfl]
theorem zc_8 {cB cI cZ : ClassId} {A : Nat → Nat} {I I' : Nat → Int32} {F F' : Nat → Nat → Int32} (h1 : ∀ i, zhas (zdI 8) i = true → I' i = I i) (h2 : ∀ i, zhas (zdF 8) i = true → F' i = F i) : (zWd cB cI cZ A I' F')[8]? = (zWd cB cI cZ A I F)[8]? := by
  show some (((A 8), .inr (2, [.ref (A 9)])) : Nat × va_E) = some (((A 8), .inr (2, [.ref (A 9)])) : Nat × va_E)
  rfl
theorem zc_9 {cB cI cZ : ClassId} {A : Nat → Nat} {I I' : Nat → Int32} {F F' : Nat → Nat → Int32} (h1 : ∀ i, zhas (zdI 9) i = true → I' i = I i) (h2 : ∀ i, zhas (zdF 9) i = true → F' i = F i) : (zWd cB cI cZ A I' F')[9]? = (zWd cB cI cZ A I F)[9]? := by
  show some (((A 9), .inl (cI, 6, .inl (F' 5))) : Nat × va_E) = some (((A 9), .inl (cI, 6, .inl (F 5))) : Nat × va_E)
  rw [h2 5 rfl]
theorem zc_10 {cB cI cZ : ClassId} {A : Nat → Nat} {I I' : Nat → Int32} {F F' : Nat → Nat → Int32} (h1 : ∀ i, zhas (zdI 10) i = true → I' i = I i) (h2 : ∀ i, zhas (zdF 10) i = true → F' i = F i) : (zWd cB cI cZ A I' F')[10]? = (zWd cB cI cZ A I F)[10]? := by
  show some (((A 10), .inr (4, [.ref (A 21), .ref (A 11), .ref (A 13)])) : Nat × va_E) = some (((A 10), .inr (4, [.ref (A 21), .ref (A 11), .ref (A 13)])) : Nat × va_E)
  rfl
theorem zc_11 {cB cI cZ : ClassId} {A : Nat → Nat} {I I' : Nat → Int32} {F F' : Nat → Nat → Int32} (h1 : ∀ i, zhas (zdI 11) i = true → I' i = I i) (h2 : ∀ i, zhas (zdF 11) i = true → F' i = F i) : (zWd cB cI cZ A I' F')[11]? = (zWd cB cI cZ A I F)[11]? := by
  show some (((A 11), .inr (2, [.ref (A 12)])) : Nat × va_E) = some (((A 11), .inr (2, [.ref (A 12)])) : Nat × va_E)
  rfl
theorem zc_12 {cB cI cZ : ClassId} {A : Nat → Nat} {I I' : Nat → Int32} {F F' : Nat → Nat → Int32} (h1 : ∀ i, zhas (zdI 12) i = true → I' i = I i) (h2 : ∀ i, zhas (zdF 12) i = true → F' i = F i) : (zWd cB cI cZ A I' F')[12]? = (zWd cB cI cZ A I F)[12]? := by
  show some (((A 12), .inl (cI, 6, .inl (F' 6))) : Nat × va_E) = some (((A 12), .inl (cI, 6, .inl (F 6))) : Nat × va_E)
  rw [h2 6 rfl]
theorem zc_13 {cB cI cZ : ClassId} {A : Nat → Nat} {I I' : Nat → Int32} {F F' : Nat → Nat → Int32} (h1 : ∀ i, zhas (zdI 13) i = true → I' i = I i) (h2 : ∀ i, zhas (zdF 13) i = true → F' i = F i) : (zWd cB cI cZ A I' F')[13]? = (zWd cB cI cZ A I F)[13]? := by
  show some (((A 13), .inr (6, [.ref (A 15), .ref (A 16), .ref (A 19), .ref (A 14), .ref (A 20), .ref (A 18), .ref (A 17), .int (I' 2), .int (I' 3)])) : Nat × va_E) = some (((A 13), .inr (6, [.ref (A 15), .ref (A 16), .ref (A 19), .ref (A 14), .ref (A 20), .ref (A 18), .ref (A 17), .int (I 2), .int (I 3)])) : Nat × va_E)
  rw [h1 2 rfl, h1 3 rfl]
theorem zc_14 {cB cI cZ : ClassId} {A : Nat → Nat} {I I' : Nat → Int32} {F F' : Nat → Nat → Int32} (h1 : ∀ i, zhas (zdI 14) i = true → I' i = I i) (h2 : ∀ i, zhas (zdF 14) i = true → F' i = F i) : (zWd cB cI cZ A I' F')[14]? = (zWd cB cI cZ A I F)[14]? := by
  show some (((A 14), .inl (cZ, 60, .inl (F' 7))) : Nat × va_E) = some (((A 14), .inl (cZ, 60, .inl (F 7))) : Nat × va_E)
  rw [h2 7 rfl]
theorem zc_15 {cB cI cZ : ClassId} {A : Nat → Nat} {I I' : Nat → Int32} {F F' : Nat → Nat → Int32} (h1 : ∀ i, zhas (zdI 15) i = true → I' i = I i) (h2 : ∀ i, zhas (zdF 15) i = true → F' i = F i) : (zWd cB cI cZ A I' F')[15]? = (zWd cB cI cZ A I F)[15]? := by
  show some (((A 15), .inl (cI, 360, .inl (F' 8))) : Nat × va_E) = some (((A 15), .inl (cI, 360, .inl (F 8))) : Nat × va_E)
  rw [h2 8 rfl]
theorem zc_16 {cB cI cZ : ClassId} {A : Nat → Nat} {I I' : Nat → Int32} {F F' : Nat → Nat → Int32} (h1 : ∀ i, zhas (zdI 16) i = true → I' i = I i) (h2 : ∀ i, zhas (zdF 16) i = true → F' i = F i) : (zWd cB cI cZ A I' F')[16]? = (zWd cB cI cZ A I F)[16]? := by
  show some (((A 16), .inl (cI, 720, .inl (F' 9))) : Nat × va_E) = some (((A 16), .inl (cI, 720, .inl (F 9))) : Nat × va_E)
  rw [h2 9 rfl]
theorem zc_17 {cB cI cZ : ClassId} {A : Nat → Nat} {I I' : Nat → Int32} {F F' : Nat → Nat → Int32} (h1 : ∀ i, zhas (zdI 17) i = true → I' i = I i) (h2 : ∀ i, zhas (zdF 17) i = true → F' i = F i) : (zWd cB cI cZ A I' F')[17]? = (zWd cB cI cZ A I F)[17]? := by
  show some (((A 17), .inl (cI, 60, .inl (F' 10))) : Nat × va_E) = some (((A 17), .inl (cI, 60, .inl (F 10))) : Nat × va_E)
  rw [h2 10 rfl]
theorem zc_18 {cB cI cZ : ClassId} {A : Nat → Nat} {I I' : Nat → Int32} {F F' : Nat → Nat → Int32} (h1 : ∀ i, zhas (zdI 18) i = true → I' i = I i) (h2 : ∀ i, zhas (zdF 18) i = true → F' i = F i) : (zWd cB cI cZ A I' F')[18]? = (zWd cB cI cZ A I F)[18]? := by
  show some (((A 18), .inl (cZ, 60, .inl (F' 11))) : Nat × va_E) = some (((A 18), .inl (cZ, 60, .inl (F 11))) : Nat × va_E)
  rw [h2 11 rfl]
theorem zc_19 {cB cI cZ : ClassId} {A : Nat → Nat} {I I' : Nat → Int32} {F F' : Nat → Nat → Int32} (h1 : ∀ i, zhas (zdI 19) i = true → I' i = I i) (h2 : ∀ i, zhas (zdF 19) i = true → F' i = F i) : (zWd cB cI cZ A I' F')[19]? = (zWd cB cI cZ A I F)[19]? := by
  show some (((A 19), .inl (cI, 60, .inl (F' 12))) : Nat × va_E) = some (((A 19), .inl (cI, 60, .inl (F 12))) : Nat × va_E)
  rw [h2 12 rfl]
theorem zc_20 {cB cI cZ : ClassId} {A : Nat → Nat} {I I' : Nat → Int32} {F F' : Nat → Nat → Int32} (h1 : ∀ i, zhas (zdI 20) i = true → I' i = I i) (h2 : ∀ i, zhas (zdF 20) i = true → F' i = F i) : (zWd cB cI cZ A I' F')[20]? = (zWd cB cI cZ A I F)[20]? := by
  show some (((A 20), .inl (cZ, 60, .inl (F' 13))) : Nat × va_E) = some (((A 20), .inl (cZ, 60, .inl (F 13))) : Nat × va_E)
  rw [h2 13 rfl]
theorem zc_21 {cB cI cZ : ClassId} {A : Nat → Nat} {I I' : Nat → Int32} {F F' : Nat → Nat → Int32} (h1 : ∀ i, zhas (zdI 21) i = true → I' i = I i) (h2 : ∀ i, zhas (zdF 21) i = true → F' i = F i) : (zWd cB cI cZ A I' F')[21]? = (zWd cB cI cZ A I F)[21]? := by
  show some (((A 21), .inr (9, [.ref (A 25), .ref (A 22), .ref (A 23), .ref (A 24), .int (I' 4)])) : Nat × va_E) = some (((A 21), .inr (9, [.ref (A 25), .ref (A 22), .ref (A 23), .ref (A 24), .int (I 4)])) : Nat × va_E)
  rw [h1 4 rfl]
theorem zc_22 {cB cI cZ : ClassId} {A : Nat → Nat} {I I' : Nat → Int32} {F F' : Nat → Nat → Int32} (h1 : ∀ i, zhas (zdI 22) i = true → I' i = I i) (h2 : ∀ i, zhas (zdF 22) i = true → F' i = F i) : (zWd cB cI cZ A I' F')[22]? = (zWd cB cI cZ A I F)[22]? := by
  show some (((A 22), .inl (cI, 12, .inl (F' 14))) : Nat × va_E) = some (((A 22), .inl (cI, 12, .inl (F 14))) : Nat × va_E)
  rw [h2 14 rfl]
theorem zc_23 {cB cI cZ : ClassId} {A : Nat → Nat} {I I' : Nat → Int32} {F F' : Nat → Nat → Int32} (h1 : ∀ i, zhas (zdI 23) i = true → I' i = I i) (h2 : ∀ i, zhas (zdF 23) i = true → F' i = F i) : (zWd cB cI cZ A I' F')[23]? = (zWd cB cI cZ A I F)[23]? := by
  show some (((A 23), .inl (cI, 12, .inl (F' 15))) : Nat × va_E) = some (((A 23), .inl (cI, 12, .inl (F 15))) : Nat × va_E)
  rw [h2 15 rfl]
theorem zc_24 {cB cI cZ : ClassId} {A : Nat → Nat} {I I' : Nat → Int32} {F F' : Nat → Nat → Int32} (h1 : ∀ i, zhas (zdI 24) i = true → I' i = I i) (h2 : ∀ i, zhas (zdF 24) i = true → F' i = F i) : (zWd cB cI cZ A I' F')[24]? = (zWd cB cI cZ A I F)[24]? := by
  show some (((A 24), .inl (cZ, 12, .inl (F' 16))) : Nat × va_E) = some (((A 24), .inl (cZ, 12, .inl (F 16))) : Nat × va_E)
  rw [h2 16 rfl]
theorem zc_25 {cB cI cZ : ClassId} {A : Nat → Nat} {I I' : Nat → Int32} {F F' : Nat → Nat → Int32} (h1 : ∀ i, zhas (zdI 25) i = true → I' i = I i) (h2 : ∀ i, zhas (zdF 25) i = true → F' i = F i) : (zWd cB cI cZ A I' F')[25]? = (zWd cB cI cZ A I F)[25]? := by
  show some (((A 25), .inl (cI, 12, .inl (F' 17))) : Nat × va_E) = some (((A 25), .inl (cI, 12, .inl (F 17))) : Nat × va_E)
  rw [h2 17 rfl]
theorem zc_26 {cB cI cZ : ClassId} {A : Nat → Nat} {I I' : Nat → Int32} {F F' : Nat → Nat → Int32} (h1 : ∀ i, zhas (zdI 26) i = true → I' i = I i) (h2 : ∀ i, zhas (zdF 26) i = true → F' i = F i) : (zWd cB cI cZ A I' F')[26]? = (zWd cB cI cZ A I F)[26]? := by
  show some (((A 26), .inr (3, [.ref (A 27), .ref (A 31)])) : Nat × va_E) = some (((A 26), .inr (3, [.ref (A 27), .ref (A 31)])) : Nat × va_E)
  rfl
theorem zc_27 {cB cI cZ : ClassId} {A : Nat → Nat} {I I' : Nat → Int32} {F F' : Nat → Nat → Int32} (h1 : ∀ i, zhas (zdI 27) i = true → I' i = I i) (h2 : ∀ i, zhas (zdF 27) i = true → F' i = F i) : (zWd cB cI cZ A I' F')[27]? = (zWd cB cI cZ A I F)[27]? := by
  show some (((A 27), .inr (5, [.ref (A 29), .ref (A 30), .ref (A 28), .int (I' 5), .int (I' 6), .int (I' 7), .int (I' 8), .int (I' 9), .int (I' 10)])) : Nat × va_E) = some (((A 27), .inr (5, [.ref (A 29), .ref (A 30), .ref (A 28), .int (I 5), .int (I 6), .int (I 7), .int (I 8), .int (I 9), .int (I 10)])) : Nat × va_E)
  rw [h1 5 rfl, h1 6 rfl, h1 7 rfl, h1 8 rfl, h1 9 rfl, h1 10 rfl]
theorem zc_28 {cB cI cZ : ClassId} {A : Nat → Nat} {I I' : Nat → Int32} {F F' : Nat → Nat → Int32} (h1 : ∀ i, zhas (zdI 28) i = true → I' i = I i) (h2 : ∀ i, zhas (zdF 28) i = true → F' i = F i) : (zWd cB cI cZ A I' F')[28]? = (zWd cB cI cZ A I F)[28]? := by
  show some (((A 28), .inl (cI, 200, .inl (F' 18))) : Nat × va_E) = some (((A 28), .inl (cI, 200, .inl (F 18))) : Nat × va_E)
  rw [h2 18 rfl]
theorem zc_29 {cB cI cZ : ClassId} {A : Nat → Nat} {I I' : Nat → Int32} {F F' : Nat → Nat → Int32} (h1 : ∀ i, zhas (zdI 29) i = true → I' i = I i) (h2 : ∀ i, zhas (zdF 29) i = true → F' i = F i) : (zWd cB cI cZ A I' F')[29]? = (zWd cB cI cZ A I F)[29]? := by
  show some (((A 29), .inl (cI, 200, .inl (F' 19))) : Nat × va_E) = some (((A 29), .inl (cI, 200, .inl (F 19))) : Nat × va_E)
  rw [h2 19 rfl]
theorem zc_30 {cB cI cZ : ClassId} {A : Nat → Nat} {I I' : Nat → Int32} {F F' : Nat → Nat → Int32} (h1 : ∀ i, zhas (zdI 30) i = true → I' i = I i) (h2 : ∀ i, zhas (zdF 30) i = true → F' i = F i) : (zWd cB cI cZ A I' F')[30]? = (zWd cB cI cZ A I F)[30]? := by
  show some (((A 30), .inl (cI, 200, .inl (F' 20))) : Nat × va_E) = some (((A 30), .inl (cI, 200, .inl (F 20))) : Nat × va_E)
  rw [h2 20 rfl]
theorem zc_31 {cB cI cZ : ClassId} {A : Nat → Nat} {I I' : Nat → Int32} {F F' : Nat → Nat → Int32} (h1 : ∀ i, zhas (zdI 31) i = true → I' i = I i) (h2 : ∀ i, zhas (zdF 31) i = true → F' i = F i) : (zWd cB cI cZ A I' F')[31]? = (zWd cB cI cZ A I F)[31]? := by
  show some (((A 31), .inl (cI, 60, .inl (F' 21))) : Nat × va_E) = some (((A 31), .inl (cI, 60, .inl (F 21))) : Nat × va_E)
  rw [h2 21 rfl]
theorem zc_32 {cB cI cZ : ClassId} {A : Nat → Nat} {I I' : Nat → Int32} {F F' : Nat → Nat → Int32} (h1 : ∀ i, zhas (zdI 32) i = true → I' i = I i) (h2 : ∀ i, zhas (zdF 32) i = true → F' i = F i) : (zWd cB cI cZ A I' F')[32]? = (zWd cB cI cZ A I F)[32]? := by
  show some (((A 32), .inr (4, [.ref (A 43), .ref (A 33), .ref (A 35)])) : Nat × va_E) = some (((A 32), .inr (4, [.ref (A 43), .ref (A 33), .ref (A 35)])) : Nat × va_E)
  rfl
theorem zc_33 {cB cI cZ : ClassId} {A : Nat → Nat} {I I' : Nat → Int32} {F F' : Nat → Nat → Int32} (h1 : ∀ i, zhas (zdI 33) i = true → I' i = I i) (h2 : ∀ i, zhas (zdF 33) i = true → F' i = F i) : (zWd cB cI cZ A I' F')[33]? = (zWd cB cI cZ A I F)[33]? := by
  show some (((A 33), .inr (2, [.ref (A 34)])) : Nat × va_E) = some (((A 33), .inr (2, [.ref (A 34)])) : Nat × va_E)
  rfl
theorem zc_34 {cB cI cZ : ClassId} {A : Nat → Nat} {I I' : Nat → Int32} {F F' : Nat → Nat → Int32} (h1 : ∀ i, zhas (zdI 34) i = true → I' i = I i) (h2 : ∀ i, zhas (zdF 34) i = true → F' i = F i) : (zWd cB cI cZ A I' F')[34]? = (zWd cB cI cZ A I F)[34]? := by
  show some (((A 34), .inl (cI, 6, .inl (F' 22))) : Nat × va_E) = some (((A 34), .inl (cI, 6, .inl (F 22))) : Nat × va_E)
  rw [h2 22 rfl]
theorem zc_35 {cB cI cZ : ClassId} {A : Nat → Nat} {I I' : Nat → Int32} {F F' : Nat → Nat → Int32} (h1 : ∀ i, zhas (zdI 35) i = true → I' i = I i) (h2 : ∀ i, zhas (zdF 35) i = true → F' i = F i) : (zWd cB cI cZ A I' F')[35]? = (zWd cB cI cZ A I F)[35]? := by
  show some (((A 35), .inr (6, [.ref (A 37), .ref (A 38), .ref (A 41), .ref (A 36), .ref (A 42), .ref (A 40), .ref (A 39), .int (I' 11), .int (I' 12)])) : Nat × va_E) = some (((A 35), .inr (6, [.ref (A 37), .ref (A 38), .ref (A 41), .ref (A 36), .ref (A 42), .ref (A 40), .ref (A 39), .int (I 11), .int (I 12)])) : Nat × va_E)
  rw [h1 11 rfl, h1 12 rfl]
theorem zc_36 {cB cI cZ : ClassId} {A : Nat → Nat} {I I' : Nat → Int32} {F F' : Nat → Nat → Int32} (h1 : ∀ i, zhas (zdI 36) i = true → I' i = I i) (h2 : ∀ i, zhas (zdF 36) i = true → F' i = F i) : (zWd cB cI cZ A I' F')[36]? = (zWd cB cI cZ A I F)[36]? := by
  show some (((A 36), .inl (cZ, 60, .inl (F' 23))) : Nat × va_E) = some (((A 36), .inl (cZ, 60, .inl (F 23))) : Nat × va_E)
  rw [h2 23 rfl]
theorem zc_37 {cB cI cZ : ClassId} {A : Nat → Nat} {I I' : Nat → Int32} {F F' : Nat → Nat → Int32} (h1 : ∀ i, zhas (zdI 37) i = true → I' i = I i) (h2 : ∀ i, zhas (zdF 37) i = true → F' i = F i) : (zWd cB cI cZ A I' F')[37]? = (zWd cB cI cZ A I F)[37]? := by
  show some (((A 37), .inl (cI, 360, .inl (F' 24))) : Nat × va_E) = some (((A 37), .inl (cI, 360, .inl (F 24))) : Nat × va_E)
  rw [h2 24 rfl]
theorem zc_38 {cB cI cZ : ClassId} {A : Nat → Nat} {I I' : Nat → Int32} {F F' : Nat → Nat → Int32} (h1 : ∀ i, zhas (zdI 38) i = true → I' i = I i) (h2 : ∀ i, zhas (zdF 38) i = true → F' i = F i) : (zWd cB cI cZ A I' F')[38]? = (zWd cB cI cZ A I F)[38]? := by
  show some (((A 38), .inl (cI, 720, .inl (F' 25))) : Nat × va_E) = some (((A 38), .inl (cI, 720, .inl (F 25))) : Nat × va_E)
  rw [h2 25 rfl]
theorem zc_39 {cB cI cZ : ClassId} {A : Nat → Nat} {I I' : Nat → Int32} {F F' : Nat → Nat → Int32} (h1 : ∀ i, zhas (zdI 39) i = true → I' i = I i) (h2 : ∀ i, zhas (zdF 39) i = true → F' i = F i) : (zWd cB cI cZ A I' F')[39]? = (zWd cB cI cZ A I F)[39]? := by
  show some (((A 39), .inl (cI, 60, .inl (F' 26))) : Nat × va_E) = some (((A 39), .inl (cI, 60, .inl (F 26))) : Nat × va_E)
  rw [h2 26 rfl]
theorem zc_40 {cB cI cZ : ClassId} {A : Nat → Nat} {I I' : Nat → Int32} {F F' : Nat → Nat → Int32} (h1 : ∀ i, zhas (zdI 40) i = true → I' i = I i) (h2 : ∀ i, zhas (zdF 40) i = true → F' i = F i) : (zWd cB cI cZ A I' F')[40]? = (zWd cB cI cZ A I F)[40]? := by
  show some (((A 40), .inl (cZ, 60, .inl (F' 27))) : Nat × va_E) = some (((A 40), .inl (cZ, 60, .inl (F 27))) : Nat × va_E)
  rw [h2 27 rfl]
theorem zc_41 {cB cI cZ : ClassId} {A : Nat → Nat} {I I' : Nat → Int32} {F F' : Nat → Nat → Int32} (h1 : ∀ i, zhas (zdI 41) i = true → I' i = I i) (h2 : ∀ i, zhas (zdF 41) i = true → F' i = F i) : (zWd cB cI cZ A I' F')[41]? = (zWd cB cI cZ A I F)[41]? := by
  show some (((A 41), .inl (cI, 60, .inl (F' 28))) : Nat × va_E) = some (((A 41), .inl (cI, 60, .inl (F 28))) : Nat × va_E)
  rw [h2 28 rfl]
theorem zc_42 {cB cI cZ : ClassId} {A : Nat → Nat} {I I' : Nat → Int32} {F F' : Nat → Nat → Int32} (h1 : ∀ i, zhas (zdI 42) i = true → I' i = I i) (h2 : ∀ i, zhas (zdF 42) i = true → F' i = F i) : (zWd cB cI cZ A I' F')[42]? = (zWd cB cI cZ A I F)[42]? := by
  show some (((A 42), .inl (cZ, 60, .inl (F' 29))) : Nat × va_E) = some (((A 42), .inl (cZ, 60, .inl (F 29))) : Nat × va_E)
  rw [h2 29 rfl]
theorem zc_43 {cB cI cZ : ClassId} {A : Nat → Nat} {I I' : Nat → Int32} {F F' : Nat → Nat → Int32} (h1 : ∀ i, zhas (zdI 43) i = true → I' i = I i) (h2 : ∀ i, zhas (zdF 43) i = true → F' i = F i) : (zWd cB cI cZ A I' F')[43]? = (zWd cB cI cZ A I F)[43]? := by
  show some (((A 43), .inr (9, [.ref (A 47), .ref (A 44), .ref (A 45), .ref (A 46), .int (I' 13)])) : Nat × va_E) = some (((A 43), .inr (9, [.ref (A 47), .ref (A 44), .ref (A 45), .ref (A 46), .int (I 13)])) : Nat × va_E)
  rw [h1 13 rfl]
theorem zc_44 {cB cI cZ : ClassId} {A : Nat → Nat} {I I' : Nat → Int32} {F F' : Nat → Nat → Int32} (h1 : ∀ i, zhas (zdI 44) i = true → I' i = I i) (h2 : ∀ i, zhas (zdF 44) i = true → F' i = F i) : (zWd cB cI cZ A I' F')[44]? = (zWd cB cI cZ A I F)[44]? := by
  show some (((A 44), .inl (cI, 12, .inl (F' 30))) : Nat × va_E) = some (((A 44), .inl (cI, 12, .inl (F 30))) : Nat × va_E)
  rw [h2 30 rfl]
theorem zc_45 {cB cI cZ : ClassId} {A : Nat → Nat} {I I' : Nat → Int32} {F F' : Nat → Nat → Int32} (h1 : ∀ i, zhas (zdI 45) i = true → I' i = I i) (h2 : ∀ i, zhas (zdF 45) i = true → F' i = F i) : (zWd cB cI cZ A I' F')[45]? = (zWd cB cI cZ A I F)[45]? := by
  show some (((A 45), .inl (cI, 12, .inl (F' 31))) : Nat × va_E) = some (((A 45), .inl (cI, 12, .inl (F 31))) : Nat × va_E)
  rw [h2 31 rfl]
theorem zc_46 {cB cI cZ : ClassId} {A : Nat → Nat} {I I' : Nat → Int32} {F F' : Nat → Nat → Int32} (h1 : ∀ i, zhas (zdI 46) i = true → I' i = I i) (h2 : ∀ i, zhas (zdF 46) i = true → F' i = F i) : (zWd cB cI cZ A I' F')[46]? = (zWd cB cI cZ A I F)[46]? := by
  show some (((A 46), .inl (cZ, 12, .inl (F' 32))) : Nat × va_E) = some (((A 46), .inl (cZ, 12, .inl (F 32))) : Nat × va_E)
  rw [h2 32 rfl]
theorem zc_47 {cB cI cZ : ClassId} {A : Nat → Nat} {I I' : Nat → Int32} {F F' : Nat → Nat → Int32} (h1 : ∀ i, zhas (zdI 47) i = true → I' i = I i) (h2 : ∀ i, zhas (zdF 47) i = true → F' i = F i) : (zWd cB cI cZ A I' F')[47]? = (zWd cB cI cZ A I F)[47]? := by
  show some (((A 47), .inl (cI, 12, .inl (F' 33))) : Nat × va_E) = some (((A 47), .inl (cI, 12, .inl (F 33))) : Nat × va_E)
  rw [h2 33 rfl]
theorem zc_48 {cB cI cZ : ClassId} {A : Nat → Nat} {I I' : Nat → Int32} {F F' : Nat → Nat → Int32} (h1 : ∀ i, zhas (zdI 48) i = true → I' i = I i) (h2 : ∀ i, zhas (zdF 48) i = true → F' i = F i) : (zWd cB cI cZ A I' F')[48]? = (zWd cB cI cZ A I F)[48]? := by
  show some (((A 48), .inr (7, [.ref (A 49), .int (I' 14)])) : Nat × va_E) = some (((A 48), .inr (7, [.ref (A 49), .int (I 14)])) : Nat × va_E)
  rw [h1 14 rfl]
theorem zc_49 {cB cI cZ : ClassId} {A : Nat → Nat} {I I' : Nat → Int32} {F F' : Nat → Nat → Int32} (h1 : ∀ i, zhas (zdI 49) i = true → I' i = I i) (h2 : ∀ i, zhas (zdF 49) i = true → F' i = F i) : (zWd cB cI cZ A I' F')[49]? = (zWd cB cI cZ A I F)[49]? := by
  show some (((A 49), .inl (cI, 200, .inl (F' 34))) : Nat × va_E) = some (((A 49), .inl (cI, 200, .inl (F 34))) : Nat × va_E)
  rw [h2 34 rfl]
theorem zc_50 {cB cI cZ : ClassId} {A : Nat → Nat} {I I' : Nat → Int32} {F F' : Nat → Nat → Int32} (h1 : ∀ i, zhas (zdI 50) i = true → I' i = I i) (h2 : ∀ i, zhas (zdF 50) i = true → F' i = F i) : (zWd cB cI cZ A I' F')[50]? = (zWd cB cI cZ A I F)[50]? := by
  show some (((A 50), .inr (8, [.ref (A 52), .ref (A 51), .int (I' 15), .int (I' 16), .int (I' 17)])) : Nat × va_E) = some (((A 50), .inr (8, [.ref (A 52), .ref (A 51), .int (I 15), .int (I 16), .int (I 17)])) : Nat × va_E)
  rw [h1 15 rfl, h1 16 rfl, h1 17 rfl]
theorem zc_51 {cB cI cZ : ClassId} {A : Nat → Nat} {I I' : Nat → Int32} {F F' : Nat → Nat → Int32} (h1 : ∀ i, zhas (zdI 51) i = true → I' i = I i) (h2 : ∀ i, zhas (zdF 51) i = true → F' i = F i) : (zWd cB cI cZ A I' F')[51]? = (zWd cB cI cZ A I F)[51]? := by
  show some (((A 51), .inl (cI, 12, .inl (F' 35))) : Nat × va_E) = some (((A 51), .inl (cI, 12, .inl (F 35))) : Nat × va_E)
  rw [h2 35 rfl]
theorem zc_52 {cB cI cZ : ClassId} {A : Nat → Nat} {I I' : Nat → Int32} {F F' : Nat → Nat → Int32} (h1 : ∀ i, zhas (zdI 52) i = true → I' i = I i) (h2 : ∀ i, zhas (zdF 52) i = true → F' i = F i) : (zWd cB cI cZ A I' F')[52]? = (zWd cB cI cZ A I F)[52]? := by
  show some (((A 52), .inl (cI, 12, .inl (F' 36))) : Nat × va_E) = some (((A 52), .inl (cI, 12, .inl (F 36))) : Nat × va_E)
  rw [h2 36 rfl]
theorem zc_53 {cB cI cZ : ClassId} {A : Nat → Nat} {I I' : Nat → Int32} {F F' : Nat → Nat → Int32} (h1 : ∀ i, zhas (zdI 53) i = true → I' i = I i) (h2 : ∀ i, zhas (zdF 53) i = true → F' i = F i) : (zWd cB cI cZ A I' F')[53]? = (zWd cB cI cZ A I F)[53]? := by
  show some (((A 53), .inr (11, [.int (I' 18), .ref (A 55), .ref (A 54), .int (I' 19), .ref (A 58), .int (I' 20), .ref (A 57), .int (I' 21), .int (I' 22), .int (I' 23), .int (I' 24), .int (I' 25), .int (I' 26), .ref (A 56), .ref (A 59), .int (I' 27)])) : Nat × va_E) = some (((A 53), .inr (11, [.int (I 18), .ref (A 55), .ref (A 54), .int (I 19), .ref (A 58), .int (I 20), .ref (A 57), .int (I 21), .int (I 22), .int (I 23), .int (I 24), .int (I 25), .int (I 26), .ref (A 56), .ref (A 59), .int (I 27)])) : Nat × va_E)
  rw [h1 18 rfl, h1 19 rfl, h1 20 rfl, h1 21 rfl, h1 22 rfl, h1 23 rfl, h1 24 rfl, h1 25 rfl, h1 26 rfl, h1 27 rfl]
theorem zc_54 {cB cI cZ : ClassId} {A : Nat → Nat} {I I' : Nat → Int32} {F F' : Nat → Nat → Int32} (h1 : ∀ i, zhas (zdI 54) i = true → I' i = I i) (h2 : ∀ i, zhas (zdF 54) i = true → F' i = F i) : (zWd cB cI cZ A I' F')[54]? = (zWd cB cI cZ A I F)[54]? := by
  show some (((A 54), .inl (cI, 1562, .inl (F' 37))) : Nat × va_E) = some (((A 54), .inl (cI, 1562, .inl (F 37))) : Nat × va_E)
  rw [h2 37 rfl]
theorem zc_55 {cB cI cZ : ClassId} {A : Nat → Nat} {I I' : Nat → Int32} {F F' : Nat → Nat → Int32} (h1 : ∀ i, zhas (zdI 55) i = true → I' i = I i) (h2 : ∀ i, zhas (zdF 55) i = true → F' i = F i) : (zWd cB cI cZ A I' F')[55]? = (zWd cB cI cZ A I F)[55]? := by
  show some (((A 55), .inl (cI, 1562, .inl (F' 38))) : Nat × va_E) = some (((A 55), .inl (cI, 1562, .inl (F 38))) : Nat × va_E)
  rw [h2 38 rfl]
theorem zc_56 {cB cI cZ : ClassId} {A : Nat → Nat} {I I' : Nat → Int32} {F F' : Nat → Nat → Int32} (h1 : ∀ i, zhas (zdI 56) i = true → I' i = I i) (h2 : ∀ i, zhas (zdF 56) i = true → F' i = F i) : (zWd cB cI cZ A I' F')[56]? = (zWd cB cI cZ A I F)[56]? := by
  show some (((A 56), .inl (cI, 60, .inl (F' 39))) : Nat × va_E) = some (((A 56), .inl (cI, 60, .inl (F 39))) : Nat × va_E)
  rw [h2 39 rfl]
theorem zc_57 {cB cI cZ : ClassId} {A : Nat → Nat} {I I' : Nat → Int32} {F F' : Nat → Nat → Int32} (h1 : ∀ i, zhas (zdI 57) i = true → I' i = I i) (h2 : ∀ i, zhas (zdF 57) i = true → F' i = F i) : (zWd cB cI cZ A I' F')[57]? = (zWd cB cI cZ A I F)[57]? := by
  show some (((A 57), .inl (cI, 5000, .inl (F' 40))) : Nat × va_E) = some (((A 57), .inl (cI, 5000, .inl (F 40))) : Nat × va_E)
  rw [h2 40 rfl]
theorem zc_58 {cB cI cZ : ClassId} {A : Nat → Nat} {I I' : Nat → Int32} {F F' : Nat → Nat → Int32} (h1 : ∀ i, zhas (zdI 58) i = true → I' i = I i) (h2 : ∀ i, zhas (zdF 58) i = true → F' i = F i) : (zWd cB cI cZ A I' F')[58]? = (zWd cB cI cZ A I F)[58]? := by
  show some (((A 58), .inl (cB, 200, .inl (F' 41))) : Nat × va_E) = some (((A 58), .inl (cB, 200, .inl (F 41))) : Nat × va_E)
  rw [h2 41 rfl]
theorem zc_59 {cB cI cZ : ClassId} {A : Nat → Nat} {I I' : Nat → Int32} {F F' : Nat → Nat → Int32} (h1 : ∀ i, zhas (zdI 59) i = true → I' i = I i) (h2 : ∀ i, zhas (zdF 59) i = true → F' i = F i) : (zWd cB cI cZ A I' F')[59]? = (zWd cB cI cZ A I F)[59]? := by
  show some (((A 59), .inl (cI, 60, .inl (F' 42))) : Nat × va_E) = some (((A 59), .inl (cI, 60, .inl (F 42))) : Nat × va_E)
  rw [h2 42 rfl]
theorem zWd_cong {cB cI cZ : ClassId} {A : Nat → Nat} {I I' : Nat → Int32} {F F' : Nat → Nat → Int32} : ∀ k, k < 60 → (∀ i, zhas (zdI k) i = true → I' i = I i) → (∀ i, zhas (zdF k) i = true → F' i = F i) → (zWd cB cI cZ A I' F')[k]? = (zWd cB cI cZ A I F)[k]?
  | 0, _, h1, h2 => zc_0 h1 h2
  | 1, _, h1, h2 => zc_1 h1 h2
  | 2, _, h1, h2 => zc_2 h1 h2
  | 3, _, h1, h2 => zc_3 h1 h2
  | 4, _, h1, h2 => zc_4 h1 h2
  | 5, _, h1, h2 => zc_5 h1 h2
  | 6, _, h1, h2 => zc_6 h1 h2
  | 7, _, h1, h2 => zc_7 h1 h2
  | 8, _, h1, h2 => zc_8 h1 h2
  | 9, _, h1, h2 => zc_9 h1 h2
  | 10, _, h1, h2 => zc_10 h1 h2
  | 11, _, h1, h2 => zc_11 h1 h2
  | 12, _, h1, h2 => zc_12 h1 h2
  | 13, _, h1, h2 => zc_13 h1 h2
  | 14, _, h1, h2 => zc_14 h1 h2
  | 15, _, h1, h2 => zc_15 h1 h2
  | 16, _, h1, h2 => zc_16 h1 h2
  | 17, _, h1, h2 => zc_17 h1 h2
  | 18, _, h1, h2 => zc_18 h1 h2
  | 19, _, h1, h2 => zc_19 h1 h2
  | 20, _, h1, h2 => zc_20 h1 h2
  | 21, _, h1, h2 => zc_21 h1 h2
  | 22, _, h1, h2 => zc_22 h1 h2
  | 23, _, h1, h2 => zc_23 h1 h2
  | 24, _, h1, h2 => zc_24 h1 h2
  | 25, _, h1, h2 => zc_25 h1 h2
  | 26, _, h1, h2 => zc_26 h1 h2
  | 27, _, h1, h2 => zc_27 h1 h2
  | 28, _, h1, h2 => zc_28 h1 h2
  | 29, _, h1, h2 => zc_29 h1 h2
  | 30, _, h1, h2 => zc_30 h1 h2
  | 31, _, h1, h2 => zc_31 h1 h2
  | 32, _, h1, h2 => zc_32 h1 h2
  | 33, _, h1, h2 => zc_33 h1 h2
  | 34, _, h1, h2 => zc_34 h1 h2
  | 35, _, h1, h2 => zc_35 h1 h2
  | 36, _, h1, h2 => zc_36 h1 h2
  | 37, _, h1, h2 => zc_37 h1 h2
  | 38, _, h1, h2 => zc_38 h1 h2
  | 39, _, h1, h2 => zc_39 h1 h2
  | 40, _, h1, h2 => zc_40 h1 h2
  | 41, _, h1, h2 => zc_41 h1 h2
  | 42, _, h1, h2 => zc_42 h1 h2
  | 43, _, h1, h2 => zc_43 h1 h2
  | 44, _, h1, h2 => zc_44 h1 h2
  | 45, _, h1, h2 => zc_45 h1 h2
  | 46, _, h1, h2 => zc_46 h1 h2
  | 47, _, h1, h2 => zc_47 h1 h2
  | 48, _, h1, h2 => zc_48 h1 h2
  | 49, _, h1, h2 => zc_49 h1 h2
  | 50, _, h1, h2 => zc_50 h1 h2
  | 51, _, h1, h2 => zc_51 h1 h2
  | 52, _, h1, h2 => zc_52 h1 h2
  | 53, _, h1, h2 => zc_53 h1 h2
  | 54, _, h1, h2 => zc_54 h1 h2
  | 55, _, h1, h2 => zc_55 h1 h2
  | 56, _, h1, h2 => zc_56 h1 h2
  | 57, _, h1, h2 => zc_57 h1 h2
  | 58, _, h1, h2 => zc_58 h1 h2
  | 59, _, h1, h2 => zc_59 h1 h2
  | k + 60, h, _, _ => absurd h (by omega)
theorem zWd_same {cB cI cZ : ClassId} {A : Nat → Nat} {I : Nat → Int32} {F : Nat → Nat → Int32} (uI : List (Nat × Int32)) (uF : List (Nat × (Nat → Int32))) (kI kF isR : List Nat) (eI : uI.map Prod.fst = kI) (eF : uF.map Prod.fst = kF) (h : isR.all (fun k => Nat.blt k 60 && ((zdI k).all (fun i => !(zhas kI i)) && (zdF k).all (fun i => !(zhas kF i)))) = true) : ∀ k ∈ isR, (zWd cB cI cZ A (zups uI I) (zups uF F))[k]? = (zWd cB cI cZ A I F)[k]? := by
  intro k hk
  have h1 := List.all_eq_true.mp h k hk
  simp only [Bool.and_eq_true] at h1
  have key : ∀ (l ks : List Nat) (i : Nat), l.all (fun i => !(zhas ks i)) = true → zhas l i = true → zhas ks i = false := by
    intro l ks i
    induction l with
    | nil => intro _ h; cases h
    | cons a t ih =>
      intro h2 h3
      simp only [List.all_cons, Bool.and_eq_true] at h2
      simp only [zhas, Bool.or_eq_true] at h3
      rcases h3 with h3 | h3
      · have := Nat.eq_of_beq_eq_true h3
        rw [← this]
        simpa using h2.1
      · exact ih h2.2 h3
  exact zWd_cong k (Nat.blt_eq.mp h1.1) (fun i hi => zups_n uI kI eI (key _ _ i h1.2.1 hi)) (fun i hi => zups_n uF kF eF (key _ _ i h1.2.2 hi))
/-! THE CLAIM OUT OF ONE WALK OF THE LAW'S BODY. Your part is whole_start (and what it stands on); all else here is the same for every law, but numbers. -/
def R_law : String := "RunDeskLaw"
def lw_P (b : Addr) (xs : List Int32) (args : Array Value) (s : State) : Prop := args = #[.ref b] ∧ s.IntsAt b xs ∧ xs.length ≤ 3584 ∧ (Jvm.Cond.and given_1 narrow_1).before args s = true
def lw_Q (_ : Array Value) (s : State) (o : Outcome) (t : State) : Prop := o = .returned (some (.int 1)) ∧ Framed s o t [] 601024 7293034
def lw_Z (below : List Frame) (a : Array Value) (s : State) : State → Prop := fun t => ∃ o, t.status = .running ∧ Ended t below o ∧ lw_Q a s o t
/-- the law's own end, with 1 on the stack, nothing written that was there before, its room as the claim has it -/
theorem lw_ret {p : Program} {l : Launch} {e : Env} {s : State} {m : MethodId} {below : List Frame} {meth : Method} {c : Code} {b : Nat} (hx : p.tables.exec = Jvm.exec) (hb : c.code = code) (hr : meth.sig.returnType = ret) (hlocks : meth.locks = false) {pc : Nat} {H : Heap} {ls : Array Slot} (hdg : decode code pc = .ok (.ireturn, 1)) : W p l e room_1 s m #[Value.ref b] below meth c H [] 601024 7293034 (lw_Z below #[Value.ref b] s) (F0 m pc ls [.int 1]) := by
  intro T hT X
  obtain ⟨fs, hret, hrun, hended, hW, hframe⟩ := X.leave (v := some (.int 1)) (hlocks := hlocks) (fun h => by rw [hr] at h; cases h)
  have hmeth' : T.vm.method? m = some meth := X.method'
  refine ⟨T.setFrames fs, ?_, .returned (some (.int 1)), hrun, hended, rfl, ⟨_, rfl⟩, hW, hframe⟩
  jvm_step X.here [X.here.top, hx, hb, hdg, hmeth', hr, ret, narrow_b1]
  (try refine ⟨rfl, ?_⟩); (try refine ⟨rfl, ?_⟩)
  first | (intro acts; rw [hret _ acts rfl rfl rfl]) | rw [hret _ _ rfl rfl rfl]
  exact Steps.refl _
/-- what holds at the law's entry: the machine, the code, the tables' words (any of lw_tbl by 'hts w (by decide +kernel)'), the script of L ints xs at the cell b, what the Statement gives of the start (any of its parts by flat_of_before) -/
def lw_At (p : Program) (s : State) (m : MethodId) (meth : Method) (c : Code) (b L : Nat) (xs : Nat → Int32) : Prop :=
  p.tables.exec = Jvm.exec ∧ c.code = code ∧ meth.sig.returnType = ret ∧ c.maxLocals = 5 ∧ s.vm.findClass R_law = some m.cls ∧ (∀ w ∈ lw_tbl, w.before #[Value.ref b] s = true) ∧ va_X b L xs s s.heap ∧ b < s.heap.size ∧ meth.locks = false ∧ (Jvm.Cond.and given_1 narrow_1).before #[Value.ref b] s = true
/-! what the law's walk wants beside: numbers, words, the reference's static rows -/
theorem zfit {cells slots mc ms : Nat} (hc : cells + mc ≤ 601024) (hs : slots + ms ≤ 7293034) : cells + mc ≤ room_1.cells ∧ slots + ms ≤ room_1.slots := ⟨hc, hs⟩
theorem zle_head {L k : Nat} (hL : L ≤ 3584) (hk : k ≤ 4000) (h : ¬ (Int32.ofNat L - 7 < nI k)) : k + 7 ≤ L := by
  rcases Nat.lt_or_ge L (k + 7) with q | q
  · refine absurd ?_ h
    show nI L - nI 7 < nI k
    rw [Int32.lt_iff_toInt_lt, pk_sub_toInt (by omega) (by omega), nI_toInt (by omega)]
    omega
  · exact q
set_option maxRecDepth 20000 in
theorem zNestL_in : ∀ w ∈ zNestL, w ∈ lw_tbl := by decide +kernel
theorem zNest_of {args : Array Value} {s : State} (hts : ∀ w ∈ lw_tbl, w.before args s = true) : zNest s := by
  intro w hw
  have h1 := hts w (zNestL_in w hw)
  rcases zNestL_ok w hw with ⟨_, _, _, _, _, _, rfl⟩ | ⟨_, _, _, _, rfl⟩
  · exact va_Nw.of rfl h1
  · exact va_Nw.of rfl h1
theorem zw_lL : (.laysStatic RX11 "LEAST" "[I" : Cond) ∈ lw_tbl := by decide +kernel
theorem zw_lG : (.laysStatic RX11 "GREATEST" "[I" : Cond) ∈ lw_tbl := by decide +kernel
theorem zw_i : (.initialized RX11 : Cond) ∈ lw_tbl := by decide +kernel
theorem zStat_of {args : Array Value} {s : State} (hts : ∀ w ∈ lw_tbl, w.before args s = true) (hgv : (Jvm.Cond.and given_1 narrow_1).before args s = true) : zStat (fun q : Nat => s.heap.size ≤ q) s s.heap := by
  have hs := flat_of_before _ hgv
  have hA : ∀ a : Nat, a < s.heap.size → ¬ (fun q : Nat => s.heap.size ≤ q) a := fun a h => Nat.not_le.mpr h
  obtain ⟨tL, eL, hL⟩ := va_Tof (tm := .static "RunDeskModel" "LEAST" "[I") (ty := .int) (N := 4) (f := fun j => .int (zfL j)) (A := fun q : Nat => s.heap.size ≤ q) (by decide) (hs (.arrayOf (.static "RunDeskModel" "LEAST" "[I") .int) (by decide +kernel)) (va_eqt (hs (.eq (.length (.static "RunDeskModel" "LEAST" "[I")) (.int 4)) (by decide +kernel))) (fun j hj => by
    rcases (show j = 0 ∨ j = 1 ∨ j = 2 ∨ j = 3 by omega) with rfl | rfl | rfl | rfl
    · exact va_eqt (hs (.eq (.elem (.static "RunDeskModel" "LEAST" "[I") (.int 0)) (.int 150)) (by decide +kernel))
    · exact va_eqt (hs (.eq (.elem (.static "RunDeskModel" "LEAST" "[I") (.int 1)) (.int 150)) (by decide +kernel))
    · exact va_eqt (hs (.eq (.elem (.static "RunDeskModel" "LEAST" "[I") (.int 2)) (.int 80)) (by decide +kernel))
    · exact va_eqt (hs (.eq (.elem (.static "RunDeskModel" "LEAST" "[I") (.int 3)) (.int 300)) (by decide +kernel))) hA
  obtain ⟨tG, eG, hG⟩ := va_Tof (tm := .static "RunDeskModel" "GREATEST" "[I") (ty := .int) (N := 4) (f := fun j => .int (zfG j)) (A := fun q : Nat => s.heap.size ≤ q) (by decide) (hs (.arrayOf (.static "RunDeskModel" "GREATEST" "[I") .int) (by decide +kernel)) (va_eqt (hs (.eq (.length (.static "RunDeskModel" "GREATEST" "[I")) (.int 4)) (by decide +kernel))) (fun j hj => by
    rcases (show j = 0 ∨ j = 1 ∨ j = 2 ∨ j = 3 by omega) with rfl | rfl | rfl | rfl
    · exact va_eqt (hs (.eq (.elem (.static "RunDeskModel" "GREATEST" "[I") (.int 0)) (.int 900)) (by decide +kernel))
    · exact va_eqt (hs (.eq (.elem (.static "RunDeskModel" "GREATEST" "[I") (.int 1)) (.int 900)) (by decide +kernel))
    · exact va_eqt (hs (.eq (.elem (.static "RunDeskModel" "GREATEST" "[I") (.int 2)) (.int 900)) (by decide +kernel))
    · exact va_eqt (hs (.eq (.elem (.static "RunDeskModel" "GREATEST" "[I") (.int 3)) (.int 1500)) (by decide +kernel))) hA
  exact ⟨tL, tG, va_Zof (hts _ zw_lL) (hts _ zw_i) eL hA, hL, va_Zof (hts _ zw_lG) (hts _ zw_i) eG hA, hG⟩
theorem zno_traces {l : Launch} (h : l.flags = flags0) : l.stackTraces = false := by
  unfold Launch.stackTraces
  rw [h]
  decide +kernel
theorem zThrow_of {args : Array Value} {s : State} (hts : ∀ w ∈ lw_tbl, w.before args s = true) (hgv : (Jvm.Cond.and given_1 narrow_1).before args s = true) : zThrow (fun q : Nat => s.heap.size ≤ q) s s.heap := by
  have hs := flat_of_before _ hgv
  have hA : ∀ a : Nat, a < s.heap.size → ¬ (fun q : Nat => s.heap.size ≤ q) a := fun a h => Nat.not_le.mpr h
  obtain ⟨a, _, _, _, q1, _⟩ := Cond.exactly_spec (args := args) (first := s) (o := none) (s := s) (idx := []) (t := .string "RunDesk" 227) (cls := "java/lang/String") (hs (.exactly (.string "RunDesk" 227) "java/lang/String") (by decide +kernel))
  exact ⟨vx_Zqof (hts (.laysStatic Bundle.tN "UNASSIGNED_STACK" Bundle.steD) (by decide +kernel)) (hts (.initialized Bundle.tN) (by decide +kernel)) (hs (.isRef (.static Bundle.tN "UNASSIGNED_STACK" Bundle.steD)) (by decide +kernel)) hA,
    vx_Zqof (hts (.laysStatic Bundle.tN "SUPPRESSED_SENTINEL" Bundle.listD) (by decide +kernel)) (hts (.initialized Bundle.tN) (by decide +kernel)) (hs (.isRef (.static Bundle.tN "SUPPRESSED_SENTINEL" Bundle.listD)) (by decide +kernel)) hA,
    ⟨a, vk_R.of (hts (.stringRef RX10 227 "nothing is kept") (by decide +kernel)) q1⟩, va_Nw.of rfl (hts (.castable "java/util/NoSuchElementException" "java/util/NoSuchElementException") (by decide +kernel)), va_Nw.of rfl (hts (.declares (Bundle.initS "java/lang/RuntimeException")) (by decide +kernel)), va_Nw.of rfl (hts (.declares (Bundle.initS "java/lang/Exception")) (by decide +kernel)), va_Nw.of rfl (hts (.declares (Bundle.initS Bundle.tN)) (by decide +kernel))⟩
