/-! the coupling of the class's state with the reference's -/
def zTick (x : Int32) : Prop := x = -1 ∨ ∃ k : Nat, k ≤ 40000 ∧ x = nI k
def zBit (x : Int32) : Prop := x = 0 ∨ x = 1
def zHead (M R S : Nat) (entered strikings mats : Int32) (now : Nat → Int32) : Prop := (1 ≤ M ∧ M ≤ 12 ∧ R ≤ 60 ∧ S ≤ R) ∧ mats = nI M ∧ entered = nI R ∧ strikings = nI S ∧ now 0 = nI M ∧ now 1 = nI R ∧ now 2 = nI S
def zMats (M : Nat) (places bearings deaths cuts now : Nat → Int32) : Prop :=
  (∀ m, m < M → now (8 + 4 * m) = places m ∧ now (9 + 4 * m) = bearings m ∧ now (10 + 4 * m) = deaths m ∧ now (11 + 4 * m) = cuts m ∧ (∃ k : Nat, k ≤ 100000 ∧ places m = nI k) ∧ (∃ k : Nat, 1 ≤ k ∧ k ≤ 1000 ∧ bearings m = nI k) ∧ zBit (deaths m) ∧ zTick (cuts m)) ∧
  (∀ a b, a < b → b < M → places a < places b) ∧ places 0 = 0
def zTicks (ticks now : Nat → Int32) : Prop := ∀ p, p < 6 → now (56 + p) = ticks p ∧ zTick (ticks p)
def zRun (M r : Nat) (facts dropped waved struck torn splits now : Nat → Int32) : Prop :=
  (∀ k, k < 6 → now (122 + 24 * r + k) = facts (6 * r + k)) ∧
  (∃ k : Nat, k ≤ 3 ∧ facts (6 * r) = nI k) ∧ (∃ k : Nat, 60 ≤ k ∧ k ≤ 2000 ∧ facts (6 * r + 1) = nI k) ∧ (∃ k : Nat, k ≤ 99 ∧ facts (6 * r + 2) = nI k) ∧ (∃ k : Nat, k ≤ 1 ∧ facts (6 * r + 3) = nI k) ∧ (∃ k : Nat, k ≤ 9 ∧ facts (6 * r + 4) = nI k) ∧ (∃ k : Nat, k ≤ 5 ∧ facts (6 * r + 5) = nI k) ∧
  (now (122 + 24 * r + 6) = dropped r ∧ zBit (dropped r)) ∧ (now (122 + 24 * r + 7) = waved r ∧ zBit (waved r)) ∧ (now (122 + 24 * r + 8) = struck r ∧ zBit (struck r)) ∧
  (now (122 + 24 * r + 9) = torn r ∧ (torn r = -1 ∨ ∃ k : Nat, k < 12 ∧ torn r = nI k)) ∧
  (∀ m, m < 12 → now (122 + 24 * r + 12 + m) = splits (12 * r + m) ∧ zTick (splits (12 * r + m)) ∧ (M ≤ m → splits (12 * r + m) = -1))
def zRuns (M R : Nat) (facts dropped waved struck torn splits now : Nat → Int32) : Prop := ∀ r, r < R → zRun M r facts dropped waved struck torn splits now
def zCnt (f : Nat → Int32) : Nat → Nat
  | 0 => 0
  | n + 1 => zCnt f n + (if f n = 1 then 1 else 0)
def zStr (R S : Nat) (order struck now : Nat → Int32) : Prop :=
  (∀ i, i < S → now (62 + i) = order i ∧ ∃ ρ : Nat, ρ < R ∧ order i = nI ρ ∧ struck ρ = 1) ∧ (∀ i j, i < j → j < S → order i ≠ order j) ∧ (∀ r, r < R → struck r = 1 → ∃ i, i < S ∧ order i = nI r) ∧ zCnt struck R = S
/-- one race: the class's rows and the reference's numbers; M mats, R runners, S strikings that stand -/
def zRaceN (M R S : Nat) (ticks : Nat → Int32) (entered strikings : Int32) (dropped facts splits order struck torn waved : Nat → Int32) (mats : Int32) (bearings cuts deaths places : Nat → Int32) (now : Nat → Int32) : Prop :=
  zHead M R S entered strikings mats now ∧ zMats M places bearings deaths cuts now ∧ zTicks ticks now ∧ zRuns M R facts dropped waved struck torn splits now ∧ zStr R S order struck now
def zRace (ticks : Nat → Int32) (entered strikings : Int32) (dropped facts splits order struck torn waved : Nat → Int32) (mats : Int32) (bearings cuts deaths places : Nat → Int32) (now : Nat → Int32) : Prop :=
  ∃ M R S : Nat, zRaceN M R S ticks entered strikings dropped facts splits order struck torn waved mats bearings cuts deaths places now
def zText (length : Int32) (bytes : Nat → Int32) (mlength : Int32) (text : Nat → Int32) : Prop :=
  ∃ n : Nat, n ≤ 200 ∧ length = nI n ∧ mlength = nI n ∧ ∀ k, k < n → ∃ v : Nat, 1 ≤ v ∧ v ≤ 255 ∧ bytes k = nI v ∧ text k = (nI v).toInt8.toInt32
def zInv (ticks : Nat → Int32) (entered strikings : Int32) (dropped facts splits order struck torn waved : Nat → Int32) (mats : Int32) (bearings cuts deaths places : Nat → Int32) (now : Nat → Int32)
    (kticks : Nat → Int32) (kentered kstrikings : Int32) (kdropped kfacts ksplits korder kstruck ktorn kwaved : Nat → Int32) (kmats : Int32) (kbearings kcuts kdeaths kplaces : Nat → Int32) (mkept : Nat → Int32)
    (isKept mKept : Int32) (length : Int32) (bytes : Nat → Int32) (mlength : Int32) (text : Nat → Int32) (passers passing : Nat → Int32) : Prop :=
  zRace ticks entered strikings dropped facts splits order struck torn waved mats bearings cuts deaths places now ∧
  (mKept = isKept ∧ zBit isKept ∧ (isKept = 1 → zRace kticks kentered kstrikings kdropped kfacts ksplits korder kstruck ktorn kwaved kmats kbearings kcuts kdeaths kplaces mkept)) ∧
  zText length bytes mlength text ∧ (∀ k, k < 4001 → passers k = 0) ∧ (∀ k, k < 5000 → passing k = 0)
theorem zi_k {x : Int32} {a : Nat} (e : x = nI a) (h : a < 2147483648) : x.toInt = (a : Int) := by rw [e]; exact zq_k a h
theorem zrace_ok {ticks : Nat → Int32} {entered strikings : Int32} {dropped facts splits order struck torn waved : Nat → Int32} {mats : Int32} {bearings cuts deaths places : Nat → Int32} {now : Nat → Int32} (h : zRace ticks entered strikings dropped facts splits order struck torn waved mats bearings cuts deaths places now) :
    (0 ≤ entered.toInt ∧ entered.toInt ≤ 60) ∧ (0 ≤ mats.toInt ∧ mats.toInt ≤ 12) ∧ zNowOk now := by
  obtain ⟨M, R, S, ⟨hM, em, ee, es, n0, n1, n2⟩, hm, ht, hr, _⟩ := h
  have i0 := zi_k n0 (by omega)
  have i1 := zi_k n1 (by omega)
  have i2 := zi_k em (by omega)
  have i3 := zi_k ee (by omega)
  refine ⟨⟨by omega, by omega⟩, ⟨by omega, by omega⟩, ⟨by omega, by omega, by omega, by omega⟩, fun r hlt => ?_, fun m hlt => ?_, fun p hp => ?_⟩
  · have q := hr r (by omega)
    obtain ⟨a, ha, ea⟩ := q.2.1
    obtain ⟨b, hb, hb2, eb⟩ := q.2.2.1
    obtain ⟨c, hc, ec⟩ := q.2.2.2.2.2.2.1
    have k0 := zi_k ((q.1 0 (by decide)).trans ea) (by omega)
    have k1 := zi_k ((q.1 1 (by decide)).trans eb) (by omega)
    have k5 := zi_k ((q.1 5 (by decide)).trans ec) (by omega)
    exact ⟨⟨by omega, by omega⟩, ⟨by omega, by omega⟩, ⟨by omega, by omega⟩⟩
  · have q := hm.1 m (by omega)
    obtain ⟨a, ha, ea⟩ := q.2.2.2.2.1
    have k0 := zi_k (q.1.trans ea) (by omega)
    exact ⟨by show 0 ≤ (now (8 + 4 * m)).toInt; omega, by show (now (8 + 4 * m)).toInt ≤ 100000; omega⟩
  · obtain ⟨e, q⟩ := ht p hp
    rcases q with q | ⟨a, ha, ea⟩
    · rw [e, q]; exact ⟨by decide, by decide⟩
    · have k0 := zi_k (e.trans ea) (by omega)
      exact ⟨by omega, by omega⟩
theorem zinv_ok {ticks : Nat → Int32} {entered strikings : Int32} {dropped facts splits order struck torn waved : Nat → Int32} {mats : Int32} {bearings cuts deaths places : Nat → Int32} {now : Nat → Int32}
    {kticks : Nat → Int32} {kentered kstrikings : Int32} {kdropped kfacts ksplits korder kstruck ktorn kwaved : Nat → Int32} {kmats : Int32} {kbearings kcuts kdeaths kplaces : Nat → Int32} {mkept : Nat → Int32}
    {isKept mKept : Int32} {length : Int32} {bytes : Nat → Int32} {mlength : Int32} {text : Nat → Int32} {passers passing : Nat → Int32}
    (h : zInv ticks entered strikings dropped facts splits order struck torn waved mats bearings cuts deaths places now kticks kentered kstrikings kdropped kfacts ksplits korder kstruck ktorn kwaved kmats kbearings kcuts kdeaths kplaces mkept isKept mKept length bytes mlength text passers passing) :
    (0 ≤ entered.toInt ∧ entered.toInt ≤ 60) ∧ (0 ≤ mats.toInt ∧ mats.toInt ≤ 12) ∧ (0 ≤ length.toInt ∧ length.toInt ≤ 200) ∧ (0 ≤ mlength.toInt ∧ mlength.toInt ≤ 200) ∧ zNowOk now := by
  obtain ⟨q1, q2, q3⟩ := zrace_ok h.1
  obtain ⟨n, hn, e1, e2, _⟩ := h.2.2.1
  have i1 := zi_k e1 (by omega)
  have i2 := zi_k e2 (by omega)
  exact ⟨q1, q2, ⟨by omega, by omega⟩, ⟨by omega, by omega⟩, q3⟩
