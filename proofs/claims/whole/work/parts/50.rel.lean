/-! the relation between the class's cells and the reference's -/
/-- item i of a standing (cells q .., rows r ..) is that of a block (f, g) of the reference -/
def IR (S : Mem) (q r : Nat) (f : Nat → Int32) (g : Nat → Int64) (i : Nat) : Prop :=
  f (8 + 6 * i + 0) = S.1 (r + 1) i ∧ f (8 + 6 * i + 1) = S.1 (r + 2) i ∧ f (8 + 6 * i + 2) = S.1 (r + 3) i ∧ f (8 + 6 * i + 3) = S.1 (r + 4) i ∧ f (8 + 6 * i + 4) = S.1 (q + 2) i ∧ f (8 + 6 * i + 5) = S.1 (q + 3) i ∧ g (9 + i) = (S.1 (q + 1) i).toInt64 ∧ g (109 + i) = S.2 (q + 4) i ∧ (S.1 (q + 2) i = nI 3 → g (209 + i) = S.2 (q + 5) i)
/-- an item is well made -/
def WI (S : Mem) (cn q r N i : Nat) : Prop :=
  okI (S.1 (r + 1) i) cn ∧ okI (S.1 (r + 2) i) cn ∧ ¬ S.1 (r + 1) i = S.1 (r + 2) i ∧ (S.1 (r + 3) i = nI 0 ∨ S.1 (r + 3) i = nI 1) ∧
  (((S.1 (q + 2) i = nI 0 ∨ S.1 (q + 2) i = nI 4) ∧ S.1 (q + 3) i = -1) ∨
   ((S.1 (q + 2) i = nI 1 ∨ S.1 (q + 2) i = nI 2 ∨ S.1 (q + 2) i = nI 3) ∧ ∃ b, b < N ∧ S.1 (q + 3) i = nI b ∧ S.1 (q + 3) b = nI i ∧ S.1 (q + 2) b = S.1 (q + 2) i ∧ ¬ S.1 (r + 3) b = S.1 (r + 3) i))
def DR (S : Mem) (r : Nat) (f : Nat → Int32) (d : Nat) : Prop :=
  f (1008 + 5 * d + 0) = S.1 (r + 5) d ∧ f (1008 + 5 * d + 1) = S.1 (r + 6) d ∧ f (1008 + 5 * d + 2) = S.1 (r + 7) d ∧ f (1008 + 5 * d + 3) = S.1 (r + 8) d ∧ f (1008 + 5 * d + 4) = S.1 (r + 9) d
def WD (S : Mem) (pn q r d : Nat) : Prop :=
  okI (S.1 (r + 5) d) pn ∧ 0 ≤ S.1 (q + 6) d ∧ ¬ S.1 26 (gN (S.1 (r + 5) d)) = S.1 (r + 7) d
def lotP (S : Mem) (q d : Nat) : Bool := !decide (S.1 (q + 6) d ≤ 0)
/-- the lots of the block are the deliveries that still have pieces, in their order -/
def LR (S : Mem) (q r : Nat) (f : Nat → Int32) (M : Nat) : Prop :=
  f 1 = nI (cnt (lotP S q) M) ∧ ∀ d, d < M → lotP S q d = true → f (608 + 4 * cnt (lotP S q) d + 0) = S.1 (r + 7) d ∧ f (608 + 4 * cnt (lotP S q) d + 1) = S.1 (r + 5) d ∧ f (608 + 4 * cnt (lotP S q) d + 2) = S.1 (q + 6) d ∧ f (608 + 4 * cnt (lotP S q) d + 3) = S.1 (r + 9) d
def St (S : Mem) (un cn pn q r : Nat) (f : Nat → Int32) (g : Nat → Int64) (N M : Nat) : Prop :=
  (N ≤ 100 ∧ M ≤ 100 ∧ S.1 q 0 = nI N ∧ S.1 q 1 = nI M ∧ f 0 = nI N ∧ f 2 = nI M) ∧ (f 3 = S.1 q 2 ∧ g 0 = S.2 q 3 ∧ g 1 = S.2 q 4 ∧ g 2 = S.2 q 5) ∧ (∀ c, c < un ∧ c < 4 → f (4 + c) = S.1 (q + 7) c) ∧ (∀ c, c < 6 → g (3 + c) = S.2 (q + 8) c) ∧
  (∀ u, u < un → nI 1 ≤ S.1 (q + 7) u) ∧ (∀ i, i < N → IR S q r f g i ∧ WI S cn q r N i) ∧ (∀ d, d < M → DR S r f d ∧ WD S pn q r d) ∧ LR S q r f M
theorem cnt_congr {p p' : Nat → Bool} : ∀ {n : Nat}, (∀ j, j < n → p j = p' j) → cnt p n = cnt p' n
  | 0, _ => rfl
  | n + 1, h => by
    rw [cnt, cnt, cnt_congr (fun j hj => h j (by omega)), h n (by omega)]
theorem sumL_congr {f f' : Nat → Int64} : ∀ {n : Nat}, (∀ j, j < n → f j = f' j) → sumL f n = sumL f' n
  | 0, _ => rfl
  | n + 1, h => by
    rw [sumL, sumL, sumL_congr (fun j hj => h j (by omega)), h n (by omega)]
theorem sumI_congr {f f' : Nat → Int32} : ∀ {n : Nat}, (∀ j, j < n → f j = f' j) → sumI f n = sumI f' n
  | 0, _ => rfl
  | n + 1, h => by
    rw [sumI, sumI, sumI_congr (fun j hj => h j (by omega)), h n (by omega)]
theorem cnt_mono (p : Nat → Bool) {a b : Nat} (h : a ≤ b) : cnt p a ≤ cnt p b := by
  induction b with
  | zero => rw [show a = 0 by omega]; exact Nat.le_refl _
  | succ b ih =>
    by_cases e : a = b + 1
    · rw [e]; exact Nat.le_refl _
    · have := ih (by omega)
      rw [cnt]
      omega
theorem cnt_lt {p : Nat → Bool} {d M : Nat} (hd : d < M) (h : p d = true) : cnt p d < cnt p M := by
  have h1 := cnt_mono p (a := d + 1) (b := M) (by omega)
  rw [cnt, h] at h1
  simp only [if_true] at h1
  omega
/-- a standing moved to other cells, or left where it is beside other changes -/
theorem St_mv {S T : Mem} {un cn pn q q' r r' N M : Nat} {f f' : Nat → Int32} {g g' : Nat → Int64} (h : St S un cn pn q r f g N M) (e26 : T.1 26 = S.1 26)
    (h0 : ∀ j, j < 3 → T.1 q' j = S.1 q j) (hL : ∀ j, 3 ≤ j → j < 6 → T.2 q' j = S.2 q j)
    (hI : ∀ i, i < N → (∀ c, 1 ≤ c → c ≤ 3 → T.1 (q' + c) i = S.1 (q + c) i) ∧ T.2 (q' + 4) i = S.2 (q + 4) i ∧ T.2 (q' + 5) i = S.2 (q + 5) i ∧ (∀ c, 1 ≤ c → c ≤ 4 → T.1 (r' + c) i = S.1 (r + c) i))
    (hD : ∀ d, d < M → T.1 (q' + 6) d = S.1 (q + 6) d ∧ (∀ c, 5 ≤ c → c ≤ 9 → T.1 (r' + c) d = S.1 (r + c) d))
    (h7 : ∀ c, c < 4 → T.1 (q' + 7) c = S.1 (q + 7) c) (h8 : ∀ c, c < 6 → T.2 (q' + 8) c = S.2 (q + 8) c) (hun : un ≤ 4)
    (ef : ∀ j, j < 1508 → f' j = f j) (eg : ∀ j, j < 309 → g' j = g j) : St T un cn pn q' r' f' g' N M := by
  obtain ⟨⟨a1, a2, a3, a4, a5, a6⟩, ⟨b1, b2, b3, b4⟩, b5, b6, b7, c1, c2, c3, c4⟩ := h
  have hlp : ∀ d, d < M → lotP T q' d = lotP S q d := fun d hd => by unfold lotP; rw [(hD d hd).1]
  have hcn : ∀ d, d ≤ M → cnt (lotP T q') d = cnt (lotP S q) d := fun d hd => cnt_congr (fun j hj => hlp j (by omega))
  refine ⟨⟨a1, a2, by rw [h0 0 (by decide)]; exact a3, by rw [h0 1 (by decide)]; exact a4, by rw [ef 0 (by decide)]; exact a5, by rw [ef 2 (by decide)]; exact a6⟩, ⟨by rw [ef 3 (by decide), h0 2 (by decide)]; exact b1, by rw [eg 0 (by decide), hL 3 (by decide) (by decide)]; exact b2, by rw [eg 1 (by decide), hL 4 (by decide) (by decide)]; exact b3, by rw [eg 2 (by decide), hL 5 (by decide) (by decide)]; exact b4⟩, ?_, ?_, ?_, ?_, ?_, ?_, ?_⟩
  · intro c hc
    rw [ef _ (by omega), h7 c hc.2]; exact b5 c hc
  · intro c hc
    rw [eg _ (by omega), h8 c hc]; exact b6 c hc
  · intro u hu
    rw [h7 u (by omega)]; exact b7 u hu
  · intro i hi
    obtain ⟨k1, k2, k3, k4⟩ := hI i hi
    obtain ⟨⟨d1, d2, d3, d4, d5, d6, d7, d8, d9⟩, w1, w2, w3, w4, w5⟩ := c1 i hi
    refine ⟨?_, ?_⟩
    · unfold IR
      rw [ef _ (by omega), ef _ (by omega), ef _ (by omega), ef _ (by omega), ef _ (by omega), ef _ (by omega), eg _ (by omega), eg _ (by omega), eg _ (by omega), k1 1 (by decide) (by decide), k1 2 (by decide) (by decide), k1 3 (by decide) (by decide), k2, k3, k4 1 (by decide) (by decide), k4 2 (by decide) (by decide), k4 3 (by decide) (by decide), k4 4 (by decide) (by decide)]
      exact ⟨d1, d2, d3, d4, d5, d6, d7, d8, d9⟩
    · unfold WI
      rw [k1 2 (by decide) (by decide), k1 3 (by decide) (by decide), k4 1 (by decide) (by decide), k4 2 (by decide) (by decide), k4 3 (by decide) (by decide)]
      refine ⟨w1, w2, w3, w4, ?_⟩
      rcases w5 with w5 | ⟨w5, b, hb, e1, e2, e3, e4⟩
      · exact Or.inl w5
      · obtain ⟨j1, -, -, j4⟩ := hI b hb
        refine Or.inr ⟨w5, b, hb, e1, ?_, ?_, ?_⟩
        · rw [j1 3 (by decide) (by decide)]; exact e2
        · rw [j1 2 (by decide) (by decide)]; exact e3
        · rw [j4 3 (by decide) (by decide)]; exact e4
  · intro d hd
    obtain ⟨k1, k2⟩ := hD d hd
    obtain ⟨⟨d1, d2, d3, d4, d5⟩, w1, w2, w3⟩ := c2 d hd
    refine ⟨?_, ?_⟩
    · unfold DR
      rw [ef _ (by omega), ef _ (by omega), ef _ (by omega), ef _ (by omega), ef _ (by omega), k2 5 (by decide) (by decide), k2 6 (by decide) (by decide), k2 7 (by decide) (by decide), k2 8 (by decide) (by decide), k2 9 (by decide) (by decide)]
      exact ⟨d1, d2, d3, d4, d5⟩
    · unfold WD
      rw [e26, k1, k2 5 (by decide) (by decide), k2 7 (by decide) (by decide)]
      exact ⟨w1, w2, w3⟩
  · rw [ef 1 (by decide), hcn M (Nat.le_refl _)]; exact c3
  · intro d hd hl
    rw [hlp d hd] at hl
    obtain ⟨k1, k2⟩ := hD d hd
    have hlt := cnt_lt hd hl
    have hle := cnt_le (lotP S q) M
    rw [hcn d (by omega), ef _ (by omega), ef _ (by omega), ef _ (by omega), ef _ (by omega), k1, k2 5 (by decide) (by decide), k2 7 (by decide) (by decide), k2 9 (by decide) (by decide)]
    exact c4 d hd hl
/-- the group on both sides -/
def WG (S : Mem) (un cn pn : Nat) : Prop :=
  (un ≤ 4 ∧ cn ≤ 6 ∧ pn ≤ 6 ∧ S.1 23 0 = nI un ∧ S.1 23 1 = nI cn ∧ S.1 23 2 = nI pn ∧ S.1 33 0 = nI un ∧ S.1 33 1 = nI cn ∧ S.1 33 2 = nI pn ∧ S.1 33 4 = S.1 23 4 ∧ S.1 33 5 = S.1 23 5) ∧
  (∀ c, c < cn → S.1 33 (10 + c) = S.1 25 c ∧ okI (S.1 25 c) un) ∧
  (∀ p, p < pn → S.1 33 (16 + p) = S.1 26 p ∧ S.1 33 (22 + p) = S.1 27 p ∧ rBnd S p 28 = S.1 28 p ∧ rBnd S p 34 = S.1 29 p)
/-- entry d of the history lies at this standing -/
def hqn (t k d : Nat) : Nat := 74 + 9 * ((t + 10 - k + d) % 10 + 1)
def HR (S : Mem) (un cn pn N M k t : Nat) (nn mm : Nat → Nat) : Prop :=
  (k ≤ 10 ∧ t < 10 ∧ S.1 11 0 = nI k ∧ S.1 11 1 = nI t ∧ S.1 30 17 = nI k) ∧ (∀ d, d < k → St S un cn pn (hqn t k d) 44 (fun j => S.1 36 (1508 * d + j)) (fun j => S.2 37 (309 * d + j)) (nn d) (mm d)) ∧ nn k = N ∧ mm k = M ∧ ∀ d, d < k → nn d ≤ nn (d + 1) ∧ mm d ≤ mm (d + 1)
def SR (S : Mem) (un cn pn s : Nat) : Prop :=
  S.1 40 s = S.1 (14 + s) 0 ∧ (¬ S.1 (14 + s) 0 = 0 → ∃ N M, St S un cn pn (173 + 9 * s) (54 + 10 * s) (fun j => S.1 38 (1508 * s + j)) (fun j => S.2 39 (309 * s + j)) N M)
def BR (S : Mem) : Prop := ∃ F, F ≤ 600 ∧ S.1 1 1 = nI F ∧ S.1 30 2 = nI F ∧ (∀ k, k < F → S.1 31 k = S.1 2 k) ∧ okB S
def Rl (S : Mem) (un cn pn N M : Nat) : Prop :=
  WG S un cn pn ∧ St S un cn pn 74 44 (S.1 34) (S.2 35) N M ∧ (∃ k t nn mm, HR S un cn pn N M k t nn mm) ∧ SR S un cn pn 0 ∧ SR S un cn pn 1 ∧ BR S
def Rel (S : Mem) : Prop := ∃ un cn pn N M, Rl S un cn pn N M
/-- T is S but for what no later call sees -/
def Sm (S T : Mem) : Prop :=
  (∀ q, q ≠ 1 → q ≠ 5 → q ≠ 9 → (q < 16 ∨ 22 < q) → q ≠ 30 → q ≠ 32 → q ≠ 41 → q ≠ 43 → T.1 q = S.1 q) ∧ (∀ q, q ≠ 7 → q ≠ 8 → q ≠ 42 → q < 191 → T.2 q = S.2 q) ∧ T.1 30 2 = S.1 30 2 ∧ T.1 30 17 = S.1 30 17 ∧ T.1 1 1 = S.1 1 1
theorem Sm.rfl {S : Mem} : Sm S S := ⟨fun _ _ _ _ _ _ _ _ _ => Eq.refl _, fun _ _ _ _ _ => Eq.refl _, Eq.refl _, Eq.refl _, Eq.refl _⟩
theorem Sm.tr {S T U : Mem} (h : Sm S T) (h2 : Sm T U) : Sm S U :=
  ⟨fun q a b c d e f g i => (h2.1 q a b c d e f g i).trans (h.1 q a b c d e f g i), fun q a b c d => (h2.2.1 q a b c d).trans (h.2.1 q a b c d), h2.2.2.1.trans h.2.2.1, h2.2.2.2.1.trans h.2.2.2.1, h2.2.2.2.2.trans h.2.2.2.2⟩
theorem Sm.I {S : Mem} {q j : Nat} {x : Int32} (h : q = 5 ∨ q = 9 ∨ (16 ≤ q ∧ q ≤ 22) ∨ q = 32 ∨ q = 41 ∨ q = 43) : Sm S (setI S q j x) := by
  refine ⟨fun z a b c d e f g i => sI_1 (by omega), fun z _ _ _ _ => by rw [sI_2], ?_, ?_, ?_⟩ <;> rw [sI_1 (by omega)]
theorem Sm.R {S : Mem} {q : Nat} {f : Nat → Int32} (h : q = 5 ∨ q = 9 ∨ (16 ≤ q ∧ q ≤ 22) ∨ q = 32 ∨ q = 41 ∨ q = 43) : Sm S (setR S q f) := by
  refine ⟨fun z a b c d e f g i => sR_1 (by omega), fun z _ _ _ _ => by rw [sR_2], ?_, ?_, ?_⟩ <;> rw [sR_1 (by omega)]
theorem Sm.J {S : Mem} {q j : Nat} {x : Int64} (h : q = 7 ∨ q = 8 ∨ q = 42 ∨ 191 ≤ q) : Sm S (setJ S q j x) :=
  ⟨fun z _ _ _ _ _ _ _ _ => by rw [sJ_1], fun z a b c d => sJ_2 (by omega), by rw [sJ_1], by rw [sJ_1], by rw [sJ_1]⟩
theorem Sm.L {S : Mem} {q : Nat} {f : Nat → Int64} (h : q = 7 ∨ q = 8 ∨ q = 42 ∨ 191 ≤ q) : Sm S (setL S q f) :=
  ⟨fun z _ _ _ _ _ _ _ _ => by rw [sL_1], fun z a b c d => sL_2 (by omega), by rw [sL_1], by rw [sL_1], by rw [sL_1]⟩
theorem Sm.M {S : Mem} {j : Nat} {x : Int32} (h : j ≠ 2) (h2 : j ≠ 17) : Sm S (setI S 30 j x) := by
  refine ⟨fun z a b c d e f g i => sI_1 e, fun z _ _ _ _ => by rw [sI_2], ?_, ?_, ?_⟩
  · rw [sI_e, pk_un (Ne.symm h)]
  · rw [sI_e, pk_un (Ne.symm h2)]
  · rw [sI_1 (by decide)]
theorem Sm.C {S : Mem} {j : Nat} {x : Int32} (h : j ≠ 1) : Sm S (setI S 1 j x) := by
  refine ⟨fun z a b c d e f g i => sI_1 a, fun z _ _ _ _ => by rw [sI_2], ?_, ?_, ?_⟩
  · rw [sI_1 (by decide)]
  · rw [sI_1 (by decide)]
  · rw [sI_e, pk_un (Ne.symm h)]
theorem Sm.c {S T : Mem} (h : Sm S T) {q : Nat} (hq : 44 ≤ q) : T.1 q = S.1 q := h.1 q (by omega) (by omega) (by omega) (by omega) (by omega) (by omega) (by omega) (by omega)
theorem Sm.d {S T : Mem} (h : Sm S T) {q : Nat} (hq : 44 ≤ q) (h2 : q < 191) : T.2 q = S.2 q := h.2.1 q (by omega) (by omega) (by omega) h2
theorem St_sm {S T : Mem} {un cn pn q r N M : Nat} {f f' : Nat → Int32} {g g' : Nat → Int64} (h : St S un cn pn q r f g N M) (hs : Sm S T) (hq : 44 ≤ q) (hq2 : q ≤ 182) (hr : 44 ≤ r) (hun : un ≤ 4) (ef : ∀ j, j < 1508 → f' j = f j) (eg : ∀ j, j < 309 → g' j = g j) : St T un cn pn q r f' g' N M :=
  St_mv h (hs.1 26 (by decide) (by decide) (by decide) (by decide) (by decide) (by decide) (by decide) (by decide)) (fun j _ => by rw [hs.c hq]) (fun j _ _ => by rw [hs.d hq (by omega)]) (fun i _ => ⟨fun c _ _ => by rw [hs.c (by omega)], by rw [hs.d (by omega) (by omega)], by rw [hs.d (by omega) (by omega)], fun c _ _ => by rw [hs.c (by omega)]⟩) (fun d _ => ⟨by rw [hs.c (by omega)], fun c _ _ => by rw [hs.c (by omega)]⟩) (fun c _ => by rw [hs.c (by omega)]) (fun c _ => by rw [hs.d (by omega) (by omega)]) hun ef eg
theorem Sm.e {S T : Mem} (h : Sm S T) (q : Nat) (hq : (q = 2 ∨ q = 11 ∨ q = 14 ∨ q = 15 ∨ (23 ≤ q ∧ q ≤ 29) ∨ q = 31 ∨ (33 ≤ q ∧ q ≤ 40))) : T.1 q = S.1 q := h.1 q (by omega) (by omega) (by omega) (by omega) (by omega) (by omega) (by omega) (by omega)
theorem Sm.g {S T : Mem} (h : Sm S T) (q : Nat) (hq : 33 ≤ q ∧ q ≤ 40) : T.2 q = S.2 q := h.2.1 q (by omega) (by omega) (by omega) (by omega)
theorem rBnd_of {S T : Mem} (e : T.1 33 = S.1 33) (p w : Nat) : rBnd T p w = rBnd S p w := by unfold rBnd; rw [e]
theorem WG_sm {S T : Mem} {un cn pn : Nat} (h : WG S un cn pn) (hs : Sm S T) : WG T un cn pn := by
  unfold WG
  have e33 := hs.e 33 (by decide)
  rw [hs.e 23 (by decide), e33, hs.e 25 (by decide), hs.e 26 (by decide), hs.e 27 (by decide), hs.e 28 (by decide), hs.e 29 (by decide)]
  refine ⟨h.1, h.2.1, fun p hp => ?_⟩
  rw [rBnd_of e33, rBnd_of e33]
  exact h.2.2 p hp
theorem hqn_lo {t k d : Nat} : 83 ≤ hqn t k d ∧ hqn t k d ≤ 164 := by unfold hqn; omega
theorem HR_sm {S T : Mem} {un cn pn N M k t : Nat} {nn mm : Nat → Nat} (h : HR S un cn pn N M k t nn mm) (hs : Sm S T) (hun : un ≤ 4) : HR T un cn pn N M k t nn mm := by
  obtain ⟨⟨h1, h2, h3, h4, h5⟩, h6, h7⟩ := h
  refine ⟨⟨h1, h2, by rw [hs.e 11 (by decide)]; exact h3, by rw [hs.e 11 (by decide)]; exact h4, by rw [hs.2.2.2.1]; exact h5⟩, fun d hd => ?_, h7⟩
  have := hqn_lo (t := t) (k := k) (d := d)
  exact St_sm (h6 d hd) hs (by omega) (by omega) (by decide) hun (fun j _ => by rw [hs.e 36 (by decide)]) (fun j _ => by rw [hs.g 37 (by decide)])
theorem SR_sm {S T : Mem} {un cn pn s : Nat} (h : SR S un cn pn s) (hs : Sm S T) (hun : un ≤ 4) (h2 : s < 2) : SR T un cn pn s := by
  have e : T.1 (14 + s) = S.1 (14 + s) := hs.e _ (by omega)
  refine ⟨by rw [hs.e 40 (by decide), e]; exact h.1, fun hq => ?_⟩
  rw [e] at hq
  obtain ⟨N, M, h3⟩ := h.2 hq
  exact ⟨N, M, St_sm h3 hs (by omega) (by omega) (by omega) hun (fun j _ => by rw [hs.e 38 (by decide)]) (fun j _ => by rw [hs.g 39 (by decide)])⟩
theorem okB_of {S T : Mem} (h : okB S) (e : T.1 31 = S.1 31) : okB T := by unfold okB; rw [e]; exact h
theorem BR_sm {S T : Mem} (h : BR S) (hs : Sm S T) : BR T := by
  obtain ⟨F, h1, h2, h3, h4, h5⟩ := h
  refine ⟨F, h1, by rw [hs.2.2.2.2]; exact h2, by rw [hs.2.2.1]; exact h3, fun k hk => ?_, okB_of h5 (hs.e 31 (by decide))⟩
  rw [hs.e 31 (by decide), hs.e 2 (by decide)]; exact h4 k hk
theorem Rl_sm {S T : Mem} {un cn pn N M : Nat} (h : Rl S un cn pn N M) (hs : Sm S T) : Rl T un cn pn N M := by
  obtain ⟨h1, h2, ⟨k, t, nn, mm, h3⟩, h4, h5, h6⟩ := h
  have hun := h1.1.1
  exact ⟨WG_sm h1 hs, St_sm h2 hs (by decide) (by decide) (by decide) hun (fun j _ => by rw [hs.e 34 (by decide)]) (fun j _ => by rw [hs.g 35 (by decide)]), ⟨k, t, nn, mm, HR_sm h3 hs hun⟩, SR_sm h4 hs hun (by decide), SR_sm h5 hs hun (by decide), BR_sm h6 hs⟩
/-! what the relation gives of the items at hand -/
def Nw (S : Mem) (un cn pn N M : Nat) : Prop := WG S un cn pn ∧ St S un cn pn 74 44 (S.1 34) (S.2 35) N M
theorem Rl.nw {S : Mem} {un cn pn N M : Nat} (h : Rl S un cn pn N M) : Nw S un cn pn N M := ⟨h.1, h.2.1⟩
section NOW
variable {S : Mem} {un cn pn N M : Nat}
theorem Nw.it (h : Nw S un cn pn N M) {i : Nat} (hi : i < N) : IR S 74 44 (S.1 34) (S.2 35) i ∧ WI S cn 74 44 N i := h.2.2.2.2.2.2.1 i hi
theorem Nw.dl (h : Nw S un cn pn N M) {d : Nat} (hd : d < M) : DR S 44 (S.1 34) d ∧ WD S pn 74 44 d := h.2.2.2.2.2.2.2.1 d hd
theorem Nw.N100 (h : Nw S un cn pn N M) : N ≤ 100 := h.2.1.1
theorem Nw.M100 (h : Nw S un cn pn N M) : M ≤ 100 := h.2.1.2.1
theorem Nw.cN (h : Nw S un cn pn N M) : S.1 74 0 = nI N := h.2.1.2.2.1
theorem Nw.cM (h : Nw S un cn pn N M) : S.1 74 1 = nI M := h.2.1.2.2.2.1
theorem Nw.rN (h : Nw S un cn pn N M) : S.1 34 0 = nI N := h.2.1.2.2.2.2.1
theorem Nw.rM (h : Nw S un cn pn N M) : S.1 34 2 = nI M := h.2.1.2.2.2.2.2
theorem Nw.cC (h : Nw S un cn pn N M) : S.1 23 1 = nI cn := h.1.1.2.2.2.2.1
theorem Nw.rC (h : Nw S un cn pn N M) : S.1 33 1 = nI cn := h.1.1.2.2.2.2.2.2.2.1
theorem Nw.cP (h : Nw S un cn pn N M) : S.1 23 2 = nI pn := h.1.1.2.2.2.2.2.1
theorem Nw.rP (h : Nw S un cn pn N M) : S.1 33 2 = nI pn := h.1.1.2.2.2.2.2.2.2.2.1
theorem Nw.cU (h : Nw S un cn pn N M) : S.1 23 0 = nI un := h.1.1.2.2.2.1
theorem Nw.rU (h : Nw S un cn pn N M) : S.1 33 0 = nI un := h.1.1.2.2.2.2.2.2.1
theorem Nw.u4 (h : Nw S un cn pn N M) : un ≤ 4 := h.1.1.1
theorem Nw.c6 (h : Nw S un cn pn N M) : cn ≤ 6 := h.1.1.2.1
theorem Nw.p6 (h : Nw S un cn pn N M) : pn ≤ 6 := h.1.1.2.2.1
theorem okI_le {x : Int32} {a b : Nat} (h : okI x a) (hab : a ≤ b) : okI x b := ⟨h.1, by have := h.2; omega⟩
theorem Nw.oC (h : Nw S un cn pn N M) {i : Nat} (hi : i < N) : okC S i := by
  have h1 : okI (S.1 45 i) cn := (h.it hi).2.1
  have h2 : okI (S.1 25 (gN (S.1 45 i))) un := (h.1.2.1 _ h1.2).2
  exact ⟨by have := h.N100; omega, okI_le h1 h.c6, okI_le h2 h.u4⟩
theorem Nw.e45 (h : Nw S un cn pn N M) {i : Nat} (hi : i < N) : S.1 34 (8 + 6 * i + 0) = S.1 45 i := (h.it hi).1.1
theorem Nw.e46 (h : Nw S un cn pn N M) {i : Nat} (hi : i < N) : S.1 34 (8 + 6 * i + 1) = S.1 46 i := (h.it hi).1.2.1
theorem Nw.e47 (h : Nw S un cn pn N M) {i : Nat} (hi : i < N) : S.1 34 (8 + 6 * i + 2) = S.1 47 i := (h.it hi).1.2.2.1
theorem Nw.e48 (h : Nw S un cn pn N M) {i : Nat} (hi : i < N) : S.1 34 (8 + 6 * i + 3) = S.1 48 i := (h.it hi).1.2.2.2.1
theorem Nw.e76 (h : Nw S un cn pn N M) {i : Nat} (hi : i < N) : S.1 34 (8 + 6 * i + 4) = S.1 76 i := (h.it hi).1.2.2.2.2.1
theorem Nw.e77 (h : Nw S un cn pn N M) {i : Nat} (hi : i < N) : S.1 34 (8 + 6 * i + 5) = S.1 77 i := (h.it hi).1.2.2.2.2.2.1
theorem Nw.e75 (h : Nw S un cn pn N M) {i : Nat} (hi : i < N) : S.2 35 (9 + i) = (S.1 75 i).toInt64 := (h.it hi).1.2.2.2.2.2.2.1
theorem Nw.e78 (h : Nw S un cn pn N M) {i : Nat} (hi : i < N) : S.2 35 (109 + i) = S.2 78 i := (h.it hi).1.2.2.2.2.2.2.2.1
theorem Nw.e79 (h : Nw S un cn pn N M) {i : Nat} (hi : i < N) (hs : S.1 76 i = nI 3) : S.2 35 (209 + i) = S.2 79 i := (h.it hi).1.2.2.2.2.2.2.2.2 hs
theorem Nw.oR (h : Nw S un cn pn N M) {i : Nat} (hi : i < N) : okR S i := by
  have h1 : okI (S.1 45 i) cn := (h.it hi).2.1
  have h2 := h.1.2.1 _ h1.2
  refine ⟨by have := h.N100; omega, ?_, ?_⟩
  · rw [h.e45 hi]; exact okI_le h1 h.c6
  · rw [h.e45 hi, h2.1]; exact okI_le h2.2 h.u4
theorem Nw.rate (h : Nw S un cn pn N M) {c : Nat} (hc : c < un ∧ c < 4) : S.1 34 (4 + c) = S.1 81 c := h.2.2.2.1 c hc
theorem Nw.rt1 (h : Nw S un cn pn N M) {u : Nat} (hu : u < un) : nI 1 ≤ S.1 81 u := h.2.2.2.2.2.1 u hu
theorem Nw.spos (h : Nw S un cn pn N M) {c : Nat} (hc : c < 6) : S.2 35 (3 + c) = S.2 82 c := h.2.2.2.2.1 c hc
theorem Nw.tol (h : Nw S un cn pn N M) : S.1 34 3 = S.1 74 2 := h.2.2.1.1
theorem Nw.s3 (h : Nw S un cn pn N M) : S.2 35 0 = S.2 74 3 := h.2.2.1.2.1
theorem Nw.s4 (h : Nw S un cn pn N M) : S.2 35 1 = S.2 74 4 := h.2.2.1.2.2.1
theorem Nw.s5 (h : Nw S un cn pn N M) : S.2 35 2 = S.2 74 5 := h.2.2.1.2.2.2
theorem Nw.rte (h : Nw S un cn pn N M) {i : Nat} (hi : i < N) : rRate S i = cRate S i := by
  have h1 : okI (S.1 45 i) cn := (h.it hi).2.1
  have h2 := h.1.2.1 _ h1.2
  unfold rRate cRate
  rw [h.e45 hi, h2.1]
  exact h.rate ⟨h2.2.2, by have := h2.2.2; have := h.u4; omega⟩
theorem Nw.rt2 (h : Nw S un cn pn N M) {i : Nat} (hi : i < N) : nI 1 ≤ cRate S i := h.rt1 (h.1.2.1 _ (h.it hi).2.1.2).2.2
theorem Nw.val (h : Nw S un cn pn N M) {i : Nat} (hi : i < N) : rVal S i = cVal S i := by
  unfold rVal cVal
  rw [h.e76 hi, h.rte hi, h.e75 hi]
  by_cases h4 : S.1 76 i = nI 4
  · rw [if_neg (not_not_intro h4), if_neg (not_not_intro h4)]
  · rw [if_pos h4, if_pos h4]
    by_cases h3 : S.1 76 i = nI 3
    · rw [if_neg (not_not_intro h3), if_neg (not_not_intro h3), h.e79 hi h3]
    · rw [if_pos h3, if_pos h3]
theorem Nw.is_ (h : Nw S un cn pn N M) {i : Nat} (hi : i < N) (a b : Int32) : rIs S i a b = cIs S i a b := by
  unfold rIs cIs; rw [h.e47 hi, h.e76 hi]
theorem Nw.mir (h : Nw S un cn pn N M) {i j : Nat} (hi : i < N) (hj : j < N) : rMir S i j = cMir S i j := by
  unfold rMir cMir
  rw [h.e45 hi, h.e46 hi, h.e47 hi, h.e48 hi, h.e45 hj, h.e46 hj, h.e47 hj, h.e48 hj]
  cases decide (S.1 47 i = S.1 47 j) <;> cases decide (S.1 48 i = S.1 48 j) <;> cases decide (S.1 45 i = S.1 46 j) <;> cases decide (S.1 46 i = S.1 45 j) <;> rfl
theorem Nw.st (h : Nw S un cn pn N M) {i : Nat} (hi : i < N) : S.1 76 i = nI 0 ∨ S.1 76 i = nI 1 ∨ S.1 76 i = nI 2 ∨ S.1 76 i = nI 3 ∨ S.1 76 i = nI 4 := by
  rcases (h.it hi).2.2.2.2.2 with ⟨h1 | h1, -⟩ | ⟨h1 | h1 | h1, -⟩
  · exact Or.inl h1
  · exact Or.inr (Or.inr (Or.inr (Or.inr h1)))
  · exact Or.inr (Or.inl h1)
  · exact Or.inr (Or.inr (Or.inl h1))
  · exact Or.inr (Or.inr (Or.inr (Or.inl h1)))
theorem Nw.sd (h : Nw S un cn pn N M) {i : Nat} (hi : i < N) : S.1 47 i = nI 0 ∨ S.1 47 i = nI 1 := (h.it hi).2.2.2.2.1
theorem Nw.op (h : Nw S un cn pn N M) {i : Nat} (hi : i < N) (hs : S.1 76 i = nI 0 ∨ S.1 76 i = nI 4) : S.1 77 i = -1 := by
  rcases (h.it hi).2.2.2.2.2 with ⟨-, h1⟩ | ⟨h1, -⟩
  · exact h1
  · have h1 : S.1 76 i = nI 1 ∨ S.1 76 i = nI 2 ∨ S.1 76 i = nI 3 := h1
    rcases hs with e | e <;> rw [e] at h1 <;> rcases h1 with h1 | h1 | h1 <;> exact absurd h1 (by decide)
theorem Nw.pr (h : Nw S un cn pn N M) {i : Nat} (hi : i < N) (hs : S.1 76 i = nI 1 ∨ S.1 76 i = nI 2 ∨ S.1 76 i = nI 3) : ∃ b, b < N ∧ S.1 77 i = nI b ∧ S.1 77 b = nI i ∧ S.1 76 b = S.1 76 i ∧ ¬ S.1 47 b = S.1 47 i := by
  rcases (h.it hi).2.2.2.2.2 with ⟨h1, -⟩ | ⟨-, h1⟩
  · have h1 : S.1 76 i = nI 0 ∨ S.1 76 i = nI 4 := h1
    rcases hs with e | e | e <;> rw [e] at h1 <;> rcases h1 with h1 | h1 <;> exact absurd h1 (by decide)
  · exact h1
end NOW
