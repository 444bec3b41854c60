/-! goods taken on both sides -/
theorem i32_ms {x y : Int32} (h : 0 ≤ y) (h2 : y ≤ x) : (x - y).toInt = x.toInt - y.toInt := by
  have a1 := Int32.le_iff_toInt_le.mp h
  have a2 := Int32.le_iff_toInt_le.mp h2
  have b1 : (0 : Int32).toInt = 0 := by decide
  have b2 := Int32.toInt_lt x
  rw [b1] at a1
  rw [Int32.toInt_sub, Int.bmod_eq_of_le (by omega) (by omega)]
theorem i32_s0 {x y : Int32} (h : 0 ≤ y) (h2 : y ≤ x) : 0 ≤ x - y := by
  have := i32_ms h h2
  have a2 := Int32.le_iff_toInt_le.mp h2
  have b1 : (0 : Int32).toInt = 0 := by decide
  exact Int32.le_iff_toInt_le.mpr (by rw [b1]; omega)
theorem i32_sp {x y : Int32} (h : 0 ≤ y) (h2 : y ≤ x) : x - y ≤ 0 ↔ x = y := by
  have := i32_ms h h2
  have a2 := Int32.le_iff_toInt_le.mp h2
  have b1 : (0 : Int32).toInt = 0 := by decide
  constructor
  · intro q
    have a3 := Int32.le_iff_toInt_le.mp q
    rw [b1] at a3
    exact Int32.toInt_inj.mp (by omega)
  · intro q
    exact Int32.le_iff_toInt_le.mpr (by rw [b1, this, q]; omega)
theorem mnI_e (x y : Int32) : (if x ≤ y then x else y) = mnI x y := by
  unfold mnI
  by_cases e : x ≤ y
  · rw [if_pos e, if_neg (Int32.not_lt.mpr e)]
  · rw [if_neg e, if_pos (Int32.not_le.mp e)]
theorem mnI_r {x y : Int32} (hx : 0 ≤ x) (hy : 0 ≤ y) : 0 ≤ mnI x y ∧ mnI x y ≤ y ∧ mnI x y ≤ x := by
  unfold mnI
  by_cases e : y < x
  · rw [if_pos e]; exact ⟨hy, Int32.le_refl _, Int32.le_of_lt e⟩
  · rw [if_neg e]; exact ⟨hx, Int32.not_lt.mp e, Int32.le_refl _⟩
/-- what is missing behind d deliveries -/
def msg (S : Mem) (a b q : Int32) : Nat → Int32
  | 0 => q
  | d + 1 => if cLot S d a b then msg S a b q d - mnI (msg S a b q d) (S.1 80 d) else msg S a b q d
/-- what a delivery has left then -/
def nlf (S : Mem) (a b q : Int32) (d : Nat) : Int32 := if cLot S d a b then S.1 80 d - mnI (msg S a b q d) (S.1 80 d) else S.1 80 d
theorem tk_c {S U : Mem} (h49 : U.1 49 = S.1 49) (h51 : U.1 51 = S.1 51) (h80 : U.1 80 = S.1 80) (a b q : Int32) : ∀ n, (cTk U a b q n).2 = msg S a b q n ∧ ∀ d, (cTk U a b q n).1.1 80 d = if d < n then nlf S a b q d else S.1 80 d
  | 0 => ⟨rfl, fun d => by rw [if_neg (by omega)]; show U.1 80 d = _; rw [h80]⟩
  | n + 1 => by
    obtain ⟨i1, i2⟩ := tk_c h49 h51 h80 a b q n
    have e80 : (cTk U a b q n).1.1 80 n = S.1 80 n := by rw [i2, if_neg (by omega)]
    have ec : cLot (cTk U a b q n).1 n a b = cLot S n a b := by
      unfold cLot; rw [e80, cTk_k U a b q (by decide), cTk_k U a b q (by decide), h49, h51]
    rw [cTk, ec, msg, i1, e80]
    by_cases hc : cLot S n a b = true
    · rw [if_pos hc, if_pos hc]
      refine ⟨rfl, fun d => ?_⟩
      dsimp only
      rw [sI_e, updE, i2]
      by_cases e : d = n
      · subst e; rw [if_pos rfl, if_pos (by omega)]; unfold nlf; rw [if_pos hc]
      · rw [if_neg e]
        by_cases e2 : d < n
        · rw [if_pos e2, if_pos (by omega)]
        · rw [if_neg e2, if_neg (by omega)]
    · rw [if_neg hc, if_neg hc]
      refine ⟨i1, fun d => ?_⟩
      rw [i2]
      by_cases e : d = n
      · subst e; rw [if_neg (by omega), if_pos (by omega)]; unfold nlf; rw [if_neg hc]
      · by_cases e2 : d < n
        · rw [if_pos e2, if_pos (by omega)]
        · rw [if_neg e2, if_neg (by omega)]
theorem mv_at (T : Mem) {k r : Nat} (hr : r ≤ k) (q : Int32) : ∀ n, n ≤ 4 → ∀ j, (mvW T k r q n).1 34 j = if 608 + 4 * r ≤ j ∧ j < 608 + 4 * r + n then T.1 34 (608 + 4 * k + (j - (608 + 4 * r))) - (if ¬ j = 608 + 4 * r + 2 then nI 0 else q) else T.1 34 j
  | 0, _, j => by rw [if_neg (by omega)]; rfl
  | n + 1, hn, j => by
    have ih := mv_at T hr q n (by omega)
    rw [mvW, sI_e, updE]
    by_cases e : j = 608 + 4 * r + n
    · have hA : 608 + 4 * r ≤ j ∧ j < 608 + 4 * r + (n + 1) := by omega
      have hB : ¬ (608 + 4 * r ≤ 608 + 4 * k + n ∧ 608 + 4 * k + n < 608 + 4 * r + n) := by omega
      rw [if_pos e, if_pos hA, ih, if_neg hB, e, show 608 + 4 * r + n - (608 + 4 * r) = n by omega]
      by_cases e2 : n = 2
      · rw [if_neg (not_not_intro e2), if_neg (not_not_intro (show 608 + 4 * r + n = 608 + 4 * r + 2 by omega))]
      · rw [if_pos e2, if_pos (show ¬ 608 + 4 * r + n = 608 + 4 * r + 2 by omega)]
    · rw [if_neg e, ih]
      by_cases e2 : 608 + 4 * r ≤ j ∧ j < 608 + 4 * r + n
      · rw [if_pos e2, if_pos (show 608 + 4 * r ≤ j ∧ j < 608 + 4 * r + (n + 1) by omega)]
      · rw [if_neg e2, if_neg (show ¬ (608 + 4 * r ≤ j ∧ j < 608 + 4 * r + (n + 1)) by omega)]
abbrev nlp (S : Mem) (a b q : Int32) (d : Nat) : Bool := !decide (nlf S a b q d ≤ 0)
section GT
variable {S : Mem} {un cn pn N M : Nat}
theorem Nw.msg0 (h : Nw S un cn pn N M) {a b q : Int32} (hq : 0 ≤ q) : ∀ d, d ≤ M → 0 ≤ msg S a b q d
  | 0, _ => hq
  | d + 1, hd => by
    have ih := h.msg0 (a := a) (b := b) hq d (by omega)
    rw [msg]
    split
    · have := mnI_r ih (h.left0 (d := d) (by omega))
      exact i32_s0 this.1 this.2.2
    · exact ih
theorem Nw.nl0 (h : Nw S un cn pn N M) {a b q : Int32} (hq : 0 ≤ q) {d : Nat} (hd : d < M) : 0 ≤ nlf S a b q d := by
  have h1 := h.msg0 (a := a) (b := b) hq d (by omega)
  have := mnI_r h1 (h.left0 (d := d) hd)
  unfold nlf
  split
  · exact i32_s0 this.1 this.2.1
  · exact h.left0 hd
theorem Nw.tk_r (h : Nw S un cn pn N M) {Y : Mem} (e34 : Y.1 34 = S.1 34) {a b q : Int32} (hq : 0 ≤ q) : ∀ d, d ≤ M → (rTk Y a b q (cnt (lotP S 74) d)).2.1 = cnt (nlp S a b q) d ∧ (rTk Y a b q (cnt (lotP S 74) d)).2.2 = msg S a b q d ∧ (∀ e, e < d → nlp S a b q e = true → (rTk Y a b q (cnt (lotP S 74) d)).1.1 34 (608 + 4 * cnt (nlp S a b q) e + 0) = S.1 51 e ∧ (rTk Y a b q (cnt (lotP S 74) d)).1.1 34 (608 + 4 * cnt (nlp S a b q) e + 1) = S.1 49 e ∧ (rTk Y a b q (cnt (lotP S 74) d)).1.1 34 (608 + 4 * cnt (nlp S a b q) e + 2) = nlf S a b q e ∧ (rTk Y a b q (cnt (lotP S 74) d)).1.1 34 (608 + 4 * cnt (nlp S a b q) e + 3) = S.1 53 e) ∧ (∀ j, 608 + 4 * cnt (lotP S 74) d ≤ j → (rTk Y a b q (cnt (lotP S 74) d)).1.1 34 j = S.1 34 j)
  | 0, _ => ⟨rfl, rfl, fun e he => absurd he (by omega), fun j _ => by show Y.1 34 j = _; rw [e34]⟩
  | d + 1, hd => by
    obtain ⟨i1, i2, i3, i4⟩ := h.tk_r e34 (a := a) (b := b) hq d (by omega)
    have hdM : d < M := by omega
    have hin := rTk_in Y a b q (cnt (lotP S 74) d)
    cases hp : lotP S 74 d with
    | false =>
      have h0 := h.lot0 hdM hp
      have hc : ¬ cLot S d a b = true := by rw [cLot_p, hp, Bool.false_and]; decide
      have hn : nlp S a b q d = false := by unfold nlp nlf; rw [if_neg hc, h0]; decide
      have e1 : cnt (lotP S 74) (d + 1) = cnt (lotP S 74) d := by rw [cnt, hp]; rfl
      have e2 : cnt (nlp S a b q) (d + 1) = cnt (nlp S a b q) d := by rw [cnt, hn]; rfl
      rw [e1, e2, msg, if_neg hc]
      refine ⟨i1, i2, fun e he hn2 => ?_, i4⟩
      by_cases q1 : e = d
      · subst q1; rw [hn] at hn2; cases hn2
      · exact i3 e (by omega) hn2
    | true =>
      obtain ⟨l0, l1, l2, l3⟩ := h.lt hdM hp
      have hms := h.msg0 (a := a) (b := b) hq d (by omega)
      have h80 := h.left0 hdM
      have hpos : ¬ S.1 80 d ≤ 0 := by unfold lotP at hp; simpa using hp
      have e1 : cnt (lotP S 74) (d + 1) = cnt (lotP S 74) d + 1 := by rw [cnt, hp]; rfl
      generalize hk : cnt (lotP S 74) d = k at *
      have w0 := (i4 (608 + 4 * k + 0) (by omega)).trans l0
      have w1 := (i4 (608 + 4 * k + 1) (by omega)).trans l1
      have w2 := (i4 (608 + 4 * k + 2) (by omega)).trans l2
      have w3 := (i4 (608 + 4 * k + 3) (by omega)).trans l3
      have hrl : rLot (rTk Y a b q k).1 k a b = cLot S d a b := by
        unfold rLot; rw [w0, w1, cLot_p, hp, Bool.true_and]
      have htk : tkn (rTk Y a b q k).1 a b (rTk Y a b q k).2.2 k = if cLot S d a b then mnI (msg S a b q d) (S.1 80 d) else nI 0 := by
        unfold tkn; rw [hrl, w2, i2, mnI_e]
      have hnl : nlf S a b q d = S.1 80 d - (if cLot S d a b then mnI (msg S a b q d) (S.1 80 d) else nI 0) := by
        unfold nlf
        split
        · rfl
        · exact (Int32.sub_zero _).symm
      have htr : 0 ≤ (if cLot S d a b then mnI (msg S a b q d) (S.1 80 d) else nI 0) ∧ (if cLot S d a b then mnI (msg S a b q d) (S.1 80 d) else nI 0) ≤ S.1 80 d := by
        split
        · have := mnI_r hms h80; exact ⟨this.1, this.2.1⟩
        · exact ⟨by decide, h80⟩
      have hmsg : msg S a b q (d + 1) = msg S a b q d - (if cLot S d a b then mnI (msg S a b q d) (S.1 80 d) else nI 0) := by
        rw [msg]
        split
        · rfl
        · exact (Int32.sub_zero _).symm
      rw [e1, rTk, htk, w2, i1, i2, hmsg]
      generalize (if cLot S d a b then mnI (msg S a b q d) (S.1 80 d) else nI 0) = x at *
      by_cases hx : S.1 80 d = x
      · rw [if_neg (not_not_intro hx)]
        have hn : nlp S a b q d = false := by unfold nlp; rw [hnl, decide_eq_true ((i32_sp htr.1 htr.2).mpr hx)]; rfl
        have e2 : cnt (nlp S a b q) (d + 1) = cnt (nlp S a b q) d := by rw [cnt, hn]; rfl
        rw [e2]
        refine ⟨rfl, rfl, fun e he hn2 => ?_, fun j hj => i4 j (by omega)⟩
        by_cases q1 : e = d
        · subst q1; rw [hn] at hn2; cases hn2
        · exact i3 e (by omega) hn2
      · rw [if_pos hx]
        have hn : nlp S a b q d = true := by unfold nlp; rw [hnl, decide_eq_false (fun z => hx ((i32_sp htr.1 htr.2).mp z))]; rfl
        have e2 : cnt (nlp S a b q) (d + 1) = cnt (nlp S a b q) d + 1 := by rw [cnt, hn]; rfl
        rw [i1] at hin
        have mv := mv_at (rTk Y a b q k).1 hin x 4 (Nat.le_refl _)
        rw [e2]
        refine ⟨rfl, rfl, fun e he hn2 => ?_, fun j hj => ?_⟩
        · dsimp only
          by_cases q1 : e = d
          · subst q1
            generalize cnt (nlp S a b q) e = r at *
            refine ⟨?_, ?_, ?_, ?_⟩
            · rw [mv, if_pos (by omega), show 608 + 4 * r + 0 - (608 + 4 * r) = 0 by omega, w0, if_pos (by omega)]; exact Int32.sub_zero _
            · rw [mv, if_pos (by omega), show 608 + 4 * r + 1 - (608 + 4 * r) = 1 by omega, w1, if_pos (by omega)]; exact Int32.sub_zero _
            · rw [mv, if_pos (by omega), show 608 + 4 * r + 2 - (608 + 4 * r) = 2 by omega, w2, if_neg (not_not_intro rfl), hnl]
            · rw [mv, if_pos (by omega), show 608 + 4 * r + 3 - (608 + 4 * r) = 3 by omega, w3, if_pos (by omega)]; exact Int32.sub_zero _
          · have hlt := cnt_lt (p := nlp S a b q) (d := e) (M := d) (by omega) hn2
            have := i3 e (by omega) hn2
            rw [mv, mv, mv, mv, if_neg (by omega), if_neg (by omega), if_neg (by omega), if_neg (by omega)]
            exact this
        · dsimp only
          rw [mv, if_neg (by omega)]
          exact i4 j (by omega)
/-- nothing to be taken -/
theorem cTk_no (S : Mem) (a b q : Int32) : ∀ n, (∀ d, d < n → ¬ cLot S d a b = true) → (cTk S a b q n).1 = S
  | 0, _ => rfl
  | n + 1, h => by
    have ih := cTk_no S a b q n (fun d hd => h d (by omega))
    rw [cTk, ih, if_neg (h n (by omega))]; exact ih
end GT
