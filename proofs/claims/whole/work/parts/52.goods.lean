/-! answers of both sides: goods -/
theorem lot_sumL {p : Nat → Bool} {F G : Nat → Int64} : ∀ {M : Nat}, (∀ d, d < M → p d = true → F (cnt p d) = G d) → (∀ d, d < M → p d = false → G d = 0) → sumL F (cnt p M) = sumL G M
  | 0, _, _ => rfl
  | M + 1, h, h0 => by
    have ih := lot_sumL (fun d hd => h d (Nat.lt_succ_of_lt hd)) (fun d hd => h0 d (Nat.lt_succ_of_lt hd))
    rw [cnt, sumL]
    cases hp : p M with
    | false => simp only [Bool.false_eq_true, if_false, Nat.add_zero]; rw [ih, h0 M (by omega) hp, Int64.add_zero]
    | true => simp only [if_true]; rw [sumL, ih, h M (by omega) hp]
theorem lot_sumI {p : Nat → Bool} {F G : Nat → Int32} : ∀ {M : Nat}, (∀ d, d < M → p d = true → F (cnt p d) = G d) → (∀ d, d < M → p d = false → G d = 0) → sumI F (cnt p M) = sumI G M
  | 0, _, _ => rfl
  | M + 1, h, h0 => by
    have ih := lot_sumI (fun d hd => h d (Nat.lt_succ_of_lt hd)) (fun d hd => h0 d (Nat.lt_succ_of_lt hd))
    rw [cnt, sumI]
    cases hp : p M with
    | false => simp only [Bool.false_eq_true, if_false, Nat.add_zero]; rw [ih, h0 M (by omega) hp, Int32.add_zero]
    | true => simp only [if_true]; rw [sumI, ih, h M (by omega) hp]
theorem cnt_ex {p : Nat → Bool} : ∀ {M j : Nat}, j < cnt p M → ∃ d, d < M ∧ p d = true ∧ cnt p d = j
  | 0, j, h => by cases h
  | M + 1, j, h => by
    rw [cnt] at h
    by_cases hj : j < cnt p M
    · obtain ⟨d, h1, h2, h3⟩ := cnt_ex hj
      exact ⟨d, by omega, h2, h3⟩
    · cases hp : p M with
      | false => rw [hp] at h; simp only [Bool.false_eq_true, if_false, Nat.add_zero] at h; omega
      | true => rw [hp] at h; simp only [if_true] at h; exact ⟨M, by omega, hp, by omega⟩
theorem fst_lot {p q : Nat → Bool} {v : Nat → Int32} {Q : Nat → Bool} {V : Nat → Int32} {M : Nat} (h : ∀ d, d < M → p d = true → Q (cnt p d) = q d ∧ V (cnt p d) = v d) : ∀ n d, n + d = M → fstP (fun d => p d && q d) v n d = fstP Q V (cnt p M - cnt p d) (cnt p d)
  | 0, d, e => by
    rw [show d = M by omega, Nat.sub_self]; rfl
  | n + 1, d, e => by
    have ih := fst_lot h n (d + 1) (by omega)
    have hd : d < M := by omega
    rw [fstP, ih, cnt]
    cases hp : p d with
    | false => simp only [Bool.false_and, Bool.false_eq_true, if_false, Nat.add_zero]
    | true =>
      obtain ⟨h1, h2⟩ := h d hd hp
      have hlt := cnt_lt hd hp
      simp only [Bool.true_and, if_true]
      rw [show cnt p M - cnt p d = (cnt p M - (cnt p d + 1)) + 1 by omega, fstP, h1, h2]
section GDS
variable {S : Mem} {un cn pn N M : Nat}
/-- the lots that there are -/
abbrev lts (S : Mem) (M : Nat) : Nat := cnt (lotP S 74) M
theorem Nw.rL (h : Nw S un cn pn N M) : S.1 34 1 = nI (lts S M) := h.2.2.2.2.2.2.2.2.1
theorem Nw.L100 (h : Nw S un cn pn N M) : lts S M ≤ 100 := Nat.le_trans (cnt_le _ _) h.M100
theorem Nw.lt (h : Nw S un cn pn N M) {d : Nat} (hd : d < M) (hp : lotP S 74 d = true) : S.1 34 (608 + 4 * cnt (lotP S 74) d + 0) = S.1 51 d ∧ S.1 34 (608 + 4 * cnt (lotP S 74) d + 1) = S.1 49 d ∧ S.1 34 (608 + 4 * cnt (lotP S 74) d + 2) = S.1 80 d ∧ S.1 34 (608 + 4 * cnt (lotP S 74) d + 3) = S.1 53 d := h.2.2.2.2.2.2.2.2.2 d hd hp
theorem Nw.ok49 (h : Nw S un cn pn N M) {d : Nat} (hd : d < M) : okI (S.1 49 d) pn := (h.dl hd).2.1
theorem Nw.ok49' (h : Nw S un cn pn N M) {d : Nat} (hd : d < M) : okI (S.1 49 d) 6 := okI_le (h.ok49 hd) h.p6
theorem Nw.left0 (h : Nw S un cn pn N M) {d : Nat} (hd : d < M) : 0 ≤ S.1 80 d := (h.dl hd).2.2.1
theorem Nw.lot0 (h : Nw S un cn pn N M) {d : Nat} (hd : d < M) (hp : lotP S 74 d = false) : S.1 80 d = 0 := by
  have h1 := h.left0 hd
  unfold lotP at hp
  have h2 : S.1 80 d ≤ 0 := by simpa using hp
  exact Int32.le_antisymm h2 h1
theorem Nw.okL (h : Nw S un cn pn N M) {j : Nat} (hj : j < lts S M) : okI (S.1 34 (608 + 4 * j + 1)) 6 := by
  obtain ⟨d, h1, h2, h3⟩ := cnt_ex hj
  rw [← h3, (h.lt h1 h2).2.1]
  exact h.ok49' h1
theorem Nw.okD (h : Nw S un cn pn N M) {d : Nat} (hd : d < M) : okI (S.1 34 (1008 + 5 * d + 0)) 6 := by
  rw [(h.dl hd).1.1]
  exact h.ok49' hd
theorem Nw.cst (h : Nw S un cn pn N M) {d : Nat} (hd : d < M) : S.1 33 (22 + gN (S.1 49 d)) = cCost S d := (h.1.2.2 _ (h.ok49 hd).2).2.1
theorem cLot_p (S : Mem) (d : Nat) (a b : Int32) : cLot S d a b = (lotP S 74 d && (decide (S.1 51 d = a) && decide (S.1 49 d = b))) := by
  unfold cLot lotP; exact Bool.and_assoc _ _ _
theorem Nw.stkE (h : Nw S un cn pn N M) (a b : Int32) : sumI (rStk S a b) (lts S M) = sumI (cPcs S a b) M := by
  refine lot_sumI (fun d hd hp => ?_) (fun d hd hp => ?_)
  · obtain ⟨e1, e2, e3, e4⟩ := h.lt hd hp
    unfold rStk cPcs rLot
    rw [e1, e2, e3, cLot_p, hp, Bool.true_and]
  · unfold cPcs; rw [cLot_p, hp, Bool.false_and]; rfl
theorem Nw.canE (h : Nw S un cn pn N M) (a : Int32) {b : Nat} (hb : b < pn) (q : Int32) : rCan2 S a b q (lts S M) = cCan S a b q M := by
  unfold rCan2 cCan
  rw [h.stkE, (h.1.2.2 b hb).1]
theorem Nw.oldE (h : Nw S un cn pn N M) (a b : Int32) : fstP (fun j => rLot S j a b) (fun j => S.1 34 (608 + 4 * j + 3)) (lts S M) 0 = fstP (fun d => cLot S d a b) (fun d => S.1 53 d) M 0 := by
  have h1 := fst_lot (p := lotP S 74) (q := fun d => decide (S.1 51 d = a) && decide (S.1 49 d = b)) (v := fun d => S.1 53 d) (Q := fun j => rLot S j a b) (V := fun j => S.1 34 (608 + 4 * j + 3)) (M := M) (fun d hd hp => by
    obtain ⟨e1, e2, e3, e4⟩ := h.lt hd hp
    refine ⟨?_, e4⟩
    show rLot S _ a b = _
    unfold rLot
    rw [e1, e2]) M 0 (by omega)
  rw [show cnt (lotP S 74) 0 = 0 from rfl, Nat.sub_zero] at h1
  rw [← h1]
  congr 1
  funext d
  exact (cLot_p S d a b).symm
theorem Nw.perE (h : Nw S un cn pn N M) {d : Nat} (hd : d < M) (hp : lotP S 74 d = true) : rPer S (cnt (lotP S 74) d) = (S.1 53 d - cCost S d).toInt64 := by
  obtain ⟨e1, e2, e3, e4⟩ := h.lt hd hp
  unfold rPer
  rw [e4, e2, h.cst hd]
theorem i64_00 : (0 : Int32).toInt64 = 0 := by decide
theorem cOn_0 {S : Mem} {d : Nat} : cOn S d 0 = 0 := by unfold cOn; rw [i64_00, Int64.zero_mul]
theorem Nw.allP (h : Nw S un cn pn N M) : sumL (gPro S (-1)) (lts S M) = sumL (fAll S) M := by
  refine lot_sumL (fun d hd hp => ?_) (fun d hd hp => ?_)
  · unfold gPro fAll cOn
    rw [if_pos (by decide), (h.lt hd hp).2.2.1, h.perE hd hp]
  · unfold fAll; rw [h.lot0 hd hp]; exact cOn_0
def fOf (S : Mem) (a : Int32) (d : Nat) : Int64 := if S.1 51 d = a then cOn S d (S.1 80 d) else 0
theorem Nw.proE (h : Nw S un cn pn N M) {a : Nat} (ha : a < 1000) : sumL (gPro S (nI a)) (lts S M) = sumL (fOf S (nI a)) M := by
  refine lot_sumL (fun d hd hp => ?_) (fun d hd hp => ?_)
  · unfold gPro fOf cOn
    rw [if_neg (nI_pos (by omega)), (h.lt hd hp).2.2.1, h.perE hd hp, (h.lt hd hp).1]
  · unfold fOf; rw [h.lot0 hd hp, cOn_0]; split <;> rfl
theorem Nw.cstE (h : Nw S un cn pn N M) (a : Int32) : sumL (gCst S a) (lts S M) = sumL (fCst S a) M := by
  refine lot_sumL (fun d hd hp => ?_) (fun d hd hp => ?_)
  · obtain ⟨e1, e2, e3, e4⟩ := h.lt hd hp
    unfold gCst fCst
    rw [e1, e2, e3, h.cst hd]
  · unfold fCst; rw [h.lot0 hd hp, i64_00, Int64.zero_mul]; split <;> rfl
theorem cPA_no (S : Mem) (a b q : Int32) : ∀ n, (∀ d, d < n → ¬ S.1 49 d = b) → cPA S a b q n = (q, sumL (fOf S a) n)
  | 0, _ => rfl
  | n + 1, h => by
    rw [cPA, sumL, cPA_no S a b q n (fun d hd => h d (by omega)), if_neg (h n (by omega))]
    unfold fOf
    split
    · rfl
    · rw [Int64.add_zero]
theorem Nw.unrE (h : Nw S un cn pn N M) {a : Nat} (ha : a < 1000) : sumL (gPro S (nI a)) (lts S M) = (cPA S (nI a) (-1) (nI 0) M).2 := by
  rw [cPA_no S (nI a) (-1) (nI 0) M (fun d hd e => by
    have h1 := (h.ok49 hd)
    rw [e] at h1
    have h2 := h1.1
    exact absurd h2 (by decide)), h.proE ha]
theorem Nw.gapE (h : Nw S un cn pn N M) {d : Nat} (hd : d < M) : rGap S d = cGap S d := by
  have h1 := (h.dl hd).1
  have h2 := h.1.2.2 _ (h.ok49 hd).2
  have e0 : S.1 34 (1008 + 5 * d + 0) = S.1 49 d := h1.1
  have e3 : S.1 34 (1008 + 5 * d + 3) = S.1 52 d := h1.2.2.2.1
  have e4 : S.1 34 (1008 + 5 * d + 4) = S.1 53 d := h1.2.2.2.2
  unfold rGap cGap rApt
  rw [e0, e3, e4, h2.2.2.1, h2.2.2.2]
  split
  · split
    · rw [Int64.zero_mul]
    · exact Int64.mul_comm _ _
  · exact Int64.mul_comm _ _
theorem Nw.gapsE (h : Nw S un cn pn N M) (a : Int32) : sumL (gGap S a) M = sumL (fGap S a) M := by
  refine sumL_congr (fun d hd => ?_)
  have h1 := (h.dl hd).1
  have e1 : S.1 34 (1008 + 5 * d + 1) = S.1 50 d := h1.2.1
  have e2 : S.1 34 (1008 + 5 * d + 2) = S.1 51 d := h1.2.2.1
  unfold gGap fGap
  rw [e1, e2, h.gapE hd]
end GDS
