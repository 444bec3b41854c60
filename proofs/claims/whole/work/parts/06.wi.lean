/-! within: what it says of whole numbers -/
theorem nI_sub1 {N : Nat} (h : N < 1000000000) : (nI N - nI 1).toInt = (N : Int) - 1 := by
  have := pk_sub_toInt (a := N) (b := 1) (by omega) (by omega)
  simpa using this
theorem i64_lt (x y : Int32) : x.toInt64 < y.toInt64 ↔ x.toInt < y.toInt := by
  rw [Int64.lt_iff_toInt_lt, Int32.toInt_toInt64, Int32.toInt_toInt64]
theorem i64_0 : (0 : Int64) = (nI 0).toInt64 := rfl
theorem nI_ti {k : Nat} (h : k < 2147483648) : (nI k).toInt = (k : Int) := nI_toInt h
theorem nI_ex {x : Int32} {N : Nat} (h0 : 0 ≤ x.toInt) (h : x.toInt < N) (hN : N < 1000000000) : ∃ i, i < N ∧ x = nI i := by
  refine ⟨x.toInt.toNat, by omega, ?_⟩
  apply Int32.toInt_inj.mp
  rw [nI_toInt (by omega)]
  omega
theorem wi_iff {x : Int32} {N : Nat} (hN : N < 1000000000) : wiL x.toInt64 0 (nI N - nI 1).toInt64 = decide (∃ i, i < N ∧ x = nI i) := by
  rw [Bool.eq_iff_iff]
  unfold wiL
  rw [i64_0]
  simp only [Bool.and_eq_true, Bool.not_eq_true', decide_eq_false_iff_not, i64_lt, decide_eq_true_eq]
  rw [nI_sub1 hN, nI_ti (by omega)]
  constructor
  · rintro ⟨h1, h2⟩
    exact nI_ex (by omega) (by omega) hN
  · rintro ⟨i, hi, rfl⟩
    rw [nI_ti (by omega)]
    omega
theorem wi_t {i N : Nat} (h : i < N) (hN : N < 1000000000) : wiL (nI i).toInt64 0 (nI N - nI 1).toInt64 = true := by
  rw [wi_iff hN]
  exact decide_eq_true ⟨i, h, rfl⟩
theorem wi_f {x : Int32} {N : Nat} (h : ¬ ∃ i, i < N ∧ x = nI i) (hN : N < 1000000000) : wiL x.toInt64 0 (nI N - nI 1).toInt64 = false := by
  rw [wi_iff hN]
  exact decide_eq_false h
/-- within between two written numbers -/
theorem wi2_iff {x : Int32} {a b : Nat} (hb : b < 999999999) (ha : a < 1000000000) : wiL x.toInt64 (nI a).toInt64 (nI b).toInt64 = true ↔ ∃ i, a ≤ i ∧ i ≤ b ∧ x = nI i := by
  unfold wiL
  simp only [Bool.and_eq_true, Bool.not_eq_true', decide_eq_false_iff_not, i64_lt]
  rw [nI_ti (k := a) (by omega), nI_ti (k := b) (by omega)]
  constructor
  · rintro ⟨h1, h2⟩
    have h3 := Int.not_lt.mp h1
    have h4 := Int.not_lt.mp h2
    obtain ⟨i, hi, e⟩ := nI_ex (x := x) (N := b + 1) (by omega) (by omega) (by omega)
    rw [e, nI_ti (by omega)] at h3
    exact ⟨i, by omega, by omega, e⟩
  · rintro ⟨i, h1, h2, rfl⟩
    rw [nI_ti (by omega)]
    omega
theorem isIt_t {S : Mem} {i N : Nat} (hN : S.1 34 0 = nI N) (hN2 : N ≤ 100) (h : i < N) : isItR S (nI i) = true := by
  unfold isItR; rw [hN]; exact wi_t h (by omega)
theorem isIt_f {S : Mem} {x : Int32} {N : Nat} (hN : S.1 34 0 = nI N) (hN2 : N ≤ 100) (h : ¬ ∃ i, i < N ∧ x = nI i) : isItR S x = false := by
  unfold isItR; rw [hN]; exact wi_f h (by omega)
theorem isCo_t {S : Mem} {i N : Nat} (hN : S.1 33 1 = nI N) (hN2 : N ≤ 6) (h : i < N) : isCoR S (nI i) = true := by
  unfold isCoR; rw [hN]; exact wi_t h (by omega)
theorem isCo_f {S : Mem} {x : Int32} {N : Nat} (hN : S.1 33 1 = nI N) (hN2 : N ≤ 6) (h : ¬ ∃ i, i < N ∧ x = nI i) : isCoR S x = false := by
  unfold isCoR; rw [hN]; exact wi_f h (by omega)
theorem isPr_t {S : Mem} {i N : Nat} (hN : S.1 33 2 = nI N) (hN2 : N ≤ 6) (h : i < N) : isPrR S (nI i) = true := by
  unfold isPrR; rw [hN]; exact wi_t h (by omega)
theorem isPr_f {S : Mem} {x : Int32} {N : Nat} (hN : S.1 33 2 = nI N) (hN2 : N ≤ 6) (h : ¬ ∃ i, i < N ∧ x = nI i) : isPrR S x = false := by
  unfold isPrR; rw [hN]; exact wi_f h (by omega)
