/-! answers of both sides: items, balances, positions -/
theorem sumL_0 {f : Nat → Int64} : ∀ {n : Nat}, (∀ j, j < n → f j = 0) → sumL f n = 0
  | 0, _ => rfl
  | n + 1, h => by
    rw [sumL, sumL_0 (fun j hj => h j (by omega)), h n (by omega)]; rfl
theorem sumL_sub (f g : Nat → Int64) : ∀ n, sumL (fun j => f j - g j) n = sumL f n - sumL g n
  | 0 => by show (0 : Int64) = 0 - 0; decide
  | n + 1 => by
    rw [sumL, sumL, sumL, sumL_sub f g n]
    grind
theorem sumL_add (f g : Nat → Int64) : ∀ n, sumL (fun j => f j + g j) n = sumL f n + sumL g n
  | 0 => rfl
  | n + 1 => by
    rw [sumL, sumL, sumL, sumL_add f g n]
    grind
theorem sumN_congr {f f' : Nat → Nat} : ∀ {n : Nat}, (∀ j, j < n → f j = f' j) → sumN f n = sumN f' n
  | 0, _ => rfl
  | n + 1, h => by
    rw [sumN, sumN, sumN_congr (fun j hj => h j (by omega)), h n (by omega)]
theorem abs_eq (x : Int64) : absL x = abL x := by
  unfold absL abL
  by_cases h : 0 < x
  · rw [if_pos h, if_pos (Int64.le_of_lt h)]
  · rw [if_neg h]
    by_cases h0 : x = 0
    · subst h0; decide
    · rw [if_neg (fun h2 => h (by
        rcases Int64.lt_or_eq_of_le h2 with h3 | h3
        · exact h3
        · exact absurd h3.symm h0))]
section ASK
variable {S : Mem} {un cn pn N M : Nat}
theorem Nw.cndE (h : Nw S un cn pn N M) {i : Nat} (hi : i < N) : cnt (rCan S i) N = cnt (fun j => decide (S.1 76 j = 0) && cMir S i j) N :=
  cnt_congr (fun j hj => by unfold rCan; rw [h.e76 hj, h.mir hi hj])
theorem Nw.cdE (h : Nw S un cn pn N M) {i : Nat} (hi : i < N) : rCd S i = cCd S i := by
  unfold rCd cCd; rw [h.e76 hi, h.val hi, h.e78 hi]
theorem Nw.pdE (h : Nw S un cn pn N M) {i b : Nat} (hi : i < N) (hb : b < N) : rPd S i b = cPd S i b := by
  unfold rPd cPd
  rw [h.e47 hi, h.val hi, h.val hb]
  split
  · grind
  · rfl
theorem Nw.balE (h : Nw S un cn pn N M) {j : Nat} (hj : j < N) (a b : Int32) : gBal S a b j = fBal S a b j := by
  unfold gBal fBal rCnt
  rw [h.e45 hj, h.e46 hj, h.e47 hj, h.e76 hj, h.val hj]
  rcases h.sd hj with hs | hs <;> rcases h.st hj with ht | ht | ht | ht | ht <;> rw [hs, ht] <;> simp (decide := true)
theorem Nw.bal0 (h : Nw S un cn pn N M) {j : Nat} (hj : j < N) (a : Int32) : fBal S a a j = 0 := by
  have hne : ¬ S.1 45 j = S.1 46 j := (h.it hj).2.2.2.1
  unfold fBal
  by_cases h1 : S.1 45 j = a
  · have h2 : ¬ S.1 46 j = a := fun e => hne (h1.trans e.symm)
    simp [h1, h2]
  · simp [h1]
theorem Nw.net0 (h : Nw S un cn pn N M) {j : Nat} (hj : j < N) : gNet S (nI 0 - nI 1) j = fNet S (nI 0) (nI 2) j := by
  unfold gNet fNet rCnt
  rw [h.e47 hj, h.e76 hj, h.val hj]
  rcases h.sd hj with hs | hs <;> rcases h.st hj with ht | ht | ht | ht | ht <;> rw [hs, ht] <;> simp (decide := true)
theorem Nw.net1 (h : Nw S un cn pn N M) {j : Nat} (hj : j < N) : gNet S (nI 1 - nI 1) j = fNet S (nI 0) (nI 0) j := by
  unfold gNet fNet rCnt
  rw [h.e47 hj, h.e76 hj, h.val hj]
  rcases h.sd hj with hs | hs <;> rcases h.st hj with ht | ht | ht | ht | ht <;> rw [hs, ht] <;> simp (decide := true)
theorem Nw.net2 (h : Nw S un cn pn N M) {j : Nat} (hj : j < N) : gNet S (nI 2 - nI 1) j = fNet S (nI 1) (nI 1) j := by
  unfold gNet fNet rCnt
  rw [h.e47 hj, h.e76 hj, h.val hj]
  rcases h.sd hj with hs | hs <;> rcases h.st hj with ht | ht | ht | ht | ht <;> rw [hs, ht] <;> simp (decide := true)
theorem Nw.net3 (h : Nw S un cn pn N M) {j : Nat} (hj : j < N) : gNet S (nI 3 - nI 1) j = fNet S (nI 2) (nI 2) j := by
  unfold gNet fNet rCnt
  rw [h.e47 hj, h.e76 hj, h.val hj]
  rcases h.sd hj with hs | hs <;> rcases h.st hj with ht | ht | ht | ht | ht <;> rw [hs, ht] <;> simp (decide := true)
theorem Nw.goodE (h : Nw S un cn pn N M) : rGood S N = cGood S N := by
  unfold rGood cGood
  rw [cnt_congr (fun j hj => h.is_ hj (nI 0) (nI 1)), cnt_congr (fun j hj => h.is_ hj (nI 0) (nI 3))]
theorem Nw.allE (h : Nw S un cn pn N M) : rAll S N = cAll S N := by
  unfold rAll cAll
  rw [h.goodE, cnt_congr (fun j hj => h.is_ hj (nI 0) (nI 2))]
theorem Nw.betE (h : Nw S un cn pn N M) {j : Nat} (hj : j < N) (a b : Int32) : gBet S a b j = fOwe S a b j - fOwe S b a j := by
  unfold gBet fOwe
  rw [h.is_ hj, h.e45 hj, h.e46 hj, h.val hj]
  cases cIs S j (nI 0) (nI 1)
  · simp
  · by_cases h1 : S.1 45 j = a <;> by_cases h2 : S.1 46 j = b <;> by_cases h3 : S.1 45 j = b <;> by_cases h4 : S.1 46 j = a <;> simp [h1, h2, h3, h4] <;> grind
theorem Nw.brE (h : Nw S un cn pn N M) (a b : Nat) : rBr S N a b = cUr S N a b := by
  unfold rBr cUr rBt cUn
  rw [sumL_congr (fun j hj => h.betE hj (nI a) (nI b)), sumL_sub]
  congr 2
  refine decide_eq_decide.mpr ⟨fun e => ?_, fun e => ?_⟩
  · grind
  · rw [e]; grind
theorem Nw.posE (h : Nw S un cn pn N M) {c : Nat} (hc : c < 6) : ∀ n, n ≤ N → cPos S n c = sumL (gPos S (nI c)) n
  | 0, _ => by
    rw [cPos, sumL]
    unfold zL
    rw [if_pos hc]
  | n + 1, hn => by
    have ih := h.posE hc n (by omega)
    have hj : n < N := by omega
    have k1 : okI (S.1 45 n) cn := (h.it hj).2.1
    have k2 : okI (S.1 46 n) cn := (h.it hj).2.2.1
    have c6 := h.c6
    have e1 : (S.1 45 n = nI c) = (gN (S.1 45 n) = c) := by
      rw [k1.1, gN_nI (by have := k1.2; omega)]
      exact propext (nI_eq (by have := k1.2; omega) (by omega))
    have e2 : (S.1 46 n = nI c) = (gN (S.1 46 n) = c) := by
      rw [k2.1, gN_nI (by have := k2.2; omega)]
      exact propext (nI_eq (by have := k2.2; omega) (by omega))
    rw [cPos, sumL, ← ih]
    unfold gPos
    rw [h.is_ hj, h.e45 hj, h.e46 hj, h.val hj]
    cases hs : cIs S n (nI 0) (nI 1)
    · simp
    · simp only [if_true, e1, e2]
      unfold vp_updL
      by_cases h1 : gN (S.1 45 n) = c
      · by_cases h2 : gN (S.1 46 n) = c
        · simp [h1, h2]; try grind
        · have h3 : ¬ c = gN (S.1 46 n) := fun e => h2 e.symm
          simp [h1, h2, h3]; try grind
      · have h4 : ¬ c = gN (S.1 45 n) := fun e => h1 e.symm
        by_cases h2 : gN (S.1 46 n) = c
        · simp [h1, h2, h4]; try grind
        · have h3 : ¬ c = gN (S.1 46 n) := fun e => h2 e.symm
          simp [h1, h2, h3, h4]
end ASK
