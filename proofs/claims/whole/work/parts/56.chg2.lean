/-! release, accept, book on both sides -/
theorem setI_2 (S : Mem) (q j : Nat) (x : Int32) : setI (setI S q j x) q j x = setI S q j x := by
  rw [setI_R S q j x, setI_setR]
  refine setR_x fun z => ?_
  unfold upd; split <;> rfl
theorem m1_nI {n : Nat} (h : n < 1000000) : ¬ (-1 : Int32) = nI n := fun q => absurd (show (-1 : Int32) < 0 by decide) (by rw [q]; exact nI_pos (by omega))
theorem nI_inj {a b : Nat} (ha : a < 1000000) (hb : b < 1000000) (h : nI a = nI b) : a = b := (nI_eq (by omega) (by omega)).mp h
section CH2
variable {S : Mem} {un cn pn N M k t : Nat} {nn mm : Nat → Nat}
theorem chg_release (h : Rl S un cn pn N M) (hh : HR S un cn pn N M k t nn mm) {i b : Nat} (hi : i < N) (hb : b < N) (e1 : S.1 77 i = nI b) (e2 : S.1 77 b = nI i) (hib : i ≠ b) (v : Int64) : Rl (rRel (K0 (setJ (cRel (cRem S t k N M) i b) 191 0 v) k) i b) un cn pn N M := by
  have hw := h.nw
  have hN := hw.N100
  generalize hX : setJ (cRel (cRem S t k N M) i b) 191 0 v = X
  generalize hT : rRel (K0 X k) i b = T
  have X1 : ∀ q, q < 83 → q ≠ 11 → q ≠ 76 → q ≠ 77 → X.1 q = S.1 q := fun q a b c d => by rw [← hX, sJ_1]; unfold cRel; rw [sI_1 c, sI_1 d, sI_1 c, sI_1 d, cRem_1 a b]
  have X76 : ∀ j, X.1 76 j = if j = b then nI 0 else if j = i then nI 0 else S.1 76 j := fun j => by
    rw [← hX, sJ_1]; unfold cRel; rw [sI_e, sI_1 (by decide), sI_e, sI_1 (by decide), cRem_1 (by decide) (by decide)]; rfl
  have X77 : ∀ j, X.1 77 j = if j = b then -1 else if j = i then -1 else S.1 77 j := fun j => by
    rw [← hX, sJ_1]; unfold cRel; rw [sI_1 (by decide), sI_e, sI_1 (by decide), sI_e, cRem_1 (by decide) (by decide)]; rfl
  have X2 : ∀ q, q < 83 → X.2 q = S.2 q := fun q a => by rw [← hX, sJ_2 (by omega)]; unfold cRel; rw [sI_2, sI_2, sI_2, sI_2, cRem_2 a]
  have hA : AgR (K0 X k) T := by rw [← hT]; unfold rRel; exact (((AgR.rf.I (by decide)).I (by decide)).I (by decide)).I (by decide)
  have T1 : ∀ q, 44 ≤ q → q < 83 → T.1 q = X.1 q := fun q z a => by rw [(hA q (by omega) (by omega) (by omega)).1, K0_1 X k (by omega) (by omega)]
  have T2 : ∀ q, q < 83 → q ≠ 37 → T.2 q = S.2 q := fun q a b => by rw [← hT]; unfold rRel; rw [sI_2, sI_2, sI_2, sI_2, K0_2 X k b, X2 q a]
  have T34 : ∀ j, T.1 34 j = if j = 8 + 6 * b + 5 then -1 else if j = 8 + 6 * i + 5 then -1 else if j = 8 + 6 * b + 4 then nI 0 else if j = 8 + 6 * i + 4 then nI 0 else S.1 34 j := fun j => by
    rw [← hT]; unfold rRel; rw [sI_e, sI_e, sI_e, sI_e, K0_1 X k (by decide) (by decide), X1 34 (by decide) (by decide) (by decide) (by decide)]; rfl
  have lo : ∀ j, j ≠ 8 + 6 * b + 5 → j ≠ 8 + 6 * i + 5 → j ≠ 8 + 6 * b + 4 → j ≠ 8 + 6 * i + 4 → T.1 34 j = S.1 34 j := fun j p q r s => by rw [T34, if_neg p, if_neg q, if_neg r, if_neg s]
  have e35 := T2 35 (by decide) (by decide)
  have R : ∀ q, q = 45 ∨ q = 46 ∨ q = 47 ∨ q = 48 ∨ q = 75 → T.1 q = S.1 q := fun q hq => by rw [T1 q (by omega) (by omega), X1 q (by omega) (by omega) (by omega) (by omega)]
  refine chg_items h hh (X := X) (by rw [← hX]; unfold cRel; exact ((((AgC.rf.I (by decide)).I (by decide)).I (by decide)).I (by decide)).J (by decide)) hA (fun q a b _ _ _ c d => X1 q a b c d) (fun q a _ _ _ => X2 q a) (fun j hj => lo j (by omega) (by omega) (by omega) (by omega)) (fun j _ => by rw [e35]) ?_
  refine It_chg (fun j => j = i ∨ j = b) (fun i hi => hw.it hi) (fun j _ hj => ⟨by rw [R 75 (by decide)], ?_, ?_, by rw [T2 78 (by decide) (by decide)], by rw [T2 79 (by decide) (by decide)]⟩) (fun j _ hj => ⟨fun w hw9 => lo _ (by omega) (by omega) (by omega) (by omega), by rw [e35], by rw [e35], by rw [e35]⟩) (fun j _ => ⟨by rw [R 45 (by decide)], by rw [R 46 (by decide)], by rw [R 47 (by decide)], by rw [R 48 (by decide)]⟩) (fun j c hj hc hji p1 p2 hcc => ?_) (fun j hj ej => ?_)
  · rw [T1 76 (by decide) (by decide), X76, if_neg (fun q => hj (Or.inr q)), if_neg (fun q => hj (Or.inl q))]
  · rw [T1 77 (by decide) (by decide), X77, if_neg (fun q => hj (Or.inr q)), if_neg (fun q => hj (Or.inl q))]
  · rcases hcc with q | q
    · rw [q, e1] at p2
      exact hji (Or.inr (nI_inj (by omega) (by omega) p2).symm)
    · rw [q, e2] at p2
      exact hji (Or.inl (nI_inj (by omega) (by omega) p2).symm)
  · obtain ⟨⟨a1, a2, a3, a4, a5, a6, a7, a8, a9⟩, w1, w2, w3, w4, w5⟩ := hw.it hj
    have t76 : T.1 76 j = nI 0 := by
      rw [T1 76 (by decide) (by decide), X76]
      split
      · rfl
      · rename_i q; rw [if_pos (by rcases ej with z | z; exact z; exact absurd z q)]
    have t77 : T.1 77 j = -1 := by
      rw [T1 77 (by decide) (by decide), X77]
      split
      · rfl
      · rename_i q; rw [if_pos (by rcases ej with z | z; exact z; exact absurd z q)]
    refine ⟨ir_mk ?_ ?_ ?_ ?_ ?_ ?_ ?_ ?_ ?_, wi_op ?_ ?_ ?_ ?_ (Or.inl t76) t77⟩
    · rw [lo _ (by omega) (by omega) (by omega) (by omega), R 45 (by decide)]; exact a1
    · rw [lo _ (by omega) (by omega) (by omega) (by omega), R 46 (by decide)]; exact a2
    · rw [lo _ (by omega) (by omega) (by omega) (by omega), R 47 (by decide)]; exact a3
    · rw [lo _ (by omega) (by omega) (by omega) (by omega), R 48 (by decide)]; exact a4
    · rw [t76, T34, if_neg (by omega), if_neg (by omega)]
      split
      · rfl
      · rename_i q; rw [if_pos (by rcases ej with z | z; rw [z]; exact absurd (by rw [z]) q)]
    · rw [t77, T34]
      split
      · rfl
      · rename_i q; rw [if_pos (by rcases ej with z | z; rw [z]; exact absurd (by rw [z]) q)]
    · rw [e35, R 75 (by decide)]; exact a7
    · rw [e35, T2 78 (by decide) (by decide)]; exact a8
    · intro q; rw [t76] at q; exact absurd q (by decide)
    · rw [R 45 (by decide)]; exact w1
    · rw [R 46 (by decide)]; exact w2
    · rw [R 45 (by decide), R 46 (by decide)]; exact w3
    · rw [R 47 (by decide)]; exact w4
theorem i32_64 {v : Int64} (h1 : 1 ≤ v) (h2 : v ≤ 1000000000) : v.toInt32.toInt64 = v := by
  have a1 := Int64.le_iff_toInt_le.mp h1
  have a2 := Int64.le_iff_toInt_le.mp h2
  have b1 : (1 : Int64).toInt = 1 := by decide
  have b2 : (1000000000 : Int64).toInt = 1000000000 := by decide
  rw [b1] at a1; rw [b2] at a2
  apply Int64.toInt_inj.mp
  rw [Int32.toInt_toInt64, Int64.toInt_toInt32]
  rw [Int.bmod_eq_of_le (by omega) (by omega)]
theorem Nw.amtE (h : Nw S un cn pn N M) {i b : Nat} (hi : i < N) (hb : b < N) : rAmt S i b = cAmt S i b := by
  unfold rAmt cAmt
  rw [h.val hi, h.rte hb, if_pos (h.rt2 hb)]
theorem chg_accept (h : Rl S un cn pn N M) (hh : HR S un cn pn N M k t nn mm) {i b : Nat} (hi : i < N) (hb : b < N) (hs : S.1 76 i = nI 2) (e1 : S.1 77 i = nI b) (e2 : S.1 77 b = nI i) (e3 : S.1 76 b = S.1 76 i) (e4 : ¬ S.1 47 b = S.1 47 i) {v : Int64} (h1 : 1 ≤ v) (h2 : v ≤ 1000000000) (v9 : Int64) : Rl (rAcc (K0 (setJ (cAcc (cRem S t k N M) i b v) 191 0 v9) k) i b v) un cn pn N M := by
  have hw := h.nw
  have hN := hw.N100
  have hib : i ≠ b := fun q => e4 (by rw [q])
  generalize hZ : cRem S t k N M = Z
  have Z1 : ∀ q, q < 83 → q ≠ 11 → Z.1 q = S.1 q := fun q a c => by rw [← hZ]; exact cRem_1 a c
  have Z2 : ∀ q, q < 83 → Z.2 q = S.2 q := fun q a => by rw [← hZ]; exact cRem_2 a
  generalize hX : setJ (cAcc Z i b v) 191 0 v9 = X
  generalize hT : rAcc (K0 X k) i b v = T
  have hv := i32_64 h1 h2
  have A75 : (cAc1 Z i b v).1 75 b = v.toInt32 := by unfold cAc1; rw [sI_e, pk_us]
  have A76 : (cAc1 Z i b v).1 76 b = nI 1 := by unfold cAc1; rw [sI_1 (by decide), sI_e, pk_us]
  have Ak : ∀ q, q < 75 ∨ 77 < q → (cAc1 Z i b v).1 q = Z.1 q := fun q hq => cAc1_k Z i b v (by omega) (by omega) (by omega)
  have cv : cVal (cAc1 Z i b v) b = v * (cRate S b).toInt64 / 100 := by
    unfold cVal cRate
    rw [A75, A76, if_pos (by decide), if_pos (by decide), hv, Ak 81 (by omega), Ak 25 (by omega), Ak 45 (by omega), Z1 81 (by decide) (by decide), Z1 25 (by decide) (by decide), Z1 45 (by decide) (by decide)]
  have X1 : ∀ q, q < 83 → q ≠ 11 → q ≠ 75 → q ≠ 76 → q ≠ 77 → X.1 q = S.1 q := fun q a b' c d e => by
    rw [← hX, sJ_1]; unfold cAcc; rw [sJ_1, Ak q (by omega), Z1 q a b']
  have X75 : ∀ j, X.1 75 j = if j = b then v.toInt32 else S.1 75 j := fun j => by
    rw [← hX, sJ_1]; unfold cAcc cAc1; rw [sJ_1, sI_e, sI_1 (by decide), sI_1 (by decide), sI_1 (by decide), sI_1 (by decide), Z1 75 (by decide) (by decide)]; rfl
  have X76 : ∀ j, X.1 76 j = if j = b then nI 1 else if j = i then nI 1 else S.1 76 j := fun j => by
    rw [← hX, sJ_1]; unfold cAcc cAc1; rw [sJ_1, sI_1 (by decide), sI_e, sI_1 (by decide), sI_e, sI_1 (by decide), Z1 76 (by decide) (by decide)]; rfl
  have X77 : ∀ j, X.1 77 j = S.1 77 j := fun j => by
    rw [← hX, sJ_1]; unfold cAcc cAc1; rw [sJ_1, sI_1 (by decide), sI_1 (by decide), sI_e, sI_1 (by decide), sI_e, Z1 77 (by decide) (by decide), updE, updE]
    by_cases p : j = b
    · rw [if_pos p, p]; exact e2.symm
    · rw [if_neg p]
      by_cases q : j = i
      · rw [if_pos q, q]; exact e1.symm
      · rw [if_neg q]
  have X2 : ∀ q, q < 83 → q ≠ 78 → X.2 q = S.2 q := fun q a c => by rw [← hX, sJ_2 (by omega)]; unfold cAcc cAc1; rw [sJ_2 c, sI_2, sI_2, sI_2, sI_2, sI_2, Z2 q a]
  have X78 : ∀ j, X.2 78 j = if j = b then v * (cRate S b).toInt64 / 100 else S.2 78 j := fun j => by
    rw [← hX, sJ_2 (by decide)]; unfold cAcc; rw [sJ_e, cv]; unfold cAc1; rw [sI_2, sI_2, sI_2, sI_2, sI_2, Z2 78 (by decide)]; rfl
  have hA : AgR (K0 X k) T := by rw [← hT]; unfold rAcc rAc1; exact (((AgR.rf.J (by decide)).I (by decide)).I (by decide)).J (by decide)
  have T1 : ∀ q, 44 ≤ q → q < 83 → T.1 q = X.1 q := fun q z a => by rw [(hA q (by omega) (by omega) (by omega)).1, K0_1 X k (by omega) (by omega)]
  have T2 : ∀ q, 44 ≤ q → q < 83 → T.2 q = X.2 q := fun q z a => by rw [(hA q (by omega) (by omega) (by omega)).2, K0_2 X k (by omega)]
  have A34 : ∀ j, (rAc1 (K0 X k) i b v).1 34 j = if j = 8 + 6 * b + 4 then nI 1 else if j = 8 + 6 * i + 4 then nI 1 else S.1 34 j := fun j => by
    unfold rAc1; rw [sI_e, sI_e, sJ_1, K0_1 X k (by decide) (by decide), X1 34 (by decide) (by decide) (by decide) (by decide) (by decide)]; rfl
  have A33 : (rAc1 (K0 X k) i b v).1 33 = S.1 33 := by
    unfold rAc1; rw [sI_1 (by decide), sI_1 (by decide), sJ_1, K0_1 X k (by decide) (by decide), X1 33 (by decide) (by decide) (by decide) (by decide) (by decide)]
  have A35 : ∀ j, (rAc1 (K0 X k) i b v).2 35 j = if j = 9 + b then v else S.2 35 j := fun j => by
    unfold rAc1; rw [sI_2, sI_2, sJ_e, K0_2 X k (by decide), X2 35 (by decide) (by decide)]; rfl
  have lo : ∀ j, j ≠ 8 + 6 * b + 4 → j ≠ 8 + 6 * i + 4 → (rAc1 (K0 X k) i b v).1 34 j = S.1 34 j := fun j p q => by rw [A34, if_neg p, if_neg q]
  have ok45 := (hw.it hb).2.1
  have okc := hw.1.2.1 _ (show gN (S.1 45 b) < cn from ok45.2)
  have rr : rRate (rAc1 (K0 X k) i b v) b = cRate S b := by
    rw [← hw.rte hb]
    unfold rRate
    rw [lo (8 + 6 * b + 0) (by omega) (by omega), A33, hw.e45 hb, okc.1]
    exact lo _ (by have := okc.2.2; have := hw.u4; omega) (by have := okc.2.2; have := hw.u4; omega)
  have rv : rVal (rAc1 (K0 X k) i b v) b = v * (cRate S b).toInt64 / 100 := by
    unfold rVal
    rw [A34, if_pos rfl, if_pos (by decide), if_pos (by decide), A35, if_pos rfl, rr]
  have T34 : ∀ j, T.1 34 j = if j = 8 + 6 * b + 4 then nI 1 else if j = 8 + 6 * i + 4 then nI 1 else S.1 34 j := fun j => by rw [← hT]; unfold rAcc; rw [sJ_1]; exact A34 j
  have T35 : ∀ j, T.2 35 j = if j = 109 + b then v * (cRate S b).toInt64 / 100 else if j = 9 + b then v else S.2 35 j := fun j => by
    rw [← hT]; unfold rAcc; rw [sJ_e, rv, updLE]
    split
    · rfl
    · exact A35 j
  have R : ∀ q, q = 45 ∨ q = 46 ∨ q = 47 ∨ q = 48 → T.1 q = S.1 q := fun q hq => by rw [T1 q (by omega) (by omega), X1 q (by omega) (by omega) (by omega) (by omega) (by omega)]
  have lo4 : ∀ j, j ≠ 8 + 6 * b + 4 → j ≠ 8 + 6 * i + 4 → T.1 34 j = S.1 34 j := fun j p q => by rw [T34, if_neg p, if_neg q]
  have lo5 : ∀ j, j ≠ 109 + b → j ≠ 9 + b → T.2 35 j = S.2 35 j := fun j p q => by rw [T35, if_neg p, if_neg q]
  refine chg_items h hh (X := X) (by rw [← hX, ← hZ]; unfold cAcc cAc1; exact ((((((AgC.rf.I (by decide)).I (by decide)).I (by decide)).I (by decide)).I (by decide)).J (by decide)).J (by decide)) hA (fun q a b' _ _ c d e => X1 q a b' c d e) (fun q a _ c _ => X2 q a c) (fun j hj => lo4 j (by omega) (by omega)) (fun j hj => lo5 j (by omega) (by omega)) ?_
  refine It_chg (fun j => j = i ∨ j = b) (fun i hi => hw.it hi) (fun j _ hj => ⟨?_, ?_, by rw [T1 77 (by decide) (by decide), X77], ?_, by rw [T2 79 (by decide) (by decide), X2 79 (by decide) (by decide)]⟩) (fun j hjN hj => ⟨fun w hw9 => lo4 _ (by omega) (by omega), lo5 _ (by omega) (by omega), lo5 _ (by omega) (by omega), lo5 _ (by omega) (by omega)⟩) (fun j _ => ⟨by rw [R 45 (by decide)], by rw [R 46 (by decide)], by rw [R 47 (by decide)], by rw [R 48 (by decide)]⟩) (fun j c hj hc hji p1 p2 hcc => ?_) (fun j hj ej => ?_)
  · rw [T1 75 (by decide) (by decide), X75, if_neg (fun q => hj (Or.inr q))]
  · rw [T1 76 (by decide) (by decide), X76, if_neg (fun q => hj (Or.inr q)), if_neg (fun q => hj (Or.inl q))]
  · rw [T2 78 (by decide) (by decide), X78, if_neg (fun q => hj (Or.inr q))]
  · rcases hcc with q | q
    · rw [q, e1] at p2
      exact hji (Or.inr (nI_inj (by omega) (by omega) p2).symm)
    · rw [q, e2] at p2
      exact hji (Or.inl (nI_inj (by omega) (by omega) p2).symm)
  · have t76 : ∀ j, (j = i ∨ j = b) → T.1 76 j = nI 1 := fun j ej => by
      rw [T1 76 (by decide) (by decide), X76]
      split
      · rfl
      · rename_i q; rw [if_pos (by rcases ej with z | z; exact z; exact absurd z q)]
    have f4 : ∀ j, (j = i ∨ j = b) → T.1 34 (8 + 6 * j + 4) = nI 1 := fun j ej => by
      rw [T34]
      split
      · rfl
      · rw [if_pos (by omega)]
    have t77 : ∀ j, T.1 77 j = S.1 77 j := fun j => by rw [T1 77 (by decide) (by decide), X77]
    obtain ⟨⟨a1, a2, a3, a4, a5, a6, a7, a8, a9⟩, w1, w2, w3, w4, w5⟩ := hw.it hj
    have hpr : ∃ c, c < N ∧ (c = i ∨ c = b) ∧ S.1 77 j = nI c ∧ S.1 77 c = nI j ∧ ¬ S.1 47 c = S.1 47 j := by
      rcases ej with q | q
      · rw [q]; exact ⟨b, hb, Or.inr rfl, e1, e2, e4⟩
      · rw [q]; exact ⟨i, hi, Or.inl rfl, e2, e1, fun z => e4 z.symm⟩
    obtain ⟨c, hc, hci, p1, p2, p3⟩ := hpr
    refine ⟨ir_mk ?_ ?_ ?_ ?_ ?_ ?_ ?_ ?_ ?_, wi_pr ?_ ?_ ?_ ?_ (Or.inl (t76 j ej)) hc ?_ ?_ ?_ ?_⟩
    · rw [lo4 _ (by omega) (by omega), R 45 (by decide)]; exact a1
    · rw [lo4 _ (by omega) (by omega), R 46 (by decide)]; exact a2
    · rw [lo4 _ (by omega) (by omega), R 47 (by decide)]; exact a3
    · rw [lo4 _ (by omega) (by omega), R 48 (by decide)]; exact a4
    · rw [t76 j ej, f4 j ej]
    · rw [t77, lo4 _ (by omega) (by omega)]; exact a6
    · rw [T35, if_neg (by omega), T1 75 (by decide) (by decide), X75]
      by_cases q : j = b
      · rw [if_pos (by omega), if_pos q, hv]
      · rw [if_neg (by omega), if_neg q]; exact a7
    · rw [T35, T2 78 (by decide) (by decide), X78]
      by_cases q : j = b
      · rw [if_pos (by omega), if_pos q]
      · rw [if_neg (by omega), if_neg (by omega), if_neg q]; exact a8
    · intro q; rw [t76 j ej] at q; exact absurd q (by decide)
    · rw [R 45 (by decide)]; exact w1
    · rw [R 46 (by decide)]; exact w2
    · rw [R 45 (by decide), R 46 (by decide)]; exact w3
    · rw [R 47 (by decide)]; exact w4
    · rw [t77]; exact p1
    · rw [t77]; exact p2
    · rw [t76 c hci, t76 j ej]
    · rw [R 47 (by decide)]; exact p3
theorem chg_book (h : Rl S un cn pn N M) (hh : HR S un cn pn N M k t nn mm) (hN9 : N < 100) {a b : Nat} (ha : a < cn) (hb : b < cn) (hab : a ≠ b) {sd rf am : Int32} (hsd : sd = nI 0 ∨ sd = nI 1) (v9 : Int64) : Rl (rBk (K0 (setJ (cBk (cRem S t k N M) N (nI a) (nI b) sd rf am) 191 0 v9) k) N (nI a) (nI b) sd rf am) un cn pn (N + 1) M := by
  have hw := h.nw
  have c6 := hw.c6
  generalize hZ : cRem S t k N M = Z
  have Z1 : ∀ q, q < 83 → q ≠ 11 → Z.1 q = S.1 q := fun q a c => by rw [← hZ]; exact cRem_1 a c
  have Z2 : ∀ q, q < 83 → Z.2 q = S.2 q := fun q a => by rw [← hZ]; exact cRem_2 a
  generalize hX : setJ (cBk Z N (nI a) (nI b) sd rf am) 191 0 v9 = X
  generalize hT : rBk (K0 X k) N (nI a) (nI b) sd rf am = T
  obtain ⟨hca, hcb⟩ := hw.1.2.1 a ha
  generalize hY : cOpen1 (cBk1 Z N (nI a) (nI b) sd rf) N am = Y
  have Yk : ∀ q, q < 45 ∨ (48 < q ∧ q < 75) ∨ 77 < q → Y.1 q = Z.1 q := fun q hq => by
    rw [← hY]; unfold cOpen1; rw [sI_1 (by omega), sI_1 (by omega), sI_1 (by omega), cBk1_k _ _ _ _ _ _ (by omega)]
  have Y45 : ∀ j, Y.1 45 j = if j = N then nI a else S.1 45 j := fun j => by
    rw [← hY]; unfold cOpen1 cBk1; rw [sI_1 (by decide), sI_1 (by decide), sI_1 (by decide), sI_1 (by decide), sI_1 (by decide), sI_1 (by decide), sI_e, Z1 45 (by decide) (by decide)]; rfl
  have Y46 : ∀ j, Y.1 46 j = if j = N then nI b else S.1 46 j := fun j => by
    rw [← hY]; unfold cOpen1 cBk1; rw [sI_1 (by decide), sI_1 (by decide), sI_1 (by decide), sI_1 (by decide), sI_1 (by decide), sI_e, sI_1 (by decide), Z1 46 (by decide) (by decide)]; rfl
  have Y47 : ∀ j, Y.1 47 j = if j = N then sd else S.1 47 j := fun j => by
    rw [← hY]; unfold cOpen1 cBk1; rw [sI_1 (by decide), sI_1 (by decide), sI_1 (by decide), sI_1 (by decide), sI_e, sI_1 (by decide), sI_1 (by decide), Z1 47 (by decide) (by decide)]; rfl
  have Y48 : ∀ j, Y.1 48 j = if j = N then rf else S.1 48 j := fun j => by
    rw [← hY]; unfold cOpen1 cBk1; rw [sI_1 (by decide), sI_1 (by decide), sI_1 (by decide), sI_e, sI_1 (by decide), sI_1 (by decide), sI_1 (by decide), Z1 48 (by decide) (by decide)]; rfl
  have Y75 : ∀ j, Y.1 75 j = if j = N then am else S.1 75 j := fun j => by
    rw [← hY]; unfold cOpen1; rw [sI_e, sI_1 (by decide), sI_1 (by decide), cBk1_k _ _ _ _ _ _ (by decide), Z1 75 (by decide) (by decide)]; rfl
  have Y76 : ∀ j, Y.1 76 j = if j = N then nI 0 else S.1 76 j := fun j => by
    rw [← hY]; unfold cOpen1; rw [sI_1 (by decide), sI_e, sI_1 (by decide), cBk1_k _ _ _ _ _ _ (by decide), Z1 76 (by decide) (by decide)]; rfl
  have Y77 : ∀ j, Y.1 77 j = if j = N then -1 else S.1 77 j := fun j => by
    rw [← hY]; unfold cOpen1; rw [sI_1 (by decide), sI_1 (by decide), sI_e, cBk1_k _ _ _ _ _ _ (by decide), Z1 77 (by decide) (by decide)]; rfl
  have Y2 : Y.2 = Z.2 := by rw [← hY]; rfl
  have cv : cVal Y N = am.toInt64 * (S.1 81 (gN (S.1 25 a))).toInt64 / 100 := by
    unfold cVal cRate
    rw [Y76, if_pos rfl, if_pos (by decide), if_pos (by decide), Y75, if_pos rfl, Y45, if_pos rfl, gN_nI (by omega), Yk 81 (by omega), Yk 25 (by omega), Z1 81 (by decide) (by decide), Z1 25 (by decide) (by decide)]
  have eX : X = setJ (setI (setJ Y 78 N (cVal Y N)) 74 0 ((cBk1 Z N (nI a) (nI b) sd rf).1 74 0 + nI 1)) 191 0 v9 := by rw [← hX]; unfold cBk cOpen; rw [hY]
  have X1 : ∀ q, q ≠ 74 → X.1 q = Y.1 q := fun q c => by rw [eX, sJ_1, sI_1 c, sJ_1]
  have X74 : ∀ j, X.1 74 j = if j = 0 then nI (N + 1) else S.1 74 j := fun j => by
    rw [eX, sJ_1, sI_e, sJ_1, Yk 74 (by decide), Z1 74 (by decide) (by decide), cBk1_k _ _ _ _ _ _ (by decide), Z1 74 (by decide) (by decide), hw.cN, nI_add N 1]; rfl
  have X78 : ∀ j, X.2 78 j = if j = N then cVal Y N else S.2 78 j := fun j => by
    rw [eX, sJ_2 (by decide), sI_2, sJ_e, Y2, Z2 78 (by decide)]; rfl
  have X2 : ∀ q, q < 83 → q ≠ 78 → X.2 q = S.2 q := fun q c d => by rw [eX, sJ_2 (by omega), sI_2, sJ_2 d, Y2, Z2 q c]
  have hAC : AgC Z X := by
    intro q h1 h2 h3 h4 h5
    refine ⟨by rw [X1 q (by omega), Yk q (by omega)], ?_⟩
    rw [eX, sJ_2 (by omega), sI_2, sJ_2 (by omega), Y2]
  have hA : AgR (K0 X k) T := by rw [← hT]; unfold rBk rBk2 rBk1; exact ((((((((AgR.rf.I (by decide)).I (by decide)).I (by decide)).I (by decide)).I (by decide)).I (by decide)).I (by decide)).J (by decide)).J (by decide)
  have T1 : ∀ q, 44 ≤ q → q < 83 → T.1 q = X.1 q := fun q z a => by rw [(hA q (by omega) (by omega) (by omega)).1, K0_1 X k (by omega) (by omega)]
  have T26 : T.1 26 = S.1 26 := by rw [(hA 26 (by decide) (by decide) (by decide)).1, K0_1 X k (by decide) (by decide), X1 26 (by decide), Yk 26 (by decide), Z1 26 (by decide) (by decide)]
  have T2 : ∀ q, 44 ≤ q → q < 83 → T.2 q = X.2 q := fun q z a => by rw [(hA q (by omega) (by omega) (by omega)).2, K0_2 X k (by omega)]
  have B34 : ∀ j, (rBk1 (K0 X k) N (nI a) (nI b) sd rf).1 34 j = if j = 8 + 6 * N + 5 then -1 else if j = 8 + 6 * N + 4 then nI 0 else if j = 8 + 6 * N + 3 then rf else if j = 8 + 6 * N + 2 then sd else if j = 8 + 6 * N + 1 then nI b else if j = 8 + 6 * N + 0 then nI a else if j = 0 then nI (N + 1) else S.1 34 j := fun j => by
    unfold rBk1; rw [sI_e, sI_e, sI_e, sI_e, sI_e, sI_e, sI_e, K0_1 X k (by decide) (by decide), X1 34 (by decide), Yk 34 (by decide), Z1 34 (by decide) (by decide)]; rfl
  have B33 : (rBk1 (K0 X k) N (nI a) (nI b) sd rf).1 33 = S.1 33 := by
    unfold rBk1; rw [sI_1 (by decide), sI_1 (by decide), sI_1 (by decide), sI_1 (by decide), sI_1 (by decide), sI_1 (by decide), sI_1 (by decide), K0_1 X k (by decide) (by decide), X1 33 (by decide), Yk 33 (by decide), Z1 33 (by decide) (by decide)]
  have B35 : ∀ j, (rBk2 (K0 X k) N (nI a) (nI b) sd rf am).2 35 j = if j = 9 + N then am.toInt64 else S.2 35 j := fun j => by
    unfold rBk2 rBk1; rw [sJ_e, sI_2, sI_2, sI_2, sI_2, sI_2, sI_2, sI_2, K0_2 X k (by decide), X2 35 (by decide) (by decide)]; rfl
  have u4 := hw.u4
  have rr : rRate (rBk2 (K0 X k) N (nI a) (nI b) sd rf am) N = S.1 81 (gN (S.1 25 a)) := by
    unfold rRate rBk2
    rw [sJ_1, B34 (8 + 6 * N + 0), if_neg (by omega), if_neg (by omega), if_neg (by omega), if_neg (by omega), if_neg (by omega), if_pos rfl, gN_nI (by omega), B33, hca, B34, if_neg (by have := hcb.2; omega), if_neg (by have := hcb.2; omega), if_neg (by have := hcb.2; omega), if_neg (by have := hcb.2; omega), if_neg (by have := hcb.2; omega), if_neg (by have := hcb.2; omega), if_neg (by omega)]
    exact hw.rate ⟨hcb.2, by have := hcb.2; omega⟩
  have rv : rVal (rBk2 (K0 X k) N (nI a) (nI b) sd rf am) N = cVal Y N := by
    rw [cv]
    unfold rVal
    rw [rr, B35, if_pos rfl]
    have e4 : (rBk2 (K0 X k) N (nI a) (nI b) sd rf am).1 34 (8 + 6 * N + 4) = nI 0 := by
      unfold rBk2; rw [sJ_1, B34, if_neg (by omega), if_pos rfl]
    rw [e4, if_pos (by decide), if_pos (by decide)]
  have T34 : ∀ j, T.1 34 j = if j = 8 + 6 * N + 5 then -1 else if j = 8 + 6 * N + 4 then nI 0 else if j = 8 + 6 * N + 3 then rf else if j = 8 + 6 * N + 2 then sd else if j = 8 + 6 * N + 1 then nI b else if j = 8 + 6 * N + 0 then nI a else if j = 0 then nI (N + 1) else S.1 34 j := fun j => by
    rw [← hT]; unfold rBk; rw [sJ_1]; unfold rBk2; rw [sJ_1]; exact B34 j
  have T35 : ∀ j, T.2 35 j = if j = 109 + N then cVal Y N else if j = 9 + N then am.toInt64 else S.2 35 j := fun j => by
    rw [← hT]; unfold rBk; rw [sJ_e, rv, updLE]
    split
    · rfl
    · exact B35 j
  have lo : ∀ j, j ≠ 0 → (j < 8 + 6 * N ∨ 8 + 6 * N + 5 < j) → T.1 34 j = S.1 34 j := fun j p q => by
    rw [T34, if_neg (by omega), if_neg (by omega), if_neg (by omega), if_neg (by omega), if_neg (by omega), if_neg (by omega), if_neg p]
  have lo5 : ∀ j, j ≠ 109 + N → j ≠ 9 + N → T.2 35 j = S.2 35 j := fun j p q => by rw [T35, if_neg p, if_neg q]
  refine Rl_chg h hh (X := X) (T := T) (by rw [hZ]; exact hAC) hA (fun i hi c p q => ?_) (fun d _ c p q => by rw [X1 _ (by omega), Yk _ (by omega), Z1 _ (by omega) (by omega)]) ?_ (by omega) (Nat.le_refl _)
  · rw [X1 _ (by omega)]
    rcases (show c = 1 ∨ c = 2 ∨ c = 3 ∨ c = 4 by omega) with rfl | rfl | rfl | rfl
    · rw [Y45, if_neg (by omega)]
    · rw [Y46, if_neg (by omega)]
    · rw [Y47, if_neg (by omega)]
    · rw [Y48, if_neg (by omega)]
  obtain ⟨b1, b2, b3, b4, b5, b6⟩ := hw.sc
  have U : ∀ q, (q = 80 ∨ q = 81) → T.1 q = S.1 q := fun q hq => by rw [T1 q (by omega) (by omega), X1 q (by omega), Yk q (by omega), Z1 q (by omega) (by omega)]
  have T74 : ∀ j, T.1 74 j = if j = 0 then nI (N + 1) else S.1 74 j := fun j => by rw [T1 74 (by decide) (by decide), X74]
  have V : ∀ q, (q = 74 ∨ q = 79 ∨ q = 82) → T.2 q = S.2 q := fun q hq => by rw [T2 q (by omega) (by omega), X2 q (by omega) (by omega)]
  have rows : ∀ d, d < M → ∀ c, 5 ≤ c → c ≤ 9 → T.1 (44 + c) d = S.1 (44 + c) d := fun d _ c a b => by rw [T1 _ (by omega) (by omega), X1 _ (by omega), Yk _ (by omega), Z1 _ (by omega) (by omega)]
  refine St_pk ⟨by omega, b2, by rw [T74, if_pos rfl], by rw [T74, if_neg (by decide)]; exact b4, by rw [T34, if_neg (by omega), if_neg (by omega), if_neg (by omega), if_neg (by omega), if_neg (by omega), if_neg (by omega), if_pos rfl], by rw [lo 2 (by decide) (by omega)]; exact b6⟩ ⟨?_, ?_, ?_, ?_⟩ (fun c hc => ?_) (fun c hc => ?_) (fun u hu => ?_) ?_ ?_ ?_
  · rw [lo 3 (by decide) (by omega), T74, if_neg (by decide)]; exact hw.tol
  · rw [lo5 0 (by omega) (by omega), V 74 (by decide)]; exact hw.s3
  · rw [lo5 1 (by omega) (by omega), V 74 (by decide)]; exact hw.s4
  · rw [lo5 2 (by omega) (by omega), V 74 (by decide)]; exact hw.s5
  · rw [lo _ (by omega) (by omega), U 81 (by decide)]; exact hw.rate hc
  · rw [lo5 _ (by omega) (by omega), V 82 (by decide)]; exact hw.spos hc
  · rw [U 81 (by decide)]; exact hw.rt1 hu
  · intro j hj
    have t1 : ∀ q, q ≠ 74 → 44 ≤ q → q < 83 → T.1 q = Y.1 q := fun q z x y => by rw [T1 q x y, X1 q z]
    by_cases ej : j = N
    · subst ej
      have t76 : T.1 76 j = nI 0 := by rw [t1 76 (by decide) (by decide) (by decide), Y76, if_pos rfl]
      have t45 : T.1 45 j = nI a := by rw [t1 45 (by decide) (by decide) (by decide), Y45, if_pos rfl]
      have t46 : T.1 46 j = nI b := by rw [t1 46 (by decide) (by decide) (by decide), Y46, if_pos rfl]
      have t47 : T.1 47 j = sd := by rw [t1 47 (by decide) (by decide) (by decide), Y47, if_pos rfl]
      have t77 : T.1 77 j = -1 := by rw [t1 77 (by decide) (by decide) (by decide), Y77, if_pos rfl]
      refine ⟨ir_mk ?_ ?_ ?_ ?_ ?_ ?_ ?_ ?_ ?_, wi_op ?_ ?_ ?_ ?_ (Or.inl t76) t77⟩
      · rw [t45, T34, if_neg (by omega), if_neg (by omega), if_neg (by omega), if_neg (by omega), if_neg (by omega), if_pos rfl]
      · rw [t46, T34, if_neg (by omega), if_neg (by omega), if_neg (by omega), if_neg (by omega), if_pos rfl]
      · rw [t47, T34, if_neg (by omega), if_neg (by omega), if_neg (by omega), if_pos rfl]
      · rw [t1 48 (by decide) (by decide) (by decide), Y48, if_pos rfl, T34, if_neg (by omega), if_neg (by omega), if_pos rfl]
      · rw [t76, T34, if_neg (by omega), if_pos rfl]
      · rw [t77, T34, if_pos rfl]
      · rw [t1 75 (by decide) (by decide) (by decide), Y75, if_pos rfl, T35, if_neg (by omega), if_pos rfl]
      · rw [T2 78 (by decide) (by decide), X78, if_pos rfl, T35, if_pos rfl]
      · intro q; rw [t76] at q; exact absurd q (by decide)
      · rw [t45]; exact okI_nI ha (by omega)
      · rw [t46]; exact okI_nI hb (by omega)
      · rw [t45, t46]; exact fun q => hab (nI_inj (by omega) (by omega) q)
      · rw [t47]; exact hsd
    · have hj2 : j < N := by omega
      obtain ⟨⟨a1, a2, a3, a4, a5, a6, a7, a8, a9⟩, w1, w2, w3, w4, w5⟩ := hw.it hj2
      have r45 : ∀ z, z < N → T.1 45 z = S.1 45 z := fun z hz => by rw [t1 45 (by decide) (by decide) (by decide), Y45, if_neg (by omega)]
      have r46 : ∀ z, z < N → T.1 46 z = S.1 46 z := fun z hz => by rw [t1 46 (by decide) (by decide) (by decide), Y46, if_neg (by omega)]
      have r47 : ∀ z, z < N → T.1 47 z = S.1 47 z := fun z hz => by rw [t1 47 (by decide) (by decide) (by decide), Y47, if_neg (by omega)]
      have r48 : ∀ z, z < N → T.1 48 z = S.1 48 z := fun z hz => by rw [t1 48 (by decide) (by decide) (by decide), Y48, if_neg (by omega)]
      have r75 : ∀ z, z < N → T.1 75 z = S.1 75 z := fun z hz => by rw [t1 75 (by decide) (by decide) (by decide), Y75, if_neg (by omega)]
      have r76 : ∀ z, z < N → T.1 76 z = S.1 76 z := fun z hz => by rw [t1 76 (by decide) (by decide) (by decide), Y76, if_neg (by omega)]
      have r77 : ∀ z, z < N → T.1 77 z = S.1 77 z := fun z hz => by rw [t1 77 (by decide) (by decide) (by decide), Y77, if_neg (by omega)]
      refine ⟨ir_mk ?_ ?_ ?_ ?_ ?_ ?_ ?_ ?_ ?_, ?_⟩
      · rw [lo _ (by omega) (by omega), r45 j hj2]; exact a1
      · rw [lo _ (by omega) (by omega), r46 j hj2]; exact a2
      · rw [lo _ (by omega) (by omega), r47 j hj2]; exact a3
      · rw [lo _ (by omega) (by omega), r48 j hj2]; exact a4
      · rw [lo _ (by omega) (by omega), r76 j hj2]; exact a5
      · rw [lo _ (by omega) (by omega), r77 j hj2]; exact a6
      · rw [lo5 _ (by omega) (by omega), r75 j hj2]; exact a7
      · rw [lo5 _ (by omega) (by omega), T2 78 (by decide) (by decide), X78, if_neg ej]; exact a8
      · rw [r76 j hj2, lo5 _ (by omega) (by omega), V 79 (by decide)]; exact a9
      · rcases w5 with ⟨q1, q2⟩ | ⟨q1, c, hc, p1, p2, p3, p4⟩
        · exact wi_op (by rw [r45 j hj2]; exact w1) (by rw [r46 j hj2]; exact w2) (by rw [r45 j hj2, r46 j hj2]; exact w3) (by rw [r47 j hj2]; exact w4) (by rw [r76 j hj2]; exact q1) (by rw [r77 j hj2]; exact q2)
        · exact wi_pr (by rw [r45 j hj2]; exact w1) (by rw [r46 j hj2]; exact w2) (by rw [r45 j hj2, r46 j hj2]; exact w3) (by rw [r47 j hj2]; exact w4) (by rw [r76 j hj2]; exact q1) (b := c) (by omega) (by rw [r77 j hj2]; exact p1) (by rw [r77 c hc]; exact p2) (by rw [r76 c hc, r76 j hj2]; exact p3) (by rw [r47 c hc, r47 j hj2]; exact p4)
  · exact Dl_fr (fun d hd => hw.dl hd) b2 T26 (fun d _ => by rw [U 80 (by decide)]) rows (fun j _ _ => lo j (by omega) (by omega))
  · exact LR_fr h.2.1.2.2.2.2.2.2.2 b2 (fun d _ => by rw [U 80 (by decide)]) rows (lo 1 (by decide) (by omega)) (fun j _ _ => lo j (by omega) (by omega))
end CH2
