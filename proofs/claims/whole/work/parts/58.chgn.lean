/-! net as a change on both sides -/
theorem sumL_one (x : Int64) (k : Nat) : ∀ n, sumL (fun j => if j = k then x else 0) n = if k < n then x else 0
  | 0 => rfl
  | n + 1 => by
    rw [sumL, sumL_one x k n]
    by_cases e : n = k
    · rw [if_neg (by omega), if_pos e, if_pos (by omega), Int64.zero_add]
    · rw [if_neg e, Int64.add_zero]
      by_cases h : k < n
      · rw [if_pos h, if_pos (by omega)]
      · rw [if_neg h, if_neg (by omega)]
theorem sumL_swap (F : Nat → Nat → Int64) (m : Nat) : ∀ n, sumL (fun i => sumL (fun j => F i j) m) n = sumL (fun j => sumL (fun i => F i j) n) m
  | 0 => by
    show (0 : Int64) = _
    exact (sumL_0 (fun j _ => rfl)).symm
  | n + 1 => by
    rw [sumL, sumL_swap F m n, ← sumL_add]
    rfl
/-- a sum over the partners -/
theorem sum_inv {R Q : Nat → Bool} {π : Nat → Nat} {w : Nat → Int64} {N : Nat} (h1 : ∀ j, j < N → R j = true → π j < N ∧ Q (π j) = true ∧ π (π j) = j) (h2 : ∀ j, j < N → Q j = true → π j < N ∧ R (π j) = true ∧ π (π j) = j) :
    sumL (fun j => if R j then w (π j) else 0) N = sumL (fun j => if Q j then w j else 0) N := by
  have e1 : sumL (fun j => if R j then w (π j) else 0) N = sumL (fun i => sumL (fun j => if R i = true ∧ π i = j then w j else 0) N) N := by
    refine sumL_congr (fun i hi => ?_)
    cases hR : R i with
    | false => simp only [Bool.false_eq_true, false_and, if_false]; exact (sumL_0 (fun _ _ => rfl)).symm
    | true =>
      obtain ⟨a, -, -⟩ := h1 i hi hR
      simp only [if_true, true_and]
      have := sumL_one (w (π i)) (π i) N
      rw [if_pos a] at this
      rw [← this]
      refine sumL_congr (fun j _ => ?_)
      by_cases e : j = π i
      · rw [if_pos e, if_pos e.symm, e]
      · rw [if_neg e, if_neg (fun q => e q.symm)]
  rw [e1, sumL_swap]
  refine sumL_congr (fun j hj => ?_)
  cases hQ : Q j with
  | false =>
    simp only [Bool.false_eq_true, if_false]
    refine sumL_0 (fun i hi => ?_)
    rw [if_neg]
    rintro ⟨a, b⟩
    have := (h1 i hi a).2.1
    rw [b, hQ] at this
    cases this
  | true =>
    obtain ⟨a, b, c⟩ := h2 j hj hQ
    simp only [if_true]
    have := sumL_one (w j) (π j) N
    rw [if_pos a] at this
    refine Eq.trans (sumL_congr (fun i hi => ?_)) this
    by_cases e : i = π j
    · rw [if_pos e, if_pos ⟨by rw [e]; exact b, by rw [e]; exact c⟩]
    · rw [if_neg e, if_neg]
      rintro ⟨p, q⟩
      exact e (by rw [← q, (h1 i hi p).2.2])
def fSt (S : Mem) (j : Nat) : Int64 := if S.1 76 j = nI 1 then (if S.1 47 j = 0 then cVal S j else -(cVal S j)) else 0
theorem stl_c (Y : Mem) : ∀ i, (∀ j, (cStl Y i).1 76 j = if j < i ∧ Y.1 76 j = nI 1 then nI 3 else Y.1 76 j) ∧ (∀ j, (cStl Y i).2 79 j = if j < i ∧ Y.1 76 j = nI 1 then cVal Y j else Y.2 79 j) ∧ (cStl Y i).2 74 3 = Y.2 74 3 + sumL (fSt Y) i ∧ (∀ z, z ≠ 3 → (cStl Y i).2 74 z = Y.2 74 z)
  | 0 => ⟨fun j => by rw [if_neg (by omega)]; rfl, fun j => by rw [if_neg (by omega)]; rfl, by rw [sumL, Int64.add_zero]; rfl, fun z _ => rfl⟩
  | i + 1 => by
    obtain ⟨h1, h2, h3, h4⟩ := stl_c Y i
    have hsi : (cStl Y i).1 76 i = Y.1 76 i := by rw [h1, if_neg (by omega)]
    by_cases hs : Y.1 76 i = nI 1
    · have hcv : cVal (cStl Y i) i = cVal Y i := by
        unfold cVal cRate
        rw [hsi, hs, cStl_k Y (by decide) i, cStl_k Y (by decide) i, cStl_k Y (by decide) i, cStl_k Y (by decide) i, if_pos (by decide), if_pos (by decide), if_pos (by decide), if_pos (by decide)]
      have e : cStl Y (i + 1) = setJ (setI (setJ (cStl Y i) 79 i (cVal Y i)) 76 i (nI 3)) 74 3 ((cStl Y i).2 74 3 + fSt Y i) := by
        rw [cStl, if_pos (by rw [hsi]; exact hs), hcv, cStl_k Y (by decide) i]
        unfold fSt
        rw [if_pos hs]
      refine ⟨fun j => ?_, fun j => ?_, ?_, fun z hz => ?_⟩
      · rw [e, sJ_1, sI_e, sJ_1, updE, h1]
        by_cases p : j = i
        · subst p; rw [if_pos rfl, if_pos ⟨by omega, hs⟩]
        · rw [if_neg p]
          by_cases q : j < i ∧ Y.1 76 j = nI 1
          · rw [if_pos q, if_pos ⟨by omega, q.2⟩]
          · rw [if_neg q, if_neg (fun z => q ⟨by omega, z.2⟩)]
      · rw [e, sJ_2 (by decide), sI_2, sJ_e, updLE, h2]
        by_cases p : j = i
        · subst p; rw [if_pos rfl, if_pos ⟨by omega, hs⟩]
        · rw [if_neg p]
          by_cases q : j < i ∧ Y.1 76 j = nI 1
          · rw [if_pos q, if_pos ⟨by omega, q.2⟩]
          · rw [if_neg q, if_neg (fun z => q ⟨by omega, z.2⟩)]
      · rw [e, sJ_e, updLE, if_pos rfl, h3, sumL, Int64.add_assoc]
      · rw [e, sJ_e, updLE, if_neg hz, sI_2, sJ_2 (by decide)]; exact h4 z hz
    · have e : cStl Y (i + 1) = cStl Y i := by rw [cStl, if_neg (by rw [hsi]; exact hs)]
      rw [e]
      refine ⟨fun j => ?_, fun j => ?_, ?_, h4⟩
      · rw [h1]
        by_cases q : j < i ∧ Y.1 76 j = nI 1
        · rw [if_pos q, if_pos ⟨by omega, q.2⟩]
        · rw [if_neg q, if_neg (fun z => q ⟨by
            by_cases p : j = i
            · rw [p] at z; exact absurd z.2 hs
            · omega, z.2⟩)]
      · rw [h2]
        by_cases q : j < i ∧ Y.1 76 j = nI 1
        · rw [if_pos q, if_pos ⟨by omega, q.2⟩]
        · rw [if_neg q, if_neg (fun z => q ⟨by
            by_cases p : j = i
            · rw [p] at z; exact absurd z.2 hs
            · omega, z.2⟩)]
      · rw [h3, sumL]
        have : fSt Y i = 0 := by unfold fSt; rw [if_neg hs]
        rw [this, Int64.add_zero]
theorem cPos_of {S T : Mem} (e : ∀ q, q = 25 ∨ (45 ≤ q ∧ q ≤ 47) ∨ q = 75 ∨ q = 76 ∨ q = 81 → T.1 q = S.1 q) (e2 : T.2 79 = S.2 79) (e7 : T.2 7 = S.2 7) : ∀ n, cPos T n = cPos S n
  | 0 => by rw [cPos, cPos, e7]
  | n + 1 => by
    have ih := cPos_of e e2 e7 n
    have hv : cVal T n = cVal S n := cVal_of (e 45 (by omega)) (e 25 (by omega)) (e 81 (by omega)) (e 76 (by omega)) (e 75 (by omega)) e2
    have h1 : cIs T n (nI 0) (nI 1) = cIs S n (nI 0) (nI 1) := by unfold cIs; rw [e 47 (by omega), e 76 (by omega)]
    rw [cPos, cPos, ih, hv, h1, e 45 (by omega), e 46 (by omega)]
section CN
variable {S : Mem} {un cn pn N M k t : Nat} {nn mm : Nat → Nat}
/-- the receivable of a pair -/
def rcv (S : Mem) (j : Nat) : Nat := if S.1 47 j = nI 0 then j else gN (S.1 77 j)
def gSt (S : Mem) (j : Nat) : Int64 := if S.1 47 j = nI 0 ∧ S.1 76 j = nI 1 then cVal S j - cVal S (gN (S.1 77 j)) else 0
theorem Nw.prm (h : Nw S un cn pn N M) {j : Nat} (hj : j < N) (hs : S.1 76 j = nI 1) : gN (S.1 77 j) < N ∧ S.1 76 (gN (S.1 77 j)) = nI 1 ∧ gN (S.1 77 (gN (S.1 77 j))) = j ∧ ¬ S.1 47 (gN (S.1 77 j)) = S.1 47 j ∧ S.1 77 j = nI (gN (S.1 77 j)) := by
  obtain ⟨b, hb, e1, e2, e3, e4⟩ := h.pr hj (Or.inl hs)
  have hN := h.N100
  have eb : gN (S.1 77 j) = b := by rw [e1, gN_nI (by omega)]
  rw [eb]
  exact ⟨hb, e3.trans hs, by rw [e2, gN_nI (by omega)], e4, e1⟩
theorem Nw.rcvl (h : Nw S un cn pn N M) {j : Nat} (hj : j < N) (hs : S.1 76 j = nI 1) : rcv S j < N ∧ S.1 47 (rcv S j) = nI 0 ∧ S.1 76 (rcv S j) = nI 1 ∧ (j = rcv S j ∨ j = gN (S.1 77 (rcv S j))) := by
  unfold rcv
  by_cases e : S.1 47 j = nI 0
  · rw [if_pos e]; exact ⟨hj, e, hs, Or.inl rfl⟩
  · rw [if_neg e]
    obtain ⟨a, b, c, d, f⟩ := h.prm hj hs
    refine ⟨a, ?_, b, Or.inr c.symm⟩
    rcases h.sd a with q | q
    · exact q
    · rcases h.sd hj with z | z
      · exact absurd z e
      · exact absurd (q.trans z.symm) d
theorem nt_c (h : Nw S un cn pn N M) {U : Mem} (U34 : U.1 34 = S.1 34) (U33 : U.1 33 = S.1 33) (U35 : ∀ z, 9 ≤ z → U.2 35 z = S.2 35 z) : ∀ i, i ≤ N →
    (∀ j, j < N → (rNt U i).1 34 (8 + 6 * j + 4) = if S.1 76 j = nI 1 ∧ rcv S j < i then nI 3 else S.1 76 j) ∧ (∀ j, j < N → (rNt U i).2 35 (209 + j) = if S.1 76 j = nI 1 ∧ rcv S j < i then cVal S j else S.2 35 (209 + j)) ∧ (rNt U i).2 35 0 = U.2 35 0 + sumL (gSt S) i ∧ (∀ z, 1 ≤ z → z < 209 → (rNt U i).2 35 z = U.2 35 z) ∧ (∀ z, 608 ≤ z → (rNt U i).1 34 z = S.1 34 z)
  | 0, _ => ⟨fun j hj => by rw [if_neg (by omega)]; show U.1 34 _ = _; rw [U34]; exact h.e76 hj, fun j hj => by rw [if_neg (by omega)]; exact U35 _ (by omega), by rw [sumL, Int64.add_zero]; rfl, fun z _ _ => rfl, fun z _ => by show U.1 34 z = _; rw [U34]⟩
  | i + 1, hi => by
    have hN := h.N100
    have hiN : i < N := by omega
    obtain ⟨h1, h2, h3, h4, h5⟩ := nt_c h U34 U33 U35 i (by omega)
    have f2 : (rNt U i).1 34 (8 + 6 * i + 2) = S.1 47 i := by rw [rNt_34 U (by omega) i, U34]; exact h.e47 hiN
    have hri : rIs (rNt U i) i (nI 0) (nI 1) = (decide (S.1 47 i = nI 0) && decide (S.1 76 i = nI 1)) := by
      unfold rIs
      rw [f2, h1 i hiN]
      by_cases a : S.1 47 i = nI 0
      · have : rcv S i = i := by unfold rcv; rw [if_pos a]
        rw [this, if_neg (by omega)]
      · rw [decide_eq_false a, Bool.false_and, Bool.false_and]
    by_cases hR : S.1 47 i = nI 0 ∧ S.1 76 i = nI 1
    · obtain ⟨ha, hs⟩ := hR
      have hrc : rcv S i = i := by unfold rcv; rw [if_pos ha]
      obtain ⟨pb1, pb2, pb3, pb4, pb5⟩ := h.prm hiN hs
      generalize hb : gN (S.1 77 i) = b at pb1 pb2 pb3 pb4 pb5
      have hib : i ≠ b := fun q => pb4 (by rw [q])
      have hrb : rcv S b = i := by
        unfold rcv
        rw [if_neg (fun q => pb4 (q.trans ha.symm)), pb3]
      have e : rNt U (i + 1) = rSe (rNt U i) i b := by
        rw [rNt, hri, decide_eq_true ha, decide_eq_true hs, Bool.and_self, if_pos rfl, U34, h.e77 hiN, hb]
      have rvE : ∀ (V : Mem) (j : Nat), j < N → S.1 76 j = nI 1 → V.1 34 (8 + 6 * j + 4) = nI 1 → V.1 33 = S.1 33 → (∀ z, z < 8 ∨ z % 6 ≠ 0 → V.1 34 z = S.1 34 z) → V.2 35 (9 + j) = S.2 35 (9 + j) → rVal V j = cVal S j := fun V j hj a1 a2 a3 a4 a5 => by
        rw [← h.val hj]
        have ok45 := (h.it hj).2.1
        have okc := h.1.2.1 _ (show gN (S.1 45 j) < cn from ok45.2)
        unfold rVal rRate
        rw [a2, h.e76 hj, a1, a5, a3, a4 (8 + 6 * j + 0) (by omega), h.e45 hj, okc.1, a4 _ (by have := okc.2.2; have := h.u4; omega), if_pos (by decide), if_pos (by decide), if_pos (by decide), if_pos (by decide)]
      generalize hV : rNt U i = V at h1 h2 h3 h4 h5 e
      have V33 : V.1 33 = S.1 33 := by rw [← hV, rNt_k U (by decide) i, U33]
      have Vlo : ∀ z, z < 8 ∨ z % 6 ≠ 0 → V.1 34 z = S.1 34 z := fun z hz => by rw [← hV, rNt_34 U hz i, U34]
      have si : V.1 34 (8 + 6 * i + 4) = nI 1 := by rw [h1 i hiN, if_neg (by omega)]; exact hs
      have sb : V.1 34 (8 + 6 * b + 4) = nI 1 := by rw [h1 b pb1, if_neg (by omega)]; exact pb2
      have v9 : ∀ z, 9 ≤ z → z < 209 → V.2 35 z = S.2 35 z := fun z a c => by rw [h4 z (by omega) c, U35 z a]
      have w1 : rVal V i = cVal S i := rvE V i hiN hs si V33 Vlo (v9 _ (by omega) (by omega))
      have w2 : rVal V b = cVal S b := rvE V b pb1 pb2 sb V33 Vlo (v9 _ (by omega) (by omega))
      have w3 : rVal (rSe1 V i b) i = cVal S i := rvE _ i hiN hs (by unfold rSe1; rw [sJ_1]; exact si) (by unfold rSe1; rw [sJ_1]; exact V33) (fun z hz => by unfold rSe1; rw [sJ_1]; exact Vlo z hz) (by unfold rSe1; rw [sJ_e, updLE, if_neg (by omega)]; exact v9 _ (by omega) (by omega))
      have w4 : rVal (rSe2 V i b) b = cVal S b := rvE _ b pb1 pb2 (by unfold rSe2 rSe1; rw [sJ_1, sJ_1]; exact sb) (by unfold rSe2 rSe1; rw [sJ_1, sJ_1]; exact V33) (fun z hz => by unfold rSe2 rSe1; rw [sJ_1, sJ_1]; exact Vlo z hz) (by unfold rSe2 rSe1; rw [sJ_e, updLE, if_neg (by omega), sJ_e, updLE, if_neg (by omega)]; exact v9 _ (by omega) (by omega))
      have E35 : ∀ z, (rSe V i b).2 35 z = if z = 209 + b then cVal S b else if z = 209 + i then cVal S i else if z = 0 then V.2 35 0 + (cVal S i - cVal S b) else V.2 35 z := fun z => by
        unfold rSe rSe3
        rw [sI_2, sI_2, sJ_e, w4, updLE]
        unfold rSe2
        rw [sJ_e, w3, updLE]
        unfold rSe1
        rw [sJ_e, w1, w2, updLE]
      have E34 : ∀ z, (rSe V i b).1 34 z = if z = 8 + 6 * b + 4 then nI 3 else if z = 8 + 6 * i + 4 then nI 3 else V.1 34 z := fun z => by
        unfold rSe rSe3 rSe2 rSe1
        rw [sI_e, sI_e, sJ_1, sJ_1, sJ_1]; rfl
      have rcE : ∀ j, j < N → S.1 76 j = nI 1 → (rcv S j < i + 1 ↔ (rcv S j < i ∨ j = i ∨ j = b)) := fun j hj hsj => by
        obtain ⟨-, -, -, q⟩ := h.rcvl hj hsj
        constructor
        · intro z
          by_cases y : rcv S j = i
          · rw [y, hb] at q; exact Or.inr q
          · exact Or.inl (by omega)
        · rintro (z | z | z)
          · omega
          · rw [z, hrc]; omega
          · rw [z, hrb]; omega
      rw [e]
      refine ⟨fun j hj => ?_, fun j hj => ?_, ?_, fun z a c => ?_, fun z a => ?_⟩
      · rw [E34, h1 j hj]
        by_cases y : j = b
        · subst y; rw [if_pos rfl, if_pos ⟨pb2, by omega⟩]
        · rw [if_neg (by omega)]
          by_cases x : j = i
          · subst x; rw [if_pos rfl, if_pos ⟨hs, by omega⟩]
          · rw [if_neg (by omega)]
            by_cases w : S.1 76 j = nI 1
            · by_cases u : rcv S j < i
              · rw [if_pos ⟨w, u⟩, if_pos ⟨w, by omega⟩]
              · rw [if_neg (fun z => u z.2), if_neg (fun z => by rcases (rcE j hj w).mp z.2 with q | q | q; exact u q; exact x q; exact y q)]
            · rw [if_neg (fun z => w z.1), if_neg (fun z => w z.1)]
      · rw [E35, h2 j hj]
        by_cases y : j = b
        · subst y; rw [if_pos rfl, if_pos ⟨pb2, by omega⟩]
        · rw [if_neg (by omega)]
          by_cases x : j = i
          · subst x; rw [if_pos rfl, if_pos ⟨hs, by omega⟩]
          · rw [if_neg (by omega), if_neg (by omega)]
            by_cases w : S.1 76 j = nI 1
            · by_cases u : rcv S j < i
              · rw [if_pos ⟨w, u⟩, if_pos ⟨w, by omega⟩]
              · rw [if_neg (fun z => u z.2), if_neg (fun z => by rcases (rcE j hj w).mp z.2 with q | q | q; exact u q; exact x q; exact y q)]
            · rw [if_neg (fun z => w z.1), if_neg (fun z => w z.1)]
      · rw [E35, if_neg (by omega), if_neg (by omega), if_pos rfl, h3, sumL, Int64.add_assoc]
        have : gSt S i = cVal S i - cVal S b := by unfold gSt; rw [if_pos ⟨ha, hs⟩, hb]
        rw [this]
      · rw [E35, if_neg (by omega), if_neg (by omega), if_neg (by omega)]; exact h4 z a c
      · rw [E34, if_neg (by omega), if_neg (by omega)]; exact h5 z a
    · have e : rNt U (i + 1) = rNt U i := by
        rw [rNt, hri, if_neg]
        simp only [Bool.and_eq_true, decide_eq_true_eq]
        exact hR
      have rcE : ∀ j, j < N → S.1 76 j = nI 1 → (rcv S j < i + 1 ↔ rcv S j < i) := fun j hj hsj => by
        obtain ⟨q1, q2, q3, -⟩ := h.rcvl hj hsj
        constructor
        · intro z
          by_cases y : rcv S j = i
          · rw [y] at q2 q3; exact absurd ⟨q2, q3⟩ hR
          · omega
        · intro z; omega
      rw [e]
      refine ⟨fun j hj => ?_, fun j hj => ?_, ?_, h4, h5⟩
      · rw [h1 j hj]
        by_cases w : S.1 76 j = nI 1
        · by_cases u : rcv S j < i
          · rw [if_pos ⟨w, u⟩, if_pos ⟨w, by omega⟩]
          · rw [if_neg (fun z => u z.2), if_neg (fun z => u ((rcE j hj w).mp z.2))]
        · rw [if_neg (fun z => w z.1), if_neg (fun z => w z.1)]
      · rw [h2 j hj]
        by_cases w : S.1 76 j = nI 1
        · by_cases u : rcv S j < i
          · rw [if_pos ⟨w, u⟩, if_pos ⟨w, by omega⟩]
          · rw [if_neg (fun z => u z.2), if_neg (fun z => u ((rcE j hj w).mp z.2))]
        · rw [if_neg (fun z => w z.1), if_neg (fun z => w z.1)]
      · rw [h3, sumL]
        have : gSt S i = 0 := by unfold gSt; rw [if_neg hR]
        rw [this, Int64.add_zero]
/-- receivables less payables of all matched items is the sum of the pairs' differences -/
theorem Nw.sumSt (h : Nw S un cn pn N M) : sumL (fSt S) N = sumL (gSt S) N := by
  have hi := sum_inv (R := fun j => decide (S.1 47 j = nI 0) && decide (S.1 76 j = nI 1)) (Q := fun j => decide (S.1 47 j = nI 1) && decide (S.1 76 j = nI 1)) (π := fun j => gN (S.1 77 j)) (w := fun j => cVal S j) (N := N)
    (fun j hj hR => by
      simp only [Bool.and_eq_true, decide_eq_true_eq] at hR
      obtain ⟨a, b, c, d, -⟩ := h.prm hj hR.2
      refine ⟨a, ?_, c⟩
      simp only [Bool.and_eq_true, decide_eq_true_eq]
      refine ⟨?_, b⟩
      rcases h.sd a with q | q
      · exact absurd (q.trans hR.1.symm) d
      · exact q)
    (fun j hj hR => by
      simp only [Bool.and_eq_true, decide_eq_true_eq] at hR
      obtain ⟨a, b, c, d, -⟩ := h.prm hj hR.2
      refine ⟨a, ?_, c⟩
      simp only [Bool.and_eq_true, decide_eq_true_eq]
      refine ⟨?_, b⟩
      rcases h.sd a with q | q
      · exact q
      · exact absurd (q.trans hR.1.symm) d)
  have e1 : sumL (fSt S) N = sumL (fun j => if decide (S.1 47 j = nI 0) && decide (S.1 76 j = nI 1) then cVal S j else 0) N - sumL (fun j => if decide (S.1 47 j = nI 1) && decide (S.1 76 j = nI 1) then cVal S j else 0) N := by
    rw [← sumL_sub]
    refine sumL_congr (fun j hj => ?_)
    unfold fSt
    by_cases hs : S.1 76 j = nI 1
    · rw [if_pos hs, decide_eq_true hs]
      rcases h.sd hj with q | q
      · rw [q, if_pos (by decide), decide_eq_true rfl, decide_eq_false (by decide)]; simp
      · rw [q, if_neg (by decide), decide_eq_true rfl, decide_eq_false (by decide)]; simp
    · rw [if_neg hs, decide_eq_false hs]; simp
  have e2 : sumL (gSt S) N = sumL (fun j => if decide (S.1 47 j = nI 0) && decide (S.1 76 j = nI 1) then cVal S j else 0) N - sumL (fun j => if decide (S.1 47 j = nI 0) && decide (S.1 76 j = nI 1) then cVal S (gN (S.1 77 j)) else 0) N := by
    rw [← sumL_sub]
    refine sumL_congr (fun j hj => ?_)
    unfold gSt
    by_cases hs : S.1 47 j = nI 0 ∧ S.1 76 j = nI 1
    · rw [if_pos hs, decide_eq_true hs.1, decide_eq_true hs.2]; rfl
    · have : (decide (S.1 47 j = nI 0) && decide (S.1 76 j = nI 1)) = false := by
        cases hc : (decide (S.1 47 j = nI 0) && decide (S.1 76 j = nI 1)) with
        | false => rfl
        | true => simp only [Bool.and_eq_true, decide_eq_true_eq] at hc; exact absurd hc hs
      rw [if_neg hs, this]; simp
  rw [e1, e2, hi]
theorem chg_net (h : Rl S un cn pn N M) (hh : HR S un cn pn N M k t nn mm) {X : Mem} {v9 : Int64} (hX : X = setJ (cSet (cNt0 (cRem S t k N M) N) N cn) 191 0 v9) :
    Rl (rNt (rN2 X k N cn) N) un cn pn N M ∧ cnt (rPay X N) cn = cnt (cPay (cNt0 (cRem S t k N M) N)) cn := by
  have hw := h.nw
  have hN := hw.N100
  have c6 := hw.c6
  generalize hZ : cRem S t k N M = Z at hX ⊢
  have Z1 : ∀ q, q < 83 → q ≠ 11 → Z.1 q = S.1 q := fun q a c => by rw [← hZ]; exact cRem_1 a c
  have Z2 : ∀ q, q < 83 → Z.2 q = S.2 q := fun q a => by rw [← hZ]; exact cRem_2 a
  generalize hY : cNt0 Z N = Y at hX ⊢
  have Y1 : Y.1 = Z.1 := by rw [← hY]; rfl
  have Y2 : ∀ q, q ≠ 7 → Y.2 q = Z.2 q := fun q c => by rw [← hY]; unfold cNt0; rw [sL_2 c]
  have Y7 : ∀ c, c < 6 → Y.2 7 c = sumL (gPos S (nI c)) N := fun c hc => by
    rw [← hY]; unfold cNt0; rw [sL_e, cPos_of (S := S) (T := Z) (fun q hq => Z1 q (by omega) (by omega)) (Z2 79 (by decide)) (Z2 7 (by decide)) N]
    exact hw.posE hc N (Nat.le_refl _)
  obtain ⟨s1, s2, s3, s4⟩ := stl_c Y N
  have y76 : Y.1 76 = S.1 76 := by rw [Y1, Z1 76 (by decide) (by decide)]
  have yv : ∀ j, cVal Y j = cVal S j := fun j => cVal_of (by rw [Y1, Z1 45 (by decide) (by decide)]) (by rw [Y1, Z1 25 (by decide) (by decide)]) (by rw [Y1, Z1 81 (by decide) (by decide)]) y76 (by rw [Y1, Z1 75 (by decide) (by decide)]) (by rw [Y2 79 (by decide), Z2 79 (by decide)])
  have X1 : ∀ q, q ≠ 76 → X.1 q = Z.1 q := fun q c => by rw [hX, sJ_1]; unfold cSet cSet1; rw [sJ_1, sL_1, cStl_k Y c N, Y1]
  have X76 : ∀ j, j < N → X.1 76 j = if S.1 76 j = nI 1 then nI 3 else S.1 76 j := fun j hj => by
    rw [hX, sJ_1]; unfold cSet cSet1; rw [sJ_1, sL_1, s1, y76]
    by_cases q : S.1 76 j = nI 1
    · rw [if_pos ⟨hj, q⟩, if_pos q]
    · rw [if_neg (fun z => q z.2), if_neg q]
  have X79 : ∀ j, j < N → X.2 79 j = if S.1 76 j = nI 1 then cVal S j else S.2 79 j := fun j hj => by
    rw [hX, sJ_2 (by decide)]; unfold cSet cSet1; rw [sJ_2 (by decide), sL_2 (by decide), s2, y76, yv, Y2 79 (by decide), Z2 79 (by decide)]
    by_cases q : S.1 76 j = nI 1
    · rw [if_pos ⟨hj, q⟩, if_pos q]
    · rw [if_neg (fun z => q z.2), if_neg q]
  have X82 : ∀ c, c < 6 → X.2 82 c = if c < cn then sumL (gPos S (nI c)) N else S.2 82 c := fun c hc => by
    rw [hX, sJ_2 (by decide)]; unfold cSet cSet1; rw [sJ_2 (by decide), sL_e]; unfold cpL
    rw [Y7 c hc, Y2 82 (by decide), Z2 82 (by decide)]
  have hf : sumL (fSt Y) N = sumL (gSt S) N := by
    rw [← hw.sumSt]
    refine sumL_congr (fun j _ => ?_)
    unfold fSt; rw [y76, yv, Y1, Z1 47 (by decide) (by decide)]
  have e82 : ∀ z, (cSet1 Y N cn).2 74 z = (cStl Y N).2 74 z := fun z => by unfold cSet1; rw [sL_2 (by decide)]
  have X74 : ∀ z, X.2 74 z = if z = 4 then S.2 74 4 + (nI (cnt (cPay Y) cn)).toInt64 * (S.1 23 5).toInt64 else if z = 3 then S.2 74 3 + sumL (gSt S) N else S.2 74 z := fun z => by
    rw [hX, sJ_2 (by decide)]; unfold cSet; rw [sJ_e, updLE, e82, Y2 74 (by decide), Z2 74 (by decide), Y1, Z1 23 (by decide) (by decide)]
    by_cases q : z = 4
    · rw [if_pos q, if_pos q]
    · rw [if_neg q, if_neg q]
      by_cases r : z = 3
      · rw [if_pos r, r, s3, Y2 74 (by decide), Z2 74 (by decide), hf]
      · rw [if_neg r, s4 z r, Y2 74 (by decide), Z2 74 (by decide)]
  have X2 : ∀ q, q ≠ 7 → q ≠ 74 → q ≠ 79 → q ≠ 82 → q < 191 → X.2 q = Z.2 q := fun q a b c d e => by
    rw [hX, sJ_2 (by omega)]; unfold cSet cSet1; rw [sJ_2 b, sL_2 d, cStl_2 Y c b N, Y2 q a]
  have hAC : AgC Z X := fun q a b c d e => ⟨X1 q (by omega), X2 q b (by omega) (by omega) (by omega) e⟩
  have x33 : X.1 33 = S.1 33 := by rw [X1 33 (by decide), Z1 33 (by decide) (by decide)]
  have x34 : X.1 34 = S.1 34 := by rw [X1 34 (by decide), Z1 34 (by decide) (by decide)]
  have x35 : X.2 35 = S.2 35 := by rw [X2 35 (by decide) (by decide) (by decide) (by decide) (by decide), Z2 35 (by decide)]
  have gp : ∀ c, gPos X c = gPos S c := fun c => gPos_of x34 x33 (fun z _ => by rw [x35])
  have hpay : ∀ c, c < cn → rPay X N c = cPay Y c := fun c hc => by
    unfold rPay cPay
    rw [gp, Y7 c (by omega), x33, Y1, Z1 23 (by decide) (by decide), hw.1.1.2.2.2.2.2.2.2.2.2.1]
  have hcnt : cnt (rPay X N) cn = cnt (cPay Y) cn := cnt_congr hpay
  refine ⟨?_, hcnt⟩
  generalize hU : rN2 X k N cn = U
  have U34 : U.1 34 = S.1 34 := by rw [← hU, rN2_34, x34]
  have U33 : U.1 33 = S.1 33 := by rw [← hU, rN2_33, x33]
  have U35 : ∀ z, U.2 35 z = if z = 1 then S.2 35 1 + (nI (cnt (cPay Y) cn)).toInt64 * (S.1 23 5).toInt64 else if 3 ≤ z ∧ z < 3 + cn then sumL (gPos S (nI (z - 3))) N else S.2 35 z := fun z => by
    rw [← hU]; unfold rN2 rN1
    rw [sJ_e, updLE, sL_e, hcnt, x35, x33, hw.1.1.2.2.2.2.2.2.2.2.2.2]
    unfold rPs
    by_cases q : z = 1
    · rw [if_pos q, if_pos q]
    · rw [if_neg q, if_neg q, gp]
  have hAU : AgR (K0 X k) U := by rw [← hU]; unfold rN2 rN1; exact (AgR.rf.L (by decide)).J (by decide)
  obtain ⟨n1, n2, n3, n4, n5⟩ := nt_c hw U34 U33 (fun z hz => by rw [U35, if_neg (by omega), if_neg (by omega)]) N (Nat.le_refl _)
  have nk : ∀ z, (rNt U N).2 z = U.2 z ∨ z = 35 := fun z => by
    by_cases q : z = 35
    · exact Or.inr q
    · left
      have : ∀ i, (rNt U i).2 z = U.2 z := by
        intro i
        induction i with
        | zero => rfl
        | succ i ih =>
          rw [rNt]
          split
          · unfold rSe rSe3 rSe2 rSe1; rw [sI_2, sI_2, sJ_2 q, sJ_2 q, sJ_2 q]; exact ih
          · exact ih
      exact this N
  have n34 : ∀ z, z < 8 ∨ z % 6 ≠ 0 → (rNt U N).1 34 z = S.1 34 z := fun z hz => by rw [rNt_34 U hz N, U34]
  have nk1 : ∀ z, z ≠ 34 → (rNt U N).1 z = U.1 z := fun z hz => rNt_k U hz N
  generalize hT : rNt U N = T at n1 n2 n3 n4 n5 nk n34 nk1
  have hAR : AgR (K0 X k) T := fun q a b c => ⟨(nk1 q a).trans (hAU q a b c).1, by
    rcases nk q with z | z
    · rw [z]; exact (hAU q a b c).2
    · exact absurd z b⟩
  have T1 : ∀ q, q ≠ 34 → q ≠ 35 → q ≠ 41 → q ≠ 36 → q ≠ 30 → T.1 q = X.1 q := fun q a b c d e => by rw [(hAR q a b c).1, K0_1 X k d e]
  have T2 : ∀ q, q ≠ 34 → q ≠ 35 → q ≠ 41 → q ≠ 37 → T.2 q = X.2 q := fun q a b c d => by rw [(hAR q a b c).2, K0_2 X k d]
  have tc : ∀ q, (q = 26 ∨ (44 ≤ q ∧ q < 83)) → q ≠ 76 → T.1 q = S.1 q := fun q hq h6 => by rw [T1 q (by omega) (by omega) (by omega) (by omega) (by omega), X1 q h6, Z1 q (by omega) (by omega)]
  have t76 : ∀ j, j < N → T.1 76 j = if S.1 76 j = nI 1 then nI 3 else S.1 76 j := fun j hj => by rw [T1 76 (by decide) (by decide) (by decide) (by decide) (by decide), X76 j hj]
  have f76 : ∀ j, j < N → T.1 34 (8 + 6 * j + 4) = if S.1 76 j = nI 1 then nI 3 else S.1 76 j := fun j hj => by
    rw [n1 j hj]
    by_cases q : S.1 76 j = nI 1
    · rw [if_pos ⟨q, (hw.rcvl hj q).1⟩, if_pos q]
    · rw [if_neg (fun z => q z.1), if_neg q]
  have f79 : ∀ j, j < N → T.2 35 (209 + j) = if S.1 76 j = nI 1 then cVal S j else S.2 35 (209 + j) := fun j hj => by
    rw [n2 j hj]
    by_cases q : S.1 76 j = nI 1
    · rw [if_pos ⟨q, (hw.rcvl hj q).1⟩, if_pos q]
    · rw [if_neg (fun z => q z.1), if_neg q]
  have l35 : ∀ z, 1 ≤ z → z < 209 → T.2 35 z = if z = 1 then S.2 35 1 + (nI (cnt (cPay Y) cn)).toInt64 * (S.1 23 5).toInt64 else if 3 ≤ z ∧ z < 3 + cn then sumL (gPos S (nI (z - 3))) N else S.2 35 z := fun z a b => by rw [n4 z a b, U35]
  refine Rl_chg h hh (X := X) (T := T) (by rw [hZ]; exact hAC) hAR (fun i _ c a b => by rw [X1 _ (by omega), Z1 _ (by omega) (by omega)]) (fun d _ c a b => by rw [X1 _ (by omega), Z1 _ (by omega) (by omega)]) ?_ (Nat.le_refl _) (Nat.le_refl _)
  obtain ⟨b1, b2, b3, b4, b5, b6⟩ := hw.sc
  have x74 : ∀ z, T.2 74 z = X.2 74 z := fun z => by rw [T2 74 (by decide) (by decide) (by decide) (by decide)]
  have rows : ∀ d, d < M → ∀ c, 5 ≤ c → c ≤ 9 → T.1 (44 + c) d = S.1 (44 + c) d := fun d _ c a b => by rw [tc _ (by omega) (by omega)]
  have lo : ∀ j, (j < 8 ∨ 608 ≤ j) → T.1 34 j = S.1 34 j := fun j hj => by
    rcases hj with q | q
    · exact n34 j (Or.inl q)
    · exact n5 j q
  refine St_pk ⟨b1, b2, by rw [tc 74 (by omega) (by decide)]; exact b3, by rw [tc 74 (by omega) (by decide)]; exact b4, by rw [lo 0 (by omega)]; exact b5, by rw [lo 2 (by omega)]; exact b6⟩ ⟨?_, ?_, ?_, ?_⟩ (fun c hc => ?_) (fun c hc => ?_) (fun u hu => ?_) ?_ ?_ ?_
  · rw [lo 3 (by omega), tc 74 (by omega) (by decide)]; exact hw.tol
  · rw [n3, x74, X74, if_neg (by decide), if_pos rfl, U35, if_neg (by decide), if_neg (by omega), hw.s3]
  · rw [l35 1 (by decide) (by decide), if_pos rfl, x74, X74, if_pos rfl, hw.s4]
  · rw [l35 2 (by decide) (by decide), if_neg (by decide), if_neg (by omega), x74, X74, if_neg (by decide), if_neg (by decide)]; exact hw.s5
  · rw [lo _ (by omega), tc 81 (by omega) (by decide)]; exact hw.rate hc
  · rw [l35 _ (by omega) (by omega), if_neg (by omega), T2 82 (by decide) (by decide) (by decide) (by decide), X82 c hc]
    by_cases q : c < cn
    · rw [if_pos ⟨by omega, by omega⟩, if_pos q, show 3 + c - 3 = c by omega]
    · rw [if_neg (by omega), if_neg q]; exact hw.spos hc
  · rw [tc 81 (by omega) (by decide)]; exact hw.rt1 hu
  · intro j hj
    obtain ⟨⟨a1, a2, a3, a4, a5, a6, a7, a8, a9⟩, w1, w2, w3, w4, w5⟩ := hw.it hj
    refine ⟨ir_mk ?_ ?_ ?_ ?_ ?_ ?_ ?_ ?_ ?_, ?_⟩
    · rw [n34 _ (by omega), tc 45 (by omega) (by decide)]; exact a1
    · rw [n34 _ (by omega), tc 46 (by omega) (by decide)]; exact a2
    · rw [n34 _ (by omega), tc 47 (by omega) (by decide)]; exact a3
    · rw [n34 _ (by omega), tc 48 (by omega) (by decide)]; exact a4
    · rw [f76 j hj, t76 j hj]
    · rw [n34 _ (by omega), tc 77 (by omega) (by decide)]; exact a6
    · rw [l35 _ (by omega) (by omega), if_neg (by omega), if_neg (by omega), tc 75 (by omega) (by decide)]; exact a7
    · rw [l35 _ (by omega) (by omega), if_neg (by omega), if_neg (by omega), T2 78 (by decide) (by decide) (by decide) (by decide), X2 78 (by decide) (by decide) (by decide) (by decide) (by decide), Z2 78 (by decide)]; exact a8
    · intro hq
      rw [t76 j hj] at hq
      rw [f79 j hj, T2 79 (by decide) (by decide) (by decide) (by decide), X79 j hj]
      by_cases q : S.1 76 j = nI 1
      · rw [if_pos q, if_pos q]
      · rw [if_neg q] at hq
        rw [if_neg q, if_neg q]; exact a9 hq
    · rcases w5 with ⟨q1, q2⟩ | ⟨q1, c, hc, p1, p2, p3, p4⟩
      · have q1 : S.1 76 j = nI 0 ∨ S.1 76 j = nI 4 := q1
        have hne : ¬ S.1 76 j = nI 1 := fun z => by rw [z] at q1; rcases q1 with y | y <;> exact absurd y (by decide)
        exact wi_op (by rw [tc 45 (by omega) (by decide)]; exact w1) (by rw [tc 46 (by omega) (by decide)]; exact w2) (by rw [tc 45 (by omega) (by decide), tc 46 (by omega) (by decide)]; exact w3) (by rw [tc 47 (by omega) (by decide)]; exact w4) (by rw [t76 j hj, if_neg hne]; exact q1) (by rw [tc 77 (by omega) (by decide)]; exact q2)
      · have p3 : S.1 76 c = S.1 76 j := p3
        have q1 : S.1 76 j = nI 1 ∨ S.1 76 j = nI 2 ∨ S.1 76 j = nI 3 := q1
        refine wi_pr (by rw [tc 45 (by omega) (by decide)]; exact w1) (by rw [tc 46 (by omega) (by decide)]; exact w2) (by rw [tc 45 (by omega) (by decide), tc 46 (by omega) (by decide)]; exact w3) (by rw [tc 47 (by omega) (by decide)]; exact w4) ?_ hc (by rw [tc 77 (by omega) (by decide)]; exact p1) (by rw [tc 77 (by omega) (by decide)]; exact p2) (by rw [t76 c hc, t76 j hj, p3]) (by rw [tc 47 (by omega) (by decide)]; exact p4)
        rw [t76 j hj]
        split
        · exact Or.inr (Or.inr rfl)
        · exact q1
  · exact Dl_fr (fun d hd => hw.dl hd) b2 (tc 26 (by omega) (by decide)) (fun d _ => by rw [tc 80 (by omega) (by decide)]) rows (fun j _ _ => lo j (by omega))
  · exact LR_fr h.2.1.2.2.2.2.2.2.2 b2 (fun d _ => by rw [tc 80 (by omega) (by decide)]) rows (lo 1 (by omega)) (fun j _ _ => lo j (by omega))
end CN
