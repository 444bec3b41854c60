/-! the fewest payments: the tables -/
theorem sg_0 (p : Nat → Int64) : ∀ m, sg p 0 m = 0
  | 0 => rfl
  | m + 1 => by
    have b0 : bq 0 m = false := by unfold bq; rw [Nat.zero_div]; rfl
    rw [sg, sg_0 p m, b0]; rfl
theorem cFi_1 (T : Mem) (s : Nat) : ∀ j, (cFi T s j).1.1 = T.1
  | 0 => rfl
  | j + 1 => by
    rw [cFi]; split
    · exact cFi_1 T s j
    · rw [sJ_1]; exact cFi_1 T s j
theorem cFi_2 (T : Mem) (s : Nat) {z : Nat} (h : z ≠ 8) : ∀ j, (cFi T s j).1.2 z = T.2 z
  | 0 => rfl
  | j + 1 => by
    rw [cFi]; split
    · exact cFi_2 T s h j
    · show (setJ _ 8 s _).2 z = _; rw [sJ_2 h]; exact cFi_2 T s h j
theorem cFi_r (T : Mem) (s : Nat) {r : Nat} (h : r ≠ s) : ∀ j, (cFi T s j).1.2 8 r = T.2 8 r
  | 0 => rfl
  | j + 1 => by
    rw [cFi]; split
    · exact cFi_r T s h j
    · show (setJ _ 8 s _).2 8 r = _; rw [sJ_e, updLE, if_neg h]; exact cFi_r T s h j
theorem mxI_n {a b : Nat} (ha : a < 1000) (hb : b < 1000) : mxI (nI a) (nI b) = nI (max a b) := by
  show (if nI a < nI b then nI b else nI a) = _
  by_cases e : a < b
  · rw [if_pos (nI_lt e (by omega)), Nat.max_eq_right (by omega)]
  · rw [if_neg (nI_nlt (by omega) (by omega)), Nat.max_eq_left (by omega)]
theorem cFi_m {T : Mem} {s : Nat} {P : Nat → Nat} (hs : s < 64) (hT : ∀ j, j < 6 → bq s j = true → T.1 9 (s - 2 ^ j) = nI (P (s - 2 ^ j)) ∧ P (s - 2 ^ j) < 1000) : ∀ j, j ≤ 6 → (cFi T s j).2 = nI (mxN P s j) ∧ mxN P s j < 1000
  | 0, _ => ⟨rfl, Nat.zero_lt_succ 999⟩
  | j + 1, hj => by
    obtain ⟨i1, i2⟩ := cFi_m hs hT j (by omega)
    have ha := bq_a s hs j (by omega)
    rw [cFi, mxN]
    cases hb : bq s j with
    | false =>
      rw [hb] at ha
      rw [if_pos (of_decide_eq_true ha), if_neg (by decide)]; exact ⟨i1, i2⟩
    | true =>
      rw [hb] at ha
      obtain ⟨t1, t2⟩ := hT j (by omega) hb
      rw [if_neg (of_decide_eq_false ha), if_pos rfl]
      refine ⟨?_, Nat.max_lt.mpr ⟨i2, t2⟩⟩
      show mxI (cFi T s j).2 ((cFi T s j).1.1 9 (s - 2 ^ j)) = _
      rw [cFi_1, i1, t1]; exact mxI_n i2 t2
theorem cFi_s {T : Mem} {s n : Nat} {p : Nat → Int64} (hs : s < 64) (hn : n ≤ 6) (h7 : ∀ j, j < n → T.2 7 j = p j) (h8 : ∀ j, j < n → bq s j = true → T.2 8 (s - 2 ^ j) = sg p (s - 2 ^ j) n) : ∀ j, j ≤ n → (∀ i, i < j → bq s i = false) ∨ (cFi T s j).1.2 8 s = sg p s n
  | 0, _ => Or.inl (fun i hi => absurd hi (Nat.not_lt_zero _))
  | j + 1, hj => by
    have ha := bq_a s hs j (by omega)
    rw [cFi]
    cases hb : bq s j with
    | false =>
      rw [hb] at ha
      rw [if_pos (of_decide_eq_true ha)]
      rcases cFi_s hs hn h7 h8 j (by omega) with i1 | i1
      · refine Or.inl (fun i hi => ?_)
        by_cases e : i = j
        · rw [e]; exact hb
        · exact i1 i (by omega)
      · exact Or.inr i1
    | true =>
      rw [hb] at ha
      rw [if_neg (of_decide_eq_false ha)]
      right
      have hge := bq_ge s hs j (by omega) hb
      have h1 : 1 ≤ 2 ^ j := Nat.one_le_two_pow
      show (setJ _ 8 s _).2 8 s = _
      rw [sJ_e, updLE, if_pos rfl, cFi_r T s (by omega) j, cFi_2 T s (by decide) j, h7 j (by omega), h8 j (by omega) hb]
      exact sg_sub hs hb n hn (by omega)
theorem cFo_1 (S : Mem) (n : Nat) {z : Nat} (h : z ≠ 9) : ∀ k, (cFo S n k).1 z = S.1 z
  | 0 => by rw [cFo, sI_1 h, sJ_1]
  | k + 1 => by rw [cFo, sI_1 h, cFi_1]; exact cFo_1 S n h k
theorem cFo_2 (S : Mem) (n : Nat) {z : Nat} (h : z ≠ 8) : ∀ k, (cFo S n k).2 z = S.2 z
  | 0 => by rw [cFo, sI_2, sJ_2 h]
  | k + 1 => by rw [cFo, sI_2, cFi_2 _ _ h]; exact cFo_2 S n h k
abbrev zS (p : Nat → Int64) (n : Nat) : Nat → Bool := fun s => decide (sg p s n = 0)
theorem cFo_t {S : Mem} {n : Nat} {p : Nat → Int64} (hn : n ≤ 6) (h7 : ∀ j, j < n → S.2 7 j = p j) : ∀ k, k < 2 ^ n → ∀ s, s ≤ k → (cFo S n k).2 8 s = sg p s n ∧ (cFo S n k).1 9 s = nI (pS (zS p n) n s)
  | 0, _, s, hs => by
    rw [show s = 0 by omega, cFo]
    refine ⟨?_, ?_⟩
    · rw [sI_2, sJ_e, updLE, if_pos rfl, sg_0]
    · rw [sI_e, pk_us]; rfl
  | k + 1, hk, s, hs => by
    have h64 : 2 ^ n ≤ 64 := bt_p6 n (by omega)
    have ih := cFo_t hn h7 k (by omega)
    rw [cFo]
    by_cases e : s = k + 1
    · subst e
      have hlow : ∀ j, j < n → bq (k + 1) j = true → k + 1 - 2 ^ j ≤ k := fun j hj hb => by
        have h1 : 1 ≤ 2 ^ j := Nat.one_le_two_pow
        omega
      have hs8 : (cFi (cFo S n k) (k + 1) n).1.2 8 (k + 1) = sg p (k + 1) n := by
        rcases cFi_s (T := cFo S n k) (s := k + 1) (p := p) (by omega) hn (fun j hj => by rw [cFo_2 S n (by decide)]; exact h7 j hj) (fun j hj hb => (ih _ (hlow j hj hb)).1) n (Nat.le_refl _) with a | a
        · exact absurd (bq_z n (by omega) (k + 1) hk a) (by omega)
        · exact a
      have hm := cFi_m (T := cFo S n k) (s := k + 1) (P := pS (zS p n) n) (by omega) (fun j hj hb => by
        have h1 : 1 ≤ 2 ^ j := Nat.one_le_two_pow
        refine ⟨(ih _ (by omega)).2, ?_⟩
        have := pS_le (Z := zS p n) hn _ (k + 1 - 2 ^ j) (Nat.lt_succ_self _) (by omega)
        omega) n hn
      refine ⟨by rw [sI_2]; exact hs8, ?_⟩
      rw [sI_e, pk_us, hs8, hm.1, pS_eq (by omega) (by omega) hn]
      by_cases z : sg p (k + 1) n = 0
      · rw [if_pos z, nI_add]
        show _ = nI (_ + (if decide (sg p (k + 1) n = 0) = true then 1 else 0))
        rw [decide_eq_true z, if_pos rfl]
      · rw [if_neg z]
        show _ = nI (_ + (if decide (sg p (k + 1) n = 0) = true then 1 else 0))
        rw [decide_eq_false z, if_neg (by decide)]; rfl
    · have := ih s (by omega)
      refine ⟨?_, ?_⟩
      · rw [sI_2, cFi_r _ _ e]; exact this.1
      · rw [sI_e, pk_un e, cFi_1]; exact this.2
/-! the reference's -/
theorem rF0_t (S : Mem) : ∀ A s, s < A → (rF0 S A).2 42 s = 0 ∧ (rF0 S A).1 43 s = nI 0
  | 0, s, h => absurd h (Nat.not_lt_zero _)
  | A + 1, s, h => by
    rw [rF0]
    by_cases e : s = A
    · subst e
      exact ⟨by rw [sI_2, sJ_e, updLE, if_pos rfl], by rw [sI_e, pk_us]⟩
    · have := rF0_t S A s (by omega)
      exact ⟨by rw [sI_2, sJ_e, updLE, if_neg e]; exact this.1, by rw [sI_e, pk_un e, sJ_1]; exact this.2⟩
theorem rFa_t (T : Mem) (c : Nat) (v : Int64) : ∀ A s, (rFa T c v A).2 42 s = if s < A then T.2 42 s + (if rBit s c then v else 0) else T.2 42 s
  | 0, s => by rw [if_neg (Nat.not_lt_zero _)]; rfl
  | A + 1, s => by
    have ih := rFa_t T c v A s
    rw [rFa]
    by_cases e : s = A
    · subst e
      rw [if_neg (Nat.lt_irrefl _)] at ih
      rw [if_pos (Nat.lt_succ_self _)]
      by_cases b : rBit s c = true
      · rw [if_pos b, sJ_e, updLE, if_pos rfl, ih, if_pos b]
      · rw [if_neg b, ih, if_neg b, Int64.add_zero]
    · have e2 : (if s < A + 1 then T.2 42 s + (if rBit s c then v else 0) else T.2 42 s) = if s < A then T.2 42 s + (if rBit s c then v else 0) else T.2 42 s := by
        by_cases l : s < A
        · rw [if_pos l, if_pos (by omega)]
        · rw [if_neg l, if_neg (by omega)]
      rw [e2, ← ih]
      split
      · rw [sJ_e, updLE, if_neg e]
      · rfl
theorem rFb_t {S : Mem} {A N : Nat} (hA : A ≤ 64) : ∀ c, c ≤ 6 → (rFb S A N c).2 = nI (wM (fun c => sumL (gPos S (nI c)) N) c) ∧ ∀ s, s < A → (rFb S A N c).1.2 42 s = sg (fun c => sumL (gPos S (nI c)) N) s c ∧ (rFb S A N c).1.1 43 s = nI 0
  | 0, _ => ⟨rfl, fun s hs => rF0_t S A s hs⟩
  | c + 1, hc => by
    obtain ⟨i1, i2⟩ := rFb_t hA c (by omega)
    refine ⟨?_, fun s hs => ⟨?_, ?_⟩⟩
    · rw [rFb, wM]
      by_cases z : sumL (gPos S (nI c)) N = 0
      · rw [if_pos z, if_pos z]; exact i1
      · rw [if_neg z, if_neg z, i1]; exact bq_n c (by omega) _ (wM_lt c)
    · rw [rFb]
      show (rFa _ c _ A).2 42 s = _
      rw [rFa_t, if_pos hs, (i2 s hs).1, bq_r s (by omega) c (by omega)]; rfl
    · rw [rFb]
      show (rFa _ c _ A).1 43 s = _
      rw [rFa_1]; exact (i2 s hs).2
theorem rFo_2 (T : Mem) (w : Int32) (n : Nat) : ∀ k, (rFo T w n k).2 = T.2
  | 0 => rfl
  | k + 1 => by
    rw [rFo]; split
    · rw [sI_2]; exact rFo_2 T w n k
    · exact rFo_2 T w n k
theorem rFi_m {T : Mem} {s : Nat} {P : Nat → Nat} (hs : s < 64) (hT : ∀ j, j < 6 → bq s j = true → T.1 43 (s - 2 ^ j) = nI (P (s - 2 ^ j)) ∧ P (s - 2 ^ j) < 1000) : ∀ j, j ≤ 6 → rFi T s j = nI (mxN P s j) ∧ mxN P s j < 1000
  | 0, _ => ⟨rfl, Nat.zero_lt_succ 999⟩
  | j + 1, hj => by
    obtain ⟨i1, i2⟩ := rFi_m hs hT j (by omega)
    rw [rFi, mxN, bq_r s hs j (by omega)]
    cases hb : bq s j with
    | false => rw [if_neg (by decide), if_neg (by decide)]; exact ⟨i1, i2⟩
    | true =>
      obtain ⟨t1, t2⟩ := hT j (by omega) hb
      rw [if_pos rfl, if_pos rfl, i1, t1]
      refine ⟨?_, Nat.max_lt.mpr ⟨i2, t2⟩⟩
      by_cases e : P (s - 2 ^ j) ≤ mxN P s j
      · rw [if_pos (nI_le e (by omega)), Nat.max_eq_left e]
      · rw [if_neg (nI_ge (by omega) (by omega)), Nat.max_eq_right (by omega)]
theorem rFo_t {T : Mem} {n w : Nat} {p : Nat → Int64} (hn : n ≤ 6) (hw : w < 64) (h42 : ∀ s, s < 2 ^ n → T.2 42 s = sg p s n) (h43 : T.1 43 0 = nI 0) : ∀ k, k < 2 ^ n → ∀ s, s ≤ k → (∀ j, j < 6 → bq s j = true → bq w j = true) → (rFo T (nI w) n k).1 43 s = nI (pS (zS p n) n s)
  | 0, _, s, hs, _ => by rw [show s = 0 by omega]; exact h43
  | k + 1, hk, s, hs, hsub => by
    have h64 : 2 ^ n ≤ 64 := bt_p6 n (by omega)
    have ih := rFo_t hn hw h42 h43 k (by omega)
    rw [rFo]
    by_cases e : s = k + 1
    · subst e
      rw [if_pos (bq_s2 (k + 1) (by omega) w hw hsub), sI_e, pk_us, rFo_2, h42 _ hk]
      have hm := rFi_m (T := rFo T (nI w) n k) (s := k + 1) (P := pS (zS p n) n) (by omega) (fun j hj hb => by
        have h1 : 1 ≤ 2 ^ j := Nat.one_le_two_pow
        refine ⟨ih _ (by omega) (fun i hi hbi => ?_), ?_⟩
        · rw [bq_sub (k + 1) (by omega) j hj hb i hi] at hbi
          exact hsub i hi ((Bool.and_eq_true _ _).mp hbi).1
        · have := pS_le (Z := zS p n) hn _ (k + 1 - 2 ^ j) (Nat.lt_succ_self _) (by omega)
          omega) n hn
      rw [hm.1, pS_eq (by omega) (by omega) hn]
      by_cases z : sg p (k + 1) n = 0
      · rw [if_pos z, nI_add]
        show _ = nI (_ + (if decide (sg p (k + 1) n = 0) = true then 1 else 0))
        rw [decide_eq_true z, if_pos rfl]
      · rw [if_neg z, nI_add]
        show _ = nI (_ + (if decide (sg p (k + 1) n = 0) = true then 1 else 0))
        rw [decide_eq_false z, if_neg (by decide)]
    · have := ih s (by omega) hsub
      split
      · rw [sI_e, pk_un e]; exact this
      · exact this
theorem few_a {n : Nat} {p : Nat → Int64} (hn : n ≤ 6) : nI n - nI (pS (zS p n) n (2 ^ n - 1)) = sumI (rFm (nI (wM p n))) n - nI (pS (zS p n) n (wM p n)) := by
  have h64 : 2 ^ n ≤ 64 := bt_p6 n (by omega)
  have hw := wM_lt (p := p) n
  have h1 := pS_w (p := p) hn n (Nat.le_refl _) 0 (by omega)
  rw [Nat.mul_zero, Nat.add_zero, Nat.add_zero] at h1
  rw [h1, wM_s (wM p n) (by omega) n hn (wM_b n hn)]
  have h2 := zN_zM (p := p) n
  have h3 : nI n = nI (zN p n) + nI (zM p n) := by rw [nI_add, h2]
  rw [h3, ← nI_add]
  grind
section FEW
variable {S : Mem} {un cn pn N M : Nat}
theorem few_step (h : Rl S un cn pn N M) : nI cn - (cFo (cNt0 S N) cn (2 ^ cn - 1)).1 9 (2 ^ cn - 1) = sumI (rFm (rFb (setI (cFo (cNt0 S N) cn (2 ^ cn - 1)) 30 0 (nI 0)) (2 ^ cn) N cn).2) cn - (rFo (rFb (setI (cFo (cNt0 S N) cn (2 ^ cn - 1)) 30 0 (nI 0)) (2 ^ cn) N cn).1 (rFb (setI (cFo (cNt0 S N) cn (2 ^ cn - 1)) 30 0 (nI 0)) (2 ^ cn) N cn).2 cn (2 ^ cn - 1)).1 43 (gN (rFb (setI (cFo (cNt0 S N) cn (2 ^ cn - 1)) 30 0 (nI 0)) (2 ^ cn) N cn).2) ∧ Sm S (cFo (cNt0 S N) cn (2 ^ cn - 1)) ∧
    Sm S (rFo (rFb (setI (cFo (cNt0 S N) cn (2 ^ cn - 1)) 30 0 (nI 0)) (2 ^ cn) N cn).1 (rFb (setI (cFo (cNt0 S N) cn (2 ^ cn - 1)) 30 0 (nI 0)) (2 ^ cn) N cn).2 cn (2 ^ cn - 1)) := by
  have hw := h.nw
  have hn := hw.c6
  have h64 : 2 ^ cn ≤ 64 := bt_p6 cn (by omega)
  have hp1 : 1 ≤ 2 ^ cn := Nat.one_le_two_pow
  generalize hX : cFo (cNt0 S N) cn (2 ^ cn - 1) = X
  have X1 : ∀ z, z ≠ 9 → X.1 z = S.1 z := fun z a => by rw [← hX, cFo_1 _ _ a]; rfl
  have X2 : ∀ z, z ≠ 8 → z ≠ 7 → X.2 z = S.2 z := fun z a b => by rw [← hX, cFo_2 _ _ a]; unfold cNt0; rw [sL_2 b]
  have gp : gPos (setI X 30 0 (nI 0)) = gPos S := gPos_f (by rw [sI_1 (by decide), X1 34 (by decide)]) (by rw [sI_1 (by decide), X1 33 (by decide)]) (by rw [sI_2, X2 35 (by decide) (by decide)])
  obtain ⟨p, hp⟩ : ∃ p : Nat → Int64, p = fun c => sumL (gPos S (nI c)) N := ⟨_, rfl⟩
  have h7 : ∀ j, j < cn → (cNt0 S N).2 7 j = p j := fun j hj => by
    unfold cNt0; rw [sL_e, hp]; exact hw.posE (by omega) N (Nat.le_refl _)
  have ct := cFo_t (S := cNt0 S N) (p := p) hn h7 (2 ^ cn - 1) (by omega) (2 ^ cn - 1) (Nat.le_refl _)
  rw [hX] at ct
  have rb := rFb_t (S := setI X 30 0 (nI 0)) (N := N) h64 cn hn
  rw [gp, ← hp] at rb
  have hlt := wM_lt (p := p) cn
  refine ⟨?_, ⟨fun q a b c d e f g i => X1 q c, fun q a b c d => X2 q b a, by rw [X1 30 (by decide)], by rw [X1 30 (by decide)], by rw [X1 1 (by decide)]⟩, ?_⟩
  · rw [rb.1, gN_nI (by omega), ct.2]
    rw [rFo_t (p := p) hn (by omega) (fun s hs => (rb.2 s hs).1) (rb.2 0 (by omega)).2 (2 ^ cn - 1) (by omega) (wM p cn) (by omega) (fun _ _ hb => hb)]
    exact few_a hn
  · generalize (rFb (setI X 30 0 (nI 0)) (2 ^ cn) N cn).2 = w
    have T1 : ∀ z, z ≠ 43 → (rFo (rFb (setI X 30 0 (nI 0)) (2 ^ cn) N cn).1 w cn (2 ^ cn - 1)).1 z = (setI X 30 0 (nI 0)).1 z := fun z a => by rw [rFo_1 _ _ _ a, rFb_1 _ _ _ a]
    have T2 : ∀ z, z ≠ 42 → (rFo (rFb (setI X 30 0 (nI 0)) (2 ^ cn) N cn).1 w cn (2 ^ cn - 1)).2 z = X.2 z := fun z a => by rw [rFo_2, rFb_2 _ _ _ a, sI_2]
    refine ⟨fun q a b c d e f g i => by rw [T1 q i, sI_1 e, X1 q c], fun q a b c d => by rw [T2 q c, X2 q b a], ?_, ?_, ?_⟩
    · rw [T1 30 (by decide), sI_e, pk_un (by decide), X1 30 (by decide)]
    · rw [T1 30 (by decide), sI_e, pk_un (by decide), X1 30 (by decide)]
    · rw [T1 1 (by decide), sI_1 (by decide), X1 1 (by decide)]
end FEW
