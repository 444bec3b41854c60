/-! the reference: parse -/
def okGd (S : Mem) : Prop := okN (S.1 32 0) 4 ∧ okN (S.1 32 1) 6 ∧ okN (S.1 32 2) 6
theorem okGd_of {S T : Mem} (h : okGd S) (e : T.1 32 = S.1 32) : okGd T := by unfold okGd; rw [e]; exact h
theorem okGd_s {S : Mem} (h : okGd S) {j : Nat} {x : Int32} (hj : 3 ≤ j) : okGd (setI S 32 j x) := by
  unfold okGd; rw [sI_e, pk_un (by omega), pk_un (by omega), pk_un (by omega)]; exact h
theorem okN_inc {x : Int32} {k n : Nat} (hx : x = nI k) (hk : k < n) (hn : n < 1000) : okN (x + nI 1) n := by
  rw [hx, nI_add]; exact okN_nI (by omega) hn
theorem okGd_i0 {S : Mem} (h : okGd S) {k : Nat} (hx : S.1 32 0 = nI k) (hk : k < 4) : okGd (rInc S 0) := by
  unfold okGd rInc; rw [sI_e, pk_us, pk_un (by decide), pk_un (by decide)]; exact ⟨okN_inc hx hk (by decide), h.2.1, h.2.2⟩
theorem okGd_i1 {S : Mem} (h : okGd S) {k : Nat} (hx : S.1 32 1 = nI k) (hk : k < 6) : okGd (rInc S 1) := by
  unfold okGd rInc; rw [sI_e, pk_us, pk_un (by decide), pk_un (by decide)]; exact ⟨h.1, okN_inc hx hk (by decide), h.2.2⟩
theorem okGd_i2 {S : Mem} (h : okGd S) {k : Nat} (hx : S.1 32 2 = nI k) (hk : k < 6) : okGd (rInc S 2) := by
  unfold okGd rInc; rw [sI_e, pk_us, pk_un (by decide), pk_un (by decide)]; exact ⟨h.1, h.2.1, okN_inc hx hk (by decide)⟩
theorem s32_o {S : Mem} {j i : Nat} {x : Int32} (h : i ≠ j) : (setI S 32 j x).1 32 i = S.1 32 i := by rw [sI_e, pk_un h]
theorem rW4_32 (S : Mem) (k : Nat) {i : Nat} (hi : i < 16) : (rW4 S k).1 32 i = S.1 32 i := by
  unfold rW4; rw [s32_o (by omega)]; unfold rL4; rw [rRd_k _ _ _ (by decide)]
  unfold rW3; rw [s32_o (by omega)]; unfold rL3; rw [rRd_k _ _ _ (by decide)]
  unfold rW2; rw [s32_o (by omega)]; unfold rL2; rw [rRd_k _ _ _ (by decide)]
  unfold rW1; rw [s32_o (by omega)]; unfold rL1; rw [rRd_k _ _ _ (by decide), rBg_k _ _ _ (by decide)]
theorem okGd_st {S : Mem} (h : okGd S) : okGd (rStm S) := by
  have h0 := h.1; have h1 := h.2.1; have h2 := h.2.2
  have hB : ∀ j m, okGd (rBg S j m).1 := fun j m => okGd_of h (rBg_k S j m (by decide))
  have hO : ∀ b g hi, 3 ≤ g → okGd (rOc S b g hi) := by
    intro b g hi hg
    unfold rOc; split
    · exact okGd_s (okGd_of h (by rw [rRd_k _ _ _ (by decide), rOn_k _ _ (by decide)])) hg
    · exact okGd_of h (rOn_k S b (by decide))
  unfold rStm
  repeat' split
  · unfold rCu; split
    · rename_i hb
      have hk := rBg_t (by decide) h0.1 (by have := h0.2; omega) hb
      have e : (rC1 S).1.1 32 = S.1 32 := by unfold rC1; rw [rRd_k _ _ _ (by decide), rBg_k _ _ _ (by decide)]
      refine okGd_i0 (okGd_s (okGd_of h e) (by omega)) (k := gN (S.1 32 0)) ?_ hk
      rw [s32_o (by omega), e]; exact h0.1
    · exact hB _ _
  · unfold rCo; split
    · rename_i hb
      have hk := rBg_t (by decide) h1.1 (by have := h1.2; omega) hb
      have e : (rM1 S).1.1 32 = S.1 32 := by unfold rM1; rw [rRd_k _ _ _ (by decide), rBg_k _ _ _ (by decide)]
      refine okGd_i1 (okGd_s (okGd_of h e) (by omega)) (k := gN (S.1 32 1)) ?_ hk
      rw [s32_o (by omega), e]; exact h1.1
    · exact hB _ _
  · unfold rPl; split
    · rename_i hb
      have hk := rBg_t (by decide) h2.1 (by have := h2.2; omega) hb
      refine okGd_i2 ?_ (k := gN (S.1 32 2)) ?_ hk
      · unfold okGd; rw [rW4_32 S _ (by decide), rW4_32 S _ (by decide), rW4_32 S _ (by decide)]; exact h
      · rw [rW4_32 S _ (by decide)]; exact h2.1
    · exact hB _ _
  · exact hO _ _ _ (by decide)
  · exact hO _ _ _ (by decide)
  · exact hO _ _ _ (by decide)
  · exact okGd_of h (rMu_k _ _ _ (by decide))
/-- the token's end lies at p or behind; behind it, where the token is a semicolon -/
def G9 (p : Nat) (T : Mem) : Prop := p ≤ gN (T.1 30 5) ∧ (T.1 30 6 = nI 3 → p < gN (T.1 30 5))
theorem tK_3 {f : Nat → Int32} {n p : Nat} (h : p ≤ n) (h3 : tK f n p = 3) : tS f n p < tE f n p := by
  have hs := tS_le (f := f) h
  unfold tK at h3
  by_cases h1 : n ≤ tS f n p
  · rw [if_pos h1] at h3; cases h3
  · rw [if_neg h1] at h3
    by_cases h2 : inR (nI 97) (nI 122) (f (tS f n p)) = true
    · rw [if_pos h2] at h3; split at h3 <;> cases h3
    · rw [if_neg h2] at h3
      by_cases h4 : inR (nI 48) (nI 57) (f (tS f n p)) = true
      · rw [if_pos h4] at h3; split at h3 <;> cases h3
      · rw [tE_o h1 (by simpa using h2) (by simpa using h4)]; omega
theorem tK_lt (f : Nat → Int32) (n p : Nat) : tK f n p < 5 := by
  unfold tK; repeat' split
  all_goals omega
theorem G9_rt {p : Nat} {U : Mem} (h : okT U) (hp : p ≤ gN (U.1 30 5)) : G9 p (rt U) := by
  have hs := tS_le (f := U.1 31) h.2.2.2.1
  have he := tE_le (f := U.1 31) h.2.2.2.1
  have h6 := h.2.1
  unfold G9
  rw [rt_f]
  simp only [rkF]
  simp only [reduceIte, Nat.reduceEqDiff, if_true, if_false]
  rw [gN_nI (by omega)]
  refine ⟨by omega, fun h3 => ?_⟩
  have h4 := (nI_eq (by have := tK_lt (U.1 31) (gN (U.1 30 3)) (gN (U.1 30 5)); omega) (by decide)).mp h3
  have := tK_3 h.2.2.2.1 h4
  omega
theorem G9_of {p : Nat} {S T : Mem} (h : G9 p S) (e5 : T.1 30 5 = S.1 30 5) (e6 : T.1 30 6 = S.1 30 6) : G9 p T := by unfold G9; rw [e5, e6]; exact h
theorem G9_32 {p : Nat} {S : Mem} (h : G9 p S) {j : Nat} {x : Int32} : G9 p (setI S 32 j x) := G9_of h (by rw [sI_1 (by decide)]) (by rw [sI_1 (by decide)])
theorem G9_mu {p : Nat} {S : Mem} (h : G9 p S) (b : Bool) (x : Int32) : G9 p (rMu S b x) := G9_of h (rMu_o S b x (by decide) (by decide)) (rMu_o S b x (by decide) (by decide))
theorem G9_rd {p : Nat} {S : Mem} (hQ : okQ S) (h : G9 p S) (lo hi : Int32) : G9 p (rRd S lo hi).1 := by
  have h2 : G9 p (rR2 S lo hi) := G9_mu (G9_mu h _ _) _ _
  unfold rRd; repeat' split
  · exact G9_rt (okQ_mu (okQ_mu hQ _ _) _ _).1 h2.1
  · exact h2
  · exact G9_mu h _ _
theorem G9_bg {S : Mem} (hQ : okQ S) (j : Nat) (m : Int32) (h : (rBg S j m).2 = true) : G9 (gN (S.1 30 5)) (rBg S j m).1 := by
  unfold rBg at h ⊢
  split
  · refine G9_rt (okQ_mu hQ _ _).1 ?_
    unfold rB1; rw [rMu_o _ _ _ (by decide) (by decide)]; exact Nat.le_refl _
  · rename_i h1; rw [if_neg h1] at h; cases h
theorem G9_on {S : Mem} (hQ : okQ S) (b : Nat) (h : (rOn S b).2 = true) : G9 (gN (S.1 30 5)) (rOn S b).1 := by
  unfold rOn at h ⊢
  split
  · refine G9_rt (okQ_o2 hQ b).1 ?_
    unfold rO2 rO1; rw [sI_e, pk_un (by decide), rMu_o _ _ _ (by decide) (by decide)]; exact Nat.le_refl _
  · rename_i h1; rw [if_neg h1] at h; cases h
theorem rBg_e {S : Mem} {j : Nat} {m : Int32} (h : ¬ (rBg S j m).2 = true) : rOk (rBg S j m).1 = false := by
  unfold rBg at h ⊢
  split
  · rename_i h1; rw [if_pos h1] at h; exact absurd rfl h
  · rename_i h1; simpa using h1
theorem rOn_e {S : Mem} {b : Nat} (h : ¬ (rOn S b).2 = true) : rOk (rOn S b).1 = false := by
  unfold rOn at h ⊢
  split
  · rename_i h1; rw [if_pos h1] at h; exact absurd rfl h
  · rename_i h1; simpa using h1
theorem rMu_fe {S : Mem} {x : Int32} (hx : ¬ x = 0) : rOk (rMu S false x) = false := by
  cases h : rOk (rMu S false x) with
  | false => rfl
  | true => exact absurd (rMu_t hx h).1 (by decide)
theorem G9_st {S : Mem} (hQ : okQ S) (h : rOk (rStm S) = true) : G9 (gN (S.1 30 5)) (rStm S) := by
  have hO : ∀ b g hi, rOk (rOc S b g hi) = true → G9 (gN (S.1 30 5)) (rOc S b g hi) := by
    intro b g hi hh
    unfold rOc at hh ⊢
    split
    · rename_i h1; exact G9_32 (G9_rd (okQ_on hQ b) (G9_on hQ b h1) _ _)
    · rename_i h1; rw [if_neg h1, rOn_e h1] at hh; cases hh
  unfold rStm at h ⊢
  repeat' split
  · rename_i w0
    rw [if_pos w0] at h
    unfold rCu at h ⊢; split
    · rename_i h1; exact G9_32 (G9_32 (G9_rd (okQ_bg hQ _ _) (G9_bg hQ _ _ h1) _ _))
    · rename_i h1; rw [if_neg h1, rBg_e h1] at h; cases h
  · rename_i w0 w1
    rw [if_neg w0, if_pos w1] at h
    unfold rCo at h ⊢; split
    · rename_i h1; exact G9_32 (G9_32 (G9_rd (okQ_bg hQ _ _) (G9_bg hQ _ _ h1) _ _))
    · rename_i h1; rw [if_neg h1, rBg_e h1] at h; cases h
  · rename_i w0 w1 w2
    rw [if_neg w0, if_neg w1, if_pos w2] at h
    unfold rPl at h ⊢; split
    · rename_i h1
      exact G9_32 (G9_32 (G9_rd (okQ_w3 hQ _) (G9_32 (G9_rd (okQ_w2 hQ _) (G9_32 (G9_rd (okQ_w1 hQ _) (G9_32 (G9_rd (okQ_bg hQ _ _) (G9_bg hQ _ _ h1) _ _)) _ _)) _ _)) _ _))
    · rename_i h1; rw [if_neg h1, rBg_e h1] at h; cases h
  · rename_i w0 w1 w2 w3
    rw [if_neg w0, if_neg w1, if_neg w2, if_pos w3] at h
    exact hO _ _ _ h
  · rename_i w0 w1 w2 w3 w4
    rw [if_neg w0, if_neg w1, if_neg w2, if_neg w3, if_pos w4] at h
    exact hO _ _ _ h
  · rename_i w0 w1 w2 w3 w4 w5
    rw [if_neg w0, if_neg w1, if_neg w2, if_neg w3, if_neg w4, if_pos w5] at h
    exact hO _ _ _ h
  · rename_i w0 w1 w2 w3 w4 w5
    rw [if_neg w0, if_neg w1, if_neg w2, if_neg w3, if_neg w4, if_neg w5, rMu_fe (by decide)] at h
    cases h
def rS2 (T : Mem) : Mem := rMu (rStm T) (decide ((rStm T).1 30 6 = nI 3)) (nI 1)
def rStep (T : Mem) : Mem := if rOk (rS2 T) then rt (rS2 T) else rS2 T
theorem okQ_s2 {T : Mem} (h : okQ T) : okQ (rS2 T) := okQ_mu (okQ_st h) _ _
theorem okQ_step {T : Mem} (h : okQ T) : okQ (rStep T) := by
  unfold rStep; split
  · exact okQ_rt (okQ_s2 h).1
  · exact okQ_s2 h
theorem okGd_step {T : Mem} (h : okGd T) : okGd (rStep T) := by
  have h2 : okGd (rS2 T) := okGd_of (okGd_st h) (rMu_k _ _ _ (by decide))
  unfold rStep; split
  · exact okGd_of h2 (rt_k _ (by decide))
  · exact h2
/-- a step goes on in the text, or it is the last -/
theorem step_pr {T : Mem} (hQ : okQ T) : ¬ (rStep T).1 30 8 = 0 ∨ gN (T.1 30 5) < gN ((rStep T).1 30 5) := by
  unfold rStep
  by_cases h : rOk (rS2 T) = true
  · right
    rw [if_pos h]
    unfold rS2 at h ⊢
    obtain ⟨h1, h2⟩ := rMu_t (by decide) h
    rw [h2] at h ⊢
    have h3 := of_decide_eq_true h1
    have h4 := (G9_st hQ h).2 h3
    have h5 := (G9_rt (okQ_st hQ).1 (Nat.le_refl _)).1
    omega
  · left
    rw [if_neg h]
    intro e
    unfold rOk at h
    exact h (decide_eq_true e)
def rRun (T : Mem) : Nat → Mem
  | 0 => T
  | f + 1 => if T.1 30 8 = 0 then (if T.1 30 6 = 0 then T else rRun (rStep T) f) else T
theorem rRun_stop {T : Mem} (h : ¬ T.1 30 8 = 0 ∨ T.1 30 6 = 0) : ∀ f, rRun T f = T
  | 0 => rfl
  | f + 1 => by
    rw [rRun]
    split
    · rename_i h1
      rcases h with h | h
      · exact absurd h1 h
      · rw [if_pos h]
    · rfl
def rIni (S : Mem) (n : Nat) : Mem := setI (setI (setI (setI (setI S 30 0 (nI 0)) 30 3 (nI n)) 30 2 (nI 0)) 30 5 (nI 0)) 30 8 (nI 0)
def rIn0 (S : Mem) (n : Nat) : Mem := rtC (rDf (rIni S n)) n 0
theorem rIni_1 (S : Mem) (n j : Nat) : (rDf (rIni S n)).1 30 j = if j = 12 then nI 0 else if j = 8 then nI 0 else if j = 5 then nI 0 else if j = 2 then nI 0 else if j = 3 then nI n else if j = 0 then nI 0 else S.1 30 j := by
  unfold rDf rIni
  rw [sI_e, sR_1 (by decide), sI_e, sI_e, sI_e, sI_e, sI_e]
  unfold upd
  rfl
theorem rIni_31 (S : Mem) (n : Nat) : (rDf (rIni S n)).1 31 = S.1 31 := by
  unfold rDf rIni
  rw [sI_1 (by decide), sR_1 (by decide), sI_1 (by decide), sI_1 (by decide), sI_1 (by decide), sI_1 (by decide), sI_1 (by decide)]
theorem rIn0_ok (S : Mem) {n : Nat} (h : n ≤ 600) (hB : okB S) : okQ (rIn0 S n) ∧ okGd (rIn0 S n) := by
  have hT : okT (rDf (rIni S n)) := by
    unfold okT okB
    rw [rIni_1, rIni_1, rIni_31]
    simp only [reduceIte, Nat.reduceEqDiff, if_true, if_false]
    rw [gN_nI (by omega), gN_nI (by omega)]
    exact ⟨rfl, h, rfl, Nat.zero_le _, hB⟩
  have e : rIn0 S n = rt (rDf (rIni S n)) := by
    unfold rIn0 rt
    rw [rIni_1, rIni_1]
    simp only [reduceIte, Nat.reduceEqDiff, if_true, if_false]
    rw [gN_nI (by omega), gN_nI (by omega)]
  rw [e]
  refine ⟨okQ_rt hT, okGd_of (S := rDf (rIni S n)) ?_ (rt_k _ (by decide))⟩
  unfold okGd rDf
  rw [sI_1 (by decide), sR_e]
  unfold zI
  exact ⟨okN_nI (Nat.zero_le _) (by decide), okN_nI (Nat.zero_le _) (by decide), okN_nI (Nat.zero_le _) (by decide)⟩
theorem rIn0_3 (S : Mem) (n : Nat) : (rIn0 S n).1 30 3 = nI n := by
  unfold rIn0 rtC; rw [sR_e]; unfold rkF
  rw [if_neg (by decide), if_neg (by decide), if_neg (by decide), if_neg (by decide), rIni_1]; rfl
theorem rIn0_lt (S : Mem) {n : Nat} (h : n ≤ 600) : gN ((rIn0 S n).1 30 3) - gN ((rIn0 S n).1 30 5) < 601 := by
  rw [rIn0_3, gN_nI (by omega)]; omega
theorem rIni_B {S : Mem} {n : Nat} (h : okB S) : okB (rDf (rIni S n)) := by
  unfold okB; rw [rIni_31]; exact h

theorem rStm_3 {T : Mem} : (rStm T).1 30 3 = T.1 30 3 := by
  have hRt : ∀ U : Mem, (rt U).1 30 3 = U.1 30 3 := fun U => rt_o9 U (Or.inl (by decide))
  have hMu : ∀ (U : Mem) b x, (rMu U b x).1 30 3 = U.1 30 3 := fun U b x => rMu_o U b x (by decide) (by decide)
  have hRd : ∀ (U : Mem) lo hi, (rRd U lo hi).1.1 30 3 = U.1 30 3 := by
    intro U lo hi
    unfold rRd; repeat' split
    · rw [hRt]; unfold rR2 rR1; rw [hMu, hMu]
    · show (rR2 U lo hi).1 30 3 = _; unfold rR2 rR1; rw [hMu, hMu]
    · show (rR1 U).1 30 3 = _; unfold rR1; rw [hMu]
  have hBg : ∀ j m, (rBg T j m).1.1 30 3 = T.1 30 3 := by
    intro j m
    unfold rBg; split
    · rw [hRt]; unfold rB1; rw [hMu]
    · show (rB1 T j m).1 30 3 = _; unfold rB1; rw [hMu]
  have hOn : ∀ b, (rOn T b).1.1 30 3 = T.1 30 3 := by
    intro b
    unfold rOn; split
    · rw [hRt]; unfold rO2 rO1; rw [sI_e, pk_un (by decide), hMu]
    · show (rO1 T b).1 30 3 = _; unfold rO1; rw [hMu]
  have h32 : ∀ (U : Mem) j x, (setI U 32 j x).1 30 3 = U.1 30 3 := fun U j x => by rw [sI_1 (by decide)]
  have hO : ∀ b g hi, (rOc T b g hi).1 30 3 = T.1 30 3 := by
    intro b g hi
    unfold rOc; split
    · rw [h32, hRd, hOn]
    · exact hOn b
  unfold rStm; repeat' split
  · unfold rCu rInc; split
    · rw [h32, h32]; unfold rC1; rw [hRd, hBg]
    · exact hBg _ _
  · unfold rCo rInc; split
    · rw [h32, h32]; unfold rM1; rw [hRd, hBg]
    · exact hBg _ _
  · unfold rPl rInc; split
    · rw [h32]; unfold rW4 rL4 rW3 rL3 rW2 rL2 rW1 rL1; rw [h32, hRd, h32, hRd, h32, hRd, h32, hRd, hBg]
    · exact hBg _ _
  · exact hO _ _ _
  · exact hO _ _ _
  · exact hO _ _ _
  · exact hMu _ _ _
theorem rStep_3 {T : Mem} : (rStep T).1 30 3 = T.1 30 3 := by
  have h2 : (rS2 T).1 30 3 = T.1 30 3 := by unfold rS2; rw [rMu_o _ _ _ (by decide) (by decide), rStm_3]
  unfold rStep; split
  · rw [rt_o9 _ (Or.inl (by decide)), h2]
  · exact h2
theorem step_go {T : Mem} {f : Nat} (hQ : okQ T) (h : gN (T.1 30 3) - gN (T.1 30 5) < f) : ¬ (rStep T).1 30 8 = 0 ∨ gN ((rStep T).1 30 3) - gN ((rStep T).1 30 5) < f - 1 := by
  rcases step_pr hQ with h1 | h1
  · exact Or.inl h1
  · right
    have h2 := (okQ_step hQ).1.2.2.2.1
    rw [rStep_3] at h2 ⊢
    omega

set_option maxRecDepth 100000 in
set_option maxHeartbeats 1000000 in
theorem ct_X11_parseE (l : Launch) (ka va : Nat → Nat) (D : va_G) (cA : Nat → ClassId) (α : Nat → Nat) (n sz : Nat) (hn : 191 ≤ n) (S : Mem) (F : Nat) (hF : S.1 30 2 = nI F) (hF2 : F ≤ 600) (n9 : Nat) (h600 : n9 ≤ F) (hB : okB S) (hv : ¬ (rRun (rIn0 S n9) 601).1 30 8 = 0) : CtIe ka va l yX11_parse wsX11_parse ({ frames := 8, cells := 0, slots := 0, locals := 169 }) D cA α n sz [.ref (α 30), .int (nI n9)] S ((-2) - (nI 8 * (rRun (rIn0 S n9) 601).1 30 9 + (rRun (rIn0 S n9) 601).1 30 8)) (rRun (rIn0 S n9) 601) := by
  refine cte_enter cX11_parse 2 (some .int) (by decide) rfl (Nat.le_of_ble_eq_true rfl) ?_
  intro p e s m below meth c hx hb hr hml hlocks hown hts hK hsz hw hE ls hl
  have hown : s.vm.findClass RX11 = some m.cls := hown
  have hAw : ∀ z, Aw α n s.heap.size z → Aw α n sz z := by rw [hsz]; exact fun _ h => h
  have hl : lv_has ls 2 [(0, .ref (α 30)), (1, .int (nI n9))] := hl
  refine lv_aload_n hx hb dX11_parse_0 rfl (lv_at hl 0 rfl) ?_
  refine lv_iconst (v := nI 0) hx hb dX11_parse_1 (by decide) ?_
  refine x_putI (x := nI 0) (ty := .int) (C := RX11) (T := TX11) (N := 24) hx hb hts (fun _ h => List.mem_cons_of_mem _ (List.mem_append_right _ h)) tyX11 tyX11_ok nmX11 hown hK hw 30 (Nat.lt_of_lt_of_le (Nat.le_of_ble_eq_true rfl : 30 < 191) hn) (mk_30 cA α) rfl 0 (by decide) (hts _ (List.mem_of_getElem? (i := 1) rfl)) (fun _ h9 => h9) rfl rfl rfl rfl (Nat.le_of_ble_eq_true rfl) rfl dX11_parse_2 (fun S1 eS1 H locs hw => ?_)
  refine lv_iload_n hx hb dX11_parse_5 rfl (lv_at hl 1 rfl) ?_
  refine lv_i2l hx hb dX11_parse_6 rfl ?_
  refine lv_lconst (v := 0) hx hb dX11_parse_7 (by decide) ?_
  refine lv_aload_n hx hb dX11_parse_8 rfl (lv_at hl 0 rfl) ?_
  refine x_get (v := .int (S1.1 30 2)) (C := RX11) (T := TX11) (N := 24) hx hb hts (fun _ h => List.mem_cons_of_mem _ (List.mem_append_right _ h)) hown hK hw 30 (Nat.lt_of_lt_of_le (Nat.le_of_ble_eq_true rfl : 30 < 191) hn) (mk_30 cA α) rfl 2 (by decide) (hts _ (List.mem_of_getElem? (i := 2) rfl)) (fun _ h9 => h9) rfl dX11_parse_9 ?_
  refine x_topN (k := F) (by subst eS1; exact hF) ?_
  refine lv_i2l hx hb dX11_parse_12 rfl ?_
  refine x_callSIr (q := 0) (C := RX0) (As := [.long ((nI n9).toInt64), .long (0), .long ((nI F).toInt64)]) (rest := []) ⟨hx, hb, hml, hown, hts⟩ (ct_X11_within l D cA α n _ hn S1 ((nI n9).toInt64) (0) ((nI F).toInt64)) (va_cwS 3 hts gX11_parse_X11_within rfl rfl rfl (by decide +kernel) ⟨Nat.le_of_ble_eq_true rfl, Nat.le_of_ble_eq_true rfl⟩) hK hw hAw rfl hl.1 rfl (Nat.le_of_ble_eq_true rfl) dX11_parse_13 ⟨Nat.zero_le _, Nat.zero_le _⟩ (fun H locs hw => ?_)
  refine xb_ne (b := (wiL ((nI n9).toInt64) (0) ((nI F).toInt64))) (tgt := 25) hx hb dX11_parse_16 (by decide) (fun c1 => ?_) (fun c1 => ?_)
  · skip
    refine lv_aload_n hx hb dX11_parse_25 rfl (lv_at hl 0 rfl) ?_
    refine lv_iload_n hx hb dX11_parse_26 rfl (lv_at hl 1 rfl) ?_
    refine x_putI (x := nI n9) (ty := .int) (C := RX11) (T := TX11) (N := 24) hx hb hts (fun _ h => List.mem_cons_of_mem _ (List.mem_append_right _ h)) tyX11 tyX11_ok nmX11 hown hK hw 30 (Nat.lt_of_lt_of_le (Nat.le_of_ble_eq_true rfl : 30 < 191) hn) (mk_30 cA α) rfl 3 (by decide) (hts _ (List.mem_of_getElem? (i := 3) rfl)) (fun _ h9 => h9) rfl rfl rfl rfl (Nat.le_of_ble_eq_true rfl) rfl dX11_parse_27 (fun S2 eS2 H locs hw => ?_)
    refine lv_aload_n hx hb dX11_parse_30 rfl (lv_at hl 0 rfl) ?_
    refine lv_iconst (v := nI 0) hx hb dX11_parse_31 (by decide) ?_
    refine x_putI (x := nI 0) (ty := .int) (C := RX11) (T := TX11) (N := 24) hx hb hts (fun _ h => List.mem_cons_of_mem _ (List.mem_append_right _ h)) tyX11 tyX11_ok nmX11 hown hK hw 30 (Nat.lt_of_lt_of_le (Nat.le_of_ble_eq_true rfl : 30 < 191) hn) (mk_30 cA α) rfl 2 (by decide) (hts _ (List.mem_of_getElem? (i := 2) rfl)) (fun _ h9 => h9) rfl rfl rfl rfl (Nat.le_of_ble_eq_true rfl) rfl dX11_parse_32 (fun S3 eS3 H locs hw => ?_)
    refine lv_aload_n hx hb dX11_parse_35 rfl (lv_at hl 0 rfl) ?_
    refine lv_iconst (v := nI 0) hx hb dX11_parse_36 (by decide) ?_
    refine x_putI (x := nI 0) (ty := .int) (C := RX11) (T := TX11) (N := 24) hx hb hts (fun _ h => List.mem_cons_of_mem _ (List.mem_append_right _ h)) tyX11 tyX11_ok nmX11 hown hK hw 30 (Nat.lt_of_lt_of_le (Nat.le_of_ble_eq_true rfl : 30 < 191) hn) (mk_30 cA α) rfl 5 (by decide) (hts _ (List.mem_of_getElem? (i := 4) rfl)) (fun _ h9 => h9) rfl rfl rfl rfl (Nat.le_of_ble_eq_true rfl) rfl dX11_parse_37 (fun S4 eS4 H locs hw => ?_)
    refine lv_aload_n hx hb dX11_parse_40 rfl (lv_at hl 0 rfl) ?_
    refine lv_iconst (v := nI 0) hx hb dX11_parse_41 (by decide) ?_
    refine x_putI (x := nI 0) (ty := .int) (C := RX11) (T := TX11) (N := 24) hx hb hts (fun _ h => List.mem_cons_of_mem _ (List.mem_append_right _ h)) tyX11 tyX11_ok nmX11 hown hK hw 30 (Nat.lt_of_lt_of_le (Nat.le_of_ble_eq_true rfl : 30 < 191) hn) (mk_30 cA α) rfl 8 (by decide) (hts _ (List.mem_of_getElem? (i := 5) rfl)) (fun _ h9 => h9) rfl rfl rfl rfl (Nat.le_of_ble_eq_true rfl) rfl dX11_parse_42 (fun S5 eS5 H locs hw => ?_)
    refine lv_aload_n hx hb dX11_parse_45 rfl (lv_at hl 0 rfl) ?_
    refine x_callVV (q := 30) (C := RX11) (As := []) (rest := []) ⟨hx, hb, hml, hown, hts⟩ (ct_X11_setDefaults l D cA α n _ hn S5 ) (cwV 0 hts gX11_parse_X11_setDefaults rfl rfl rfl (by decide +kernel) ⟨Nat.le_of_ble_eq_true rfl, Nat.le_of_ble_eq_true rfl⟩) hK hw hAw (ws_recv hK hw (q := 30) (Nat.lt_of_lt_of_le (Nat.le_of_ble_eq_true rfl : 30 < 191) hn) (mk_30 cA α) rfl) rfl hl.1 rfl (Nat.le_of_ble_eq_true rfl) dX11_parse_46 ⟨Nat.zero_le _, Nat.zero_le _⟩ (fun S6 eS6 H locs hw => ?_)
    refine lv_aload_n hx hb dX11_parse_49 rfl (lv_at hl 0 rfl) ?_
    refine x_callVV (q := 30) (C := RX11) (As := []) (rest := []) ⟨hx, hb, hml, hown, hts⟩ (ct_X11_nextToken l D cA α n _ hn S6 n9 0 (by subst eS6; subst eS5; subst eS4; subst eS3; subst eS2; subst eS1; exact (rIni_1 S n9 3)) (by omega) (by subst eS6; subst eS5; subst eS4; subst eS3; subst eS2; subst eS1; exact (rIni_1 S n9 5)) (Nat.zero_le _) (by subst eS6; subst eS5; subst eS4; subst eS3; subst eS2; subst eS1; exact rIni_B hB)) (cwV 0 hts gX11_parse_X11_nextToken rfl rfl rfl (by decide +kernel) ⟨Nat.le_of_ble_eq_true rfl, Nat.le_of_ble_eq_true rfl⟩) hK hw hAw (ws_recv hK hw (q := 30) (Nat.lt_of_lt_of_le (Nat.le_of_ble_eq_true rfl : 30 < 191) hn) (mk_30 cA α) rfl) rfl hl.1 rfl (Nat.le_of_ble_eq_true rfl) dX11_parse_50 ⟨Nat.zero_le _, Nat.zero_le _⟩ (fun S7 eS7 H locs hw => ?_)
    have lp53 : ∀ (t : Nat) (f9 : Nat) (T : Mem) (H : Heap) (locs : List Loc) (ls : Array Slot), f9 < t → okQ T → okGd T → rRun (rIn0 S n9) 601 = rRun T f9 → ¬ T.1 30 8 = 0 ∨ gN (T.1 30 3) - gN (T.1 30 5) < f9 → Ws D cA α n (Aw α n sz) s.heap T H locs → lv_has ls 2 [(0, .ref (α 30)), (1, .int (nI n9))] → W p l e ({ frames := 8, cells := 0, slots := 0, locals := 169 } : Room) s m (List.toArray ([.ref (α 30), .int (nI n9)] : List Value)) below meth c H locs 0 0 (MQ below (va_Qi (fun r u => r = ((-2) - (nI 8 * (rRun (rIn0 S n9) 601).1 30 9 + (rRun (rIn0 S n9) 601).1 30 8)) ∧ u = (rRun (rIn0 S n9) 601)) (Pw D cA α n) (Aw α n sz)) (List.toArray ([.ref (α 30), .int (nI n9)] : List Value)) s 0 0 (Aw α n sz)) (F0 m 53 ls []) := by
      intro t
      induction t with
      | zero => intro f9 T H locs ls ht; exact absurd ht (Nat.not_lt_zero _)
      | succ t ih53 =>
        intro f9 T H locs ls ht hQ hG hR hm hw hl
        refine lv_aload_n hx hb dX11_parse_53 rfl (lv_at hl 0 rfl) ?_
        refine x_get (v := .int (T.1 30 8)) (C := RX11) (T := TX11) (N := 24) hx hb hts (fun _ h => List.mem_cons_of_mem _ (List.mem_append_right _ h)) hown hK hw 30 (Nat.lt_of_lt_of_le (Nat.le_of_ble_eq_true rfl : 30 < 191) hn) (mk_30 cA α) rfl 8 (by decide) (hts _ (List.mem_of_getElem? (i := 5) rfl)) (fun _ h9 => h9) rfl dX11_parse_54 ?_
        refine lv_if_ne (tgt := 99) hx hb dX11_parse_57 (by decide) (fun c2 => ?_) (fun c2 => ?_)
        · skip
          have hTT : rRun (rIn0 S n9) 601 = T := by rw [hR]; first | exact rRun_stop (Or.inl c2) _ | exact rRun_stop (Or.inr c2) _
          refine lv_aload_n hx hb dX11_parse_99 rfl (lv_at hl 0 rfl) ?_
          refine x_get (v := .int (T.1 30 8)) (C := RX11) (T := TX11) (N := 24) hx hb hts (fun _ h => List.mem_cons_of_mem _ (List.mem_append_right _ h)) hown hK hw 30 (Nat.lt_of_lt_of_le (Nat.le_of_ble_eq_true rfl : 30 < 191) hn) (mk_30 cA α) rfl 8 (by decide) (hts _ (List.mem_of_getElem? (i := 5) rfl)) (fun _ h9 => h9) rfl dX11_parse_100 ?_
          refine lv_if_eq (tgt := 122) hx hb dX11_parse_103 (by decide) (fun c3 => ?_) (fun c3 => ?_)
          · exact absurd (by rw [hTT]; exact c3) hv
          · skip
            refine lv_bipush (v := (-2)) hx hb dX11_parse_106 (by decide) ?_
            refine lv_bipush (v := nI 8) hx hb dX11_parse_108 (by decide) ?_
            refine lv_aload_n hx hb dX11_parse_110 rfl (lv_at hl 0 rfl) ?_
            refine x_get (v := .int (T.1 30 9)) (C := RX11) (T := TX11) (N := 24) hx hb hts (fun _ h => List.mem_cons_of_mem _ (List.mem_append_right _ h)) hown hK hw 30 (Nat.lt_of_lt_of_le (Nat.le_of_ble_eq_true rfl : 30 < 191) hn) (mk_30 cA α) rfl 9 (by decide) (hts _ (List.mem_of_getElem? (i := 7) rfl)) (fun _ h9 => h9) rfl dX11_parse_111 ?_
            refine lv_imul hx hb dX11_parse_114 ?_
            refine lv_aload_n hx hb dX11_parse_115 rfl (lv_at hl 0 rfl) ?_
            refine x_get (v := .int (T.1 30 8)) (C := RX11) (T := TX11) (N := 24) hx hb hts (fun _ h => List.mem_cons_of_mem _ (List.mem_append_right _ h)) hown hK hw 30 (Nat.lt_of_lt_of_le (Nat.le_of_ble_eq_true rfl : 30 < 191) hn) (mk_30 cA α) rfl 8 (by decide) (hts _ (List.mem_of_getElem? (i := 5) rfl)) (fun _ h9 => h9) rfl dX11_parse_116 ?_
            refine lv_iadd hx hb dX11_parse_119 ?_
            refine lv_isub hx hb dX11_parse_120 ?_
            exact ret_i hx hb hr hlocks hK hw dX11_parse_121 (by rw [hTT]) hTT.symm
        · skip
          refine lv_aload_n hx hb dX11_parse_60 rfl (lv_at hl 0 rfl) ?_
          refine x_get (v := .int (T.1 30 6)) (C := RX11) (T := TX11) (N := 24) hx hb hts (fun _ h => List.mem_cons_of_mem _ (List.mem_append_right _ h)) hown hK hw 30 (Nat.lt_of_lt_of_le (Nat.le_of_ble_eq_true rfl : 30 < 191) hn) (mk_30 cA α) rfl 6 (by decide) (hts _ (List.mem_of_getElem? (i := 6) rfl)) (fun _ h9 => h9) rfl dX11_parse_61 ?_
          refine lv_if_eq (tgt := 99) hx hb dX11_parse_64 (by decide) (fun c4 => ?_) (fun c4 => ?_)
          · skip
            have hTT : rRun (rIn0 S n9) 601 = T := by rw [hR]; first | exact rRun_stop (Or.inl c4) _ | exact rRun_stop (Or.inr c4) _
            refine lv_aload_n hx hb dX11_parse_99 rfl (lv_at hl 0 rfl) ?_
            refine x_get (v := .int (T.1 30 8)) (C := RX11) (T := TX11) (N := 24) hx hb hts (fun _ h => List.mem_cons_of_mem _ (List.mem_append_right _ h)) hown hK hw 30 (Nat.lt_of_lt_of_le (Nat.le_of_ble_eq_true rfl : 30 < 191) hn) (mk_30 cA α) rfl 8 (by decide) (hts _ (List.mem_of_getElem? (i := 5) rfl)) (fun _ h9 => h9) rfl dX11_parse_100 ?_
            refine lv_if_eq (tgt := 122) hx hb dX11_parse_103 (by decide) (fun c5 => ?_) (fun c5 => ?_)
            · exact absurd (by rw [hTT]; exact c5) hv
            · skip
              refine lv_bipush (v := (-2)) hx hb dX11_parse_106 (by decide) ?_
              refine lv_bipush (v := nI 8) hx hb dX11_parse_108 (by decide) ?_
              refine lv_aload_n hx hb dX11_parse_110 rfl (lv_at hl 0 rfl) ?_
              refine x_get (v := .int (T.1 30 9)) (C := RX11) (T := TX11) (N := 24) hx hb hts (fun _ h => List.mem_cons_of_mem _ (List.mem_append_right _ h)) hown hK hw 30 (Nat.lt_of_lt_of_le (Nat.le_of_ble_eq_true rfl : 30 < 191) hn) (mk_30 cA α) rfl 9 (by decide) (hts _ (List.mem_of_getElem? (i := 7) rfl)) (fun _ h9 => h9) rfl dX11_parse_111 ?_
              refine lv_imul hx hb dX11_parse_114 ?_
              refine lv_aload_n hx hb dX11_parse_115 rfl (lv_at hl 0 rfl) ?_
              refine x_get (v := .int (T.1 30 8)) (C := RX11) (T := TX11) (N := 24) hx hb hts (fun _ h => List.mem_cons_of_mem _ (List.mem_append_right _ h)) hown hK hw 30 (Nat.lt_of_lt_of_le (Nat.le_of_ble_eq_true rfl : 30 < 191) hn) (mk_30 cA α) rfl 8 (by decide) (hts _ (List.mem_of_getElem? (i := 5) rfl)) (fun _ h9 => h9) rfl dX11_parse_116 ?_
              refine lv_iadd hx hb dX11_parse_119 ?_
              refine lv_isub hx hb dX11_parse_120 ?_
              exact ret_i hx hb hr hlocks hK hw dX11_parse_121 (by rw [hTT]) hTT.symm
          · skip
            have hk0 := c4
            have he0 := c2
            have hf0 : 0 < f9 := by rcases hm with h | h; exact absurd he0 h; omega
            have hpr : ¬ (rStep T).1 30 8 = 0 ∨ gN ((rStep T).1 30 3) - gN ((rStep T).1 30 5) < f9 - 1 := step_go hQ (by rcases hm with h | h; exact absurd he0 h; exact h)
            refine lv_aload_n hx hb dX11_parse_67 rfl (lv_at hl 0 rfl) ?_
            refine x_callVVe (b := (α 30)) (C := RX11) (As := []) (rest := []) ⟨hx, hb, hml, hown, hts⟩ (ct_X11_statement l ka va D cA α n _ hn T hQ hG.1 hG.2.1 hG.2.2) (cwV 0 hts gX11_parse_X11_statement rfl rfl rfl (by decide +kernel) ⟨Nat.le_of_ble_eq_true rfl, Nat.le_of_ble_eq_true rfl⟩) hK hw hsz hE (ws_recv hK hw (q := 30) (Nat.lt_of_lt_of_le (Nat.le_of_ble_eq_true rfl : 30 < 191) hn) (mk_30 cA α) rfl) rfl hl.1 rfl (Nat.le_of_ble_eq_true rfl) dX11_parse_68 ⟨Nat.zero_le _, Nat.zero_le _⟩ (fun S8 eS8 H locs hw => ?_)
            have eS8 : S8 = rStm T := eS8
            refine lv_aload_n hx hb dX11_parse_71 rfl (lv_at hl 0 rfl) ?_
            refine lv_aload_n hx hb dX11_parse_72 rfl (lv_at hl 0 rfl) ?_
            refine x_get (v := .int (S8.1 30 6)) (C := RX11) (T := TX11) (N := 24) hx hb hts (fun _ h => List.mem_cons_of_mem _ (List.mem_append_right _ h)) hown hK hw 30 (Nat.lt_of_lt_of_le (Nat.le_of_ble_eq_true rfl : 30 < 191) hn) (mk_30 cA α) rfl 6 (by decide) (hts _ (List.mem_of_getElem? (i := 6) rfl)) (fun _ h9 => h9) rfl dX11_parse_73 ?_
            refine lv_iconst (v := nI 3) hx hb dX11_parse_76 (by decide) ?_
            refine lv_icmp_ne (tgt := 84) hx hb dX11_parse_77 (by decide) (fun c6 => ?_) (fun c6 => ?_)
            · skip
              refine lv_iconst (v := nI 0) hx hb dX11_parse_84 (by decide) ?_
              refine lv_iconst (v := nI 1) hx hb dX11_parse_85 (by decide) ?_
              refine x_callVI (q := 30) (C := RX11) (As := [.int (b2i false), .int (nI 1)]) (rest := []) ⟨hx, hb, hml, hown, hts⟩ (ct_X11_must l D cA α n _ hn S8 false (nI 1)) (cwV 2 hts gX11_parse_X11_must rfl rfl rfl (by decide +kernel) ⟨Nat.le_of_ble_eq_true rfl, Nat.le_of_ble_eq_true rfl⟩) hK hw hAw (ws_recv hK hw (q := 30) (Nat.lt_of_lt_of_le (Nat.le_of_ble_eq_true rfl : 30 < 191) hn) (mk_30 cA α) rfl) rfl hl.1 rfl (Nat.le_of_ble_eq_true rfl) dX11_parse_86 ⟨Nat.zero_le _, Nat.zero_le _⟩ (fun S9 eS9 H locs hw => ?_)
              refine x_topE (y := b2i (rOk (rS2 T))) (by unfold rS2; rw [← eS8]; simp only [c1, if_pos c2, if_neg (not_not_intro c2), decide_eq_true c2, if_neg c4, if_pos c4, decide_eq_false c4, if_neg c6, if_pos c6, decide_eq_false c6]) ?_
              have eS9 : S9 = rS2 T := by rw [eS9]; unfold rS2; rw [← eS8]; simp only [c1, if_pos c2, if_neg (not_not_intro c2), decide_eq_true c2, if_neg c4, if_pos c4, decide_eq_false c4, if_neg c6, if_pos c6, decide_eq_false c6]
              refine xb_eq (b := (rOk (rS2 T))) (tgt := 53) hx hb dX11_parse_89 (by decide) (fun c7 => ?_) (fun c7 => ?_)
              · skip
                exact ih53 (f9 - 1) S9 _ _ _ (by omega) (by rw [show S9 = rStep T by unfold rStep; first | (rw [if_pos c7]; exact eS9) | (rw [if_neg (by rw [c7]; decide)]; exact eS9)]; exact okQ_step hQ) (by rw [show S9 = rStep T by unfold rStep; first | (rw [if_pos c7]; exact eS9) | (rw [if_neg (by rw [c7]; decide)]; exact eS9)]; exact okGd_step hG) (by rw [hR, show f9 = (f9 - 1) + 1 by omega, rRun, if_pos he0, if_neg hk0, show S9 = rStep T by unfold rStep; first | (rw [if_pos c7]; exact eS9) | (rw [if_neg (by rw [c7]; decide)]; exact eS9)]; rfl) (by rw [show S9 = rStep T by unfold rStep; first | (rw [if_pos c7]; exact eS9) | (rw [if_neg (by rw [c7]; decide)]; exact eS9)]; exact hpr) hw (lv_sub hl [0, 1] rfl)
              · skip
                refine lv_aload_n hx hb dX11_parse_92 rfl (lv_at hl 0 rfl) ?_
                refine x_callVV (q := 30) (C := RX11) (As := []) (rest := []) ⟨hx, hb, hml, hown, hts⟩ (ct_X11_nextToken l D cA α n _ hn S9 (gN (S9.1 30 3)) (gN (S9.1 30 5)) (by subst eS9; subst eS8; exact ((okQ_s2 hQ).1).1) (by subst eS9; subst eS8; exact ((okQ_s2 hQ).1).2.1) (by subst eS9; subst eS8; exact ((okQ_s2 hQ).1).2.2.1) (by subst eS9; subst eS8; exact ((okQ_s2 hQ).1).2.2.2.1) (by subst eS9; subst eS8; exact ((okQ_s2 hQ).1).2.2.2.2)) (cwV 0 hts gX11_parse_X11_nextToken rfl rfl rfl (by decide +kernel) ⟨Nat.le_of_ble_eq_true rfl, Nat.le_of_ble_eq_true rfl⟩) hK hw hAw (ws_recv hK hw (q := 30) (Nat.lt_of_lt_of_le (Nat.le_of_ble_eq_true rfl : 30 < 191) hn) (mk_30 cA α) rfl) rfl hl.1 rfl (Nat.le_of_ble_eq_true rfl) dX11_parse_93 ⟨Nat.zero_le _, Nat.zero_le _⟩ (fun S10 eS10 H locs hw => ?_)
                have eS10 : S10 = rt (rS2 T) := by rw [eS10, eS9]; rfl
                refine lv_goto (tgt := 53) hx hb dX11_parse_96 (by decide) ?_
                exact ih53 (f9 - 1) S10 _ _ _ (by omega) (by rw [show S10 = rStep T by unfold rStep; first | (rw [if_pos c7]; exact eS10) | (rw [if_neg (by rw [c7]; decide)]; exact eS10)]; exact okQ_step hQ) (by rw [show S10 = rStep T by unfold rStep; first | (rw [if_pos c7]; exact eS10) | (rw [if_neg (by rw [c7]; decide)]; exact eS10)]; exact okGd_step hG) (by rw [hR, show f9 = (f9 - 1) + 1 by omega, rRun, if_pos he0, if_neg hk0, show S10 = rStep T by unfold rStep; first | (rw [if_pos c7]; exact eS10) | (rw [if_neg (by rw [c7]; decide)]; exact eS10)]; rfl) (by rw [show S10 = rStep T by unfold rStep; first | (rw [if_pos c7]; exact eS10) | (rw [if_neg (by rw [c7]; decide)]; exact eS10)]; exact hpr) hw (lv_sub hl [0, 1] rfl)
            · skip
              refine lv_iconst (v := nI 1) hx hb dX11_parse_80 (by decide) ?_
              refine lv_goto (tgt := 85) hx hb dX11_parse_81 (by decide) ?_
              refine lv_iconst (v := nI 1) hx hb dX11_parse_85 (by decide) ?_
              refine x_callVI (q := 30) (C := RX11) (As := [.int (b2i true), .int (nI 1)]) (rest := []) ⟨hx, hb, hml, hown, hts⟩ (ct_X11_must l D cA α n _ hn S8 true (nI 1)) (cwV 2 hts gX11_parse_X11_must rfl rfl rfl (by decide +kernel) ⟨Nat.le_of_ble_eq_true rfl, Nat.le_of_ble_eq_true rfl⟩) hK hw hAw (ws_recv hK hw (q := 30) (Nat.lt_of_lt_of_le (Nat.le_of_ble_eq_true rfl : 30 < 191) hn) (mk_30 cA α) rfl) rfl hl.1 rfl (Nat.le_of_ble_eq_true rfl) dX11_parse_86 ⟨Nat.zero_le _, Nat.zero_le _⟩ (fun S11 eS11 H locs hw => ?_)
              refine x_topE (y := b2i (rOk (rS2 T))) (by unfold rS2; rw [← eS8]; simp only [c1, if_pos c2, if_neg (not_not_intro c2), decide_eq_true c2, if_neg c4, if_pos c4, decide_eq_false c4, if_pos c6, if_neg (not_not_intro c6), decide_eq_true c6]) ?_
              have eS11 : S11 = rS2 T := by rw [eS11]; unfold rS2; rw [← eS8]; simp only [c1, if_pos c2, if_neg (not_not_intro c2), decide_eq_true c2, if_neg c4, if_pos c4, decide_eq_false c4, if_pos c6, if_neg (not_not_intro c6), decide_eq_true c6]
              refine xb_eq (b := (rOk (rS2 T))) (tgt := 53) hx hb dX11_parse_89 (by decide) (fun c8 => ?_) (fun c8 => ?_)
              · skip
                exact ih53 (f9 - 1) S11 _ _ _ (by omega) (by rw [show S11 = rStep T by unfold rStep; first | (rw [if_pos c8]; exact eS11) | (rw [if_neg (by rw [c8]; decide)]; exact eS11)]; exact okQ_step hQ) (by rw [show S11 = rStep T by unfold rStep; first | (rw [if_pos c8]; exact eS11) | (rw [if_neg (by rw [c8]; decide)]; exact eS11)]; exact okGd_step hG) (by rw [hR, show f9 = (f9 - 1) + 1 by omega, rRun, if_pos he0, if_neg hk0, show S11 = rStep T by unfold rStep; first | (rw [if_pos c8]; exact eS11) | (rw [if_neg (by rw [c8]; decide)]; exact eS11)]; rfl) (by rw [show S11 = rStep T by unfold rStep; first | (rw [if_pos c8]; exact eS11) | (rw [if_neg (by rw [c8]; decide)]; exact eS11)]; exact hpr) hw (lv_sub hl [0, 1] rfl)
              · skip
                refine lv_aload_n hx hb dX11_parse_92 rfl (lv_at hl 0 rfl) ?_
                refine x_callVV (q := 30) (C := RX11) (As := []) (rest := []) ⟨hx, hb, hml, hown, hts⟩ (ct_X11_nextToken l D cA α n _ hn S11 (gN (S11.1 30 3)) (gN (S11.1 30 5)) (by subst eS11; subst eS8; exact ((okQ_s2 hQ).1).1) (by subst eS11; subst eS8; exact ((okQ_s2 hQ).1).2.1) (by subst eS11; subst eS8; exact ((okQ_s2 hQ).1).2.2.1) (by subst eS11; subst eS8; exact ((okQ_s2 hQ).1).2.2.2.1) (by subst eS11; subst eS8; exact ((okQ_s2 hQ).1).2.2.2.2)) (cwV 0 hts gX11_parse_X11_nextToken rfl rfl rfl (by decide +kernel) ⟨Nat.le_of_ble_eq_true rfl, Nat.le_of_ble_eq_true rfl⟩) hK hw hAw (ws_recv hK hw (q := 30) (Nat.lt_of_lt_of_le (Nat.le_of_ble_eq_true rfl : 30 < 191) hn) (mk_30 cA α) rfl) rfl hl.1 rfl (Nat.le_of_ble_eq_true rfl) dX11_parse_93 ⟨Nat.zero_le _, Nat.zero_le _⟩ (fun S12 eS12 H locs hw => ?_)
                have eS12 : S12 = rt (rS2 T) := by rw [eS12, eS11]; rfl
                refine lv_goto (tgt := 53) hx hb dX11_parse_96 (by decide) ?_
                exact ih53 (f9 - 1) S12 _ _ _ (by omega) (by rw [show S12 = rStep T by unfold rStep; first | (rw [if_pos c8]; exact eS12) | (rw [if_neg (by rw [c8]; decide)]; exact eS12)]; exact okQ_step hQ) (by rw [show S12 = rStep T by unfold rStep; first | (rw [if_pos c8]; exact eS12) | (rw [if_neg (by rw [c8]; decide)]; exact eS12)]; exact okGd_step hG) (by rw [hR, show f9 = (f9 - 1) + 1 by omega, rRun, if_pos he0, if_neg hk0, show S12 = rStep T by unfold rStep; first | (rw [if_pos c8]; exact eS12) | (rw [if_neg (by rw [c8]; decide)]; exact eS12)]; rfl) (by rw [show S12 = rStep T by unfold rStep; first | (rw [if_pos c8]; exact eS12) | (rw [if_neg (by rw [c8]; decide)]; exact eS12)]; exact hpr) hw (lv_sub hl [0, 1] rfl)
    exact lp53 _ 601 S7 _ _ _ (Nat.lt_succ_self _) (by subst eS7; subst eS6; subst eS5; subst eS4; subst eS3; subst eS2; subst eS1; exact (rIn0_ok S (by omega) hB).1) (by subst eS7; subst eS6; subst eS5; subst eS4; subst eS3; subst eS2; subst eS1; exact (rIn0_ok S (by omega) hB).2) (by subst eS7; subst eS6; subst eS5; subst eS4; subst eS3; subst eS2; subst eS1; rfl) (by subst eS7; subst eS6; subst eS5; subst eS4; subst eS3; subst eS2; subst eS1; right; exact rIn0_lt S (by omega)) hw (lv_sub hl [0, 1] rfl)
  · exact absurd ((wi2_iff (a := 0) (b := F) (by omega) (by decide)).mpr ⟨n9, Nat.zero_le _, h600, rfl⟩) (by rw [show (nI 0).toInt64 = 0 from rfl, c1]; decide)

set_option maxRecDepth 100000 in
set_option maxHeartbeats 1000000 in
theorem ct_X11_parse (l : Launch) (ka va : Nat → Nat) (D : va_G) (cA : Nat → ClassId) (α : Nat → Nat) (n sz : Nat) (hn : 191 ≤ n) (S : Mem) (F : Nat) (hF : S.1 30 2 = nI F) (hF2 : F ≤ 600) (n9 : Nat) (h600 : n9 ≤ F) (hB : okB S) (hv : (rRun (rIn0 S n9) 601).1 30 8 = 0) : CtIe ka va l yX11_parse wsX11_parse ({ frames := 8, cells := 0, slots := 0, locals := 169 }) D cA α n sz [.ref (α 30), .int (nI n9)] S ((rTD (rRun (rIn0 S n9) 601)).1 33 1) (rTD (rRun (rIn0 S n9) 601)) := by
  refine cte_enter cX11_parse 2 (some .int) (by decide) rfl (Nat.le_of_ble_eq_true rfl) ?_
  intro p e s m below meth c hx hb hr hml hlocks hown hts hK hsz hw hE ls hl
  have hown : s.vm.findClass RX11 = some m.cls := hown
  have hAw : ∀ z, Aw α n s.heap.size z → Aw α n sz z := by rw [hsz]; exact fun _ h => h
  have hl : lv_has ls 2 [(0, .ref (α 30)), (1, .int (nI n9))] := hl
  refine lv_aload_n hx hb dX11_parse_0 rfl (lv_at hl 0 rfl) ?_
  refine lv_iconst (v := nI 0) hx hb dX11_parse_1 (by decide) ?_
  refine x_putI (x := nI 0) (ty := .int) (C := RX11) (T := TX11) (N := 24) hx hb hts (fun _ h => List.mem_cons_of_mem _ (List.mem_append_right _ h)) tyX11 tyX11_ok nmX11 hown hK hw 30 (Nat.lt_of_lt_of_le (Nat.le_of_ble_eq_true rfl : 30 < 191) hn) (mk_30 cA α) rfl 0 (by decide) (hts _ (List.mem_of_getElem? (i := 1) rfl)) (fun _ h9 => h9) rfl rfl rfl rfl (Nat.le_of_ble_eq_true rfl) rfl dX11_parse_2 (fun S1 eS1 H locs hw => ?_)
  refine lv_iload_n hx hb dX11_parse_5 rfl (lv_at hl 1 rfl) ?_
  refine lv_i2l hx hb dX11_parse_6 rfl ?_
  refine lv_lconst (v := 0) hx hb dX11_parse_7 (by decide) ?_
  refine lv_aload_n hx hb dX11_parse_8 rfl (lv_at hl 0 rfl) ?_
  refine x_get (v := .int (S1.1 30 2)) (C := RX11) (T := TX11) (N := 24) hx hb hts (fun _ h => List.mem_cons_of_mem _ (List.mem_append_right _ h)) hown hK hw 30 (Nat.lt_of_lt_of_le (Nat.le_of_ble_eq_true rfl : 30 < 191) hn) (mk_30 cA α) rfl 2 (by decide) (hts _ (List.mem_of_getElem? (i := 2) rfl)) (fun _ h9 => h9) rfl dX11_parse_9 ?_
  refine x_topN (k := F) (by subst eS1; exact hF) ?_
  refine lv_i2l hx hb dX11_parse_12 rfl ?_
  refine x_callSIr (q := 0) (C := RX0) (As := [.long ((nI n9).toInt64), .long (0), .long ((nI F).toInt64)]) (rest := []) ⟨hx, hb, hml, hown, hts⟩ (ct_X11_within l D cA α n _ hn S1 ((nI n9).toInt64) (0) ((nI F).toInt64)) (va_cwS 3 hts gX11_parse_X11_within rfl rfl rfl (by decide +kernel) ⟨Nat.le_of_ble_eq_true rfl, Nat.le_of_ble_eq_true rfl⟩) hK hw hAw rfl hl.1 rfl (Nat.le_of_ble_eq_true rfl) dX11_parse_13 ⟨Nat.zero_le _, Nat.zero_le _⟩ (fun H locs hw => ?_)
  refine xb_ne (b := (wiL ((nI n9).toInt64) (0) ((nI F).toInt64))) (tgt := 25) hx hb dX11_parse_16 (by decide) (fun c1 => ?_) (fun c1 => ?_)
  · skip
    refine lv_aload_n hx hb dX11_parse_25 rfl (lv_at hl 0 rfl) ?_
    refine lv_iload_n hx hb dX11_parse_26 rfl (lv_at hl 1 rfl) ?_
    refine x_putI (x := nI n9) (ty := .int) (C := RX11) (T := TX11) (N := 24) hx hb hts (fun _ h => List.mem_cons_of_mem _ (List.mem_append_right _ h)) tyX11 tyX11_ok nmX11 hown hK hw 30 (Nat.lt_of_lt_of_le (Nat.le_of_ble_eq_true rfl : 30 < 191) hn) (mk_30 cA α) rfl 3 (by decide) (hts _ (List.mem_of_getElem? (i := 3) rfl)) (fun _ h9 => h9) rfl rfl rfl rfl (Nat.le_of_ble_eq_true rfl) rfl dX11_parse_27 (fun S2 eS2 H locs hw => ?_)
    refine lv_aload_n hx hb dX11_parse_30 rfl (lv_at hl 0 rfl) ?_
    refine lv_iconst (v := nI 0) hx hb dX11_parse_31 (by decide) ?_
    refine x_putI (x := nI 0) (ty := .int) (C := RX11) (T := TX11) (N := 24) hx hb hts (fun _ h => List.mem_cons_of_mem _ (List.mem_append_right _ h)) tyX11 tyX11_ok nmX11 hown hK hw 30 (Nat.lt_of_lt_of_le (Nat.le_of_ble_eq_true rfl : 30 < 191) hn) (mk_30 cA α) rfl 2 (by decide) (hts _ (List.mem_of_getElem? (i := 2) rfl)) (fun _ h9 => h9) rfl rfl rfl rfl (Nat.le_of_ble_eq_true rfl) rfl dX11_parse_32 (fun S3 eS3 H locs hw => ?_)
    refine lv_aload_n hx hb dX11_parse_35 rfl (lv_at hl 0 rfl) ?_
    refine lv_iconst (v := nI 0) hx hb dX11_parse_36 (by decide) ?_
    refine x_putI (x := nI 0) (ty := .int) (C := RX11) (T := TX11) (N := 24) hx hb hts (fun _ h => List.mem_cons_of_mem _ (List.mem_append_right _ h)) tyX11 tyX11_ok nmX11 hown hK hw 30 (Nat.lt_of_lt_of_le (Nat.le_of_ble_eq_true rfl : 30 < 191) hn) (mk_30 cA α) rfl 5 (by decide) (hts _ (List.mem_of_getElem? (i := 4) rfl)) (fun _ h9 => h9) rfl rfl rfl rfl (Nat.le_of_ble_eq_true rfl) rfl dX11_parse_37 (fun S4 eS4 H locs hw => ?_)
    refine lv_aload_n hx hb dX11_parse_40 rfl (lv_at hl 0 rfl) ?_
    refine lv_iconst (v := nI 0) hx hb dX11_parse_41 (by decide) ?_
    refine x_putI (x := nI 0) (ty := .int) (C := RX11) (T := TX11) (N := 24) hx hb hts (fun _ h => List.mem_cons_of_mem _ (List.mem_append_right _ h)) tyX11 tyX11_ok nmX11 hown hK hw 30 (Nat.lt_of_lt_of_le (Nat.le_of_ble_eq_true rfl : 30 < 191) hn) (mk_30 cA α) rfl 8 (by decide) (hts _ (List.mem_of_getElem? (i := 5) rfl)) (fun _ h9 => h9) rfl rfl rfl rfl (Nat.le_of_ble_eq_true rfl) rfl dX11_parse_42 (fun S5 eS5 H locs hw => ?_)
    refine lv_aload_n hx hb dX11_parse_45 rfl (lv_at hl 0 rfl) ?_
    refine x_callVV (q := 30) (C := RX11) (As := []) (rest := []) ⟨hx, hb, hml, hown, hts⟩ (ct_X11_setDefaults l D cA α n _ hn S5 ) (cwV 0 hts gX11_parse_X11_setDefaults rfl rfl rfl (by decide +kernel) ⟨Nat.le_of_ble_eq_true rfl, Nat.le_of_ble_eq_true rfl⟩) hK hw hAw (ws_recv hK hw (q := 30) (Nat.lt_of_lt_of_le (Nat.le_of_ble_eq_true rfl : 30 < 191) hn) (mk_30 cA α) rfl) rfl hl.1 rfl (Nat.le_of_ble_eq_true rfl) dX11_parse_46 ⟨Nat.zero_le _, Nat.zero_le _⟩ (fun S6 eS6 H locs hw => ?_)
    refine lv_aload_n hx hb dX11_parse_49 rfl (lv_at hl 0 rfl) ?_
    refine x_callVV (q := 30) (C := RX11) (As := []) (rest := []) ⟨hx, hb, hml, hown, hts⟩ (ct_X11_nextToken l D cA α n _ hn S6 n9 0 (by subst eS6; subst eS5; subst eS4; subst eS3; subst eS2; subst eS1; exact (rIni_1 S n9 3)) (by omega) (by subst eS6; subst eS5; subst eS4; subst eS3; subst eS2; subst eS1; exact (rIni_1 S n9 5)) (Nat.zero_le _) (by subst eS6; subst eS5; subst eS4; subst eS3; subst eS2; subst eS1; exact rIni_B hB)) (cwV 0 hts gX11_parse_X11_nextToken rfl rfl rfl (by decide +kernel) ⟨Nat.le_of_ble_eq_true rfl, Nat.le_of_ble_eq_true rfl⟩) hK hw hAw (ws_recv hK hw (q := 30) (Nat.lt_of_lt_of_le (Nat.le_of_ble_eq_true rfl : 30 < 191) hn) (mk_30 cA α) rfl) rfl hl.1 rfl (Nat.le_of_ble_eq_true rfl) dX11_parse_50 ⟨Nat.zero_le _, Nat.zero_le _⟩ (fun S7 eS7 H locs hw => ?_)
    have lp53 : ∀ (t : Nat) (f9 : Nat) (T : Mem) (H : Heap) (locs : List Loc) (ls : Array Slot), f9 < t → okQ T → okGd T → rRun (rIn0 S n9) 601 = rRun T f9 → ¬ T.1 30 8 = 0 ∨ gN (T.1 30 3) - gN (T.1 30 5) < f9 → Ws D cA α n (Aw α n sz) s.heap T H locs → lv_has ls 2 [(0, .ref (α 30)), (1, .int (nI n9))] → W p l e ({ frames := 8, cells := 0, slots := 0, locals := 169 } : Room) s m (List.toArray ([.ref (α 30), .int (nI n9)] : List Value)) below meth c H locs 0 0 (MQ below (va_Qi (fun r u => r = ((rTD (rRun (rIn0 S n9) 601)).1 33 1) ∧ u = (rTD (rRun (rIn0 S n9) 601))) (Pw D cA α n) (Aw α n sz)) (List.toArray ([.ref (α 30), .int (nI n9)] : List Value)) s 0 0 (Aw α n sz)) (F0 m 53 ls []) := by
      intro t
      induction t with
      | zero => intro f9 T H locs ls ht; exact absurd ht (Nat.not_lt_zero _)
      | succ t ih53 =>
        intro f9 T H locs ls ht hQ hG hR hm hw hl
        refine lv_aload_n hx hb dX11_parse_53 rfl (lv_at hl 0 rfl) ?_
        refine x_get (v := .int (T.1 30 8)) (C := RX11) (T := TX11) (N := 24) hx hb hts (fun _ h => List.mem_cons_of_mem _ (List.mem_append_right _ h)) hown hK hw 30 (Nat.lt_of_lt_of_le (Nat.le_of_ble_eq_true rfl : 30 < 191) hn) (mk_30 cA α) rfl 8 (by decide) (hts _ (List.mem_of_getElem? (i := 5) rfl)) (fun _ h9 => h9) rfl dX11_parse_54 ?_
        refine lv_if_ne (tgt := 99) hx hb dX11_parse_57 (by decide) (fun c2 => ?_) (fun c2 => ?_)
        · skip
          have hTT : rRun (rIn0 S n9) 601 = T := by rw [hR]; first | exact rRun_stop (Or.inl c2) _ | exact rRun_stop (Or.inr c2) _
          refine lv_aload_n hx hb dX11_parse_99 rfl (lv_at hl 0 rfl) ?_
          refine x_get (v := .int (T.1 30 8)) (C := RX11) (T := TX11) (N := 24) hx hb hts (fun _ h => List.mem_cons_of_mem _ (List.mem_append_right _ h)) hown hK hw 30 (Nat.lt_of_lt_of_le (Nat.le_of_ble_eq_true rfl : 30 < 191) hn) (mk_30 cA α) rfl 8 (by decide) (hts _ (List.mem_of_getElem? (i := 5) rfl)) (fun _ h9 => h9) rfl dX11_parse_100 ?_
          refine lv_if_eq (tgt := 122) hx hb dX11_parse_103 (by decide) (fun c3 => ?_) (fun c3 => ?_)
          · skip
            refine lv_aload_n hx hb dX11_parse_122 rfl (lv_at hl 0 rfl) ?_
            refine x_callVV (q := 30) (C := RX11) (As := []) (rest := []) ⟨hx, hb, hml, hown, hts⟩ (ct_X11_takeDraft l D cA α n _ hn T ) (cwV 0 hts gX11_parse_X11_takeDraft rfl rfl rfl (by decide +kernel) ⟨Nat.le_of_ble_eq_true rfl, Nat.le_of_ble_eq_true rfl⟩) hK hw hAw (ws_recv hK hw (q := 30) (Nat.lt_of_lt_of_le (Nat.le_of_ble_eq_true rfl : 30 < 191) hn) (mk_30 cA α) rfl) rfl hl.1 rfl (Nat.le_of_ble_eq_true rfl) dX11_parse_123 ⟨Nat.zero_le _, Nat.zero_le _⟩ (fun S8 eS8 H locs hw => ?_)
            refine lv_aload_n hx hb dX11_parse_126 rfl (lv_at hl 0 rfl) ?_
            refine x_get (v := .ref (α 33)) (C := RX11) (T := TX11) (N := 24) hx hb hts (fun _ h => List.mem_cons_of_mem _ (List.mem_append_right _ h)) hown hK hw 30 (Nat.lt_of_lt_of_le (Nat.le_of_ble_eq_true rfl : 30 < 191) hn) (mk_30 cA α) rfl 11 (by decide) (hts _ (List.mem_of_getElem? (i := 8) rfl)) (fun _ h9 => h9) rfl dX11_parse_127 ?_
            refine lv_iconst (v := nI 1) hx hb dX11_parse_130 (by decide) ?_
            refine x_iald hx hb hK hw 33 40 (Nat.lt_of_lt_of_le (Nat.le_of_ble_eq_true rfl : 33 < 191) hn) (mk_33 cA α) 1 rfl (by decide) (by decide) dX11_parse_131 ?_
            exact ret_i hx hb hr hlocks hK hw dX11_parse_132 (by rw [eS8, hTT]) (by rw [eS8, hTT])
          · exact absurd hv (by rw [hTT]; exact c3)
        · skip
          refine lv_aload_n hx hb dX11_parse_60 rfl (lv_at hl 0 rfl) ?_
          refine x_get (v := .int (T.1 30 6)) (C := RX11) (T := TX11) (N := 24) hx hb hts (fun _ h => List.mem_cons_of_mem _ (List.mem_append_right _ h)) hown hK hw 30 (Nat.lt_of_lt_of_le (Nat.le_of_ble_eq_true rfl : 30 < 191) hn) (mk_30 cA α) rfl 6 (by decide) (hts _ (List.mem_of_getElem? (i := 6) rfl)) (fun _ h9 => h9) rfl dX11_parse_61 ?_
          refine lv_if_eq (tgt := 99) hx hb dX11_parse_64 (by decide) (fun c4 => ?_) (fun c4 => ?_)
          · skip
            have hTT : rRun (rIn0 S n9) 601 = T := by rw [hR]; first | exact rRun_stop (Or.inl c4) _ | exact rRun_stop (Or.inr c4) _
            refine lv_aload_n hx hb dX11_parse_99 rfl (lv_at hl 0 rfl) ?_
            refine x_get (v := .int (T.1 30 8)) (C := RX11) (T := TX11) (N := 24) hx hb hts (fun _ h => List.mem_cons_of_mem _ (List.mem_append_right _ h)) hown hK hw 30 (Nat.lt_of_lt_of_le (Nat.le_of_ble_eq_true rfl : 30 < 191) hn) (mk_30 cA α) rfl 8 (by decide) (hts _ (List.mem_of_getElem? (i := 5) rfl)) (fun _ h9 => h9) rfl dX11_parse_100 ?_
            refine lv_if_eq (tgt := 122) hx hb dX11_parse_103 (by decide) (fun c5 => ?_) (fun c5 => ?_)
            · skip
              refine lv_aload_n hx hb dX11_parse_122 rfl (lv_at hl 0 rfl) ?_
              refine x_callVV (q := 30) (C := RX11) (As := []) (rest := []) ⟨hx, hb, hml, hown, hts⟩ (ct_X11_takeDraft l D cA α n _ hn T ) (cwV 0 hts gX11_parse_X11_takeDraft rfl rfl rfl (by decide +kernel) ⟨Nat.le_of_ble_eq_true rfl, Nat.le_of_ble_eq_true rfl⟩) hK hw hAw (ws_recv hK hw (q := 30) (Nat.lt_of_lt_of_le (Nat.le_of_ble_eq_true rfl : 30 < 191) hn) (mk_30 cA α) rfl) rfl hl.1 rfl (Nat.le_of_ble_eq_true rfl) dX11_parse_123 ⟨Nat.zero_le _, Nat.zero_le _⟩ (fun S9 eS9 H locs hw => ?_)
              refine lv_aload_n hx hb dX11_parse_126 rfl (lv_at hl 0 rfl) ?_
              refine x_get (v := .ref (α 33)) (C := RX11) (T := TX11) (N := 24) hx hb hts (fun _ h => List.mem_cons_of_mem _ (List.mem_append_right _ h)) hown hK hw 30 (Nat.lt_of_lt_of_le (Nat.le_of_ble_eq_true rfl : 30 < 191) hn) (mk_30 cA α) rfl 11 (by decide) (hts _ (List.mem_of_getElem? (i := 8) rfl)) (fun _ h9 => h9) rfl dX11_parse_127 ?_
              refine lv_iconst (v := nI 1) hx hb dX11_parse_130 (by decide) ?_
              refine x_iald hx hb hK hw 33 40 (Nat.lt_of_lt_of_le (Nat.le_of_ble_eq_true rfl : 33 < 191) hn) (mk_33 cA α) 1 rfl (by decide) (by decide) dX11_parse_131 ?_
              exact ret_i hx hb hr hlocks hK hw dX11_parse_132 (by rw [eS9, hTT]) (by rw [eS9, hTT])
            · exact absurd hv (by rw [hTT]; exact c5)
          · skip
            have hk0 := c4
            have he0 := c2
            have hf0 : 0 < f9 := by rcases hm with h | h; exact absurd he0 h; omega
            have hpr : ¬ (rStep T).1 30 8 = 0 ∨ gN ((rStep T).1 30 3) - gN ((rStep T).1 30 5) < f9 - 1 := step_go hQ (by rcases hm with h | h; exact absurd he0 h; exact h)
            refine lv_aload_n hx hb dX11_parse_67 rfl (lv_at hl 0 rfl) ?_
            refine x_callVVe (b := (α 30)) (C := RX11) (As := []) (rest := []) ⟨hx, hb, hml, hown, hts⟩ (ct_X11_statement l ka va D cA α n _ hn T hQ hG.1 hG.2.1 hG.2.2) (cwV 0 hts gX11_parse_X11_statement rfl rfl rfl (by decide +kernel) ⟨Nat.le_of_ble_eq_true rfl, Nat.le_of_ble_eq_true rfl⟩) hK hw hsz hE (ws_recv hK hw (q := 30) (Nat.lt_of_lt_of_le (Nat.le_of_ble_eq_true rfl : 30 < 191) hn) (mk_30 cA α) rfl) rfl hl.1 rfl (Nat.le_of_ble_eq_true rfl) dX11_parse_68 ⟨Nat.zero_le _, Nat.zero_le _⟩ (fun S10 eS10 H locs hw => ?_)
            have eS10 : S10 = rStm T := eS10
            refine lv_aload_n hx hb dX11_parse_71 rfl (lv_at hl 0 rfl) ?_
            refine lv_aload_n hx hb dX11_parse_72 rfl (lv_at hl 0 rfl) ?_
            refine x_get (v := .int (S10.1 30 6)) (C := RX11) (T := TX11) (N := 24) hx hb hts (fun _ h => List.mem_cons_of_mem _ (List.mem_append_right _ h)) hown hK hw 30 (Nat.lt_of_lt_of_le (Nat.le_of_ble_eq_true rfl : 30 < 191) hn) (mk_30 cA α) rfl 6 (by decide) (hts _ (List.mem_of_getElem? (i := 6) rfl)) (fun _ h9 => h9) rfl dX11_parse_73 ?_
            refine lv_iconst (v := nI 3) hx hb dX11_parse_76 (by decide) ?_
            refine lv_icmp_ne (tgt := 84) hx hb dX11_parse_77 (by decide) (fun c6 => ?_) (fun c6 => ?_)
            · skip
              refine lv_iconst (v := nI 0) hx hb dX11_parse_84 (by decide) ?_
              refine lv_iconst (v := nI 1) hx hb dX11_parse_85 (by decide) ?_
              refine x_callVI (q := 30) (C := RX11) (As := [.int (b2i false), .int (nI 1)]) (rest := []) ⟨hx, hb, hml, hown, hts⟩ (ct_X11_must l D cA α n _ hn S10 false (nI 1)) (cwV 2 hts gX11_parse_X11_must rfl rfl rfl (by decide +kernel) ⟨Nat.le_of_ble_eq_true rfl, Nat.le_of_ble_eq_true rfl⟩) hK hw hAw (ws_recv hK hw (q := 30) (Nat.lt_of_lt_of_le (Nat.le_of_ble_eq_true rfl : 30 < 191) hn) (mk_30 cA α) rfl) rfl hl.1 rfl (Nat.le_of_ble_eq_true rfl) dX11_parse_86 ⟨Nat.zero_le _, Nat.zero_le _⟩ (fun S11 eS11 H locs hw => ?_)
              refine x_topE (y := b2i (rOk (rS2 T))) (by unfold rS2; rw [← eS10]; simp only [c1, if_pos c2, if_neg (not_not_intro c2), decide_eq_true c2, if_neg c4, if_pos c4, decide_eq_false c4, if_neg c6, if_pos c6, decide_eq_false c6]) ?_
              have eS11 : S11 = rS2 T := by rw [eS11]; unfold rS2; rw [← eS10]; simp only [c1, if_pos c2, if_neg (not_not_intro c2), decide_eq_true c2, if_neg c4, if_pos c4, decide_eq_false c4, if_neg c6, if_pos c6, decide_eq_false c6]
              refine xb_eq (b := (rOk (rS2 T))) (tgt := 53) hx hb dX11_parse_89 (by decide) (fun c7 => ?_) (fun c7 => ?_)
              · skip
                exact ih53 (f9 - 1) S11 _ _ _ (by omega) (by rw [show S11 = rStep T by unfold rStep; first | (rw [if_pos c7]; exact eS11) | (rw [if_neg (by rw [c7]; decide)]; exact eS11)]; exact okQ_step hQ) (by rw [show S11 = rStep T by unfold rStep; first | (rw [if_pos c7]; exact eS11) | (rw [if_neg (by rw [c7]; decide)]; exact eS11)]; exact okGd_step hG) (by rw [hR, show f9 = (f9 - 1) + 1 by omega, rRun, if_pos he0, if_neg hk0, show S11 = rStep T by unfold rStep; first | (rw [if_pos c7]; exact eS11) | (rw [if_neg (by rw [c7]; decide)]; exact eS11)]; rfl) (by rw [show S11 = rStep T by unfold rStep; first | (rw [if_pos c7]; exact eS11) | (rw [if_neg (by rw [c7]; decide)]; exact eS11)]; exact hpr) hw (lv_sub hl [0, 1] rfl)
              · skip
                refine lv_aload_n hx hb dX11_parse_92 rfl (lv_at hl 0 rfl) ?_
                refine x_callVV (q := 30) (C := RX11) (As := []) (rest := []) ⟨hx, hb, hml, hown, hts⟩ (ct_X11_nextToken l D cA α n _ hn S11 (gN (S11.1 30 3)) (gN (S11.1 30 5)) (by subst eS11; subst eS10; exact ((okQ_s2 hQ).1).1) (by subst eS11; subst eS10; exact ((okQ_s2 hQ).1).2.1) (by subst eS11; subst eS10; exact ((okQ_s2 hQ).1).2.2.1) (by subst eS11; subst eS10; exact ((okQ_s2 hQ).1).2.2.2.1) (by subst eS11; subst eS10; exact ((okQ_s2 hQ).1).2.2.2.2)) (cwV 0 hts gX11_parse_X11_nextToken rfl rfl rfl (by decide +kernel) ⟨Nat.le_of_ble_eq_true rfl, Nat.le_of_ble_eq_true rfl⟩) hK hw hAw (ws_recv hK hw (q := 30) (Nat.lt_of_lt_of_le (Nat.le_of_ble_eq_true rfl : 30 < 191) hn) (mk_30 cA α) rfl) rfl hl.1 rfl (Nat.le_of_ble_eq_true rfl) dX11_parse_93 ⟨Nat.zero_le _, Nat.zero_le _⟩ (fun S12 eS12 H locs hw => ?_)
                have eS12 : S12 = rt (rS2 T) := by rw [eS12, eS11]; rfl
                refine lv_goto (tgt := 53) hx hb dX11_parse_96 (by decide) ?_
                exact ih53 (f9 - 1) S12 _ _ _ (by omega) (by rw [show S12 = rStep T by unfold rStep; first | (rw [if_pos c7]; exact eS12) | (rw [if_neg (by rw [c7]; decide)]; exact eS12)]; exact okQ_step hQ) (by rw [show S12 = rStep T by unfold rStep; first | (rw [if_pos c7]; exact eS12) | (rw [if_neg (by rw [c7]; decide)]; exact eS12)]; exact okGd_step hG) (by rw [hR, show f9 = (f9 - 1) + 1 by omega, rRun, if_pos he0, if_neg hk0, show S12 = rStep T by unfold rStep; first | (rw [if_pos c7]; exact eS12) | (rw [if_neg (by rw [c7]; decide)]; exact eS12)]; rfl) (by rw [show S12 = rStep T by unfold rStep; first | (rw [if_pos c7]; exact eS12) | (rw [if_neg (by rw [c7]; decide)]; exact eS12)]; exact hpr) hw (lv_sub hl [0, 1] rfl)
            · skip
              refine lv_iconst (v := nI 1) hx hb dX11_parse_80 (by decide) ?_
              refine lv_goto (tgt := 85) hx hb dX11_parse_81 (by decide) ?_
              refine lv_iconst (v := nI 1) hx hb dX11_parse_85 (by decide) ?_
              refine x_callVI (q := 30) (C := RX11) (As := [.int (b2i true), .int (nI 1)]) (rest := []) ⟨hx, hb, hml, hown, hts⟩ (ct_X11_must l D cA α n _ hn S10 true (nI 1)) (cwV 2 hts gX11_parse_X11_must rfl rfl rfl (by decide +kernel) ⟨Nat.le_of_ble_eq_true rfl, Nat.le_of_ble_eq_true rfl⟩) hK hw hAw (ws_recv hK hw (q := 30) (Nat.lt_of_lt_of_le (Nat.le_of_ble_eq_true rfl : 30 < 191) hn) (mk_30 cA α) rfl) rfl hl.1 rfl (Nat.le_of_ble_eq_true rfl) dX11_parse_86 ⟨Nat.zero_le _, Nat.zero_le _⟩ (fun S13 eS13 H locs hw => ?_)
              refine x_topE (y := b2i (rOk (rS2 T))) (by unfold rS2; rw [← eS10]; simp only [c1, if_pos c2, if_neg (not_not_intro c2), decide_eq_true c2, if_neg c4, if_pos c4, decide_eq_false c4, if_pos c6, if_neg (not_not_intro c6), decide_eq_true c6]) ?_
              have eS13 : S13 = rS2 T := by rw [eS13]; unfold rS2; rw [← eS10]; simp only [c1, if_pos c2, if_neg (not_not_intro c2), decide_eq_true c2, if_neg c4, if_pos c4, decide_eq_false c4, if_pos c6, if_neg (not_not_intro c6), decide_eq_true c6]
              refine xb_eq (b := (rOk (rS2 T))) (tgt := 53) hx hb dX11_parse_89 (by decide) (fun c8 => ?_) (fun c8 => ?_)
              · skip
                exact ih53 (f9 - 1) S13 _ _ _ (by omega) (by rw [show S13 = rStep T by unfold rStep; first | (rw [if_pos c8]; exact eS13) | (rw [if_neg (by rw [c8]; decide)]; exact eS13)]; exact okQ_step hQ) (by rw [show S13 = rStep T by unfold rStep; first | (rw [if_pos c8]; exact eS13) | (rw [if_neg (by rw [c8]; decide)]; exact eS13)]; exact okGd_step hG) (by rw [hR, show f9 = (f9 - 1) + 1 by omega, rRun, if_pos he0, if_neg hk0, show S13 = rStep T by unfold rStep; first | (rw [if_pos c8]; exact eS13) | (rw [if_neg (by rw [c8]; decide)]; exact eS13)]; rfl) (by rw [show S13 = rStep T by unfold rStep; first | (rw [if_pos c8]; exact eS13) | (rw [if_neg (by rw [c8]; decide)]; exact eS13)]; exact hpr) hw (lv_sub hl [0, 1] rfl)
              · skip
                refine lv_aload_n hx hb dX11_parse_92 rfl (lv_at hl 0 rfl) ?_
                refine x_callVV (q := 30) (C := RX11) (As := []) (rest := []) ⟨hx, hb, hml, hown, hts⟩ (ct_X11_nextToken l D cA α n _ hn S13 (gN (S13.1 30 3)) (gN (S13.1 30 5)) (by subst eS13; subst eS10; exact ((okQ_s2 hQ).1).1) (by subst eS13; subst eS10; exact ((okQ_s2 hQ).1).2.1) (by subst eS13; subst eS10; exact ((okQ_s2 hQ).1).2.2.1) (by subst eS13; subst eS10; exact ((okQ_s2 hQ).1).2.2.2.1) (by subst eS13; subst eS10; exact ((okQ_s2 hQ).1).2.2.2.2)) (cwV 0 hts gX11_parse_X11_nextToken rfl rfl rfl (by decide +kernel) ⟨Nat.le_of_ble_eq_true rfl, Nat.le_of_ble_eq_true rfl⟩) hK hw hAw (ws_recv hK hw (q := 30) (Nat.lt_of_lt_of_le (Nat.le_of_ble_eq_true rfl : 30 < 191) hn) (mk_30 cA α) rfl) rfl hl.1 rfl (Nat.le_of_ble_eq_true rfl) dX11_parse_93 ⟨Nat.zero_le _, Nat.zero_le _⟩ (fun S14 eS14 H locs hw => ?_)
                have eS14 : S14 = rt (rS2 T) := by rw [eS14, eS13]; rfl
                refine lv_goto (tgt := 53) hx hb dX11_parse_96 (by decide) ?_
                exact ih53 (f9 - 1) S14 _ _ _ (by omega) (by rw [show S14 = rStep T by unfold rStep; first | (rw [if_pos c8]; exact eS14) | (rw [if_neg (by rw [c8]; decide)]; exact eS14)]; exact okQ_step hQ) (by rw [show S14 = rStep T by unfold rStep; first | (rw [if_pos c8]; exact eS14) | (rw [if_neg (by rw [c8]; decide)]; exact eS14)]; exact okGd_step hG) (by rw [hR, show f9 = (f9 - 1) + 1 by omega, rRun, if_pos he0, if_neg hk0, show S14 = rStep T by unfold rStep; first | (rw [if_pos c8]; exact eS14) | (rw [if_neg (by rw [c8]; decide)]; exact eS14)]; rfl) (by rw [show S14 = rStep T by unfold rStep; first | (rw [if_pos c8]; exact eS14) | (rw [if_neg (by rw [c8]; decide)]; exact eS14)]; exact hpr) hw (lv_sub hl [0, 1] rfl)
    exact lp53 _ 601 S7 _ _ _ (Nat.lt_succ_self _) (by subst eS7; subst eS6; subst eS5; subst eS4; subst eS3; subst eS2; subst eS1; exact (rIn0_ok S (by omega) hB).1) (by subst eS7; subst eS6; subst eS5; subst eS4; subst eS3; subst eS2; subst eS1; exact (rIn0_ok S (by omega) hB).2) (by subst eS7; subst eS6; subst eS5; subst eS4; subst eS3; subst eS2; subst eS1; rfl) (by subst eS7; subst eS6; subst eS5; subst eS4; subst eS3; subst eS2; subst eS1; right; exact rIn0_lt S (by omega)) hw (lv_sub hl [0, 1] rfl)
  · exact absurd ((wi2_iff (a := 0) (b := F) (by omega) (by decide)).mpr ⟨n9, Nat.zero_le _, h600, rfl⟩) (by rw [show (nI 0).toInt64 = 0 from rfl, c1]; decide)

set_option maxRecDepth 100000 in
set_option maxHeartbeats 1000000 in
theorem ct_X11_parseX (l : Launch) (ka va : Nat → Nat) (D : va_G) (cA : Nat → ClassId) (α : Nat → Nat) (n sz : Nat) (hn : 191 ≤ n) (S : Mem) (F : Nat) (hF : S.1 30 2 = nI F) (hF2 : F ≤ 600) (x : Int32) (hx9 : ¬ ∃ i, 0 ≤ i ∧ i ≤ F ∧ x = nI i) : CtIe ka va l yX11_parse wsX11_parse ({ frames := 8, cells := 0, slots := 0, locals := 169 }) D cA α n sz [.ref (α 30), .int x] S (nI 0) (setI (setI S 30 0 (nI 0)) 30 0 (nI 1)) := by
  refine cte_enter cX11_parse 2 (some .int) (by decide) rfl (Nat.le_of_ble_eq_true rfl) ?_
  intro p e s m below meth c hx hb hr hml hlocks hown hts hK hsz hw hE ls hl
  have hown : s.vm.findClass RX11 = some m.cls := hown
  have hAw : ∀ z, Aw α n s.heap.size z → Aw α n sz z := by rw [hsz]; exact fun _ h => h
  have hl : lv_has ls 2 [(0, .ref (α 30)), (1, .int x)] := hl
  refine lv_aload_n hx hb dX11_parse_0 rfl (lv_at hl 0 rfl) ?_
  refine lv_iconst (v := nI 0) hx hb dX11_parse_1 (by decide) ?_
  refine x_putI (x := nI 0) (ty := .int) (C := RX11) (T := TX11) (N := 24) hx hb hts (fun _ h => List.mem_cons_of_mem _ (List.mem_append_right _ h)) tyX11 tyX11_ok nmX11 hown hK hw 30 (Nat.lt_of_lt_of_le (Nat.le_of_ble_eq_true rfl : 30 < 191) hn) (mk_30 cA α) rfl 0 (by decide) (hts _ (List.mem_of_getElem? (i := 1) rfl)) (fun _ h9 => h9) rfl rfl rfl rfl (Nat.le_of_ble_eq_true rfl) rfl dX11_parse_2 (fun S1 eS1 H locs hw => ?_)
  refine lv_iload_n hx hb dX11_parse_5 rfl (lv_at hl 1 rfl) ?_
  refine lv_i2l hx hb dX11_parse_6 rfl ?_
  refine lv_lconst (v := 0) hx hb dX11_parse_7 (by decide) ?_
  refine lv_aload_n hx hb dX11_parse_8 rfl (lv_at hl 0 rfl) ?_
  refine x_get (v := .int (S1.1 30 2)) (C := RX11) (T := TX11) (N := 24) hx hb hts (fun _ h => List.mem_cons_of_mem _ (List.mem_append_right _ h)) hown hK hw 30 (Nat.lt_of_lt_of_le (Nat.le_of_ble_eq_true rfl : 30 < 191) hn) (mk_30 cA α) rfl 2 (by decide) (hts _ (List.mem_of_getElem? (i := 2) rfl)) (fun _ h9 => h9) rfl dX11_parse_9 ?_
  refine x_topN (k := F) (by subst eS1; exact hF) ?_
  refine lv_i2l hx hb dX11_parse_12 rfl ?_
  refine x_callSIr (q := 0) (C := RX0) (As := [.long (x.toInt64), .long (0), .long ((nI F).toInt64)]) (rest := []) ⟨hx, hb, hml, hown, hts⟩ (ct_X11_within l D cA α n _ hn S1 (x.toInt64) (0) ((nI F).toInt64)) (va_cwS 3 hts gX11_parse_X11_within rfl rfl rfl (by decide +kernel) ⟨Nat.le_of_ble_eq_true rfl, Nat.le_of_ble_eq_true rfl⟩) hK hw hAw rfl hl.1 rfl (Nat.le_of_ble_eq_true rfl) dX11_parse_13 ⟨Nat.zero_le _, Nat.zero_le _⟩ (fun H locs hw => ?_)
  refine xb_ne (b := (wiL (x.toInt64) (0) ((nI F).toInt64))) (tgt := 25) hx hb dX11_parse_16 (by decide) (fun c1 => ?_) (fun c1 => ?_)
  · exact absurd ((wi2_iff (a := 0) (b := F) (by omega) (by decide)).mp (by rw [show (nI 0).toInt64 = 0 from rfl]; exact c1)) hx9
  · skip
    refine lv_aload_n hx hb dX11_parse_19 rfl (lv_at hl 0 rfl) ?_
    refine lv_iconst (v := nI 1) hx hb dX11_parse_20 (by decide) ?_
    refine x_callVI (q := 30) (C := RX11) (As := [.int (nI 1)]) (rest := []) ⟨hx, hb, hml, hown, hts⟩ (ct_X11_fail l D cA α n _ hn S1 (nI 1)) (cwV 1 hts gX11_parse_X11_fail rfl rfl rfl (by decide +kernel) ⟨Nat.le_of_ble_eq_true rfl, Nat.le_of_ble_eq_true rfl⟩) hK hw hAw (ws_recv hK hw (q := 30) (Nat.lt_of_lt_of_le (Nat.le_of_ble_eq_true rfl : 30 < 191) hn) (mk_30 cA α) rfl) rfl hl.1 rfl (Nat.le_of_ble_eq_true rfl) dX11_parse_21 ⟨Nat.zero_le _, Nat.zero_le _⟩ (fun S2 eS2 H locs hw => ?_)
    exact ret_i hx hb hr hlocks hK hw dX11_parse_24 rfl (by subst eS2; subst eS1; rfl)
