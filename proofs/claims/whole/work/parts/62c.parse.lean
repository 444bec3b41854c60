/-! parse on both sides -/
theorem cFin_k {X T U : Mem} {z : Nat} (hX : (cSc X).1 z = U.1 z) (hT : T.1 z = U.1 z) : (cFin X T).1 z = U.1 z := by unfold cFin; split; exact hT; exact hX
theorem cFin_2 {X T U : Mem} (hX : (cSc X).2 = U.2) (hT : T.2 = U.2) : (cFin X T).2 = U.2 := by unfold cFin; split; exact hT; exact hX
theorem cStm_k (S : Mem) {z : Nat} (h1 : z ≠ 1) (h2 : z < 16 ∨ 22 < z) : (cStm S).1 z = S.1 z := by
  have hR : ∀ x, (cRef S x).1 z = S.1 z := fun x => cRef_k S x h1
  have hB : ∀ f g, (cOcB S f g).1 z = S.1 z := fun f g => by unfold cOcB; rw [sI_1 (by omega), sI_1 h1, cRef_k _ _ h1]
  have hO : ∀ f g hi, (cOc S f g hi).1 z = S.1 z := fun f g hi => by unfold cOc cOc1; rw [cSc_k _ h1, sI_1 (by omega), cNum_k _ _ _ h1, sI_1 h1, tk_k _ h1]
  have hCu : ∀ k, (cCur S k).1 z = S.1 z := fun k => by
    unfold cCur
    exact cFin_k (X := (cN1 S (nI 1) (nI 9999)).1) (U := S) (by rw [cSc_k _ h1, cN1_k _ _ _ h1]) (by rw [sI_1 (by omega), sI_1 (by omega), cSc_k _ h1, cN1_k _ _ _ h1])
  have hCo : ∀ k, (cCom S k).1 z = S.1 z := fun k => by
    unfold cCom
    exact cFin_k (X := (cN1 S (nI 0) (S.1 16 0 - nI 1)).1) (U := S) (by rw [cSc_k _ h1, cN1_k _ _ _ h1]) (by rw [sI_1 (by omega), sI_1 (by omega), cSc_k _ h1, cN1_k _ _ _ h1])
  have hPr : ∀ k, (cPro S k).1 z = S.1 z := fun k => by
    have e4 : (cSc (cP4 S).1).1 z = S.1 z := by rw [cSc_k _ h1, cP4_k _ h1]
    have hA : ∀ (T : Mem) k x y u v, (cAdd T k x y u v).1 z = T.1 z := fun T k x y u v => by
      unfold cAdd; rw [sI_1 (by omega), sI_1 (by omega), sI_1 (by omega), sI_1 (by omega), sI_1 (by omega)]
    unfold cPro
    exact cFin_k (X := (cP4 S).1) (U := S) e4 ((hA _ _ _ _ _ _).trans e4)
  unfold cStm
  repeat' split
  · exact hCu _
  · exact hR _
  · exact hCo _
  · exact hR _
  · exact hPr _
  · exact hR _
  · exact hB _ _
  · exact hO _ _ _
  · exact hB _ _
  · exact hO _ _ _
  · exact hB _ _
  · exact hO _ _ _
  · exact hR _
theorem cN1_2 (S : Mem) (lo hi : Int32) : (cN1 S lo hi).1.2 = S.2 := by unfold cN1; rw [cNum_2, tk_2]
theorem cP4_2 (S : Mem) : (cP4 S).1.2 = S.2 := by unfold cP4; rw [cNum_2]; unfold cP3; rw [cNum_2]; unfold cP2; rw [cNum_2, cN1_2]
theorem cStm_2 (S : Mem) : (cStm S).2 = S.2 := by
  have hR : ∀ x, (cRef S x).2 = S.2 := fun x => rfl
  have hB : ∀ f g, (cOcB S f g).2 = S.2 := fun f g => rfl
  have hO : ∀ f g hi, (cOc S f g hi).2 = S.2 := fun f g hi => by unfold cOc cOc1; rw [cSc_2, sI_2, cNum_2, sI_2, tk_2]
  have hCu : ∀ k, (cCur S k).2 = S.2 := fun k => by
    unfold cCur
    exact cFin_2 (X := (cN1 S (nI 1) (nI 9999)).1) (U := S) (by rw [cSc_2, cN1_2]) (by rw [sI_2, sI_2, cSc_2, cN1_2])
  have hCo : ∀ k, (cCom S k).2 = S.2 := fun k => by
    unfold cCom
    exact cFin_2 (X := (cN1 S (nI 0) (S.1 16 0 - nI 1)).1) (U := S) (by rw [cSc_2, cN1_2]) (by rw [sI_2, sI_2, cSc_2, cN1_2])
  have hPr : ∀ k, (cPro S k).2 = S.2 := fun k => by
    have e4 : (cSc (cP4 S).1).2 = S.2 := by rw [cSc_2, cP4_2]
    have hA : ∀ (T : Mem) k x y u v, (cAdd T k x y u v).2 = T.2 := fun T k x y u v => rfl
    unfold cPro
    exact cFin_2 (X := (cP4 S).1) (U := S) e4 ((hA _ _ _ _ _ _).trans e4)
  unfold cStm
  repeat' split
  · exact hCu _
  · exact hR _
  · exact hCo _
  · exact hR _
  · exact hPr _
  · exact hR _
  · exact hB _ _
  · exact hO _ _ _
  · exact hB _ _
  · exact hO _ _ _
  · exact hB _ _
  · exact hO _ _ _
  · exact hR _
theorem cRun_k {z : Nat} (h1 : z ≠ 1) (h2 : z < 16 ∨ 22 < z) : ∀ (f : Nat) (S : Mem), (cRun S f).1 z = S.1 z
  | 0, S => rfl
  | f + 1, S => by
    rw [cRun]
    repeat' split
    · rfl
    · rw [cRun_k h1 h2 f, cStm_k S h1 h2]
    · rfl
theorem cRun_2 : ∀ (f : Nat) (S : Mem), (cRun S f).2 = S.2
  | 0, S => rfl
  | f + 1, S => by
    rw [cRun]
    repeat' split
    · rfl
    · rw [cRun_2 f, cStm_2 S]
    · rfl
section INV
variable {β : Type} (φ : Mem → β)
theorem rStm_inv (hRt : ∀ U : Mem, φ (rt U) = φ U) (hMu : ∀ (U : Mem) b x, φ (rMu U b x) = φ U) (h32 : ∀ (U : Mem) j x, φ (setI U 32 j x) = φ U) (h12 : ∀ (U : Mem) x, φ (setI U 30 12 x) = φ U) (T : Mem) : φ (rStm T) = φ T := by
  have hRd : ∀ (U : Mem) lo hi, φ (rRd U lo hi).1 = φ U := by
    intro U lo hi
    unfold rRd; repeat' split
    · show φ (rt (rR2 U lo hi)) = _; rw [hRt]; unfold rR2 rR1; rw [hMu, hMu]
    · show φ (rR2 U lo hi) = _; unfold rR2 rR1; rw [hMu, hMu]
    · show φ (rR1 U) = _; unfold rR1; rw [hMu]
  have hBg : ∀ j m, φ (rBg T j m).1 = φ T := by
    intro j m
    unfold rBg; split
    · show φ (rt (rB1 T j m)) = _; rw [hRt]; unfold rB1; rw [hMu]
    · show φ (rB1 T j m) = _; unfold rB1; rw [hMu]
  have hOn : ∀ b, φ (rOn T b).1 = φ T := by
    intro b
    unfold rOn; split
    · show φ (rt (rO2 T b)) = _; rw [hRt]; unfold rO2; rw [h12]; unfold rO1; rw [hMu]
    · show φ (rO1 T b) = _; unfold rO1; rw [hMu]
  have hO : ∀ b g hi, φ (rOc T b g hi) = φ T := by
    intro b g hi
    unfold rOc; split
    · rw [h32, hRd, hOn]
    · exact hOn b
  unfold rStm; repeat' split
  · unfold rCu rInc; split
    · rw [h32, h32]; unfold rC1; rw [hRd, hBg]
    · exact hBg _ _
  · unfold rCo rInc; split
    · rw [h32, h32]; unfold rM1; rw [hRd, hBg]
    · exact hBg _ _
  · unfold rPl rInc; split
    · rw [h32]; unfold rW4 rL4; rw [h32, hRd]; unfold rW3 rL3; rw [h32, hRd]; unfold rW2 rL2; rw [h32, hRd]; unfold rW1 rL1; rw [h32, hRd, hBg]
    · exact hBg _ _
  · exact hO _ _ _
  · exact hO _ _ _
  · exact hO _ _ _
  · exact hMu _ _ _
theorem rStep_inv (hRt : ∀ U : Mem, φ (rt U) = φ U) (hMu : ∀ (U : Mem) b x, φ (rMu U b x) = φ U) (h32 : ∀ (U : Mem) j x, φ (setI U 32 j x) = φ U) (h12 : ∀ (U : Mem) x, φ (setI U 30 12 x) = φ U) (T : Mem) : φ (rStep T) = φ T := by
  have h2 : φ (rS2 T) = φ T := by unfold rS2; rw [hMu, rStm_inv φ hRt hMu h32 h12]
  unfold rStep; split
  · rw [hRt, h2]
  · exact h2
theorem rRun_inv (hRt : ∀ U : Mem, φ (rt U) = φ U) (hMu : ∀ (U : Mem) b x, φ (rMu U b x) = φ U) (h32 : ∀ (U : Mem) j x, φ (setI U 32 j x) = φ U) (h12 : ∀ (U : Mem) x, φ (setI U 30 12 x) = φ U) : ∀ (f : Nat) (T : Mem), φ (rRun T f) = φ T
  | 0, T => rfl
  | f + 1, T => by
    rw [rRun]
    repeat' split
    · rfl
    · rw [rRun_inv hRt hMu h32 h12 f, rStep_inv φ hRt hMu h32 h12]
    · rfl
end INV
theorem rRun_k {z : Nat} (h1 : z ≠ 30) (h2 : z ≠ 32) (f : Nat) (T : Mem) : (rRun T f).1 z = T.1 z :=
  rRun_inv (fun U => U.1 z) (fun U => rt_k U h1) (fun U b x => rMu_k U b x h1) (fun U j x => sI_1 h2) (fun U x => sI_1 h1) f T
theorem rRun_2 (f : Nat) (T : Mem) : (rRun T f).2 = T.2 :=
  rRun_inv (fun U => U.2) (fun U => rfl) (fun U b x => rMu_2 U b x) (fun U j x => rfl) (fun U x => rfl) f T
theorem rRun_p {j : Nat} (h : j < 4 ∨ 13 ≤ j) (f : Nat) (T : Mem) : (rRun T f).1 30 j = T.1 30 j :=
  rRun_inv (fun U => U.1 30 j) (fun U => rt_o9 U (by omega)) (fun U b x => rMu_o U b x (by omega) (by omega)) (fun U i x => by show (setI U 32 i x).1 30 j = _; rw [sI_1 (by decide)]) (fun U x => by show (setI U 30 12 x).1 30 j = _; rw [sI_e, pk_un (by omega)]) f T
theorem rIn0_k (W : Mem) (n : Nat) {z : Nat} (h1 : z ≠ 30) (h2 : z ≠ 32) : (rIn0 W n).1 z = W.1 z := by
  unfold rIn0 rtC rDf rIni; rw [sR_1 h1, sI_1 h1, sR_1 h2, sI_1 h1, sI_1 h1, sI_1 h1, sI_1 h1, sI_1 h1]
theorem rIn0_2 (W : Mem) (n : Nat) : (rIn0 W n).2 = W.2 := rfl
theorem rIn0_t (W : Mem) {n : Nat} (h : n ≤ 600) : rIn0 W n = rt (rDf (rIni W n)) := by
  have e3 : gN ((rDf (rIni W n)).1 30 3) = n := by rw [rIni_1]; exact gN_nI (k := n) (by omega)
  have e5 : gN ((rDf (rIni W n)).1 30 5) = 0 := by rw [rIni_1]; exact gN_nI (k := 0) (by decide)
  unfold rIn0 rt; rw [e3, e5]
theorem cIn0_t (S : Mem) {n : Nat} (h : n ≤ 600) : cIn0 S n = tk (cIni S n) := by
  have e3 : gN ((cIni S n).1 1 3) = n := by rw [cIni_1]; exact gN_nI (k := n) (by omega)
  have e6 : gN ((cIni S n).1 1 6) = 0 := by rw [cIni_1]; exact gN_nI (k := 0) (by decide)
  unfold cIn0 tk; rw [e3, e6]
theorem cClr_k (S : Mem) {z : Nat} (h : z ≠ 16) : (cClr S).1 z = S.1 z := by unfold cClr; rw [sI_1 h, sI_1 h, sI_1 h, sI_1 h, sI_1 h, sI_1 h]
theorem cIn0_k (S : Mem) (n : Nat) {z : Nat} (h1 : z ≠ 1) (h2 : z ≠ 16) : (cIn0 S n).1 z = S.1 z := by
  unfold cIn0 tkC; rw [sR_1 h1, cIni_k S n h1, cClr_k S h2]
theorem cIn0_2 (S : Mem) (n : Nat) : (cIn0 S n).2 = S.2 := rfl
theorem cIn0_16 (S : Mem) (n : Nat) {j : Nat} (hj : j < 6) : (cIn0 S n).1 16 j = nI 0 := by
  unfold cIn0 tkC; rw [sR_1 (by decide), cIni_k S n (by decide)]
  unfold cClr
  rw [sI_e, sI_e, sI_e, sI_e, sI_e, sI_e]
  unfold upd
  rcases (show j = 0 ∨ j = 1 ∨ j = 2 ∨ j = 3 ∨ j = 4 ∨ j = 5 by omega) with rfl | rfl | rfl | rfl | rfl | rfl <;> rfl
theorem tE_pos {f : Nat → Int32} {n p : Nat} (h : ¬ n ≤ tS f n p) : tS f n p < tE f n p := by
  have h1 := (far_le (q := inR (nI 97) (nI 122)) (f := f) (n := n) _ (tS f n p + 1) rfl (by omega)).1
  have h2 := (far_le (q := inR (nI 48) (nI 57)) (f := f) (n := n) _ (tS f n p + 1) rfl (by omega)).1
  unfold tE
  rw [if_neg h]
  repeat' split
  all_goals omega
theorem in_sim {S W : Mem} {n : Nat} (h600 : n ≤ 600) (hb : ∀ k, k < n → W.1 31 k = S.1 2 k) (hB : okB W) : TR n (cIn0 S n) (rIn0 W n) ∧ okDr (cIn0 S n) ∧ DG (cIn0 S n) (rIn0 W n) ∧ (n - gN ((rIn0 W n).1 30 5) < 600 ∨ (rIn0 W n).1 30 6 = 0) := by
  have hc := cIn0_ok S h600
  have hr := (rIn0_ok W h600 hB).1
  have e2 : (cIni S n).1 2 = S.1 2 := by rw [cIni_k S n (by decide), cClr_k S (by decide)]
  refine ⟨?_, hc.2, ⟨fun j hj => ?_, ?_, fun k hk => ?_, fun k hk => ?_, fun k hk => ?_⟩, ?_⟩
  · have a := hc.1
    rw [cIn0_t S h600] at a
    rw [rIn0_t W h600] at hr
    rw [cIn0_t S h600, rIn0_t W h600]
    refine TR_tk0 a hr (by rw [cIni_1]; rfl) (by rw [rIni_1]; rfl) h600 (fun k hk => by rw [rIni_31, e2]; exact hb k hk) (rIni_B hB) ?_ ?_ ?_ ?_
    · rw [rIni_1, cIni_1]; rfl
    · rw [cIni_1]
      exact Nat.le_trans (Nat.le_of_eq (gN_nI (k := 0) (by decide))) (Nat.zero_le n)
    · rw [cIni_1]; exact nI_0
    · rw [rIni_1]; exact nI_0
  · rw [cIn0_16 S n hj, rIn0_t W h600, rt_k _ (by decide)]
    unfold rDf
    rw [sI_1 (by decide), sR_e]
    unfold zI
    rw [if_pos (by omega)]
  · rw [rIn0_t W h600, rt_o9 _ (by decide), rIni_1]
    have e1 : ∀ j, 7 ≤ j → (cIn0 S n).1 1 j = (cIni S n).1 1 j := fun j hj => by
      rw [cIn0_f]; unfold tkF; rw [if_neg (by omega), if_neg (by omega), if_neg (by omega)]
    rw [e1 8 (by decide), e1 9 (by decide), e1 10 (by decide), cIni_1, cIni_1, cIni_1]
    show nI 0 = cm (flB (nI 0)) (flB (nI 0)) (flB (nI 0))
    decide
  · rw [cIn0_16 S n (by decide), gN_nI (by decide)] at hk; omega
  · rw [cIn0_16 S n (by decide), gN_nI (by decide)] at hk; omega
  · rw [cIn0_16 S n (by decide), gN_nI (by decide)] at hk; omega
  · have rf : (rIn0 W n).1 30 = rkF ((rDf (rIni W n)).1 30) (nI (tS ((rDf (rIni W n)).1 31) n 0)) (nI (tE ((rDf (rIni W n)).1 31) n 0)) (nI (tK ((rDf (rIni W n)).1 31) n 0)) (tN ((rDf (rIni W n)).1 31) n 0 ((rDf (rIni W n)).1 30 7)) := by unfold rIn0 rtC; rw [sR_e]
    have e5 : (rIn0 W n).1 30 5 = nI (tE ((rDf (rIni W n)).1 31) n 0) := by rw [rf]; rfl
    have e6 : (rIn0 W n).1 30 6 = nI (tK ((rDf (rIni W n)).1 31) n 0) := by rw [rf]; rfl
    rw [e5, e6]
    by_cases e : n ≤ tS ((rDf (rIni W n)).1 31) n 0
    · right; rw [tK_end e]; exact nI_0
    · left
      have h1 := tE_pos e
      have h2 := tE_le (f := (rDf (rIni W n)).1 31) (Nat.zero_le n)
      rw [gN_nI (by omega)]
      omega
theorem parse_sim {S W : Mem} {n : Nat} (h600 : n ≤ 600) (hb : ∀ k, k < n → W.1 31 k = S.1 2 k) (hB : okB W) : (TR n (cRun (cIn0 S n) 600) (rRun (rIn0 W n) 601) ∧ okDr (cRun (cIn0 S n) 600) ∧ DG (cRun (cIn0 S n) 600) (rRun (rIn0 W n) 601)) ∨ ER (cRun (cIn0 S n) 600) (rRun (rIn0 W n) 601) := by
  obtain ⟨h1, h2, h3, h4⟩ := in_sim h600 hb hB
  exact run_sim 600 601 _ _ h1 h2 h3 h4 (by decide)
/-! the end of a text that is refused -/
theorem cPa_k (S : Mem) (n : Nat) {z : Nat} (h1 : z ≠ 1) (h2 : z < 16 ∨ 22 < z) : (cPa S n).1 z = S.1 z := by
  unfold cPa; rw [sI_1 h1, cRun_k h1 h2, cIn0_k S n h1 (by omega)]
theorem cPa_2 (S : Mem) (n : Nat) : (cPa S n).2 = S.2 := by unfold cPa; rw [sI_2, cRun_2, cIn0_2]
theorem cPa_1 (S : Mem) (n : Nat) : (cPa S n).1 1 1 = nI 0 := by unfold cPa; rw [sI_e, pk_us]
theorem rIn0_p (W : Mem) {n : Nat} (h : n ≤ 600) : (rIn0 W n).1 30 2 = nI 0 ∧ (rIn0 W n).1 30 17 = W.1 30 17 ∧ (rIn0 W n).1 30 0 = nI 0 := by
  rw [rIn0_t W h, rt_o9 _ (by decide), rt_o9 _ (by decide), rt_o9 _ (by decide), rIni_1, rIni_1, rIni_1]
  exact ⟨rfl, rfl, rfl⟩
theorem chg_pe {S : Mem} {un cn pn N M : Nat} (h : Rl S un cn pn N M) {n : Nat} (h600 : n ≤ 600) (v : Int64) : Rl (rRun (rIn0 (setJ (cPa S n) 191 0 v) n) 601) un cn pn N M ∧ (rRun (rIn0 (setJ (cPa S n) 191 0 v) n) 601).1 30 0 = nI 0 := by
  obtain ⟨hG, hS, ⟨k9, t, nn, mm, hH⟩, hs0, hs1, F, f1, f2, f3, f4, f5⟩ := h
  have hun := hG.1.1
  obtain ⟨⟨k1, ht, k3, k4, k5⟩, b1, b2, b3, b4⟩ := hH
  generalize hX : setJ (cPa S n) 191 0 v = X
  generalize hT : rRun (rIn0 X n) 601 = T
  have X1 : ∀ z, z ≠ 1 → (z < 16 ∨ 22 < z) → X.1 z = S.1 z := fun z a b => by rw [← hX, sJ_1, cPa_k S n a b]
  have X2 : ∀ z, z ≠ 191 → X.2 z = S.2 z := fun z a => by rw [← hX, sJ_2 a, cPa_2]
  have T1 : ∀ z, z ≠ 30 → z ≠ 32 → T.1 z = X.1 z := fun z a b => by rw [← hT, rRun_k a b, rIn0_k X n a b]
  have T2 : T.2 = X.2 := by rw [← hT, rRun_2, rIn0_2]
  have E1 : ∀ q, q ≠ 1 → (q < 16 ∨ 22 < q) → q ≠ 30 → q ≠ 32 → T.1 q = S.1 q := fun q a b c d => by rw [T1 q c d, X1 q a b]
  have E2 : ∀ q, q ≠ 191 → T.2 q = S.2 q := fun q a => by rw [T2, X2 q a]
  have T17 : T.1 30 17 = S.1 30 17 := by rw [← hT, rRun_p (by decide), (rIn0_p X h600).2.1, X1 30 (by decide) (by decide)]
  have e26 := E1 26 (by decide) (by decide) (by decide) (by decide)
  have hany : ∀ s, s < 2 → SR S un cn pn s → SR T un cn pn s := fun s hs hR =>
    SR_fr hR hun e26 (E1 _ (by omega) (by omega) (by omega) (by omega)) (by rw [E1 40 (by decide) (by decide) (by decide) (by decide)]) (fun z a b => ⟨E1 z (by omega) (by omega) (by omega) (by omega), E2 z (by omega)⟩) (fun c a b => E1 _ (by omega) (by omega) (by omega) (by omega)) (fun j _ => by rw [E1 38 (by decide) (by decide) (by decide) (by decide)]) (fun j _ => by rw [E2 39 (by decide)])
  refine ⟨⟨WG_fr hG (fun q hq => E1 q (by omega) (by omega) (by omega) (by omega)), ?_, ⟨k9, t, nn, mm, ⟨k1, ht, ?_, ?_, ?_⟩, fun d hd => ?_, b2, b3, b4⟩, hany 0 (by decide) hs0, hany 1 (by decide) hs1, 0, by decide, ?_, ?_, fun k hk => absurd hk (Nat.not_lt_zero _), okB_of f5 (E1 31 (by decide) (by decide) (by decide) (by decide))⟩, ?_⟩
  · exact St_st hS hun e26 (fun z a b => ⟨E1 z (by omega) (by omega) (by omega) (by omega), E2 z (by omega)⟩) (fun c a b => E1 _ (by omega) (by omega) (by omega) (by omega)) (fun j _ => by rw [E1 34 (by decide) (by decide) (by decide) (by decide)]) (fun j _ => by rw [E2 35 (by decide)])
  · rw [E1 11 (by decide) (by decide) (by decide) (by decide)]; exact k3
  · rw [E1 11 (by decide) (by decide) (by decide) (by decide)]; exact k4
  · rw [T17]; exact k5
  · have hlo := hqn_lo (t := t) (k := k9) (d := d)
    exact St_st (b1 d hd) hun e26 (fun z a b => ⟨E1 z (by omega) (by omega) (by omega) (by omega), E2 z (by omega)⟩) (fun c a b => E1 _ (by omega) (by omega) (by omega) (by omega)) (fun j _ => by rw [E1 36 (by decide) (by decide) (by decide) (by decide)]) (fun j _ => by rw [E2 37 (by decide)])
  · rw [T1 1 (by decide) (by decide), ← hX, sJ_1]; exact cPa_1 S n
  · rw [← hT, rRun_p (by decide), (rIn0_p X h600).1]
  · rw [← hT, rRun_p (by decide), (rIn0_p X h600).2.2]
/-! the end of a text that is taken -/
theorem rTD_k (V : Mem) {z : Nat} (h33 : z ≠ 33) (h34 : z ≠ 34) (h30 : z ≠ 30) (h40 : z ≠ 40) : (rTD V).1 z = V.1 z := by
  unfold rTD rTe rTd rTc rTb rTa; rw [sI_1 h40, sI_1 h40, sI_1 h30, sL_1, sI_1 h34, sR_1 h34, sR_1 h34, sR_1 h33]
theorem rTD_2 (V : Mem) {z : Nat} (h : z ≠ 35) : (rTD V).2 z = V.2 z := by
  unfold rTD rTe; rw [sI_2, sI_2, sI_2, sL_2 h]; rfl
theorem rTD_35 (V : Mem) {j : Nat} (h : j < 9) : (rTD V).2 35 j = 0 := by
  unfold rTD rTe; rw [sI_2, sI_2, sI_2, sL_e]; unfold zL; rw [if_pos h]
theorem rTc_33 (V : Mem) {j : Nat} (hj : j < 40) : (rTc V).1 33 j = V.1 32 j := by
  unfold rTc rTb rTa; rw [sR_1 (by decide), sR_1 (by decide), sR_e]; unfold cpI; rw [if_pos hj]
theorem rTb_33 (V : Mem) {j : Nat} (hj : j < 40) : (rTb V).1 33 j = V.1 32 j := by
  unfold rTb rTa; rw [sR_1 (by decide), sR_e]; unfold cpI; rw [if_pos hj]
theorem rTD_33 (V : Mem) {j : Nat} (hj : j < 40) : (rTD V).1 33 j = V.1 32 j := by
  unfold rTD rTe rTd; rw [sI_1 (by decide), sI_1 (by decide), sI_1 (by decide), sL_1, sI_1 (by decide), rTc_33 V hj]
theorem rTD_34 (V : Mem) (j : Nat) : (rTD V).1 34 j = if j = 3 then (rTc V).1 33 3 else rtI ((rTb V).1 33) ((rTb V).1 34) 4 j := by
  unfold rTD rTe rTd; rw [sI_1 (by decide), sI_1 (by decide), sI_1 (by decide), sL_1, sI_e, updE]
  unfold rTc; rw [sR_e]
theorem rTD_34z (V : Mem) {j : Nat} (hj : j < 3) : (rTD V).1 34 j = nI 0 := by
  rw [rTD_34, if_neg (by omega)]; unfold rtI; rw [if_neg (by omega)]; unfold rTb; rw [sR_e]; unfold zI; rw [if_pos (by omega)]
theorem rTD_343 (V : Mem) : (rTD V).1 34 3 = V.1 32 3 := by rw [rTD_34, if_pos rfl, rTc_33 V (by decide)]
theorem rTD_344 (V : Mem) {c : Nat} (hc : c < 4) : (rTD V).1 34 (4 + c) = V.1 32 (6 + c) := by
  rw [rTD_34, if_neg (by omega)]; unfold rtI; rw [if_pos ⟨by omega, by omega⟩, rTb_33 V (by omega), show 4 + c + 2 = 6 + c by omega]
theorem rTD_30 (V : Mem) {j : Nat} (h : j ≠ 17) : (rTD V).1 30 j = V.1 30 j := by
  unfold rTD; rw [sI_1 (by decide), sI_1 (by decide), sI_e, pk_un h]; rfl
theorem rTD_17 (V : Mem) : (rTD V).1 30 17 = nI 0 := by unfold rTD; rw [sI_1 (by decide), sI_1 (by decide), sI_e, pk_us]
theorem nar_b0 : vp_nar .boolean (nI 0) = nI 0 := by decide
theorem rTD_40 (V : Mem) {s : Nat} (hs : s < 2) : (rTD V).1 40 s = nI 0 := by
  unfold rTD
  rw [nar_b0, sI_e, sI_e]
  unfold upd
  rcases (show s = 0 ∨ s = 1 by omega) with rfl | rfl <;> rfl
