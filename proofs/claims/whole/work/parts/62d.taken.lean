/-! the end of a text that is taken: the relation begins anew -/
section TKN
variable (S : Mem)
theorem cpGr_k {z : Nat} (h : z < 23 ∨ 29 < z) : (cpGr S).1 z = S.1 z := by
  unfold cpGr; rw [sR_1 (by omega), sR_1 (by omega), sR_1 (by omega), sR_1 (by omega), sR_1 (by omega), sR_1 (by omega), sI_1 (by omega), sI_1 (by omega), sI_1 (by omega), sI_1 (by omega), sI_1 (by omega), sI_1 (by omega)]
theorem cpGr_2 : (cpGr S).2 = S.2 := by unfold cpGr; rw [sR_2, sR_2, sR_2, sR_2, sR_2, sR_2, sI_2, sI_2, sI_2, sI_2, sI_2, sI_2]
theorem cpGr_23 {j : Nat} (hj : j < 6) : (cpGr S).1 23 j = S.1 16 j := by
  unfold cpGr
  rw [sR_1 (by decide), sR_1 (by decide), sR_1 (by decide), sR_1 (by decide), sR_1 (by decide), sR_1 (by decide), sI_e, sI_e, sI_e, sI_e, sI_e, sI_e]
  unfold upd
  rcases (show j = 0 ∨ j = 1 ∨ j = 2 ∨ j = 3 ∨ j = 4 ∨ j = 5 by omega) with rfl | rfl | rfl | rfl | rfl | rfl <;> rfl
theorem cpGr_24 {c : Nat} (hc : c < 4) : (cpGr S).1 24 c = S.1 17 c := by
  unfold cpGr; rw [sR_1 (by decide), sR_1 (by decide), sR_1 (by decide), sR_1 (by decide), sR_1 (by decide), sR_e]; exact cpy0 hc
theorem cpGr_25 {c : Nat} (hc : c < 6) : (cpGr S).1 25 c = S.1 18 c := by
  unfold cpGr; rw [sR_1 (by decide), sR_1 (by decide), sR_1 (by decide), sR_1 (by decide), sR_e]; exact cpy0 hc
theorem cpGr_26 {c : Nat} (hc : c < 6) : (cpGr S).1 26 c = S.1 19 c := by
  unfold cpGr; rw [sR_1 (by decide), sR_1 (by decide), sR_1 (by decide), sR_e]; exact cpy0 hc
theorem cpGr_27 {c : Nat} (hc : c < 6) : (cpGr S).1 27 c = S.1 20 c := by
  unfold cpGr; rw [sR_1 (by decide), sR_1 (by decide), sR_e]; exact cpy0 hc
theorem cpGr_28 {c : Nat} (hc : c < 6) : (cpGr S).1 28 c = S.1 21 c := by
  unfold cpGr; rw [sR_1 (by decide), sR_e]; exact cpy0 hc
theorem cpGr_29 {c : Nat} (hc : c < 6) : (cpGr S).1 29 c = S.1 22 c := by
  unfold cpGr; rw [sR_e]; exact cpy0 hc
theorem cBeg_k {z : Nat} (h : z ≠ 74) (h2 : z ≠ 81) : (cBeg S).1 z = S.1 z := by
  unfold cBeg cBeg0; rw [sL_1, sR_1 h2, sJ_1, sJ_1, sJ_1, sI_1 h, sI_1 h, sI_1 h]
theorem cBeg_2 {z : Nat} (h : z ≠ 74) (h2 : z ≠ 82) : (cBeg S).2 z = S.2 z := by
  unfold cBeg cBeg0; rw [sL_2 h2, sR_2, sJ_2 h, sJ_2 h, sJ_2 h, sI_2, sI_2, sI_2]
theorem cBeg_74 : (cBeg S).1 74 0 = nI 0 ∧ (cBeg S).1 74 1 = nI 0 ∧ (cBeg S).1 74 2 = S.1 23 3 := by
  unfold cBeg cBeg0; rw [sL_1, sR_1 (by decide), sJ_1, sJ_1, sJ_1, sI_e, sI_e, sI_e]
  unfold upd
  exact ⟨rfl, rfl, rfl⟩
theorem cBeg_74L : (cBeg S).2 74 3 = 0 ∧ (cBeg S).2 74 4 = 0 ∧ (cBeg S).2 74 5 = 0 := by
  unfold cBeg cBeg0; rw [sL_2 (by decide), sR_2, sJ_e, sJ_e, sJ_e]
  unfold vp_updL
  exact ⟨rfl, rfl, rfl⟩
theorem cBeg_81 {c : Nat} (hc : c < 4) : (cBeg S).1 81 c = S.1 24 c := by
  unfold cBeg cBeg0; rw [sL_1, sR_e]; exact cpy0 hc
theorem cBeg_82 {c : Nat} (hc : c < 6) : (cBeg S).2 82 c = 0 := by
  unfold cBeg; rw [sL_e]; unfold zL; rw [if_pos hc]
theorem cPb_k (n : Nat) {z : Nat} (h11 : z ≠ 11) (h14 : z ≠ 14) (h15 : z ≠ 15) : (cPb S n).1 z = (cBeg (cpGr (cPa S n))).1 z := by
  unfold cPb; rw [sI_1 h15, sI_1 h14, sI_1 h11]
theorem cPb_2 (n : Nat) : (cPb S n).2 = (cBeg (cpGr (cPa S n))).2 := by
  unfold cPb; rw [sI_2, sI_2, sI_2]
theorem cPb_o (n : Nat) {z : Nat} (h1 : z ≠ 1) (h11 : z ≠ 11) (h14 : z ≠ 14) (h15 : z ≠ 15) (h16 : z < 16 ∨ 29 < z) (h74 : z ≠ 74) (h81 : z ≠ 81) : (cPb S n).1 z = S.1 z := by
  rw [cPb_k S n h11 h14 h15, cBeg_k _ h74 h81, cpGr_k _ (by omega), cPa_k S n h1 (by omega)]
theorem cPb_11 (n : Nat) : (cPb S n).1 11 = upd (S.1 11) 0 (nI 0) := by
  unfold cPb; rw [sI_1 (by decide), sI_1 (by decide), sI_e, cBeg_k _ (by decide) (by decide), cpGr_k _ (by omega), cPa_k S n (by decide) (by decide)]
theorem cPb_14 (n : Nat) {s : Nat} (hs : s < 2) : (cPb S n).1 (14 + s) 0 = nI 0 := by
  unfold cPb
  rcases (show s = 0 ∨ s = 1 by omega) with rfl | rfl
  · rw [sI_1 (by decide), sI_e, pk_us]
  · rw [sI_e, pk_us]
end TKN
theorem chg_pt {S : Mem} {un cn pn N M : Nat} (h : Rl S un cn pn N M) {n : Nat} (h600 : n ≤ 600) (v : Int64) (hO : okDr (cRun (cIn0 S n) 600)) (hD : DG (cRun (cIn0 S n) 600) (rRun (rIn0 (setJ (cPb S n) 191 0 v) n) 601)) :
    Rel (rTD (rRun (rIn0 (setJ (cPb S n) 191 0 v) n) 601)) ∧ (rTD (rRun (rIn0 (setJ (cPb S n) 191 0 v) n) 601)).1 30 0 = nI 0 ∧ (rTD (rRun (rIn0 (setJ (cPb S n) 191 0 v) n) 601)).1 33 1 = (cPb S n).1 23 1 ∧ (rTD (rRun (rIn0 (setJ (cPb S n) 191 0 v) n) 601)).2 191 0 = v := by
  obtain ⟨-, -, ⟨k9, t, nn, mm, hH⟩, -, -, F, f1, f2, f3, f4, f5⟩ := h
  obtain ⟨⟨k1, ht, k3, k4, k5⟩, -, -, -, -⟩ := hH
  obtain ⟨U, hU⟩ : ∃ U, cRun (cIn0 S n) 600 = U := ⟨_, rfl⟩
  obtain ⟨B, hB⟩ : ∃ B, cPb S n = B := ⟨_, rfl⟩
  have Bk : ∀ z, z ≠ 1 → z ≠ 11 → z ≠ 14 → z ≠ 15 → (z < 16 ∨ 29 < z) → z ≠ 74 → z ≠ 81 → B.1 z = S.1 z := fun z a b c d e f g => by rw [← hB]; exact cPb_o S n a b c d e f g
  have A16 : ∀ z, 16 ≤ z → z ≤ 22 → (cPa S n).1 z = U.1 z := fun z a b => by unfold cPa; rw [sI_1 (by omega), hU]
  have Bg : ∀ z, 23 ≤ z → z ≤ 29 → B.1 z = (cpGr (cPa S n)).1 z := fun z a b => by rw [← hB, cPb_k S n (by omega) (by omega) (by omega), cBeg_k _ (by omega) (by omega)]
  have B23 : ∀ j, j < 6 → B.1 23 j = U.1 16 j := fun j hj => by rw [Bg 23 (by decide) (by decide), cpGr_23 _ hj, A16 16 (by decide) (by decide)]
  have B25 : ∀ j, j < 6 → B.1 25 j = U.1 18 j := fun j hj => by rw [Bg 25 (by decide) (by decide), cpGr_25 _ hj, A16 18 (by decide) (by decide)]
  have B26 : ∀ j, j < 6 → B.1 26 j = U.1 19 j := fun j hj => by rw [Bg 26 (by decide) (by decide), cpGr_26 _ hj, A16 19 (by decide) (by decide)]
  have B27 : ∀ j, j < 6 → B.1 27 j = U.1 20 j := fun j hj => by rw [Bg 27 (by decide) (by decide), cpGr_27 _ hj, A16 20 (by decide) (by decide)]
  have B28 : ∀ j, j < 6 → B.1 28 j = U.1 21 j := fun j hj => by rw [Bg 28 (by decide) (by decide), cpGr_28 _ hj, A16 21 (by decide) (by decide)]
  have B29 : ∀ j, j < 6 → B.1 29 j = U.1 22 j := fun j hj => by rw [Bg 29 (by decide) (by decide), cpGr_29 _ hj, A16 22 (by decide) (by decide)]
  have B74 : B.1 74 0 = nI 0 ∧ B.1 74 1 = nI 0 ∧ B.1 74 2 = U.1 16 3 := by
    rw [← hB, cPb_k S n (by decide) (by decide) (by decide)]
    have := cBeg_74 (cpGr (cPa S n))
    rw [cpGr_23 _ (by decide), A16 16 (by decide) (by decide)] at this
    exact this
  have B74L : B.2 74 3 = 0 ∧ B.2 74 4 = 0 ∧ B.2 74 5 = 0 := by rw [← hB, cPb_2]; exact cBeg_74L _
  have B81 : ∀ c, c < 4 → B.1 81 c = U.1 17 c := fun c hc => by rw [← hB, cPb_k S n (by decide) (by decide) (by decide), cBeg_81 _ hc, cpGr_24 _ hc, A16 17 (by decide) (by decide)]
  have B82 : ∀ c, c < 6 → B.2 82 c = 0 := fun c hc => by rw [← hB, cPb_2]; exact cBeg_82 _ hc
  have B11 : B.1 11 = upd (S.1 11) 0 (nI 0) := by rw [← hB]; exact cPb_11 S n
  have B14 : ∀ s, s < 2 → B.1 (14 + s) 0 = nI 0 := fun s hs => by rw [← hB]; exact cPb_14 S n hs
  have B1 : B.1 1 1 = nI 0 := by rw [← hB, cPb_k S n (by decide) (by decide) (by decide), cBeg_k _ (by decide) (by decide), cpGr_k _ (by omega)]; exact cPa_1 S n
  rw [hU, hB] at hD
  rw [hU] at hO
  rw [hB]
  clear hU hB Bg A16
  generalize hX : setJ B 191 0 v = X at hD
  obtain ⟨V, hV⟩ : ∃ V, rRun (rIn0 X n) 601 = V := ⟨_, rfl⟩
  rw [hV] at hD
  rw [hV]
  generalize hT : rTD V = T
  have X1 : X.1 = B.1 := by rw [← hX]; rfl
  have X2 : ∀ z, z ≠ 191 → X.2 z = B.2 z := fun z a => by rw [← hX, sJ_2 a]
  have V1 : ∀ z, z ≠ 30 → z ≠ 32 → V.1 z = B.1 z := fun z a b => by rw [← hV, rRun_k a b, rIn0_k X n a b, X1]
  have V2 : V.2 = X.2 := by rw [← hV, rRun_2, rIn0_2]
  have T1 : ∀ z, z ≠ 30 → z ≠ 32 → z ≠ 33 → z ≠ 34 → z ≠ 40 → T.1 z = B.1 z := fun z a b c d e => by rw [← hT, rTD_k V c d a e, V1 z a b]
  have T2 : ∀ z, z ≠ 35 → z ≠ 191 → T.2 z = B.2 z := fun z a b => by rw [← hT, rTD_2 V a, V2, X2 z b]
  have T33 : ∀ j, j < 40 → T.1 33 j = V.1 32 j := fun j hj => by rw [← hT]; exact rTD_33 V hj
  obtain ⟨d1, d2, d3, d4, d5⟩ := hD
  obtain ⟨⟨o1, o2⟩, ⟨o3, o4⟩, ⟨o5, o6⟩, -⟩ := hO
  refine ⟨⟨gN (U.1 16 0), gN (U.1 16 1), gN (U.1 16 2), 0, 0, ⟨⟨o2, o4, o6, ?_, ?_, ?_, ?_, ?_, ?_, ?_, ?_⟩, fun c hc => ?_, fun p hp => ?_⟩, ⟨⟨by decide, by decide, ?_, ?_, ?_, ?_⟩, ⟨?_, ?_, ?_, ?_⟩, fun c hc => ?_, fun c hc => ?_, fun u hu => ?_, fun i hi => absurd hi (Nat.not_lt_zero _), fun d hd => absurd hd (Nat.not_lt_zero _), ?_, fun d hd => absurd hd (Nat.not_lt_zero _)⟩, ⟨0, t, fun _ => 0, fun _ => 0, ⟨by decide, ht, ?_, ?_, ?_⟩, fun d hd => absurd hd (Nat.not_lt_zero _), rfl, rfl, fun d hd => absurd hd (Nat.not_lt_zero _)⟩, ⟨?_, fun hz => absurd ?_ hz⟩, ⟨?_, fun hz => absurd ?_ hz⟩, 0, by decide, ?_, ?_, fun k hk => absurd hk (Nat.not_lt_zero _), okB_of f5 ?_⟩, ?_, ?_, ?_⟩
  · rw [T1 23 (by decide) (by decide) (by decide) (by decide) (by decide), B23 0 (by decide)]; exact o1
  · rw [T1 23 (by decide) (by decide) (by decide) (by decide) (by decide), B23 1 (by decide)]; exact o3
  · rw [T1 23 (by decide) (by decide) (by decide) (by decide) (by decide), B23 2 (by decide)]; exact o5
  · rw [T33 0 (by decide), d1 0 (by decide)]; exact o1
  · rw [T33 1 (by decide), d1 1 (by decide)]; exact o3
  · rw [T33 2 (by decide), d1 2 (by decide)]; exact o5
  · rw [T33 4 (by decide), d1 4 (by decide), T1 23 (by decide) (by decide) (by decide) (by decide) (by decide), B23 4 (by decide)]
  · rw [T33 5 (by decide), d1 5 (by decide), T1 23 (by decide) (by decide) (by decide) (by decide) (by decide), B23 5 (by decide)]
  · rw [T33 _ (by omega), T1 25 (by decide) (by decide) (by decide) (by decide) (by decide), B25 c (by omega)]; exact d4 c hc
  · obtain ⟨p1, p2, p3, p4⟩ := d5 p hp
    unfold rBnd
    rw [T33 (16 + p) (by omega), T33 (22 + p) (by omega), T33 (28 + p) (by omega), T33 (34 + p) (by omega), T1 26 (by decide) (by decide) (by decide) (by decide) (by decide), T1 27 (by decide) (by decide) (by decide) (by decide) (by decide), T1 28 (by decide) (by decide) (by decide) (by decide) (by decide), T1 29 (by decide) (by decide) (by decide) (by decide) (by decide), B26 p (by omega), B27 p (by omega), B28 p (by omega), B29 p (by omega)]
    exact ⟨p1, p2, p3, p4⟩
  · rw [T1 74 (by decide) (by decide) (by decide) (by decide) (by decide)]; exact B74.1
  · rw [T1 74 (by decide) (by decide) (by decide) (by decide) (by decide)]; exact B74.2.1
  · rw [← hT]; exact rTD_34z V (by decide)
  · rw [← hT]; exact rTD_34z V (by decide)
  · rw [T1 74 (by decide) (by decide) (by decide) (by decide) (by decide), B74.2.2, ← hT, rTD_343 V]; exact d1 3 (by decide)
  · rw [T2 74 (by decide) (by decide), B74L.1, ← hT]; exact rTD_35 V (by decide)
  · rw [T2 74 (by decide) (by decide), B74L.2.1, ← hT]; exact rTD_35 V (by decide)
  · rw [T2 74 (by decide) (by decide), B74L.2.2, ← hT]; exact rTD_35 V (by decide)
  · show T.1 34 (4 + c) = T.1 81 c
    rw [T1 81 (by decide) (by decide) (by decide) (by decide) (by decide), B81 c hc.2, ← hT, rTD_344 V hc.2]; exact (d3 c hc.1).1
  · show T.2 35 (3 + c) = T.2 82 c
    rw [T2 82 (by decide) (by decide), B82 c hc, ← hT]; exact rTD_35 V (by omega)
  · show nI 1 ≤ T.1 81 u
    rw [T1 81 (by decide) (by decide) (by decide) (by decide) (by decide), B81 u (by omega)]; exact (d3 u hu).2
  · rw [← hT]; exact rTD_34z V (by decide)
  · rw [T1 11 (by decide) (by decide) (by decide) (by decide) (by decide), B11, pk_us]
  · rw [T1 11 (by decide) (by decide) (by decide) (by decide) (by decide), B11, pk_un (by decide)]; exact k4
  · rw [← hT]; exact rTD_17 V
  · rw [T1 (14 + 0) (by decide) (by decide) (by decide) (by decide) (by decide), B14 0 (by decide), ← hT]; exact rTD_40 V (by decide)
  · rw [T1 (14 + 0) (by decide) (by decide) (by decide) (by decide) (by decide), B14 0 (by decide)]; exact nI_0
  · rw [T1 (14 + 1) (by decide) (by decide) (by decide) (by decide) (by decide), B14 1 (by decide), ← hT]; exact rTD_40 V (by decide)
  · rw [T1 (14 + 1) (by decide) (by decide) (by decide) (by decide) (by decide), B14 1 (by decide)]; exact nI_0
  · rw [T1 1 (by decide) (by decide) (by decide) (by decide) (by decide)]; exact B1
  · rw [← hT, rTD_30 V (by decide), ← hV, rRun_p (by decide), (rIn0_p X h600).1]
  · rw [T1 31 (by decide) (by decide) (by decide) (by decide) (by decide), Bk 31 (by decide) (by decide) (by decide) (by decide) (by decide) (by decide) (by decide)]
  · rw [← hT, rTD_30 V (by decide), ← hV, rRun_p (by decide), (rIn0_p X h600).2.2]
  · rw [T33 1 (by decide), d1 1 (by decide), B23 1 (by decide)]
  · rw [← hT, rTD_2 V (by decide), V2, ← hX, sJ_e]; unfold vp_updL; rw [if_pos rfl]
