/-! sales and deliveries on both sides -/
section GS
variable {S : Mem} {un cn pn N M k t : Nat} {nn mm : Nat → Nat}
theorem Nw.no_mk (h : Nw S un cn pn N M) {b : Nat} (hb : b < 1000000) {d : Nat} (hd : d < M) : ¬ cLot S d (S.1 26 b) (nI b) = true := by
  intro q
  rw [cLot_p] at q
  simp only [Bool.and_eq_true, decide_eq_true_eq] at q
  have h1 := (h.dl hd).2.2.2
  have h2 : ¬ S.1 26 (gN (S.1 49 d)) = S.1 51 d := h1
  rw [q.2.2, gN_nI (by omega), q.2.1] at h2
  exact h2 rfl
theorem Nw.tk_b (h : Nw S un cn pn N M) {U Y : Mem} (h49 : U.1 49 = S.1 49) (h51 : U.1 51 = S.1 51) (h80 : U.1 80 = S.1 80) (e34 : Y.1 34 = S.1 34) (e33 : Y.1 33 = S.1 33) {a q : Int32} {b : Nat} (hb : b < pn) (hq : 0 ≤ q) :
    ∃ nl : Nat → Int32, (∀ d, d < M → 0 ≤ nl d ∧ (cTk U a (nI b) q M).1.1 80 d = nl d) ∧ rLn Y a b q (lts S M) = cnt (fun d => !decide (nl d ≤ 0)) M ∧ (∀ d, d < M → ¬ nl d ≤ 0 → (rTak Y a b q (lts S M)).1 34 (608 + 4 * cnt (fun d => !decide (nl d ≤ 0)) d + 0) = S.1 51 d ∧ (rTak Y a b q (lts S M)).1 34 (608 + 4 * cnt (fun d => !decide (nl d ≤ 0)) d + 1) = S.1 49 d ∧ (rTak Y a b q (lts S M)).1 34 (608 + 4 * cnt (fun d => !decide (nl d ≤ 0)) d + 2) = nl d ∧ (rTak Y a b q (lts S M)).1 34 (608 + 4 * cnt (fun d => !decide (nl d ≤ 0)) d + 3) = S.1 53 d) ∧ (∀ j, (j < 608 ∧ j ≠ 1) ∨ 1008 ≤ j → (rTak Y a b q (lts S M)).1 34 j = S.1 34 j) := by
  have hp6 := h.p6
  have hmk : Y.1 33 (16 + b) = S.1 26 b := by rw [e33]; exact (h.1.2.2 b hb).1
  have hq0 : 0 ≤ q0R Y a b q := by unfold q0R; split; exact hq; decide
  have hL := h.L100
  obtain ⟨r1, r2, r3, r4⟩ := h.tk_r (Y := Y) e34 (a := a) (b := nI b) hq0 M (Nat.le_refl _)
  refine ⟨nlf S a (nI b) (q0R Y a b q), fun d hd => ⟨h.nl0 hq0 hd, ?_⟩, r1, fun d hd hn => ?_, fun j hj => ?_⟩
  · by_cases hm : S.1 26 b = a
    · have hc : ∀ d, d < M → ¬ cLot S d a (nI b) = true := fun d hd => by rw [← hm]; exact h.no_mk (by omega) hd
      have hcU : ∀ d, d < M → ¬ cLot U d a (nI b) = true := fun d hd => by
        have := hc d hd
        unfold cLot at this ⊢
        rw [h49, h51, h80]; exact this
      rw [cTk_no U a (nI b) q M hcU, h80]
      unfold nlf
      rw [if_neg (hc d hd)]
    · have e : q0R Y a b q = q := by unfold q0R; rw [hmk, if_pos hm]
      rw [e, (tk_c h49 h51 h80 a (nI b) q M).2, if_pos hd]
  · have hn2 : nlp S a (nI b) (q0R Y a b q) d = true := by unfold nlp; rw [decide_eq_false hn]; rfl
    have := r3 d hd hn2
    unfold rTak
    rw [sI_e, pk_un (by omega), pk_un (by omega), pk_un (by omega), pk_un (by omega)]
    exact this
  · unfold rTak
    rw [sI_e, pk_un (by omega)]
    rcases hj with hj | hj
    · rw [rTk_lo Y _ _ _ hj.1, e34]
    · exact r4 j (by have : cnt (lotP S 74) M ≤ 100 := hL; omega)
theorem chg_goods (h : Rl S un cn pn N M) (hh : HR S un cn pn N M k t nn mm) {X T : Mem} {M' : Nat} (hX : AgC (cRem S t k N M) X) (hT : AgR (K0 X k) T)
    (X1 : ∀ q, q < 83 → q ≠ 11 → (q < 49 ∨ 53 < q) → q ≠ 74 → q ≠ 80 → X.1 q = S.1 q) (X2 : ∀ q, q < 83 → q ≠ 74 → X.2 q = S.2 q)
    (xr : ∀ d, d < M → ∀ c, 5 ≤ c → c ≤ 9 → X.1 (44 + c) d = S.1 (44 + c) d)
    (x0 : X.1 74 0 = S.1 74 0) (x1 : X.1 74 1 = nI M') (x2 : X.1 74 2 = S.1 74 2) (xz : ∀ z, z < 5 → X.2 74 z = S.2 74 z)
    (t34 : ∀ j, j < 608 → j ≠ 1 → j ≠ 2 → T.1 34 j = S.1 34 j) (t342 : T.1 34 2 = nI M') (t35 : ∀ j, j ≠ 2 → T.2 35 j = S.2 35 j) (t352 : T.2 35 2 = T.2 74 5)
    (c7 : ∀ d, d < M' → DR T 44 (T.1 34) d ∧ WD T pn 74 44 d) (c8 : LR T 74 44 (T.1 34) M') (hM : M ≤ M') (hM2 : M' ≤ 100) : Rl T un cn pn N M' := by
  have hw := h.nw
  have T1 : ∀ q, q < 83 → q ≠ 11 → (q < 49 ∨ 53 < q) → q ≠ 74 → q ≠ 80 → q ≠ 34 → q ≠ 35 → q ≠ 41 → q ≠ 36 → q ≠ 30 → T.1 q = S.1 q := fun q a b c d e i j l m n => by rw [(hT q i j l).1, K0_1 X k m n, X1 q a b c d e]
  have T2 : ∀ q, q < 83 → q ≠ 74 → q ≠ 34 → q ≠ 35 → q ≠ 41 → q ≠ 37 → T.2 q = S.2 q := fun q a b e f g i => by rw [(hT q e f g).2, K0_2 X k i, X2 q a b]
  have T74 : T.1 74 = X.1 74 := by rw [(hT 74 (by decide) (by decide) (by decide)).1, K0_1 X k (by decide) (by decide)]
  have T742 : T.2 74 = X.2 74 := by rw [(hT 74 (by decide) (by decide) (by decide)).2, K0_2 X k (by decide)]
  refine Rl_chg h hh (X := X) (T := T) hX hT (fun i _ c a b => by rw [X1 _ (by omega) (by omega) (by omega) (by omega) (by omega)]) xr ?_ (Nat.le_refl _) hM
  obtain ⟨b1, b2, b3, b4, b5, b6⟩ := hw.sc
  have c1 : ∀ q, q = 26 ∨ (45 ≤ q ∧ q ≤ 48) ∨ (75 ≤ q ∧ q ≤ 79) ∨ q = 81 → T.1 q = S.1 q := fun q hq => T1 q (by omega) (by omega) (by omega) (by omega) (by omega) (by omega) (by omega) (by omega) (by omega) (by omega)
  have c2 : ∀ q, q = 78 ∨ q = 79 ∨ q = 82 → T.2 q = S.2 q := fun q hq => T2 q (by omega) (by omega) (by omega) (by omega) (by omega) (by omega)
  refine St_pk ⟨b1, hM2, by rw [T74, x0]; exact b3, by rw [T74]; exact x1, by rw [t34 0 (by decide) (by decide) (by decide)]; exact b5, t342⟩ ⟨?_, ?_, ?_, t352⟩ (fun c hc => ?_) (fun c hc => ?_) (fun u hu => ?_) ?_ c7 c8
  · rw [t34 3 (by decide) (by decide) (by decide), T74, x2]; exact hw.tol
  · rw [t35 0 (by decide), T742, xz 3 (by decide)]; exact hw.s3
  · rw [t35 1 (by decide), T742, xz 4 (by decide)]; exact hw.s4
  · rw [t34 _ (by omega) (by omega) (by omega), c1 81 (by decide)]; exact hw.rate hc
  · rw [t35 _ (by omega), c2 82 (by decide)]; exact hw.spos hc
  · rw [c1 81 (by decide)]; exact hw.rt1 hu
  · exact It_chg (fun _ => False) (fun i hi => hw.it hi) (fun j _ _ => ⟨by rw [c1 75 (by decide)], by rw [c1 76 (by decide)], by rw [c1 77 (by decide)], by rw [c2 78 (by decide)], by rw [c2 79 (by decide)]⟩) (fun j hj _ => ⟨fun w hw => t34 _ (by omega) (by omega) (by omega), t35 _ (by omega), t35 _ (by omega), t35 _ (by omega)⟩) (fun j _ => ⟨by rw [c1 45 (by decide)], by rw [c1 46 (by decide)], by rw [c1 47 (by decide)], by rw [c1 48 (by decide)]⟩) (fun _ _ _ _ _ _ _ z => z) (fun _ _ z => z.elim)
theorem Nw.itsE (h : Nw S un cn pn N M) {b : Nat} (hb : b < pn) (q p : Int32) : rIts S b q p = cIts S b q p := by
  unfold rIts cIts; rw [(h.1.2.2 b hb).2.1]
theorem chg_sell (h : Rl S un cn pn N M) (hh : HR S un cn pn N M k t nn mm) {a q : Int32} {b : Nat} (hb : b < pn) (hq : 0 ≤ q) (v v9 : Int64) : Rl (rSel (rTak (K0 (setJ (cSel (cTk (cRem S t k N M) a (nI b) q M).1 v) 191 0 v9) k) a b q (lts S M)) v) un cn pn N M := by
  have hw := h.nw
  generalize hX : setJ (cSel (cTk (cRem S t k N M) a (nI b) q M).1 v) 191 0 v9 = X
  generalize hT : rSel (rTak (K0 X k) a b q (lts S M)) v = T
  have X1 : ∀ q, q < 83 → q ≠ 11 → q ≠ 80 → X.1 q = S.1 q := fun z a b c => by
    rw [← hX, sJ_1]; unfold cSel; rw [sJ_1, cTk_k _ _ _ _ c, cRem_1 a b]
  have X80 : X.1 80 = (cTk (cRem S t k N M) a (nI b) q M).1.1 80 := by rw [← hX, sJ_1]; unfold cSel; rw [sJ_1]
  have X2 : ∀ q, q < 83 → q ≠ 74 → X.2 q = S.2 q := fun z a b => by
    rw [← hX, sJ_2 (by omega)]; unfold cSel; rw [sJ_2 (by omega), cTk_2, cRem_2 a]
  have X74 : X.2 74 = vp_updL (S.2 74) 5 (S.2 74 5 + v) := by
    rw [← hX, sJ_2 (by decide)]; unfold cSel; rw [sJ_e, cTk_2, cRem_2 (by decide)]
  have T34 : T.1 34 = (rTak (K0 X k) a b q (lts S M)).1 34 := by rw [← hT]; unfold rSel; rw [sJ_1]
  have T35 : T.2 35 = vp_updL (S.2 35) 2 (S.2 35 2 + v) := by rw [← hT]; unfold rSel; rw [sJ_e, rTak_2, K0_2 X k (by decide), X2 35 (by decide) (by decide)]
  have hAR : AgR (K0 X k) T := fun z a b c => by
    rw [← hT]; unfold rSel; rw [sJ_1, sJ_2 b, rTak_k _ _ _ _ _ a, rTak_2]; exact ⟨rfl, rfl⟩
  have T1 : ∀ q, q < 83 → q ≠ 11 → q ≠ 80 → q ≠ 34 → q ≠ 35 → q ≠ 41 → q ≠ 36 → q ≠ 30 → T.1 q = S.1 q := fun q a b i c d e f g => by rw [(hAR q c d e).1, K0_1 X k f g, X1 q a b i]
  obtain ⟨nl, n1, n2, n3, n4⟩ := hw.tk_b (U := cRem S t k N M) (Y := K0 X k) (cRem_1 (by decide) (by decide)) (cRem_1 (by decide) (by decide)) (cRem_1 (by decide) (by decide)) (by rw [K0_1 X k (by decide) (by decide), X1 34 (by decide) (by decide) (by decide)]) (by rw [K0_1 X k (by decide) (by decide), X1 33 (by decide) (by decide) (by decide)]) (a := a) (q := q) hb hq
  have T80 : ∀ d, d < M → T.1 80 d = nl d := fun d hd => by rw [(hAR 80 (by decide) (by decide) (by decide)).1, K0_1 X k (by decide) (by decide), X80]; exact (n1 d hd).2
  have hlp : ∀ d, d < M → lotP T 74 d = !decide (nl d ≤ 0) := fun d hd => by unfold lotP; rw [T80 d hd]
  have rows : ∀ q, 26 = q ∨ (49 ≤ q ∧ q ≤ 53) → T.1 q = S.1 q := fun q hq => T1 q (by omega) (by omega) (by omega) (by omega) (by omega) (by omega) (by omega) (by omega)
  refine chg_goods h hh (X := X) (T := T) ?_ hAR (fun q a b _ _ d => X1 q a b d) X2 (fun d _ c a b => by rw [X1 _ (by omega) (by omega) (by omega)]) (by rw [X1 74 (by decide) (by decide) (by decide)]) (by rw [X1 74 (by decide) (by decide) (by decide)]; exact hw.cM) (by rw [X1 74 (by decide) (by decide) (by decide)]) (fun z hz => by rw [X74, updLE, if_neg (by omega)]) (fun j hj h1 _ => by rw [T34]; exact n4 j (Or.inl ⟨hj, h1⟩)) (by rw [T34, n4 2 (by decide)]; exact hw.rM) (fun j hj => by rw [T35, updLE, if_neg hj]) ?_ (fun d hd => ?_) ⟨?_, fun d hd hp => ?_⟩ (Nat.le_refl _) hw.M100
  · intro z h1 h2 h3 h4 h5
    rw [← hX, sJ_1, sJ_2 (by omega)]; unfold cSel; rw [sJ_1, sJ_2 (by omega), cTk_k _ _ _ _ (by omega), cTk_2]; exact ⟨rfl, rfl⟩
  · rw [T35, (hAR 74 (by decide) (by decide) (by decide)).2, K0_2 X k (by decide), X74, updLE, updLE, if_pos rfl, if_pos rfl, hw.s5]
  · obtain ⟨⟨d1, d2, d3, d4, d5⟩, w1, w2, w3⟩ := hw.dl hd
    have hM := hw.M100
    refine ⟨?_, ?_⟩
    · unfold DR
      rw [T34, n4 _ (by omega), n4 _ (by omega), n4 _ (by omega), n4 _ (by omega), n4 _ (by omega), rows 49 (by decide), rows 50 (by decide), rows 51 (by decide), rows 52 (by decide), rows 53 (by decide)]
      exact ⟨d1, d2, d3, d4, d5⟩
    · unfold WD
      rw [rows 49 (by decide), rows 26 (by decide), rows 51 (by decide), T80 d hd]
      exact ⟨w1, (n1 d hd).1, w3⟩
  · rw [T34, rTak_1, n2, cnt_congr hlp]
  · rw [hlp d hd] at hp
    rw [T34, cnt_congr (fun e he => hlp e (by omega)), rows 51 (by decide), rows 49 (by decide), rows 53 (by decide), T80 d hd]
    exact n3 d hd (by simpa using hp)
theorem chg_deliver (h : Rl S un cn pn N M) (hh : HR S un cn pn N M k t nn mm) (hM9 : M < 100) {a c q p : Int32} {b : Nat} (hb : b < pn) (hq : nI 1 ≤ q) (hc : ¬ S.1 26 b = c) (v9 : Int64) : Rl (rDl (K0 (setJ (cDl (cRem S t k N M) a (nI b) c q p M) 191 0 v9) k) a b c q p (lts S M) M) un cn pn N (M + 1) := by
  have hw := h.nw
  have hp6 := hw.p6
  have hq0 : 0 ≤ q := Int32.le_trans (by decide) hq
  have hqn : ¬ q ≤ 0 := fun z => absurd (Int32.le_trans hq z) (by decide)
  generalize hX : setJ (cDl (cRem S t k N M) a (nI b) c q p M) 191 0 v9 = X
  generalize hT : rDl (K0 X k) a b c q p (lts S M) M = T
  have X1 : ∀ z, z < 83 → z ≠ 11 → (z < 49 ∨ 53 < z) → z ≠ 80 → z ≠ 74 → X.1 z = S.1 z := fun z h1 h2 h3 h4 h5 => by
    rw [← hX, sJ_1]; unfold cDl
    rw [sI_1 h5, sI_1 h4, sI_1 (by omega), sI_1 (by omega), sI_1 (by omega), sI_1 (by omega), sI_1 (by omega), cTk_k _ _ _ _ h4, cRem_1 h1 h2]
  have X49 : ∀ j, X.1 49 j = if j = M then nI b else S.1 49 j := fun j => by
    rw [← hX, sJ_1]; unfold cDl
    rw [sI_1 (by decide), sI_1 (by decide), sI_1 (by decide), sI_1 (by decide), sI_1 (by decide), sI_1 (by decide), sI_e, updE, cTk_k _ _ _ _ (by decide), cRem_1 (by decide) (by decide)]
  have X50 : ∀ j, X.1 50 j = if j = M then a else S.1 50 j := fun j => by
    rw [← hX, sJ_1]; unfold cDl
    rw [sI_1 (by decide), sI_1 (by decide), sI_1 (by decide), sI_1 (by decide), sI_1 (by decide), sI_e, updE, sI_1 (by decide), cTk_k _ _ _ _ (by decide), cRem_1 (by decide) (by decide)]
  have X51 : ∀ j, X.1 51 j = if j = M then c else S.1 51 j := fun j => by
    rw [← hX, sJ_1]; unfold cDl
    rw [sI_1 (by decide), sI_1 (by decide), sI_1 (by decide), sI_1 (by decide), sI_e, updE, sI_1 (by decide), sI_1 (by decide), cTk_k _ _ _ _ (by decide), cRem_1 (by decide) (by decide)]
  have X52 : ∀ j, X.1 52 j = if j = M then q else S.1 52 j := fun j => by
    rw [← hX, sJ_1]; unfold cDl
    rw [sI_1 (by decide), sI_1 (by decide), sI_1 (by decide), sI_e, updE, sI_1 (by decide), sI_1 (by decide), sI_1 (by decide), cTk_k _ _ _ _ (by decide), cRem_1 (by decide) (by decide)]
  have X53 : ∀ j, X.1 53 j = if j = M then p else S.1 53 j := fun j => by
    rw [← hX, sJ_1]; unfold cDl
    rw [sI_1 (by decide), sI_1 (by decide), sI_e, updE, sI_1 (by decide), sI_1 (by decide), sI_1 (by decide), sI_1 (by decide), cTk_k _ _ _ _ (by decide), cRem_1 (by decide) (by decide)]
  have X80 : ∀ j, X.1 80 j = if j = M then q else (cTk (cRem S t k N M) a (nI b) q M).1.1 80 j := fun j => by
    rw [← hX, sJ_1]; unfold cDl
    rw [sI_1 (by decide), sI_e, updE, sI_1 (by decide), sI_1 (by decide), sI_1 (by decide), sI_1 (by decide), sI_1 (by decide)]
  have X74 : ∀ j, X.1 74 j = if j = 1 then nI (M + 1) else S.1 74 j := fun j => by
    rw [← hX, sJ_1]; unfold cDl
    rw [sI_e, updE, sI_1 (by decide), sI_1 (by decide), sI_1 (by decide), sI_1 (by decide), sI_1 (by decide), sI_1 (by decide), cTk_k _ _ _ _ (by decide), cRem_1 (by decide) (by decide)]
  have X2 : ∀ z, z < 83 → X.2 z = S.2 z := fun z h1 => by
    rw [← hX, sJ_2 (by omega)]; unfold cDl
    rw [sI_2, sI_2, sI_2, sI_2, sI_2, sI_2, sI_2, cTk_2, cRem_2 h1]
  have hAR : AgR (K0 X k) T := fun z h1 h2 h3 => by
    rw [← hT]; unfold rDl rDl2 rDl1
    rw [sI_1 h1, sI_1 h1, sI_1 h1, sI_1 h1, sI_1 h1, sI_1 h1, sI_1 h1, sI_1 h1, sI_1 h1, sI_1 h1, sI_1 h1, sI_2, sI_2, sI_2, sI_2, sI_2, sI_2, sI_2, sI_2, sI_2, sI_2, sI_2, rTak_k _ _ _ _ _ h1, rTak_2]; exact ⟨rfl, rfl⟩
  have T1 : ∀ z, z ≠ 34 → z ≠ 35 → z ≠ 41 → z ≠ 36 → z ≠ 30 → T.1 z = X.1 z := fun z h1 h2 h3 h4 h5 => by rw [(hAR z h1 h2 h3).1, K0_1 X k h4 h5]
  have T35 : T.2 35 = S.2 35 := by
    rw [← hT]; unfold rDl rDl2 rDl1
    rw [sI_2, sI_2, sI_2, sI_2, sI_2, sI_2, sI_2, sI_2, sI_2, sI_2, sI_2, rTak_2, K0_2 X k (by decide), X2 35 (by decide)]
  obtain ⟨nl, n1, n2, n3, n4⟩ := hw.tk_b (U := cRem S t k N M) (Y := K0 X k) (cRem_1 (by decide) (by decide)) (cRem_1 (by decide) (by decide)) (cRem_1 (by decide) (by decide)) (by rw [K0_1 X k (by decide) (by decide), X1 34 (by decide) (by decide) (by decide) (by decide) (by decide)]) (by rw [K0_1 X k (by decide) (by decide), X1 33 (by decide) (by decide) (by decide) (by decide) (by decide)]) (a := a) (q := q) hb hq0
  have hcl := cnt_le (fun d => !decide (nl d ≤ 0)) M
  have T34 : ∀ j, T.1 34 j = if j = 1008 + 5 * M + 4 then p else if j = 1008 + 5 * M + 3 then q else if j = 1008 + 5 * M + 2 then c else if j = 1008 + 5 * M + 1 then a else if j = 1008 + 5 * M + 0 then nI b else if j = 2 then nI (M + 1) else if j = 608 + 4 * cnt (fun d => !decide (nl d ≤ 0)) M + 3 then p else if j = 608 + 4 * cnt (fun d => !decide (nl d ≤ 0)) M + 2 then q else if j = 608 + 4 * cnt (fun d => !decide (nl d ≤ 0)) M + 1 then nI b else if j = 608 + 4 * cnt (fun d => !decide (nl d ≤ 0)) M + 0 then c else if j = 1 then nI (cnt (fun d => !decide (nl d ≤ 0)) M + 1) else (rTak (K0 X k) a b q (lts S M)).1 34 j := fun j => by
    rw [← hT]; unfold rDl rDl2 rDl1
    rw [n2, sI_e, updE, sI_e, updE, sI_e, updE, sI_e, updE, sI_e, updE, sI_e, updE, sI_e, updE, sI_e, updE, sI_e, updE, sI_e, updE, sI_e, updE]
  have T34o : ∀ j, j ≠ 2 → j < 1008 + 5 * M → (j < 608 + 4 * cnt (fun d => !decide (nl d ≤ 0)) M ∨ 1008 ≤ j) → j ≠ 1 → T.1 34 j = (rTak (K0 X k) a b q (lts S M)).1 34 j := fun j h1 h2 h3 h4 => by
    rw [T34, if_neg (by omega), if_neg (by omega), if_neg (by omega), if_neg (by omega), if_neg (by omega), if_neg h1, if_neg (by omega), if_neg (by omega), if_neg (by omega), if_neg (by omega), if_neg h4]
  have r26 : T.1 26 = S.1 26 := by rw [T1 26 (by decide) (by decide) (by decide) (by decide) (by decide), X1 26 (by decide) (by decide) (by decide) (by decide) (by decide)]
  have r49 : ∀ j, T.1 49 j = if j = M then nI b else S.1 49 j := fun j => by rw [T1 49 (by decide) (by decide) (by decide) (by decide) (by decide)]; exact X49 j
  have r50 : ∀ j, T.1 50 j = if j = M then a else S.1 50 j := fun j => by rw [T1 50 (by decide) (by decide) (by decide) (by decide) (by decide)]; exact X50 j
  have r51 : ∀ j, T.1 51 j = if j = M then c else S.1 51 j := fun j => by rw [T1 51 (by decide) (by decide) (by decide) (by decide) (by decide)]; exact X51 j
  have r52 : ∀ j, T.1 52 j = if j = M then q else S.1 52 j := fun j => by rw [T1 52 (by decide) (by decide) (by decide) (by decide) (by decide)]; exact X52 j
  have r53 : ∀ j, T.1 53 j = if j = M then p else S.1 53 j := fun j => by rw [T1 53 (by decide) (by decide) (by decide) (by decide) (by decide)]; exact X53 j
  have r80 : ∀ j, T.1 80 j = if j = M then q else (cTk (cRem S t k N M) a (nI b) q M).1.1 80 j := fun j => by rw [T1 80 (by decide) (by decide) (by decide) (by decide) (by decide)]; exact X80 j
  have hlp : ∀ d, d < M → lotP T 74 d = !decide (nl d ≤ 0) := fun d hd => by unfold lotP; rw [r80, if_neg (by omega), (n1 d hd).2]
  have hlM : lotP T 74 M = true := by unfold lotP; rw [r80, if_pos rfl, decide_eq_false hqn]; rfl
  refine chg_goods h hh (X := X) (T := T) ?_ hAR (fun z h1 h2 h3 h4 h5 => X1 z h1 h2 h3 h5 h4) (fun z h1 _ => X2 z h1) (fun d hd c h1 h2 => ?_) (by rw [X74, if_neg (by decide)]) (by rw [X74, if_pos rfl]) (by rw [X74, if_neg (by decide)]) (fun z _ => by rw [X2 74 (by decide)]) (fun j h1 h2 h3 => by rw [T34o j h3 (by omega) (by omega) h2]; exact n4 j (by omega)) ?_ (fun j _ => by rw [T35]) ?_ (fun d hd => ?_) ⟨?_, fun d hd hp => ?_⟩ (by omega) (by omega)
  · intro z h1 h2 h3 h4 h5
    rw [← hX, sJ_1, sJ_2 (by omega)]; unfold cDl
    rw [sI_1 (by omega), sI_1 (by omega), sI_1 (by omega), sI_1 (by omega), sI_1 (by omega), sI_1 (by omega), sI_1 (by omega), sI_2, sI_2, sI_2, sI_2, sI_2, sI_2, sI_2, cTk_k _ _ _ _ (by omega), cTk_2]; exact ⟨rfl, rfl⟩
  · rcases (show c = 5 ∨ c = 6 ∨ c = 7 ∨ c = 8 ∨ c = 9 by omega) with rfl | rfl | rfl | rfl | rfl
    · show X.1 49 d = _; rw [X49, if_neg (by omega)]
    · show X.1 50 d = _; rw [X50, if_neg (by omega)]
    · show X.1 51 d = _; rw [X51, if_neg (by omega)]
    · show X.1 52 d = _; rw [X52, if_neg (by omega)]
    · show X.1 53 d = _; rw [X53, if_neg (by omega)]
  · rw [T34, if_neg (by omega), if_neg (by omega), if_neg (by omega), if_neg (by omega), if_neg (by omega), if_pos rfl]
  · rw [T35, (hAR 74 (by decide) (by decide) (by decide)).2, K0_2 X k (by decide), X2 74 (by decide)]; exact hw.s5
  · by_cases e : d = M
    · subst e
      refine ⟨⟨?_, ?_, ?_, ?_, ?_⟩, ?_, ?_, ?_⟩
      · show T.1 34 _ = T.1 49 d
        rw [r49, if_pos rfl, T34, if_neg (by omega), if_neg (by omega), if_neg (by omega), if_neg (by omega), if_pos rfl]
      · show T.1 34 _ = T.1 50 d
        rw [r50, if_pos rfl, T34, if_neg (by omega), if_neg (by omega), if_neg (by omega), if_pos rfl]
      · show T.1 34 _ = T.1 51 d
        rw [r51, if_pos rfl, T34, if_neg (by omega), if_neg (by omega), if_pos rfl]
      · show T.1 34 _ = T.1 52 d
        rw [r52, if_pos rfl, T34, if_neg (by omega), if_pos rfl]
      · show T.1 34 _ = T.1 53 d
        rw [r53, if_pos rfl, T34, if_pos rfl]
      · show okI (T.1 49 d) pn
        rw [r49, if_pos rfl]; exact okI_nI hb (by omega)
      · show 0 ≤ T.1 80 d
        rw [r80, if_pos rfl]; exact hq0
      · show ¬ T.1 26 (gN (T.1 49 d)) = T.1 51 d
        rw [r49, if_pos rfl, r51, if_pos rfl, r26, gN_nI (by omega)]; exact hc
    · obtain ⟨⟨d1, d2, d3, d4, d5⟩, w1, w2, w3⟩ := hw.dl (show d < M by omega)
      refine ⟨?_, ?_⟩
      · unfold DR
        rw [T34o _ (by omega) (by omega) (by omega) (by omega), T34o _ (by omega) (by omega) (by omega) (by omega), T34o _ (by omega) (by omega) (by omega) (by omega), T34o _ (by omega) (by omega) (by omega) (by omega), T34o _ (by omega) (by omega) (by omega) (by omega), n4 _ (by omega), n4 _ (by omega), n4 _ (by omega), n4 _ (by omega), n4 _ (by omega), r49, r50, r51, r52, r53, if_neg e, if_neg e, if_neg e, if_neg e, if_neg e]
        exact ⟨d1, d2, d3, d4, d5⟩
      · unfold WD
        rw [r49, r51, r80, if_neg e, if_neg e, if_neg e, r26, (n1 d (by omega)).2]
        exact ⟨w1, (n1 d (by omega)).1, w3⟩
  · rw [cnt, hlM, cnt_congr hlp, T34, if_neg (by omega), if_neg (by omega), if_neg (by omega), if_neg (by omega), if_neg (by omega), if_neg (by omega), if_neg (by omega), if_neg (by omega), if_neg (by omega), if_neg (by omega), if_pos rfl]; rfl
  · rw [cnt_congr (fun e he => hlp e (by omega))]
    by_cases e : d = M
    · subst e
      rw [r49, r51, r53, r80, if_pos rfl, if_pos rfl, if_pos rfl, if_pos rfl]
      refine ⟨?_, ?_, ?_, ?_⟩
      · rw [T34, if_neg (by omega), if_neg (by omega), if_neg (by omega), if_neg (by omega), if_neg (by omega), if_neg (by omega), if_neg (by omega), if_neg (by omega), if_neg (by omega), if_pos rfl]
      · rw [T34, if_neg (by omega), if_neg (by omega), if_neg (by omega), if_neg (by omega), if_neg (by omega), if_neg (by omega), if_neg (by omega), if_neg (by omega), if_pos rfl]
      · rw [T34, if_neg (by omega), if_neg (by omega), if_neg (by omega), if_neg (by omega), if_neg (by omega), if_neg (by omega), if_neg (by omega), if_pos rfl]
      · rw [T34, if_neg (by omega), if_neg (by omega), if_neg (by omega), if_neg (by omega), if_neg (by omega), if_neg (by omega), if_pos rfl]
    · have hd2 : d < M := by omega
      rw [hlp d hd2] at hp
      have hlt := cnt_lt (p := fun d => !decide (nl d ≤ 0)) hd2 hp
      rw [T34o _ (by omega) (by omega) (by omega) (by omega), T34o _ (by omega) (by omega) (by omega) (by omega), T34o _ (by omega) (by omega) (by omega) (by omega), T34o _ (by omega) (by omega) (by omega) (by omega), r49, r51, r53, r80, if_neg e, if_neg e, if_neg e, if_neg e, (n1 d hd2).2]
      exact n3 d hd2 (by simpa using hp)
/-- what a delivery's taken pieces would have brought -/
def tkp (S : Mem) (a b q : Int32) (d : Nat) : Int64 := if cLot S d a b then cOn S d (mnI (msg S a b q d) (S.1 80 d)) else 0
theorem i32_64s {x y : Int32} (h : 0 ≤ y) (h2 : y ≤ x) : (x - y).toInt64 = x.toInt64 - y.toInt64 := by
  have a1 := Int32.le_iff_toInt_le.mp h
  have a2 := Int32.le_iff_toInt_le.mp h2
  have b1 : (0 : Int32).toInt = 0 := by decide
  have b2 := Int32.toInt_lt x
  rw [b1] at a1
  apply Int64.toInt_inj.mp
  rw [Int64.toInt_sub, Int32.toInt_toInt64, Int32.toInt_toInt64, Int32.toInt_toInt64, i32_ms h h2, Int.bmod_eq_of_le (by omega) (by omega)]
theorem cOn_s {S : Mem} {d : Nat} {x y : Int32} (h : 0 ≤ y) (h2 : y ≤ x) : cOn S d (x - y) = cOn S d x - cOn S d y := by
  unfold cOn; rw [i32_64s h h2]; grind
theorem Nw.cPA_m (h : Nw S un cn pn N M) {a b q : Int32} (hq : 0 ≤ q) : ∀ d, d ≤ M → cPA S a b q d = (msg S a b q d, sumL (fOf S a) d - sumL (tkp S a b q) d)
  | 0, _ => by rw [cPA, msg, sumL, sumL, Int64.sub_self]
  | d + 1, hd => by
    have ih := h.cPA_m (a := a) (b := b) hq d (by omega)
    have hms := h.msg0 (a := a) (b := b) hq d (by omega)
    have h80 := h.left0 (show d < M by omega)
    have hm := mnI_r hms h80
    rw [cPA, ih, msg, sumL, sumL]
    dsimp only
    by_cases h1 : S.1 51 d = a
    · rw [if_pos h1]
      have hf : fOf S a d = cOn S d (S.1 80 d) := by unfold fOf; rw [if_pos h1]
      rw [hf]
      by_cases h2 : S.1 49 d = b
      · rw [if_pos h2, cOn_s hm.1 hm.2.1]
        by_cases hc : cLot S d a b = true
        · have ht : tkp S a b q d = cOn S d (mnI (msg S a b q d) (S.1 80 d)) := by unfold tkp; rw [if_pos hc]
          rw [if_pos hc, ht]
          refine Prod.ext rfl ?_
          dsimp only
          grind
        · have ht : tkp S a b q d = 0 := by unfold tkp; rw [if_neg hc]
          have h0 : S.1 80 d ≤ 0 := by
            rw [cLot_p, decide_eq_true h1, decide_eq_true h2] at hc
            unfold lotP at hc
            simpa using hc
          have hz : mnI (msg S a b q d) (S.1 80 d) = 0 := Int32.le_antisymm (Int32.le_trans hm.2.1 h0) hm.1
          rw [if_neg hc, ht, hz, cOn_0, Int32.sub_zero]
          refine Prod.ext rfl ?_
          dsimp only
          grind
      · have hc : ¬ cLot S d a b = true := by rw [cLot_p, decide_eq_false h2, Bool.and_false, Bool.and_false]; decide
        have ht : tkp S a b q d = 0 := by unfold tkp; rw [if_neg hc]
        rw [if_neg h2, if_neg hc, ht]
        refine Prod.ext rfl ?_
        dsimp only
        grind
    · have hc : ¬ cLot S d a b = true := by rw [cLot_p, decide_eq_false h1, Bool.false_and, Bool.and_false]; decide
      have ht : tkp S a b q d = 0 := by unfold tkp; rw [if_neg hc]
      have hf : fOf S a d = 0 := by unfold fOf; rw [if_neg h1]
      rw [if_neg h1, if_neg hc, ht, hf]
      refine Prod.ext rfl ?_
      dsimp only
      grind
theorem Nw.rUA_m (h : Nw S un cn pn N M) {a b q : Int32} (hq : 0 ≤ q) (v : Int64) : ∀ d, d ≤ M → rUA S a b q v (cnt (lotP S 74) d) = (v - sumL (tkp S a b q) d, msg S a b q d)
  | 0, _ => by rw [cnt, rUA, msg, sumL, Int64.sub_zero]
  | d + 1, hd => by
    have ih := h.rUA_m (a := a) (b := b) hq v d (by omega)
    have hms := h.msg0 (a := a) (b := b) hq d (by omega)
    have hdM : d < M := by omega
    have h80 := h.left0 hdM
    have hm := mnI_r hms h80
    rw [cnt, msg, sumL]
    cases hp : lotP S 74 d with
    | false =>
      have hc : ¬ cLot S d a b = true := by rw [cLot_p, hp, Bool.false_and]; decide
      have ht : tkp S a b q d = 0 := by unfold tkp; rw [if_neg hc]
      simp only [Bool.false_eq_true, if_false, Nat.add_zero]
      rw [if_neg hc, ht, Int64.add_zero]; exact ih
    | true =>
      obtain ⟨l0, l1, l2, l3⟩ := h.lt hdM hp
      simp only [if_true]
      have hrl : rLot S (cnt (lotP S 74) d) a b = cLot S d a b := by unfold rLot; rw [l0, l1, cLot_p, hp, Bool.true_and]
      rw [rUA, ih, l2, hrl]
      dsimp only
      by_cases hc : cLot S d a b = true
      · have ht : tkp S a b q d = cOn S d (mnI (msg S a b q d) (S.1 80 d)) := by unfold tkp; rw [if_pos hc]
        rw [if_pos hc, if_pos hc, ht, mnI_e, h.perE hdM hp]
        by_cases h0 : msg S a b q d ≤ 0
        · have hz : mnI (msg S a b q d) (S.1 80 d) = 0 := Int32.le_antisymm (Int32.le_trans hm.2.2 h0) hm.1
          rw [if_pos h0, hz, cOn_0, Int64.add_zero, Int32.sub_zero]
        · rw [if_neg h0]
          refine Prod.ext ?_ rfl
          dsimp only
          unfold cOn
          grind
      · have ht : tkp S a b q d = 0 := by unfold tkp; rw [if_neg hc]
        rw [if_neg hc, if_neg hc, ht, Int64.add_zero]
        split <;> rfl
theorem Nw.uaE (h : Nw S un cn pn N M) {a : Nat} (ha : a < 1000) {b q : Int32} (hq : 0 ≤ q) : (rUA S (nI a) b q (sumL (gPro S (nI a)) (lts S M)) (lts S M)).1 = (cPA S (nI a) b q M).2 := by
  rw [h.cPA_m hq M (Nat.le_refl _), h.rUA_m hq _ M (Nat.le_refl _), h.proE ha]
end GS
