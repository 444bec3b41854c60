/-! changes of single items on both sides -/
abbrev ItN (S : Mem) (cn : Nat) (f : Nat → Int32) (g : Nat → Int64) (N : Nat) : Prop := ∀ i, i < N → IR S 74 44 f g i ∧ WI S cn 74 44 N i
theorem ir_mk {S : Mem} {f : Nat → Int32} {g : Nat → Int64} {i : Nat} (a1 : f (8 + 6 * i + 0) = S.1 45 i) (a2 : f (8 + 6 * i + 1) = S.1 46 i) (a3 : f (8 + 6 * i + 2) = S.1 47 i) (a4 : f (8 + 6 * i + 3) = S.1 48 i) (a5 : f (8 + 6 * i + 4) = S.1 76 i) (a6 : f (8 + 6 * i + 5) = S.1 77 i) (a7 : g (9 + i) = (S.1 75 i).toInt64) (a8 : g (109 + i) = S.2 78 i) (a9 : S.1 76 i = nI 3 → g (209 + i) = S.2 79 i) : IR S 74 44 f g i := ⟨a1, a2, a3, a4, a5, a6, a7, a8, a9⟩
theorem wi_op {S : Mem} {cn N i : Nat} (a1 : okI (S.1 45 i) cn) (a2 : okI (S.1 46 i) cn) (a3 : ¬ S.1 45 i = S.1 46 i) (a4 : S.1 47 i = nI 0 ∨ S.1 47 i = nI 1) (a5 : S.1 76 i = nI 0 ∨ S.1 76 i = nI 4) (a6 : S.1 77 i = -1) : WI S cn 74 44 N i := ⟨a1, a2, a3, a4, Or.inl ⟨a5, a6⟩⟩
theorem wi_pr {S : Mem} {cn N i : Nat} (a1 : okI (S.1 45 i) cn) (a2 : okI (S.1 46 i) cn) (a3 : ¬ S.1 45 i = S.1 46 i) (a4 : S.1 47 i = nI 0 ∨ S.1 47 i = nI 1) (a5 : S.1 76 i = nI 1 ∨ S.1 76 i = nI 2 ∨ S.1 76 i = nI 3) {b : Nat} (hb : b < N) (e1 : S.1 77 i = nI b) (e2 : S.1 77 b = nI i) (e3 : S.1 76 b = S.1 76 i) (e4 : ¬ S.1 47 b = S.1 47 i) : WI S cn 74 44 N i := ⟨a1, a2, a3, a4, Or.inr ⟨a5, b, hb, e1, e2, e3, e4⟩⟩
theorem It_chg {S T : Mem} {cn N : Nat} {f f' : Nat → Int32} {g g' : Nat → Int64} (C : Nat → Prop) (h : ItN S cn f g N)
    (h1 : ∀ j, j < N → ¬ C j → T.1 75 j = S.1 75 j ∧ T.1 76 j = S.1 76 j ∧ T.1 77 j = S.1 77 j ∧ T.2 78 j = S.2 78 j ∧ T.2 79 j = S.2 79 j)
    (h2 : ∀ j, j < N → ¬ C j → (∀ w, w < 6 → f' (8 + 6 * j + w) = f (8 + 6 * j + w)) ∧ g' (9 + j) = g (9 + j) ∧ g' (109 + j) = g (109 + j) ∧ g' (209 + j) = g (209 + j))
    (hr : ∀ j, j < N → T.1 45 j = S.1 45 j ∧ T.1 46 j = S.1 46 j ∧ T.1 47 j = S.1 47 j ∧ T.1 48 j = S.1 48 j)
    (h3 : ∀ j b, j < N → b < N → ¬ C j → S.1 77 j = nI b → S.1 77 b = nI j → ¬ C b)
    (h4 : ∀ j, j < N → C j → IR T 74 44 f' g' j ∧ WI T cn 74 44 N j) : ItN T cn f' g' N := by
  intro j hj
  by_cases hC : C j
  · exact h4 j hj hC
  · obtain ⟨⟨a1, a2, a3, a4, a5, a6, a7, a8, a9⟩, w1, w2, w3, w4, w5⟩ := h j hj
    obtain ⟨k1, k2, k3, k4, k5⟩ := h1 j hj hC
    obtain ⟨m1, m2, m3, m4⟩ := h2 j hj hC
    obtain ⟨r1, r2, r3, r4⟩ := hr j hj
    refine ⟨ir_mk ?_ ?_ ?_ ?_ ?_ ?_ ?_ ?_ ?_, ?_⟩
    · rw [m1 0 (by decide), r1]; exact a1
    · rw [m1 1 (by decide), r2]; exact a2
    · rw [m1 2 (by decide), r3]; exact a3
    · rw [m1 3 (by decide), r4]; exact a4
    · rw [m1 4 (by decide), k2]; exact a5
    · rw [m1 5 (by decide), k3]; exact a6
    · rw [m2, k1]; exact a7
    · rw [m3, k4]; exact a8
    · rw [m4, k5, k2]; exact a9
    · rcases w5 with ⟨q1, q2⟩ | ⟨q1, b, hb, e1, e2, e3, e4⟩
      · exact wi_op (by rw [r1]; exact w1) (by rw [r2]; exact w2) (by rw [r1, r2]; exact w3) (by rw [r3]; exact w4) (by rw [k2]; exact q1) (by rw [k3]; exact q2)
      · have hCb := h3 j b hj hb hC e1 e2
        obtain ⟨l1, l2, l3, l4, l5⟩ := h1 b hb hCb
        obtain ⟨s1, s2, s3, s4⟩ := hr b hb
        exact wi_pr (by rw [r1]; exact w1) (by rw [r2]; exact w2) (by rw [r1, r2]; exact w3) (by rw [r3]; exact w4) (by rw [k2]; exact q1) hb (by rw [k3]; exact e1) (by rw [l3]; exact e2) (by rw [l2, k2]; exact e3) (by rw [s3, r3]; exact e4)
theorem Dl_fr {S T : Mem} {pn M : Nat} {f f' : Nat → Int32} (h : ∀ d, d < M → DR S 44 f d ∧ WD S pn 74 44 d) (hM : M ≤ 100) (e26 : T.1 26 = S.1 26) (e80 : ∀ d, d < M → T.1 80 d = S.1 80 d) (hr : ∀ d, d < M → ∀ c, 5 ≤ c → c ≤ 9 → T.1 (44 + c) d = S.1 (44 + c) d) (hf : ∀ j, 1008 ≤ j → j < 1508 → f' j = f j) : ∀ d, d < M → DR T 44 f' d ∧ WD T pn 74 44 d := by
  intro d hd
  obtain ⟨⟨a1, a2, a3, a4, a5⟩, w1, w2, w3⟩ := h d hd
  have q5 := hr d hd 5 (by decide) (by decide)
  have q7 := hr d hd 7 (by decide) (by decide)
  refine ⟨⟨?_, ?_, ?_, ?_, ?_⟩, ?_, ?_, ?_⟩
  · rw [hf _ (by omega) (by omega), q5]; exact a1
  · rw [hf _ (by omega) (by omega), hr d hd 6 (by decide) (by decide)]; exact a2
  · rw [hf _ (by omega) (by omega), q7]; exact a3
  · rw [hf _ (by omega) (by omega), hr d hd 8 (by decide) (by decide)]; exact a4
  · rw [hf _ (by omega) (by omega), hr d hd 9 (by decide) (by decide)]; exact a5
  · rw [q5]; exact w1
  · show 0 ≤ T.1 80 d
    rw [e80 d hd]; exact w2
  · rw [e26, q5, q7]; exact w3
theorem LR_fr {S T : Mem} {M : Nat} {f f' : Nat → Int32} (h : LR S 74 44 f M) (hM : M ≤ 100) (e80 : ∀ d, d < M → T.1 80 d = S.1 80 d) (hr : ∀ d, d < M → ∀ c, 5 ≤ c → c ≤ 9 → T.1 (44 + c) d = S.1 (44 + c) d) (hf1 : f' 1 = f 1) (hf : ∀ j, 608 ≤ j → j < 1008 → f' j = f j) : LR T 74 44 f' M := by
  have hlp : ∀ d, d < M → lotP T 74 d = lotP S 74 d := fun d hd => by unfold lotP; rw [show T.1 (74 + 6) d = S.1 (74 + 6) d from e80 d hd]
  have hcn : ∀ d, d ≤ M → cnt (lotP T 74) d = cnt (lotP S 74) d := fun d hd => cnt_congr (fun j hj => hlp j (by omega))
  refine ⟨by rw [hf1, hcn M (Nat.le_refl _)]; exact h.1, fun d hd hl => ?_⟩
  rw [hlp d hd] at hl
  have hlt := cnt_lt hd hl
  have hle := cnt_le (lotP S 74) M
  rw [hcn d (by omega), hf _ (by omega) (by omega), hf _ (by omega) (by omega), hf _ (by omega) (by omega), hf _ (by omega) (by omega), hr d hd 5 (by decide) (by decide), hr d hd 7 (by decide) (by decide), hr d hd 9 (by decide) (by decide), show T.1 (74 + 6) d = S.1 (74 + 6) d from e80 d hd]
  exact h.2 d hd hl
/-- the cells of K0 -/
theorem K0_1 (X : Mem) (k : Nat) {q : Nat} (h : q ≠ 36) (h2 : q ≠ 30) : (K0 X k).1 q = X.1 q := (rKeep_1 _ k h h2).trans (sI_1 h2)
theorem K0_2 (X : Mem) (k : Nat) {q : Nat} (h : q ≠ 37) : (K0 X k).2 q = X.2 q := (rKeep_2 _ k h).trans (by rw [sI_2])
section CH
variable {S : Mem} {un cn pn N M k t : Nat} {nn mm : Nat → Nat}
/-- the standing now, its parts by name -/
theorem Nw.sc (h : Nw S un cn pn N M) : N ≤ 100 ∧ M ≤ 100 ∧ S.1 74 0 = nI N ∧ S.1 74 1 = nI M ∧ S.1 34 0 = nI N ∧ S.1 34 2 = nI M := h.2.1
theorem St_pk {T : Mem} (c1 : N ≤ 100 ∧ M ≤ 100 ∧ T.1 74 0 = nI N ∧ T.1 74 1 = nI M ∧ T.1 34 0 = nI N ∧ T.1 34 2 = nI M) (c2 : T.1 34 3 = T.1 74 2 ∧ T.2 35 0 = T.2 74 3 ∧ T.2 35 1 = T.2 74 4 ∧ T.2 35 2 = T.2 74 5) (c3 : ∀ c, c < un ∧ c < 4 → T.1 34 (4 + c) = T.1 81 c) (c4 : ∀ c, c < 6 → T.2 35 (3 + c) = T.2 82 c) (c5 : ∀ u, u < un → nI 1 ≤ T.1 81 u) (c6 : ItN T cn (T.1 34) (T.2 35) N) (c7 : ∀ d, d < M → DR T 44 (T.1 34) d ∧ WD T pn 74 44 d) (c8 : LR T 74 44 (T.1 34) M) : St T un cn pn 74 44 (T.1 34) (T.2 35) N M := ⟨c1, c2, c3, c4, c5, c6, c7, c8⟩
theorem updE {f : Nat → Int32} {a j : Nat} {x : Int32} : upd f a x j = if j = a then x else f j := rfl
theorem updLE {f : Nat → Int64} {a j : Nat} {x : Int64} : vp_updL f a x j = if j = a then x else f j := rfl
theorem chg_tol (h : Rl S un cn pn N M) (hh : HR S un cn pn N M k t nn mm) (x : Int32) (v : Int64) : Rl (setI (K0 (setJ (setI (cRem S t k N M) 74 2 x) 191 0 v) k) 34 3 x) un cn pn N M := by
  have hw := h.nw
  generalize hX : setJ (setI (cRem S t k N M) 74 2 x) 191 0 v = X
  generalize hT : setI (K0 X k) 34 3 x = T
  have X1 : ∀ q, q < 83 → q ≠ 11 → q ≠ 74 → X.1 q = S.1 q := fun q a b c => by rw [← hX, sJ_1, sI_1 c, cRem_1 a b]
  have X74 : X.1 74 = upd (S.1 74) 2 x := by rw [← hX, sJ_1, sI_e, cRem_1 (by decide) (by decide)]
  have X2 : ∀ q, q < 83 → X.2 q = S.2 q := fun q a => by rw [← hX, sJ_2 (by omega), sI_2, cRem_2 a]
  have T1 : ∀ q, q < 83 → q ≠ 11 → q ≠ 74 → q ≠ 34 → q ≠ 36 → q ≠ 30 → T.1 q = S.1 q := fun q a b c d e f => by rw [← hT, sI_1 d, K0_1 X k e f, X1 q a b c]
  have T2 : ∀ q, q < 83 → q ≠ 37 → T.2 q = S.2 q := fun q a b => by rw [← hT, sI_2, K0_2 X k b, X2 q a]
  have T74 : T.1 74 = upd (S.1 74) 2 x := by rw [← hT, sI_1 (by decide), K0_1 X k (by decide) (by decide), X74]
  have T34 : T.1 34 = upd (S.1 34) 3 x := by rw [← hT, sI_e, K0_1 X k (by decide) (by decide), X1 34 (by decide) (by decide) (by decide)]
  have lo : ∀ j, j ≠ 3 → T.1 34 j = S.1 34 j := fun j hj => by rw [T34, pk_un hj]
  refine Rl_chg h hh (X := X) (T := T) (by rw [← hX]; exact (AgC.rf.I (by decide)).J (by decide)) (by rw [← hT]; exact AgR.rf.I (by decide)) (fun i _ c a b => by rw [X1 _ (by omega) (by omega) (by omega)]) (fun d _ c a b => by rw [X1 _ (by omega) (by omega) (by omega)]) ?_ (Nat.le_refl _) (Nat.le_refl _)
  obtain ⟨b1, b2, b3, b4, b5, b6⟩ := hw.sc
  have e26 := T1 26 (by decide) (by decide) (by decide) (by decide) (by decide) (by decide)
  have e80 := T1 80 (by decide) (by decide) (by decide) (by decide) (by decide) (by decide)
  have rows : ∀ d, d < M → ∀ c, 5 ≤ c → c ≤ 9 → T.1 (44 + c) d = S.1 (44 + c) d := fun d _ c a b => by rw [T1 _ (by omega) (by omega) (by omega) (by omega) (by omega) (by omega)]
  refine St_pk ⟨b1, b2, by rw [T74, pk_un (by decide)]; exact b3, by rw [T74, pk_un (by decide)]; exact b4, by rw [lo 0 (by decide)]; exact b5, by rw [lo 2 (by decide)]; exact b6⟩ ⟨by rw [T34, T74, pk_us, pk_us], ?_, ?_, ?_⟩ (fun c hc => ?_) (fun c hc => ?_) (fun u hu => ?_) ?_ ?_ ?_
  · rw [T2 35 (by decide) (by decide), T2 74 (by decide) (by decide)]; exact hw.s3
  · rw [T2 35 (by decide) (by decide), T2 74 (by decide) (by decide)]; exact hw.s4
  · rw [T2 35 (by decide) (by decide), T2 74 (by decide) (by decide)]; exact hw.s5
  · rw [lo _ (by omega), T1 81 (by decide) (by decide) (by decide) (by decide) (by decide) (by decide)]; exact hw.rate hc
  · rw [T2 35 (by decide) (by decide), T2 82 (by decide) (by decide)]; exact hw.spos hc
  · rw [T1 81 (by decide) (by decide) (by decide) (by decide) (by decide) (by decide)]; exact hw.rt1 hu
  · refine It_chg (fun _ => False) (fun i hi => hw.it hi) (fun j _ _ => ⟨by rw [T1 75 (by decide) (by decide) (by decide) (by decide) (by decide) (by decide)], by rw [T1 76 (by decide) (by decide) (by decide) (by decide) (by decide) (by decide)], by rw [T1 77 (by decide) (by decide) (by decide) (by decide) (by decide) (by decide)], by rw [T2 78 (by decide) (by decide)], by rw [T2 79 (by decide) (by decide)]⟩) (fun j _ _ => ⟨fun w _ => lo _ (by omega), by rw [T2 35 (by decide) (by decide)], by rw [T2 35 (by decide) (by decide)], by rw [T2 35 (by decide) (by decide)]⟩) (fun j _ => ⟨by rw [T1 45 (by decide) (by decide) (by decide) (by decide) (by decide) (by decide)], by rw [T1 46 (by decide) (by decide) (by decide) (by decide) (by decide) (by decide)], by rw [T1 47 (by decide) (by decide) (by decide) (by decide) (by decide) (by decide)], by rw [T1 48 (by decide) (by decide) (by decide) (by decide) (by decide) (by decide)]⟩) (fun _ _ _ _ _ _ _ q => q) (fun _ _ q => q.elim)
  · exact Dl_fr (fun d hd => hw.dl hd) b2 e26 (fun d _ => by rw [e80]) rows (fun j _ _ => lo j (by omega))
  · exact LR_fr h.2.1.2.2.2.2.2.2.2 b2 (fun d _ => by rw [e80]) rows (lo 1 (by decide)) (fun j _ _ => lo j (by omega))
theorem chg_rate (h : Rl S un cn pn N M) (hh : HR S un cn pn N M k t nn mm) {i : Nat} (hi : i < un) {x : Int32} (hx : nI 1 ≤ x) (v : Int64) : Rl (setI (K0 (setJ (setI (cRem S t k N M) 81 i x) 191 0 v) k) 34 (4 + i) x) un cn pn N M := by
  have hw := h.nw
  have u4 := hw.u4
  generalize hX : setJ (setI (cRem S t k N M) 81 i x) 191 0 v = X
  generalize hT : setI (K0 X k) 34 (4 + i) x = T
  have X1 : ∀ q, q < 83 → q ≠ 11 → q ≠ 81 → X.1 q = S.1 q := fun q a b c => by rw [← hX, sJ_1, sI_1 c, cRem_1 a b]
  have X81 : X.1 81 = upd (S.1 81) i x := by rw [← hX, sJ_1, sI_e, cRem_1 (by decide) (by decide)]
  have X2 : ∀ q, q < 83 → X.2 q = S.2 q := fun q a => by rw [← hX, sJ_2 (by omega), sI_2, cRem_2 a]
  have T1 : ∀ q, q < 83 → q ≠ 11 → q ≠ 81 → q ≠ 34 → q ≠ 36 → q ≠ 30 → T.1 q = S.1 q := fun q a b c d e f => by rw [← hT, sI_1 d, K0_1 X k e f, X1 q a b c]
  have T2 : ∀ q, q < 83 → q ≠ 37 → T.2 q = S.2 q := fun q a b => by rw [← hT, sI_2, K0_2 X k b, X2 q a]
  have T81 : T.1 81 = upd (S.1 81) i x := by rw [← hT, sI_1 (by decide), K0_1 X k (by decide) (by decide), X81]
  have T34 : T.1 34 = upd (S.1 34) (4 + i) x := by rw [← hT, sI_e, K0_1 X k (by decide) (by decide), X1 34 (by decide) (by decide) (by decide)]
  have lo : ∀ j, j ≠ 4 + i → T.1 34 j = S.1 34 j := fun j hj => by rw [T34, pk_un hj]
  refine Rl_chg h hh (X := X) (T := T) (by rw [← hX]; exact (AgC.rf.I (by decide)).J (by decide)) (by rw [← hT]; exact AgR.rf.I (by decide)) (fun i _ c a b => by rw [X1 _ (by omega) (by omega) (by omega)]) (fun d _ c a b => by rw [X1 _ (by omega) (by omega) (by omega)]) ?_ (Nat.le_refl _) (Nat.le_refl _)
  obtain ⟨b1, b2, b3, b4, b5, b6⟩ := hw.sc
  have e74 := T1 74 (by decide) (by decide) (by decide) (by decide) (by decide) (by decide)
  have e26 := T1 26 (by decide) (by decide) (by decide) (by decide) (by decide) (by decide)
  have e80 := T1 80 (by decide) (by decide) (by decide) (by decide) (by decide) (by decide)
  have rows : ∀ d, d < M → ∀ c, 5 ≤ c → c ≤ 9 → T.1 (44 + c) d = S.1 (44 + c) d := fun d _ c a b => by rw [T1 _ (by omega) (by omega) (by omega) (by omega) (by omega) (by omega)]
  refine St_pk ⟨b1, b2, by rw [e74]; exact b3, by rw [e74]; exact b4, by rw [lo 0 (by omega)]; exact b5, by rw [lo 2 (by omega)]; exact b6⟩ ⟨?_, ?_, ?_, ?_⟩ (fun c hc => ?_) (fun c hc => ?_) (fun u hu => ?_) ?_ ?_ ?_
  · rw [lo 3 (by omega), e74]; exact hw.tol
  · rw [T2 35 (by decide) (by decide), T2 74 (by decide) (by decide)]; exact hw.s3
  · rw [T2 35 (by decide) (by decide), T2 74 (by decide) (by decide)]; exact hw.s4
  · rw [T2 35 (by decide) (by decide), T2 74 (by decide) (by decide)]; exact hw.s5
  · rw [T34, T81, updE, updE]
    by_cases e : c = i
    · rw [if_pos (by omega), if_pos e]
    · rw [if_neg (by omega), if_neg e]; exact hw.rate hc
  · rw [T2 35 (by decide) (by decide), T2 82 (by decide) (by decide)]; exact hw.spos hc
  · rw [T81, updE]
    split
    · exact hx
    · exact hw.rt1 hu
  · refine It_chg (fun _ => False) (fun i hi => hw.it hi) (fun j _ _ => ⟨by rw [T1 75 (by decide) (by decide) (by decide) (by decide) (by decide) (by decide)], by rw [T1 76 (by decide) (by decide) (by decide) (by decide) (by decide) (by decide)], by rw [T1 77 (by decide) (by decide) (by decide) (by decide) (by decide) (by decide)], by rw [T2 78 (by decide) (by decide)], by rw [T2 79 (by decide) (by decide)]⟩) (fun j _ _ => ⟨fun w _ => lo _ (by omega), by rw [T2 35 (by decide) (by decide)], by rw [T2 35 (by decide) (by decide)], by rw [T2 35 (by decide) (by decide)]⟩) (fun j _ => ⟨by rw [T1 45 (by decide) (by decide) (by decide) (by decide) (by decide) (by decide)], by rw [T1 46 (by decide) (by decide) (by decide) (by decide) (by decide) (by decide)], by rw [T1 47 (by decide) (by decide) (by decide) (by decide) (by decide) (by decide)], by rw [T1 48 (by decide) (by decide) (by decide) (by decide) (by decide) (by decide)]⟩) (fun _ _ _ _ _ _ _ q => q) (fun _ _ q => q.elim)
  · exact Dl_fr (fun d hd => hw.dl hd) b2 e26 (fun d _ => by rw [e80]) rows (fun j _ _ => lo j (by omega))
  · exact LR_fr h.2.1.2.2.2.2.2.2.2 b2 (fun d _ => by rw [e80]) rows (lo 1 (by omega)) (fun j _ _ => lo j (by omega))
/-- a change that touches states, pairs, amounts, bookings of items alone -/
theorem chg_items (h : Rl S un cn pn N M) (hh : HR S un cn pn N M k t nn mm) {X T : Mem} (hX : AgC (cRem S t k N M) X) (hT : AgR (K0 X k) T)
    (X1 : ∀ q, q < 83 → q ≠ 11 → q ≠ 5 → q ≠ 7 → q ≠ 75 → q ≠ 76 → q ≠ 77 → X.1 q = S.1 q) (X2 : ∀ q, q < 83 → q ≠ 7 → q ≠ 78 → q ≠ 79 → X.2 q = S.2 q)
    (lo : ∀ j, j < 8 ∨ 608 ≤ j → T.1 34 j = S.1 34 j) (lo2 : ∀ j, j < 9 → T.2 35 j = S.2 35 j) (hI : ItN T cn (T.1 34) (T.2 35) N) : Rl T un cn pn N M := by
  have hw := h.nw
  have T1 : ∀ q, q < 83 → q ≠ 11 → q ≠ 5 → q ≠ 7 → q ≠ 75 → q ≠ 76 → q ≠ 77 → q ≠ 34 → q ≠ 35 → q ≠ 41 → q ≠ 36 → q ≠ 30 → T.1 q = S.1 q := fun q a b c d e f g i j l m n => by rw [(hT q i j l).1, K0_1 X k m n, X1 q a b c d e f g]
  have T2 : ∀ q, q < 83 → q ≠ 7 → q ≠ 78 → q ≠ 79 → q ≠ 34 → q ≠ 35 → q ≠ 41 → q ≠ 37 → T.2 q = S.2 q := fun q a b c d e f g i => by rw [(hT q e f g).2, K0_2 X k i, X2 q a b c d]
  refine Rl_chg h hh (X := X) (T := T) hX hT (fun i _ c a b => by rw [X1 _ (by omega) (by omega) (by omega) (by omega) (by omega) (by omega) (by omega)]) (fun d _ c a b => by rw [X1 _ (by omega) (by omega) (by omega) (by omega) (by omega) (by omega) (by omega)]) ?_ (Nat.le_refl _) (Nat.le_refl _)
  obtain ⟨b1, b2, b3, b4, b5, b6⟩ := hw.sc
  have c1 : ∀ q, q = 26 ∨ q = 74 ∨ q = 80 ∨ q = 81 → T.1 q = S.1 q := fun q hq => T1 q (by omega) (by omega) (by omega) (by omega) (by omega) (by omega) (by omega) (by omega) (by omega) (by omega) (by omega) (by omega)
  have c2 : ∀ q, q = 74 ∨ q = 82 → T.2 q = S.2 q := fun q hq => T2 q (by omega) (by omega) (by omega) (by omega) (by omega) (by omega) (by omega) (by omega)
  have rows : ∀ d, d < M → ∀ c, 5 ≤ c → c ≤ 9 → T.1 (44 + c) d = S.1 (44 + c) d := fun d _ c a b => by rw [T1 _ (by omega) (by omega) (by omega) (by omega) (by omega) (by omega) (by omega) (by omega) (by omega) (by omega) (by omega) (by omega)]
  refine St_pk ⟨b1, b2, by rw [c1 74 (by decide)]; exact b3, by rw [c1 74 (by decide)]; exact b4, by rw [lo 0 (by omega)]; exact b5, by rw [lo 2 (by omega)]; exact b6⟩ ⟨?_, ?_, ?_, ?_⟩ (fun c hc => ?_) (fun c hc => ?_) (fun u hu => ?_) hI ?_ ?_
  · rw [lo 3 (by omega), c1 74 (by decide)]; exact hw.tol
  · rw [lo2 0 (by decide), c2 74 (by decide)]; exact hw.s3
  · rw [lo2 1 (by decide), c2 74 (by decide)]; exact hw.s4
  · rw [lo2 2 (by decide), c2 74 (by decide)]; exact hw.s5
  · rw [lo _ (by omega), c1 81 (by decide)]; exact hw.rate hc
  · rw [lo2 _ (by omega), c2 82 (by decide)]; exact hw.spos hc
  · rw [c1 81 (by decide)]; exact hw.rt1 hu
  · exact Dl_fr (fun d hd => hw.dl hd) b2 (c1 26 (by decide)) (fun d _ => by rw [c1 80 (by decide)]) rows (fun j _ _ => lo j (by omega))
  · exact LR_fr h.2.1.2.2.2.2.2.2.2 b2 (fun d _ => by rw [c1 80 (by decide)]) rows (lo 1 (by omega)) (fun j _ _ => lo j (by omega))
theorem chg_cancel (h : Rl S un cn pn N M) (hh : HR S un cn pn N M k t nn mm) {i : Nat} (hi : i < N) (hs : S.1 76 i = nI 0) (v : Int64) : Rl (setI (K0 (setJ (setI (cRem S t k N M) 76 i (nI 4)) 191 0 v) k) 34 (8 + 6 * i + 4) (nI 4)) un cn pn N M := by
  have hw := h.nw
  have hN := hw.N100
  generalize hX : setJ (setI (cRem S t k N M) 76 i (nI 4)) 191 0 v = X
  generalize hT : setI (K0 X k) 34 (8 + 6 * i + 4) (nI 4) = T
  have X1 : ∀ q, q < 83 → q ≠ 11 → q ≠ 76 → X.1 q = S.1 q := fun q a b c => by rw [← hX, sJ_1, sI_1 c, cRem_1 a b]
  have X76 : X.1 76 = upd (S.1 76) i (nI 4) := by rw [← hX, sJ_1, sI_e, cRem_1 (by decide) (by decide)]
  have X2 : ∀ q, q < 83 → X.2 q = S.2 q := fun q a => by rw [← hX, sJ_2 (by omega), sI_2, cRem_2 a]
  have T1 : ∀ q, 44 ≤ q → q < 83 → q ≠ 76 → T.1 q = S.1 q := fun q z a c => by rw [← hT, sI_1 (by omega), K0_1 X k (by omega) (by omega), X1 q a (by omega) c]
  have T2 : ∀ q, q < 83 → q ≠ 37 → T.2 q = S.2 q := fun q a b => by rw [← hT, sI_2, K0_2 X k b, X2 q a]
  have T76 : T.1 76 = upd (S.1 76) i (nI 4) := by rw [← hT, sI_1 (by decide), K0_1 X k (by decide) (by decide), X76]
  have T34 : T.1 34 = upd (S.1 34) (8 + 6 * i + 4) (nI 4) := by rw [← hT, sI_e, K0_1 X k (by decide) (by decide), X1 34 (by decide) (by decide) (by decide)]
  have lo : ∀ j, j ≠ 8 + 6 * i + 4 → T.1 34 j = S.1 34 j := fun j hj => by rw [T34, pk_un hj]
  have e35 := T2 35 (by decide) (by decide)
  refine chg_items h hh (X := X) (by rw [← hX]; exact (AgC.rf.I (by decide)).J (by decide)) (by rw [← hT]; exact AgR.rf.I (by decide)) (fun q a b _ _ _ c _ => X1 q a b c) (fun q a _ _ _ => X2 q a) (fun j hj => lo j (by omega)) (fun j _ => by rw [e35]) ?_
  refine It_chg (fun j => j = i) (fun i hi => hw.it hi) (fun j _ hj => ⟨by rw [T1 75 (by decide) (by decide) (by decide)], by rw [T76, pk_un hj], by rw [T1 77 (by decide) (by decide) (by decide)], by rw [T2 78 (by decide) (by decide)], by rw [T2 79 (by decide) (by decide)]⟩) (fun j _ hj => ⟨fun w hw9 => lo _ (by omega), by rw [e35], by rw [e35], by rw [e35]⟩) (fun j _ => ⟨by rw [T1 45 (by decide) (by decide) (by decide)], by rw [T1 46 (by decide) (by decide) (by decide)], by rw [T1 47 (by decide) (by decide) (by decide)], by rw [T1 48 (by decide) (by decide) (by decide)]⟩) (fun j b hj hb hji e1 e2 ebi => ?_) (fun j hj ej => ?_)
  · have ebi : b = i := ebi
    rw [ebi, hw.op hi (Or.inl hs)] at e2
    exact absurd e2 (fun q => absurd (show (-1 : Int32) < 0 by decide) (by rw [q]; exact nI_pos (by omega)))
  · subst ej
    obtain ⟨⟨a1, a2, a3, a4, a5, a6, a7, a8, a9⟩, w1, w2, w3, w4, w5⟩ := hw.it hj
    have t76 : T.1 76 j = nI 4 := by rw [T76, pk_us]
    refine ⟨ir_mk ?_ ?_ ?_ ?_ ?_ ?_ ?_ ?_ ?_, wi_op ?_ ?_ ?_ ?_ (Or.inr t76) ?_⟩
    · rw [lo _ (by omega), T1 45 (by decide) (by decide) (by decide)]; exact a1
    · rw [lo _ (by omega), T1 46 (by decide) (by decide) (by decide)]; exact a2
    · rw [lo _ (by omega), T1 47 (by decide) (by decide) (by decide)]; exact a3
    · rw [lo _ (by omega), T1 48 (by decide) (by decide) (by decide)]; exact a4
    · rw [t76, T34, pk_us]
    · rw [lo _ (by omega), T1 77 (by decide) (by decide) (by decide)]; exact a6
    · rw [e35, T1 75 (by decide) (by decide) (by decide)]; exact a7
    · rw [e35, T2 78 (by decide) (by decide)]; exact a8
    · intro q; rw [t76] at q; exact absurd q (by decide)
    · rw [T1 45 (by decide) (by decide) (by decide)]; exact w1
    · rw [T1 46 (by decide) (by decide) (by decide)]; exact w2
    · rw [T1 45 (by decide) (by decide) (by decide), T1 46 (by decide) (by decide) (by decide)]; exact w3
    · rw [T1 47 (by decide) (by decide) (by decide)]; exact w4
    · rw [T1 77 (by decide) (by decide) (by decide)]; exact hw.op hj (Or.inl hs)
end CH
