/-! one call on both sides: the changes -/
theorem rNt_2 (U : Mem) {z : Nat} (h : z ≠ 35) : ∀ i, (rNt U i).2 z = U.2 z
  | 0 => rfl
  | i + 1 => by
    rw [rNt]
    split
    · unfold rSe rSe3 rSe2 rSe1; rw [sI_2, sI_2, sJ_2 h, sJ_2 h, sJ_2 h]; exact rNt_2 U h i
    · exact rNt_2 U h i
theorem rIts_of {S T : Mem} {b : Nat} {q p : Int32} (e : T.1 33 = S.1 33) : rIts T b q p = rIts S b q p := by unfold rIts; rw [e]
theorem rCan2_of {S T : Mem} {a q : Int32} {b L : Nat} (e33 : T.1 33 = S.1 33) (e34 : T.1 34 = S.1 34) : rCan2 T a b q L = rCan2 S a b q L := by
  have e : rStk T = rStk S := by funext x y j; unfold rStk rLot; rw [e34]
  unfold rCan2; rw [e33, e]
section SQ2
variable {l : Launch} {sa ka va : Nat → Nat} {D : va_G} {cA : Nat → ClassId} {α : Nat → Nat} {S : Mem}

theorem sp_setTolerance (hst : l.stackTraces = false) (h : Rel S) (a1 : Int32) : SpI l sa ka va D cA α yL_setTolerance wsL_setTolerance ({ frames := 8, cells := 1, slots := 6, locals := 144 }) yX11_setTolerance wsX11_setTolerance ({ frames := 2, cells := 0, slots := 0, locals := 47 }) [.ref (α 0), .int a1, .ref (α 191)] [.ref (α 30), .int a1] S := by
  obtain ⟨un, cn, pn, N, M, h⟩ := h
  have hw := h.nw
  obtain ⟨k, t, nn, mm, hh⟩ := h.2.2.1
  by_cases e : ∃ i, 0 ≤ i ∧ i ≤ 1000000 ∧ a1 = nI i
  · obtain ⟨m, hm0, hm, rfl⟩ := e
    have hX : AgC (cRem S t k N M) (setI (cRem S t k N M) 74 2 (nI m)) := AgC.rf.I (by decide)
    have e30 := (hX.at (q := 30) (by decide)).1
    have e33 := (hX.at (q := 33) (by decide)).1
    have e34 := (hX.at (q := 34) (by decide)).1
    have e35 := (hX.at (q := 35) (by decide)).2
    exact spI_c (k := k) (fun z => hN_setTolerance l sa ka va D cA α z S (nI m) _ _ (fun z => ct_X10_setTolerance l D cA α 193 z (by decide) S (nI m) ⟨m, hm0, hm, rfl⟩ N hw.cN hw.N100 M hw.cM hw.M100 t k hh.1.2.2.2.1 hh.1.2.1 hh.1.2.2.1 hh.1.1)) (fun z => ct_X11_setTolerance l D cA α 193 z (by decide) _ m hm k (by rw [sJ_1, e30]; exact hh.1.2.2.2.2) hh.1.1) (AgR.rf.I (by decide)) (by rw [sJ_1, e34]; exact hw.tol.symm) (chg_tol h hh _ _).rel
  · exact spI_x h 1 (by decide) (fun z => hX_setTolerance_IA l sa ka va D cA α z S a1 (fun z => ct_X10_setToleranceX l hst sa D cA α 193 z (by decide) S a1 e)) (fun z => ct_X11_setToleranceX l D cA α 193 z (by decide) S a1 e) (by first | exact Or.inl rfl | exact Or.inr rfl)

theorem sp_setRate (hst : l.stackTraces = false) (h : Rel S) (a1 a2 : Int32) : SpI l sa ka va D cA α yL_setRate wsL_setRate ({ frames := 8, cells := 1, slots := 6, locals := 145 }) yX11_setRate wsX11_setRate ({ frames := 2, cells := 0, slots := 0, locals := 47 }) [.ref (α 0), .int a1, .int a2, .ref (α 191)] [.ref (α 30), .int a1, .int a2] S := by
  obtain ⟨un, cn, pn, N, M, h⟩ := h
  have hw := h.nw
  obtain ⟨k, t, nn, mm, hh⟩ := h.2.2.1
  by_cases e : ∃ i, i < un ∧ a1 = nI i
  · obtain ⟨i, hi, rfl⟩ := e
    by_cases e2 : ∃ i, 1 ≤ i ∧ i ≤ 9999 ∧ a2 = nI i
    · obtain ⟨m, hm0, hm, rfl⟩ := e2
      have hX : AgC (cRem S t k N M) (setI (cRem S t k N M) 81 i (nI m)) := AgC.rf.I (by decide)
      have e30 := (hX.at (q := 30) (by decide)).1
      have e33 := (hX.at (q := 33) (by decide)).1
      have e34 := (hX.at (q := 34) (by decide)).1
      have e35 := (hX.at (q := 35) (by decide)).2
      exact spI_c (k := k) (fun z => hN_setRate l sa ka va D cA α z S (nI i) (nI m) _ _ (fun z => ct_X10_setRate l D cA α 193 z (by decide) S un hw.cU hw.u4 i hi (nI m) ⟨m, hm0, hm, rfl⟩ N hw.cN hw.N100 M hw.cM hw.M100 t k hh.1.2.2.2.1 hh.1.2.1 hh.1.2.2.1 hh.1.1)) (fun z => ct_X11_setRate l D cA α 193 z (by decide) _ un (by rw [sJ_1, e33]; exact hw.rU) hw.u4 i hi m hm0 hm k (by rw [sJ_1, e30]; exact hh.1.2.2.2.2) hh.1.1) (AgR.rf.I (by decide)) (by rw [sJ_1, e34]; exact (hw.rate ⟨hi, by have := hw.u4; omega⟩).symm) (chg_rate h hh hi (nI_le hm0 (by omega)) _).rel
    · exact spI_x h 2 (by decide) (fun z => hX_setRate_IA l sa ka va D cA α z S (nI i) a2 (fun z => ct_X10_setRateY l hst sa D cA α 193 z (by decide) S un hw.cU hw.u4 i hi a2 e2)) (fun z => ct_X11_setRateY l D cA α 193 z (by decide) S un (by exact hw.rU) hw.u4 i hi a2 e2) (by first | exact Or.inl rfl | exact Or.inr rfl)
  · exact spI_x h 1 (by decide) (fun z => hX_setRate_IO l sa ka va D cA α z S a1 a2 (fun z => ct_X10_setRateX l hst sa D cA α 193 z (by decide) S un hw.cU hw.u4 a1 a2 e)) (fun z => ct_X11_setRateX l D cA α 193 z (by decide) S un (by exact hw.rU) hw.u4 a1 a2 e) (by first | exact Or.inl rfl | exact Or.inr rfl)

theorem sp_cancel (hst : l.stackTraces = false) (h : Rel S) (a1 : Int32) : SpL l sa ka va D cA α yL_cancel wsL_cancel ({ frames := 8, cells := 1, slots := 6, locals := 144 }) yX11_cancel wsX11_cancel ({ frames := 3, cells := 0, slots := 0, locals := 64 }) [.ref (α 0), .int a1, .ref (α 191)] [.ref (α 30), .int a1] S := by
  obtain ⟨un, cn, pn, N, M, h⟩ := h
  have hw := h.nw
  obtain ⟨k, t, nn, mm, hh⟩ := h.2.2.1
  by_cases e : ∃ i, i < N ∧ a1 = nI i
  · obtain ⟨i, hi, rfl⟩ := e
    by_cases hs : S.1 76 i = 0
    · have hX : AgC (cRem S t k N M) (setI (cRem S t k N M) 76 i (nI 4)) := AgC.rf.I (by decide)
      have e30 := (hX.at (q := 30) (by decide)).1
      have e33 := (hX.at (q := 33) (by decide)).1
      have e34 := (hX.at (q := 34) (by decide)).1
      have e35 := (hX.at (q := 35) (by decide)).2
      exact spL_c (k := k) (fun z => hN_cancel l sa ka va D cA α z S (nI i) _ _ (fun z => ct_X10_cancel l D cA α 193 z (by decide) S N hw.cN hw.N100 i hi hs (hw.oC hi) M hw.cM hw.M100 t k hh.1.2.2.2.1 hh.1.2.1 hh.1.2.2.1 hh.1.1)) (fun z => ct_X11_cancel l D cA α 193 z (by decide) _ N (by rw [sJ_1, e34]; exact hw.rN) hw.N100 i hi (by rw [sJ_1, e34, hw.e76 hi]; exact hs) (okR_of (hw.oR hi) (by rw [sJ_1, e34]) (by rw [sJ_1, e33])) k (by rw [sJ_1, e30]; exact hh.1.2.2.2.2) hh.1.1) (AgR.rf.I (by decide)) (by rw [rVal_of (S := S) (by rw [sJ_1, e34]) (by rw [sJ_1, e33]) (by rw [sJ_2 (by decide), e35])]; exact (hw.val hi).symm) (chg_cancel h hh hi (hs.trans nI_0.symm) _).rel
    · exact spL_x h 2 (by decide) (fun z => hX_cancel_IS l sa ka va D cA α z S (nI i) (fun z => ct_X10_cancelY l hst sa D cA α 193 z (by decide) S N hw.cN hw.N100 i hi hs)) (fun z => ct_X11_cancelY l D cA α 193 z (by decide) S N (by exact hw.rN) hw.N100 i hi (by rw [hw.e76 hi]; exact hs)) (by first | exact Or.inl rfl | exact Or.inr rfl)
  · exact spL_x h 1 (by decide) (fun z => hX_cancel_IO l sa ka va D cA α z S a1 (fun z => ct_X10_cancelX l hst sa D cA α 193 z (by decide) S N hw.cN hw.N100 a1 e)) (fun z => ct_X11_cancelX l D cA α 193 z (by decide) S N (by exact hw.rN) hw.N100 a1 e) (by first | exact Or.inl rfl | exact Or.inr rfl)

theorem sp_release (hst : l.stackTraces = false) (h : Rel S) (a1 : Int32) : SpI l sa ka va D cA α yL_release wsL_release ({ frames := 8, cells := 1, slots := 6, locals := 144 }) yX11_release wsX11_release ({ frames := 2, cells := 0, slots := 0, locals := 47 }) [.ref (α 0), .int a1, .ref (α 191)] [.ref (α 30), .int a1] S := by
  obtain ⟨un, cn, pn, N, M, h⟩ := h
  have hw := h.nw
  obtain ⟨k, t, nn, mm, hh⟩ := h.2.2.1
  by_cases e : ∃ i, i < N ∧ a1 = nI i
  · obtain ⟨i, hi, rfl⟩ := e
    by_cases hs : S.1 76 i = nI 1 ∨ S.1 76 i = nI 2
    · obtain ⟨b, hb, e1, e2, e3, e4⟩ := hw.pr hi (by rcases hs with z | z; exact Or.inl z; exact Or.inr (Or.inl z))
      have hib : i ≠ b := fun z => by subst z; exact e4 rfl
      have hb8 : b < 100 := Nat.lt_of_lt_of_le hb hw.N100
      have hX : AgC (cRem S t k N M) (cRel (cRem S t k N M) i b) := by unfold cRel; exact (((AgC.rf.I (by decide)).I (by decide)).I (by decide)).I (by decide)
      have e30 := (hX.at (q := 30) (by decide)).1
      have e33 := (hX.at (q := 33) (by decide)).1
      have e34 := (hX.at (q := 34) (by decide)).1
      have e35 := (hX.at (q := 35) (by decide)).2
      exact spI_c (k := k) (fun z => hN_release l sa ka va D cA α z S (nI i) _ _ (fun z => ct_X10_release l D cA α 193 z (by decide) S N hw.cN hw.N100 i hi hs b e1 hb8 M hw.cM hw.M100 t k hh.1.2.2.2.1 hh.1.2.1 hh.1.2.2.1 hh.1.1)) (fun z => ct_X11_release l D cA α 193 z (by decide) _ N (by rw [sJ_1, e34]; exact hw.rN) hw.N100 i hi (by rw [sJ_1, e34, hw.e76 hi]; exact hs) b (by rw [sJ_1, e34, hw.e77 hi]; exact e1) hb8 k (by rw [sJ_1, e30]; exact hh.1.2.2.2.2) hh.1.1) (by unfold rRel; exact (((AgR.rf.I (by decide)).I (by decide)).I (by decide)).I (by decide)) rfl (chg_release h hh hi hb e1 e2 hib _).rel
    · exact spI_x h 2 (by decide) (fun z => hX_release_IS l sa ka va D cA α z S (nI i) (fun z => ct_X10_releaseY l hst sa D cA α 193 z (by decide) S N hw.cN hw.N100 i hi (Or.inr ⟨fun z => hs (Or.inl z), fun z => hs (Or.inr z)⟩))) (fun z => ct_X11_releaseY l D cA α 193 z (by decide) S N (by exact hw.rN) hw.N100 i hi (by rw [hw.e76 hi]; exact fun z => hs (Or.inl z)) (by rw [hw.e76 hi]; exact fun z => hs (Or.inr z))) (by first | exact Or.inl rfl | exact Or.inr rfl)
  · exact spI_x h 1 (by decide) (fun z => hX_release_IO l sa ka va D cA α z S a1 (fun z => ct_X10_releaseX l hst sa D cA α 193 z (by decide) S N hw.cN hw.N100 a1 e)) (fun z => ct_X11_releaseX l D cA α 193 z (by decide) S N (by exact hw.rN) hw.N100 a1 e) (by first | exact Or.inl rfl | exact Or.inr rfl)

theorem sp_accept (hst : l.stackTraces = false) (h : Rel S) (a1 : Int32) : SpL l sa ka va D cA α yL_accept wsL_accept ({ frames := 8, cells := 1, slots := 6, locals := 145 }) yX11_accept wsX11_accept ({ frames := 3, cells := 0, slots := 0, locals := 64 }) [.ref (α 0), .int a1, .ref (α 191)] [.ref (α 30), .int a1] S := by
  obtain ⟨un, cn, pn, N, M, h⟩ := h
  have hw := h.nw
  obtain ⟨k, t, nn, mm, hh⟩ := h.2.2.1
  by_cases e : ∃ i, i < N ∧ a1 = nI i
  · obtain ⟨i, hi, rfl⟩ := e
    by_cases hs : S.1 76 i = nI 2
    · obtain ⟨b, hb, e1, e2, e3, e4⟩ := hw.pr hi (Or.inr (Or.inl hs))
      have hrt : nI 1 ≤ rRate S b := by rw [hw.rte hb]; exact hw.rt2 hb
      by_cases hv : 1 ≤ cAmt S i b ∧ cAmt S i b ≤ 1000000000
      · have hX : AgC (cRem S t k N M) (cAcc (cRem S t k N M) i b (cAmt S i b)) := by unfold cAcc cAc1; exact (((((AgC.rf.I (by decide)).I (by decide)).I (by decide)).I (by decide)).I (by decide)).J (by decide)
        have e30 := (hX.at (q := 30) (by decide)).1
        have e33 := (hX.at (q := 33) (by decide)).1
        have e34 := (hX.at (q := 34) (by decide)).1
        have e35 := (hX.at (q := 35) (by decide)).2
        have ea : rAmt (setJ (cAcc (cRem S t k N M) i b (cAmt S i b)) 191 0 (cAmt S i b)) i b = cAmt S i b := by
          unfold rAmt
          rw [rVal_of (S := S) (by rw [sJ_1, e34]) (by rw [sJ_1, e33]) (by rw [sJ_2 (by decide), e35]), rRate_of (S := S) (by rw [sJ_1, e34]) (by rw [sJ_1, e33])]
          exact hw.amtE hi hb
        have hR : ∀ z, CtL l yX11_accept wsX11_accept ({ frames := 3, cells := 0, slots := 0, locals := 64 }) D cA α 193 z [.ref (α 30), .int (nI i)] (setJ (cAcc (cRem S t k N M) i b (cAmt S i b)) 191 0 (cAmt S i b)) (cAmt S i b) (rAcc (K0 (setJ (cAcc (cRem S t k N M) i b (cAmt S i b)) 191 0 (cAmt S i b)) k) i b (cAmt S i b)) := fun z => by
          have := ct_X11_accept l D cA α 193 z (by decide) (setJ (cAcc (cRem S t k N M) i b (cAmt S i b)) 191 0 (cAmt S i b)) N (by rw [sJ_1, e34]; exact hw.rN) hw.N100 i hi (by rw [sJ_1, e34, hw.e76 hi]; exact hs) b (by rw [sJ_1, e34, hw.e77 hi]; exact e1) (okR_of (hw.oR hi) (by rw [sJ_1, e34]) (by rw [sJ_1, e33])) (okR_of (hw.oR hb) (by rw [sJ_1, e34]) (by rw [sJ_1, e33])) (by rw [rRate_of (S := S) (by rw [sJ_1, e34]) (by rw [sJ_1, e33])]; exact hrt) (by rw [ea]; exact hv.1) (by rw [ea]; exact hv.2) k (by rw [sJ_1, e30]; exact hh.1.2.2.2.2) hh.1.1
          rw [ea, setI_twice] at this
          exact this
        exact spL_c (k := k) (fun z => hN_accept l sa ka va D cA α z S (nI i) _ _ (fun z => ct_X10_accept l D cA α 193 z (by decide) S N hw.cN hw.N100 i hi hs b e1 (hw.oC hi) (hw.oC hb) hv.1 hv.2 M hw.cM hw.M100 t k hh.1.2.2.2.1 hh.1.2.1 hh.1.2.2.1 hh.1.1)) hR (by unfold rAcc rAc1; exact (((AgR.rf.J (by decide)).I (by decide)).I (by decide)).J (by decide)) rfl (chg_accept h hh hi hb hs e1 e2 e3 e4 hv.1 hv.2 _).rel
      · exact spL_x h 2 (by decide) (fun z => hX_accept_IS l sa ka va D cA α z S (nI i) (fun z => ct_X10_acceptZ l hst sa D cA α 193 z (by decide) S N hw.cN hw.N100 i hi hs b e1 (hw.oC hi) (hw.oC hb) hv)) (fun z => ct_X11_acceptZ l D cA α 193 z (by decide) S N (by exact hw.rN) hw.N100 i hi (by rw [hw.e76 hi]; exact hs) b (by rw [hw.e77 hi]; exact e1) (hw.oR hi) (hw.oR hb) hrt (by rw [hw.amtE hi hb]; exact hv)) (by first | exact Or.inl rfl | exact Or.inr rfl)
    · exact spL_x h 2 (by decide) (fun z => hX_accept_IS l sa ka va D cA α z S (nI i) (fun z => ct_X10_acceptY l hst sa D cA α 193 z (by decide) S N hw.cN hw.N100 i hi (Or.inr hs))) (fun z => ct_X11_acceptY l D cA α 193 z (by decide) S N (by exact hw.rN) hw.N100 i hi (by rw [hw.e76 hi]; exact hs)) (by first | exact Or.inl rfl | exact Or.inr rfl)
  · exact spL_x h 1 (by decide) (fun z => hX_accept_IO l sa ka va D cA α z S a1 (fun z => ct_X10_acceptX l hst sa D cA α 193 z (by decide) S N hw.cN hw.N100 a1 e)) (fun z => ct_X11_acceptX l D cA α 193 z (by decide) S N (by exact hw.rN) hw.N100 a1 e) (by first | exact Or.inl rfl | exact Or.inr rfl)

theorem sp_book (hst : l.stackTraces = false) (h : Rel S) (a1 a2 a3 a4 a5 : Int32) : SpI l sa ka va D cA α yL_book wsL_book ({ frames := 8, cells := 1, slots := 6, locals := 148 }) yX11_book wsX11_book ({ frames := 3, cells := 0, slots := 0, locals := 64 }) [.ref (α 0), .int a1, .int a2, .int a3, .int a4, .int a5, .ref (α 191)] [.ref (α 30), .int a1, .int a2, .int a3, .int a4, .int a5] S := by
  obtain ⟨un, cn, pn, N, M, h⟩ := h
  have hw := h.nw
  obtain ⟨k, t, nn, mm, hh⟩ := h.2.2.1
  by_cases c1 : ∃ i, i < cn ∧ a1 = nI i
  · obtain ⟨a, ha, rfl⟩ := c1
    by_cases c2 : ∃ i, i < cn ∧ a2 = nI i
    · obtain ⟨b, hb, rfl⟩ := c2
      by_cases hab : a = b
      · subst hab
        exact spI_x h 2 (by decide) (fun z => hX_book_IA l sa ka va D cA α z S (nI a) (nI a) a3 a4 a5 (fun z => ct_X10_bookY l hst sa D cA α 193 z (by decide) S cn hw.cC hw.c6 a ha a3 a4 a5)) (fun z => ct_X11_bookY l D cA α 193 z (by decide) S cn (by exact hw.rC) hw.c6 a a ha ha a3 a4 a5 (Or.inl rfl)) (by first | exact Or.inl rfl | exact Or.inr rfl)
      · by_cases h1 : ∃ i, 0 ≤ i ∧ i ≤ 1 ∧ a3 = nI i
        · by_cases h2 : ∃ i, 0 ≤ i ∧ i ≤ 999 ∧ a4 = nI i
          · by_cases h3 : ∃ i, 1 ≤ i ∧ i ≤ 1000000 ∧ a5 = nI i
            · by_cases hN9 : N < 100
              · have hX : AgC (cRem S t k N M) (cBk (cRem S t k N M) N (nI a) (nI b) a3 a4 a5) := by unfold cBk cOpen cOpen1 cBk1; exact ((((((((AgC.rf.I (by decide)).I (by decide)).I (by decide)).I (by decide)).I (by decide)).I (by decide)).I (by decide)).J (by decide)).I (by decide)
                have e30 := (hX.at (q := 30) (by decide)).1
                have e33 := (hX.at (q := 33) (by decide)).1
                have e34 := (hX.at (q := 34) (by decide)).1
                have e35 := (hX.at (q := 35) (by decide)).2
                have hsd : a3 = nI 0 ∨ a3 = nI 1 := by
                  obtain ⟨i, -, hi, rfl⟩ := h1
                  rcases (show i = 0 ∨ i = 1 by omega) with rfl | rfl
                  · exact Or.inl rfl
                  · exact Or.inr rfl
                exact spI_c (k := k) (fun z => hN_book l sa ka va D cA α z S (nI a) (nI b) a3 a4 a5 _ _ (fun z => ct_X10_book l D cA α 193 z (by decide) S cn hw.cC hw.c6 a b ha hb hab a3 a4 a5 h1 h2 h3 N hw.cN hN9 (okI_le (hw.1.2.1 a ha).2 hw.u4) M hw.cM hw.M100 t k hh.1.2.2.2.1 hh.1.2.1 hh.1.2.2.1 hh.1.1)) (fun z => ct_X11_book l D cA α 193 z (by decide) _ cn (by rw [sJ_1, e33]; exact hw.rC) hw.c6 a b ha hb hab a3 a4 a5 h1 h2 h3 N (by rw [sJ_1, e34]; exact hw.rN) hN9 (by rw [sJ_1, e33, (hw.1.2.1 a ha).1]; exact okI_le (hw.1.2.1 a ha).2 hw.u4) k (by rw [sJ_1, e30]; exact hh.1.2.2.2.2) hh.1.1) (by unfold rBk rBk2 rBk1; exact ((((((((AgR.rf.I (by decide)).I (by decide)).I (by decide)).I (by decide)).I (by decide)).I (by decide)).I (by decide)).J (by decide)).J (by decide)) rfl (chg_book h hh hN9 ha hb hab hsd _).rel
              · have h100 : N = 100 := Nat.le_antisymm hw.N100 (Nat.le_of_not_lt hN9)
                subst h100
                exact spI_x h 3 (by decide) (fun z => hX_book_IS l sa ka va D cA α z S (nI a) (nI b) a3 a4 a5 (fun z => ct_X10_bookZ l hst sa D cA α 193 z (by decide) S cn hw.cC hw.c6 a b ha hb hab a3 a4 a5 h1 h2 h3 hw.cN)) (fun z => ct_X11_bookZ l D cA α 193 z (by decide) S cn (by exact hw.rC) hw.c6 a b ha hb hab a3 a4 a5 h1 h2 h3 hw.rN) (by first | exact Or.inl rfl | exact Or.inr rfl)
            · exact spI_x h 2 (by decide) (fun z => hX_book_IA l sa ka va D cA α z S (nI a) (nI b) a3 a4 a5 (fun z => ct_X10_bookY3 l hst sa D cA α 193 z (by decide) S cn hw.cC hw.c6 a b ha hb hab a3 a4 a5 h1 h2 h3)) (fun z => ct_X11_bookY l D cA α 193 z (by decide) S cn (by exact hw.rC) hw.c6 a b ha hb a3 a4 a5 (Or.inr (Or.inr (Or.inr h3)))) (by first | exact Or.inl rfl | exact Or.inr rfl)
          · exact spI_x h 2 (by decide) (fun z => hX_book_IA l sa ka va D cA α z S (nI a) (nI b) a3 a4 a5 (fun z => ct_X10_bookY2 l hst sa D cA α 193 z (by decide) S cn hw.cC hw.c6 a b ha hb hab a3 a4 a5 h1 h2)) (fun z => ct_X11_bookY l D cA α 193 z (by decide) S cn (by exact hw.rC) hw.c6 a b ha hb a3 a4 a5 (Or.inr (Or.inr (Or.inl h2)))) (by first | exact Or.inl rfl | exact Or.inr rfl)
        · exact spI_x h 2 (by decide) (fun z => hX_book_IA l sa ka va D cA α z S (nI a) (nI b) a3 a4 a5 (fun z => ct_X10_bookY1 l hst sa D cA α 193 z (by decide) S cn hw.cC hw.c6 a b ha hb hab a3 a4 a5 h1)) (fun z => ct_X11_bookY l D cA α 193 z (by decide) S cn (by exact hw.rC) hw.c6 a b ha hb a3 a4 a5 (Or.inr (Or.inl h1))) (by first | exact Or.inl rfl | exact Or.inr rfl)
    · exact spI_x h 1 (by decide) (fun z => hX_book_IO l sa ka va D cA α z S (nI a) a2 a3 a4 a5 (fun z => ct_X10_bookX2 l hst sa D cA α 193 z (by decide) S cn hw.cC hw.c6 a ha a2 c2 a3 a4 a5)) (fun z => ct_X11_bookX l D cA α 193 z (by decide) S cn (by exact hw.rC) hw.c6 (nI a) a2 a3 a4 a5 (Or.inr c2)) (by first | exact Or.inl rfl | exact Or.inr rfl)
  · exact spI_x h 1 (by decide) (fun z => hX_book_IO l sa ka va D cA α z S a1 a2 a3 a4 a5 (fun z => ct_X10_bookX l hst sa D cA α 193 z (by decide) S cn hw.cC hw.c6 a1 a2 c1 a3 a4 a5)) (fun z => ct_X11_bookX l D cA α 193 z (by decide) S cn (by exact hw.rC) hw.c6 a1 a2 a3 a4 a5 (Or.inl c1)) (by first | exact Or.inl rfl | exact Or.inr rfl)

theorem sp_net (hst : l.stackTraces = false) (h : Rel S) : SpI l sa ka va D cA α yL_net wsL_net ({ frames := 7, cells := 1, slots := 6, locals := 122 }) yX11_net wsX11_net ({ frames := 4, cells := 0, slots := 0, locals := 88 }) [.ref (α 0), .ref (α 191)] [.ref (α 30)] S := by
  obtain ⟨un, cn, pn, N, M, h⟩ := h
  have hw := h.nw
  obtain ⟨k, t, nn, mm, hh⟩ := h.2.2.1
  have hcn : cnt (fun j => rIs S j (nI 0) (nI 1)) N = cnt (fun j => cIs S j (nI 0) (nI 1)) N := cnt_congr (fun j hj => hw.is_ hj _ _)
  by_cases hv : cnt (fun j => cIs S j (nI 0) (nI 1)) N = 0
  · exact spI_x h 1 (by decide) (fun z => hX_net_IS l sa ka va D cA α z S  (fun z => ct_X10_netX l hst sa D cA α 193 z (by decide) S N hw.cN hw.N100 hv)) (fun z => ct_X11_netX l D cA α 193 z (by decide) S N (by exact hw.rN) hw.N100 (hcn.trans hv)) (by first | exact Or.inl rfl | exact Or.inr rfl)
  · have hX : AgC (cRem S t k N M) (cSet (cNt0 (cRem S t k N M) N) N cn) := fun q c1 c2 c3 c4 c5 => by
      unfold cSet cSet1
      rw [sJ_1, sL_1, sJ_2 (by omega), sL_2 (by omega), cStl_k _ (by omega), cStl_2 _ (by omega) (by omega)]
      unfold cNt0
      rw [sL_1, sL_2 c2]
      exact ⟨rfl, rfl⟩
    have e30 := (hX.at (q := 30) (by decide)).1
    have e33 := (hX.at (q := 33) (by decide)).1
    have e34 := (hX.at (q := 34) (by decide)).1
    have e35 := (hX.at (q := 35) (by decide)).2
    obtain ⟨r1, r2⟩ := chg_net h hh (X := setJ (cSet (cNt0 (cRem S t k N M) N) N cn) 191 0 ((nI (cnt (cPay (cNt0 (cRem S t k N M) N)) cn)).toInt64)) rfl
    have hrs : ∀ j, rIs (setJ (cSet (cNt0 (cRem S t k N M) N) N cn) 191 0 ((nI (cnt (cPay (cNt0 (cRem S t k N M) N)) cn)).toInt64)) j (nI 0) (nI 1) = rIs S j (nI 0) (nI 1) := fun j => by unfold rIs; rw [sJ_1, e34]
    have hA : AgR (K0 (setJ (cSet (cNt0 (cRem S t k N M) N) N cn) 191 0 ((nI (cnt (cPay (cNt0 (cRem S t k N M) N)) cn)).toInt64)) k) (rNt (rN2 (setJ (cSet (cNt0 (cRem S t k N M) N) N cn) 191 0 ((nI (cnt (cPay (cNt0 (cRem S t k N M) N)) cn)).toInt64)) k N cn) N) := fun q c1 c2 c3 => by
      rw [rNt_k _ c1, rNt_2 _ c2]
      unfold rN2 rN1
      rw [sJ_1, sL_1, sJ_2 c2, sL_2 c2]
      exact ⟨rfl, rfl⟩
    exact spI_c (k := k) (fun z => hN_net l sa ka va D cA α z S  _ _ (fun z => ct_X10_net l D cA α 193 z (by decide) S cn hw.cC hw.c6 N hw.cN hw.N100 (fun j hj => hw.oC hj) (fun j hj => okI_le (hw.it hj).2.2.1 hw.c6) hv M hw.cM hw.M100 t k hh.1.2.2.2.1 hh.1.2.1 hh.1.2.2.1 hh.1.1)) (fun z => ct_X11_net l D cA α 193 z (by decide) _ cn (by rw [sJ_1, e33]; exact hw.rC) hw.c6 N (by rw [sJ_1, e34]; exact hw.rN) hw.N100 (fun j hj => (okR_of (hw.oR hj) (by rw [sJ_1, e34]) (by rw [sJ_1, e33]))) (fun z => hv (hcn.symm.trans ((cnt_congr (fun j _ => (hrs j).symm)).trans z))) (fun i hi h1 => by rw [hrs i, hw.is_ hi] at h1; unfold cIs at h1; have h76 := of_decide_eq_true ((Bool.and_eq_true _ _).mp h1).2; obtain ⟨p1, -, -, -, p5⟩ := hw.prm hi h76; rw [sJ_1, e34, hw.e77 hi]; exact ⟨p5, okR_of (hw.oR p1) (by rw [sJ_1, e34]) (by rw [sJ_1, e33])⟩) k (by rw [sJ_1, e30]; exact hh.1.2.2.2.2) hh.1.1) hA (by rw [r2]) r1.rel

theorem sp_sell (hst : l.stackTraces = false) (h : Rel S) (a1 a2 a3 a4 : Int32) : SpL l sa ka va D cA α yL_sell wsL_sell ({ frames := 8, cells := 1, slots := 6, locals := 149 }) yX11_sell wsX11_sell ({ frames := 4, cells := 0, slots := 0, locals := 92 }) [.ref (α 0), .int a1, .int a2, .int a3, .int a4, .ref (α 191)] [.ref (α 30), .int a1, .int a2, .int a3, .int a4] S := by
  obtain ⟨un, cn, pn, N, M, h⟩ := h
  have hw := h.nw
  obtain ⟨k, t, nn, mm, hh⟩ := h.2.2.1
  by_cases c1 : ∃ i, i < cn ∧ a1 = nI i
  · obtain ⟨a, ha, rfl⟩ := c1
    by_cases c2 : ∃ i, i < pn ∧ a2 = nI i
    · obtain ⟨b, hb, rfl⟩ := c2
      by_cases h1 : ∃ i, 1 ≤ i ∧ i ≤ 9999 ∧ a3 = nI i
      · by_cases h2 : ∃ i, 1 ≤ i ∧ i ≤ 99999 ∧ a4 = nI i
        · cases hct : cCan S (nI a) b a3 M with
          | true =>
            have hq : 0 ≤ a3 := by obtain ⟨i, -, hi, rfl⟩ := h1; exact nI_pos' (by omega)
            have hX : AgC (cRem S t k N M) (cSel ((cTk (cRem S t k N M) (nI a) (nI b) a3 M).1) (cIts S b a3 a4)) := fun q d1 d2 d3 d4 d5 => by
              unfold cSel; rw [sJ_1, sJ_2 (by omega), cTk_k _ _ _ _ (by omega), cTk_2]; exact ⟨rfl, rfl⟩
            have e30 := (hX.at (q := 30) (by decide)).1
            have e33 := (hX.at (q := 33) (by decide)).1
            have e34 := (hX.at (q := 34) (by decide)).1
            have e35 := (hX.at (q := 35) (by decide)).2
            have ei : rIts (setJ (cSel ((cTk (cRem S t k N M) (nI a) (nI b) a3 M).1) (cIts S b a3 a4)) 191 0 (cIts S b a3 a4)) b a3 a4 = cIts S b a3 a4 := (rIts_of (by rw [sJ_1, e33])).trans (hw.itsE hb _ _)
            have ec : rCan2 (setJ (cSel ((cTk (cRem S t k N M) (nI a) (nI b) a3 M).1) (cIts S b a3 a4)) 191 0 (cIts S b a3 a4)) (nI a) b a3 (lts S M) = true := (rCan2_of (by rw [sJ_1, e33]) (by rw [sJ_1, e34])).trans ((hw.canE (nI a) hb a3).trans hct)
            have hR : ∀ z, CtL l yX11_sell wsX11_sell ({ frames := 4, cells := 0, slots := 0, locals := 92 }) D cA α 193 z [.ref (α 30), .int (nI a), .int (nI b), .int a3, .int a4] (setJ (cSel ((cTk (cRem S t k N M) (nI a) (nI b) a3 M).1) (cIts S b a3 a4)) 191 0 (cIts S b a3 a4)) (cIts S b a3 a4) (rSel (rTak (K0 (setJ (cSel ((cTk (cRem S t k N M) (nI a) (nI b) a3 M).1) (cIts S b a3 a4)) 191 0 (cIts S b a3 a4)) k) (nI a) b a3 (lts S M)) (cIts S b a3 a4)) := fun z => by
              have := ct_X11_sell l D cA α 193 z (by decide) (setJ (cSel ((cTk (cRem S t k N M) (nI a) (nI b) a3 M).1) (cIts S b a3 a4)) 191 0 (cIts S b a3 a4)) cn (by rw [sJ_1, e33]; exact hw.rC) hw.c6 pn (by rw [sJ_1, e33]; exact hw.rP) hw.p6 a b ha hb a3 a4 h1 h2 (lts S M) (by rw [sJ_1, e34]; exact hw.rL) hw.L100 ec k (by rw [sJ_1, e30]; exact hh.1.2.2.2.2) hh.1.1
              rw [ei] at this
              exact this
            exact spL_c (k := k) (fun z => hN_sell l sa ka va D cA α z S (nI a) (nI b) a3 a4 _ _ (fun z => ct_X10_sell l D cA α 193 z (by decide) S cn hw.cC hw.c6 pn hw.cP hw.p6 a b ha hb a3 a4 h1 h2 N hw.cN hw.N100 M hw.cM hw.M100 hct t k hh.1.2.2.2.1 hh.1.2.1 hh.1.2.2.1 hh.1.1)) hR (fun z d1 d2 d3 => by unfold rSel; rw [sJ_1, sJ_2 d2, rTak_k _ _ _ _ _ d1, rTak_2]; exact ⟨rfl, rfl⟩) rfl (chg_sell h hh hb hq _ _).rel
          | false =>
            exact spL_x h 3 (by decide) (fun z => hX_sell_IS l sa ka va D cA α z S (nI a) (nI b) a3 a4 (fun z => ct_X10_sellZ l hst sa D cA α 193 z (by decide) S cn hw.cC hw.c6 pn hw.cP hw.p6 a b ha hb a3 a4 h1 h2 M hw.cM hw.M100 hct)) (fun z => ct_X11_sellZ l D cA α 193 z (by decide) S cn (by exact hw.rC) hw.c6 pn (by exact hw.rP) hw.p6 a b ha hb a3 a4 h1 h2 (lts S M) (by exact hw.rL) hw.L100 (by exact (hw.canE (nI a) hb a3).trans hct)) (by first | exact Or.inl rfl | exact Or.inr rfl)
        · exact spL_x h 2 (by decide) (fun z => hX_sell_IA l sa ka va D cA α z S (nI a) (nI b) a3 a4 (fun z => ct_X10_sellY2 l hst sa D cA α 193 z (by decide) S cn hw.cC hw.c6 pn hw.cP hw.p6 a b ha hb a3 a4 h1 h2)) (fun z => ct_X11_sellY l D cA α 193 z (by decide) S cn (by exact hw.rC) hw.c6 pn (by exact hw.rP) hw.p6 a b ha hb a3 a4 (Or.inr h2)) (by first | exact Or.inl rfl | exact Or.inr rfl)
      · exact spL_x h 2 (by decide) (fun z => hX_sell_IA l sa ka va D cA α z S (nI a) (nI b) a3 a4 (fun z => ct_X10_sellY1 l hst sa D cA α 193 z (by decide) S cn hw.cC hw.c6 pn hw.cP hw.p6 a b ha hb a3 a4 h1)) (fun z => ct_X11_sellY l D cA α 193 z (by decide) S cn (by exact hw.rC) hw.c6 pn (by exact hw.rP) hw.p6 a b ha hb a3 a4 (Or.inl h1)) (by first | exact Or.inl rfl | exact Or.inr rfl)
    · exact spL_x h 1 (by decide) (fun z => hX_sell_IO l sa ka va D cA α z S (nI a) a2 a3 a4 (fun z => ct_X10_sellX2 l hst sa D cA α 193 z (by decide) S cn hw.cC hw.c6 pn hw.cP hw.p6 a ha a2 c2 a3 a4)) (fun z => ct_X11_sellX l D cA α 193 z (by decide) S cn (by exact hw.rC) hw.c6 pn (by exact hw.rP) hw.p6 (nI a) a2 (Or.inr c2) a3 a4) (by first | exact Or.inl rfl | exact Or.inr rfl)
  · exact spL_x h 1 (by decide) (fun z => hX_sell_IO l sa ka va D cA α z S a1 a2 a3 a4 (fun z => ct_X10_sellX l hst sa D cA α 193 z (by decide) S cn hw.cC hw.c6 a1 a2 c1 a3 a4)) (fun z => ct_X11_sellX l D cA α 193 z (by decide) S cn (by exact hw.rC) hw.c6 pn (by exact hw.rP) hw.p6 a1 a2 (Or.inl c1) a3 a4) (by first | exact Or.inl rfl | exact Or.inr rfl)

theorem sp_deliver (hst : l.stackTraces = false) (h : Rel S) (a1 a2 a3 a4 a5 : Int32) : SpI l sa ka va D cA α yL_deliver wsL_deliver ({ frames := 8, cells := 1, slots := 6, locals := 149 }) yX11_deliver wsX11_deliver ({ frames := 4, cells := 0, slots := 0, locals := 92 }) [.ref (α 0), .int a1, .int a2, .int a3, .int a4, .int a5, .ref (α 191)] [.ref (α 30), .int a1, .int a2, .int a3, .int a4, .int a5] S := by
  obtain ⟨un, cn, pn, N, M, h⟩ := h
  have hw := h.nw
  obtain ⟨k, t, nn, mm, hh⟩ := h.2.2.1
  by_cases c1 : ∃ i, i < pn ∧ a1 = nI i
  · obtain ⟨b, hb, rfl⟩ := c1
    by_cases c2 : ∃ i, i < cn ∧ a2 = nI i
    · obtain ⟨a, ha, rfl⟩ := c2
      by_cases c3 : ∃ i, i < cn ∧ a3 = nI i
      · obtain ⟨c0, hc0, rfl⟩ := c3
        have emk : S.1 33 (16 + b) = S.1 26 b := (hw.1.2.2 b hb).1
        by_cases hac : a = c0 ∨ S.1 26 b = nI c0
        · exact spI_x h 2 (by decide) (fun z => hX_deliver_IA l sa ka va D cA α z S (nI b) (nI a) (nI c0) a4 a5 (fun z => ct_X10_deliverY l hst sa D cA α 193 z (by decide) S cn hw.cC hw.c6 pn hw.cP hw.p6 a b c0 ha hb hc0 hac a4 a5)) (fun z => ct_X11_deliverY l D cA α 193 z (by decide) S cn (by exact hw.rC) hw.c6 pn (by exact hw.rP) hw.p6 a b c0 ha hb hc0 a4 a5 (by rw [emk]; rcases hac with z | z; exact Or.inl z; exact Or.inr (Or.inl z))) (by first | exact Or.inl rfl | exact Or.inr rfl)
        · have hac1 : a ≠ c0 := fun z => hac (Or.inl z)
          have hmk : ¬ S.1 26 b = nI c0 := fun z => hac (Or.inr z)
          by_cases h1 : ∃ i, 1 ≤ i ∧ i ≤ 999 ∧ a4 = nI i
          · by_cases h2 : ∃ i, 1 ≤ i ∧ i ≤ 99999 ∧ a5 = nI i
            · cases hct : cCan S (nI a) b a4 M with
              | true =>
                by_cases hM9 : M < 100
                · have hq : nI 1 ≤ a4 := by obtain ⟨i, hi1, hi, rfl⟩ := h1; exact nI_le hi1 (by omega)
                  have hX : AgC (cRem S t k N M) (cDl (cRem S t k N M) (nI a) (nI b) (nI c0) a4 a5 M) := fun q d1 d2 d3 d4 d5 => by
                    unfold cDl; rw [sI_1 (by omega), sI_1 (by omega), sI_1 (by omega), sI_1 (by omega), sI_1 (by omega), sI_1 (by omega), sI_1 (by omega), sI_2, sI_2, sI_2, sI_2, sI_2, sI_2, sI_2, cTk_k _ _ _ _ (by omega), cTk_2]; exact ⟨rfl, rfl⟩
                  have e30 := (hX.at (q := 30) (by decide)).1
                  have e33 := (hX.at (q := 33) (by decide)).1
                  have e34 := (hX.at (q := 34) (by decide)).1
                  have e35 := (hX.at (q := 35) (by decide)).2
                  have ec : rCan2 (setJ (cDl (cRem S t k N M) (nI a) (nI b) (nI c0) a4 a5 M) 191 0 (nI M).toInt64) (nI a) b a4 (lts S M) = true := (rCan2_of (by rw [sJ_1, e33]) (by rw [sJ_1, e34])).trans ((hw.canE (nI a) hb a4).trans hct)
                  exact spI_c (k := k) (fun z => hN_deliver l sa ka va D cA α z S (nI b) (nI a) (nI c0) a4 a5 _ _ (fun z => ct_X10_deliver l D cA α 193 z (by decide) S cn hw.cC hw.c6 pn hw.cP hw.p6 a b c0 ha hb hc0 hac1 hmk a4 a5 h1 h2 N hw.cN hw.N100 M hw.cM hM9 hct t k hh.1.2.2.2.1 hh.1.2.1 hh.1.2.2.1 hh.1.1)) (fun z => ct_X11_deliver l D cA α 193 z (by decide) _ cn (by rw [sJ_1, e33]; exact hw.rC) hw.c6 pn (by rw [sJ_1, e33]; exact hw.rP) hw.p6 a b c0 ha hb hc0 hac1 (by rw [sJ_1, e33, emk]; exact hmk) a4 a5 h1 h2 (lts S M) (by rw [sJ_1, e34]; exact hw.rL) hw.L100 M (by rw [sJ_1, e34]; exact hw.rM) hM9 ec k (by rw [sJ_1, e30]; exact hh.1.2.2.2.2) hh.1.1) (fun z d1 d2 d3 => by unfold rDl rDl2 rDl1; rw [sI_1 d1, sI_1 d1, sI_1 d1, sI_1 d1, sI_1 d1, sI_1 d1, sI_1 d1, sI_1 d1, sI_1 d1, sI_1 d1, sI_1 d1, sI_2, sI_2, sI_2, sI_2, sI_2, sI_2, sI_2, sI_2, sI_2, sI_2, sI_2, rTak_k _ _ _ _ _ d1, rTak_2]; exact ⟨rfl, rfl⟩) rfl (chg_deliver h hh hM9 hb hq hmk _).rel
                · have h100 : M = 100 := Nat.le_antisymm hw.M100 (Nat.le_of_not_lt hM9)
                  exact spI_x h 3 (by decide) (fun z => hX_deliver_IS l sa ka va D cA α z S (nI b) (nI a) (nI c0) a4 a5 (fun z => ct_X10_deliverZ1 l hst sa D cA α 193 z (by decide) S cn hw.cC hw.c6 pn hw.cP hw.p6 a b c0 ha hb hc0 hac1 hmk a4 a5 h1 h2 M hw.cM h100 hct)) (fun z => ct_X11_deliverZ l D cA α 193 z (by decide) S cn (by exact hw.rC) hw.c6 pn (by exact hw.rP) hw.p6 a b c0 ha hb hc0 hac1 (by rw [emk]; exact hmk) a4 a5 h1 h2 (lts S M) (by exact hw.rL) hw.L100 M (by exact hw.rM) hw.M100 (Or.inr h100)) (by first | exact Or.inl rfl | exact Or.inr rfl)
              | false =>
                exact spI_x h 3 (by decide) (fun z => hX_deliver_IS l sa ka va D cA α z S (nI b) (nI a) (nI c0) a4 a5 (fun z => ct_X10_deliverZ l hst sa D cA α 193 z (by decide) S cn hw.cC hw.c6 pn hw.cP hw.p6 a b c0 ha hb hc0 hac1 hmk a4 a5 h1 h2 M hw.cM hw.M100 hct)) (fun z => ct_X11_deliverZ l D cA α 193 z (by decide) S cn (by exact hw.rC) hw.c6 pn (by exact hw.rP) hw.p6 a b c0 ha hb hc0 hac1 (by rw [emk]; exact hmk) a4 a5 h1 h2 (lts S M) (by exact hw.rL) hw.L100 M (by exact hw.rM) hw.M100 (Or.inl (by exact (hw.canE (nI a) hb a4).trans hct))) (by first | exact Or.inl rfl | exact Or.inr rfl)
            · exact spI_x h 2 (by decide) (fun z => hX_deliver_IA l sa ka va D cA α z S (nI b) (nI a) (nI c0) a4 a5 (fun z => ct_X10_deliverY2 l hst sa D cA α 193 z (by decide) S cn hw.cC hw.c6 pn hw.cP hw.p6 a b c0 ha hb hc0 hac1 hmk a4 a5 h1 h2)) (fun z => ct_X11_deliverY l D cA α 193 z (by decide) S cn (by exact hw.rC) hw.c6 pn (by exact hw.rP) hw.p6 a b c0 ha hb hc0 a4 a5 (Or.inr (Or.inr (Or.inr h2)))) (by first | exact Or.inl rfl | exact Or.inr rfl)
          · exact spI_x h 2 (by decide) (fun z => hX_deliver_IA l sa ka va D cA α z S (nI b) (nI a) (nI c0) a4 a5 (fun z => ct_X10_deliverY1 l hst sa D cA α 193 z (by decide) S cn hw.cC hw.c6 pn hw.cP hw.p6 a b c0 ha hb hc0 hac1 hmk a4 a5 h1)) (fun z => ct_X11_deliverY l D cA α 193 z (by decide) S cn (by exact hw.rC) hw.c6 pn (by exact hw.rP) hw.p6 a b c0 ha hb hc0 a4 a5 (Or.inr (Or.inr (Or.inl h1)))) (by first | exact Or.inl rfl | exact Or.inr rfl)
      · exact spI_x h 1 (by decide) (fun z => hX_deliver_IO l sa ka va D cA α z S (nI b) (nI a) a3 a4 a5 (fun z => ct_X10_deliverX3 l hst sa D cA α 193 z (by decide) S cn hw.cC hw.c6 pn hw.cP hw.p6 a b ha hb a3 a4 a5 c3)) (fun z => ct_X11_deliverX l D cA α 193 z (by decide) S cn (by exact hw.rC) hw.c6 pn (by exact hw.rP) hw.p6 (nI a) (nI b) a3 a4 a5 (Or.inr c3)) (by first | exact Or.inl rfl | exact Or.inr rfl)
    · exact spI_x h 1 (by decide) (fun z => hX_deliver_IO l sa ka va D cA α z S (nI b) a2 a3 a4 a5 (fun z => ct_X10_deliverX2 l hst sa D cA α 193 z (by decide) S cn hw.cC hw.c6 pn hw.cP hw.p6 b hb a2 a3 a4 a5 c2)) (fun z => ct_X11_deliverX l D cA α 193 z (by decide) S cn (by exact hw.rC) hw.c6 pn (by exact hw.rP) hw.p6 a2 (nI b) a3 a4 a5 (Or.inl (Or.inl c2))) (by first | exact Or.inl rfl | exact Or.inr rfl)
  · exact spI_x h 1 (by decide) (fun z => hX_deliver_IO l sa ka va D cA α z S a1 a2 a3 a4 a5 (fun z => ct_X10_deliverX l hst sa D cA α 193 z (by decide) S pn hw.cP hw.p6 a1 a2 a3 a4 a5 c1)) (fun z => ct_X11_deliverX l D cA α 193 z (by decide) S cn (by exact hw.rC) hw.c6 pn (by exact hw.rP) hw.p6 a2 a1 a3 a4 a5 (Or.inl (Or.inr c1))) (by first | exact Or.inl rfl | exact Or.inr rfl)

theorem sp_parse (hst : l.stackTraces = false) (h : Rel S) (a1 : Int32) : SpE l sa ka va D cA α yL_parse wsL_parse ({ frames := 10, cells := 1, slots := 6, locals := 213 }) yX11_parse wsX11_parse ({ frames := 8, cells := 0, slots := 0, locals := 169 }) [.ref (α 0), .int a1, .ref (α 191)] [.ref (α 30), .int a1] S := by
  obtain ⟨un, cn, pn, N, M, h⟩ := h
  have hw := h.nw
  obtain ⟨F, f1, f2, f3, f4, f5⟩ := h.2.2.2.2.2
  by_cases e : ∃ i, 0 ≤ i ∧ i ≤ F ∧ a1 = nI i
  · obtain ⟨n, -, hn, rfl⟩ := e
    have h600 : n ≤ 600 := Nat.le_trans hn f1
    by_cases hv : (cRun (cIn0 S n) 600).1 1 7 = 0
    · have w31 : (setJ (cPb S n) 191 0 ((cPb S n).1 23 1).toInt64).1 31 = S.1 31 := by rw [sJ_1, cPb_o S n (by decide) (by decide) (by decide) (by decide) (by decide) (by decide) (by decide)]
      rcases parse_sim (S := S) (W := (setJ (cPb S n) 191 0 ((cPb S n).1 23 1).toInt64)) h600 (fun k hk => by rw [w31]; exact f4 k (Nat.lt_of_lt_of_le hk hn)) (okB_of f5 w31) with ⟨p1, p2, p3⟩ | p1
      · obtain ⟨q1, q2, q3, q4⟩ := chg_pt h h600 ((cPb S n).1 23 1).toInt64 p2 p3
        exact ⟨_, _, _, _, (fun z => hN_parse l sa ka va D cA α z S (nI n) _ _ (fun z => ct_X10_parse l ka va D cA α 193 z (by decide) S F f2 f1 n hn hv)), (fun z => ct_X11_parse l ka va D cA α 193 z (by decide) (setJ (cPb S n) 191 0 ((cPb S n).1 23 1).toInt64) F (by rw [sJ_1, cPb_o S n (by decide) (by decide) (by decide) (by decide) (by decide) (by decide) (by decide)]; exact f3) f1 n hn (okB_of f5 w31) p1.2.2.2.2.2.2), q2, fun _ => by rw [q3, q4], q1⟩
      · exact absurd hv p1.1
    · have w31 : (setJ (cPa S n) 191 0 ((cRun (cIn0 S n) 600).1 1 7).toInt64).1 31 = S.1 31 := by rw [sJ_1, cPa_k S n (by decide) (by decide)]
      rcases parse_sim (S := S) (W := (setJ (cPa S n) 191 0 ((cRun (cIn0 S n) 600).1 1 7).toInt64)) h600 (fun k hk => by rw [w31]; exact f4 k (Nat.lt_of_lt_of_le hk hn)) (okB_of f5 w31) with ⟨p1, p2, p3⟩ | p1
      · exact absurd p1.2.2.2.2.2.1 hv
      · obtain ⟨q1, q2⟩ := chg_pe h h600 ((cRun (cIn0 S n) 600).1 1 7).toInt64
        exact ⟨_, _, _, _, (fun z => hN_parse l sa ka va D cA α z S (nI n) _ _ (fun z => ct_X10_parseE l ka va D cA α 193 z (by decide) S F f2 f1 n hn hv)), (fun z => ct_X11_parseE l ka va D cA α 193 z (by decide) (setJ (cPa S n) 191 0 ((cRun (cIn0 S n) 600).1 1 7).toInt64) F (by rw [sJ_1, cPa_k S n (by decide) (by decide)]; exact f3) f1 n hn (okB_of f5 w31) p1.2.1), q2, fun _ => by rw [rRun_2, rIn0_2, j191]; exact congrArg Int32.toInt64 p1.2.2, q1.rel⟩
  · exact spE_x h 1 (by decide) (fun z => hX_parse_IA l sa ka va D cA α z S a1 (fun z => ct_X10_parseX l hst sa D cA α 193 z (by decide) S F f2 f1 a1 e)) (fun z => ct_X11_parseX l ka va D cA α 193 z (by decide) S F f3 f1 a1 e) (by first | exact Or.inl rfl | exact Or.inr rfl)

end SQ2
