/-! one call on both sides: doubles, and the calls that the law makes itself -/
section SD
variable (l : Launch) (D : va_G) (cA : Nat → ClassId) (α : Nat → Nat) (yC : MethodName) (wsC : List Cond) (rC : Room) (yR : MethodName) (wsR : List Cond) (rR : Room) (avC avR : List Value) (S : Mem)
def DpI : Prop := ∃ (b : Int32) (S1 S2 : Mem), (∀ z, CtI l yC wsC rC D cA α 193 z avC S b S1) ∧ (∀ z, CtI l yR wsR rR D cA α 193 z avR S1 b S2) ∧ Rel S2
def DpL : Prop := ∃ (b : Int64) (S1 S2 : Mem), (∀ z, CtL l yC wsC rC D cA α 193 z avC S b S1) ∧ (∀ z, CtL l yR wsR rR D cA α 193 z avR S1 b S2) ∧ Rel S2
def DpF : Prop := ∃ (b : UInt32) (S1 S2 : Mem), (∀ z, CtF l yC wsC rC D cA α 193 z avC S b S1) ∧ (∀ z, CtF l yR wsR rR D cA α 193 z avR S1 b S2) ∧ FP.Core.val32 b ≠ .nan ∧ Rel S2
def SpF (sa ka va : Nat → Nat) : Prop := ∃ (k : Int32) (S1 : Mem) (b : UInt32) (S2 : Mem), (∀ z, CtH sa ka va l yC wsC rC D cA α 193 z avC S k S1) ∧ (∀ z, CtF l yR wsR rR D cA α 193 z avR S1 b S2) ∧ S2.1 30 0 = k ∧ (k = nI 0 → S2.2 192 0 = (FP.f2d b).toInt64) ∧ FP.Core.val32 b ≠ .nan ∧ Rel S2
end SD
theorem rWid_of {S T : Mem} (e33 : T.1 33 = S.1 33) (e34 : T.1 34 = S.1 34) (e41 : T.1 41 = S.1 41) (e35 : T.2 35 = S.2 35) : ∀ n, rWid T n = rWid S n
  | 0 => rfl
  | n + 1 => by
    have ev : ∀ j, rVal T j = rVal S j := fun j => rVal_of e34 e33 e35
    rw [rWid, rWid, rWid_of e33 e34 e41 e35 n, e41, ev, ev]
section SQ3
variable {l : Launch} {sa ka va : Nat → Nat} {D : va_G} {cA : Nat → ClassId} {α : Nat → Nat} {S : Mem}

theorem sp_averageMargin (hst : l.stackTraces = false) (h : Rel S) (a1 : Int32) : SpF l D cA α yL_averageMargin wsL_averageMargin ({ frames := 8, cells := 1, slots := 6, locals := 144 }) yX11_averageMargin wsX11_averageMargin ({ frames := 3, cells := 0, slots := 0, locals := 67 }) [.ref (α 0), .int a1, .ref (α 192)] [.ref (α 30), .int a1] S sa ka va := by
  obtain ⟨un, cn, pn, N, M, h⟩ := h
  have hw := h.nw
  by_cases e : ∃ i, i < cn ∧ a1 = nI i
  · obtain ⟨i, hi, rfl⟩ := e
    have ev : fMar (cPA S (nI i) (-1) (nI 0) M).2 (sumL (fCst S (nI i)) M) = fMar (sumL (gPro S (nI i)) (lts S M)) (sumL (gCst S (nI i)) (lts S M)) := by
      rw [hw.unrE (by have := hw.c6; omega), hw.cstE]
    refine ⟨_, _, _, _, (fun z => hN_averageMargin l sa ka va D cA α z S (nI i) _ _ (fun z => ct_X10_averageMargin l D cA α 193 z (by decide) S cn hw.cC hw.c6 i hi M hw.cM hw.M100 (fun d hd => hw.ok49' hd)) (fMar_n _ _)), (fun z => ct_X11_averageMargin l D cA α 193 z (by decide) _ cn (by exact hw.rC) hw.c6 i hi (lts S M) (by exact hw.rL) hw.L100 (by exact fun j hj => hw.okL hj)), ?_, fun _ => ?_, fMar_n _ _, (Rl_sm h ((Sm.J (by decide)).tr (Sm.M (by decide) (by decide)))).rel⟩
    · rw [sI_e, pk_us]
    · rw [sI_2, sJ_e, updLE, if_pos rfl, ev]; rfl
  · exact ⟨_, _, _, _, (fun z => hX_averageMargin_IO l sa ka va D cA α z S a1 (fun z => ct_X10_averageMarginX l hst sa D cA α 193 z (by decide) S cn hw.cC hw.c6 a1 e)), (fun z => ct_X11_averageMarginX l D cA α 193 z (by decide) S cn (by exact hw.rC) hw.c6 a1 e), by rw [sI_e, pk_us], fun z => absurd z (by decide), fl_0, (Rl_sm h (Sm.M (by decide) (by decide))).rel⟩

theorem dp_append (h : Rel S) (a1 a2 a3 a4 a5 : Int32) : DpI l D cA α yX10_append wsX10_append ({ frames := 2, cells := 0, slots := 0, locals := 47 }) yX11_append wsX11_append ({ frames := 1, cells := 0, slots := 0, locals := 22 }) [.ref (α 0), .int a1, .int a2, .int a3, .int a4, .int a5] [.ref (α 30), .int a1, .int a2, .int a3, .int a4, .int a5] S := by
  obtain ⟨un, cn, pn, N, M, h⟩ := h
  have hw := h.nw
  obtain ⟨F, f1, f2, f3, f4, f5⟩ := id h.2.2.2.2.2
  by_cases hk : F ≤ 580
  · exact ⟨_, _, _, (fun z => ct_X10_append l D cA α 193 z (by decide) S a1 a2 a3 a4 a5 F f2 hk), (fun z => ct_X11_append l D cA α 193 z (by decide) _ a1 a2 a3 a4 a5 F (by rw [by20_k _ _ _ _ _ _ _ _ _ _ (by decide) (by decide)]; exact f3) hk), (chg_app h f2 f3 hk a1 a2 a3 a4 a5).rel⟩
  · exact ⟨_, _, _, (fun z => ct_X10_appendX l D cA α 193 z (by decide) S a1 a2 a3 a4 a5 F f2 (by omega) f1), (fun z => ct_X11_appendX l D cA α 193 z (by decide) _ a1 a2 a3 a4 a5 F f3 (by omega) f1), (Rl_sm h (Sm.M (by decide) (by decide))).rel⟩

theorem dp_toleranceNeeded (h : Rel S) : DpL l D cA α yX10_toleranceNeeded wsX10_toleranceNeeded ({ frames := 5, cells := 0, slots := 0, locals := 133 }) yX11_toleranceNeeded wsX11_toleranceNeeded ({ frames := 5, cells := 0, slots := 0, locals := 109 }) [.ref (α 0)] [.ref (α 30)] S := by
  obtain ⟨un, cn, pn, N, M, h⟩ := h
  have hw := h.nw
  refine ⟨_, _, rT0 (setI (setR S 5 (cPlan S N N)) 30 0 (nI 0)) N, (fun z => ct_X10_toleranceNeeded l D cA α 193 z (by decide) S N hw.cN hw.N100 (fun j hj => hw.oC hj)), (fun z => ?_), (Rl_sm h (((Sm.R (by decide)).tr (Sm.M (by decide) (by decide))).tr (Sm.R (by decide)))).rel⟩
  · have := ct_X11_toleranceNeeded l D cA α 193 z (by decide) (setR S 5 (cPlan S N N)) N (by exact hw.rN) hw.N100 (by exact fun j hj => hw.oR hj)
    have ep : rPlan (setI (setR S 5 (cPlan S N N)) 30 0 (nI 0)) N N = rPlan S N N := rPlan_of (by rw [sI_1 (by decide), sR_1 (by decide)]) (by rw [sI_1 (by decide), sR_1 (by decide)]) (by rw [sI_1 (by decide), sR_1 (by decide)]) (by rw [sI_2, sR_2]) N N
    have ew : rWid (rT0 (setI (setR S 5 (cPlan S N N)) 30 0 (nI 0)) N) N = cWid (setR S 5 (cPlan S N N)) N := by
      rw [← hw.widE N (Nat.le_refl _)]
      refine rWid_of ?_ ?_ ?_ ?_ N
      · rw [sR_1 (by decide), sI_1 (by decide), sR_1 (by decide), sR_1 (by decide)]
      · rw [sR_1 (by decide), sI_1 (by decide), sR_1 (by decide), sR_1 (by decide)]
      · rw [sR_e, sR_e, ep]
      · rw [sR_2, sI_2, sR_2, sR_2]
    rw [ew] at this
    exact this

theorem dp_matchRate (h : Rel S) : DpF l D cA α yX10_matchRate wsX10_matchRate ({ frames := 2, cells := 0, slots := 0, locals := 46 }) yX11_matchRate wsX11_matchRate ({ frames := 3, cells := 0, slots := 0, locals := 68 }) [.ref (α 0)] [.ref (α 30)] S := by
  obtain ⟨un, cn, pn, N, M, h⟩ := h
  have hw := h.nw
  have ev : fDiv (nI (rGood S N)) (nI (rAll S N)) = fDiv (nI (cGood S N)) (nI (cAll S N)) := by rw [hw.goodE, hw.allE]
  have hR : ∀ z, CtF l yX11_matchRate wsX11_matchRate ({ frames := 3, cells := 0, slots := 0, locals := 68 }) D cA α 193 z [.ref (α 30)] S (fDiv (nI (cGood S N)) (nI (cAll S N))) (setI S 30 0 (nI 0)) := fun z => by
    have := ct_X11_matchRate l D cA α 193 z (by decide) S N (by exact hw.rN) hw.N100
    rw [ev] at this
    exact this
  exact ⟨_, _, _, (fun z => ct_X10_matchRate l D cA α 193 z (by decide) S N hw.cN hw.N100), hR, fDiv_n _ _, (Rl_sm h (Sm.M (by decide) (by decide))).rel⟩

theorem dp_directPayments (h : Rel S) : DpI l D cA α yX10_directPayments wsX10_directPayments ({ frames := 4, cells := 0, slots := 0, locals := 92 }) yX11_directPayments wsX11_directPayments ({ frames := 4, cells := 0, slots := 0, locals := 89 }) [.ref (α 0)] [.ref (α 30)] S := by
  obtain ⟨un, cn, pn, N, M, h⟩ := h
  have hw := h.nw
  have ev : sumN (fun a => cnt (rBr S N a) cn) cn = sumN (fun a => cnt (cUr S N a) cn) cn := sumN_congr (fun a _ => cnt_congr (fun b _ => hw.brE a b))
  have hR : ∀ z, CtI l yX11_directPayments wsX11_directPayments ({ frames := 4, cells := 0, slots := 0, locals := 89 }) D cA α 193 z [.ref (α 30)] S (nI (sumN (fun a => cnt (cUr S N a) cn) cn)) (setI S 30 0 (nI 0)) := fun z => by
    have := ct_X11_directPayments l D cA α 193 z (by decide) S cn (by exact hw.rC) hw.c6 N (by exact hw.rN) hw.N100 (by exact fun j hj => hw.oR hj)
    rw [ev] at this
    exact this
  exact ⟨_, _, _, (fun z => ct_X10_directPayments l D cA α 193 z (by decide) S N hw.cN hw.N100 (fun j hj => hw.oC hj) cn hw.cC hw.c6), hR, (Rl_sm h (Sm.M (by decide) (by decide))).rel⟩

theorem dp_fewestPayments (h : Rel S) : DpI l D cA α yX10_fewestPayments wsX10_fewestPayments ({ frames := 3, cells := 0, slots := 0, locals := 86 }) yX11_fewestPayments wsX11_fewestPayments ({ frames := 4, cells := 0, slots := 0, locals := 88 }) [.ref (α 0)] [.ref (α 30)] S := by
  obtain ⟨un, cn, pn, N, M, h⟩ := h
  have hw := h.nw
  obtain ⟨q1, q2, q3⟩ := few_step h
  have hs := (Rl_sm h q2).nw
  have hR : ∀ z, CtI l yX11_fewestPayments wsX11_fewestPayments ({ frames := 4, cells := 0, slots := 0, locals := 88 }) D cA α 193 z [.ref (α 30)] (cFo (cNt0 S N) cn (2 ^ cn - 1)) (nI cn - (cFo (cNt0 S N) cn (2 ^ cn - 1)).1 9 (2 ^ cn - 1)) (rFo (rFb (setI (cFo (cNt0 S N) cn (2 ^ cn - 1)) 30 0 (nI 0)) (2 ^ cn) N cn).1 (rFb (setI (cFo (cNt0 S N) cn (2 ^ cn - 1)) 30 0 (nI 0)) (2 ^ cn) N cn).2 cn (2 ^ cn - 1)) := fun z => by
    rw [q1]
    exact ct_X11_fewestPayments l D cA α 193 z (by decide) _ cn hs.rC hs.c6 N hs.rN hs.N100 (fun j hj => hs.oR hj)
  exact ⟨_, _, _, (fun z => ct_X10_fewestPayments l D cA α 193 z (by decide) S cn hw.cC hw.c6 N hw.cN hw.N100 (fun j hj => hw.oC hj) (fun j hj => okI_le (hw.it hj).2.2.1 hw.c6)), hR, (Rl_sm h q3).rel⟩

theorem dp_match (h : Rel S) : DpI l D cA α yX10_match wsX10_match ({ frames := 5, cells := 0, slots := 0, locals := 133 }) yX11_match wsX11_match ({ frames := 5, cells := 0, slots := 0, locals := 109 }) [.ref (α 0)] [.ref (α 30)] S := by
  obtain ⟨un, cn, pn, N, M, h⟩ := h
  have hw := h.nw
  obtain ⟨k, t, nn, mm, hh⟩ := h.2.2.1
  obtain ⟨q1, q2⟩ := chg_match h hh rfl
  have hX : AgC (cRem S t k N M) (cPr (setR (cRem S t k N M) 5 (cPlan (cRem S t k N M) N N)) N).1 := fun q c1 c2 c3 c4 c5 => by
    rw [cPr_k _ (by omega) (by omega), cPr_2, sR_1 c1, sR_2]; exact ⟨rfl, rfl⟩
  have e30 := (hX.at (q := 30) (by decide)).1
  have e33 := (hX.at (q := 33) (by decide)).1
  have e34 := (hX.at (q := 34) (by decide)).1
  have e35 := (hX.at (q := 35) (by decide)).2
  have hR : ∀ z, CtI l yX11_match wsX11_match ({ frames := 5, cells := 0, slots := 0, locals := 109 }) D cA α 193 z [.ref (α 30)] (cPr (setR (cRem S t k N M) 5 (cPlan (cRem S t k N M) N N)) N).1 (nI (cPr (setR (cRem S t k N M) 5 (cPlan (cRem S t k N M) N N)) N).2) (rMt (rT0 (K0 (cPr (setR (cRem S t k N M) 5 (cPlan (cRem S t k N M) N N)) N).1 k) N) N).1 := fun z => by
    rw [← q2]
    exact ct_X11_match l D cA α 193 z (by decide) _ N (by rw [e34]; exact hw.rN) hw.N100 (fun j hj => okR_of (hw.oR hj) e34 e33) k (by rw [e30]; exact hh.1.2.2.2.2) hh.1.1
  exact ⟨_, _, _, (fun z => ct_X10_match l D cA α 193 z (by decide) S N hw.cN hw.N100 (fun j hj => hw.oC hj) M hw.cM hw.M100 t k hh.1.2.2.2.1 hh.1.2.1 hh.1.2.2.1 hh.1.1), hR, q1.rel⟩

theorem dp_undo (h : Rel S) : DpI l D cA α yX10_undo wsX10_undo ({ frames := 3, cells := 0, slots := 0, locals := 102 }) yX11_undo wsX11_undo ({ frames := 1, cells := 0, slots := 0, locals := 26 }) [.ref (α 0)] [.ref (α 30)] S := by
  obtain ⟨un, cn, pn, N, M, h⟩ := h
  have hw := h.nw
  obtain ⟨k, t, nn, mm, hh⟩ := h.2.2.1
  cases k with
  | zero => exact ⟨_, _, _, (fun z => ct_X10_undoX l D cA α 193 z (by decide) S hh.1.2.2.1), (fun z => ct_X11_undoX l D cA α 193 z (by decide) _ hh.1.2.2.2.2), (Rl_sm h (Sm.M (by decide) (by decide))).rel⟩
  | succ k =>
    obtain ⟨u1, u2, u3, u4⟩ := hh.und
    have hk := hh.1.1
    have e30 : (cBack S t (k + 1) (nn k) (mm k)).1 30 = S.1 30 := by unfold cBack; rw [(cpSt_o _ _ _ _ _ (by omega)).1, sI_1 (by decide), sI_1 (by decide)]
    exact ⟨_, _, _, (fun z => ct_X10_undo l D cA α 193 z (by decide) S t k (nn k) (mm k) hh.1.2.2.2.1 hh.1.2.1 hh.1.2.2.1 (by omega) u1 u2 u3 u4), (fun z => ct_X11_undo l D cA α 193 z (by decide) _ k (by rw [e30]; exact hh.1.2.2.2.2) (by omega)), (chg_undo h hh).rel⟩

theorem dp_saveSnapshot (h : Rel S) (a1 : Int32) : DpI l D cA α yX10_saveSnapshot wsX10_saveSnapshot ({ frames := 3, cells := 0, slots := 0, locals := 104 }) yX11_saveSnapshot wsX11_saveSnapshot ({ frames := 1, cells := 0, slots := 0, locals := 26 }) [.ref (α 0), .int a1] [.ref (α 30), .int a1] S := by
  obtain ⟨un, cn, pn, N, M, h⟩ := h
  have hw := h.nw
  by_cases e : ∃ i, 0 ≤ i ∧ i ≤ 1 ∧ a1 = nI i
  · obtain ⟨i, -, hi, rfl⟩ := e
    rcases (show i = 0 ∨ i = 1 by omega) with rfl | rfl
    · exact ⟨_, _, _, (fun z => ct_X10_saveSnapshot0 l D cA α 193 z (by decide) S N M hw.cN hw.N100 hw.cM hw.M100), (fun z => ct_X11_saveSnapshot l D cA α 193 z (by decide) _ 0 (by decide)), (chg_save h 0 (by decide)).rel⟩
    · exact ⟨_, _, _, (fun z => ct_X10_saveSnapshot1 l D cA α 193 z (by decide) S N M hw.cN hw.N100 hw.cM hw.M100), (fun z => ct_X11_saveSnapshot l D cA α 193 z (by decide) _ 1 (by decide)), (chg_save h 1 (by decide)).rel⟩
  · exact ⟨_, _, _, (fun z => ct_X10_saveSnapshotX l D cA α 193 z (by decide) S a1 e), (fun z => ct_X11_saveSnapshotX l D cA α 193 z (by decide) _ a1 e), (Rl_sm h (Sm.M (by decide) (by decide))).rel⟩

theorem dp_restoreSnapshot (h : Rel S) (a1 : Int32) : DpI l D cA α yX10_restoreSnapshot wsX10_restoreSnapshot ({ frames := 3, cells := 0, slots := 0, locals := 104 }) yX11_restoreSnapshot wsX11_restoreSnapshot ({ frames := 1, cells := 0, slots := 0, locals := 26 }) [.ref (α 0), .int a1] [.ref (α 30), .int a1] S := by
  obtain ⟨un, cn, pn, N, M, h⟩ := h
  have hw := h.nw
  by_cases e : ∃ i, 0 ≤ i ∧ i ≤ 1 ∧ a1 = nI i
  · obtain ⟨i, -, hi, rfl⟩ := e
    rcases (show i = 0 ∨ i = 1 by omega) with rfl | rfl
    · obtain ⟨s1, s2⟩ : SR S un cn pn 0 := h.2.2.2.1
      have s1 : S.1 40 0 = S.1 14 0 := s1
      have s2 : ¬ S.1 14 0 = 0 → ∃ N M, St S un cn pn 173 54 (fun j => S.1 38 (1508 * 0 + j)) (fun j => S.2 39 (309 * 0 + j)) N M := s2
      by_cases hv : S.1 14 0 = 0
      · exact ⟨_, _, _, (fun z => ct_X10_restoreSnapshot0Y l D cA α 193 z (by decide) S hv), (fun z => ct_X11_restoreSnapshotY l D cA α 193 z (by decide) _ 0 (by decide) (s1.trans hv)), (Rl_sm h (Sm.M (by decide) (by decide))).rel⟩
      · obtain ⟨K, L, hQ⟩ := s2 hv
        have e40 : (setI (cpRw (cpSt S 0 11 K L) 0 1 K L) 11 0 (nI 0)).1 40 = S.1 40 := by rw [sI_1 (by decide), (cpRw_agr _ 0 1 K L 40 (by omega)).1, (cpSt_o S 0 11 K L (by omega)).1]
        exact ⟨_, _, _, (fun z => ct_X10_restoreSnapshot0 l D cA α 193 z (by decide) S hv K L hQ.1.2.2.1 hQ.1.1 hQ.1.2.2.2.1 hQ.1.2.1), (fun z => ct_X11_restoreSnapshot l D cA α 193 z (by decide) _ 0 (by decide) (by rw [e40, s1]; exact hv)), (chg_rest h 0 (by decide) hQ).rel⟩
    · obtain ⟨s1, s2⟩ : SR S un cn pn 1 := h.2.2.2.2.1
      have s1 : S.1 40 1 = S.1 15 0 := s1
      have s2 : ¬ S.1 15 0 = 0 → ∃ N M, St S un cn pn 182 64 (fun j => S.1 38 (1508 * 1 + j)) (fun j => S.2 39 (309 * 1 + j)) N M := s2
      by_cases hv : S.1 15 0 = 0
      · exact ⟨_, _, _, (fun z => ct_X10_restoreSnapshot1Y l D cA α 193 z (by decide) S hv), (fun z => ct_X11_restoreSnapshotY l D cA α 193 z (by decide) _ 1 (by decide) (s1.trans hv)), (Rl_sm h (Sm.M (by decide) (by decide))).rel⟩
      · obtain ⟨K, L, hQ⟩ := s2 hv
        have e40 : (setI (cpRw (cpSt S 0 12 K L) 0 2 K L) 11 0 (nI 0)).1 40 = S.1 40 := by rw [sI_1 (by decide), (cpRw_agr _ 0 2 K L 40 (by omega)).1, (cpSt_o S 0 12 K L (by omega)).1]
        exact ⟨_, _, _, (fun z => ct_X10_restoreSnapshot1 l D cA α 193 z (by decide) S hv K L hQ.1.2.2.1 hQ.1.1 hQ.1.2.2.2.1 hQ.1.2.1), (fun z => ct_X11_restoreSnapshot l D cA α 193 z (by decide) _ 1 (by decide) (by rw [e40, s1]; exact hv)), (chg_rest h 1 (by decide) hQ).rel⟩
  · exact ⟨_, _, _, (fun z => ct_X10_restoreSnapshotX l D cA α 193 z (by decide) S a1 e), (fun z => ct_X11_restoreSnapshotX l D cA α 193 z (by decide) _ a1 e), (Rl_sm h (Sm.M (by decide) (by decide))).rel⟩

end SQ3
