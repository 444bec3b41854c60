/-! a statement on both sides -/
theorem wEq_congr {f f' : Nat → Int32} {s i : Nat} : ∀ k, (∀ j, j < k → f (s + j) = f' (s + j)) → wEq f s i k = wEq f' s i k
  | 0, _ => rfl
  | k + 1, h => by rw [wEq, wEq, wEq_congr k (fun j hj => h j (by omega)), h k (by omega)]
theorem wd_e {n : Nat} {U V : Mem} (h : TR n U V) (i : Nat) : rWd V i = cWd U i := by
  obtain ⟨a, -, ⟨c1, -, c3⟩, d, ⟨g1, g2, g3, -⟩, -, -⟩ := h
  unfold rWd rBs cWd
  rw [g1, g2, g3]
  by_cases e : gN (U.1 1 6) - gN (U.1 1 5) = wl i
  · have h6 := a.2.2.2.1
    have h5 := a.2.2.2.2.2
    rw [c1, gN_nI (by omega)] at h6
    rw [wEq_congr (f := V.1 31) (f' := U.1 2) (wl i) (fun j hj => d _ (by omega))]
  · rw [decide_eq_false e, Bool.and_false, Bool.false_and, Bool.false_and]
theorem bg_t {V : Mem} {j k m : Nat} (e8 : V.1 30 8 = 0) (hk : V.1 32 j = nI k) (hkm : k < m) (hm : m < 10) : rBg V j (nI m) = (rt V, true) := by
  have r : rB1 V j (nI m) = V := by unfold rB1; rw [hk, decide_eq_false (nI_ge hkm (by omega))]; exact rMu_1 _ _
  unfold rBg; rw [r, if_pos (rOk_t e8)]
theorem bg_f {n : Nat} {U V : Mem} {j k m : Nat} (h : TR n U V) (hk : V.1 32 j = nI k) (hkm : m ≤ k) (hm : k < 10) : rBg V j (nI m) = (rMu V false (nI 4), false) := by
  have hE := ER_ref h 4 (by decide) (by decide)
  have r : rB1 V j (nI m) = rMu V false (nI 4) := by unfold rB1; rw [hk, decide_eq_true (nI_le hkm (by omega))]; rfl
  unfold rBg; rw [r, if_neg (rOk_f hE.2.1)]
theorem rRd_o (S : Mem) (lo hi : Int32) {j : Nat} (h : 10 ≤ j) : (rRd S lo hi).1.1 30 j = S.1 30 j := by
  have h1 : (rR1 S).1 30 j = S.1 30 j := rMu_o _ _ _ (by omega) (by omega)
  have h2 : (rR2 S lo hi).1 30 j = S.1 30 j := (rMu_o _ _ _ (by omega) (by omega)).trans h1
  unfold rRd
  repeat' split
  · exact (rt_o9 _ (Or.inr (by omega))).trans h2
  · exact h2
  · exact h1
theorem okI_rg {v : Int32} {k : Nat} (hk : k < 1000) (h1 : ¬ v < nI 0) (h2 : v ≤ nI k - nI 1) : okI v k := by
  have h3 : ¬ v.toInt < (nI 0).toInt := fun z => h1 (Int32.lt_iff_toInt_lt.mpr z)
  have h4 := Int32.le_iff_toInt_le.mp h2
  rw [nI_sub1 (by omega)] at h4
  rw [nI_ti (by decide)] at h3
  obtain ⟨i, hi, rfl⟩ := nI_ex (x := v) (N := k) (by omega) (by omega) (by omega)
  unfold okI; rw [gN_nI (by omega)]; exact ⟨rfl, hi⟩
section STEP
variable {n : Nat} {U V : Mem}
theorem st_cur (h : TR n U V) (hd : okDr U) (hg : DG U V) (w : rStm V = rCu V (gN (V.1 32 0))) : (TR n (if gN (U.1 16 0) < 4 then cCur U (gN (U.1 16 0)) else cRef U (nI 4)) (rStep V) ∧ DG (if gN (U.1 16 0) < 4 then cCur U (gN (U.1 16 0)) else cRef U (nI 4)) (rStep V)) ∨ ER (if gN (U.1 16 0) < 4 then cCur U (gN (U.1 16 0)) else cRef U (nI 4)) (rStep V) := by
  obtain ⟨k, hk⟩ : ∃ k, k = gN (U.1 16 0) := ⟨_, rfl⟩
  have hu : U.1 16 0 = nI k := by rw [hk]; exact hd.1.1
  have hv : V.1 32 0 = nI k := by rw [hg.1 0 (by decide)]; exact hu
  have h4 : k ≤ 4 := by rw [hk]; exact hd.1.2
  rw [hv, gN_nI (by omega)] at w
  rw [← hk]
  by_cases e : k < 4
  · rw [if_pos e]
    have hb := bg_t (m := 4) h.2.2.2.2.2.2 hv e (by decide)
    have w2 : rStm V = rInc (setI (rRd (rt V) (nI 1) (nI 9999)).1 32 (6 + k) (rRd (rt V) (nI 1) (nI 9999)).2) 0 := by
      rw [w]; unfold rCu rC1; rw [hb]; rfl
    have hP : PV n (cN1 U (nI 1) (nI 9999)).1 (rInc (setI (rRd (rt V) (nI 1) (nI 9999)).1 32 (6 + k) (rRd (rt V) (nI 1) (nI 9999)).2) 0) (True ∧ (rRd (rt V) (nI 1) (nI 9999)).2 = (cN1 U (nI 1) (nI 9999)).2 ∧ ¬ (cN1 U (nI 1) (nI 9999)).2 < nI 1 ∧ (cN1 U (nI 1) (nI 9999)).2 ≤ nI 9999) := PV_32 (PV_num (Or.inl ⟨TR_tk h, trivial⟩) _ _ _ (fun _ => rfl) _) _ _
    refine fin_add (T := setI (setI (cSc (cN1 U (nI 1) (nI 9999)).1) 17 k (cN1 U (nI 1) (nI 9999)).2) 16 0 (nI (k + 1))) w2 hP (fun hp ht => ⟨?_, ?_⟩)
    · exact TR_of ht (fun _ _ => by rw [sI_1 (by decide), sI_1 (by decide)]) (by rw [sI_1 (by decide), sI_1 (by decide)]) (fun _ _ => rfl) rfl
    · have z16 : ∀ q, q ≠ 1 → (cSc (cN1 U (nI 1) (nI 9999)).1).1 q = U.1 q := fun q a => by rw [cSc_k _ a, cN1_k _ _ _ a]
      refine DG_cur (k := k) (v := (cN1 U (nI 1) (nI 9999)).2) hg hu e hd ?_ ?_ ?_ ?_ ?_ ?_ ?_
      · exact Int32.not_lt.mp hp.2.2.1
      · rw [sI_e, sI_1 (by decide), z16 16 (by decide)]
      · rw [sI_1 (by decide), sI_e, z16 17 (by decide)]
      · intro q a b; rw [sI_1 (by omega), sI_1 (by omega), z16 q (by omega)]
      · intro j a; rw [sI_1 (by decide), sI_1 (by decide), cSc_o _ a]; unfold cN1; rw [cNum_o _ _ _ a, tk_o _ (by omega)]
      · rw [rt_k _ (by decide)]; unfold rInc; rw [sI_e, sI_e, pk_un (by omega), rRd_k _ _ _ (by decide), rt_k _ (by decide), hv, nI_add, hp.2.1]
      · rw [rt_o9 _ (by decide)]; unfold rInc; rw [sI_1 (by decide), sI_1 (by decide), rRd_o _ _ _ (by decide), rt_o9 _ (by decide)]
  · rw [if_neg e]
    right
    have hb := bg_f (m := 4) h hv (by omega) (by omega)
    have w2 : rStm V = rMu V false (nI 4) := by rw [w]; unfold rCu; rw [hb]; rfl
    exact fin_ref w2 (ER_ref h 4 (by decide) (by decide))
theorem st_com (h : TR n U V) (hd : okDr U) (hg : DG U V) (w : rStm V = rCo V (gN (V.1 32 1))) : (TR n (if gN (U.1 16 1) < 6 then cCom U (gN (U.1 16 1)) else cRef U (nI 4)) (rStep V) ∧ DG (if gN (U.1 16 1) < 6 then cCom U (gN (U.1 16 1)) else cRef U (nI 4)) (rStep V)) ∨ ER (if gN (U.1 16 1) < 6 then cCom U (gN (U.1 16 1)) else cRef U (nI 4)) (rStep V) := by
  obtain ⟨k, hk⟩ : ∃ k, k = gN (U.1 16 1) := ⟨_, rfl⟩
  have hu : U.1 16 1 = nI k := by rw [hk]; exact hd.2.1.1
  have hv : V.1 32 1 = nI k := by rw [hg.1 1 (by decide)]; exact hu
  have h4 : k ≤ 6 := by rw [hk]; exact hd.2.1.2
  have hv0 : V.1 32 0 = U.1 16 0 := hg.1 0 (by decide)
  rw [hv, gN_nI (by omega)] at w
  rw [← hk]
  by_cases e : k < 6
  · rw [if_pos e]
    have hb := bg_t (m := 6) h.2.2.2.2.2.2 hv e (by decide)
    have w2 : rStm V = rInc (setI (rRd (rt V) (nI 0) (U.1 16 0 - nI 1)).1 32 (10 + k) (rRd (rt V) (nI 0) (U.1 16 0 - nI 1)).2) 1 := by
      rw [w]; unfold rCo rM1; rw [hb, hv0]; rfl
    have hP : PV n (cN1 U (nI 0) (U.1 16 0 - nI 1)).1 (rInc (setI (rRd (rt V) (nI 0) (U.1 16 0 - nI 1)).1 32 (10 + k) (rRd (rt V) (nI 0) (U.1 16 0 - nI 1)).2) 1) (True ∧ (rRd (rt V) (nI 0) (U.1 16 0 - nI 1)).2 = (cN1 U (nI 0) (U.1 16 0 - nI 1)).2 ∧ ¬ (cN1 U (nI 0) (U.1 16 0 - nI 1)).2 < nI 0 ∧ (cN1 U (nI 0) (U.1 16 0 - nI 1)).2 ≤ U.1 16 0 - nI 1) := PV_32 (PV_num (Or.inl ⟨TR_tk h, trivial⟩) _ _ _ (fun _ => rfl) _) _ _
    refine fin_add (T := setI (setI (cSc (cN1 U (nI 0) (U.1 16 0 - nI 1)).1) 18 k (cN1 U (nI 0) (U.1 16 0 - nI 1)).2) 16 1 (nI (k + 1))) w2 hP (fun hp ht => ⟨?_, ?_⟩)
    · exact TR_of ht (fun _ _ => by rw [sI_1 (by decide), sI_1 (by decide)]) (by rw [sI_1 (by decide), sI_1 (by decide)]) (fun _ _ => rfl) rfl
    · have z16 : ∀ q, q ≠ 1 → (cSc (cN1 U (nI 0) (U.1 16 0 - nI 1)).1).1 q = U.1 q := fun q a => by rw [cSc_k _ a, cN1_k _ _ _ a]
      refine DG_com (k := k) (v := (cN1 U (nI 0) (U.1 16 0 - nI 1)).2) hg hu e hd ?_ ?_ ?_ ?_ ?_ ?_ ?_
      · have h3 := hp.2.2.2
        have b0 := hd.1.2
        rw [hd.1.1] at h3
        rw [← hd.1.1] at h3
        have h5 : (cN1 U (nI 0) (U.1 16 0 - nI 1)).2 ≤ nI (gN (U.1 16 0)) - nI 1 := Eq.subst (motive := fun z => (cN1 U (nI 0) (U.1 16 0 - nI 1)).2 ≤ z - nI 1) hd.1.1 hp.2.2.2
        exact okI_rg (by omega) hp.2.2.1 h5
      · rw [sI_e, sI_1 (by decide), z16 16 (by decide)]
      · rw [sI_1 (by decide), sI_e, z16 18 (by decide)]
      · intro q a b c; rw [sI_1 (by omega), sI_1 (by omega), z16 q (by omega)]
      · intro j a; rw [sI_1 (by decide), sI_1 (by decide), cSc_o _ a]; unfold cN1; rw [cNum_o _ _ _ a, tk_o _ (by omega)]
      · rw [rt_k _ (by decide)]; unfold rInc; rw [sI_e, sI_e, pk_un (by omega), rRd_k _ _ _ (by decide), rt_k _ (by decide), hv, nI_add, hp.2.1]
      · rw [rt_o9 _ (by decide)]; unfold rInc; rw [sI_1 (by decide), sI_1 (by decide), rRd_o _ _ _ (by decide), rt_o9 _ (by decide)]
  · rw [if_neg e]
    right
    have hb := bg_f (m := 6) h hv (by omega) (by omega)
    have w2 : rStm V = rMu V false (nI 4) := by rw [w]; unfold rCo; rw [hb]; rfl
    exact fin_ref w2 (ER_ref h 4 (by decide) (by decide))
theorem st_pro (h : TR n U V) (hd : okDr U) (hg : DG U V) (w : rStm V = rPl V (gN (V.1 32 2))) : (TR n (if gN (U.1 16 2) < 6 then cPro U (gN (U.1 16 2)) else cRef U (nI 4)) (rStep V) ∧ DG (if gN (U.1 16 2) < 6 then cPro U (gN (U.1 16 2)) else cRef U (nI 4)) (rStep V)) ∨ ER (if gN (U.1 16 2) < 6 then cPro U (gN (U.1 16 2)) else cRef U (nI 4)) (rStep V) := by
  obtain ⟨k, hk⟩ : ∃ k, k = gN (U.1 16 2) := ⟨_, rfl⟩
  have hu : U.1 16 2 = nI k := by rw [hk]; exact hd.2.2.1.1
  have hv : V.1 32 2 = nI k := by rw [hg.1 2 (by decide)]; exact hu
  have h4 : k ≤ 6 := by rw [hk]; exact hd.2.2.1.2
  have hv0 : V.1 32 1 = U.1 16 1 := hg.1 1 (by decide)
  rw [hv, gN_nI (by omega)] at w
  rw [← hk]
  by_cases e : k < 6
  · rw [if_pos e]
    have hb := bg_t (m := 6) h.2.2.2.2.2.2 hv e (by decide)
    have w2 : rStm V = rInc (rW4 V k) 2 := by
      rw [w]; unfold rPl; rw [hb]; rfl
    have e1 : rL1 V = rRd (rt V) (nI 0) (U.1 16 1 - nI 1) := by unfold rL1; rw [hb, hv0]
    have p1 := PV_num (n := n) (X := tk U) (Y := rt V) (Or.inl ⟨TR_tk h, trivial⟩) (nI 0) (nI 0) (U.1 16 1 - nI 1) (fun _ => rfl) (16 + k)
    rw [← e1] at p1
    have p2 := PV_num p1 (nI 1) (nI 1) (nI 9999) (fun _ => rfl) (22 + k)
    have p3 := PV_num p2 (nI 0) (nI 0) (nI 99) (fun _ => rfl) (28 + k)
    have l3 : (rW3 V k).1 32 (28 + k) = (rL3 V k).2 := by unfold rW3; rw [sI_e, pk_us]
    have p4 := PV_num p3 (cP3 U).2 ((rW3 V k).1 32 (28 + k)) (nI 999) (fun hp => by rw [l3]; exact hp.2.1) (34 + k)
    have p5 := PV_32 p4 2 ((rW4 V k).1 32 2 + nI 1)
    refine fin_add (X := (cP4 U).1) (T := cAdd (cSc (cP4 U).1) k (cN1 U (nI 0) (U.1 16 1 - nI 1)).2 (cP2 U).2 (cP3 U).2 (cP4 U).2) w2 p5 (fun hp ht => ⟨?_, ?_⟩)
    · unfold cAdd
      exact TR_of ht (fun _ _ => by rw [sI_1 (by decide), sI_1 (by decide), sI_1 (by decide), sI_1 (by decide), sI_1 (by decide)]) (by rw [sI_1 (by decide), sI_1 (by decide), sI_1 (by decide), sI_1 (by decide), sI_1 (by decide)]) (fun _ _ => rfl) rfl
    · obtain ⟨⟨⟨⟨-, q1, -⟩, q2, -⟩, q3, -⟩, q4, -⟩ := hp
      have q1 : (rL1 V).2 = (cN1 U (nI 0) (U.1 16 1 - nI 1)).2 := q1
      have q2 : (rL2 V k).2 = (cP2 U).2 := q2
      have q3 : (rL3 V k).2 = (cP3 U).2 := q3
      have q4 : (rL4 V k).2 = (cP4 U).2 := q4
      have z16 : ∀ q, q ≠ 1 → (cSc (cP4 U).1).1 q = U.1 q := fun q a => by rw [cSc_k _ a, cP4_k _ a]
      have z1 : ∀ j, 8 ≤ j → (cSc (cP4 U).1).1 1 j = U.1 1 j := fun j a => by
        rw [cSc_o _ a]; unfold cP4; rw [cNum_o _ _ _ a]; unfold cP3; rw [cNum_o _ _ _ a]; unfold cP2; rw [cNum_o _ _ _ a]; unfold cN1; rw [cNum_o _ _ _ a, tk_o _ (by omega)]
      have y32 : (rW4 V k).1 32 = upd (upd (upd (upd (V.1 32) (16 + k) (cN1 U (nI 0) (U.1 16 1 - nI 1)).2) (22 + k) (cP2 U).2) (28 + k) (cP3 U).2) (34 + k) (cP4 U).2 := by
        unfold rW4; rw [sI_e, q4]; unfold rL4; rw [rRd_k _ _ _ (by decide)]; unfold rW3; rw [sI_e, q3]; unfold rL3; rw [rRd_k _ _ _ (by decide)]; unfold rW2; rw [sI_e, q2]; unfold rL2; rw [rRd_k _ _ _ (by decide)]; unfold rW1; rw [sI_e, q1, e1, rRd_k _ _ _ (by decide), rt_k _ (by decide)]
      have y12 : (rW4 V k).1 30 12 = V.1 30 12 := by
        unfold rW4; rw [sI_1 (by decide)]; unfold rL4; rw [rRd_o _ _ _ (by decide)]; unfold rW3; rw [sI_1 (by decide)]; unfold rL3; rw [rRd_o _ _ _ (by decide)]; unfold rW2; rw [sI_1 (by decide)]; unfold rL2; rw [rRd_o _ _ _ (by decide)]; unfold rW1; rw [sI_1 (by decide), e1, rRd_o _ _ _ (by decide), rt_o9 _ (by decide)]
      refine DG_pro (k := k) (x := (cN1 U (nI 0) (U.1 16 1 - nI 1)).2) (y := (cP2 U).2) (u := (cP3 U).2) (v := (cP4 U).2) hg hu e hd ?_ ?_ ?_ ?_ ?_ ?_ ?_ ?_ ?_ ?_
      · unfold cAdd; rw [sI_e, sI_1 (by decide), sI_1 (by decide), sI_1 (by decide), sI_1 (by decide), z16 16 (by decide)]
      · unfold cAdd; rw [sI_1 (by decide), sI_1 (by decide), sI_1 (by decide), sI_1 (by decide), sI_1 (by decide), z16 17 (by decide)]
      · unfold cAdd; rw [sI_1 (by decide), sI_1 (by decide), sI_1 (by decide), sI_1 (by decide), sI_1 (by decide), z16 18 (by decide)]
      · unfold cAdd; rw [sI_1 (by decide), sI_1 (by decide), sI_1 (by decide), sI_1 (by decide), sI_e, z16 19 (by decide)]
      · unfold cAdd; rw [sI_1 (by decide), sI_1 (by decide), sI_1 (by decide), sI_e, sI_1 (by decide), z16 20 (by decide)]
      · unfold cAdd; rw [sI_1 (by decide), sI_1 (by decide), sI_e, sI_1 (by decide), sI_1 (by decide), z16 21 (by decide)]
      · unfold cAdd; rw [sI_1 (by decide), sI_e, sI_1 (by decide), sI_1 (by decide), sI_1 (by decide), z16 22 (by decide)]
      · intro j a; unfold cAdd; rw [sI_1 (by decide), sI_1 (by decide), sI_1 (by decide), sI_1 (by decide), sI_1 (by decide), z1 j a]
      · rw [rt_k _ (by decide)]; unfold rInc; rw [sI_e, y32, pk_un (by omega), pk_un (by omega), pk_un (by omega), pk_un (by omega), hv, nI_add]
      · rw [rt_o9 _ (by decide)]; unfold rInc; rw [sI_1 (by decide), y12]
  · rw [if_neg e]
    right
    have hb := bg_f (m := 6) h hv (by omega) (by omega)
    have w2 : rStm V = rMu V false (nI 4) := by rw [w]; unfold rPl; rw [hb]; rfl
    exact fin_ref w2 (ER_ref h 4 (by decide) (by decide))
theorem cm_t : ∀ x y z : Bool, decide ((cm x y z >>> (nI 0 &&& 31)) &&& nI 1 = 0) = !x ∧ decide ((cm x y z >>> (nI 1 &&& 31)) &&& nI 1 = 0) = !y ∧ decide ((cm x y z >>> (nI 2 &&& 31)) &&& nI 1 = 0) = !z := by decide +kernel
theorem cm_s : ∀ x y z : Bool, cm x y z ||| (nI 1 <<< (nI 0 &&& 31)) = cm true y z ∧ cm x y z ||| (nI 1 <<< (nI 1 &&& 31)) = cm x true z ∧ cm x y z ||| (nI 1 <<< (nI 2 &&& 31)) = cm x y true := by decide +kernel
/-- what comes once: place f of the class's reader, bit b, place g of the drafts -/
theorem st_oc (h : TR n U V) (hd : okDr U) (hg : DG U V) (b : Nat) (hb : b < 3) (hi hi' : Int32) (he : hi' = hi) (w : rStm V = rOc V b (3 + b) hi') : (TR n (if flB (U.1 1 (8 + b)) then cOcB U (8 + b) (3 + b) else cOc U (8 + b) (3 + b) hi) (rStep V) ∧ DG (if flB (U.1 1 (8 + b)) then cOcB U (8 + b) (3 + b) else cOc U (8 + b) (3 + b) hi) (rStep V)) ∨ ER (if flB (U.1 1 (8 + b)) then cOcB U (8 + b) (3 + b) else cOc U (8 + b) (3 + b) hi) (rStep V) := by
  subst he
  have hc : decide ((V.1 30 12 >>> (nI b &&& 31)) &&& nI 1 = 0) = !flB (U.1 1 (8 + b)) := by
    rw [hg.2.1]
    rcases (show b = 0 ∨ b = 1 ∨ b = 2 by omega) with rfl | rfl | rfl
    · exact (cm_t _ _ _).1
    · exact (cm_t _ _ _).2.1
    · exact (cm_t _ _ _).2.2
  cases hf : flB (U.1 1 (8 + b)) with
  | true =>
    rw [if_pos rfl]
    right
    have r : rO1 V b = rMu V false (nI 2) := by unfold rO1; rw [hc, hf]; rfl
    have hE := ER_ref h 2 (by decide) (by decide)
    have ro : rOn V b = (rMu V false (nI 2), false) := by unfold rOn; rw [r, if_neg (rOk_f hE.2.1)]
    have w2 : rStm V = rMu V false (nI 2) := by rw [w]; unfold rOc; rw [ro]; rfl
    refine fin_ref w2 (ER_of hE ?_ rfl rfl)
    unfold cOcB; rw [sI_1 (by decide), sI_e, pk_un (by omega)]
  | false =>
    rw [if_neg (by decide)]
    have r : rO1 V b = V := by unfold rO1; rw [hc, hf]; exact rMu_1 _ _
    have ro : rOn V b = (rt (rO2 V b), true) := by unfold rOn; rw [r, if_pos (rOk_t h.2.2.2.2.2.2)]
    have r2 : rO2 V b = setI V 30 12 (V.1 30 12 ||| (nI 1 <<< (nI b &&& 31))) := by unfold rO2; rw [r]
    have w2 : rStm V = setI (rRd (rt (rO2 V b)) (nI 0) hi').1 32 (3 + b) (rRd (rt (rO2 V b)) (nI 0) hi').2 := by rw [w]; unfold rOc; rw [ro]; rfl
    have h1 : TR n U (rO2 V b) := TR_of h (fun _ _ => rfl) rfl (fun j hj => by rw [r2, sI_e, pk_un (by omega)]) (by rw [r2, sI_1 (by decide)])
    have h2 : TR n (setI (tk U) 1 (8 + b) (nI 1)) (rt (rO2 V b)) := TR_of (TR_tk h1) (fun j hj => by rw [sI_e, pk_un (by omega)]) (by rw [sI_1 (by decide)]) (fun _ _ => rfl) rfl
    have p1 := PV_num (n := n) (Or.inl ⟨h2, trivial⟩) (nI 0) (nI 0) hi' (fun _ => rfl) (3 + b)
    have p2 : PV n (setI (cOc1 U (8 + b) (nI 0) hi').1 16 (3 + b) (cOc1 U (8 + b) (nI 0) hi').2) (setI (rRd (rt (rO2 V b)) (nI 0) hi').1 32 (3 + b) (rRd (rt (rO2 V b)) (nI 0) hi').2) ((rRd (rt (rO2 V b)) (nI 0) hi').2 = (cOc1 U (8 + b) (nI 0) hi').2) := by
      rcases p1 with ⟨a, b⟩ | a
      · exact Or.inl ⟨TR_of a (fun _ _ => by rw [sI_1 (by decide)]; rfl) (by rw [sI_1 (by decide)]; rfl) (fun _ _ => rfl) rfl, b.2.1⟩
      · exact Or.inr (ER_of a (by rw [sI_1 (by decide)]; rfl) rfl rfl)
    have ef : cOc U (8 + b) (3 + b) hi' = cFin (setI (cOc1 U (8 + b) (nI 0) hi').1 16 (3 + b) (cOc1 U (8 + b) (nI 0) hi').2) (cSc (setI (cOc1 U (8 + b) (nI 0) hi').1 16 (3 + b) (cOc1 U (8 + b) (nI 0) hi').2)) := by
      unfold cOc cFin; split <;> rfl
    rw [ef]
    refine fin_add w2 p2 (fun hp ht => ⟨ht, ?_⟩)
    have z16 : ∀ q, q ≠ 1 → (cOc1 U (8 + b) (nI 0) hi').1.1 q = U.1 q := fun q a => by unfold cOc1; rw [cNum_k _ _ _ a, sI_1 a, tk_k _ a]
    have z1 : ∀ j, 8 ≤ j → (cSc (setI (cOc1 U (8 + b) (nI 0) hi').1 16 (3 + b) (cOc1 U (8 + b) (nI 0) hi').2)).1 1 j = if j = 8 + b then nI 1 else U.1 1 j := fun j a => by
      rw [cSc_o _ a, sI_1 (by decide)]; unfold cOc1; rw [cNum_o _ _ _ a, sI_e, updE, tk_o _ (by omega)]
    refine DG_oc (g := 3 + b) (v := (cOc1 U (8 + b) (nI 0) hi').2) hg hd (by omega) (by omega) ?_ ?_ ?_ ?_
    · rw [cSc_k _ (by decide), sI_e, z16 16 (by decide)]
    · intro q a b; rw [cSc_k _ (by omega), sI_1 (by omega), z16 q (by omega)]
    · rw [rt_k _ (by decide), sI_e, hp, rRd_k _ _ _ (by decide), rt_k _ (by decide), r2, sI_1 (by decide)]
    · rw [rt_o9 _ (by decide), sI_1 (by decide), rRd_o _ _ _ (by decide), rt_o9 _ (by decide), r2, sI_e, pk_us, hg.2.1, z1 8 (by decide), z1 9 (by decide), z1 10 (by decide)]
      rcases (show b = 0 ∨ b = 1 ∨ b = 2 by omega) with rfl | rfl | rfl
      · exact (cm_s _ _ _).1
      · exact (cm_s _ _ _).2.1
      · exact (cm_s _ _ _).2.2
theorem step_sim (h : TR n U V) (hd : okDr U) (hg : DG U V) : (TR n (cStm U) (rStep V) ∧ DG (cStm U) (rStep V)) ∨ ER (cStm U) (rStep V) := by
  have w := fun i => wd_e h i
  unfold cStm
  cases c0 : cWd U 0 with
  | true => rw [if_pos rfl]; exact st_cur h hd hg (by unfold rStm; rw [w 0, c0, if_pos rfl])
  | false =>
    rw [if_neg (by decide)]
    cases c1 : cWd U 1 with
    | true => rw [if_pos rfl]; exact st_com h hd hg (by unfold rStm; rw [w 0, c0, if_neg (by decide), w 1, c1, if_pos rfl])
    | false =>
      rw [if_neg (by decide)]
      cases c2 : cWd U 2 with
      | true => rw [if_pos rfl]; exact st_pro h hd hg (by unfold rStm; rw [w 0, c0, if_neg (by decide), w 1, c1, if_neg (by decide), w 2, c2, if_pos rfl])
      | false =>
        rw [if_neg (by decide)]
        cases c3 : cWd U 3 with
        | true => rw [if_pos rfl]; exact st_oc h hd hg 0 (by decide) (nI 9999) (nI 9999) rfl (by unfold rStm; rw [w 0, c0, if_neg (by decide), w 1, c1, if_neg (by decide), w 2, c2, if_neg (by decide), w 3, c3, if_pos rfl])
        | false =>
          rw [if_neg (by decide)]
          cases c4 : cWd U 4 with
          | true => rw [if_pos rfl]; exact st_oc h hd hg 1 (by decide) (U.1 16 1 - nI 1) (V.1 32 1 - nI 1) (by rw [hg.1 1 (by decide)]) (by unfold rStm; rw [w 0, c0, if_neg (by decide), w 1, c1, if_neg (by decide), w 2, c2, if_neg (by decide), w 3, c3, if_neg (by decide), w 4, c4, if_pos rfl])
          | false =>
            rw [if_neg (by decide)]
            cases c5 : cWd U 5 with
            | true => rw [if_pos rfl]; exact st_oc h hd hg 2 (by decide) (nI 9999) (nI 9999) rfl (by unfold rStm; rw [w 0, c0, if_neg (by decide), w 1, c1, if_neg (by decide), w 2, c2, if_neg (by decide), w 3, c3, if_neg (by decide), w 4, c4, if_neg (by decide), w 5, c5, if_pos rfl])
            | false =>
              rw [if_neg (by decide)]
              right
              exact fin_ref (by unfold rStm; rw [w 0, c0, if_neg (by decide), w 1, c1, if_neg (by decide), w 2, c2, if_neg (by decide), w 3, c3, if_neg (by decide), w 4, c4, if_neg (by decide), w 5, c5, if_neg (by decide)]) (ER_ref h 1 (by decide) (by decide))
theorem run_sim : ∀ (f g : Nat) (U V : Mem), TR n U V → okDr U → DG U V → (n - gN (V.1 30 5) < f ∨ V.1 30 6 = 0) → f ≤ g → (TR n (cRun U f) (rRun V g) ∧ okDr (cRun U f) ∧ DG (cRun U f) (rRun V g)) ∨ ER (cRun U f) (rRun V g)
  | 0, g, U, V, h, hd, hg, hm, _ => by
    have h6 : V.1 30 6 = 0 := hm.resolve_left (Nat.not_lt_zero _)
    rw [rRun_stop (Or.inr h6)]; exact Or.inl ⟨h, hd, hg⟩
  | f + 1, 0, U, V, h, hd, hg, hm, hl => absurd hl (by omega)
  | f + 1, g + 1, U, V, h, hd, hg, hm, hl => by
    have g3 := h.2.2.2.2.1.2.2.1
    have e7 := h.2.2.2.2.2.1
    have e8 := h.2.2.2.2.2.2
    rw [cRun, rRun, if_pos e7, if_pos e8]
    by_cases k : U.1 1 4 = 0
    · rw [if_pos k, if_pos (by rw [g3]; exact k)]; exact Or.inl ⟨h, hd, hg⟩
    · have k' : ¬ V.1 30 6 = 0 := by rw [g3]; exact k
      rw [if_neg k, if_neg k']
      have hm2 := hm.resolve_right k'
      have n3 : gN (V.1 30 3) = n := by rw [h.2.2.1.2.1, gN_nI (by have := h.2.2.1.2.2; omega)]
      rcases step_sim h hd hg with ⟨h1, h2⟩ | hE
      · refine run_sim f g _ _ h1 (ok_stm h.1 hd).2 h2 (Or.inl ?_) (by omega)
        rcases step_go h.2.1 (f := f + 1) (by rw [n3]; exact hm2) with a | a
        · exact absurd h1.2.2.2.2.2.2 a
        · rw [rStep_3, n3] at a; exact a
      · right
        rw [cRun_stop (Or.inl hE.1), rRun_stop (Or.inl hE.2.1)]; exact hE
end STEP
