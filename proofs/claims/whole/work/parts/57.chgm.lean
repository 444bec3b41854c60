/-! match as a change on both sides -/
theorem cPr_2 (S : Mem) : ∀ i, (cPr S i).1.2 = S.2
  | 0 => rfl
  | i + 1 => by
    rw [cPr]
    split
    · exact cPr_2 S i
    · split
      · exact cPr_2 S i
      · exact cPr_2 S i
theorem cPlan_of {S T : Mem} (e : ∀ q, q = 5 ∨ q = 25 ∨ (45 ≤ q ∧ q ≤ 48) ∨ q = 75 ∨ q = 76 ∨ q = 81 → T.1 q = S.1 q) (e2 : T.2 79 = S.2 79) (N : Nat) : ∀ i, cPlan T N i = cPlan S N i
  | 0 => by rw [cPlan, cPlan, e 5 (by omega)]
  | i + 1 => by
    have ih := cPlan_of e e2 N i
    have hv : ∀ j, cVal T j = cVal S j := fun j => cVal_of (e 45 (by omega)) (e 25 (by omega)) (e 81 (by omega)) (e 76 (by omega)) (e 75 (by omega)) e2
    have h1 : cIs T i (nI 0) (nI 0) = cIs S i (nI 0) (nI 0) := by unfold cIs; rw [e 47 (by omega), e 76 (by omega)]
    have h2 : bestOf (cFree (setR T 5 (cPlan T N i)) i) (cDst T i) N = bestOf (cFree (setR S 5 (cPlan S N i)) i) (cDst S i) N := by
      rw [ih]
      refine bestOf_congr (fun j _ => ?_) (fun j _ => ?_)
      · show (!decide (0 ≤ (setR T 5 (cPlan S N i)).1 5 j) && decide (T.1 76 j = 0) && cMir T i j) = (!decide (0 ≤ (setR S 5 (cPlan S N i)).1 5 j) && decide (S.1 76 j = 0) && cMir S i j)
        unfold cMir
        rw [sR_e, sR_e, e 76 (by omega), e 45 (by omega), e 46 (by omega), e 47 (by omega), e 48 (by omega)]
      · unfold cDst; rw [hv, hv]
    rw [cPlan, cPlan, h1, h2, ih]
theorem rPlan_of {S T : Mem} (e33 : T.1 33 = S.1 33) (e34 : T.1 34 = S.1 34) (e41 : T.1 41 = S.1 41) (e2 : T.2 35 = S.2 35) (N : Nat) : ∀ i, rPlan T N i = rPlan S N i
  | 0 => by rw [rPlan, rPlan, e41]
  | i + 1 => by
    have ih := rPlan_of e33 e34 e41 e2 N i
    have hv : ∀ j, rVal T j = rVal S j := fun j => rVal_of e34 e33 e2
    have h1 : rIs T i (nI 0) (nI 0) = rIs S i (nI 0) (nI 0) := by unfold rIs; rw [e34]
    have h2 : bestOf (rFree (setR T 41 (rPlan T N i)) i) (rDst T i) N = bestOf (rFree (setR S 41 (rPlan S N i)) i) (rDst S i) N := by
      rw [ih]
      refine bestOf_congr (fun j _ => ?_) (fun j _ => ?_)
      · show (rIs T j (nI 1) (nI 0) && !decide (0 ≤ (setR T 41 (rPlan S N i)).1 41 j) && rMir T i j) = (rIs S j (nI 1) (nI 0) && !decide (0 ≤ (setR S 41 (rPlan S N i)).1 41 j) && rMir S i j)
        unfold rMir rIs
        rw [sR_e, sR_e, e34]
      · unfold rDst; rw [hv, hv]
    rw [rPlan, rPlan, h1, h2, ih]
section CM
variable {S : Mem} {un cn pn N M k t : Nat} {nn mm : Nat → Nat}
theorem Nw.stE (h : Nw S un cn pn N M) {i b : Nat} (hi : i < N) (hb : b < N) : rSt S i b = cSt S i b := by
  unfold rSt cSt
  have := h.dst hi hb
  unfold rDst at this
  rw [this, h.tol]
theorem match_joint (h : Nw S un cn pn N M) {A B : Mem} (A1 : ∀ q, q = 5 ∨ q = 25 ∨ (45 ≤ q ∧ q ≤ 48) ∨ (74 ≤ q ∧ q ≤ 81) → q ≠ 5 → A.1 q = S.1 q) (A5 : A.1 5 = cPlan S N N) (A2 : ∀ q, 74 ≤ q ∧ q ≤ 79 → A.2 q = S.2 q) (B34 : B.1 34 = S.1 34) (B33 : B.1 33 = S.1 33) (B41 : B.1 41 = rPlan S N N) (B35 : B.2 35 = S.2 35) :
    ∀ i, i ≤ N → ItN (cPr A i).1 cn ((rMt B i).1.1 34) ((rMt B i).1.2 35) N ∧ (∀ j b, j < N → b < N → i ≤ j → S.1 47 j = nI 0 → cPlan S N N j = nI b → (cPr A i).1.1 76 j = nI 0 ∧ (cPr A i).1.1 76 b = nI 0) ∧ (cPr A i).2 = (rMt B i).2 ∧ ∀ z, 608 ≤ z → (rMt B i).1.1 34 z = S.1 34 z
  | 0, _ => by
    refine ⟨fun j hj => ?_, fun j b hj hb _ hs hp => ?_, rfl, fun z _ => by show B.1 34 z = _; rw [B34]⟩
    · show IR A 74 44 (B.1 34) (B.2 35) j ∧ WI A cn 74 44 N j
      rw [B34, B35]
      exact It_chg (fun _ => False) (fun i hi => h.it hi) (fun j _ _ => ⟨by rw [A1 75 (by omega) (by decide)], by rw [A1 76 (by omega) (by decide)], by rw [A1 77 (by omega) (by decide)], by rw [A2 78 (by omega)], by rw [A2 79 (by omega)]⟩) (fun j _ _ => ⟨fun _ _ => rfl, rfl, rfl, rfl⟩) (fun j _ => ⟨by rw [A1 45 (by omega) (by decide)], by rw [A1 46 (by omega) (by decide)], by rw [A1 47 (by omega) (by decide)], by rw [A1 48 (by omega) (by decide)]⟩) (fun _ _ _ _ _ _ _ q => q) (fun _ _ q => q.elim) j hj
    · show A.1 76 j = nI 0 ∧ A.1 76 b = nI 0
      rw [A1 76 (by omega) (by decide)]
      rcases (h.plan N (Nat.le_refl _)).1.2 j hj with q | ⟨c, hc, e1, e2, e3, e4, e5⟩
      · rw [hp] at q; exact absurd q (nI_pos (by have := h.N100; omega))
      · have : b = c := nI_inj (by have := h.N100; omega) (by have := h.N100; omega) (hp.symm.trans e1)
        rw [this]; exact ⟨e3, e4⟩
  | i + 1, hi => by
    have hN := h.N100
    have hiN : i < N := by omega
    obtain ⟨I1, I2, I3, I4⟩ := match_joint h A1 A5 A2 B34 B33 B41 B35 i (by omega)
    obtain ⟨⟨-, hpl⟩, hrp⟩ := h.plan N (Nat.le_refl _)
    have hQ : rPlan S N N i = cPlan S N N i := hrp i hiN
    have s47 : A.1 47 = S.1 47 := A1 47 (by omega) (by decide)
    rcases hpl i hiN with hneg | ⟨b, hb, e1, e2, e3, e4, e5⟩
    · have c1 : cPr A (i + 1) = cPr A i := by rw [cPr, A5, if_pos hneg]
      have c2 : rMt B (i + 1) = rMt B i := by rw [rMt, B41, hQ, if_pos hneg]
      rw [c1, c2]
      exact ⟨I1, fun j b hj hb hij => I2 j b hj hb (by omega), I3, I4⟩
    · have hnn : ¬ cPlan S N N i < 0 := by rw [e1]; exact nI_pos (by omega)
      have hgN : gN (cPlan S N N i) = b := by rw [e1, gN_nI (by omega)]
      rcases e5 with ⟨hs, hbs⟩ | ⟨hs, hbs⟩
      · -- a receivable: both sides pair it
        have hib : i ≠ b := fun q => by rw [q, hbs] at hs; exact absurd hs (by decide)
        have c1 : cPr A (i + 1) = (put2 (cPr A i).1 i b (nI b) (cSt (cPr A i).1 i b), (cPr A i).2 + 1) := by
          rw [cPr, A5, if_neg hnn, s47, hs, if_pos (by decide), hgN, e1]
        have c2 : rMt B (i + 1) = (put4 (rMt B i).1 i b (nI b) (rSt (rMt B i).1 i b), (rMt B i).2 + 1) := by
          rw [rMt, B41, hQ, if_neg hnn, B34, h.e47 hiN, hs, if_neg (by decide), hgN, e1]
        obtain ⟨o1, o2⟩ := I2 i b hiN hb (Nat.le_refl _) hs e1
        have k1 : ∀ z, z ≠ 77 → z ≠ 76 → (cPr A i).1.1 z = A.1 z := fun z p q => cPr_k A p q i
        have cvE : ∀ j, (cPr A i).1.1 76 j = nI 0 → S.1 76 j = nI 0 → cVal (cPr A i).1 j = cVal S j := fun j p q => by
          unfold cVal cRate
          rw [p, q, k1 75 (by decide) (by decide), k1 81 (by decide) (by decide), k1 25 (by decide) (by decide), k1 45 (by decide) (by decide), A1 75 (by omega) (by decide), A1 81 (by omega) (by decide), A1 25 (by omega) (by decide), A1 45 (by omega) (by decide), if_pos (by decide), if_pos (by decide), if_pos (by decide), if_pos (by decide)]
        have stC : cSt (cPr A i).1 i b = cSt S i b := by
          unfold cSt cDst
          rw [cvE i o1 e3, cvE b o2 e4, k1 74 (by decide) (by decide), A1 74 (by omega) (by decide)]
        have f34 : ∀ z, z < 8 ∨ (z % 6 ≠ 0 ∧ z % 6 ≠ 1) → (rMt B i).1.1 34 z = S.1 34 z := fun z hz => by rw [rMt_34 B hz i, B34]
        have f35 : (rMt B i).1.2 35 = S.2 35 := by rw [rMt_2 B i, B35]
        have f33 : (rMt B i).1.1 33 = S.1 33 := by rw [rMt_k B (by decide) i, B33]
        have rvE : ∀ j, j < N → (rMt B i).1.1 34 (8 + 6 * j + 4) = nI 0 → S.1 76 j = nI 0 → rVal (rMt B i).1 j = rVal S j := fun j hj p q => by
          have ok45 := (h.it hj).2.1
          have okc := h.1.2.1 _ (show gN (S.1 45 j) < cn from ok45.2)
          unfold rVal rRate
          rw [p, h.e76 hj, q, f35, f34 (8 + 6 * j + 0) (by omega), f33, h.e45 hj, okc.1, f34 _ (by have := okc.2.2; have := h.u4; omega)]
        have stR : rSt (rMt B i).1 i b = rSt S i b := by
          unfold rSt
          have z1 : (rMt B i).1.1 34 (8 + 6 * i + 4) = nI 0 := (I1 i hiN).1.2.2.2.2.1.trans o1
          have z2 : (rMt B i).1.1 34 (8 + 6 * b + 4) = nI 0 := (I1 b hb).1.2.2.2.2.1.trans o2
          rw [rvE i hiN z1 e3, rvE b hb z2 e4, f34 3 (by omega)]
        generalize hst : cSt S i b = x at stC
        rw [h.stE hiN hb, hst] at stR
        have hx : x = nI 1 ∨ x = nI 2 := by rw [← hst]; unfold cSt; split; exact Or.inr rfl; exact Or.inl rfl
        rw [c1, c2, stC, stR]
        dsimp only
        generalize hA' : (cPr A i).1 = A' at I1 I2 o1 o2 k1 ⊢
        generalize hB' : (rMt B i).1 = B' at I1 I4 f34 f35 f33 ⊢
        have P1 : ∀ q, q ≠ 76 → q ≠ 77 → (put2 A' i b (nI b) x).1 q = A'.1 q := fun q p r => put2_k A' i b (nI b) x r p
        have P2 : (put2 A' i b (nI b) x).2 = A'.2 := rfl
        have P76 : ∀ j, (put2 A' i b (nI b) x).1 76 j = if j = b then x else if j = i then x else A'.1 76 j := fun j => by
          unfold put2; rw [sI_e, sI_1 (by decide), sI_e, sI_1 (by decide)]; rfl
        have P77 : ∀ j, (put2 A' i b (nI b) x).1 77 j = if j = b then nI i else if j = i then nI b else A'.1 77 j := fun j => by
          unfold put2; rw [sI_1 (by decide), sI_e, sI_1 (by decide), sI_e]; rfl
        have Q2 : (put4 B' i b (nI b) x).2 = B'.2 := rfl
        have Q34 : ∀ j, (put4 B' i b (nI b) x).1 34 j = if j = 8 + 6 * b + 5 then nI i else if j = 8 + 6 * i + 5 then nI b else if j = 8 + 6 * b + 4 then x else if j = 8 + 6 * i + 4 then x else B'.1 34 j := fun j => by
          unfold put4; rw [sI_e, sI_e, sI_e, sI_e]; rfl
        have lo : ∀ j, j ≠ 8 + 6 * b + 5 → j ≠ 8 + 6 * i + 5 → j ≠ 8 + 6 * b + 4 → j ≠ 8 + 6 * i + 4 → (put4 B' i b (nI b) x).1 34 j = B'.1 34 j := fun j p q r s => by rw [Q34, if_neg p, if_neg q, if_neg r, if_neg s]
        have op : ∀ j, j < N → A'.1 76 j = nI 0 → A'.1 77 j = -1 := fun j hj hz => by
          rcases (I1 j hj).2.2.2.2.2 with ⟨-, q⟩ | ⟨q, -⟩
          · exact q
          · have q : A'.1 76 j = nI 1 ∨ A'.1 76 j = nI 2 ∨ A'.1 76 j = nI 3 := q
            rw [hz] at q
            rcases q with q | q | q <;> exact absurd q (by decide)
        refine ⟨?_, fun j c hj hc hij hjs hp => ?_, by rw [I3], fun z hz => by rw [lo z (by omega) (by omega) (by omega) (by omega)]; exact I4 z hz⟩
        · refine It_chg (fun j => j = i ∨ j = b) I1 (fun j _ hj => ⟨by rw [P1 75 (by decide) (by decide)], by rw [P76, if_neg (fun q => hj (Or.inr q)), if_neg (fun q => hj (Or.inl q))], by rw [P77, if_neg (fun q => hj (Or.inr q)), if_neg (fun q => hj (Or.inl q))], by rw [P2], by rw [P2]⟩) (fun j _ hj => ⟨fun w hw9 => lo _ (by omega) (by omega) (by omega) (by omega), by rw [Q2], by rw [Q2], by rw [Q2]⟩) (fun j _ => ⟨by rw [P1 45 (by decide) (by decide)], by rw [P1 46 (by decide) (by decide)], by rw [P1 47 (by decide) (by decide)], by rw [P1 48 (by decide) (by decide)]⟩) (fun j c hj hc hji p1 p2 hcc => ?_) (fun j hj ej => ?_)
          · rcases hcc with q | q
            · rw [q, op i hiN o1] at p2; exact absurd p2 (m1_nI (by omega))
            · rw [q, op b hb o2] at p2; exact absurd p2 (m1_nI (by omega))
          · obtain ⟨⟨a1, a2, a3, a4, a5, a6, a7, a8, a9⟩, w1, w2, w3, w4, -⟩ := I1 j hj
            have t76 : ∀ j, (j = i ∨ j = b) → (put2 A' i b (nI b) x).1 76 j = x := fun j ej => by
              rw [P76]
              split
              · rfl
              · rename_i q; rw [if_pos (by rcases ej with z | z; exact z; exact absurd z q)]
            have v47 : A'.1 47 = S.1 47 := by rw [k1 47 (by decide) (by decide), s47]
            have hpr : ∃ c, c < N ∧ (c = i ∨ c = b) ∧ (put2 A' i b (nI b) x).1 77 j = nI c ∧ (put2 A' i b (nI b) x).1 77 c = nI j ∧ ¬ S.1 47 c = S.1 47 j ∧ (put4 B' i b (nI b) x).1 34 (8 + 6 * j + 5) = nI c ∧ (put4 B' i b (nI b) x).1 34 (8 + 6 * j + 4) = x := by
              rcases ej with q | q
              · rw [q]
                refine ⟨b, hb, Or.inr rfl, by rw [P77, if_neg hib, if_pos rfl], by rw [P77, if_pos rfl], by rw [hs, hbs]; decide, by rw [Q34, if_neg (by omega), if_pos rfl], by rw [Q34, if_neg (by omega), if_neg (by omega), if_neg (by omega), if_pos rfl]⟩
              · rw [q]
                refine ⟨i, hiN, Or.inl rfl, by rw [P77, if_pos rfl], by rw [P77, if_neg hib, if_pos rfl], by rw [hs, hbs]; decide, by rw [Q34, if_pos rfl], by rw [Q34, if_neg (by omega), if_neg (by omega), if_pos rfl]⟩
            obtain ⟨c, hc, hci, p1, p2, p3, p4, p5⟩ := hpr
            refine ⟨ir_mk ?_ ?_ ?_ ?_ ?_ ?_ ?_ ?_ ?_, wi_pr ?_ ?_ ?_ ?_ ?_ hc p1 p2 ?_ ?_⟩
            · rw [lo _ (by omega) (by omega) (by omega) (by omega), P1 45 (by decide) (by decide)]; exact a1
            · rw [lo _ (by omega) (by omega) (by omega) (by omega), P1 46 (by decide) (by decide)]; exact a2
            · rw [lo _ (by omega) (by omega) (by omega) (by omega), P1 47 (by decide) (by decide)]; exact a3
            · rw [lo _ (by omega) (by omega) (by omega) (by omega), P1 48 (by decide) (by decide)]; exact a4
            · rw [t76 j ej, p5]
            · rw [p1, p4]
            · rw [Q2, P1 75 (by decide) (by decide)]; exact a7
            · rw [Q2, P2]; exact a8
            · intro q; rw [t76 j ej] at q; rcases hx with z | z <;> rw [z] at q <;> exact absurd q (by decide)
            · rw [P1 45 (by decide) (by decide)]; exact w1
            · rw [P1 46 (by decide) (by decide)]; exact w2
            · rw [P1 45 (by decide) (by decide), P1 46 (by decide) (by decide)]; exact w3
            · rw [P1 47 (by decide) (by decide)]; exact w4
            · rw [t76 j ej]; rcases hx with z | z; exact Or.inl z; exact Or.inr (Or.inl z)
            · rw [t76 c hci, t76 j ej]
            · rw [P1 47 (by decide) (by decide), v47]; exact p3
        · obtain ⟨y1, y2⟩ := I2 j c hj hc (by omega) hjs hp
          have hji : j ≠ i := by omega
          have hjb : j ≠ b := fun q => by rw [q, hbs] at hjs; exact absurd hjs (by decide)
          rcases hpl j hj with q | ⟨c', hc', g1, g2, -, -, -⟩
          · rw [hp] at q; exact absurd q (nI_pos (by omega))
          · have hcc : c = c' := nI_inj (by omega) (by omega) (hp.symm.trans g1)
            rw [← hcc] at g2
            have hcb : c ≠ b := fun q => by
              rw [q, e2] at g2
              exact hji (nI_inj (by omega) (by omega) g2).symm
            have hci : c ≠ i := fun q => by
              rw [q, e1] at g2
              exact hjb (nI_inj (by omega) (by omega) g2).symm
            rw [P76, P76, if_neg hjb, if_neg hji, if_neg hcb, if_neg hci]
            exact ⟨y1, y2⟩
      · have c1 : cPr A (i + 1) = cPr A i := by
          rw [cPr, A5, if_neg hnn, s47, hs, if_neg (by decide)]
        have c2 : rMt B (i + 1) = rMt B i := by
          rw [rMt, B41, hQ, if_neg hnn, B34, h.e47 hiN, hs, if_pos rfl]
        rw [c1, c2]
        exact ⟨I1, fun j b hj hb hij => I2 j b hj hb (by omega), I3, I4⟩
/-- match: the world behind both sides, and their answers -/
theorem chg_match (h : Rl S un cn pn N M) (hh : HR S un cn pn N M k t nn mm) {X : Mem} (hX : X = (cPr (setR (cRem S t k N M) 5 (cPlan (cRem S t k N M) N N)) N).1) :
    Rl (rMt (rT0 (K0 X k) N) N).1 un cn pn N M ∧ (rMt (rT0 (K0 X k) N) N).2 = (cPr (setR (cRem S t k N M) 5 (cPlan (cRem S t k N M) N N)) N).2 := by
  have hw := h.nw
  generalize hZ : cRem S t k N M = Z at hX ⊢
  have Z1 : ∀ q, q < 83 → q ≠ 11 → Z.1 q = S.1 q := fun q a c => by rw [← hZ]; exact cRem_1 a c
  have Z2 : ∀ q, q < 83 → Z.2 q = S.2 q := fun q a => by rw [← hZ]; exact cRem_2 a
  have hP : cPlan Z N N = cPlan S N N := cPlan_of (fun q hq => Z1 q (by omega) (by omega)) (Z2 79 (by decide)) N N
  rw [hP] at hX ⊢
  generalize hA : setR Z 5 (cPlan S N N) = A at hX ⊢
  have A1 : ∀ q, q ≠ 5 → A.1 q = Z.1 q := fun q c => by rw [← hA, sR_1 c]
  have X1 : ∀ q, q ≠ 5 → q ≠ 76 → q ≠ 77 → X.1 q = Z.1 q := fun q a b c => by rw [hX, cPr_k A c b, A1 q a]
  have X2 : X.2 = Z.2 := by rw [hX, cPr_2, ← hA]; rfl
  have xs : ∀ q, q = 33 ∨ q = 34 ∨ q = 41 → (K0 X k).1 q = S.1 q := fun q hq => by rw [K0_1 X k (by omega) (by omega), X1 q (by omega) (by omega) (by omega), Z1 q (by omega) (by omega)]
  have x35 : (K0 X k).2 35 = S.2 35 := by rw [K0_2 X k (by decide), X2, Z2 35 (by decide)]
  have hQ : rPlan (K0 X k) N N = rPlan S N N := rPlan_of (xs 33 (by decide)) (xs 34 (by decide)) (xs 41 (by decide)) x35 N N
  generalize hB : rT0 (K0 X k) N = B
  have hB : setR (K0 X k) 41 (rPlan S N N) = B := by rw [← hB]; show _ = setR (K0 X k) 41 (rPlan (K0 X k) N N); rw [hQ]
  have B1 : ∀ q, q ≠ 41 → B.1 q = (K0 X k).1 q := fun q c => by rw [← hB, sR_1 c]
  have B2 : B.2 = (K0 X k).2 := by rw [← hB]; rfl
  obtain ⟨J1, -, J3, J4⟩ := match_joint hw (A := A) (B := B) (fun q hq h5 => by rw [A1 q h5, Z1 q (by omega) (by omega)]) (by rw [← hA, sR_e]) (fun q hq => by rw [← hA, sR_2, Z2 q (by omega)]) (by rw [B1 34 (by decide), xs 34 (by decide)]) (by rw [B1 33 (by decide), xs 33 (by decide)]) (by rw [← hB, sR_e]) (by rw [B2, x35]) N (Nat.le_refl _)
  rw [← hX] at J1
  generalize hT : (rMt B N).1 = T at J1 J4 ⊢
  refine ⟨?_, J3.symm⟩
  have hAR : AgR (K0 X k) T := by
    intro q a b c
    refine ⟨by rw [← hT, rMt_k B a N, B1 q c], by rw [← hT, rMt_2, B2]⟩
  have T1 : ∀ q, 44 ≤ q → T.1 q = X.1 q := fun q a => by rw [(hAR q (by omega) (by omega) (by omega)).1, K0_1 X k (by omega) (by omega)]
  have T2 : ∀ q, 44 ≤ q → T.2 q = X.2 q := fun q a => by rw [(hAR q (by omega) (by omega) (by omega)).2, K0_2 X k (by omega)]
  refine chg_items h hh (X := X) ?_ hAR (fun q a b c _ _ d e => by rw [X1 q c d e, Z1 q a b]) (fun q a _ _ _ => by rw [X2, Z2 q a]) (fun j hj => ?_) (fun j _ => by rw [← hT, rMt_2, B2, x35]) ?_
  · rw [hZ]
    intro q a b c d e
    exact ⟨X1 q a (by omega) (by omega), by rw [X2]⟩
  · rcases hj with hj | hj
    · rw [← hT, rMt_34 B (Or.inl hj) N, B1 34 (by decide), xs 34 (by decide)]
    · exact J4 j hj
  · exact It_chg (fun _ => False) J1 (fun j _ _ => ⟨by rw [T1 75 (by decide)], by rw [T1 76 (by decide)], by rw [T1 77 (by decide)], by rw [T2 78 (by decide)], by rw [T2 79 (by decide)]⟩) (fun j _ _ => ⟨fun _ _ => rfl, rfl, rfl, rfl⟩) (fun j _ => ⟨by rw [T1 45 (by decide)], by rw [T1 46 (by decide)], by rw [T1 47 (by decide)], by rw [T1 48 (by decide)]⟩) (fun _ _ _ _ _ _ _ q => q) (fun _ _ q => q.elim)
end CM
