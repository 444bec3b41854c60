/-! the run of matching on both sides -/
theorem bestOf_congr {p p' : Nat → Bool} {d d' : Nat → Int64} : ∀ {n : Nat}, (∀ j, j < n → p j = p' j) → (∀ j, j < n → d j = d' j) → bestOf p d n = bestOf p' d' n
  | 0, _, _ => rfl
  | n + 1, hp, hd => by
    have ih := bestOf_congr (n := n) (fun j hj => hp j (by omega)) (fun j hj => hd j (by omega))
    rw [bestOf, bestOf, ih, hp n (by omega)]
    cases hb : bestOf p' d' n with
    | none => rfl
    | some b =>
      have := (bestOf_lt n b hb).1
      simp only
      rw [hd b (by omega), hd n (by omega)]
/-- class cells of A, the reference's of B -/
def mix (A B : Mem) : Mem := (fun q => if 30 ≤ q ∧ q ≤ 43 then B.1 q else A.1 q, fun q => if 30 ≤ q ∧ q ≤ 43 then B.2 q else A.2 q)
theorem mix_r1 (A B : Mem) {q : Nat} (h : 30 ≤ q ∧ q ≤ 43) : (mix A B).1 q = B.1 q := if_pos h
theorem mix_r2 (A B : Mem) {q : Nat} (h : 30 ≤ q ∧ q ≤ 43) : (mix A B).2 q = B.2 q := if_pos h
theorem mix_c1 (A B : Mem) {q : Nat} (h : q < 30 ∨ 43 < q) : (mix A B).1 q = A.1 q := if_neg (by omega)
theorem mix_c2 (A B : Mem) {q : Nat} (h : q < 30 ∨ 43 < q) : (mix A B).2 q = A.2 q := if_neg (by omega)
section MT
variable {S : Mem} {un cn pn N M : Nat}
theorem Nw.dst (h : Nw S un cn pn N M) {i j : Nat} (hi : i < N) (hj : j < N) : rDst S i j = cDst S i j := by
  unfold rDst cDst; rw [h.val hi, h.val hj, abs_eq]
/-- a mirror of a receivable is a payable -/
theorem Nw.mirp (h : Nw S un cn pn N M) {i j : Nat} (hi : i < N) (hj : j < N) (hs : S.1 47 i = nI 0) (hm : cMir S i j = true) : S.1 47 j = nI 1 := by
  rcases h.sd hj with e | e
  · unfold cMir at hm
    rw [hs, e] at hm
    simp at hm
  · exact e
/-- what a plan is like behind i items -/
def PlOk (S : Mem) (N : Nat) (P : Nat → Int32) (i : Nat) : Prop :=
  (∀ j, j < N → i ≤ j → S.1 47 j = nI 0 → P j < 0) ∧ ∀ j, j < N → P j < 0 ∨ ∃ b, b < N ∧ P j = nI b ∧ P b = nI j ∧ S.1 76 j = nI 0 ∧ S.1 76 b = nI 0 ∧ ((S.1 47 j = nI 0 ∧ S.1 47 b = nI 1) ∨ (S.1 47 j = nI 1 ∧ S.1 47 b = nI 0))
theorem Nw.plan (h : Nw S un cn pn N M) : ∀ i, i ≤ N → PlOk S N (cPlan S N i) i ∧ ∀ j, j < N → rPlan S N i j = cPlan S N i j
  | 0, _ => by
    have hN := h.N100
    refine ⟨⟨fun j hj _ _ => ?_, fun j hj => Or.inl ?_⟩, fun j hj => ?_⟩
    · rw [cPlan]; unfold fI; rw [if_pos hj]; decide
    · rw [cPlan]; unfold fI; rw [if_pos hj]; decide
    · rw [cPlan, rPlan]; unfold fI; rw [if_pos hj, if_pos (by omega)]
  | i + 1, hi => by
    have hN := h.N100
    obtain ⟨⟨h1, h2⟩, h3⟩ := h.plan i (by omega)
    have hiN : i < N := by omega
    cases hs : cIs S i (nI 0) (nI 0) with
    | false =>
      rw [cPlan_no hs, rPlan_no (by rw [h.is_ hiN]; exact hs)]
      exact ⟨⟨fun j hj hij => h1 j hj (by omega), h2⟩, h3⟩
    | true =>
      have hsd : S.1 47 i = nI 0 := by unfold cIs at hs; simp at hs; exact hs.1
      have hst : S.1 76 i = nI 0 := by unfold cIs at hs; simp at hs; exact hs.2
      have hbe : bestOf (rFree (setR S 41 (rPlan S N i)) i) (rDst S i) N = bestOf (cFree (setR S 5 (cPlan S N i)) i) (cDst S i) N := by
        refine bestOf_congr (fun j hj => ?_) (fun j hj => h.dst hiN hj)
        show (rIs S j (nI 1) (nI 0) && !decide (0 ≤ (setR S 41 (rPlan S N i)).1 41 j) && rMir S i j) = (!decide (0 ≤ (setR S 5 (cPlan S N i)).1 5 j) && decide (S.1 76 j = 0) && cMir S i j)
        rw [sR_e, sR_e, h3 j hj, h.is_ hj, h.mir hiN hj]
        cases hm : cMir S i j with
        | false => rw [Bool.and_false, Bool.and_false]
        | true =>
          have := h.mirp hiN hj hsd hm
          unfold cIs
          rw [this, decide_eq_true rfl, Bool.true_and, Bool.and_true, Bool.and_true, Bool.and_comm]
          rfl
      cases hb : bestOf (cFree (setR S 5 (cPlan S N i)) i) (cDst S i) N with
      | none =>
        rw [cPlan_none hb, rPlan_none (hbe.trans hb)]
        exact ⟨⟨fun j hj hij => h1 j hj (by omega), h2⟩, h3⟩
      | some b =>
        obtain ⟨hbN, hbf⟩ := bestOf_lt N b hb
        have hbf : (!decide (0 ≤ (setR S 5 (cPlan S N i)).1 5 b) && decide (S.1 76 b = 0) && cMir S i b) = true := hbf
        rw [sR_e] at hbf
        simp only [Bool.and_eq_true, Bool.not_eq_true', decide_eq_false_iff_not, decide_eq_true_eq] at hbf
        obtain ⟨⟨hb1, hb2⟩, hb3⟩ := hbf
        have hbs := h.mirp hiN hbN hsd hb3
        have hib : i ≠ b := fun e => by rw [e, hbs] at hsd; exact absurd hsd (by decide)
        have hpi : cPlan S N i i < 0 := h1 i hiN (Nat.le_refl _) hsd
        rw [cPlan_some hs hb, rPlan_some (by rw [h.is_ hiN]; exact hs) (hbe.trans hb)]
        refine ⟨⟨fun j hj hij hjs => ?_, fun j hj => ?_⟩, fun j hj => ?_⟩
        · have hjb : j ≠ b := fun e => by rw [e, hbs] at hjs; exact absurd hjs (by decide)
          rw [pk_un hjb, pk_un (by omega)]
          exact h1 j hj (by omega) hjs
        · by_cases ejb : j = b
          · subst ejb
            refine Or.inr ⟨i, hiN, by rw [pk_us], by rw [pk_un hib, pk_us], hb2, hst, Or.inr ⟨hbs, hsd⟩⟩
          · by_cases eji : j = i
            · subst eji
              refine Or.inr ⟨b, hbN, by rw [pk_un ejb, pk_us], by rw [pk_us], hst, hb2, Or.inl ⟨hsd, hbs⟩⟩
            · rw [pk_un ejb, pk_un eji]
              rcases h2 j hj with h4 | ⟨c, hc, e1, e2, e3, e4, e5⟩
              · exact Or.inl h4
              · right
                have hcb : c ≠ b := fun e => by
                  rw [e] at e2
                  exact hb1 (by rw [e2]; exact nI_pos' (by omega))
                have hci : c ≠ i := fun e => by
                  rw [e] at e2
                  rw [e2] at hpi
                  exact absurd hpi (nI_pos (by omega))
                exact ⟨c, hc, e1, by rw [pk_un hcb, pk_un hci]; exact e2, e3, e4, e5⟩
        · by_cases ejb : j = b
          · subst ejb; rw [pk_us, pk_us]
          · rw [pk_un ejb, pk_un ejb]
            by_cases eji : j = i
            · subst eji; rw [pk_us, pk_us]
            · rw [pk_un eji, pk_un eji]; exact h3 j hj
theorem Nw.widE (h : Nw S un cn pn N M) : ∀ i, i ≤ N → rWid (setR S 41 (rPlan S N N)) i = cWid (setR S 5 (cPlan S N N)) i
  | 0, _ => rfl
  | i + 1, hi => by
    have hN := h.N100
    have ih := h.widE i (by omega)
    obtain ⟨⟨-, h2⟩, h3⟩ := h.plan N (Nat.le_refl _)
    have hiN : i < N := by omega
    rw [rWid, cWid, ih, sR_e, sR_e, h3 i hiN]
    by_cases hn : cPlan S N N i < 0
    · rw [if_pos hn, if_pos hn]
    · rw [if_neg hn, if_neg hn]
      rcases h2 i hiN with h4 | ⟨b, hb, e1, -⟩
      · exact absurd h4 hn
      · have e5 : gN (cPlan S N N i) = b := by rw [e1, gN_nI (by omega)]
        rw [e5]
        have e6 : absL (rVal (setR S 41 (rPlan S N N)) i - rVal (setR S 41 (rPlan S N N)) b) = cDst (setR S 5 (cPlan S N N)) i b := by
          show absL (rVal S i - rVal S b) = cDst S i b
          exact h.dst hiN hb
        rw [e6]
        unfold mxL
        by_cases hle : cDst (setR S 5 (cPlan S N N)) i b ≤ cWid (setR S 5 (cPlan S N N)) i
        · rw [if_pos hle]
          by_cases hlt : cDst (setR S 5 (cPlan S N N)) i b < cWid (setR S 5 (cPlan S N N)) i
          · rw [if_pos hlt]
          · rw [if_neg hlt]
            exact Int64.le_antisymm (Int64.not_lt.mp hlt) hle
        · rw [if_neg hle, if_neg (fun q => hle (Int64.le_of_lt q))]
end MT
