/-! the text on both sides: tokens, numbers, statements -/
theorem farF_congr {q : Int32 → Bool} {f f' : Nat → Int32} {n : Nat} (h : ∀ k, k < n → f k = f' k) : ∀ k p, p + k ≤ n → farF q f n k p = farF q f' n k p
  | 0, p, _ => rfl
  | k + 1, p, hp => by
    rw [farF, farF, h p (by omega), farF_congr h k (p + 1) (by omega)]
theorem far_congr {q : Int32 → Bool} {f f' : Nat → Int32} {n p : Nat} (h : ∀ k, k < n → f k = f' k) (hp : p ≤ n) : far q f n p = far q f' n p := by
  unfold far; exact farF_congr h (n - p) p (by omega)
theorem farF_in {q : Int32 → Bool} {f : Nat → Int32} {n : Nat} : ∀ k p i, p ≤ i → i < farF q f n k p → q (f i) = true
  | 0, p, i, h1, h2 => by rw [farF] at h2; omega
  | k + 1, p, i, h1, h2 => by
    rw [farF] at h2
    by_cases e : q (f p) = true
    · rw [if_pos e] at h2
      by_cases e2 : i = p
      · rw [e2]; exact e
      · exact farF_in k (p + 1) i (by omega) h2
    · rw [if_neg e] at h2; omega
theorem tS_congr {f f' : Nat → Int32} {n p : Nat} (h : ∀ k, k < n → f k = f' k) (hp : p ≤ n) : tS f n p = tS f' n p := far_congr h hp
theorem tE_congr {f f' : Nat → Int32} {n p : Nat} (h : ∀ k, k < n → f k = f' k) (hp : p ≤ n) : tE f n p = tE f' n p := by
  have hs := tS_congr h hp
  have hl := tS_le (f := f) hp
  unfold tE
  rw [← hs]
  by_cases e : n ≤ tS f n p
  · rw [if_pos e, if_pos e]
  · rw [if_neg e, if_neg e, ← h (tS f n p) (by omega), far_congr (q := inR (nI 97) (nI 122)) (p := tS f n p + 1) h (by omega), far_congr (q := inR (nI 48) (nI 57)) (p := tS f n p + 1) h (by omega)]
theorem tK_congr {f f' : Nat → Int32} {n p : Nat} (h : ∀ k, k < n → f k = f' k) (hp : p ≤ n) : tK f n p = tK f' n p := by
  have hs := tS_congr h hp
  have he := tE_congr h hp
  have hl := tS_le (f := f) hp
  unfold tK
  rw [← hs, ← he]
  by_cases e : n ≤ tS f n p
  · rw [if_pos e, if_pos e]
  · rw [if_neg e, if_neg e, ← h (tS f n p) (by omega)]
theorem tN_2 {f : Nat → Int32} {n p : Nat} (hp : p ≤ n) (h : tK f n p = 2) (old : Int32) : tN f n p old = nmb f (tS f n p) (tE f n p - tS f n p) ∧ tE f n p - tS f n p ≤ 4 ∧ ∀ j, j < tE f n p - tS f n p → inR (nI 48) (nI 57) (f (tS f n p + j)) = true := by
  by_cases e : n ≤ tS f n p
  · rw [tK_end e] at h; exact absurd h (by decide)
  · cases w : inR (nI 97) (nI 122) (f (tS f n p)) with
    | true => rw [tK_w e w] at h; split at h <;> exact absurd h (by decide)
    | false =>
      cases w2 : inR (nI 48) (nI 57) (f (tS f n p)) with
      | true =>
        rw [tK_d e w w2] at h
        have h4 : ¬ 4 < tE f n p - tS f n p := fun z => by rw [if_pos z] at h; exact absurd h (by decide)
        refine ⟨?_, by omega, fun j hj => ?_⟩
        · unfold tN; rw [if_neg e, if_neg (by rw [w]; decide), if_pos w2]
        · rw [tE_d e w w2] at hj
          by_cases j0 : j = 0
          · rw [j0]; exact w2
          · refine farF_in (q := inR (nI 48) (nI 57)) (f := f) (n := n) (n - (tS f n p + 1)) (tS f n p + 1) (tS f n p + j) (by omega) ?_
            show tS f n p + j < far (inR (nI 48) (nI 57)) f n (tS f n p + 1)
            omega
      | false => rw [tK_o e w w2] at h; split at h <;> exact absurd h (by decide)
theorem by_dg : ∀ i, i < 256 → inR (nI 48) (nI 57) (nI i - nI 128) = true → (nI i - nI 128) &&& nI 255 = nI i - nI 128 := by decide +kernel
theorem nmb_c10 {f f' : Nat → Int32} {s : Nat} : ∀ k, k ≤ 4 → (∀ j, j < k → f (s + j) = f' (s + j) ∧ (f (s + j) &&& nI 255) = f (s + j)) → nmb f s k = c10 f' s k
  | 0, _, _ => rfl
  | k + 1, hk, h => by
    rw [nmb, c10, if_pos (by omega), nmb_c10 k (by omega) (fun j hj => h j (by omega)), (h k (by omega)).2, (h k (by omega)).1]
    generalize c10 f' s k = x
    generalize f' (s + k) = y
    rw [Int32.mul_comm, Int32.sub_eq_add_neg, Int32.sub_eq_add_neg, Int32.add_assoc]
/-- both readers stand at the same token, neither has refused -/
def TR (n : Nat) (U V : Mem) : Prop := okP U ∧ okQ V ∧ (U.1 1 3 = nI n ∧ V.1 30 3 = nI n ∧ n ≤ 600) ∧ (∀ k, k < n → V.1 31 k = U.1 2 k) ∧ (V.1 30 4 = U.1 1 5 ∧ V.1 30 5 = U.1 1 6 ∧ V.1 30 6 = U.1 1 4 ∧ (U.1 1 4 = nI 2 → V.1 30 7 = cVl U)) ∧ U.1 1 7 = 0 ∧ V.1 30 8 = 0
/-- both have refused, with the same answer -/
def ER (U V : Mem) : Prop := ¬ U.1 1 7 = 0 ∧ ¬ V.1 30 8 = 0 ∧ U.1 1 7 = (-2) - (nI 8 * V.1 30 9 + V.1 30 8)
theorem TR_of {n : Nat} {U V U' V' : Mem} (h : TR n U V) (e1 : ∀ j, j < 8 → U'.1 1 j = U.1 1 j) (e2 : U'.1 2 = U.1 2) (e3 : ∀ j, j < 9 → V'.1 30 j = V.1 30 j) (e4 : V'.1 31 = V.1 31) : TR n U' V' := by
  obtain ⟨a, b, ⟨c1, c2, c3⟩, d, ⟨g1, g2, g3, g4⟩, i, j⟩ := h
  have ev : cVl U' = cVl U := by unfold cVl; rw [e2, e1 5 (by decide), e1 6 (by decide)]
  refine ⟨okP_of a (e1 3 (by decide)) (e1 5 (by decide)) (e1 6 (by decide)), okQ_of b (e3 3 (by decide)) (e3 4 (by decide)) (e3 5 (by decide)) e4, ⟨by rw [e1 3 (by decide)]; exact c1, by rw [e3 3 (by decide)]; exact c2, c3⟩, fun k hk => by rw [e4, e2]; exact d k hk, ⟨by rw [e3 4 (by decide), e1 5 (by decide)]; exact g1, by rw [e3 5 (by decide), e1 6 (by decide)]; exact g2, by rw [e3 6 (by decide), e1 4 (by decide)]; exact g3, fun h2 => ?_⟩, by rw [e1 7 (by decide)]; exact i, by rw [e3 8 (by decide)]; exact j⟩
  rw [e1 4 (by decide)] at h2
  rw [e3 7 (by decide), ev]; exact g4 h2
theorem ER_of {U V U' V' : Mem} (h : ER U V) (e1 : U'.1 1 7 = U.1 1 7) (e2 : V'.1 30 8 = V.1 30 8) (e3 : V'.1 30 9 = V.1 30 9) : ER U' V' := by unfold ER; rw [e1, e2, e3]; exact h
theorem TR_tk0 {n : Nat} {U V : Mem} (a : okP (tk U)) (b : okQ (rt V)) (c1 : U.1 1 3 = nI n) (c2 : V.1 30 3 = nI n) (c3 : n ≤ 600) (d : ∀ k, k < n → V.1 31 k = U.1 2 k) (hB : okB V) (g2 : V.1 30 5 = U.1 1 6) (hp : gN (U.1 1 6) ≤ n) (e7 : U.1 1 7 = 0) (e8 : V.1 30 8 = 0) : TR n (tk U) (rt V) := by
  have n3 : gN (U.1 1 3) = n := by rw [c1, gN_nI (by omega)]
  have n3' : gN (V.1 30 3) = n := by rw [c2, gN_nI (by omega)]
  have tf := tk_f U
  have rf := rt_f V
  rw [n3] at tf
  rw [n3', g2] at rf
  generalize gN (U.1 1 6) = p at tf rf hp
  have es := tS_congr d hp
  have ee := tE_congr d hp
  have ek := tK_congr d hp
  have hs := tS_le (f := U.1 2) hp
  have he := tE_le (f := U.1 2) hp
  have u4 : (tk U).1 1 4 = nI (tK (U.1 2) n p) := by rw [tf]; rfl
  have u5 : (tk U).1 1 5 = nI (tS (U.1 2) n p) := by rw [tf]; rfl
  have u6 : (tk U).1 1 6 = nI (tE (U.1 2) n p) := by rw [tf]; rfl
  refine ⟨a, b, ⟨by rw [tf]; exact c1, by rw [rf]; exact c2, c3⟩, fun k hk => by rw [rt_k V (by decide), tk_k U (by decide)]; exact d k hk, ⟨?_, ?_, ?_, fun h2 => ?_⟩, by rw [tf]; exact e7, by rw [rf]; exact e8⟩
  · rw [rf, u5, ← es]; rfl
  · rw [rf, u6, ← ee]; rfl
  · rw [rf, u4, ← ek]; rfl
  · rw [u4] at h2
    have k2 : tK (V.1 31) n p = 2 := by
      rw [ek]
      exact (nI_eq (by have := tK_lt (U.1 2) n p; omega) (by decide)).mp h2
    obtain ⟨t1, t2, t3⟩ := tN_2 hp k2 (V.1 30 7)
    have v7 : (rt V).1 30 7 = tN (V.1 31) n p (V.1 30 7) := by rw [rf]; rfl
    rw [v7, t1]
    unfold cVl
    rw [u5, u6, tk_k U (by decide), gN_nI (by omega), gN_nI (by omega), ← es, ← ee]
    refine nmb_c10 _ t2 (fun j hj => ⟨d _ (by omega), ?_⟩)
    obtain ⟨i, hi, hx⟩ := hB (tS (V.1 31) n p + j) (by omega)
    have h3 := t3 j hj
    rw [hx] at h3 ⊢
    exact by_dg i hi h3
theorem TR_tk {n : Nat} {U V : Mem} (h : TR n U V) : TR n (tk U) (rt V) := by
  obtain ⟨a, b, ⟨c1, c2, c3⟩, d, ⟨g1, g2, g3, g4⟩, i, j⟩ := h
  have hp : gN (U.1 1 6) ≤ n := by
    have := a.2.2.2.1
    rw [c1, gN_nI (by omega)] at this
    exact this
  exact TR_tk0 (okP_tk a) (okQ_rt b.1) c1 c2 c3 d b.1.2.2.2.2 g2 hp i j
theorem rMu_1 (V : Mem) (x : Int32) : rMu V true x = V := by unfold rMu; split <;> rfl
theorem rMu_e {V : Mem} {b : Bool} {x : Int32} (h : ¬ V.1 30 8 = 0) : rMu V b x = V := by unfold rMu; rw [if_neg h]
theorem rOk_t {V : Mem} (h : V.1 30 8 = 0) : rOk V = true := decide_eq_true h
theorem rOk_f {V : Mem} (h : ¬ V.1 30 8 = 0) : ¬ rOk V = true := fun z => h (of_decide_eq_true z)
theorem ER_ref {n : Nat} {U V : Mem} (h : TR n U V) (x : Nat) (hx : x < 5) (h0 : 0 < x) : ER (cRef U (nI x)) (rMu V false (nI x)) := by
  have e0 : rMu V false (nI x) = setI (setI V 30 8 (nI x)) 30 9 (V.1 30 4) := by unfold rMu; rw [if_pos h.2.2.2.2.2.2]; rfl
  have e8 : (rMu V false (nI x)).1 30 8 = nI x := by rw [e0, sI_e, pk_un (by decide), sI_e, pk_us]
  have e9 : (rMu V false (nI x)).1 30 9 = U.1 1 5 := by rw [e0, sI_e, pk_us]; exact h.2.2.2.2.1.1
  refine ⟨cRef_ne h.1 hx, by rw [e8]; exact nI_ne0 h0 (by omega), ?_⟩
  rw [e8, e9]
  unfold cRef; rw [sI_e, pk_us]
theorem wi_le (x lo hi : Int32) : wiL x.toInt64 lo.toInt64 hi.toInt64 = (!decide (x < lo) && decide (x ≤ hi)) := by
  unfold wiL
  have h1 : decide (x.toInt64 < lo.toInt64) = decide (x < lo) := decide_eq_decide.mpr ((i64_lt x lo).trans Int32.lt_iff_toInt_lt.symm)
  have h2 : decide (hi.toInt64 < x.toInt64) = !decide (x ≤ hi) := by
    rw [← decide_not]
    refine decide_eq_decide.mpr ((i64_lt hi x).trans ?_)
    rw [Int32.le_iff_toInt_le]
    omega
  rw [h1, h2, Bool.not_not]
theorem rRd_e {Y : Mem} {lo hi : Int32} (h : ¬ Y.1 30 8 = 0) : rRd Y lo hi = (Y, lo) := by
  have r : rR1 Y = Y := by unfold rR1; exact rMu_e h
  unfold rRd; rw [r, if_neg (rOk_f h)]
/-- in step, and P; or both refused -/
def PV (n : Nat) (X Y : Mem) (P : Prop) : Prop := (TR n X Y ∧ P) ∨ ER X Y
theorem TR_num {n : Nat} {U V : Mem} (h : TR n U V) (lo hi : Int32) : PV n (cNum U lo hi).1 (rRd V lo hi).1 ((rRd V lo hi).2 = (cNum U lo hi).2 ∧ ¬ (cNum U lo hi).2 < lo ∧ (cNum U lo hi).2 ≤ hi) := by
  obtain ⟨-, -, -, -, ⟨-, -, g3, g4⟩, e7, e8⟩ := id h
  by_cases k2 : U.1 1 4 = nI 2
  · have r1 : rR1 V = V := by unfold rR1; rw [g3, decide_eq_true k2, rMu_1]
    have r2 : rR2 V lo hi = rMu V (!decide (cVl U < lo) && decide (cVl U ≤ hi)) (nI 3) := by unfold rR2; rw [r1, g4 k2, wi_le]
    by_cases a : cVl U < lo
    · have ec : cNum U lo hi = (cRef U (nI 3), nI 0) := by unfold cNum; rw [if_pos e7, if_pos k2, if_pos a]
      have r3 : rR2 V lo hi = rMu V false (nI 3) := by rw [r2, decide_eq_true a]; rfl
      have hE := ER_ref h 3 (by decide) (by decide)
      have er : rRd V lo hi = (rMu V false (nI 3), lo) := by unfold rRd; rw [r1, if_pos (rOk_t e8), r3, if_neg (rOk_f hE.2.1)]
      rw [ec, er]; exact Or.inr hE
    · by_cases b : cVl U ≤ hi
      · have ec : cNum U lo hi = (tk U, cVl U) := by unfold cNum; rw [if_pos e7, if_pos k2, if_neg a, if_pos b]
        have r3 : rR2 V lo hi = V := by rw [r2, decide_eq_false a, decide_eq_true b]; exact rMu_1 _ _
        have er : rRd V lo hi = (rt V, cVl U) := by unfold rRd; rw [r1, if_pos (rOk_t e8), r3, if_pos (rOk_t e8), g4 k2]
        rw [ec, er]; exact Or.inl ⟨TR_tk h, rfl, a, b⟩
      · have ec : cNum U lo hi = (cRef U (nI 3), nI 0) := by unfold cNum; rw [if_pos e7, if_pos k2, if_neg a, if_neg b]
        have r3 : rR2 V lo hi = rMu V false (nI 3) := by rw [r2, decide_eq_false b, Bool.and_false]
        have hE := ER_ref h 3 (by decide) (by decide)
        have er : rRd V lo hi = (rMu V false (nI 3), lo) := by unfold rRd; rw [r1, if_pos (rOk_t e8), r3, if_neg (rOk_f hE.2.1)]
        rw [ec, er]; exact Or.inr hE
  · have ec : cNum U lo hi = (cRef U (nI 1), nI 0) := by unfold cNum; rw [if_pos e7, if_neg k2]
    have r1 : rR1 V = rMu V false (nI 1) := by unfold rR1; rw [g3, decide_eq_false k2]
    have hE := ER_ref h 1 (by decide) (by decide)
    have er : rRd V lo hi = (rMu V false (nI 1), lo) := by unfold rRd; rw [r1, if_neg (rOk_f hE.2.1)]
    rw [ec, er]; exact Or.inr hE
theorem TR_32 {n : Nat} {X Y : Mem} (h : TR n X Y) {j : Nat} {x : Int32} : TR n X (setI Y 32 j x) := TR_of h (fun _ _ => rfl) rfl (fun _ _ => by rw [sI_1 (by decide)]) (by rw [sI_1 (by decide)])
theorem ER_32 {X Y : Mem} (h : ER X Y) {j : Nat} {x : Int32} : ER X (setI Y 32 j x) := ER_of h rfl (by rw [sI_1 (by decide)]) (by rw [sI_1 (by decide)])
theorem PV_num {n : Nat} {X Y : Mem} {P : Prop} (h : PV n X Y P) (lo lo' hi : Int32) (hl : P → lo' = lo) (j : Nat) : PV n (cNum X lo hi).1 (setI (rRd Y lo' hi).1 32 j (rRd Y lo' hi).2) (P ∧ (rRd Y lo' hi).2 = (cNum X lo hi).2 ∧ ¬ (cNum X lo hi).2 < lo ∧ (cNum X lo hi).2 ≤ hi) := by
  rcases h with ⟨h, hP⟩ | h
  · rw [hl hP]
    rcases TR_num h lo hi with ⟨h1, h2⟩ | h1
    · exact Or.inl ⟨TR_32 h1, hP, h2⟩
    · exact Or.inr (ER_32 h1)
  · rw [cNum_e h.1, rRd_e h.2.1]; exact Or.inr (ER_32 h)
theorem PV_32 {n : Nat} {X Y : Mem} {P : Prop} (h : PV n X Y P) (j : Nat) (x : Int32) : PV n X (setI Y 32 j x) P := by
  rcases h with ⟨h, hP⟩ | h
  · exact Or.inl ⟨TR_32 h, hP⟩
  · exact Or.inr (ER_32 h)
/-- the semicolon, and the next token -/
theorem stp {n : Nat} {V X Y : Mem} {P : Prop} (hY : rStm V = Y) (h : PV n X Y P) : (P ∧ TR n (cSc X) (rt Y) ∧ rStep V = rt Y) ∨ ER (cSc X) (rStep V) := by
  rcases h with ⟨h, hP⟩ | h
  · obtain ⟨-, -, -, -, ⟨-, -, g3, -⟩, e7, e8⟩ := id h
    by_cases k3 : X.1 1 4 = nI 3
    · have ec : cSc X = tk X := by unfold cSc; rw [if_pos e7, if_pos k3]
      have es : rS2 V = Y := by unfold rS2; rw [hY, g3, decide_eq_true k3, rMu_1]
      left
      rw [ec]
      exact ⟨hP, TR_tk h, by unfold rStep; rw [es, if_pos (rOk_t e8)]⟩
    · have ec : cSc X = cRef X (nI 1) := by unfold cSc; rw [if_pos e7, if_neg k3]
      have es : rS2 V = rMu Y false (nI 1) := by unfold rS2; rw [hY, g3, decide_eq_false k3]
      have hE := ER_ref h 1 (by decide) (by decide)
      right
      have e2 : rStep V = rMu Y false (nI 1) := by unfold rStep; rw [es, if_neg (rOk_f hE.2.1)]
      rw [ec, e2]; exact hE
  · right
    have es : rS2 V = Y := by unfold rS2; rw [hY, rMu_e h.2.1]
    have e2 : rStep V = Y := by unfold rStep; rw [es, if_neg (rOk_f h.2.1)]
    rw [cSc_e h.1, e2]; exact h
theorem fin_ref {V X Y : Mem} (hY : rStm V = Y) (h : ER X Y) : ER X (rStep V) := by
  have es : rS2 V = Y := by unfold rS2; rw [hY, rMu_e h.2.1]
  have e2 : rStep V = Y := by unfold rStep; rw [es, if_neg (rOk_f h.2.1)]
  rw [e2]; exact h
/-! the drafts -/
def cm (x y z : Bool) : Int32 := nI ((if x then 1 else 0) + (if y then 2 else 0) + (if z then 4 else 0))
def DG (U V : Mem) : Prop := (∀ j, j < 6 → V.1 32 j = U.1 16 j) ∧ V.1 30 12 = cm (flB (U.1 1 8)) (flB (U.1 1 9)) (flB (U.1 1 10)) ∧ (∀ k, k < gN (U.1 16 0) → V.1 32 (6 + k) = U.1 17 k ∧ nI 1 ≤ U.1 17 k) ∧ (∀ k, k < gN (U.1 16 1) → V.1 32 (10 + k) = U.1 18 k ∧ okI (U.1 18 k) (gN (U.1 16 0))) ∧
  (∀ k, k < gN (U.1 16 2) → V.1 32 (16 + k) = U.1 19 k ∧ V.1 32 (22 + k) = U.1 20 k ∧ V.1 32 (22 + k) + V.1 32 (22 + k) * V.1 32 (28 + k) / nI 100 = U.1 21 k ∧ V.1 32 (22 + k) + V.1 32 (22 + k) * V.1 32 (34 + k) / nI 100 = U.1 22 k)
theorem fin_add {n : Nat} {V X Y T : Mem} {P : Prop} (hY : rStm V = Y) (h : PV n X Y P) (hT : P → TR n (cSc X) (rt Y) → TR n T (rt Y) ∧ DG T (rt Y)) : (TR n (cFin X T) (rStep V) ∧ DG (cFin X T) (rStep V)) ∨ ER (cFin X T) (rStep V) := by
  rcases stp hY h with ⟨hP, h1, h2⟩ | h1
  · left
    have ec : cFin X T = T := by unfold cFin; rw [if_pos h1.2.2.2.2.2.1]
    rw [ec, h2]; exact hT hP h1
  · right
    have ec : cFin X T = cSc X := by unfold cFin; rw [if_neg h1.1]
    rw [ec]; exact h1
theorem DG_cur {U V T W : Mem} {k : Nat} {v : Int32} (h : DG U V) (hk : U.1 16 0 = nI k) (hk4 : k < 4) (hok : okDr U) (hv : nI 1 ≤ v) (t16 : T.1 16 = upd (U.1 16) 0 (nI (k + 1))) (t17 : T.1 17 = upd (U.1 17) k v) (to : ∀ q, 18 ≤ q → q ≤ 22 → T.1 q = U.1 q) (t1 : ∀ j, 8 ≤ j → T.1 1 j = U.1 1 j) (w32 : W.1 32 = upd (upd (V.1 32) (6 + k) v) 0 (nI (k + 1))) (w12 : W.1 30 12 = V.1 30 12) : DG T W := by
  obtain ⟨a1, a2, a3, a4, a5⟩ := h
  have g0 : gN (U.1 16 0) = k := by rw [hk, gN_nI (by omega)]
  have g0' : gN (T.1 16 0) = k + 1 := by rw [t16, pk_us, gN_nI (by omega)]
  have b1 := hok.2.1.2
  have b2 := hok.2.2.1.2
  have hW : ∀ j, j ≠ 0 → j ≠ 6 + k → W.1 32 j = V.1 32 j := fun j x y => by rw [w32, pk_un x, pk_un y]
  refine ⟨fun j hj => ?_, by rw [w12, t1 8 (by decide), t1 9 (by decide), t1 10 (by decide)]; exact a2, fun m hm => ?_, fun m hm => ?_, fun m hm => ?_⟩
  · by_cases e : j = 0
    · rw [e, w32, t16, pk_us, pk_us]
    · rw [hW j e (by omega), t16, pk_un e]; exact a1 j hj
  · rw [g0'] at hm
    by_cases e : m = k
    · rw [e, w32, pk_un (by omega), pk_us, t17, pk_us]; exact ⟨rfl, hv⟩
    · rw [hW _ (by omega) (by omega), t17, pk_un e]; exact a3 m (by omega)
  · rw [t16, pk_un (by decide)] at hm
    rw [hW _ (by omega) (by omega), to 18 (by decide) (by decide), g0']
    have := a4 m hm
    rw [g0] at this
    exact ⟨this.1, okI_le this.2 (by omega)⟩
  · rw [t16, pk_un (by decide)] at hm
    rw [hW _ (by omega) (by omega), hW _ (by omega) (by omega), hW _ (by omega) (by omega), hW _ (by omega) (by omega), to 19 (by decide) (by decide), to 20 (by decide) (by decide), to 21 (by decide) (by decide), to 22 (by decide) (by decide)]
    exact a5 m hm
theorem DG_com {U V T W : Mem} {k : Nat} {v : Int32} (h : DG U V) (hk : U.1 16 1 = nI k) (hk4 : k < 6) (hok : okDr U) (hv : okI v (gN (U.1 16 0))) (t16 : T.1 16 = upd (U.1 16) 1 (nI (k + 1))) (t18 : T.1 18 = upd (U.1 18) k v) (to : ∀ q, 17 ≤ q → q ≤ 22 → q ≠ 18 → T.1 q = U.1 q) (t1 : ∀ j, 8 ≤ j → T.1 1 j = U.1 1 j) (w32 : W.1 32 = upd (upd (V.1 32) (10 + k) v) 1 (nI (k + 1))) (w12 : W.1 30 12 = V.1 30 12) : DG T W := by
  obtain ⟨a1, a2, a3, a4, a5⟩ := h
  have g0 : gN (U.1 16 1) = k := by rw [hk, gN_nI (by omega)]
  have g0' : gN (T.1 16 1) = k + 1 := by rw [t16, pk_us, gN_nI (by omega)]
  have b1 := hok.1.2
  have b2 := hok.2.2.1.2
  have hW : ∀ j, j ≠ 1 → j ≠ 10 + k → W.1 32 j = V.1 32 j := fun j x y => by rw [w32, pk_un x, pk_un y]
  have g9 : gN (T.1 16 0) = gN (U.1 16 0) := by rw [t16, pk_un (by decide)]
  refine ⟨fun j hj => ?_, by rw [w12, t1 8 (by decide), t1 9 (by decide), t1 10 (by decide)]; exact a2, fun m hm => ?_, fun m hm => ?_, fun m hm => ?_⟩
  · by_cases e : j = 1
    · rw [e, w32, t16, pk_us, pk_us]
    · rw [hW j e (by omega), t16, pk_un e]; exact a1 j hj
  · rw [g9] at hm
    rw [hW _ (by omega) (by omega), to 17 (by decide) (by decide) (by decide)]; exact a3 m hm
  · rw [g0'] at hm
    rw [g9]
    by_cases e : m = k
    · rw [e, w32, pk_un (by omega), pk_us, t18, pk_us]; exact ⟨rfl, hv⟩
    · rw [hW _ (by omega) (by omega), t18, pk_un e]; exact a4 m (by omega)
  · rw [t16, pk_un (by decide)] at hm
    rw [hW _ (by omega) (by omega), hW _ (by omega) (by omega), hW _ (by omega) (by omega), hW _ (by omega) (by omega), to 19 (by decide) (by decide) (by decide), to 20 (by decide) (by decide) (by decide), to 21 (by decide) (by decide) (by decide), to 22 (by decide) (by decide) (by decide)]
    exact a5 m hm
theorem DG_pro {U V T W : Mem} {k : Nat} {x y u v : Int32} (h : DG U V) (hk : U.1 16 2 = nI k) (hk4 : k < 6) (hok : okDr U) (t16 : T.1 16 = upd (U.1 16) 2 (nI (k + 1))) (t17 : T.1 17 = U.1 17) (t18 : T.1 18 = U.1 18) (t19 : T.1 19 = upd (U.1 19) k x) (t20 : T.1 20 = upd (U.1 20) k y) (t21 : T.1 21 = upd (U.1 21) k (y + y * u / nI 100)) (t22 : T.1 22 = upd (U.1 22) k (y + y * v / nI 100)) (t1 : ∀ j, 8 ≤ j → T.1 1 j = U.1 1 j) (w32 : W.1 32 = upd (upd (upd (upd (upd (V.1 32) (16 + k) x) (22 + k) y) (28 + k) u) (34 + k) v) 2 (nI (k + 1))) (w12 : W.1 30 12 = V.1 30 12) : DG T W := by
  obtain ⟨a1, a2, a3, a4, a5⟩ := h
  have g0 : gN (U.1 16 2) = k := by rw [hk, gN_nI (by omega)]
  have g0' : gN (T.1 16 2) = k + 1 := by rw [t16, pk_us, gN_nI (by omega)]
  have b1 := hok.1.2
  have b2 := hok.2.1.2
  have hW : ∀ j, j ≠ 2 → j ≠ 16 + k → j ≠ 22 + k → j ≠ 28 + k → j ≠ 34 + k → W.1 32 j = V.1 32 j := fun j z1 z2 z3 z4 z5 => by rw [w32, pk_un z1, pk_un z5, pk_un z4, pk_un z3, pk_un z2]
  have g9 : gN (T.1 16 0) = gN (U.1 16 0) := by rw [t16, pk_un (by decide)]
  have g8 : gN (T.1 16 1) = gN (U.1 16 1) := by rw [t16, pk_un (by decide)]
  refine ⟨fun j hj => ?_, by rw [w12, t1 8 (by decide), t1 9 (by decide), t1 10 (by decide)]; exact a2, fun m hm => ?_, fun m hm => ?_, fun m hm => ?_⟩
  · by_cases e : j = 2
    · rw [e, w32, t16, pk_us, pk_us]
    · rw [hW j e (by omega) (by omega) (by omega) (by omega), t16, pk_un e]; exact a1 j hj
  · rw [g9] at hm
    rw [hW _ (by omega) (by omega) (by omega) (by omega) (by omega), t17]; exact a3 m hm
  · rw [g8] at hm
    rw [g9, hW _ (by omega) (by omega) (by omega) (by omega) (by omega), t18]; exact a4 m hm
  · rw [g0'] at hm
    by_cases e : m = k
    · have w1 : W.1 32 (16 + k) = x := by rw [w32, pk_un (by omega), pk_un (by omega), pk_un (by omega), pk_un (by omega), pk_us]
      have w2 : W.1 32 (22 + k) = y := by rw [w32, pk_un (by omega), pk_un (by omega), pk_un (by omega), pk_us]
      have w3 : W.1 32 (28 + k) = u := by rw [w32, pk_un (by omega), pk_un (by omega), pk_us]
      have w4 : W.1 32 (34 + k) = v := by rw [w32, pk_un (by omega), pk_us]
      rw [e, w1, w2, w3, w4, t19, t20, t21, t22, pk_us, pk_us, pk_us, pk_us]
      exact ⟨rfl, rfl, rfl, rfl⟩
    · rw [hW (16 + m) (by omega) (by omega) (by omega) (by omega) (by omega), hW (22 + m) (by omega) (by omega) (by omega) (by omega) (by omega), hW (28 + m) (by omega) (by omega) (by omega) (by omega) (by omega), hW (34 + m) (by omega) (by omega) (by omega) (by omega) (by omega), t19, t20, t21, t22, pk_un e, pk_un e, pk_un e, pk_un e]
      exact a5 m (by omega)
theorem DG_oc {U V T W : Mem} {g : Nat} {v : Int32} (h : DG U V) (hok : okDr U) (hg : 3 ≤ g) (hg2 : g ≤ 5) (t16 : T.1 16 = upd (U.1 16) g v) (to : ∀ q, 17 ≤ q → q ≤ 22 → T.1 q = U.1 q) (w32 : W.1 32 = upd (V.1 32) g v) (w12 : W.1 30 12 = cm (flB (T.1 1 8)) (flB (T.1 1 9)) (flB (T.1 1 10))) : DG T W := by
  obtain ⟨a1, a2, a3, a4, a5⟩ := h
  have b0 := hok.1.2
  have b1 := hok.2.1.2
  have b2 := hok.2.2.1.2
  have hW : ∀ j, 6 ≤ j → W.1 32 j = V.1 32 j := fun j x => by rw [w32, pk_un (by omega)]
  have g0 : gN (T.1 16 0) = gN (U.1 16 0) := by rw [t16, pk_un (by omega)]
  have g1 : gN (T.1 16 1) = gN (U.1 16 1) := by rw [t16, pk_un (by omega)]
  have g2 : gN (T.1 16 2) = gN (U.1 16 2) := by rw [t16, pk_un (by omega)]
  refine ⟨fun j hj => ?_, w12, fun m hm => ?_, fun m hm => ?_, fun m hm => ?_⟩
  · by_cases e : j = g
    · rw [e, w32, t16, pk_us, pk_us]
    · rw [w32, pk_un e, t16, pk_un e]; exact a1 j hj
  · rw [g0] at hm
    rw [hW _ (by omega), to 17 (by decide) (by decide)]; exact a3 m hm
  · rw [g1] at hm
    rw [g0, hW _ (by omega), to 18 (by decide) (by decide)]; exact a4 m hm
  · rw [g2] at hm
    rw [hW _ (by omega), hW _ (by omega), hW _ (by omega), hW _ (by omega), to 19 (by decide) (by decide), to 20 (by decide) (by decide), to 21 (by decide) (by decide), to 22 (by decide) (by decide)]
    exact a5 m hm
