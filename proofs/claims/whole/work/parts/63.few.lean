/-! the fewest payments on both sides -/
def bq (s j : Nat) : Bool := decide (s / 2 ^ j % 2 = 1)
theorem bq_a : ∀ s, s < 64 → ∀ j, j < 6 → decide (nI s &&& nI (2 ^ j) = 0) = !bq s j := by decide +kernel
theorem bq_r : ∀ s, s < 64 → ∀ j, j < 6 → rBit s j = bq s j := by decide +kernel
theorem bq_ge : ∀ s, s < 64 → ∀ j, j < 6 → bq s j = true → 2 ^ j ≤ s := by decide +kernel
theorem bq_sub : ∀ s, s < 64 → ∀ j, j < 6 → bq s j = true → ∀ i, i < 6 → bq (s - 2 ^ j) i = (bq s i && !decide (i = j)) := by decide +kernel
theorem bq_add : ∀ s, s < 64 → ∀ j, j < 6 → bq s j = false → ∀ i, i < 6 → bq (s + 2 ^ j) i = (bq s i || decide (i = j)) := by decide +kernel
theorem bq_z : ∀ n, n < 7 → ∀ s, s < 2 ^ n → (∀ j, j < n → bq s j = false) → s = 0 := by decide +kernel
theorem bq_w : ∀ m, m < 6 → ∀ w, w < 2 ^ m → bq w m = false ∧ bq (w + 2 ^ m) m = true ∧ ∀ c, c < m → bq (w + 2 ^ m) c = bq w c := by decide +kernel
theorem bq_n : ∀ m, m < 6 → ∀ w, w < 2 ^ m → nI w ||| nI (2 ^ m) = nI (w + 2 ^ m) := by decide +kernel
theorem bq_m : ∀ w, w < 64 → ∀ c, c < 6 → rFm (nI w) c = nI (if bq w c then 1 else 0) := by decide +kernel
theorem bq_s : ∀ s, s < 64 → ∀ w, w < 64 → nI s &&& (nI w ^^^ (-1)) = 0 → ∀ j, j < 6 → bq s j = true → bq w j = true := by decide +kernel
theorem bq_s2 : ∀ s, s < 64 → ∀ w, w < 64 → (∀ j, j < 6 → bq s j = true → bq w j = true) → nI s &&& (nI w ^^^ (-1)) = 0 := by decide +kernel
theorem bq_h : ∀ c, c < 6 → ∀ w, w < 2 ^ c → ∀ y, y < 64 → bq (w + 2 ^ (c + 1) * y) c = false := by decide +kernel
def sg (p : Nat → Int64) (s : Nat) : Nat → Int64
  | 0 => 0
  | j + 1 => sg p s j + (if bq s j then p j else 0)
theorem sg_lo {p : Nat → Int64} {s s' : Nat} : ∀ n, (∀ i, i < n → bq s i = bq s' i) → sg p s n = sg p s' n
  | 0, _ => rfl
  | n + 1, h => by rw [sg, sg, sg_lo n (fun i hi => h i (by omega)), h n (by omega)]
theorem sg_sub {p : Nat → Int64} {s j : Nat} (hs : s < 64) (hj : bq s j = true) : ∀ n, n ≤ 6 → j < n → sg p (s - 2 ^ j) n + p j = sg p s n
  | 0, _, h => absurd h (Nat.not_lt_zero _)
  | n + 1, h6, hn => by
    rw [sg, sg]
    by_cases e : j = n
    · subst e
      have hb := bq_sub s hs j (by omega) hj
      rw [sg_lo (s' := s) j (fun i hi => by rw [hb i (by omega), decide_eq_false (by omega : ¬ i = j)]; simp), hb j (by omega), hj, decide_eq_true rfl]
      simp
    · have ih := sg_sub (p := p) hs hj n (by omega) (by omega)
      have hb := bq_sub s hs j (by omega) hj n (by omega)
      rw [decide_eq_false (by omega : ¬ n = j), Bool.not_false, Bool.and_true] at hb
      rw [hb, ← ih]
      generalize (if bq s n = true then p n else 0) = x
      rw [Int64.add_assoc, Int64.add_assoc, Int64.add_comm x]
def mxN (p : Nat → Nat) (s : Nat) : Nat → Nat
  | 0 => 0
  | j + 1 => if bq s j then max (mxN p s j) (p (s - 2 ^ j)) else mxN p s j
theorem mxN_congr {p p' : Nat → Nat} {s : Nat} : ∀ n, (∀ j, j < n → bq s j = true → p (s - 2 ^ j) = p' (s - 2 ^ j)) → mxN p s n = mxN p' s n
  | 0, _ => rfl
  | n + 1, h => by
    rw [mxN, mxN, mxN_congr n (fun j hj => h j (by omega))]
    by_cases e : bq s n = true
    · rw [if_pos e, if_pos e, h n (by omega) e]
    · rw [if_neg e, if_neg e]
theorem mxN_le {p : Nat → Nat} {s B : Nat} : ∀ n, (∀ j, j < n → bq s j = true → p (s - 2 ^ j) ≤ B) → mxN p s n ≤ B
  | 0, _ => Nat.zero_le _
  | n + 1, h => by
    rw [mxN]
    have ih := mxN_le n (fun j hj => h j (by omega))
    by_cases e : bq s n = true
    · rw [if_pos e]; exact Nat.max_le.mpr ⟨ih, h n (by omega) e⟩
    · rw [if_neg e]; exact ih
theorem mxN_ge {p : Nat → Nat} {s j : Nat} (hj : bq s j = true) : ∀ n, j < n → p (s - 2 ^ j) ≤ mxN p s n
  | 0, h => absurd h (Nat.not_lt_zero _)
  | n + 1, h => by
    rw [mxN]
    by_cases e : j = n
    · subst e; rw [if_pos hj]; exact Nat.le_max_right _ _
    · have ih := mxN_ge (p := p) hj n (by omega)
      split
      · exact Nat.le_trans ih (Nat.le_max_left _ _)
      · exact ih
def pT (Z : Nat → Bool) (n : Nat) : Nat → Nat → Nat
  | 0, _ => 0
  | k + 1, s => if s = k + 1 then mxN (pT Z n k) (k + 1) n + (if Z (k + 1) then 1 else 0) else pT Z n k s
def pS (Z : Nat → Bool) (n s : Nat) : Nat := pT Z n s s
section PS
variable {Z : Nat → Bool} {n : Nat}
theorem pT_st : ∀ k s, s ≤ k → pT Z n k s = pS Z n s
  | 0, s, h => by rw [show s = 0 by omega]; rfl
  | k + 1, s, h => by
    by_cases e : s = k + 1
    · rw [e]; rfl
    · rw [pT, if_neg e]; exact pT_st k s (by omega)
theorem pS_eq {s : Nat} (h0 : 0 < s) (hs : s < 64) (hn : n ≤ 6) : pS Z n s = mxN (pS Z n) s n + (if Z s then 1 else 0) := by
  obtain ⟨k, rfl⟩ : ∃ k, s = k + 1 := ⟨s - 1, by omega⟩
  have e : pS Z n (k + 1) = mxN (pT Z n k) (k + 1) n + (if Z (k + 1) then 1 else 0) := by unfold pS; rw [pT, if_pos rfl]
  rw [e, mxN_congr n (fun j hj hb => ?_)]
  have := bq_ge (k + 1) hs j (by omega) hb
  have h1 : 1 ≤ 2 ^ j := Nat.one_le_two_pow
  exact pT_st k _ (by omega)
theorem pS_le (hn : n ≤ 6) : ∀ b s, s < b → s < 64 → pS Z n s ≤ s
  | 0, s, h, _ => absurd h (Nat.not_lt_zero _)
  | b + 1, s, h, hs => by
    by_cases e : s = 0
    · rw [e]; exact Nat.le_refl _
    · rw [pS_eq (by omega) hs hn]
      have : mxN (pS Z n) s n ≤ s - 1 := mxN_le n (fun j hj hb => by
        have := bq_ge s hs j (by omega) hb
        have h1 : 1 ≤ 2 ^ j := Nat.one_le_two_pow
        have := pS_le hn b (s - 2 ^ j) (by omega) (by omega)
        omega)
      split <;> omega
/-- one company more, without a position of its own, makes one part more -/
theorem pS_z (hn : n ≤ 6) {z : Nat} (hz : z < n) (hZ : ∀ T, bq T z = false → T + 2 ^ z < 2 ^ n → Z (T + 2 ^ z) = Z T) (hZ0 : Z 0 = true) : ∀ b T, T < b → bq T z = false → T + 2 ^ z < 2 ^ n → pS Z n (T + 2 ^ z) = pS Z n T + 1
  | 0, T, h, _, _ => absurd h (Nat.not_lt_zero _)
  | b + 1, T, h, hT, hlt => by
    have h64 : 2 ^ n ≤ 64 := bt_p6 n (by omega)
    have hz1 : 1 ≤ 2 ^ z := Nat.one_le_two_pow
    have ha := bq_add T (by omega) z (by omega) hT
    have hzz : bq (T + 2 ^ z) z = true := by rw [ha z (by omega), decide_eq_true rfl, Bool.or_true]
    rw [pS_eq (s := T + 2 ^ z) (by omega) (by omega) hn, hZ T hT hlt]
    by_cases e : T = 0
    · subst e
      have e1 : mxN (pS Z n) (0 + 2 ^ z) n ≤ 0 := mxN_le n (fun j hj hb => by
        rw [ha j (by omega)] at hb
        have : bq 0 j = false := by unfold bq; rw [Nat.zero_div]; rfl
        rw [this, Bool.false_or] at hb
        rw [of_decide_eq_true hb, Nat.add_sub_cancel]; exact Nat.le_refl _)
      rw [hZ0, if_pos rfl]
      have e2 : pS Z n 0 = 0 := rfl
      omega
    · have ep := pS_eq (Z := Z) (s := T) (n := n) (by omega) (by omega) hn
      have hc : ∀ c, c < n → c ≠ z → bq T c = true → pS Z n (T + 2 ^ z - 2 ^ c) = pS Z n (T - 2 ^ c) + 1 := fun c hc hne hb => by
        have h1 := bq_ge T (by omega) c (by omega) hb
        have h2 : 1 ≤ 2 ^ c := Nat.one_le_two_pow
        have h3 := bq_sub T (by omega) c (by omega) hb z (by omega)
        rw [hT, Bool.false_and] at h3
        rw [show T + 2 ^ z - 2 ^ c = T - 2 ^ c + 2 ^ z by omega]
        exact pS_z hn hz hZ hZ0 b (T - 2 ^ c) (by omega) h3 (by omega)
      have up : mxN (pS Z n) (T + 2 ^ z) n ≤ mxN (pS Z n) T n + 1 := mxN_le n (fun c hc' hb => by
        by_cases ez : c = z
        · rw [ez, Nat.add_sub_cancel, ep]; split <;> omega
        · rw [ha c (by omega), decide_eq_false ez, Bool.or_false] at hb
          rw [hc c hc' ez hb]
          have := mxN_ge (p := pS Z n) hb n hc'
          omega)
      have one : ∀ c, c < n → bq T c = true → pS Z n (T - 2 ^ c) + 1 ≤ mxN (pS Z n) (T + 2 ^ z) n := fun c hc' hb => by
        have hne : c ≠ z := fun q => by rw [q, hT] at hb; exact absurd hb (by decide)
        have hb2 : bq (T + 2 ^ z) c = true := by rw [ha c (by omega), hb, Bool.true_or]
        have := mxN_ge (p := pS Z n) hb2 n hc'
        rw [hc c hc' hne hb] at this
        exact this
      have pos : 1 ≤ mxN (pS Z n) (T + 2 ^ z) n := by
        refine Classical.byContradiction (fun hno => e (bq_z n (by omega) T (by omega) (fun j hj => ?_)))
        cases hb : bq T j with
        | false => rfl
        | true => exact absurd (Nat.le_trans (Nat.le_add_left 1 _) (one j hj hb)) hno
      have lo : mxN (pS Z n) T n ≤ mxN (pS Z n) (T + 2 ^ z) n - 1 := mxN_le n (fun c hc' hb => by have := one c hc' hb; omega)
      rw [ep]
      omega
end PS
/-- those with a position, as a set; those without, counted -/
def wM (p : Nat → Int64) : Nat → Nat
  | 0 => 0
  | c + 1 => if p c = 0 then wM p c else wM p c + 2 ^ c
def zN (p : Nat → Int64) : Nat → Nat
  | 0 => 0
  | c + 1 => if p c = 0 then zN p c + 1 else zN p c
def zM (p : Nat → Int64) : Nat → Nat
  | 0 => 0
  | c + 1 => if p c = 0 then zM p c else zM p c + 1
section WM
variable {p : Nat → Int64}
theorem wM_lt : ∀ c, wM p c < 2 ^ c
  | 0 => Nat.zero_lt_one
  | c + 1 => by
    have := wM_lt c
    rw [wM, Nat.pow_succ]
    split <;> omega
theorem zN_zM : ∀ c, zN p c + zM p c = c
  | 0 => rfl
  | c + 1 => by
    have := zN_zM c
    rw [zN, zM]
    split <;> omega
theorem wM_b : ∀ m, m ≤ 6 → ∀ c, c < m → bq (wM p m) c = !decide (p c = 0)
  | 0, _, c, h => absurd h (Nat.not_lt_zero _)
  | m + 1, h6, c, h => by
    obtain ⟨b1, b2, b3⟩ := bq_w m (by omega) (wM p m) (wM_lt m)
    rw [wM]
    by_cases e : c = m
    · subst e
      by_cases z : p c = 0
      · rw [if_pos z, b1, decide_eq_true z]; rfl
      · rw [if_neg z, b2, decide_eq_false z]; rfl
    · have ih := wM_b m (by omega) c (by omega)
      split
      · exact ih
      · rw [b3 c (by omega)]; exact ih
theorem wM_s (w : Nat) (hw : w < 64) : ∀ m, m ≤ 6 → (∀ c, c < m → bq w c = !decide (p c = 0)) → sumI (rFm (nI w)) m = nI (zM p m)
  | 0, _, _ => rfl
  | m + 1, h6, h => by
    rw [sumI, wM_s w hw m (by omega) (fun c hc => h c (by omega)), bq_m w hw m (by omega), h m (by omega), zM]
    by_cases z : p m = 0
    · rw [if_pos z, decide_eq_true z, Bool.not_true, if_neg (by decide), nI_add, Nat.add_zero]
    · rw [if_neg z, decide_eq_false z, Bool.not_false, if_pos rfl, nI_add]
/-- the parts of all against the parts of those with a position -/
theorem pS_w {n : Nat} (hn : n ≤ 6) : ∀ c, c ≤ n → ∀ y, 2 ^ c - 1 + 2 ^ c * y < 2 ^ n → pS (fun s => decide (sg p s n = 0)) n (2 ^ c - 1 + 2 ^ c * y) = pS (fun s => decide (sg p s n = 0)) n (wM p c + 2 ^ c * y) + zN p c
  | 0, _, y, _ => rfl
  | c + 1, hc, y, hy => by
    have h64 : 2 ^ n ≤ 64 := bt_p6 n (by omega)
    have hw := wM_lt (p := p) c
    have h1 : 1 ≤ 2 ^ c := Nat.one_le_two_pow
    have e2 : 2 ^ (c + 1) = 2 * 2 ^ c := by rw [Nat.pow_succ, Nat.mul_comm]
    have ey : 2 ^ (c + 1) * y = 2 ^ c * (2 * y) := by rw [e2, Nat.mul_comm 2, Nat.mul_assoc]
    have ey2 : 2 ^ c * (1 + 2 * y) = 2 ^ c + 2 ^ c * (2 * y) := by rw [Nat.mul_add, Nat.mul_one]
    have hy64 : y < 64 := by
      have : y ≤ 2 ^ (c + 1) * y := Nat.le_mul_of_pos_left y (by omega)
      omega
    have ih := pS_w hn c (by omega) (1 + 2 * y) (by rw [ey2]; omega)
    rw [show 2 ^ (c + 1) - 1 + 2 ^ (c + 1) * y = 2 ^ c - 1 + 2 ^ c * (1 + 2 * y) by rw [ey, ey2]; omega, ih, wM, zN]
    by_cases z : p c = 0
    · rw [if_pos z, if_pos z]
      have hb := bq_h c (by omega) (wM p c) hw y hy64
      have := pS_z (Z := fun s => decide (sg p s n = 0)) hn (z := c) (by omega) (fun T hT hl => ?_) ?_ _ (wM p c + 2 ^ (c + 1) * y) (Nat.lt_succ_self _) hb (by rw [ey]; omega)
      · rw [show wM p c + 2 ^ c * (1 + 2 * y) = wM p c + 2 ^ (c + 1) * y + 2 ^ c by rw [ey, ey2]; omega, this]
        omega
      · have ha := bq_add T (by omega) c (by omega) hT c (by omega)
        rw [decide_eq_true rfl, Bool.or_true] at ha
        have h3 := sg_sub (p := p) (s := T + 2 ^ c) (by omega) ha n hn (by omega)
        rw [Nat.add_sub_cancel, z, Int64.add_zero] at h3
        rw [h3]
      · have : ∀ m, m ≤ 6 → sg p 0 m = 0 := by
          intro m
          induction m with
          | zero => intro _; rfl
          | succ m ih =>
            intro h
            have b0 : bq 0 m = false := by unfold bq; rw [Nat.zero_div]; rfl
            rw [sg, ih (by omega), b0]; rfl
        rw [this n hn]; rfl
    · rw [if_neg z, if_neg z, show wM p c + 2 ^ c * (1 + 2 * y) = wM p c + 2 ^ c + 2 ^ (c + 1) * y by rw [ey, ey2]; omega]
end WM
