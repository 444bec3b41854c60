/-! floats: what the two quotients answer is never a NaN -/
theorem fl_rr_nn {f : FP.Core.Fmt} {s : Bool} {A B : Nat} {e : Int} : FP.Core.roundRatio f s A B e ≠ .nan := by
  unfold FP.Core.roundRatio FP.Core.roundAt FP.Core.settle FP.Core.bound
  repeat' split
  all_goals simp
theorem fl_round {f : FP.Core.Fmt} {d : FP.Core.Datum} (h : d ≠ .nan) : FP.Core.round f d ≠ .nan := by
  cases d with
  | nan => exact absurd rfl h
  | inf s => simp [FP.Core.round]
  | fin s c q => exact fl_rr_nn
theorem fl_l2f (x : Int64) : FP.Core.val32 (FP.l2f x) ≠ .nan := by
  show FP.Core.val32 (FP.Core.l2f x) ≠ .nan
  rw [FP.Core.val32_l2f]; exact fl_round (by simp [FP.Core.ofInt])
theorem fl_i2f (x : Int32) : FP.Core.val32 (FP.i2f x) ≠ .nan := by
  show FP.Core.val32 (FP.Core.i2f x) ≠ .nan
  rw [FP.Core.val32_i2f]; exact fl_round (by simp [FP.Core.ofInt])
theorem fl_fin {i : Int} (h : i ≠ 0) (h2 : i.natAbs < 2 ^ 65) : ∃ s c q, FP.Core.round FP.Core.b32 (FP.Core.ofInt i) = .fin s c q ∧ c ≠ 0 := by
  have hA : 0 < i.natAbs := by omega
  have hl : i.natAbs.log2 < 65 := (Nat.log2_lt (by omega)).mpr h2
  have hq : -24 ≤ FP.Core.quantum FP.Core.b32 i.natAbs 1 0 ∧ FP.Core.quantum FP.Core.b32 i.natAbs 1 0 ≤ 42 := by
    have hk : -1 ≤ FP.Core.leading i.natAbs 1 ∧ FP.Core.leading i.natAbs 1 ≤ 64 := by
      have h1 : Nat.log2 1 = 0 := by decide
      unfold FP.Core.leading
      simp only [h1]
      split <;> constructor <;> omega
    unfold FP.Core.quantum
    have e1 : FP.Core.b32.qmin = -149 := by decide
    have e2 : (FP.Core.b32.p : Int) = 24 := by decide
    rw [e1, e2]
    omega
  have hm : FP.Core.b32.qmax = 104 := by decide
  have hn : FP.Core.b32.qmin = -149 := by decide
  have ht : FP.Core.b32.tails = 8388608 := by decide
  have hf := FP.Core.roundRatio_fits FP.Core.good_b32 (decide (i < 0)) i.natAbs (B := 1) (by decide) 0
  show ∃ s c q, FP.Core.roundRatio FP.Core.b32 (decide (i < 0)) i.natAbs 1 0 = .fin s c q ∧ c ≠ 0
  unfold FP.Core.roundRatio FP.Core.roundAt at hf ⊢
  rw [if_neg (by omega)] at hf ⊢
  generalize FP.Core.quantum FP.Core.b32 i.natAbs 1 0 = q at hq hf ⊢
  generalize FP.Core.nearest (FP.Core.unitsNum i.natAbs 0 q) (FP.Core.unitsDen 1 0 q) = k at hf ⊢
  unfold FP.Core.settle FP.Core.bound at hf ⊢
  by_cases h5 : k < 2 ^ FP.Core.b32.p
  · rw [if_pos h5, if_pos (by omega)] at hf ⊢
    refine ⟨_, _, _, rfl, ?_⟩
    rcases hf.2.2.2 with h6 | h6
    · omega
    · omega
  · rw [if_neg h5, if_pos (by omega)] at hf ⊢
    exact ⟨_, _, _, rfl, by omega⟩
theorem fl_l2f_fin {x : Int64} (h : x ≠ 0) : ∃ s c q, FP.Core.val32 (FP.l2f x) = .fin s c q ∧ c ≠ 0 := by
  show ∃ s c q, FP.Core.val32 (FP.Core.l2f x) = .fin s c q ∧ c ≠ 0
  rw [FP.Core.val32_l2f]
  have h1 := Int64.toInt_lt x
  have h2 := Int64.le_toInt x
  exact fl_fin (fun e => h (Int64.toInt_inj.mp (by rw [e]; rfl))) (by omega)
theorem fl_i2f_fin {x : Int32} (h : x ≠ 0) : ∃ s c q, FP.Core.val32 (FP.i2f x) = .fin s c q ∧ c ≠ 0 := by
  show ∃ s c q, FP.Core.val32 (FP.Core.i2f x) = .fin s c q ∧ c ≠ 0
  rw [FP.Core.val32_i2f]
  have h1 := Int32.toInt_lt x
  have h2 := Int32.le_toInt x
  exact fl_fin (fun e => h (Int32.toInt_inj.mp (by rw [e]; rfl))) (by omega)
theorem fl_div {a b : UInt32} (ha : FP.Core.val32 a ≠ .nan) (hb : ∃ s c q, FP.Core.val32 b = .fin s c q ∧ c ≠ 0) : FP.Core.val32 (FP.fdiv a b) ≠ .nan := by
  show FP.Core.val32 (FP.Core.fdiv a b) ≠ .nan
  rw [FP.Core.val32_fdiv]
  obtain ⟨s, c, q, e, hc⟩ := hb
  rw [e]
  cases h : FP.Core.val32 a with
  | nan => exact absurd h ha
  | inf t => simp [FP.Core.quotient]
  | fin t d r =>
    show (if c = 0 then (if d = 0 then FP.Core.Datum.nan else FP.Core.Datum.inf (t != s)) else FP.Core.roundRatio FP.Core.b32 (t != s) d c (r - q)) ≠ .nan
    rw [if_neg hc]
    exact fl_rr_nn
theorem fl_100 : ∃ s c q, FP.Core.val32 1120403456 = .fin s c q ∧ c ≠ 0 := ⟨false, 13107200, -17, by decide +kernel, by decide⟩
theorem fl_mul {a b : UInt32} (ha : FP.Core.val32 a ≠ .nan) (hb : ∃ s c q, FP.Core.val32 b = .fin s c q ∧ c ≠ 0) : FP.Core.val32 (FP.fmul a b) ≠ .nan := by
  show FP.Core.val32 (FP.Core.fmul a b) ≠ .nan
  rw [FP.Core.val32_fmul]
  obtain ⟨s, c, q, e, hc⟩ := hb
  rw [e]
  refine fl_round ?_
  cases h : FP.Core.val32 a with
  | nan => exact absurd h ha
  | inf t =>
    show (if c = 0 then FP.Core.Datum.nan else FP.Core.Datum.inf (t != s)) ≠ .nan
    rw [if_neg hc]; simp
  | fin t d r => simp [FP.Core.exactProduct]
theorem fl_n32 {r : UInt32} (h : FP.Core.val32 r ≠ .nan) : vf_n32 r := by
  unfold vf_n32
  rw [UInt32.le_iff_toNat_le, UInt32.toNat_and]
  show r.toNat &&& (2 ^ 31 - 1) ≤ 2139095040
  rw [Nat.and_two_pow_sub_one_eq_mod]
  refine Nat.le_of_not_lt (fun hlt => h ?_)
  have e1 : FP.Core.fieldE FP.Core.b32 r.toNat = 255 := by
    show r.toNat / 8388608 % 256 = 255
    omega
  have e2 : ¬ FP.Core.fieldT FP.Core.b32 r.toNat = 0 := by
    show ¬ r.toNat % 8388608 = 0
    omega
  unfold FP.Core.val32 FP.Core.decode
  rw [e1, if_pos (by decide), if_neg e2]
theorem fl_n64 {r : UInt64} (h : FP.Core.val64 r ≠ .nan) : vf_n64 r := by
  unfold vf_n64
  rw [UInt64.le_iff_toNat_le, UInt64.toNat_and]
  show r.toNat &&& (2 ^ 63 - 1) ≤ 9218868437227405312
  rw [Nat.and_two_pow_sub_one_eq_mod]
  refine Nat.le_of_not_lt (fun hlt => h ?_)
  have e1 : FP.Core.fieldE FP.Core.b64 r.toNat = 2047 := by
    show r.toNat / 4503599627370496 % 2048 = 2047
    omega
  have e2 : ¬ FP.Core.fieldT FP.Core.b64 r.toNat = 0 := by
    show ¬ r.toNat % 4503599627370496 = 0
    omega
  unfold FP.Core.val64 FP.Core.decode
  rw [e1, if_pos (by decide), if_neg e2]
/-- a share of the matched: good of all -/
def fDiv (a b : Int32) : UInt32 := if ¬ b = 0 then FP.fdiv (FP.i2f a) (FP.i2f b) else FP.fconst0
/-- a margin: profit by cost -/
def fMar (a b : Int64) : UInt32 := if ¬ b = 0 then FP.fdiv (FP.fmul (FP.l2f a) 1120403456) (FP.l2f b) else FP.fconst0
theorem fl_0 : FP.Core.val32 FP.fconst0 ≠ .nan := by decide +kernel
theorem fDiv_n (a b : Int32) : FP.Core.val32 (fDiv a b) ≠ .nan := by
  unfold fDiv
  split
  · rename_i h; exact fl_div (fl_i2f a) (fl_i2f_fin h)
  · exact fl_0
theorem fMar_n (a b : Int64) : FP.Core.val32 (fMar a b) ≠ .nan := by
  unfold fMar
  split
  · rename_i h; exact fl_div (fl_mul (fl_l2f a) fl_100) (fl_l2f_fin h)
  · exact fl_0
theorem fl_f2d {a : UInt32} (h : FP.Core.val32 a ≠ .nan) : FP.Core.val64 (FP.f2d a) ≠ .nan := by
  unfold FP.f2d
  rw [if_neg (fun q => h ((FP.Core.fIsNaN_iff a).mp q)), FP.Core.val64_f2d]
  exact fl_round h
theorem fl_self {a : UInt64} (h : FP.Core.val64 a ≠ .nan) (op : CmpOp) : Op.cmpValue (FP.dcmp a a) op = 0 := by
  have e : FP.dcmp a a = some .eq := FP.Core.dcmp_self h
  rw [e]; rfl
