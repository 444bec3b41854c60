theorem nI_one : nI 1 = 1 := rfl
theorem b2i_t : b2i true = nI 1 := rfl
theorem b2i_f : b2i false = nI 0 := rfl
theorem narB (b : Bool) : narrow .boolean (.int (b2i b)) = .int (b2i b) := by cases b <;> rfl
theorem okI_lt {x : Int32} {n : Nat} (h : okI x n) : gN x < n := h.2
theorem gN_nI {k : Nat} (h : k < 2147483648) : gN (nI k) = k := nI_clamp h
/-- how many of the first n are so -/
def cnt (p : Nat → Bool) : Nat → Nat
  | 0 => 0
  | n + 1 => cnt p n + (if p n then 1 else 0)
theorem cnt_le (p : Nat → Bool) : ∀ n, cnt p n ≤ n
  | 0 => Nat.le_refl 0
  | n + 1 => by
    have h := cnt_le p n
    rw [cnt]
    split <;> omega
/-- the sum of the first n, with Java's wrap-around -/
def sumL (f : Nat → Int64) : Nat → Int64
  | 0 => 0
  | n + 1 => sumL f n + f n
def sumI (f : Nat → Int32) : Nat → Int32
  | 0 => 0
  | n + 1 => sumI f n + f n
section NC
variable {p : Program} {l : Launch} {e : Env} {R : Room} {s : State} {m : MethodId} {args : Array Value} {below : List Frame} {meth : Method} {c : Code} {H : Heap} {locs : List Loc} {cells slots : Nat} {Q : State → Prop}
variable {cc : ByteArray} {pc : Nat} {ls : Array Slot} {rest : List Value}
theorem xn_icmp_ge (hx : p.tables.exec = Jvm.exec) (hb : c.code = cc) {a b : Nat} {off : Int} {tgt : Nat} (hA : a < 2147483648) (hB : b < 2147483648) (hdg : decode cc pc = .ok (.if_icmp .ge off, 3)) (ht : (pc : Int) + off = (tgt : Int)) (kt : b ≤ a → W p l e R s m args below meth c H locs cells slots Q (F0 m tgt ls rest)) (kf : a < b → W p l e R s m args below meth c H locs cells slots Q (F0 m (pc + 3) ls rest)) : W p l e R s m args below meth c H locs cells slots Q (F0 m pc ls (.int (nI b) :: .int (nI a) :: rest)) :=
  lv_icmp_ge hx hb hdg ht (fun h => kt ((nI_leI hB hA).mp h)) (fun h => kf (Nat.lt_of_not_le (fun q => h ((nI_leI hB hA).mpr q))))
theorem xn_icmp_lt (hx : p.tables.exec = Jvm.exec) (hb : c.code = cc) {a b : Nat} {off : Int} {tgt : Nat} (hA : a < 2147483648) (hB : b < 2147483648) (hdg : decode cc pc = .ok (.if_icmp .lt off, 3)) (ht : (pc : Int) + off = (tgt : Int)) (kt : a < b → W p l e R s m args below meth c H locs cells slots Q (F0 m tgt ls rest)) (kf : b ≤ a → W p l e R s m args below meth c H locs cells slots Q (F0 m (pc + 3) ls rest)) : W p l e R s m args below meth c H locs cells slots Q (F0 m pc ls (.int (nI b) :: .int (nI a) :: rest)) :=
  lv_icmp_lt hx hb hdg ht (fun h => kt ((nI_ltI hA hB).mp h)) (fun h => kf (Nat.le_of_not_lt (fun q => h ((nI_ltI hA hB).mpr q))))
theorem xn_icmp_gt (hx : p.tables.exec = Jvm.exec) (hb : c.code = cc) {a b : Nat} {off : Int} {tgt : Nat} (hA : a < 2147483648) (hB : b < 2147483648) (hdg : decode cc pc = .ok (.if_icmp .gt off, 3)) (ht : (pc : Int) + off = (tgt : Int)) (kt : b < a → W p l e R s m args below meth c H locs cells slots Q (F0 m tgt ls rest)) (kf : a ≤ b → W p l e R s m args below meth c H locs cells slots Q (F0 m (pc + 3) ls rest)) : W p l e R s m args below meth c H locs cells slots Q (F0 m pc ls (.int (nI b) :: .int (nI a) :: rest)) :=
  lv_icmp_gt hx hb hdg ht (fun h => kt ((nI_ltI hB hA).mp h)) (fun h => kf (Nat.le_of_not_lt (fun q => h ((nI_ltI hB hA).mpr q))))
theorem xn_icmp_le (hx : p.tables.exec = Jvm.exec) (hb : c.code = cc) {a b : Nat} {off : Int} {tgt : Nat} (hA : a < 2147483648) (hB : b < 2147483648) (hdg : decode cc pc = .ok (.if_icmp .le off, 3)) (ht : (pc : Int) + off = (tgt : Int)) (kt : a ≤ b → W p l e R s m args below meth c H locs cells slots Q (F0 m tgt ls rest)) (kf : b < a → W p l e R s m args below meth c H locs cells slots Q (F0 m (pc + 3) ls rest)) : W p l e R s m args below meth c H locs cells slots Q (F0 m pc ls (.int (nI b) :: .int (nI a) :: rest)) :=
  lv_icmp_le hx hb hdg ht (fun h => kt ((nI_leI hA hB).mp h)) (fun h => kf (Nat.lt_of_not_le (fun q => h ((nI_leI hA hB).mpr q))))
theorem xn_icmp_eq (hx : p.tables.exec = Jvm.exec) (hb : c.code = cc) {a b : Nat} {off : Int} {tgt : Nat} (hA : a < 2147483648) (hB : b < 2147483648) (hdg : decode cc pc = .ok (.if_icmp .eq off, 3)) (ht : (pc : Int) + off = (tgt : Int)) (kt : a = b → W p l e R s m args below meth c H locs cells slots Q (F0 m tgt ls rest)) (kf : ¬ a = b → W p l e R s m args below meth c H locs cells slots Q (F0 m (pc + 3) ls rest)) : W p l e R s m args below meth c H locs cells slots Q (F0 m pc ls (.int (nI b) :: .int (nI a) :: rest)) :=
  lv_icmp_eq hx hb hdg ht (fun h => kt ((nI_eq hA hB).mp h)) (fun h => kf (fun q => h ((nI_eq hA hB).mpr q)))
theorem xn_icmp_ne (hx : p.tables.exec = Jvm.exec) (hb : c.code = cc) {a b : Nat} {off : Int} {tgt : Nat} (hA : a < 2147483648) (hB : b < 2147483648) (hdg : decode cc pc = .ok (.if_icmp .ne off, 3)) (ht : (pc : Int) + off = (tgt : Int)) (kt : ¬ a = b → W p l e R s m args below meth c H locs cells slots Q (F0 m tgt ls rest)) (kf : a = b → W p l e R s m args below meth c H locs cells slots Q (F0 m (pc + 3) ls rest)) : W p l e R s m args below meth c H locs cells slots Q (F0 m pc ls (.int (nI b) :: .int (nI a) :: rest)) :=
  lv_icmp_ne hx hb hdg ht (fun h => kt (fun q => h ((nI_eq hA hB).mpr q))) (fun h => kf ((nI_eq hA hB).mp h))
theorem xn_if_eq (hx : p.tables.exec = Jvm.exec) (hb : c.code = cc) {a : Nat} {off : Int} {tgt : Nat} (hA : a < 2147483648) (hdg : decode cc pc = .ok (.ifCond .eq off, 3)) (ht : (pc : Int) + off = (tgt : Int)) (kt : a = 0 → W p l e R s m args below meth c H locs cells slots Q (F0 m tgt ls rest)) (kf : ¬ a = 0 → W p l e R s m args below meth c H locs cells slots Q (F0 m (pc + 3) ls rest)) : W p l e R s m args below meth c H locs cells slots Q (F0 m pc ls (.int (nI a) :: rest)) :=
  lv_if_eq hx hb hdg ht (fun h => kt ((nI_eq hA (Nat.le_of_ble_eq_true rfl)).mp (h.trans nI_0.symm))) (fun h => kf (fun q => h (by rw [q]; exact nI_0)))
theorem xn_if_ne (hx : p.tables.exec = Jvm.exec) (hb : c.code = cc) {a : Nat} {off : Int} {tgt : Nat} (hA : a < 2147483648) (hdg : decode cc pc = .ok (.ifCond .ne off, 3)) (ht : (pc : Int) + off = (tgt : Int)) (kt : ¬ a = 0 → W p l e R s m args below meth c H locs cells slots Q (F0 m tgt ls rest)) (kf : a = 0 → W p l e R s m args below meth c H locs cells slots Q (F0 m (pc + 3) ls rest)) : W p l e R s m args below meth c H locs cells slots Q (F0 m pc ls (.int (nI a) :: rest)) :=
  lv_if_ne hx hb hdg ht (fun h => kt (fun q => h (by rw [q]; exact nI_0))) (fun h => kf ((nI_eq hA (Nat.le_of_ble_eq_true rfl)).mp (h.trans nI_0.symm)))
theorem xn_if_lt (hx : p.tables.exec = Jvm.exec) (hb : c.code = cc) {a : Nat} {off : Int} {tgt : Nat} (hA : a < 2147483648) (hdg : decode cc pc = .ok (.ifCond .lt off, 3)) (kf : W p l e R s m args below meth c H locs cells slots Q (F0 m (pc + 3) ls rest)) (ht : (pc : Int) + off = (tgt : Int)) : W p l e R s m args below meth c H locs cells slots Q (F0 m pc ls (.int (nI a) :: rest)) :=
  lv_if_lt hx hb hdg ht (fun h => absurd h (nI_pos hA)) (fun _ => kf)
end NC
theorem i64_ne0 {x : Int32} (h : nI 1 ≤ x) : ¬ x.toInt64 = 0 := by
  intro q
  have h1 : x.toInt64.toInt = 0 := by rw [q]; rfl
  rw [Int32.toInt_toInt64] at h1
  have h2 := Int32.le_iff_toInt_le.mp h
  rw [h1] at h2
  exact absurd h2 (by decide)
abbrev mnI (x y : Int32) : Int32 := if y < x then y else x
abbrev mxI (x y : Int32) : Int32 := if x < y then y else x
abbrev mxL (x y : Int64) : Int64 := if y < x then x else y
abbrev abL (x : Int64) : Int64 := if 0 < x then x else -x
theorem sI_1 {S : Mem} {q j q' : Nat} {x : Int32} (h : q' ≠ q) : (setI S q j x).1 q' = S.1 q' := by simp [setI, setR, va_up, h]
theorem sI_e {S : Mem} {q j : Nat} {x : Int32} : (setI S q j x).1 q = upd (S.1 q) j x := by simp [setI, setR, va_up]
theorem sI_2 {S : Mem} {q j : Nat} {x : Int32} : (setI S q j x).2 = S.2 := rfl
theorem sJ_1 {S : Mem} {q j : Nat} {x : Int64} : (setJ S q j x).1 = S.1 := rfl
theorem sJ_2 {S : Mem} {q j q' : Nat} {x : Int64} (h : q' ≠ q) : (setJ S q j x).2 q' = S.2 q' := by simp [setJ, setL, va_up, h]
theorem sJ_e {S : Mem} {q j : Nat} {x : Int64} : (setJ S q j x).2 q = vp_updL (S.2 q) j x := by simp [setJ, setL, va_up]
theorem sR_1 {S : Mem} {q q' : Nat} {f : Nat → Int32} (h : q' ≠ q) : (setR S q f).1 q' = S.1 q' := by simp [setR, va_up, h]
theorem sR_e {S : Mem} {q : Nat} {f : Nat → Int32} : (setR S q f).1 q = f := by simp [setR, va_up]
theorem sR_2 {S : Mem} {q : Nat} {f : Nat → Int32} : (setR S q f).2 = S.2 := rfl
theorem sL_1 {S : Mem} {q : Nat} {g : Nat → Int64} : (setL S q g).1 = S.1 := rfl
theorem sL_2 {S : Mem} {q q' : Nat} {g : Nat → Int64} (h : q' ≠ q) : (setL S q g).2 q' = S.2 q' := by simp [setL, va_up, h]
theorem sL_e {S : Mem} {q : Nat} {g : Nat → Int64} : (setL S q g).2 q = g := by simp [setL, va_up]
/-- S' is S but for the cells a .. a + c -/
def agr (S S' : Mem) (a c : Nat) : Prop := ∀ q, (q < a ∨ a + c < q) → S'.1 q = S.1 q ∧ S'.2 q = S.2 q
theorem agr_0 (S : Mem) (a : Nat) : agr S S a 0 := fun _ _ => ⟨rfl, rfl⟩
theorem agr_I {S S' S'' : Mem} {a c q j : Nat} {x : Int32} (h : agr S S' a c) (e : S'' = setI S' q j x) (c' : Nat) (hc : c ≤ c') (hq : a ≤ q ∧ q ≤ a + c') : agr S S'' a c' := fun z hz => by
  subst e
  rw [sI_1 (by omega), sI_2]
  exact h z (by omega)
theorem agr_J {S S' S'' : Mem} {a c q j : Nat} {x : Int64} (h : agr S S' a c) (e : S'' = setJ S' q j x) (c' : Nat) (hc : c ≤ c') (hq : a ≤ q ∧ q ≤ a + c') : agr S S'' a c' := fun z hz => by
  subst e
  rw [sJ_2 (by omega), sJ_1]
  exact h z (by omega)
theorem agr_R {S S' S'' : Mem} {a c q : Nat} {f : Nat → Int32} (h : agr S S' a c) (e : S'' = setR S' q f) (c' : Nat) (hc : c ≤ c') (hq : a ≤ q ∧ q ≤ a + c') : agr S S'' a c' := fun z hz => by
  subst e
  rw [sR_1 (by omega), sR_2]
  exact h z (by omega)
theorem agr_L {S S' S'' : Mem} {a c q : Nat} {f : Nat → Int64} (h : agr S S' a c) (e : S'' = setL S' q f) (c' : Nat) (hc : c ≤ c') (hq : a ≤ q ∧ q ≤ a + c') : agr S S'' a c' := fun z hz => by
  subst e
  rw [sL_2 (by omega), sL_1]
  exact h z (by omega)
