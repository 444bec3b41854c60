/-! copies; the history on both sides -/
theorem cpy0 {α : Type} {f g : Nat → α} {K k : Nat} (h : k < K) : va_cpy f g 0 0 K k = f k := by
  unfold va_cpy
  rw [if_pos ⟨by omega, by omega⟩, Nat.zero_add, Nat.sub_zero]
theorem cpyI {α : Type} {f g : Nat → α} {sp dp n j : Nat} (h : j < n) : va_cpy f g sp dp n (dp + j) = f (sp + j) := by
  unfold va_cpy
  rw [if_pos ⟨by omega, by omega⟩, Nat.add_sub_cancel_left]
theorem cpyO {α : Type} {f g : Nat → α} {sp dp n k : Nat} (h : k < dp ∨ dp + n ≤ k) : va_cpy f g sp dp n k = g k := by
  unfold va_cpy
  rw [if_neg (by omega)]
section CPS
variable (S : Mem) (i j K M : Nat)
theorem cpSt_0 {c : Nat} (hc : c < 3) : (cpSt S i j K M).1 (74 + 9 * i) c = S.1 (74 + 9 * j) c := by
  unfold cpSt
  rw [sL_1, sR_1 (by omega), sR_1 (by omega), sL_1, sL_1, sR_1 (by omega), sR_1 (by omega), sR_1 (by omega), sJ_1, sJ_1, sJ_1, sI_e, sI_e, sI_e]
  unfold upd
  rcases (show c = 0 ∨ c = 1 ∨ c = 2 by omega) with rfl | rfl | rfl <;> rfl
theorem cpSt_L {c : Nat} (h3 : 3 ≤ c) (hc : c < 6) : (cpSt S i j K M).2 (74 + 9 * i) c = S.2 (74 + 9 * j) c := by
  unfold cpSt
  rw [sL_2 (by omega), sR_2, sR_2, sL_2 (by omega), sL_2 (by omega), sR_2, sR_2, sR_2, sJ_e, sJ_e, sJ_e]
  unfold vp_updL
  rcases (show c = 3 ∨ c = 4 ∨ c = 5 by omega) with rfl | rfl | rfl <;> rfl
theorem cpSt_7 {c : Nat} (h : c < 4) : (cpSt S i j K M).1 (74 + 9 * i + 7) c = S.1 (74 + 9 * j + 7) c := by
  unfold cpSt
  rw [sL_1, sR_e]; exact cpy0 h
theorem cpSt_6 {c : Nat} (h : c < M) : (cpSt S i j K M).1 (74 + 9 * i + 6) c = S.1 (74 + 9 * j + 6) c := by
  unfold cpSt
  rw [sL_1, sR_1 (by omega), sR_e]; exact cpy0 h
theorem cpSt_3 {c : Nat} (h : c < K) : (cpSt S i j K M).1 (74 + 9 * i + 3) c = S.1 (74 + 9 * j + 3) c := by
  unfold cpSt
  rw [sL_1, sR_1 (by omega), sR_1 (by omega), sL_1, sL_1, sR_e]; exact cpy0 h
theorem cpSt_2 {c : Nat} (h : c < K) : (cpSt S i j K M).1 (74 + 9 * i + 2) c = S.1 (74 + 9 * j + 2) c := by
  unfold cpSt
  rw [sL_1, sR_1 (by omega), sR_1 (by omega), sL_1, sL_1, sR_1 (by omega), sR_e]; exact cpy0 h
theorem cpSt_1 {c : Nat} (h : c < K) : (cpSt S i j K M).1 (74 + 9 * i + 1) c = S.1 (74 + 9 * j + 1) c := by
  unfold cpSt
  rw [sL_1, sR_1 (by omega), sR_1 (by omega), sL_1, sL_1, sR_1 (by omega), sR_1 (by omega), sR_e]; exact cpy0 h
theorem cpSt_8 {c : Nat} (h : c < 6) : (cpSt S i j K M).2 (74 + 9 * i + 8) c = S.2 (74 + 9 * j + 8) c := by
  unfold cpSt
  rw [sL_e]; exact cpy0 h
theorem cpSt_5 {c : Nat} (h : c < K) : (cpSt S i j K M).2 (74 + 9 * i + 5) c = S.2 (74 + 9 * j + 5) c := by
  unfold cpSt
  rw [sL_2 (by omega), sR_2, sR_2, sL_e]; exact cpy0 h
theorem cpSt_4 {c : Nat} (h : c < K) : (cpSt S i j K M).2 (74 + 9 * i + 4) c = S.2 (74 + 9 * j + 4) c := by
  unfold cpSt
  rw [sL_2 (by omega), sR_2, sR_2, sL_2 (by omega), sL_e]; exact cpy0 h
theorem cpSt_o {q : Nat} (h : q < 74 + 9 * i ∨ 74 + 9 * i + 8 < q) : (cpSt S i j K M).1 q = S.1 q ∧ (cpSt S i j K M).2 q = S.2 q := cpSt_agr S i j K M q h
theorem cpRw_i {c k : Nat} (h1 : 1 ≤ c) (h2 : c ≤ 4) (h : k < K) : (cpRw S i j K M).1 (44 + 10 * i + c) k = S.1 (44 + 10 * j + c) k := by
  unfold cpRw
  rcases (show c = 1 ∨ c = 2 ∨ c = 3 ∨ c = 4 by omega) with rfl | rfl | rfl | rfl
  · rw [sR_1 (by omega), sR_1 (by omega), sR_1 (by omega), sR_1 (by omega), sR_1 (by omega), sR_1 (by omega), sR_1 (by omega), sR_1 (by omega), sR_e]; exact cpy0 h
  · rw [sR_1 (by omega), sR_1 (by omega), sR_1 (by omega), sR_1 (by omega), sR_1 (by omega), sR_1 (by omega), sR_1 (by omega), sR_e]; exact cpy0 h
  · rw [sR_1 (by omega), sR_1 (by omega), sR_1 (by omega), sR_1 (by omega), sR_1 (by omega), sR_1 (by omega), sR_e]; exact cpy0 h
  · rw [sR_1 (by omega), sR_1 (by omega), sR_1 (by omega), sR_1 (by omega), sR_1 (by omega), sR_e]; exact cpy0 h
theorem cpRw_d {c k : Nat} (h1 : 5 ≤ c) (h2 : c ≤ 9) (h : k < M) : (cpRw S i j K M).1 (44 + 10 * i + c) k = S.1 (44 + 10 * j + c) k := by
  unfold cpRw
  rcases (show c = 5 ∨ c = 6 ∨ c = 7 ∨ c = 8 ∨ c = 9 by omega) with rfl | rfl | rfl | rfl | rfl
  · rw [sR_1 (by omega), sR_1 (by omega), sR_1 (by omega), sR_1 (by omega), sR_e]; exact cpy0 h
  · rw [sR_1 (by omega), sR_1 (by omega), sR_1 (by omega), sR_e]; exact cpy0 h
  · rw [sR_1 (by omega), sR_1 (by omega), sR_e]; exact cpy0 h
  · rw [sR_1 (by omega), sR_e]; exact cpy0 h
  · rw [sR_e]; exact cpy0 h
end CPS
/-- the block d that a block copy leaves -/
theorem cpBl_36 (S : Mem) (a b k r : Nat) {c d0 : Nat} {d j : Nat} (hj : j < 1508) : (cpBl S a b k c d0 r).1 c (1508 * d + j) = if d = r then S.1 a (1508 * k + j) else S.1 c (1508 * d + j) := by
  unfold cpBl
  rw [sL_1, sR_e]
  by_cases e : d = r
  · subst e; rw [if_pos rfl]; exact cpyI hj
  · rw [if_neg e]; exact cpyO (by omega)
theorem cpBl_37 (S : Mem) (a b k r : Nat) {c d0 : Nat} {d j : Nat} (hj : j < 309) : (cpBl S a b k c d0 r).2 d0 (309 * d + j) = if d = r then S.2 b (309 * k + j) else S.2 d0 (309 * d + j) := by
  unfold cpBl
  rw [sL_e]
  by_cases e : d = r
  · subst e; rw [if_pos rfl]; exact cpyI hj
  · rw [if_neg e]; exact cpyO (by omega)
theorem rShf_36 (S : Mem) {j : Nat} (hj : j < 1508) : ∀ n d, (rShf S n).1 36 (1508 * d + j) = if d < n then S.1 36 (1508 * (d + 1) + j) else S.1 36 (1508 * d + j)
  | 0, d => by rw [if_neg (by omega)]; rfl
  | n + 1, d => by
    rw [rShf, cpBl_36 _ _ _ _ _ hj, rShf_36 S hj n (n + 1), rShf_36 S hj n d]
    by_cases e : d = n
    · subst e; rw [if_pos rfl, if_neg (by omega), if_pos (by omega)]
    · rw [if_neg e]
      by_cases e2 : d < n
      · rw [if_pos e2, if_pos (by omega)]
      · rw [if_neg e2, if_neg (by omega)]
theorem rShf_37 (S : Mem) {j : Nat} (hj : j < 309) : ∀ n d, (rShf S n).2 37 (309 * d + j) = if d < n then S.2 37 (309 * (d + 1) + j) else S.2 37 (309 * d + j)
  | 0, d => by rw [if_neg (by omega)]; rfl
  | n + 1, d => by
    rw [rShf, cpBl_37 _ _ _ _ _ hj, rShf_37 S hj n (n + 1), rShf_37 S hj n d]
    by_cases e : d = n
    · subst e; rw [if_pos rfl, if_neg (by omega), if_pos (by omega)]
    · rw [if_neg e]
      by_cases e2 : d < n
      · rw [if_pos e2, if_pos (by omega)]
      · rw [if_neg e2, if_neg (by omega)]
/-- the depth behind a change -/
abbrev kp (k : Nat) : Nat := if k = 10 then 10 else k + 1
theorem kp_36 (S : Mem) {k d j : Nat} (hk : k ≤ 10) (hd : d < kp k) (hj : j < 1508) : (rKeep S k).1 36 (1508 * d + j) = if d + 1 = kp k then S.1 34 j else S.1 36 (1508 * (d + k + 1 - kp k) + j) := by
  unfold rKeep
  by_cases e : k = 10
  · subst e
    rw [if_pos rfl, sI_1 (by decide), cpBl_36 _ _ _ _ _ hj, sI_1 (by decide), sI_1 (by decide), rShf_36 S hj, rShf_1 S (by decide)]
    have hd : d < 10 := hd
    rw [show kp 10 = 10 from rfl]
    by_cases e2 : d = 9
    · subst e2; rw [if_pos rfl, if_pos rfl, Nat.mul_zero, Nat.zero_add]
    · rw [if_neg e2, if_neg (show ¬ d + 1 = 10 by omega), if_pos (by omega)]; rfl
  · have e3 : kp k = k + 1 := if_neg e
    rw [if_neg e, sI_1 (by decide), cpBl_36 _ _ _ _ _ hj, e3]
    by_cases e2 : d = k
    · subst e2; rw [if_pos rfl, if_pos rfl, Nat.mul_zero, Nat.zero_add]
    · rw [if_neg e2, if_neg (by omega), show d + k + 1 - (k + 1) = d by omega]
theorem kp_37 (S : Mem) {k d j : Nat} (hk : k ≤ 10) (hd : d < kp k) (hj : j < 309) : (rKeep S k).2 37 (309 * d + j) = if d + 1 = kp k then S.2 35 j else S.2 37 (309 * (d + k + 1 - kp k) + j) := by
  unfold rKeep
  by_cases e : k = 10
  · subst e
    rw [if_pos rfl, sI_2, cpBl_37 _ _ _ _ _ hj, sI_2, rShf_37 S hj, rShf_2 S (by decide)]
    have hd : d < 10 := hd
    rw [show kp 10 = 10 from rfl]
    by_cases e2 : d = 9
    · subst e2; rw [if_pos rfl, if_pos rfl, Nat.mul_zero, Nat.zero_add]
    · rw [if_neg e2, if_neg (show ¬ d + 1 = 10 by omega), if_pos (by omega)]; rfl
  · have e3 : kp k = k + 1 := if_neg e
    rw [if_neg e, sI_2, cpBl_37 _ _ _ _ _ hj, e3]
    by_cases e2 : d = k
    · subst e2; rw [if_pos rfl, if_pos rfl, Nat.mul_zero, Nat.zero_add]
    · rw [if_neg e2, if_neg (by omega), show d + k + 1 - (k + 1) = d by omega]
theorem St_f {S : Mem} {un cn pn q r N M : Nat} {f f' : Nat → Int32} {g g' : Nat → Int64} (h : St S un cn pn q r f g N M) (hun : un ≤ 4) (ef : ∀ j, j < 1508 → f' j = f j) (eg : ∀ j, j < 309 → g' j = g j) : St S un cn pn q r f' g' N M :=
  St_mv h rfl (fun _ _ => rfl) (fun _ _ _ => rfl) (fun _ _ => ⟨fun _ _ _ => rfl, rfl, rfl, fun _ _ _ => rfl⟩) (fun _ _ => ⟨rfl, fun _ _ _ => rfl⟩) (fun _ _ => rfl) (fun _ _ => rfl) hun ef eg
theorem chain_le {nn : Nat → Nat} {k : Nat} (h : ∀ d, d < k → nn d ≤ nn (d + 1)) : ∀ m d, d + m = k → nn d ≤ nn k
  | 0, d, e => by rw [show d = k by omega]; exact Nat.le_refl _
  | m + 1, d, e => Nat.le_trans (h d (by omega)) (chain_le h m (d + 1) (by omega))
/-- both sides have put what stands now into their histories -/
theorem HR_push {S T : Mem} {un cn pn N M N' M' k t : Nat} {nn mm : Nat → Nat} (h : HR S un cn pn N M k t nn mm) (hun : un ≤ 4) (h1 : T.1 11 0 = nI (kp k)) (h2 : T.1 11 1 = nI (nxt t)) (h3 : T.1 30 17 = nI (kp k))
    (hnew : St T un cn pn (74 + 9 * (t + 1)) 44 (S.1 34) (S.2 35) N M)
    (hold : ∀ x f g n m, x < 10 → x ≠ t → n ≤ N → m ≤ M → St S un cn pn (74 + 9 * (x + 1)) 44 f g n m → St T un cn pn (74 + 9 * (x + 1)) 44 f g n m)
    (hb1 : ∀ d j, d < kp k → j < 1508 → T.1 36 (1508 * d + j) = if d + 1 = kp k then S.1 34 j else S.1 36 (1508 * (d + k + 1 - kp k) + j))
    (hb2 : ∀ d j, d < kp k → j < 309 → T.2 37 (309 * d + j) = if d + 1 = kp k then S.2 35 j else S.2 37 (309 * (d + k + 1 - kp k) + j)) (hN : N ≤ N') (hM : M ≤ M') :
    ∃ nn' mm', HR T un cn pn N' M' (kp k) (nxt t) nn' mm' := by
  obtain ⟨⟨a1, a2, a3, a4, a5⟩, b1, b2, b3, b4⟩ := h
  have hkp : kp k ≤ 10 ∧ 1 ≤ kp k ∧ kp k ≤ k + 1 ∧ k ≤ kp k := by unfold kp; split <;> omega
  have hnx : nxt t < 10 ∧ (nxt t = t + 1 ∨ (t = 9 ∧ nxt t = 0)) := by unfold nxt; split <;> omega
  refine ⟨fun d => if d = kp k then N' else nn (d + k + 1 - kp k), fun d => if d = kp k then M' else mm (d + k + 1 - kp k), ⟨hkp.1, hnx.1, h1, h2, h3⟩, fun d hd => ?_, if_pos rfl, if_pos rfl, fun d hd => ?_⟩
  · dsimp only
    rw [if_neg (by omega), if_neg (by omega)]
    by_cases e : d + 1 = kp k
    · have eq : hqn (nxt t) (kp k) d = 74 + 9 * (t + 1) := by
        unfold hqn
        have : (nxt t + 10 - kp k + d) % 10 = t := by omega
        rw [this]
      rw [eq, show d + k + 1 - kp k = k by omega, b2, b3]
      exact St_f hnew hun (fun j hj => by rw [hb1 d j hd hj, if_pos e]) (fun j hj => by rw [hb2 d j hd hj, if_pos e])
    · have hdk : d + k + 1 - kp k < k := by omega
      have eq : hqn (nxt t) (kp k) d = hqn t k (d + k + 1 - kp k) := by
        unfold hqn
        have : (nxt t + 10 - kp k + d) % 10 = (t + 10 - k + (d + k + 1 - kp k)) % 10 := by omega
        rw [this]
      rw [eq]
      have hs := b1 _ hdk
      have hle1 := chain_le (nn := nn) (k := k) (fun d hd => (b4 d hd).1) (k - (d + k + 1 - kp k)) (d + k + 1 - kp k) (by omega)
      have hle2 := chain_le (nn := mm) (k := k) (fun d hd => (b4 d hd).2) (k - (d + k + 1 - kp k)) (d + k + 1 - kp k) (by omega)
      have hne : (t + 10 - k + (d + k + 1 - kp k)) % 10 ≠ t := by omega
      exact St_f (hold _ _ _ _ _ (by omega) hne (by omega) (by omega) hs) hun (fun j hj => by rw [hb1 d j hd hj, if_neg e]) (fun j hj => by rw [hb2 d j hd hj, if_neg e])
  · have hne : ¬ d = kp k := by omega
    simp only [if_neg hne]
    by_cases e : d + 1 = kp k
    · simp only [if_pos e]
      rw [show d + k + 1 - kp k = k by omega, b2, b3]
      exact ⟨hN, hM⟩
    · simp only [if_neg e]
      rw [show d + 1 + k + 1 - kp k = (d + k + 1 - kp k) + 1 by omega]
      exact b4 _ (by omega)
/-- what the class's changes leave alone -/
def AgC (Y X : Mem) : Prop := ∀ q, q ≠ 5 → q ≠ 7 → (q < 44 ∨ 53 < q) → (q < 74 ∨ 82 < q) → q < 191 → X.1 q = Y.1 q ∧ X.2 q = Y.2 q
/-- what the reference's changes leave alone -/
def AgR (Y T : Mem) : Prop := ∀ q, q ≠ 34 → q ≠ 35 → q ≠ 41 → T.1 q = Y.1 q ∧ T.2 q = Y.2 q
theorem AgC.rf {Y : Mem} : AgC Y Y := fun _ _ _ _ _ _ => ⟨rfl, rfl⟩
theorem AgC.I {Y X : Mem} (h : AgC Y X) {a j : Nat} {x : Int32} (ha : a = 5 ∨ a = 7 ∨ (44 ≤ a ∧ a ≤ 53) ∨ (74 ≤ a ∧ a ≤ 82) ∨ 191 ≤ a) : AgC Y (setI X a j x) := fun q h1 h2 h3 h4 h5 => by
  rw [sI_1 (by omega), sI_2]; exact h q h1 h2 h3 h4 h5
theorem AgC.R {Y X : Mem} (h : AgC Y X) {a : Nat} {f : Nat → Int32} (ha : a = 5 ∨ a = 7 ∨ (44 ≤ a ∧ a ≤ 53) ∨ (74 ≤ a ∧ a ≤ 82) ∨ 191 ≤ a) : AgC Y (setR X a f) := fun q h1 h2 h3 h4 h5 => by
  rw [sR_1 (by omega), sR_2]; exact h q h1 h2 h3 h4 h5
theorem AgC.J {Y X : Mem} (h : AgC Y X) {a j : Nat} {x : Int64} (ha : a = 5 ∨ a = 7 ∨ (44 ≤ a ∧ a ≤ 53) ∨ (74 ≤ a ∧ a ≤ 82) ∨ 191 ≤ a) : AgC Y (setJ X a j x) := fun q h1 h2 h3 h4 h5 => by
  rw [sJ_2 (by omega), sJ_1]; exact h q h1 h2 h3 h4 h5
theorem AgC.L {Y X : Mem} (h : AgC Y X) {a : Nat} {f : Nat → Int64} (ha : a = 5 ∨ a = 7 ∨ (44 ≤ a ∧ a ≤ 53) ∨ (74 ≤ a ∧ a ≤ 82) ∨ 191 ≤ a) : AgC Y (setL X a f) := fun q h1 h2 h3 h4 h5 => by
  rw [sL_2 (by omega), sL_1]; exact h q h1 h2 h3 h4 h5
theorem AgR.rf {Y : Mem} : AgR Y Y := fun _ _ _ _ => ⟨rfl, rfl⟩
theorem AgR.I {Y X : Mem} (h : AgR Y X) {a j : Nat} {x : Int32} (ha : a = 34 ∨ a = 35 ∨ a = 41) : AgR Y (setI X a j x) := fun q h1 h2 h3 => by
  rw [sI_1 (by omega), sI_2]; exact h q h1 h2 h3
theorem AgR.R {Y X : Mem} (h : AgR Y X) {a : Nat} {f : Nat → Int32} (ha : a = 34 ∨ a = 35 ∨ a = 41) : AgR Y (setR X a f) := fun q h1 h2 h3 => by
  rw [sR_1 (by omega), sR_2]; exact h q h1 h2 h3
theorem AgR.J {Y X : Mem} (h : AgR Y X) {a j : Nat} {x : Int64} (ha : a = 34 ∨ a = 35 ∨ a = 41) : AgR Y (setJ X a j x) := fun q h1 h2 h3 => by
  rw [sJ_2 (by omega), sJ_1]; exact h q h1 h2 h3
theorem AgR.L {Y X : Mem} (h : AgR Y X) {a : Nat} {f : Nat → Int64} (ha : a = 34 ∨ a = 35 ∨ a = 41) : AgR Y (setL X a f) := fun q h1 h2 h3 => by
  rw [sL_2 (by omega), sL_1]; exact h q h1 h2 h3
theorem kp_if (k : Nat) (hk : k ≤ 10) : (if 10 < k + 1 then 10 else k + 1) = kp k := by
  unfold kp
  by_cases e : k = 10
  · subst e; rfl
  · rw [if_neg e, if_neg (by omega)]
/-- a change: the class's from cRem S to X, the reference's from K0 X to T -/
theorem Rl_chg {S X T : Mem} {un cn pn N M N' M' k t : Nat} {nn mm : Nat → Nat} (h : Rl S un cn pn N M) (hh : HR S un cn pn N M k t nn mm) (hX : AgC (cRem S t k N M) X) (hT : AgR (K0 X k) T)
    (hr1 : ∀ i, i < N → ∀ c, 1 ≤ c → c ≤ 4 → X.1 (44 + c) i = S.1 (44 + c) i) (hr2 : ∀ d, d < M → ∀ c, 5 ≤ c → c ≤ 9 → X.1 (44 + c) d = S.1 (44 + c) d)
    (hSt : St T un cn pn 74 44 (T.1 34) (T.2 35) N' M') (hN : N ≤ N') (hM : M ≤ M') : Rl T un cn pn N' M' := by
  obtain ⟨hG, hS, -, hs0, hs1, F, g1, g2, g3, g4, g5⟩ := h
  have hun := hG.1.1
  have hk := hh.1.1
  have ht := hh.1.2.1
  have K1 : ∀ q, q ≠ 36 → q ≠ 30 → (K0 X k).1 q = X.1 q := fun q a b => (rKeep_1 _ k a b).trans (sI_1 b)
  have K2 : ∀ q, q ≠ 37 → (K0 X k).2 q = X.2 q := fun q a => (rKeep_2 _ k a).trans (by rw [sI_2])
  have cA : ∀ q, q ≠ 5 → q ≠ 7 → (q < 44 ∨ 53 < q) → (q < 74 ∨ 82 < q) → q < 191 → q ≠ 34 → q ≠ 35 → q ≠ 41 → q ≠ 36 → q ≠ 30 → T.1 q = (cRem S t k N M).1 q := fun q a b c d e f g i j l => (hT q f g i).1.trans ((K1 q j l).trans (hX q a b c d e).1)
  have cB : ∀ q, q ≠ 5 → q ≠ 7 → (q < 44 ∨ 53 < q) → (q < 74 ∨ 82 < q) → q < 191 → q ≠ 34 → q ≠ 35 → q ≠ 41 → q ≠ 37 → T.2 q = (cRem S t k N M).2 q := fun q a b c d e f g i j => (hT q f g i).2.trans ((K2 q j).trans (hX q a b c d e).2)
  have R1 : ∀ q, (q < 83 + 9 * t ∨ 91 + 9 * t < q) → q ≠ 11 → (cRem S t k N M).1 q = S.1 q := fun q a b => by
    unfold cRem; rw [sI_1 b, sI_1 b]; exact (cpSt_o S (t + 1) 0 N M (by omega)).1
  have R2 : ∀ q, (q < 83 + 9 * t ∨ 91 + 9 * t < q) → (cRem S t k N M).2 q = S.2 q := fun q a => by
    unfold cRem; rw [sI_2, sI_2]; exact (cpSt_o S (t + 1) 0 N M (by omega)).2
  have T1 : ∀ q, q ≠ 5 → q ≠ 7 → q ≠ 11 → (q < 44 ∨ 53 < q) → (q < 74 ∨ 82 < q) → (q < 83 + 9 * t ∨ 91 + 9 * t < q) → q < 191 → q ≠ 30 → q ≠ 34 → q ≠ 35 → q ≠ 36 → q ≠ 41 → T.1 q = S.1 q := fun q a b c d e f g i j l o p => (cA q a b d e g j l p o i).trans (R1 q f c)
  have T2 : ∀ q, q ≠ 5 → q ≠ 7 → (q < 44 ∨ 53 < q) → (q < 74 ∨ 82 < q) → (q < 83 + 9 * t ∨ 91 + 9 * t < q) → q < 191 → q ≠ 34 → q ≠ 35 → q ≠ 37 → q ≠ 41 → T.2 q = S.2 q := fun q a b d e f g j l o p => (cB q a b d e g j l p o).trans (R2 q f)
  have e26 : T.1 26 = S.1 26 := T1 26 (by decide) (by decide) (by decide) (by decide) (by decide) (by omega) (by decide) (by decide) (by decide) (by decide) (by decide) (by decide)
  have X34 : X.1 34 = S.1 34 := (hX 34 (by decide) (by decide) (by decide) (by decide) (by decide)).1.trans (R1 34 (by omega) (by decide))
  have X36 : X.1 36 = S.1 36 := (hX 36 (by decide) (by decide) (by decide) (by decide) (by decide)).1.trans (R1 36 (by omega) (by decide))
  have X35 : X.2 35 = S.2 35 := (hX 35 (by decide) (by decide) (by decide) (by decide) (by decide)).2.trans (R2 35 (by omega))
  have X37 : X.2 37 = S.2 37 := (hX 37 (by decide) (by decide) (by decide) (by decide) (by decide)).2.trans (R2 37 (by omega))
  have row1 : ∀ i, i < N → ∀ c, 1 ≤ c → c ≤ 4 → T.1 (44 + c) i = S.1 (44 + c) i := fun i hi c a b => by
    rw [(hT (44 + c) (by omega) (by omega) (by omega)).1, K1 (44 + c) (by omega) (by omega)]; exact hr1 i hi c a b
  have row2 : ∀ d, d < M → ∀ c, 5 ≤ c → c ≤ 9 → T.1 (44 + c) d = S.1 (44 + c) d := fun i hi c a b => by
    rw [(hT (44 + c) (by omega) (by omega) (by omega)).1, K1 (44 + c) (by omega) (by omega)]; exact hr2 i hi c a b
  have hH := HR_push (T := T) (N' := N') (M' := M') hh hun
    (by rw [cA 11 (by decide) (by decide) (by decide) (by decide) (by decide) (by decide) (by decide) (by decide) (by decide) (by decide)]; unfold cRem; rw [sI_e, pk_us, kp_if k hk])
    (by rw [cA 11 (by decide) (by decide) (by decide) (by decide) (by decide) (by decide) (by decide) (by decide) (by decide) (by decide)]; unfold cRem; rw [sI_e, pk_un (by decide), sI_e, pk_us])
    (by rw [(hT 30 (by decide) (by decide) (by decide)).1]; exact rKeep_d _ k)
    (by
      have q1 : ∀ c, c ≤ 8 → T.1 (74 + 9 * (t + 1) + c) = (cpSt S (t + 1) 0 N M).1 (74 + 9 * (t + 1) + c) := fun c hc => by
        rw [cA _ (by omega) (by omega) (by omega) (by omega) (by omega) (by omega) (by omega) (by omega) (by omega) (by omega)]
        unfold cRem; rw [sI_1 (by omega), sI_1 (by omega)]
      have q2 : ∀ c, c ≤ 8 → T.2 (74 + 9 * (t + 1) + c) = (cpSt S (t + 1) 0 N M).2 (74 + 9 * (t + 1) + c) := fun c hc => by
        rw [cB _ (by omega) (by omega) (by omega) (by omega) (by omega) (by omega) (by omega) (by omega) (by omega)]
        unfold cRem; rw [sI_2, sI_2]
      refine St_mv hS e26 (fun j hj => ?_) (fun j h3 hj => ?_) (fun i hi => ⟨fun c a b => ?_, ?_, ?_, fun c a b => row1 i hi c a b⟩) (fun d hd => ⟨?_, fun c a b => row2 d hd c a b⟩) (fun c hc => ?_) (fun c hc => ?_) hun (fun _ _ => rfl) (fun _ _ => rfl)
      · have := q1 0 (by decide); rw [Nat.add_zero] at this; rw [this]; exact cpSt_0 S (t + 1) 0 N M hj
      · have := q2 0 (by decide); rw [Nat.add_zero] at this; rw [this]; exact cpSt_L S (t + 1) 0 N M h3 hj
      · rw [q1 c (by omega)]
        rcases (show c = 1 ∨ c = 2 ∨ c = 3 by omega) with rfl | rfl | rfl
        · exact cpSt_1 S (t + 1) 0 N M hi
        · exact cpSt_2 S (t + 1) 0 N M hi
        · exact cpSt_3 S (t + 1) 0 N M hi
      · rw [q2 4 (by decide)]; exact cpSt_4 S (t + 1) 0 N M hi
      · rw [q2 5 (by decide)]; exact cpSt_5 S (t + 1) 0 N M hi
      · rw [q1 6 (by decide)]; exact cpSt_6 S (t + 1) 0 N M hd
      · rw [q1 7 (by decide)]; exact cpSt_7 S (t + 1) 0 N M hc
      · rw [q2 8 (by decide)]; exact cpSt_8 S (t + 1) 0 N M hc)
    (fun x f g n m hx hxt hn hm hst => by
      have q1 : ∀ c, c ≤ 8 → T.1 (74 + 9 * (x + 1) + c) = S.1 (74 + 9 * (x + 1) + c) := fun c hc => T1 _ (by omega) (by omega) (by omega) (by omega) (by omega) (by omega) (by omega) (by omega) (by omega) (by omega) (by omega) (by omega)
      have q2 : ∀ c, c ≤ 8 → T.2 (74 + 9 * (x + 1) + c) = S.2 (74 + 9 * (x + 1) + c) := fun c hc => T2 _ (by omega) (by omega) (by omega) (by omega) (by omega) (by omega) (by omega) (by omega) (by omega) (by omega)
      have z1 := q1 0 (by decide)
      have z2 := q2 0 (by decide)
      rw [Nat.add_zero] at z1 z2
      exact St_mv hst e26 (fun j hj => by rw [z1]) (fun j h3 hj => by rw [z2]) (fun i hi => ⟨fun c a b => by rw [q1 c (by omega)], by rw [q2 4 (by decide)], by rw [q2 5 (by decide)], fun c a b => row1 i (by omega) c a b⟩) (fun d hd => ⟨by rw [q1 6 (by decide)], fun c a b => row2 d (by omega) c a b⟩) (fun c hc => by rw [q1 7 (by decide)]) (fun c hc => by rw [q2 8 (by decide)]) hun (fun _ _ => rfl) (fun _ _ => rfl))
    (fun d j hd hj => by
      rw [(hT 36 (by decide) (by decide) (by decide)).1, kp_36 _ hk hd hj, sI_1 (by decide), sI_1 (by decide), X34, X36])
    (fun d j hd hj => by
      rw [(hT 37 (by decide) (by decide) (by decide)).2, kp_37 _ hk hd hj, sI_2, X35, X37]) hN hM
  obtain ⟨nn', mm', hH⟩ := hH
  have fr : ∀ q, (q = 2 ∨ q = 14 ∨ q = 15 ∨ (23 ≤ q ∧ q ≤ 29) ∨ q = 31 ∨ q = 33 ∨ (38 ≤ q ∧ q ≤ 40) ∨ (54 ≤ q ∧ q ≤ 73) ∨ (173 ≤ q ∧ q < 191)) → T.1 q = S.1 q := fun q hq => T1 q (by omega) (by omega) (by omega) (by omega) (by omega) (by omega) (by omega) (by omega) (by omega) (by omega) (by omega) (by omega)
  have fr2 : ∀ q, ((38 ≤ q ∧ q ≤ 39) ∨ (173 ≤ q ∧ q < 191)) → T.2 q = S.2 q := fun q hq => T2 q (by omega) (by omega) (by omega) (by omega) (by omega) (by omega) (by omega) (by omega) (by omega) (by omega)
  have hsr : ∀ z, z < 2 → SR S un cn pn z → SR T un cn pn z := fun z hz hsz => by
    have e : T.1 (14 + z) = S.1 (14 + z) := fr _ (by omega)
    refine ⟨by rw [fr 40 (by omega), e]; exact hsz.1, fun hq => ?_⟩
    rw [e] at hq
    obtain ⟨n, m, h3⟩ := hsz.2 hq
    exact ⟨n, m, St_mv h3 e26 (fun j hj => by rw [fr _ (by omega)]) (fun j _ hj => by rw [fr2 _ (by omega)]) (fun i hi => ⟨fun c a b => by rw [fr _ (by omega)], by rw [fr2 _ (by omega)], by rw [fr2 _ (by omega)], fun c a b => by rw [fr _ (by omega)]⟩) (fun d hd => ⟨by rw [fr _ (by omega)], fun c a b => by rw [fr _ (by omega)]⟩) (fun c hc => by rw [fr _ (by omega)]) (fun c hc => by rw [fr2 _ (by omega)]) hun (fun j _ => by rw [fr 38 (by omega)]) (fun j _ => by rw [fr2 39 (by omega)])⟩
  refine ⟨?_, hSt, ⟨_, _, nn', mm', hH⟩, hsr 0 (by decide) hs0, hsr 1 (by decide) hs1, F, g1, ?_, ?_, fun j hj => ?_, okB_of g5 (fr 31 (by omega))⟩
  · unfold WG
    have e33 := fr 33 (by omega)
    rw [fr 23 (by omega), e33, fr 25 (by omega), fr 26 (by omega), fr 27 (by omega), fr 28 (by omega), fr 29 (by omega)]
    refine ⟨hG.1, hG.2.1, fun p hp => ?_⟩
    rw [rBnd_of e33, rBnd_of e33]
    exact hG.2.2 p hp
  · rw [cA 1 (by decide) (by decide) (by decide) (by decide) (by decide) (by decide) (by decide) (by decide) (by decide) (by decide), R1 1 (by omega) (by decide)]; exact g2
  · rw [(hT 30 (by decide) (by decide) (by decide)).1, rKeep_30 _ k (by decide), sI_e, pk_un (by decide), (hX 30 (by decide) (by decide) (by decide) (by decide) (by decide)).1, R1 30 (by omega) (by decide)]; exact g3
  · rw [fr 31 (by omega), fr 2 (by omega)]; exact g4 j hj
