/-! from what the constructors leave to the world -/
theorem P_app {D : va_G} {cl : List vw_C} {A B : va_W} {H : Heap} (h : va_P D cl (A ++ B) H) : va_P D cl A H ∧ va_P D cl B H :=
  ⟨fun k q hk => h k q (by rw [List.getElem?_append_left (List.getElem?_eq_some_iff.mp hk).1]; exact hk), fun k q hk => h (A.length + k) q (by rw [List.getElem?_append_right (Nat.le_add_right _ _), Nat.add_sub_cancel_left]; exact hk)⟩
theorem P_cons {D : va_G} {cl : List vw_C} {x : Nat × va_E} {B : va_W} {H : Heap} (h : va_P D cl (x :: B) H) : va_at D cl x H ∧ va_P D cl B H := ⟨h 0 x rfl, fun k q hk => h (k + 1) q hk⟩
def ixc (q : Nat) : Nat := if q = 0 then 0 else if q = 1 then 1 else if q = 2 then 9 else if q = 3 then 10 else if q ≤ 12 then q + 33 else if q = 13 then 136 else if q = 14 then 137 else if q = 15 then 157 else if q ≤ 22 then q - 14 else if q ≤ 29 then q - 12 else if q ≤ 43 then q + 147 else if q ≤ 53 then q - 26 else if q ≤ 63 then q + 84 else if q ≤ 73 then q + 94 else if q ≤ 82 then q - 46 else if q ≤ 172 then q - 37 else if q ≤ 181 then q - 25 else q - 14
theorem ixc_inj : ∀ q, q < 191 → ∀ z, z < 191 → ixc q = ixc z → q = z := by decide +kernel
theorem ixc_lt : ∀ q, q < 191 → ((30 ≤ q ∧ q ≤ 43) → ixc q = q + 147) ∧ (¬ (30 ≤ q ∧ q ≤ 43) → ixc q < 177) := by decide +kernel
/-- the addresses, by cell number: the class's u, the reference's mo -/
def alf (u mo : Nat → Nat) (q : Nat) : Nat := if 30 ≤ q ∧ q ≤ 43 then mo (q - 30) else u (ixc q)
theorem alf_c {u mo : Nat → Nat} {q i : Nat} (h : ¬ (30 ≤ q ∧ q ≤ 43)) (e : ixc q = i) : alf u mo q = u i := by unfold alf; rw [if_neg h, e]
theorem alf_m {u mo : Nat → Nat} {q : Nat} (h : 30 ≤ q ∧ q ≤ 43) : alf u mo q = mo (q - 30) := by unfold alf; rw [if_pos h]
def Z0 : Mem := (fun _ _ => 0, fun _ _ => 0)
theorem arrV_congr {cA : ClassId} {n : Nat} {f g : Nat → Value} (h : ∀ j, j < n → f j = g j) : arrV cA n f = arrV cA n g := by
  have e : (fun j : Fin n => f j.val) = fun j => g j.val := funext fun j => h j.1 j.2
  unfold arrV
  rw [e]
theorem qcell_congr {c : ClassId} {n : Nat} {f g : Nat → Option Nat} (h : ∀ j, j < n → f j = g j) : vp_cell c (n, .inr (.inr (.inr (.inr f)))) = vp_cell c (n, .inr (.inr (.inr (.inr g)))) := by
  show arrV c n (fun j => va_rf (f j)) = arrV c n (fun j => va_rf (g j))
  exact arrV_congr (fun j hj => by rw [h j hj])
section WLC
variable {D : va_G} {cA : Nat → ClassId} {H : Heap} {α : Nat → Nat}
/-- cell q of the world, as constructors leave it -/
def PQ (D : va_G) (cA : Nat → ClassId) (α : Nat → Nat) (H : Heap) (q : Nat) : Prop := va_at D vwCl (α q, mk cA α q (fun _ => 0) (fun _ => 0)) H
theorem fam9 {w : Nat → Nat} (hP : va_P D vwCl (L9 cA w) H) {i : Nat} (hi : i < 13) (h : ∀ c, c < 9 → α (74 + 9 * i + c) = w c) : ∀ c, c < 9 → PQ D cA α H (74 + 9 * i + c) := by
  intro c hc
  unfold PQ
  rcases (show c = 0 ∨ c = 1 ∨ c = 2 ∨ c = 3 ∨ c = 4 ∨ c = 5 ∨ c = 6 ∨ c = 7 ∨ c = 8 by omega) with rfl | rfl | rfl | rfl | rfl | rfl | rfl | rfl | rfl
  · have h0 : α (74 + 9 * i) = w 0 := h 0 (by decide)
    show va_at D vwCl (α (74 + 9 * i), mk cA α (74 + 9 * i) (fun _ => 0) (fun _ => 0)) H
    rw [mkS_0 cA α hi]
    show va_at D vwCl (α (74 + 9 * i), .inr (9, [.int 0, .int 0, .int 0, .long 0, .long 0, .long 0, .ref (α (74 + 9 * i + 1)), .ref (α (74 + 9 * i + 2)), .ref (α (74 + 9 * i + 3)), .ref (α (74 + 9 * i + 4)), .ref (α (74 + 9 * i + 5)), .ref (α (74 + 9 * i + 6)), .ref (α (74 + 9 * i + 7)), .ref (α (74 + 9 * i + 8))])) H
    rw [h0, h 1 (by decide), h 2 (by decide), h 3 (by decide), h 4 (by decide), h 5 (by decide), h 6 (by decide), h 7 (by decide), h 8 (by decide)]
    exact hP 0 _ rfl
  · rw [mkS_1 cA α hi, h 1 (by decide)]; exact hP 1 _ rfl
  · rw [mkS_2 cA α hi, h 2 (by decide)]; exact hP 2 _ rfl
  · rw [mkS_3 cA α hi, h 3 (by decide)]; exact hP 3 _ rfl
  · rw [mkS_4 cA α hi, h 4 (by decide)]; exact hP 4 _ rfl
  · rw [mkS_5 cA α hi, h 5 (by decide)]; exact hP 5 _ rfl
  · rw [mkS_6 cA α hi, h 6 (by decide)]; exact hP 6 _ rfl
  · rw [mkS_7 cA α hi, h 7 (by decide)]; exact hP 7 _ rfl
  · rw [mkS_8 cA α hi, h 8 (by decide)]; exact hP 8 _ rfl
theorem fam7 {w : Nat → Nat} (hP : va_P D vwCl (L7 cA w) H) {i : Nat} (hi : i < 3) (h : ∀ c, c < 10 → α (44 + 10 * i + c) = w c) : ∀ c, c < 10 → PQ D cA α H (44 + 10 * i + c) := by
  intro c hc
  unfold PQ
  rcases (show c = 0 ∨ c = 1 ∨ c = 2 ∨ c = 3 ∨ c = 4 ∨ c = 5 ∨ c = 6 ∨ c = 7 ∨ c = 8 ∨ c = 9 by omega) with rfl | rfl | rfl | rfl | rfl | rfl | rfl | rfl | rfl | rfl
  · have h0 : α (44 + 10 * i) = w 0 := h 0 (by decide)
    show va_at D vwCl (α (44 + 10 * i), mk cA α (44 + 10 * i) (fun _ => 0) (fun _ => 0)) H
    rw [mkR_0 cA α hi]
    show va_at D vwCl (α (44 + 10 * i), .inr (7, [.ref (α (44 + 10 * i + 1)), .ref (α (44 + 10 * i + 2)), .ref (α (44 + 10 * i + 3)), .ref (α (44 + 10 * i + 4)), .ref (α (44 + 10 * i + 5)), .ref (α (44 + 10 * i + 6)), .ref (α (44 + 10 * i + 7)), .ref (α (44 + 10 * i + 8)), .ref (α (44 + 10 * i + 9))])) H
    rw [h0, h 1 (by decide), h 2 (by decide), h 3 (by decide), h 4 (by decide), h 5 (by decide), h 6 (by decide), h 7 (by decide), h 8 (by decide), h 9 (by decide)]
    exact hP 0 _ rfl
  · rw [mkR_1 cA α hi, h 1 (by decide)]; exact hP 1 _ rfl
  · rw [mkR_2 cA α hi, h 2 (by decide)]; exact hP 2 _ rfl
  · rw [mkR_3 cA α hi, h 3 (by decide)]; exact hP 3 _ rfl
  · rw [mkR_4 cA α hi, h 4 (by decide)]; exact hP 4 _ rfl
  · rw [mkR_5 cA α hi, h 5 (by decide)]; exact hP 5 _ rfl
  · rw [mkR_6 cA α hi, h 6 (by decide)]; exact hP 6 _ rfl
  · rw [mkR_7 cA α hi, h 7 (by decide)]; exact hP 7 _ rfl
  · rw [mkR_8 cA α hi, h 8 (by decide)]; exact hP 8 _ rfl
  · rw [mkR_9 cA α hi, h 9 (by decide)]; exact hP 9 _ rfl
theorem fam2 {w : Nat → Nat} (hP : va_P D vwCl (L2 cA w) H) {b : Nat} (hb : b = 16 ∨ b = 23) (h : ∀ c, c < 7 → α (b + c) = w c) : ∀ c, c < 7 → PQ D cA α H (b + c) := by
  intro c hc
  unfold PQ
  have g0 := h 0 (by decide)
  have g1 := h 1 (by decide)
  have g2 := h 2 (by decide)
  have g3 := h 3 (by decide)
  have g4 := h 4 (by decide)
  have g5 := h 5 (by decide)
  have g6 := h 6 (by decide)
  have p0 := hP 0 _ rfl
  rcases hb with rfl | rfl
  · rcases (show c = 0 ∨ c = 1 ∨ c = 2 ∨ c = 3 ∨ c = 4 ∨ c = 5 ∨ c = 6 by omega) with rfl | rfl | rfl | rfl | rfl | rfl | rfl
    · rw [← g0, ← g1, ← g2, ← g3, ← g4, ← g5, ← g6] at p0; exact p0
    · have := hP 1 _ rfl; rw [← g1] at this; exact this
    · have := hP 2 _ rfl; rw [← g2] at this; exact this
    · have := hP 3 _ rfl; rw [← g3] at this; exact this
    · have := hP 4 _ rfl; rw [← g4] at this; exact this
    · have := hP 5 _ rfl; rw [← g5] at this; exact this
    · have := hP 6 _ rfl; rw [← g6] at this; exact this
  · rcases (show c = 0 ∨ c = 1 ∨ c = 2 ∨ c = 3 ∨ c = 4 ∨ c = 5 ∨ c = 6 by omega) with rfl | rfl | rfl | rfl | rfl | rfl | rfl
    · rw [← g0, ← g1, ← g2, ← g3, ← g4, ← g5, ← g6] at p0; exact p0
    · have := hP 1 _ rfl; rw [← g1] at this; exact this
    · have := hP 2 _ rfl; rw [← g2] at this; exact this
    · have := hP 3 _ rfl; rw [← g3] at this; exact this
    · have := hP 4 _ rfl; rw [← g4] at this; exact this
    · have := hP 5 _ rfl; rw [← g5] at this; exact this
    · have := hP 6 _ rfl; rw [← g6] at this; exact this
theorem fl9_P {uu : Nat → Nat → Nat} : ∀ j, va_P D vwCl (fl9 cA uu j) H → ∀ k, k < j → va_P D vwCl (L9 cA (uu k)) H
  | 0, _, k, h => absurd h (Nat.not_lt_zero _)
  | j + 1, hP, k, h => by
    rw [fl9] at hP
    obtain ⟨h1, h2⟩ := P_app hP
    by_cases e : k = j
    · rw [e]; exact h2
    · exact fl9_P j h1 k (by omega)
theorem fl8_P {uu : Nat → Nat → Nat} : ∀ j, va_P D vwCl (fl8 cA uu j) H → ∀ k, k < j → va_P D vwCl (L8 cA (uu k)) H
  | 0, _, k, h => absurd h (Nat.not_lt_zero _)
  | j + 1, hP, k, h => by
    rw [fl8] at hP
    obtain ⟨h1, h2⟩ := P_app hP
    by_cases e : k = j
    · rw [e]; exact h2
    · exact fl8_P j h1 k (by omega)
theorem ix_16 : ∀ c, c < 7 → ¬ (30 ≤ 16 + c ∧ 16 + c ≤ 43) ∧ ixc (16 + c) = 1 + (1 + c) := by decide
theorem ix_23 : ∀ c, c < 7 → ¬ (30 ≤ 23 + c ∧ 23 + c ≤ 43) ∧ ixc (23 + c) = 10 + (1 + c) := by decide
theorem ix_44 : ∀ c, c < 10 → ¬ (30 ≤ 44 + 10 * 0 + c ∧ 44 + 10 * 0 + c ≤ 43) ∧ ixc (44 + 10 * 0 + c) = 10 + (8 + c) := by decide
theorem ix_74 : ∀ c, c < 9 → ¬ (30 ≤ 74 + 9 * 0 + c ∧ 74 + 9 * 0 + c ≤ 43) ∧ ixc (74 + 9 * 0 + c) = 10 + (18 + c) := by decide
theorem ix_83 : ∀ k, k < 10 → ∀ c, c < 9 → ¬ (30 ≤ 74 + 9 * (k + 1) + c ∧ 74 + 9 * (k + 1) + c ≤ 43) ∧ ixc (74 + 9 * (k + 1) + c) = 44 + (2 + 9 * k + c) := by decide
theorem ix_54 : ∀ s, s < 2 → ∀ c, c < 10 → ¬ (30 ≤ 44 + 10 * (s + 1) + c ∧ 44 + 10 * (s + 1) + c ≤ 43) ∧ ixc (44 + 10 * (s + 1) + c) = 137 + 20 * s + (1 + c) := by decide
theorem ix_173 : ∀ s, s < 2 → ∀ c, c < 9 → ¬ (30 ≤ 74 + 9 * (s + 11) + c ∧ 74 + 9 * (s + 11) + c ≤ 43) ∧ ixc (74 + 9 * (s + 11) + c) = 137 + 20 * s + (11 + c) := by decide
set_option maxRecDepth 100000 in
set_option maxHeartbeats 1000000 in
/-- the cells of the class -/
theorem cls_PQ {u mo : Nat → Nat} (hP : va_P D vwCl (L10 cA u) H) : ∀ q, q < 191 → ¬ (30 ≤ q ∧ q ≤ 43) → PQ D cA (alf u mo) H q := by
  unfold L10 at hP
  obtain ⟨hP, h8⟩ := P_app hP
  obtain ⟨hx, hP⟩ := P_cons hP
  obtain ⟨hP, hsl⟩ := P_app hP
  obtain ⟨hP, h4⟩ := P_app hP
  obtain ⟨hP, h1⟩ := P_app hP
  obtain ⟨hP, h6⟩ := P_app hP
  obtain ⟨hP, h5⟩ := P_app hP
  obtain ⟨hP, h0⟩ := P_app hP
  obtain ⟨-, h3⟩ := P_app hP
  unfold L3 at h3
  obtain ⟨h3x, h3⟩ := P_cons h3
  obtain ⟨h3, h3b⟩ := P_app h3
  obtain ⟨-, h32⟩ := P_app h3
  unfold L0 at h0
  obtain ⟨h0x, h0⟩ := P_cons h0
  obtain ⟨h0, h09⟩ := P_app h0
  obtain ⟨h0, h07⟩ := P_app h0
  obtain ⟨-, h02⟩ := P_app h0
  unfold L4 at h4
  obtain ⟨h4x, h49⟩ := P_app h4
  have k83 := fl9_P 10 h49
  have k8 := fl8_P 2 h8
  have f16 := fam2 (α := alf u mo) h32 (b := 16) (Or.inl rfl) (fun c hc => alf_c (ix_16 c hc).1 (ix_16 c hc).2)
  have f23 := fam2 (α := alf u mo) h02 (b := 23) (Or.inr rfl) (fun c hc => alf_c (ix_23 c hc).1 (ix_23 c hc).2)
  have f44 := fam7 (α := alf u mo) h07 (i := 0) (by decide) (fun c hc => alf_c (ix_44 c hc).1 (ix_44 c hc).2)
  have f74 := fam9 (α := alf u mo) h09 (i := 0) (by decide) (fun c hc => alf_c (ix_74 c hc).1 (ix_74 c hc).2)
  have f83 : ∀ k, k < 10 → ∀ c, c < 9 → PQ D cA (alf u mo) H (74 + 9 * (k + 1) + c) := fun k hk => fam9 (α := alf u mo) (k83 k hk) (i := k + 1) (by omega) (fun c hc => alf_c (ix_83 k hk c hc).1 (ix_83 k hk c hc).2)
  have fs : ∀ s, s < 2 → va_at D vwCl (u (137 + 20 * s), .inr (8, [.int 0, .ref (u (137 + 20 * s + 1)), .ref (u (137 + 20 * s + 11))])) H ∧ (∀ c, c < 10 → PQ D cA (alf u mo) H (44 + 10 * (s + 1) + c)) ∧ ∀ c, c < 9 → PQ D cA (alf u mo) H (74 + 9 * (s + 11) + c) := fun s hs => by
    have h := k8 s hs
    unfold L8 at h
    obtain ⟨a1, h⟩ := P_cons h
    obtain ⟨h, a3⟩ := P_app h
    obtain ⟨-, a2⟩ := P_app h
    exact ⟨a1, fam7 (α := alf u mo) a2 (i := s + 1) (by omega) (fun c hc => alf_c (ix_54 s hs c hc).1 (ix_54 s hs c hc).2), fam9 (α := alf u mo) a3 (i := s + 11) (by omega) (fun c hc => alf_c (ix_173 s hs c hc).1 (ix_173 s hs c hc).2)⟩
  intro q hq hm
  by_cases q0 : q = 0
  · subst q0; exact hx
  by_cases q1 : q = 1
  · subst q1; exact h3x
  by_cases q2 : q = 2
  · subst q2; exact h3b 0 _ rfl
  by_cases q3 : q = 3
  · subst q3; exact h0x
  by_cases q4 : q = 4
  · subst q4; exact h5 0 _ rfl
  by_cases q5 : q = 5
  · subst q5; exact h5 1 _ rfl
  by_cases q6 : q = 6
  · subst q6; exact h6 0 _ rfl
  by_cases q7 : q = 7
  · subst q7; exact h6 1 _ rfl
  by_cases q8 : q = 8
  · subst q8; exact h6 2 _ rfl
  by_cases q9 : q = 9
  · subst q9; exact h6 3 _ rfl
  by_cases q10 : q = 10
  · subst q10; exact h1 0 _ rfl
  by_cases q11 : q = 11
  · subst q11; exact h4x 0 _ rfl
  by_cases q12 : q = 12
  · subst q12
    have h := h4x 1 _ rfl
    have e : vp_cell (cA 5) (10, .inr (.inr (.inr (.inr (rfs (fun k c => u (44 + (2 + 9 * k + c))) 10))))) = vp_cell (cA 5) (10, .inr (.inr (.inr (.inr (fun j => some (alf u mo (83 + 9 * j))))))) := qcell_congr (fun j hj => by
      unfold rfs
      rw [if_pos hj, show 83 + 9 * j = 74 + 9 * (j + 1) + 0 by omega, alf_c (ix_83 j hj 0 (by decide)).1 (ix_83 j hj 0 (by decide)).2])
    show H[_]? = some (vp_cell (cA 5) (10, .inr (.inr (.inr (.inr (fun j => some (alf u mo (83 + 9 * j))))))))
    rw [← e]; exact h
  by_cases q13 : q = 13
  · subst q13
    have h := hsl 0 _ rfl
    have e : vp_cell (cA 6) (2, .inr (.inr (.inr (.inr (rfs (fun k c => u (137 + 20 * k + c)) 2))))) = vp_cell (cA 6) (2, .inr (.inr (.inr (.inr (fun j => some (alf u mo (14 + j))))))) := qcell_congr (fun j hj => by
      unfold rfs
      rw [if_pos hj]
      rcases (show j = 0 ∨ j = 1 by omega) with rfl | rfl <;> rfl)
    show H[_]? = some (vp_cell (cA 6) (2, .inr (.inr (.inr (.inr (fun j => some (alf u mo (14 + j))))))))
    rw [← e]; exact h
  by_cases q14 : q = 14
  · subst q14; exact (fs 0 (by decide)).1
  by_cases q15 : q = 15
  · subst q15; exact (fs 1 (by decide)).1
  by_cases q22 : q ≤ 22
  · have := f16 (q - 16) (by omega); rw [show 16 + (q - 16) = q by omega] at this; exact this
  by_cases q29 : q ≤ 29
  · have := f23 (q - 23) (by omega); rw [show 23 + (q - 23) = q by omega] at this; exact this
  by_cases q53 : q ≤ 53
  · have := f44 (q - 44) (by omega); rw [show 44 + 10 * 0 + (q - 44) = q by omega] at this; exact this
  by_cases q73 : q ≤ 73
  · have := (fs ((q - 54) / 10) (by omega)).2.1 ((q - 54) % 10) (by omega); rw [show 44 + 10 * ((q - 54) / 10 + 1) + (q - 54) % 10 = q by omega] at this; exact this
  by_cases q82 : q ≤ 82
  · have := f74 (q - 74) (by omega); rw [show 74 + 9 * 0 + (q - 74) = q by omega] at this; exact this
  by_cases q172 : q ≤ 172
  · have := f83 ((q - 83) / 9) (by omega) ((q - 83) % 9) (by omega); rw [show 74 + 9 * ((q - 83) / 9 + 1) + (q - 83) % 9 = q by omega] at this; exact this
  · have := (fs ((q - 173) / 9) (by omega)).2.2 ((q - 173) % 9) (by omega); rw [show 74 + 9 * ((q - 173) / 9 + 11) + (q - 173) % 9 = q by omega] at this; exact this
set_option maxRecDepth 100000 in
theorem L10_ad (u : Nat → Nat) : (L10 cA u).map Prod.fst = (List.range 177).map u := rfl
end WLC
