/-! the world, and the reference's constructor -/
section MKC
variable {cA : Nat → ClassId} {α β : Nat → Nat} {f : Nat → Int32} {g : Nat → Int64}
theorem mkc_3 (h : ∀ z, z < 191 → β z = α z) : mk cA β 3 f g = mk cA α 3 f g := by rw [mk_3, mk_3]; show (.inr (0, [.ref (β 23), .ref (β 44), .ref (β 74)]) : va_E) = _; rw [h 23 (by decide), h 44 (by decide), h 74 (by decide)]; rfl
theorem mkc_0 (h : ∀ z, z < 191 → β z = α z) : mk cA β 0 f g = mk cA α 0 f g := by rw [mk_0, mk_0]; show (.inr (10, [.ref (β 1), .ref (β 3), .ref (β 4), .ref (β 6), .ref (β 10), .ref (β 11), .ref (β 13)]) : va_E) = _; rw [h 1 (by decide), h 3 (by decide), h 4 (by decide), h 6 (by decide), h 10 (by decide), h 11 (by decide), h 13 (by decide)]; rfl
theorem mkc_1 (h : ∀ z, z < 191 → β z = α z) : mk cA β 1 f g = mk cA α 1 f g := by rw [mk_1, mk_1]; show (.inr (3, [.ref (β 16), .int (f 1), .ref (β 2), .int (f 3), .int (f 4), .int (f 5), .int (f 6), .int (f 7), .int (f 8), .int (f 9), .int (f 10)]) : va_E) = _; rw [h 16 (by decide), h 2 (by decide)]; rfl
theorem mkc_4 (h : ∀ z, z < 191 → β z = α z) : mk cA β 4 f g = mk cA α 4 f g := by rw [mk_4, mk_4]; show (.inr (5, [.ref (β 5)]) : va_E) = _; rw [h 5 (by decide)]; rfl
theorem mkc_6 (h : ∀ z, z < 191 → β z = α z) : mk cA β 6 f g = mk cA α 6 f g := by rw [mk_6, mk_6]; show (.inr (6, [.ref (β 7), .ref (β 8), .ref (β 9)]) : va_E) = _; rw [h 7 (by decide), h 8 (by decide), h 9 (by decide)]; rfl
theorem mkc_10 (h : ∀ z, z < 191 → β z = α z) : mk cA β 10 f g = mk cA α 10 f g := by rw [mk_10, mk_10]; show (.inr (1, []) : va_E) = _; rfl
theorem mkc_11 (h : ∀ z, z < 191 → β z = α z) : mk cA β 11 f g = mk cA α 11 f g := by rw [mk_11, mk_11]; show (.inr (4, [.int (f 0), .int (f 1), .ref (β 12)]) : va_E) = _; rw [h 12 (by decide)]; rfl
theorem mkc_14 (h : ∀ z, z < 191 → β z = α z) : mk cA β 14 f g = mk cA α 14 f g := by rw [mk_14, mk_14]; show (.inr (8, [.int (f 0), .ref (β 54), .ref (β 173)]) : va_E) = _; rw [h 54 (by decide), h 173 (by decide)]; rfl
theorem mkc_15 (h : ∀ z, z < 191 → β z = α z) : mk cA β 15 f g = mk cA α 15 f g := by rw [mk_15, mk_15]; show (.inr (8, [.int (f 0), .ref (β 64), .ref (β 182)]) : va_E) = _; rw [h 64 (by decide), h 182 (by decide)]; rfl
theorem mkc_16 (h : ∀ z, z < 191 → β z = α z) : mk cA β 16 f g = mk cA α 16 f g := by rw [mk_16, mk_16]; show (.inr (2, [.int (f 0), .int (f 1), .int (f 2), .int (f 3), .int (f 4), .int (f 5), .ref (β 17), .ref (β 18), .ref (β 19), .ref (β 20), .ref (β 21), .ref (β 22)]) : va_E) = _; rw [h 17 (by decide), h 18 (by decide), h 19 (by decide), h 20 (by decide), h 21 (by decide), h 22 (by decide)]; rfl
theorem mkc_23 (h : ∀ z, z < 191 → β z = α z) : mk cA β 23 f g = mk cA α 23 f g := by rw [mk_23, mk_23]; show (.inr (2, [.int (f 0), .int (f 1), .int (f 2), .int (f 3), .int (f 4), .int (f 5), .ref (β 24), .ref (β 25), .ref (β 26), .ref (β 27), .ref (β 28), .ref (β 29)]) : va_E) = _; rw [h 24 (by decide), h 25 (by decide), h 26 (by decide), h 27 (by decide), h 28 (by decide), h 29 (by decide)]; rfl
theorem mkc_30 (h : ∀ z, z < 191 → β z = α z) : mk cA β 30 f g = mk cA α 30 f g := by rw [mk_30, mk_30]; show (.inr (11, [.int (f 0), .ref (β 31), .int (f 2), .int (f 3), .int (f 4), .int (f 5), .int (f 6), .int (f 7), .int (f 8), .int (f 9), .ref (β 32), .ref (β 33), .int (f 12), .ref (β 34), .ref (β 35), .ref (β 36), .ref (β 37), .int (f 17), .ref (β 38), .ref (β 39), .ref (β 40), .ref (β 41), .ref (β 42), .ref (β 43)]) : va_E) = _; rw [h 31 (by decide), h 32 (by decide), h 33 (by decide), h 34 (by decide), h 35 (by decide), h 36 (by decide), h 37 (by decide), h 38 (by decide), h 39 (by decide), h 40 (by decide), h 41 (by decide), h 42 (by decide), h 43 (by decide)]; rfl
theorem mkc_R (h : ∀ z, z < 191 → β z = α z) {i c : Nat} (hi : i < 3) (hc : c < 10) : mk cA β (44 + 10 * i + c) f g = mk cA α (44 + 10 * i + c) f g := by
  rcases (show c = 0 ∨ c = 1 ∨ c = 2 ∨ c = 3 ∨ c = 4 ∨ c = 5 ∨ c = 6 ∨ c = 7 ∨ c = 8 ∨ c = 9 by omega) with rfl | rfl | rfl | rfl | rfl | rfl | rfl | rfl | rfl | rfl
  · show mk cA β (44 + 10 * i) f g = mk cA α (44 + 10 * i) f g
    rw [mkR_0 cA β hi, mkR_0 cA α hi]
    show (.inr (7, [.ref (β (44 + 10 * i + 1)), .ref (β (44 + 10 * i + 2)), .ref (β (44 + 10 * i + 3)), .ref (β (44 + 10 * i + 4)), .ref (β (44 + 10 * i + 5)), .ref (β (44 + 10 * i + 6)), .ref (β (44 + 10 * i + 7)), .ref (β (44 + 10 * i + 8)), .ref (β (44 + 10 * i + 9))]) : va_E) = _
    rw [h (44 + 10 * i + 1) (by omega), h (44 + 10 * i + 2) (by omega), h (44 + 10 * i + 3) (by omega), h (44 + 10 * i + 4) (by omega), h (44 + 10 * i + 5) (by omega), h (44 + 10 * i + 6) (by omega), h (44 + 10 * i + 7) (by omega), h (44 + 10 * i + 8) (by omega), h (44 + 10 * i + 9) (by omega)]; rfl
  · rw [mkR_1 cA β hi, mkR_1 cA α hi]
  · rw [mkR_2 cA β hi, mkR_2 cA α hi]
  · rw [mkR_3 cA β hi, mkR_3 cA α hi]
  · rw [mkR_4 cA β hi, mkR_4 cA α hi]
  · rw [mkR_5 cA β hi, mkR_5 cA α hi]
  · rw [mkR_6 cA β hi, mkR_6 cA α hi]
  · rw [mkR_7 cA β hi, mkR_7 cA α hi]
  · rw [mkR_8 cA β hi, mkR_8 cA α hi]
  · rw [mkR_9 cA β hi, mkR_9 cA α hi]
theorem mkc_S (h : ∀ z, z < 191 → β z = α z) {i c : Nat} (hi : i < 13) (hc : c < 9) : mk cA β (74 + 9 * i + c) f g = mk cA α (74 + 9 * i + c) f g := by
  rcases (show c = 0 ∨ c = 1 ∨ c = 2 ∨ c = 3 ∨ c = 4 ∨ c = 5 ∨ c = 6 ∨ c = 7 ∨ c = 8 by omega) with rfl | rfl | rfl | rfl | rfl | rfl | rfl | rfl | rfl
  · show mk cA β (74 + 9 * i) f g = mk cA α (74 + 9 * i) f g
    rw [mkS_0 cA β hi, mkS_0 cA α hi]
    show (.inr (9, [.int (f 0), .int (f 1), .int (f 2), .long (g 3), .long (g 4), .long (g 5), .ref (β (74 + 9 * i + 1)), .ref (β (74 + 9 * i + 2)), .ref (β (74 + 9 * i + 3)), .ref (β (74 + 9 * i + 4)), .ref (β (74 + 9 * i + 5)), .ref (β (74 + 9 * i + 6)), .ref (β (74 + 9 * i + 7)), .ref (β (74 + 9 * i + 8))]) : va_E) = _
    rw [h (74 + 9 * i + 1) (by omega), h (74 + 9 * i + 2) (by omega), h (74 + 9 * i + 3) (by omega), h (74 + 9 * i + 4) (by omega), h (74 + 9 * i + 5) (by omega), h (74 + 9 * i + 6) (by omega), h (74 + 9 * i + 7) (by omega), h (74 + 9 * i + 8) (by omega)]; rfl
  · rw [mkS_1 cA β hi, mkS_1 cA α hi]
  · rw [mkS_2 cA β hi, mkS_2 cA α hi]
  · rw [mkS_3 cA β hi, mkS_3 cA α hi]
  · rw [mkS_4 cA β hi, mkS_4 cA α hi]
  · rw [mkS_5 cA β hi, mkS_5 cA α hi]
  · rw [mkS_6 cA β hi, mkS_6 cA α hi]
  · rw [mkS_7 cA β hi, mkS_7 cA α hi]
  · rw [mkS_8 cA β hi, mkS_8 cA α hi]
theorem mkc (h : ∀ z, z < 191 → β z = α z) {k : Nat} (hk : k < 191) (h12 : k ≠ 12) (h13 : k ≠ 13) : mk cA β k f g = mk cA α k f g := by
  by_cases h44 : k < 44
  · rcases (show k = 0 ∨ k = 1 ∨ k = 2 ∨ k = 3 ∨ k = 4 ∨ k = 5 ∨ k = 6 ∨ k = 7 ∨ k = 8 ∨ k = 9 ∨ k = 10 ∨ k = 11 ∨ k = 14 ∨ k = 15 ∨ k = 16 ∨ k = 17 ∨ k = 18 ∨ k = 19 ∨ k = 20 ∨ k = 21 ∨ k = 22 ∨ k = 23 ∨ k = 24 ∨ k = 25 ∨ k = 26 ∨ k = 27 ∨ k = 28 ∨ k = 29 ∨ k = 30 ∨ k = 31 ∨ k = 32 ∨ k = 33 ∨ k = 34 ∨ k = 35 ∨ k = 36 ∨ k = 37 ∨ k = 38 ∨ k = 39 ∨ k = 40 ∨ k = 41 ∨ k = 42 ∨ k = 43 by omega) with rfl | rfl | rfl | rfl | rfl | rfl | rfl | rfl | rfl | rfl | rfl | rfl | rfl | rfl | rfl | rfl | rfl | rfl | rfl | rfl | rfl | rfl | rfl | rfl | rfl | rfl | rfl | rfl | rfl | rfl | rfl | rfl | rfl | rfl | rfl | rfl | rfl | rfl | rfl | rfl | rfl | rfl
    · exact mkc_0 h
    · exact mkc_1 h
    · rfl
    · exact mkc_3 h
    · exact mkc_4 h
    · rfl
    · exact mkc_6 h
    · rfl
    · rfl
    · rfl
    · exact mkc_10 h
    · exact mkc_11 h
    · exact mkc_14 h
    · exact mkc_15 h
    · exact mkc_16 h
    · rfl
    · rfl
    · rfl
    · rfl
    · rfl
    · rfl
    · exact mkc_23 h
    · rfl
    · rfl
    · rfl
    · rfl
    · rfl
    · rfl
    · exact mkc_30 h
    · rfl
    · rfl
    · rfl
    · rfl
    · rfl
    · rfl
    · rfl
    · rfl
    · rfl
    · rfl
    · rfl
    · rfl
    · rfl
  · by_cases h74 : k < 74
    · have := mkc_R (cA := cA) (f := f) (g := g) h (i := (k - 44) / 10) (c := (k - 44) % 10) (by omega) (by omega)
      rw [show 44 + 10 * ((k - 44) / 10) + (k - 44) % 10 = k by omega] at this; exact this
    · have := mkc_S (cA := cA) (f := f) (g := g) h (i := (k - 74) / 9) (c := (k - 74) % 9) (by omega) (by omega)
      rw [show 74 + 9 * ((k - 74) / 9) + (k - 74) % 9 = k by omega] at this; exact this
theorem at_c {D : va_G} {H : Heap} (h : ∀ z, z < 191 → β z = α z) {k : Nat} (hk : k < 191) (ha : va_at D vwCl (α k, mk cA α k f g) H) : va_at D vwCl (β k, mk cA β k f g) H := by
  by_cases h12 : k = 12
  · subst h12
    have e : vp_cell (cA 5) (10, .inr (.inr (.inr (.inr (fun j => some (α (83 + 9 * j))))))) = vp_cell (cA 5) (10, .inr (.inr (.inr (.inr (fun j => some (β (83 + 9 * j))))))) := qcell_congr (fun j hj => by rw [h _ (by omega)])
    rw [h 12 (by decide)]
    show H[α 12]? = some (vp_cell (cA 5) (10, .inr (.inr (.inr (.inr (fun j => some (β (83 + 9 * j))))))))
    rw [← e]; exact ha
  · by_cases h13 : k = 13
    · subst h13
      have e : vp_cell (cA 6) (2, .inr (.inr (.inr (.inr (fun j => some (α (14 + j))))))) = vp_cell (cA 6) (2, .inr (.inr (.inr (.inr (fun j => some (β (14 + j))))))) := qcell_congr (fun j hj => by rw [h _ (by omega)])
      rw [h 13 (by decide)]
      show H[α 13]? = some (vp_cell (cA 6) (2, .inr (.inr (.inr (.inr (fun j => some (β (14 + j))))))))
      rw [← e]; exact ha
    · rw [mkc h hk h12 h13, h k hk]; exact ha
end MKC
theorem WL_of {D : va_G} {cA : Nat → ClassId} {α : Nat → Nat} {n : Nat} {S : Mem} {H : Heap} (h : ∀ k, k < n → va_at D vwCl (α k, mk cA α k (S.1 k) (S.2 k)) H) : va_P D vwCl (WL cA α n S) H := by
  intro k q hk
  obtain ⟨h1, -⟩ := WL_at hk
  rw [WL_get h1] at hk
  cases hk
  exact h k h1
theorem WL_to {D : va_G} {cA : Nat → ClassId} {α : Nat → Nat} {n : Nat} {S : Mem} {H : Heap} (h : va_P D vwCl (WL cA α n S) H) {k : Nat} (hk : k < n) : va_at D vwCl (α k, mk cA α k (S.1 k) (S.2 k)) H := h k _ (WL_get hk)
/-- the addresses are apart -/
theorem WL_ap {A : Nat → Prop} {cA : Nat → ClassId} {u mo : Nat → Nat} {w : va_W} {S : Mem} (hD : va_D A w) (had : w.map Prod.fst = (List.range 177).map u ++ (List.range 14).map mo) : va_D A (WL cA (alf u mo) 191 S) := by
  have key : ∀ k, k < 191 → ∃ e, w[ixc k]? = some (alf u mo k, e) := fun k hk => by
    have h1 : (w.map Prod.fst)[ixc k]? = some (alf u mo k) := by
      rw [had]
      by_cases hm : 30 ≤ k ∧ k ≤ 43
      · rw [(ixc_lt k hk).1 hm, List.getElem?_append_right (by simp; omega), alf_m hm, List.getElem?_map, List.length_map, List.length_range, List.getElem?_range (by omega), show k + 147 - 177 = k - 30 by omega]; rfl
      · have h2 := (ixc_lt k hk).2 hm
        rw [List.getElem?_append_left (by simpa using h2), alf_c hm rfl, List.getElem?_map, List.getElem?_range h2]; rfl
    rw [List.getElem?_map] at h1
    cases hq : w[ixc k]? with
    | none => rw [hq] at h1; cases h1
    | some x =>
      rw [hq] at h1
      obtain ⟨x1, x2⟩ := x
      cases h1
      exact ⟨x2, rfl⟩
  refine ⟨fun i j p q hi hj hpq => ?_, fun k q hk => ?_⟩
  · obtain ⟨h1, e1⟩ := WL_at hi
    obtain ⟨h2, e2⟩ := WL_at hj
    obtain ⟨x, k1⟩ := key i h1
    obtain ⟨y, k2⟩ := key j h2
    have h3 := hD.1 _ _ _ _ k1 k2 (by rw [← e1, ← e2]; exact hpq)
    exact ixc_inj i h1 j h2 h3
  · obtain ⟨h1, e1⟩ := WL_at hk
    obtain ⟨x, k1⟩ := key k h1
    rw [e1]
    exact hD.2 _ _ k1
def S0 : Mem := rTD (rDf Z0)
theorem P_as {D : va_G} {cl : List vw_C} {A B C : va_W} {H : Heap} (h : va_P D cl ((A ++ B) ++ C) H) : va_P D cl (A ++ (B ++ C)) H := by rw [← List.append_assoc]; exact h
theorem D_as {X : Nat → Prop} {A B C : va_W} (h : va_D X ((A ++ B) ++ C)) : va_D X (A ++ (B ++ C)) := by rw [← List.append_assoc]; exact h
abbrev w11 (cA : Nat → ClassId) (u : Nat → Nat) (a : Nat) : va_W := L10 cA u ++ [(a, .inr (11, [.int 0, .null, .int 0, .int 0, .int 0, .int 0, .int 0, .int 0, .int 0, .int 0, .null, .null, .int 0, .null, .null, .null, .null, .int 0, .null, .null, .null, .null, .null, .null]))]
abbrev PreM (D : va_G) (cA : Nat → ClassId) (u : Nat → Nat) (a sz : Nat) : Array Value → State → Prop := va_Pc [.ref a] (fun U => U.heap.size = sz ∧ va_P D vwCl (w11 cA u a) U.heap ∧ va_K D vwCl (tyl cA) U ∧ va_D (fun _ => True) (w11 cA u a))
abbrev QM (D : va_G) (cA : Nat → ClassId) (u : Nat → Nat) (a sz : Nat) : Array Value → State → Outcome → State → Prop := va_Qv (fun mo : Nat → Nat => mo 0 = a) (fun mo t => va_P D vwCl (WL cA (alf u mo) 191 S0) t.heap ∧ va_D (va_A (w11 cA u a) sz) (WL cA (alf u mo) 191 S0)) (va_A (w11 cA u a) sz)
set_option maxRecDepth 100000 in
set_option maxHeartbeats 4000000 in
theorem cn_X11_init (l : Launch) (D : va_G) (cA : Nat → ClassId) (u : Nat → Nat) (a sz : Nat) : Met l yX11_init wsX11_init ({ frames := 1, cells := 13, slots := 24531, locals := 21 }) (PreM D cA u a sz) (QM D cA u a sz) 13 24531 (va_A (w11 cA u a) sz) := by
  refine Met.ofW (cc := cX11_init) (maxL := 1) (ret := none) (by decide) rfl ?_
  intro p e s m args below meth c s₁ B hml hv
  obtain ⟨rfl, hsz, hP, hK, hD⟩ := hv
  subst hsz
  have hl := lv_entry [Value.ref a] (n := 1) (by exact Nat.le_of_ble_eq_true rfl)
  rw [lg_entry_eq]
  have hx := B.exec
  have hb := B.bytes
  have hr := B.returns
  have hlocks := B.notSynchronized
  have hts := atoms_spec (ws := wsX11_init) B.pre
  have hown : s.vm.findClass RX11 = some m.cls := findClass_of_methodNamed B.named
  have hin : meth.name = "<init>" := (name_of_methodNamed B.named B.method).1
  generalize (lg_sl [Value.ref a] ++ List.replicate (1 - (lg_sl [Value.ref a]).length) Slot.unset).toArray = ls at hl ⊢
  have hl : lv_has ls 1 [(0, .ref a)] := hl
  have hD := hD.self (sz := s.heap.size)
  have hA : ∀ z, s.heap.size ≤ z → va_A (w11 cA u a) s.heap.size z := fun z h => Or.inr h
  have hS : va_S (va_A (w11 cA u a) s.heap.size) s.heap s.heap [] := va_S.rf
  obtain ⟨w0, hw0⟩ : ∃ w0, w0 = w11 cA u a := ⟨_, rfl⟩
  rw [← hw0] at hD hA hS ⊢
  have hP : va_P D vwCl ((L10 cA u ++ [(a, (.inr (11, [.int 0, .null, .int 0, .int 0, .int 0, .int 0, .int 0, .int 0, .int 0, .int 0, .null, .null, .int 0, .null, .null, .null, .null, .int 0, .null, .null, .null, .null, .null, .null]) : va_E))]) ++ ([] : va_W)) s.heap := by rw [List.append_nil]; exact hP
  have hD : va_D (va_A w0 s.heap.size) ((L10 cA u ++ [(a, (.inr (11, [.int 0, .null, .int 0, .int 0, .int 0, .int 0, .int 0, .int 0, .int 0, .int 0, .null, .null, .int 0, .null, .null, .null, .null, .int 0, .null, .null, .null, .null, .null, .null]) : va_E))]) ++ ([] : va_W)) := by rw [List.append_nil]; rw [hw0] at hD; rw [hw0]; exact hD
  refine lv_aload_n hx hb dX11_init_0 rfl (lv_at hl 0 rfl) ?_
  refine W.objInit hx hb hown (hts _ (List.mem_of_getElem? (i := 1) rfl)) (hts _ (List.mem_of_getElem? (i := 2) rfl)) (hts _ (List.mem_of_getElem? (i := 3) rfl)) rfl (by rw [hml]; exact hl.1) rfl dX11_init_1 (by exact Nat.le_of_ble_eq_true rfl) (by exact Nat.le_of_ble_eq_true rfl) ?_
  refine W.eq (g2 := F0 m 4 ls []) rfl ?_
  refine lv_aload_n hx hb dX11_init_4 rfl (lv_at hl 0 rfl) ?_
  refine lv_sipush (v := nI 600) hx hb dX11_init_5 (by decide) ?_
  refine x_newa (t := 2) (ty := .byte) (atype := .byte) (N' := 600) (600, .inl (fun _ => 0)) hx hb (hts _ (List.mem_of_getElem? (i := 4) rfl)) rfl rfl (fun _ _ h1 h2 => Option.some.inj (h1.symm.trans h2)) hK hP hD hS hA (fun _ => rfl) (nI_pos (by exact Nat.le_of_ble_eq_true rfl)) (nI_clamp (by exact Nat.le_of_ble_eq_true rfl)) (by exact Nat.le_of_ble_eq_true rfl) (by exact Nat.le_of_ble_eq_true rfl) (by exact Nat.le_of_ble_eq_true rfl) dX11_init_8 (fun q1 H hP hD hS => ?_)
  have hP : va_P D vwCl ((L10 cA u ++ [(a, (.inr (11, [.int 0, .null, .int 0, .int 0, .int 0, .int 0, .int 0, .int 0, .int 0, .int 0, .null, .null, .int 0, .null, .null, .null, .null, .int 0, .null, .null, .null, .null, .null, .null]) : va_E))]) ++ (([] : va_W) ++ [(q1, bA cA 600)])) H := P_as hP
  have hD : va_D (va_A w0 s.heap.size) ((L10 cA u ++ [(a, (.inr (11, [.int 0, .null, .int 0, .int 0, .int 0, .int 0, .int 0, .int 0, .int 0, .int 0, .null, .null, .int 0, .null, .null, .null, .null, .int 0, .null, .null, .null, .null, .null, .null]) : va_E))]) ++ (([] : va_W) ++ [(q1, bA cA 600)])) := D_as hD
  refine va_putF (ci := 11) (v := .ref q1) (ty := tyX11 1) (C := RX11) (T := TX11) (N := 24) hx hb hts (fun _ h => List.mem_cons_of_mem _ (List.mem_append_right _ h)) tyX11 tyX11_ok nmX11 hown hK hP hD hS (L10 cA u).length (get_mid _ _ _) rfl 1 (by decide) (hts _ (List.mem_of_getElem? (i := 5) rfl)) (fun _ h9 => h9) rfl hin rfl (tyX11_ok 1 (by decide)) rfl rfl (by exact Nat.le_of_ble_eq_true rfl) dX11_init_10 (fun H locs hP hD hS => ?_)
  rw [set_mid] at hP hD
  have hP : va_P D vwCl ((L10 cA u ++ [(a, (.inr (11, [.int 0, .ref q1, .int 0, .int 0, .int 0, .int 0, .int 0, .int 0, .int 0, .int 0, .null, .null, .int 0, .null, .null, .null, .null, .int 0, .null, .null, .null, .null, .null, .null]) : va_E))]) ++ (([] : va_W) ++ [(q1, bA cA 600)])) H := hP
  have hD : va_D (va_A w0 s.heap.size) ((L10 cA u ++ [(a, (.inr (11, [.int 0, .ref q1, .int 0, .int 0, .int 0, .int 0, .int 0, .int 0, .int 0, .int 0, .null, .null, .int 0, .null, .null, .null, .null, .int 0, .null, .null, .null, .null, .null, .null]) : va_E))]) ++ (([] : va_W) ++ [(q1, bA cA 600)])) := hD
  refine lv_aload_n hx hb dX11_init_13 rfl (lv_at hl 0 rfl) ?_
  refine lv_bipush (v := nI 40) hx hb dX11_init_14 (by decide) ?_
  refine x_newa (t := 0) (ty := .int) (atype := .int) (N' := 40) (40, .inl (fun _ => 0)) hx hb (hts _ (List.mem_of_getElem? (i := 6) rfl)) rfl rfl (fun _ _ h1 h2 => Option.some.inj (h1.symm.trans h2)) hK hP hD hS hA (fun _ => rfl) (nI_pos (by exact Nat.le_of_ble_eq_true rfl)) (nI_clamp (by exact Nat.le_of_ble_eq_true rfl)) (by exact Nat.le_of_ble_eq_true rfl) (by exact Nat.le_of_ble_eq_true rfl) (by exact Nat.le_of_ble_eq_true rfl) dX11_init_16 (fun q2 H hP hD hS => ?_)
  have hP : va_P D vwCl ((L10 cA u ++ [(a, (.inr (11, [.int 0, .ref q1, .int 0, .int 0, .int 0, .int 0, .int 0, .int 0, .int 0, .int 0, .null, .null, .int 0, .null, .null, .null, .null, .int 0, .null, .null, .null, .null, .null, .null]) : va_E))]) ++ ((([] : va_W) ++ [(q1, bA cA 600)]) ++ [(q2, iA cA 40)])) H := P_as hP
  have hD : va_D (va_A w0 s.heap.size) ((L10 cA u ++ [(a, (.inr (11, [.int 0, .ref q1, .int 0, .int 0, .int 0, .int 0, .int 0, .int 0, .int 0, .int 0, .null, .null, .int 0, .null, .null, .null, .null, .int 0, .null, .null, .null, .null, .null, .null]) : va_E))]) ++ ((([] : va_W) ++ [(q1, bA cA 600)]) ++ [(q2, iA cA 40)])) := D_as hD
  refine va_putF (ci := 11) (v := .ref q2) (ty := tyX11 10) (C := RX11) (T := TX11) (N := 24) hx hb hts (fun _ h => List.mem_cons_of_mem _ (List.mem_append_right _ h)) tyX11 tyX11_ok nmX11 hown hK hP hD hS (L10 cA u).length (get_mid _ _ _) rfl 10 (by decide) (hts _ (List.mem_of_getElem? (i := 7) rfl)) (fun _ h9 => h9) rfl hin rfl (tyX11_ok 10 (by decide)) rfl rfl (by exact Nat.le_of_ble_eq_true rfl) dX11_init_18 (fun H locs hP hD hS => ?_)
  rw [set_mid] at hP hD
  have hP : va_P D vwCl ((L10 cA u ++ [(a, (.inr (11, [.int 0, .ref q1, .int 0, .int 0, .int 0, .int 0, .int 0, .int 0, .int 0, .int 0, .ref q2, .null, .int 0, .null, .null, .null, .null, .int 0, .null, .null, .null, .null, .null, .null]) : va_E))]) ++ ((([] : va_W) ++ [(q1, bA cA 600)]) ++ [(q2, iA cA 40)])) H := hP
  have hD : va_D (va_A w0 s.heap.size) ((L10 cA u ++ [(a, (.inr (11, [.int 0, .ref q1, .int 0, .int 0, .int 0, .int 0, .int 0, .int 0, .int 0, .int 0, .ref q2, .null, .int 0, .null, .null, .null, .null, .int 0, .null, .null, .null, .null, .null, .null]) : va_E))]) ++ ((([] : va_W) ++ [(q1, bA cA 600)]) ++ [(q2, iA cA 40)])) := hD
  refine lv_aload_n hx hb dX11_init_21 rfl (lv_at hl 0 rfl) ?_
  refine lv_bipush (v := nI 40) hx hb dX11_init_22 (by decide) ?_
  refine x_newa (t := 0) (ty := .int) (atype := .int) (N' := 40) (40, .inl (fun _ => 0)) hx hb (hts _ (List.mem_of_getElem? (i := 6) rfl)) rfl rfl (fun _ _ h1 h2 => Option.some.inj (h1.symm.trans h2)) hK hP hD hS hA (fun _ => rfl) (nI_pos (by exact Nat.le_of_ble_eq_true rfl)) (nI_clamp (by exact Nat.le_of_ble_eq_true rfl)) (by exact Nat.le_of_ble_eq_true rfl) (by exact Nat.le_of_ble_eq_true rfl) (by exact Nat.le_of_ble_eq_true rfl) dX11_init_24 (fun q3 H hP hD hS => ?_)
  have hP : va_P D vwCl ((L10 cA u ++ [(a, (.inr (11, [.int 0, .ref q1, .int 0, .int 0, .int 0, .int 0, .int 0, .int 0, .int 0, .int 0, .ref q2, .null, .int 0, .null, .null, .null, .null, .int 0, .null, .null, .null, .null, .null, .null]) : va_E))]) ++ (((([] : va_W) ++ [(q1, bA cA 600)]) ++ [(q2, iA cA 40)]) ++ [(q3, iA cA 40)])) H := P_as hP
  have hD : va_D (va_A w0 s.heap.size) ((L10 cA u ++ [(a, (.inr (11, [.int 0, .ref q1, .int 0, .int 0, .int 0, .int 0, .int 0, .int 0, .int 0, .int 0, .ref q2, .null, .int 0, .null, .null, .null, .null, .int 0, .null, .null, .null, .null, .null, .null]) : va_E))]) ++ (((([] : va_W) ++ [(q1, bA cA 600)]) ++ [(q2, iA cA 40)]) ++ [(q3, iA cA 40)])) := D_as hD
  refine va_putF (ci := 11) (v := .ref q3) (ty := tyX11 11) (C := RX11) (T := TX11) (N := 24) hx hb hts (fun _ h => List.mem_cons_of_mem _ (List.mem_append_right _ h)) tyX11 tyX11_ok nmX11 hown hK hP hD hS (L10 cA u).length (get_mid _ _ _) rfl 11 (by decide) (hts _ (List.mem_of_getElem? (i := 8) rfl)) (fun _ h9 => h9) rfl hin rfl (tyX11_ok 11 (by decide)) rfl rfl (by exact Nat.le_of_ble_eq_true rfl) dX11_init_26 (fun H locs hP hD hS => ?_)
  rw [set_mid] at hP hD
  have hP : va_P D vwCl ((L10 cA u ++ [(a, (.inr (11, [.int 0, .ref q1, .int 0, .int 0, .int 0, .int 0, .int 0, .int 0, .int 0, .int 0, .ref q2, .ref q3, .int 0, .null, .null, .null, .null, .int 0, .null, .null, .null, .null, .null, .null]) : va_E))]) ++ (((([] : va_W) ++ [(q1, bA cA 600)]) ++ [(q2, iA cA 40)]) ++ [(q3, iA cA 40)])) H := hP
  have hD : va_D (va_A w0 s.heap.size) ((L10 cA u ++ [(a, (.inr (11, [.int 0, .ref q1, .int 0, .int 0, .int 0, .int 0, .int 0, .int 0, .int 0, .int 0, .ref q2, .ref q3, .int 0, .null, .null, .null, .null, .int 0, .null, .null, .null, .null, .null, .null]) : va_E))]) ++ (((([] : va_W) ++ [(q1, bA cA 600)]) ++ [(q2, iA cA 40)]) ++ [(q3, iA cA 40)])) := hD
  refine lv_aload_n hx hb dX11_init_29 rfl (lv_at hl 0 rfl) ?_
  refine lv_sipush (v := nI 1508) hx hb dX11_init_30 (by decide) ?_
  refine x_newa (t := 0) (ty := .int) (atype := .int) (N' := 1508) (1508, .inl (fun _ => 0)) hx hb (hts _ (List.mem_of_getElem? (i := 6) rfl)) rfl rfl (fun _ _ h1 h2 => Option.some.inj (h1.symm.trans h2)) hK hP hD hS hA (fun _ => rfl) (nI_pos (by exact Nat.le_of_ble_eq_true rfl)) (nI_clamp (by exact Nat.le_of_ble_eq_true rfl)) (by exact Nat.le_of_ble_eq_true rfl) (by exact Nat.le_of_ble_eq_true rfl) (by exact Nat.le_of_ble_eq_true rfl) dX11_init_33 (fun q4 H hP hD hS => ?_)
  have hP : va_P D vwCl ((L10 cA u ++ [(a, (.inr (11, [.int 0, .ref q1, .int 0, .int 0, .int 0, .int 0, .int 0, .int 0, .int 0, .int 0, .ref q2, .ref q3, .int 0, .null, .null, .null, .null, .int 0, .null, .null, .null, .null, .null, .null]) : va_E))]) ++ ((((([] : va_W) ++ [(q1, bA cA 600)]) ++ [(q2, iA cA 40)]) ++ [(q3, iA cA 40)]) ++ [(q4, iA cA 1508)])) H := P_as hP
  have hD : va_D (va_A w0 s.heap.size) ((L10 cA u ++ [(a, (.inr (11, [.int 0, .ref q1, .int 0, .int 0, .int 0, .int 0, .int 0, .int 0, .int 0, .int 0, .ref q2, .ref q3, .int 0, .null, .null, .null, .null, .int 0, .null, .null, .null, .null, .null, .null]) : va_E))]) ++ ((((([] : va_W) ++ [(q1, bA cA 600)]) ++ [(q2, iA cA 40)]) ++ [(q3, iA cA 40)]) ++ [(q4, iA cA 1508)])) := D_as hD
  refine va_putF (ci := 11) (v := .ref q4) (ty := tyX11 13) (C := RX11) (T := TX11) (N := 24) hx hb hts (fun _ h => List.mem_cons_of_mem _ (List.mem_append_right _ h)) tyX11 tyX11_ok nmX11 hown hK hP hD hS (L10 cA u).length (get_mid _ _ _) rfl 13 (by decide) (hts _ (List.mem_of_getElem? (i := 9) rfl)) (fun _ h9 => h9) rfl hin rfl (tyX11_ok 13 (by decide)) rfl rfl (by exact Nat.le_of_ble_eq_true rfl) dX11_init_35 (fun H locs hP hD hS => ?_)
  rw [set_mid] at hP hD
  have hP : va_P D vwCl ((L10 cA u ++ [(a, (.inr (11, [.int 0, .ref q1, .int 0, .int 0, .int 0, .int 0, .int 0, .int 0, .int 0, .int 0, .ref q2, .ref q3, .int 0, .ref q4, .null, .null, .null, .int 0, .null, .null, .null, .null, .null, .null]) : va_E))]) ++ ((((([] : va_W) ++ [(q1, bA cA 600)]) ++ [(q2, iA cA 40)]) ++ [(q3, iA cA 40)]) ++ [(q4, iA cA 1508)])) H := hP
  have hD : va_D (va_A w0 s.heap.size) ((L10 cA u ++ [(a, (.inr (11, [.int 0, .ref q1, .int 0, .int 0, .int 0, .int 0, .int 0, .int 0, .int 0, .int 0, .ref q2, .ref q3, .int 0, .ref q4, .null, .null, .null, .int 0, .null, .null, .null, .null, .null, .null]) : va_E))]) ++ ((((([] : va_W) ++ [(q1, bA cA 600)]) ++ [(q2, iA cA 40)]) ++ [(q3, iA cA 40)]) ++ [(q4, iA cA 1508)])) := hD
  refine lv_aload_n hx hb dX11_init_38 rfl (lv_at hl 0 rfl) ?_
  refine lv_sipush (v := nI 309) hx hb dX11_init_39 (by decide) ?_
  refine x_newa (t := 1) (ty := .long) (atype := .long) (N' := 309) (309, .inr (.inl (fun _ => 0))) hx hb (hts _ (List.mem_of_getElem? (i := 10) rfl)) rfl rfl (fun _ _ h1 h2 => Option.some.inj (h1.symm.trans h2)) hK hP hD hS hA (fun _ => rfl) (nI_pos (by exact Nat.le_of_ble_eq_true rfl)) (nI_clamp (by exact Nat.le_of_ble_eq_true rfl)) (by exact Nat.le_of_ble_eq_true rfl) (by exact Nat.le_of_ble_eq_true rfl) (by exact Nat.le_of_ble_eq_true rfl) dX11_init_42 (fun q5 H hP hD hS => ?_)
  have hP : va_P D vwCl ((L10 cA u ++ [(a, (.inr (11, [.int 0, .ref q1, .int 0, .int 0, .int 0, .int 0, .int 0, .int 0, .int 0, .int 0, .ref q2, .ref q3, .int 0, .ref q4, .null, .null, .null, .int 0, .null, .null, .null, .null, .null, .null]) : va_E))]) ++ (((((([] : va_W) ++ [(q1, bA cA 600)]) ++ [(q2, iA cA 40)]) ++ [(q3, iA cA 40)]) ++ [(q4, iA cA 1508)]) ++ [(q5, lA cA 309)])) H := P_as hP
  have hD : va_D (va_A w0 s.heap.size) ((L10 cA u ++ [(a, (.inr (11, [.int 0, .ref q1, .int 0, .int 0, .int 0, .int 0, .int 0, .int 0, .int 0, .int 0, .ref q2, .ref q3, .int 0, .ref q4, .null, .null, .null, .int 0, .null, .null, .null, .null, .null, .null]) : va_E))]) ++ (((((([] : va_W) ++ [(q1, bA cA 600)]) ++ [(q2, iA cA 40)]) ++ [(q3, iA cA 40)]) ++ [(q4, iA cA 1508)]) ++ [(q5, lA cA 309)])) := D_as hD
  refine va_putF (ci := 11) (v := .ref q5) (ty := tyX11 14) (C := RX11) (T := TX11) (N := 24) hx hb hts (fun _ h => List.mem_cons_of_mem _ (List.mem_append_right _ h)) tyX11 tyX11_ok nmX11 hown hK hP hD hS (L10 cA u).length (get_mid _ _ _) rfl 14 (by decide) (hts _ (List.mem_of_getElem? (i := 11) rfl)) (fun _ h9 => h9) rfl hin rfl (tyX11_ok 14 (by decide)) rfl rfl (by exact Nat.le_of_ble_eq_true rfl) dX11_init_44 (fun H locs hP hD hS => ?_)
  rw [set_mid] at hP hD
  have hP : va_P D vwCl ((L10 cA u ++ [(a, (.inr (11, [.int 0, .ref q1, .int 0, .int 0, .int 0, .int 0, .int 0, .int 0, .int 0, .int 0, .ref q2, .ref q3, .int 0, .ref q4, .ref q5, .null, .null, .int 0, .null, .null, .null, .null, .null, .null]) : va_E))]) ++ (((((([] : va_W) ++ [(q1, bA cA 600)]) ++ [(q2, iA cA 40)]) ++ [(q3, iA cA 40)]) ++ [(q4, iA cA 1508)]) ++ [(q5, lA cA 309)])) H := hP
  have hD : va_D (va_A w0 s.heap.size) ((L10 cA u ++ [(a, (.inr (11, [.int 0, .ref q1, .int 0, .int 0, .int 0, .int 0, .int 0, .int 0, .int 0, .int 0, .ref q2, .ref q3, .int 0, .ref q4, .ref q5, .null, .null, .int 0, .null, .null, .null, .null, .null, .null]) : va_E))]) ++ (((((([] : va_W) ++ [(q1, bA cA 600)]) ++ [(q2, iA cA 40)]) ++ [(q3, iA cA 40)]) ++ [(q4, iA cA 1508)]) ++ [(q5, lA cA 309)])) := hD
  refine lv_aload_n hx hb dX11_init_47 rfl (lv_at hl 0 rfl) ?_
  refine lv_sipush (v := nI 15080) hx hb dX11_init_48 (by decide) ?_
  refine x_newa (t := 0) (ty := .int) (atype := .int) (N' := 15080) (15080, .inl (fun _ => 0)) hx hb (hts _ (List.mem_of_getElem? (i := 6) rfl)) rfl rfl (fun _ _ h1 h2 => Option.some.inj (h1.symm.trans h2)) hK hP hD hS hA (fun _ => rfl) (nI_pos (by exact Nat.le_of_ble_eq_true rfl)) (nI_clamp (by exact Nat.le_of_ble_eq_true rfl)) (by exact Nat.le_of_ble_eq_true rfl) (by exact Nat.le_of_ble_eq_true rfl) (by exact Nat.le_of_ble_eq_true rfl) dX11_init_51 (fun q6 H hP hD hS => ?_)
  have hP : va_P D vwCl ((L10 cA u ++ [(a, (.inr (11, [.int 0, .ref q1, .int 0, .int 0, .int 0, .int 0, .int 0, .int 0, .int 0, .int 0, .ref q2, .ref q3, .int 0, .ref q4, .ref q5, .null, .null, .int 0, .null, .null, .null, .null, .null, .null]) : va_E))]) ++ ((((((([] : va_W) ++ [(q1, bA cA 600)]) ++ [(q2, iA cA 40)]) ++ [(q3, iA cA 40)]) ++ [(q4, iA cA 1508)]) ++ [(q5, lA cA 309)]) ++ [(q6, iA cA 15080)])) H := P_as hP
  have hD : va_D (va_A w0 s.heap.size) ((L10 cA u ++ [(a, (.inr (11, [.int 0, .ref q1, .int 0, .int 0, .int 0, .int 0, .int 0, .int 0, .int 0, .int 0, .ref q2, .ref q3, .int 0, .ref q4, .ref q5, .null, .null, .int 0, .null, .null, .null, .null, .null, .null]) : va_E))]) ++ ((((((([] : va_W) ++ [(q1, bA cA 600)]) ++ [(q2, iA cA 40)]) ++ [(q3, iA cA 40)]) ++ [(q4, iA cA 1508)]) ++ [(q5, lA cA 309)]) ++ [(q6, iA cA 15080)])) := D_as hD
  refine va_putF (ci := 11) (v := .ref q6) (ty := tyX11 15) (C := RX11) (T := TX11) (N := 24) hx hb hts (fun _ h => List.mem_cons_of_mem _ (List.mem_append_right _ h)) tyX11 tyX11_ok nmX11 hown hK hP hD hS (L10 cA u).length (get_mid _ _ _) rfl 15 (by decide) (hts _ (List.mem_of_getElem? (i := 12) rfl)) (fun _ h9 => h9) rfl hin rfl (tyX11_ok 15 (by decide)) rfl rfl (by exact Nat.le_of_ble_eq_true rfl) dX11_init_53 (fun H locs hP hD hS => ?_)
  rw [set_mid] at hP hD
  have hP : va_P D vwCl ((L10 cA u ++ [(a, (.inr (11, [.int 0, .ref q1, .int 0, .int 0, .int 0, .int 0, .int 0, .int 0, .int 0, .int 0, .ref q2, .ref q3, .int 0, .ref q4, .ref q5, .ref q6, .null, .int 0, .null, .null, .null, .null, .null, .null]) : va_E))]) ++ ((((((([] : va_W) ++ [(q1, bA cA 600)]) ++ [(q2, iA cA 40)]) ++ [(q3, iA cA 40)]) ++ [(q4, iA cA 1508)]) ++ [(q5, lA cA 309)]) ++ [(q6, iA cA 15080)])) H := hP
  have hD : va_D (va_A w0 s.heap.size) ((L10 cA u ++ [(a, (.inr (11, [.int 0, .ref q1, .int 0, .int 0, .int 0, .int 0, .int 0, .int 0, .int 0, .int 0, .ref q2, .ref q3, .int 0, .ref q4, .ref q5, .ref q6, .null, .int 0, .null, .null, .null, .null, .null, .null]) : va_E))]) ++ ((((((([] : va_W) ++ [(q1, bA cA 600)]) ++ [(q2, iA cA 40)]) ++ [(q3, iA cA 40)]) ++ [(q4, iA cA 1508)]) ++ [(q5, lA cA 309)]) ++ [(q6, iA cA 15080)])) := hD
  refine lv_aload_n hx hb dX11_init_56 rfl (lv_at hl 0 rfl) ?_
  refine lv_sipush (v := nI 3090) hx hb dX11_init_57 (by decide) ?_
  refine x_newa (t := 1) (ty := .long) (atype := .long) (N' := 3090) (3090, .inr (.inl (fun _ => 0))) hx hb (hts _ (List.mem_of_getElem? (i := 10) rfl)) rfl rfl (fun _ _ h1 h2 => Option.some.inj (h1.symm.trans h2)) hK hP hD hS hA (fun _ => rfl) (nI_pos (by exact Nat.le_of_ble_eq_true rfl)) (nI_clamp (by exact Nat.le_of_ble_eq_true rfl)) (by exact Nat.le_of_ble_eq_true rfl) (by exact Nat.le_of_ble_eq_true rfl) (by exact Nat.le_of_ble_eq_true rfl) dX11_init_60 (fun q7 H hP hD hS => ?_)
  have hP : va_P D vwCl ((L10 cA u ++ [(a, (.inr (11, [.int 0, .ref q1, .int 0, .int 0, .int 0, .int 0, .int 0, .int 0, .int 0, .int 0, .ref q2, .ref q3, .int 0, .ref q4, .ref q5, .ref q6, .null, .int 0, .null, .null, .null, .null, .null, .null]) : va_E))]) ++ (((((((([] : va_W) ++ [(q1, bA cA 600)]) ++ [(q2, iA cA 40)]) ++ [(q3, iA cA 40)]) ++ [(q4, iA cA 1508)]) ++ [(q5, lA cA 309)]) ++ [(q6, iA cA 15080)]) ++ [(q7, lA cA 3090)])) H := P_as hP
  have hD : va_D (va_A w0 s.heap.size) ((L10 cA u ++ [(a, (.inr (11, [.int 0, .ref q1, .int 0, .int 0, .int 0, .int 0, .int 0, .int 0, .int 0, .int 0, .ref q2, .ref q3, .int 0, .ref q4, .ref q5, .ref q6, .null, .int 0, .null, .null, .null, .null, .null, .null]) : va_E))]) ++ (((((((([] : va_W) ++ [(q1, bA cA 600)]) ++ [(q2, iA cA 40)]) ++ [(q3, iA cA 40)]) ++ [(q4, iA cA 1508)]) ++ [(q5, lA cA 309)]) ++ [(q6, iA cA 15080)]) ++ [(q7, lA cA 3090)])) := D_as hD
  refine va_putF (ci := 11) (v := .ref q7) (ty := tyX11 16) (C := RX11) (T := TX11) (N := 24) hx hb hts (fun _ h => List.mem_cons_of_mem _ (List.mem_append_right _ h)) tyX11 tyX11_ok nmX11 hown hK hP hD hS (L10 cA u).length (get_mid _ _ _) rfl 16 (by decide) (hts _ (List.mem_of_getElem? (i := 13) rfl)) (fun _ h9 => h9) rfl hin rfl (tyX11_ok 16 (by decide)) rfl rfl (by exact Nat.le_of_ble_eq_true rfl) dX11_init_62 (fun H locs hP hD hS => ?_)
  rw [set_mid] at hP hD
  have hP : va_P D vwCl ((L10 cA u ++ [(a, (.inr (11, [.int 0, .ref q1, .int 0, .int 0, .int 0, .int 0, .int 0, .int 0, .int 0, .int 0, .ref q2, .ref q3, .int 0, .ref q4, .ref q5, .ref q6, .ref q7, .int 0, .null, .null, .null, .null, .null, .null]) : va_E))]) ++ (((((((([] : va_W) ++ [(q1, bA cA 600)]) ++ [(q2, iA cA 40)]) ++ [(q3, iA cA 40)]) ++ [(q4, iA cA 1508)]) ++ [(q5, lA cA 309)]) ++ [(q6, iA cA 15080)]) ++ [(q7, lA cA 3090)])) H := hP
  have hD : va_D (va_A w0 s.heap.size) ((L10 cA u ++ [(a, (.inr (11, [.int 0, .ref q1, .int 0, .int 0, .int 0, .int 0, .int 0, .int 0, .int 0, .int 0, .ref q2, .ref q3, .int 0, .ref q4, .ref q5, .ref q6, .ref q7, .int 0, .null, .null, .null, .null, .null, .null]) : va_E))]) ++ (((((((([] : va_W) ++ [(q1, bA cA 600)]) ++ [(q2, iA cA 40)]) ++ [(q3, iA cA 40)]) ++ [(q4, iA cA 1508)]) ++ [(q5, lA cA 309)]) ++ [(q6, iA cA 15080)]) ++ [(q7, lA cA 3090)])) := hD
  refine lv_aload_n hx hb dX11_init_65 rfl (lv_at hl 0 rfl) ?_
  refine lv_sipush (v := nI 3016) hx hb dX11_init_66 (by decide) ?_
  refine x_newa (t := 0) (ty := .int) (atype := .int) (N' := 3016) (3016, .inl (fun _ => 0)) hx hb (hts _ (List.mem_of_getElem? (i := 6) rfl)) rfl rfl (fun _ _ h1 h2 => Option.some.inj (h1.symm.trans h2)) hK hP hD hS hA (fun _ => rfl) (nI_pos (by exact Nat.le_of_ble_eq_true rfl)) (nI_clamp (by exact Nat.le_of_ble_eq_true rfl)) (by exact Nat.le_of_ble_eq_true rfl) (by exact Nat.le_of_ble_eq_true rfl) (by exact Nat.le_of_ble_eq_true rfl) dX11_init_69 (fun q8 H hP hD hS => ?_)
  have hP : va_P D vwCl ((L10 cA u ++ [(a, (.inr (11, [.int 0, .ref q1, .int 0, .int 0, .int 0, .int 0, .int 0, .int 0, .int 0, .int 0, .ref q2, .ref q3, .int 0, .ref q4, .ref q5, .ref q6, .ref q7, .int 0, .null, .null, .null, .null, .null, .null]) : va_E))]) ++ ((((((((([] : va_W) ++ [(q1, bA cA 600)]) ++ [(q2, iA cA 40)]) ++ [(q3, iA cA 40)]) ++ [(q4, iA cA 1508)]) ++ [(q5, lA cA 309)]) ++ [(q6, iA cA 15080)]) ++ [(q7, lA cA 3090)]) ++ [(q8, iA cA 3016)])) H := P_as hP
  have hD : va_D (va_A w0 s.heap.size) ((L10 cA u ++ [(a, (.inr (11, [.int 0, .ref q1, .int 0, .int 0, .int 0, .int 0, .int 0, .int 0, .int 0, .int 0, .ref q2, .ref q3, .int 0, .ref q4, .ref q5, .ref q6, .ref q7, .int 0, .null, .null, .null, .null, .null, .null]) : va_E))]) ++ ((((((((([] : va_W) ++ [(q1, bA cA 600)]) ++ [(q2, iA cA 40)]) ++ [(q3, iA cA 40)]) ++ [(q4, iA cA 1508)]) ++ [(q5, lA cA 309)]) ++ [(q6, iA cA 15080)]) ++ [(q7, lA cA 3090)]) ++ [(q8, iA cA 3016)])) := D_as hD
  refine va_putF (ci := 11) (v := .ref q8) (ty := tyX11 18) (C := RX11) (T := TX11) (N := 24) hx hb hts (fun _ h => List.mem_cons_of_mem _ (List.mem_append_right _ h)) tyX11 tyX11_ok nmX11 hown hK hP hD hS (L10 cA u).length (get_mid _ _ _) rfl 18 (by decide) (hts _ (List.mem_of_getElem? (i := 14) rfl)) (fun _ h9 => h9) rfl hin rfl (tyX11_ok 18 (by decide)) rfl rfl (by exact Nat.le_of_ble_eq_true rfl) dX11_init_71 (fun H locs hP hD hS => ?_)
  rw [set_mid] at hP hD
  have hP : va_P D vwCl ((L10 cA u ++ [(a, (.inr (11, [.int 0, .ref q1, .int 0, .int 0, .int 0, .int 0, .int 0, .int 0, .int 0, .int 0, .ref q2, .ref q3, .int 0, .ref q4, .ref q5, .ref q6, .ref q7, .int 0, .ref q8, .null, .null, .null, .null, .null]) : va_E))]) ++ ((((((((([] : va_W) ++ [(q1, bA cA 600)]) ++ [(q2, iA cA 40)]) ++ [(q3, iA cA 40)]) ++ [(q4, iA cA 1508)]) ++ [(q5, lA cA 309)]) ++ [(q6, iA cA 15080)]) ++ [(q7, lA cA 3090)]) ++ [(q8, iA cA 3016)])) H := hP
  have hD : va_D (va_A w0 s.heap.size) ((L10 cA u ++ [(a, (.inr (11, [.int 0, .ref q1, .int 0, .int 0, .int 0, .int 0, .int 0, .int 0, .int 0, .int 0, .ref q2, .ref q3, .int 0, .ref q4, .ref q5, .ref q6, .ref q7, .int 0, .ref q8, .null, .null, .null, .null, .null]) : va_E))]) ++ ((((((((([] : va_W) ++ [(q1, bA cA 600)]) ++ [(q2, iA cA 40)]) ++ [(q3, iA cA 40)]) ++ [(q4, iA cA 1508)]) ++ [(q5, lA cA 309)]) ++ [(q6, iA cA 15080)]) ++ [(q7, lA cA 3090)]) ++ [(q8, iA cA 3016)])) := hD
  refine lv_aload_n hx hb dX11_init_74 rfl (lv_at hl 0 rfl) ?_
  refine lv_sipush (v := nI 618) hx hb dX11_init_75 (by decide) ?_
  refine x_newa (t := 1) (ty := .long) (atype := .long) (N' := 618) (618, .inr (.inl (fun _ => 0))) hx hb (hts _ (List.mem_of_getElem? (i := 10) rfl)) rfl rfl (fun _ _ h1 h2 => Option.some.inj (h1.symm.trans h2)) hK hP hD hS hA (fun _ => rfl) (nI_pos (by exact Nat.le_of_ble_eq_true rfl)) (nI_clamp (by exact Nat.le_of_ble_eq_true rfl)) (by exact Nat.le_of_ble_eq_true rfl) (by exact Nat.le_of_ble_eq_true rfl) (by exact Nat.le_of_ble_eq_true rfl) dX11_init_78 (fun q9 H hP hD hS => ?_)
  have hP : va_P D vwCl ((L10 cA u ++ [(a, (.inr (11, [.int 0, .ref q1, .int 0, .int 0, .int 0, .int 0, .int 0, .int 0, .int 0, .int 0, .ref q2, .ref q3, .int 0, .ref q4, .ref q5, .ref q6, .ref q7, .int 0, .ref q8, .null, .null, .null, .null, .null]) : va_E))]) ++ (((((((((([] : va_W) ++ [(q1, bA cA 600)]) ++ [(q2, iA cA 40)]) ++ [(q3, iA cA 40)]) ++ [(q4, iA cA 1508)]) ++ [(q5, lA cA 309)]) ++ [(q6, iA cA 15080)]) ++ [(q7, lA cA 3090)]) ++ [(q8, iA cA 3016)]) ++ [(q9, lA cA 618)])) H := P_as hP
  have hD : va_D (va_A w0 s.heap.size) ((L10 cA u ++ [(a, (.inr (11, [.int 0, .ref q1, .int 0, .int 0, .int 0, .int 0, .int 0, .int 0, .int 0, .int 0, .ref q2, .ref q3, .int 0, .ref q4, .ref q5, .ref q6, .ref q7, .int 0, .ref q8, .null, .null, .null, .null, .null]) : va_E))]) ++ (((((((((([] : va_W) ++ [(q1, bA cA 600)]) ++ [(q2, iA cA 40)]) ++ [(q3, iA cA 40)]) ++ [(q4, iA cA 1508)]) ++ [(q5, lA cA 309)]) ++ [(q6, iA cA 15080)]) ++ [(q7, lA cA 3090)]) ++ [(q8, iA cA 3016)]) ++ [(q9, lA cA 618)])) := D_as hD
  refine va_putF (ci := 11) (v := .ref q9) (ty := tyX11 19) (C := RX11) (T := TX11) (N := 24) hx hb hts (fun _ h => List.mem_cons_of_mem _ (List.mem_append_right _ h)) tyX11 tyX11_ok nmX11 hown hK hP hD hS (L10 cA u).length (get_mid _ _ _) rfl 19 (by decide) (hts _ (List.mem_of_getElem? (i := 15) rfl)) (fun _ h9 => h9) rfl hin rfl (tyX11_ok 19 (by decide)) rfl rfl (by exact Nat.le_of_ble_eq_true rfl) dX11_init_80 (fun H locs hP hD hS => ?_)
  rw [set_mid] at hP hD
  have hP : va_P D vwCl ((L10 cA u ++ [(a, (.inr (11, [.int 0, .ref q1, .int 0, .int 0, .int 0, .int 0, .int 0, .int 0, .int 0, .int 0, .ref q2, .ref q3, .int 0, .ref q4, .ref q5, .ref q6, .ref q7, .int 0, .ref q8, .ref q9, .null, .null, .null, .null]) : va_E))]) ++ (((((((((([] : va_W) ++ [(q1, bA cA 600)]) ++ [(q2, iA cA 40)]) ++ [(q3, iA cA 40)]) ++ [(q4, iA cA 1508)]) ++ [(q5, lA cA 309)]) ++ [(q6, iA cA 15080)]) ++ [(q7, lA cA 3090)]) ++ [(q8, iA cA 3016)]) ++ [(q9, lA cA 618)])) H := hP
  have hD : va_D (va_A w0 s.heap.size) ((L10 cA u ++ [(a, (.inr (11, [.int 0, .ref q1, .int 0, .int 0, .int 0, .int 0, .int 0, .int 0, .int 0, .int 0, .ref q2, .ref q3, .int 0, .ref q4, .ref q5, .ref q6, .ref q7, .int 0, .ref q8, .ref q9, .null, .null, .null, .null]) : va_E))]) ++ (((((((((([] : va_W) ++ [(q1, bA cA 600)]) ++ [(q2, iA cA 40)]) ++ [(q3, iA cA 40)]) ++ [(q4, iA cA 1508)]) ++ [(q5, lA cA 309)]) ++ [(q6, iA cA 15080)]) ++ [(q7, lA cA 3090)]) ++ [(q8, iA cA 3016)]) ++ [(q9, lA cA 618)])) := hD
  refine lv_aload_n hx hb dX11_init_83 rfl (lv_at hl 0 rfl) ?_
  refine lv_iconst (v := nI 2) hx hb dX11_init_84 (by decide) ?_
  refine x_newa (t := 3) (ty := .boolean) (atype := .boolean) (N' := 2) (2, .inl (fun _ => 0)) hx hb (hts _ (List.mem_of_getElem? (i := 16) rfl)) rfl rfl (fun _ _ h1 h2 => Option.some.inj (h1.symm.trans h2)) hK hP hD hS hA (fun _ => rfl) (nI_pos (by exact Nat.le_of_ble_eq_true rfl)) (nI_clamp (by exact Nat.le_of_ble_eq_true rfl)) (by exact Nat.le_of_ble_eq_true rfl) (by exact Nat.le_of_ble_eq_true rfl) (by exact Nat.le_of_ble_eq_true rfl) dX11_init_85 (fun q10 H hP hD hS => ?_)
  have hP : va_P D vwCl ((L10 cA u ++ [(a, (.inr (11, [.int 0, .ref q1, .int 0, .int 0, .int 0, .int 0, .int 0, .int 0, .int 0, .int 0, .ref q2, .ref q3, .int 0, .ref q4, .ref q5, .ref q6, .ref q7, .int 0, .ref q8, .ref q9, .null, .null, .null, .null]) : va_E))]) ++ ((((((((((([] : va_W) ++ [(q1, bA cA 600)]) ++ [(q2, iA cA 40)]) ++ [(q3, iA cA 40)]) ++ [(q4, iA cA 1508)]) ++ [(q5, lA cA 309)]) ++ [(q6, iA cA 15080)]) ++ [(q7, lA cA 3090)]) ++ [(q8, iA cA 3016)]) ++ [(q9, lA cA 618)]) ++ [(q10, zA cA 2)])) H := P_as hP
  have hD : va_D (va_A w0 s.heap.size) ((L10 cA u ++ [(a, (.inr (11, [.int 0, .ref q1, .int 0, .int 0, .int 0, .int 0, .int 0, .int 0, .int 0, .int 0, .ref q2, .ref q3, .int 0, .ref q4, .ref q5, .ref q6, .ref q7, .int 0, .ref q8, .ref q9, .null, .null, .null, .null]) : va_E))]) ++ ((((((((((([] : va_W) ++ [(q1, bA cA 600)]) ++ [(q2, iA cA 40)]) ++ [(q3, iA cA 40)]) ++ [(q4, iA cA 1508)]) ++ [(q5, lA cA 309)]) ++ [(q6, iA cA 15080)]) ++ [(q7, lA cA 3090)]) ++ [(q8, iA cA 3016)]) ++ [(q9, lA cA 618)]) ++ [(q10, zA cA 2)])) := D_as hD
  refine va_putF (ci := 11) (v := .ref q10) (ty := tyX11 20) (C := RX11) (T := TX11) (N := 24) hx hb hts (fun _ h => List.mem_cons_of_mem _ (List.mem_append_right _ h)) tyX11 tyX11_ok nmX11 hown hK hP hD hS (L10 cA u).length (get_mid _ _ _) rfl 20 (by decide) (hts _ (List.mem_of_getElem? (i := 17) rfl)) (fun _ h9 => h9) rfl hin rfl (tyX11_ok 20 (by decide)) rfl rfl (by exact Nat.le_of_ble_eq_true rfl) dX11_init_87 (fun H locs hP hD hS => ?_)
  rw [set_mid] at hP hD
  have hP : va_P D vwCl ((L10 cA u ++ [(a, (.inr (11, [.int 0, .ref q1, .int 0, .int 0, .int 0, .int 0, .int 0, .int 0, .int 0, .int 0, .ref q2, .ref q3, .int 0, .ref q4, .ref q5, .ref q6, .ref q7, .int 0, .ref q8, .ref q9, .ref q10, .null, .null, .null]) : va_E))]) ++ ((((((((((([] : va_W) ++ [(q1, bA cA 600)]) ++ [(q2, iA cA 40)]) ++ [(q3, iA cA 40)]) ++ [(q4, iA cA 1508)]) ++ [(q5, lA cA 309)]) ++ [(q6, iA cA 15080)]) ++ [(q7, lA cA 3090)]) ++ [(q8, iA cA 3016)]) ++ [(q9, lA cA 618)]) ++ [(q10, zA cA 2)])) H := hP
  have hD : va_D (va_A w0 s.heap.size) ((L10 cA u ++ [(a, (.inr (11, [.int 0, .ref q1, .int 0, .int 0, .int 0, .int 0, .int 0, .int 0, .int 0, .int 0, .ref q2, .ref q3, .int 0, .ref q4, .ref q5, .ref q6, .ref q7, .int 0, .ref q8, .ref q9, .ref q10, .null, .null, .null]) : va_E))]) ++ ((((((((((([] : va_W) ++ [(q1, bA cA 600)]) ++ [(q2, iA cA 40)]) ++ [(q3, iA cA 40)]) ++ [(q4, iA cA 1508)]) ++ [(q5, lA cA 309)]) ++ [(q6, iA cA 15080)]) ++ [(q7, lA cA 3090)]) ++ [(q8, iA cA 3016)]) ++ [(q9, lA cA 618)]) ++ [(q10, zA cA 2)])) := hD
  refine lv_aload_n hx hb dX11_init_90 rfl (lv_at hl 0 rfl) ?_
  refine lv_bipush (v := nI 100) hx hb dX11_init_91 (by decide) ?_
  refine x_newa (t := 0) (ty := .int) (atype := .int) (N' := 100) (100, .inl (fun _ => 0)) hx hb (hts _ (List.mem_of_getElem? (i := 6) rfl)) rfl rfl (fun _ _ h1 h2 => Option.some.inj (h1.symm.trans h2)) hK hP hD hS hA (fun _ => rfl) (nI_pos (by exact Nat.le_of_ble_eq_true rfl)) (nI_clamp (by exact Nat.le_of_ble_eq_true rfl)) (by exact Nat.le_of_ble_eq_true rfl) (by exact Nat.le_of_ble_eq_true rfl) (by exact Nat.le_of_ble_eq_true rfl) dX11_init_93 (fun q11 H hP hD hS => ?_)
  have hP : va_P D vwCl ((L10 cA u ++ [(a, (.inr (11, [.int 0, .ref q1, .int 0, .int 0, .int 0, .int 0, .int 0, .int 0, .int 0, .int 0, .ref q2, .ref q3, .int 0, .ref q4, .ref q5, .ref q6, .ref q7, .int 0, .ref q8, .ref q9, .ref q10, .null, .null, .null]) : va_E))]) ++ (((((((((((([] : va_W) ++ [(q1, bA cA 600)]) ++ [(q2, iA cA 40)]) ++ [(q3, iA cA 40)]) ++ [(q4, iA cA 1508)]) ++ [(q5, lA cA 309)]) ++ [(q6, iA cA 15080)]) ++ [(q7, lA cA 3090)]) ++ [(q8, iA cA 3016)]) ++ [(q9, lA cA 618)]) ++ [(q10, zA cA 2)]) ++ [(q11, iA cA 100)])) H := P_as hP
  have hD : va_D (va_A w0 s.heap.size) ((L10 cA u ++ [(a, (.inr (11, [.int 0, .ref q1, .int 0, .int 0, .int 0, .int 0, .int 0, .int 0, .int 0, .int 0, .ref q2, .ref q3, .int 0, .ref q4, .ref q5, .ref q6, .ref q7, .int 0, .ref q8, .ref q9, .ref q10, .null, .null, .null]) : va_E))]) ++ (((((((((((([] : va_W) ++ [(q1, bA cA 600)]) ++ [(q2, iA cA 40)]) ++ [(q3, iA cA 40)]) ++ [(q4, iA cA 1508)]) ++ [(q5, lA cA 309)]) ++ [(q6, iA cA 15080)]) ++ [(q7, lA cA 3090)]) ++ [(q8, iA cA 3016)]) ++ [(q9, lA cA 618)]) ++ [(q10, zA cA 2)]) ++ [(q11, iA cA 100)])) := D_as hD
  refine va_putF (ci := 11) (v := .ref q11) (ty := tyX11 21) (C := RX11) (T := TX11) (N := 24) hx hb hts (fun _ h => List.mem_cons_of_mem _ (List.mem_append_right _ h)) tyX11 tyX11_ok nmX11 hown hK hP hD hS (L10 cA u).length (get_mid _ _ _) rfl 21 (by decide) (hts _ (List.mem_of_getElem? (i := 18) rfl)) (fun _ h9 => h9) rfl hin rfl (tyX11_ok 21 (by decide)) rfl rfl (by exact Nat.le_of_ble_eq_true rfl) dX11_init_95 (fun H locs hP hD hS => ?_)
  rw [set_mid] at hP hD
  have hP : va_P D vwCl ((L10 cA u ++ [(a, (.inr (11, [.int 0, .ref q1, .int 0, .int 0, .int 0, .int 0, .int 0, .int 0, .int 0, .int 0, .ref q2, .ref q3, .int 0, .ref q4, .ref q5, .ref q6, .ref q7, .int 0, .ref q8, .ref q9, .ref q10, .ref q11, .null, .null]) : va_E))]) ++ (((((((((((([] : va_W) ++ [(q1, bA cA 600)]) ++ [(q2, iA cA 40)]) ++ [(q3, iA cA 40)]) ++ [(q4, iA cA 1508)]) ++ [(q5, lA cA 309)]) ++ [(q6, iA cA 15080)]) ++ [(q7, lA cA 3090)]) ++ [(q8, iA cA 3016)]) ++ [(q9, lA cA 618)]) ++ [(q10, zA cA 2)]) ++ [(q11, iA cA 100)])) H := hP
  have hD : va_D (va_A w0 s.heap.size) ((L10 cA u ++ [(a, (.inr (11, [.int 0, .ref q1, .int 0, .int 0, .int 0, .int 0, .int 0, .int 0, .int 0, .int 0, .ref q2, .ref q3, .int 0, .ref q4, .ref q5, .ref q6, .ref q7, .int 0, .ref q8, .ref q9, .ref q10, .ref q11, .null, .null]) : va_E))]) ++ (((((((((((([] : va_W) ++ [(q1, bA cA 600)]) ++ [(q2, iA cA 40)]) ++ [(q3, iA cA 40)]) ++ [(q4, iA cA 1508)]) ++ [(q5, lA cA 309)]) ++ [(q6, iA cA 15080)]) ++ [(q7, lA cA 3090)]) ++ [(q8, iA cA 3016)]) ++ [(q9, lA cA 618)]) ++ [(q10, zA cA 2)]) ++ [(q11, iA cA 100)])) := hD
  refine lv_aload_n hx hb dX11_init_98 rfl (lv_at hl 0 rfl) ?_
  refine lv_bipush (v := nI 64) hx hb dX11_init_99 (by decide) ?_
  refine x_newa (t := 1) (ty := .long) (atype := .long) (N' := 64) (64, .inr (.inl (fun _ => 0))) hx hb (hts _ (List.mem_of_getElem? (i := 10) rfl)) rfl rfl (fun _ _ h1 h2 => Option.some.inj (h1.symm.trans h2)) hK hP hD hS hA (fun _ => rfl) (nI_pos (by exact Nat.le_of_ble_eq_true rfl)) (nI_clamp (by exact Nat.le_of_ble_eq_true rfl)) (by exact Nat.le_of_ble_eq_true rfl) (by exact Nat.le_of_ble_eq_true rfl) (by exact Nat.le_of_ble_eq_true rfl) dX11_init_101 (fun q12 H hP hD hS => ?_)
  have hP : va_P D vwCl ((L10 cA u ++ [(a, (.inr (11, [.int 0, .ref q1, .int 0, .int 0, .int 0, .int 0, .int 0, .int 0, .int 0, .int 0, .ref q2, .ref q3, .int 0, .ref q4, .ref q5, .ref q6, .ref q7, .int 0, .ref q8, .ref q9, .ref q10, .ref q11, .null, .null]) : va_E))]) ++ ((((((((((((([] : va_W) ++ [(q1, bA cA 600)]) ++ [(q2, iA cA 40)]) ++ [(q3, iA cA 40)]) ++ [(q4, iA cA 1508)]) ++ [(q5, lA cA 309)]) ++ [(q6, iA cA 15080)]) ++ [(q7, lA cA 3090)]) ++ [(q8, iA cA 3016)]) ++ [(q9, lA cA 618)]) ++ [(q10, zA cA 2)]) ++ [(q11, iA cA 100)]) ++ [(q12, lA cA 64)])) H := P_as hP
  have hD : va_D (va_A w0 s.heap.size) ((L10 cA u ++ [(a, (.inr (11, [.int 0, .ref q1, .int 0, .int 0, .int 0, .int 0, .int 0, .int 0, .int 0, .int 0, .ref q2, .ref q3, .int 0, .ref q4, .ref q5, .ref q6, .ref q7, .int 0, .ref q8, .ref q9, .ref q10, .ref q11, .null, .null]) : va_E))]) ++ ((((((((((((([] : va_W) ++ [(q1, bA cA 600)]) ++ [(q2, iA cA 40)]) ++ [(q3, iA cA 40)]) ++ [(q4, iA cA 1508)]) ++ [(q5, lA cA 309)]) ++ [(q6, iA cA 15080)]) ++ [(q7, lA cA 3090)]) ++ [(q8, iA cA 3016)]) ++ [(q9, lA cA 618)]) ++ [(q10, zA cA 2)]) ++ [(q11, iA cA 100)]) ++ [(q12, lA cA 64)])) := D_as hD
  refine va_putF (ci := 11) (v := .ref q12) (ty := tyX11 22) (C := RX11) (T := TX11) (N := 24) hx hb hts (fun _ h => List.mem_cons_of_mem _ (List.mem_append_right _ h)) tyX11 tyX11_ok nmX11 hown hK hP hD hS (L10 cA u).length (get_mid _ _ _) rfl 22 (by decide) (hts _ (List.mem_of_getElem? (i := 19) rfl)) (fun _ h9 => h9) rfl hin rfl (tyX11_ok 22 (by decide)) rfl rfl (by exact Nat.le_of_ble_eq_true rfl) dX11_init_103 (fun H locs hP hD hS => ?_)
  rw [set_mid] at hP hD
  have hP : va_P D vwCl ((L10 cA u ++ [(a, (.inr (11, [.int 0, .ref q1, .int 0, .int 0, .int 0, .int 0, .int 0, .int 0, .int 0, .int 0, .ref q2, .ref q3, .int 0, .ref q4, .ref q5, .ref q6, .ref q7, .int 0, .ref q8, .ref q9, .ref q10, .ref q11, .ref q12, .null]) : va_E))]) ++ ((((((((((((([] : va_W) ++ [(q1, bA cA 600)]) ++ [(q2, iA cA 40)]) ++ [(q3, iA cA 40)]) ++ [(q4, iA cA 1508)]) ++ [(q5, lA cA 309)]) ++ [(q6, iA cA 15080)]) ++ [(q7, lA cA 3090)]) ++ [(q8, iA cA 3016)]) ++ [(q9, lA cA 618)]) ++ [(q10, zA cA 2)]) ++ [(q11, iA cA 100)]) ++ [(q12, lA cA 64)])) H := hP
  have hD : va_D (va_A w0 s.heap.size) ((L10 cA u ++ [(a, (.inr (11, [.int 0, .ref q1, .int 0, .int 0, .int 0, .int 0, .int 0, .int 0, .int 0, .int 0, .ref q2, .ref q3, .int 0, .ref q4, .ref q5, .ref q6, .ref q7, .int 0, .ref q8, .ref q9, .ref q10, .ref q11, .ref q12, .null]) : va_E))]) ++ ((((((((((((([] : va_W) ++ [(q1, bA cA 600)]) ++ [(q2, iA cA 40)]) ++ [(q3, iA cA 40)]) ++ [(q4, iA cA 1508)]) ++ [(q5, lA cA 309)]) ++ [(q6, iA cA 15080)]) ++ [(q7, lA cA 3090)]) ++ [(q8, iA cA 3016)]) ++ [(q9, lA cA 618)]) ++ [(q10, zA cA 2)]) ++ [(q11, iA cA 100)]) ++ [(q12, lA cA 64)])) := hD
  refine lv_aload_n hx hb dX11_init_106 rfl (lv_at hl 0 rfl) ?_
  refine lv_bipush (v := nI 64) hx hb dX11_init_107 (by decide) ?_
  refine x_newa (t := 0) (ty := .int) (atype := .int) (N' := 64) (64, .inl (fun _ => 0)) hx hb (hts _ (List.mem_of_getElem? (i := 6) rfl)) rfl rfl (fun _ _ h1 h2 => Option.some.inj (h1.symm.trans h2)) hK hP hD hS hA (fun _ => rfl) (nI_pos (by exact Nat.le_of_ble_eq_true rfl)) (nI_clamp (by exact Nat.le_of_ble_eq_true rfl)) (by exact Nat.le_of_ble_eq_true rfl) (by exact Nat.le_of_ble_eq_true rfl) (by exact Nat.le_of_ble_eq_true rfl) dX11_init_109 (fun q13 H hP hD hS => ?_)
  have hP : va_P D vwCl ((L10 cA u ++ [(a, (.inr (11, [.int 0, .ref q1, .int 0, .int 0, .int 0, .int 0, .int 0, .int 0, .int 0, .int 0, .ref q2, .ref q3, .int 0, .ref q4, .ref q5, .ref q6, .ref q7, .int 0, .ref q8, .ref q9, .ref q10, .ref q11, .ref q12, .null]) : va_E))]) ++ (((((((((((((([] : va_W) ++ [(q1, bA cA 600)]) ++ [(q2, iA cA 40)]) ++ [(q3, iA cA 40)]) ++ [(q4, iA cA 1508)]) ++ [(q5, lA cA 309)]) ++ [(q6, iA cA 15080)]) ++ [(q7, lA cA 3090)]) ++ [(q8, iA cA 3016)]) ++ [(q9, lA cA 618)]) ++ [(q10, zA cA 2)]) ++ [(q11, iA cA 100)]) ++ [(q12, lA cA 64)]) ++ [(q13, iA cA 64)])) H := P_as hP
  have hD : va_D (va_A w0 s.heap.size) ((L10 cA u ++ [(a, (.inr (11, [.int 0, .ref q1, .int 0, .int 0, .int 0, .int 0, .int 0, .int 0, .int 0, .int 0, .ref q2, .ref q3, .int 0, .ref q4, .ref q5, .ref q6, .ref q7, .int 0, .ref q8, .ref q9, .ref q10, .ref q11, .ref q12, .null]) : va_E))]) ++ (((((((((((((([] : va_W) ++ [(q1, bA cA 600)]) ++ [(q2, iA cA 40)]) ++ [(q3, iA cA 40)]) ++ [(q4, iA cA 1508)]) ++ [(q5, lA cA 309)]) ++ [(q6, iA cA 15080)]) ++ [(q7, lA cA 3090)]) ++ [(q8, iA cA 3016)]) ++ [(q9, lA cA 618)]) ++ [(q10, zA cA 2)]) ++ [(q11, iA cA 100)]) ++ [(q12, lA cA 64)]) ++ [(q13, iA cA 64)])) := D_as hD
  refine va_putF (ci := 11) (v := .ref q13) (ty := tyX11 23) (C := RX11) (T := TX11) (N := 24) hx hb hts (fun _ h => List.mem_cons_of_mem _ (List.mem_append_right _ h)) tyX11 tyX11_ok nmX11 hown hK hP hD hS (L10 cA u).length (get_mid _ _ _) rfl 23 (by decide) (hts _ (List.mem_of_getElem? (i := 20) rfl)) (fun _ h9 => h9) rfl hin rfl (tyX11_ok 23 (by decide)) rfl rfl (by exact Nat.le_of_ble_eq_true rfl) dX11_init_111 (fun H locs hP hD hS => ?_)
  rw [set_mid] at hP hD
  have hP : va_P D vwCl ((L10 cA u ++ [(a, (.inr (11, [.int 0, .ref q1, .int 0, .int 0, .int 0, .int 0, .int 0, .int 0, .int 0, .int 0, .ref q2, .ref q3, .int 0, .ref q4, .ref q5, .ref q6, .ref q7, .int 0, .ref q8, .ref q9, .ref q10, .ref q11, .ref q12, .ref q13]) : va_E))]) ++ (((((((((((((([] : va_W) ++ [(q1, bA cA 600)]) ++ [(q2, iA cA 40)]) ++ [(q3, iA cA 40)]) ++ [(q4, iA cA 1508)]) ++ [(q5, lA cA 309)]) ++ [(q6, iA cA 15080)]) ++ [(q7, lA cA 3090)]) ++ [(q8, iA cA 3016)]) ++ [(q9, lA cA 618)]) ++ [(q10, zA cA 2)]) ++ [(q11, iA cA 100)]) ++ [(q12, lA cA 64)]) ++ [(q13, iA cA 64)])) H := hP
  have hD : va_D (va_A w0 s.heap.size) ((L10 cA u ++ [(a, (.inr (11, [.int 0, .ref q1, .int 0, .int 0, .int 0, .int 0, .int 0, .int 0, .int 0, .int 0, .ref q2, .ref q3, .int 0, .ref q4, .ref q5, .ref q6, .ref q7, .int 0, .ref q8, .ref q9, .ref q10, .ref q11, .ref q12, .ref q13]) : va_E))]) ++ (((((((((((((([] : va_W) ++ [(q1, bA cA 600)]) ++ [(q2, iA cA 40)]) ++ [(q3, iA cA 40)]) ++ [(q4, iA cA 1508)]) ++ [(q5, lA cA 309)]) ++ [(q6, iA cA 15080)]) ++ [(q7, lA cA 3090)]) ++ [(q8, iA cA 3016)]) ++ [(q9, lA cA 618)]) ++ [(q10, zA cA 2)]) ++ [(q11, iA cA 100)]) ++ [(q12, lA cA 64)]) ++ [(q13, iA cA 64)])) := hD
  obtain ⟨hP1, hPz⟩ := P_app hP
  obtain ⟨hPl, hPm⟩ := P_app hP1
  obtain ⟨mo, hmo⟩ : ∃ mo : Nat → Nat, mo = fun z => [a, q1, q2, q3, q4, q5, q6, q7, q8, q9, q10, q11, q12, q13].getD z 0 := ⟨_, rfl⟩
  have had : ((L10 cA u ++ [(a, (.inr (11, [.int 0, .ref q1, .int 0, .int 0, .int 0, .int 0, .int 0, .int 0, .int 0, .int 0, .ref q2, .ref q3, .int 0, .ref q4, .ref q5, .ref q6, .ref q7, .int 0, .ref q8, .ref q9, .ref q10, .ref q11, .ref q12, .ref q13]) : va_E))]) ++ (((((((((((((([] : va_W) ++ [(q1, bA cA 600)]) ++ [(q2, iA cA 40)]) ++ [(q3, iA cA 40)]) ++ [(q4, iA cA 1508)]) ++ [(q5, lA cA 309)]) ++ [(q6, iA cA 15080)]) ++ [(q7, lA cA 3090)]) ++ [(q8, iA cA 3016)]) ++ [(q9, lA cA 618)]) ++ [(q10, zA cA 2)]) ++ [(q11, iA cA 100)]) ++ [(q12, lA cA 64)]) ++ [(q13, iA cA 64)])).map Prod.fst = (List.range 177).map u ++ (List.range 14).map mo := by
    rw [List.map_append, List.map_append, L10_ad, List.append_assoc, hmo]; rfl
  have hDW : va_D (va_A w0 s.heap.size) (WL cA (alf u mo) 191 Z0) := WL_ap hD had
  have hPW : va_P D vwCl (WL cA (alf u mo) 191 Z0) H := WL_of (fun k hk => by
    by_cases hm : 30 ≤ k ∧ k ≤ 43
    · subst hmo
      rcases (show k = 30 ∨ k = 31 ∨ k = 32 ∨ k = 33 ∨ k = 34 ∨ k = 35 ∨ k = 36 ∨ k = 37 ∨ k = 38 ∨ k = 39 ∨ k = 40 ∨ k = 41 ∨ k = 42 ∨ k = 43 by omega) with rfl | rfl | rfl | rfl | rfl | rfl | rfl | rfl | rfl | rfl | rfl | rfl | rfl | rfl
      · exact hPm 0 _ rfl
      · exact hPz 0 _ rfl
      · exact hPz 1 _ rfl
      · exact hPz 2 _ rfl
      · exact hPz 3 _ rfl
      · exact hPz 4 _ rfl
      · exact hPz 5 _ rfl
      · exact hPz 6 _ rfl
      · exact hPz 7 _ rfl
      · exact hPz 8 _ rfl
      · exact hPz 9 _ rfl
      · exact hPz 10 _ rfl
      · exact hPz 11 _ rfl
      · exact hPz 12 _ rfl
    · exact cls_PQ hPl k hk hm)
  have hm0 : alf u mo 30 = a := by rw [hmo]; rfl
  clear hP hD hP1 hPz hPl hPm had
  have hw : Ws D cA (alf u mo) 191 (va_A w0 s.heap.size) s.heap Z0 H locs := ⟨hPW, hDW, hS⟩
  have hAw : ∀ z, Aw (alf u mo) 191 s.heap.size z → (va_A w0 s.heap.size) z := fun z h => by
    rcases h with ⟨k, hk, e9⟩ | h
    · rw [e9]; exact hDW.2 k _ (WL_get hk)
    · exact hA z h
  refine lv_aload_n hx hb dX11_init_114 rfl (lv_at hl 0 rfl) ?_
  refine x_callVV (q := 30) (C := RX11) (As := []) (rest := []) ⟨hx, hb, hml, hown, hts⟩ (ct_X11_setDefaults l D cA (alf u mo) 191 _ (Nat.le_refl _) Z0) (cwV 0 hts gX11_init_X11_setDefaults rfl rfl rfl (by decide +kernel) ⟨by exact Nat.le_of_ble_eq_true rfl, by exact Nat.le_of_ble_eq_true rfl⟩) hK hw hAw (ws_recv hK hw (q := 30) (by decide) (mk_30 cA (alf u mo)) rfl) rfl hl.1 (by rw [hm0]; rfl) (by exact Nat.le_of_ble_eq_true rfl) dX11_init_115 ⟨by exact Nat.le_of_ble_eq_true rfl, by exact Nat.le_of_ble_eq_true rfl⟩ (fun S1 eS1 H locs hw => ?_)
  rw [eS1] at hw
  refine lv_aload_n hx hb dX11_init_118 rfl (lv_at hl 0 rfl) ?_
  refine x_callVV (q := 30) (C := RX11) (As := []) (rest := []) ⟨hx, hb, hml, hown, hts⟩ (ct_X11_takeDraft l D cA (alf u mo) 191 _ (Nat.le_refl _) (rDf Z0)) (cwV 0 hts gX11_init_X11_takeDraft rfl rfl rfl (by decide +kernel) ⟨by exact Nat.le_of_ble_eq_true rfl, by exact Nat.le_of_ble_eq_true rfl⟩) hK hw hAw (ws_recv hK hw (q := 30) (by decide) (mk_30 cA (alf u mo)) rfl) rfl hl.1 (by rw [hm0]; rfl) (by exact Nat.le_of_ble_eq_true rfl) dX11_init_119 ⟨by exact Nat.le_of_ble_eq_true rfl, by exact Nat.le_of_ble_eq_true rfl⟩ (fun S2 eS2 H locs hw => ?_)
  rw [eS2] at hw
  have hm1 : mo 0 = a := by rw [hmo]; rfl
  exact W.widen (by exact Nat.le_of_ble_eq_true rfl) (by exact Nat.le_of_ble_eq_true rfl) (W.vret hx hb hr (fun t ht hW => ⟨⟨mo, rfl, hm1, by rw [ht]; exact hw.1, by rw [← hw0]; exact hw.2.1⟩, by rw [← hw0]; exact hw.2.2.F ht⟩) hw.2.2.2.2 dX11_init_122)
