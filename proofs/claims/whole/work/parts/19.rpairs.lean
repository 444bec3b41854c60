/-! the reference: pairs -/
theorem okI_nI {b N : Nat} (h : b < N) (hN : N ≤ 1000000) : okI (nI b) N := by
  have e : gN (nI b) = b := gN_nI (by omega)
  exact ⟨by rw [e], by rw [e]; exact h⟩
theorem rPlan_ok (S : Mem) {N : Nat} (hN : N ≤ 100) : ∀ i, i ≤ N → ∀ j, j < 100 → rPlan S N i j < 0 ∨ okI (rPlan S N i j) N
  | 0, _, j, hj => by
    left
    rw [rPlan]
    unfold fI
    rw [if_pos hj]
    decide
  | i + 1, hi, j, hj => by
    have ih := rPlan_ok S hN i (by omega)
    cases hs : rIs S i (nI 0) (nI 0) with
    | false => rw [rPlan_no hs]; exact ih j hj
    | true =>
      cases hb : bestOf (rFree (setR S 41 (rPlan S N i)) i) (rDst S i) N with
      | none => rw [rPlan_none hb]; exact ih j hj
      | some b =>
        have hb2 := (bestOf_lt N b hb).1
        rw [rPlan_some hs hb]
        unfold upd
        split
        · exact Or.inr (okI_nI (by omega) (by omega))
        · split
          · exact Or.inr (okI_nI hb2 (by omega))
          · exact ih j hj
def rWid (T : Mem) : Nat → Int64
  | 0 => -1
  | i + 1 => if T.1 41 i < 0 then rWid T i else if absL (rVal T i - rVal T (gN (T.1 41 i))) ≤ rWid T i then rWid T i else absL (rVal T i - rVal T (gN (T.1 41 i)))
abbrev rT0 (S : Mem) (N : Nat) : Mem := setR S 41 (rPlan S N N)

set_option maxRecDepth 100000 in
set_option maxHeartbeats 1000000 in
theorem ct_X11_wouldPair (l : Launch) (D : va_G) (cA : Nat → ClassId) (α : Nat → Nat) (n sz : Nat) (hn : 191 ≤ n) (S : Mem) (N : Nat) (hN : S.1 34 0 = nI N) (hN2 : N ≤ 100) (i : Nat) (hi : i < N) (ho : ∀ j, j < N → okR S j) (hs : rIs S i (nI 0) (nI 0) = true) : CtI l yX11_wouldPair wsX11_wouldPair ({ frames := 5, cells := 0, slots := 0, locals := 109 }) D cA α n sz [.ref (α 30), .int (nI i)] S (rPlan (setI S 30 0 (nI 0)) N N i) (rT0 (setI S 30 0 (nI 0)) N) := by
  refine ct_enter cX11_wouldPair 2 (some .int) (by decide) rfl (Nat.le_of_ble_eq_true rfl) ?_
  intro p e s m below meth c hx hb hr hml hlocks hown hts hK hsz hw ls hl
  have hown : s.vm.findClass RX11 = some m.cls := hown
  have hAw : ∀ z, Aw α n s.heap.size z → Aw α n sz z := by rw [hsz]; exact fun _ h => h
  have hl : lv_has ls 2 [(0, .ref (α 30)), (1, .int (nI i))] := hl
  refine lv_aload_n hx hb dX11_wouldPair_0 rfl (lv_at hl 0 rfl) ?_
  refine lv_iconst (v := nI 0) hx hb dX11_wouldPair_1 (by decide) ?_
  refine x_putI (x := nI 0) (ty := .int) (C := RX11) (T := TX11) (N := 24) hx hb hts (fun _ h => List.mem_cons_of_mem _ (List.mem_append_right _ h)) tyX11 tyX11_ok nmX11 hown hK hw 30 (Nat.lt_of_lt_of_le (Nat.le_of_ble_eq_true rfl : 30 < 191) hn) (mk_30 cA α) rfl 0 (by decide) (hts _ (List.mem_of_getElem? (i := 1) rfl)) (fun _ h9 => h9) rfl rfl rfl rfl (Nat.le_of_ble_eq_true rfl) rfl dX11_wouldPair_2 (fun S1 eS1 H locs hw => ?_)
  refine lv_aload_n hx hb dX11_wouldPair_5 rfl (lv_at hl 0 rfl) ?_
  refine lv_iload_n hx hb dX11_wouldPair_6 rfl (lv_at hl 1 rfl) ?_
  refine x_callVIr (q := 30) (C := RX11) (As := [.int (nI i)]) (rest := []) ⟨hx, hb, hml, hown, hts⟩ (ct_X11_isItem l D cA α n _ hn S1 (nI i)) (cwV 1 hts gX11_wouldPair_X11_isItem rfl rfl rfl (by decide +kernel) ⟨Nat.le_of_ble_eq_true rfl, Nat.le_of_ble_eq_true rfl⟩) hK hw hAw (ws_recv hK hw (q := 30) (Nat.lt_of_lt_of_le (Nat.le_of_ble_eq_true rfl : 30 < 191) hn) (mk_30 cA α) rfl) rfl hl.1 rfl (Nat.le_of_ble_eq_true rfl) dX11_wouldPair_7 ⟨Nat.zero_le _, Nat.zero_le _⟩ (fun H locs hw => ?_)
  refine xb_ne (b := (isItR S1 (nI i))) (tgt := 19) hx hb dX11_wouldPair_10 (by decide) (fun c1 => ?_) (fun c1 => ?_)
  · skip
    refine lv_aload_n hx hb dX11_wouldPair_19 rfl (lv_at hl 0 rfl) ?_
    refine lv_iload_n hx hb dX11_wouldPair_20 rfl (lv_at hl 1 rfl) ?_
    refine lv_iconst (v := nI 0) hx hb dX11_wouldPair_21 (by decide) ?_
    refine lv_iconst (v := nI 0) hx hb dX11_wouldPair_22 (by decide) ?_
    refine x_callVIr (q := 30) (C := RX11) (As := [.int (nI i), .int (nI 0), .int (nI 0)]) (rest := []) ⟨hx, hb, hml, hown, hts⟩ (ct_X11_is l D cA α n _ hn S1 i (nI 0) (nI 0) (by omega)) (cwV 3 hts gX11_wouldPair_X11_is rfl rfl rfl (by decide +kernel) ⟨Nat.le_of_ble_eq_true rfl, Nat.le_of_ble_eq_true rfl⟩) hK hw hAw (ws_recv hK hw (q := 30) (Nat.lt_of_lt_of_le (Nat.le_of_ble_eq_true rfl : 30 < 191) hn) (mk_30 cA α) rfl) rfl hl.1 rfl (Nat.le_of_ble_eq_true rfl) dX11_wouldPair_23 ⟨Nat.zero_le _, Nat.zero_le _⟩ (fun H locs hw => ?_)
    refine xb_ne (b := (rIs S1 i (nI 0) (nI 0))) (tgt := 35) hx hb dX11_wouldPair_26 (by decide) (fun c2 => ?_) (fun c2 => ?_)
    · skip
      refine lv_aload_n hx hb dX11_wouldPair_35 rfl (lv_at hl 0 rfl) ?_
      refine x_callVV (q := 30) (C := RX11) (As := []) (rest := []) ⟨hx, hb, hml, hown, hts⟩ (ct_X11_laysRun l D cA α n _ hn S1 N (by subst eS1; exact hN) hN2 (by subst eS1; exact ho)) (cwV 0 hts gX11_wouldPair_X11_laysRun rfl rfl rfl (by decide +kernel) ⟨Nat.le_of_ble_eq_true rfl, Nat.le_of_ble_eq_true rfl⟩) hK hw hAw (ws_recv hK hw (q := 30) (Nat.lt_of_lt_of_le (Nat.le_of_ble_eq_true rfl : 30 < 191) hn) (mk_30 cA α) rfl) rfl hl.1 rfl (Nat.le_of_ble_eq_true rfl) dX11_wouldPair_36 ⟨Nat.zero_le _, Nat.zero_le _⟩ (fun S2 eS2 H locs hw => ?_)
      refine lv_aload_n hx hb dX11_wouldPair_39 rfl (lv_at hl 0 rfl) ?_
      refine x_get (v := .ref (α 41)) (C := RX11) (T := TX11) (N := 24) hx hb hts (fun _ h => List.mem_cons_of_mem _ (List.mem_append_right _ h)) hown hK hw 30 (Nat.lt_of_lt_of_le (Nat.le_of_ble_eq_true rfl : 30 < 191) hn) (mk_30 cA α) rfl 21 (by decide) (hts _ (List.mem_of_getElem? (i := 2) rfl)) (fun _ h9 => h9) rfl dX11_wouldPair_40 ?_
      refine lv_iload_n hx hb dX11_wouldPair_43 rfl (lv_at hl 1 rfl) ?_
      refine x_iald hx hb hK hw 41 100 (Nat.lt_of_lt_of_le (Nat.le_of_ble_eq_true rfl : 41 < 191) hn) (mk_41 cA α) i rfl (by omega) (by decide) dX11_wouldPair_44 ?_
      exact ret_i hx hb hr hlocks hK hw dX11_wouldPair_45 (by subst eS2; subst eS1; rw [sR_e]) (by subst_vars; rfl)
    · exact absurd (show rIs S1 i (nI 0) (nI 0) = true by subst eS1; exact hs) (by rw [c2]; decide)
  · exact absurd (isIt_t (S := S1) (by subst eS1; exact hN) hN2 hi) (by rw [c1]; decide)

set_option maxRecDepth 100000 in
set_option maxHeartbeats 1000000 in
theorem ct_X11_wouldPairX (l : Launch) (D : va_G) (cA : Nat → ClassId) (α : Nat → Nat) (n sz : Nat) (hn : 191 ≤ n) (S : Mem) (N : Nat) (hN : S.1 34 0 = nI N) (hN2 : N ≤ 100) (x : Int32) (hx9 : ¬ ∃ i, i < N ∧ x = nI i) : CtI l yX11_wouldPair wsX11_wouldPair ({ frames := 5, cells := 0, slots := 0, locals := 109 }) D cA α n sz [.ref (α 30), .int x] S (nI 0) (setI (setI S 30 0 (nI 0)) 30 0 (nI 1)) := by
  refine ct_enter cX11_wouldPair 2 (some .int) (by decide) rfl (Nat.le_of_ble_eq_true rfl) ?_
  intro p e s m below meth c hx hb hr hml hlocks hown hts hK hsz hw ls hl
  have hown : s.vm.findClass RX11 = some m.cls := hown
  have hAw : ∀ z, Aw α n s.heap.size z → Aw α n sz z := by rw [hsz]; exact fun _ h => h
  have hl : lv_has ls 2 [(0, .ref (α 30)), (1, .int x)] := hl
  refine lv_aload_n hx hb dX11_wouldPair_0 rfl (lv_at hl 0 rfl) ?_
  refine lv_iconst (v := nI 0) hx hb dX11_wouldPair_1 (by decide) ?_
  refine x_putI (x := nI 0) (ty := .int) (C := RX11) (T := TX11) (N := 24) hx hb hts (fun _ h => List.mem_cons_of_mem _ (List.mem_append_right _ h)) tyX11 tyX11_ok nmX11 hown hK hw 30 (Nat.lt_of_lt_of_le (Nat.le_of_ble_eq_true rfl : 30 < 191) hn) (mk_30 cA α) rfl 0 (by decide) (hts _ (List.mem_of_getElem? (i := 1) rfl)) (fun _ h9 => h9) rfl rfl rfl rfl (Nat.le_of_ble_eq_true rfl) rfl dX11_wouldPair_2 (fun S1 eS1 H locs hw => ?_)
  refine lv_aload_n hx hb dX11_wouldPair_5 rfl (lv_at hl 0 rfl) ?_
  refine lv_iload_n hx hb dX11_wouldPair_6 rfl (lv_at hl 1 rfl) ?_
  refine x_callVIr (q := 30) (C := RX11) (As := [.int x]) (rest := []) ⟨hx, hb, hml, hown, hts⟩ (ct_X11_isItem l D cA α n _ hn S1 x) (cwV 1 hts gX11_wouldPair_X11_isItem rfl rfl rfl (by decide +kernel) ⟨Nat.le_of_ble_eq_true rfl, Nat.le_of_ble_eq_true rfl⟩) hK hw hAw (ws_recv hK hw (q := 30) (Nat.lt_of_lt_of_le (Nat.le_of_ble_eq_true rfl : 30 < 191) hn) (mk_30 cA α) rfl) rfl hl.1 rfl (Nat.le_of_ble_eq_true rfl) dX11_wouldPair_7 ⟨Nat.zero_le _, Nat.zero_le _⟩ (fun H locs hw => ?_)
  refine xb_ne (b := (isItR S1 x)) (tgt := 19) hx hb dX11_wouldPair_10 (by decide) (fun c1 => ?_) (fun c1 => ?_)
  · exact absurd (isIt_f (S := S1) (by subst eS1; exact hN) hN2 hx9) (by rw [c1]; decide)
  · skip
    refine lv_aload_n hx hb dX11_wouldPair_13 rfl (lv_at hl 0 rfl) ?_
    refine lv_iconst (v := nI 1) hx hb dX11_wouldPair_14 (by decide) ?_
    refine x_callVI (q := 30) (C := RX11) (As := [.int (nI 1)]) (rest := []) ⟨hx, hb, hml, hown, hts⟩ (ct_X11_fail l D cA α n _ hn S1 (nI 1)) (cwV 1 hts gX11_wouldPair_X11_fail rfl rfl rfl (by decide +kernel) ⟨Nat.le_of_ble_eq_true rfl, Nat.le_of_ble_eq_true rfl⟩) hK hw hAw (ws_recv hK hw (q := 30) (Nat.lt_of_lt_of_le (Nat.le_of_ble_eq_true rfl : 30 < 191) hn) (mk_30 cA α) rfl) rfl hl.1 rfl (Nat.le_of_ble_eq_true rfl) dX11_wouldPair_15 ⟨Nat.zero_le _, Nat.zero_le _⟩ (fun S2 eS2 H locs hw => ?_)
    exact ret_i hx hb hr hlocks hK hw dX11_wouldPair_18 rfl (by subst_vars; rfl)

set_option maxRecDepth 100000 in
set_option maxHeartbeats 1000000 in
theorem ct_X11_wouldPairY (l : Launch) (D : va_G) (cA : Nat → ClassId) (α : Nat → Nat) (n sz : Nat) (hn : 191 ≤ n) (S : Mem) (N : Nat) (hN : S.1 34 0 = nI N) (hN2 : N ≤ 100) (i : Nat) (hi : i < N) (hs : rIs S i (nI 0) (nI 0) = false) : CtI l yX11_wouldPair wsX11_wouldPair ({ frames := 5, cells := 0, slots := 0, locals := 109 }) D cA α n sz [.ref (α 30), .int (nI i)] S (nI 0) (setI (setI S 30 0 (nI 0)) 30 0 (nI 2)) := by
  refine ct_enter cX11_wouldPair 2 (some .int) (by decide) rfl (Nat.le_of_ble_eq_true rfl) ?_
  intro p e s m below meth c hx hb hr hml hlocks hown hts hK hsz hw ls hl
  have hown : s.vm.findClass RX11 = some m.cls := hown
  have hAw : ∀ z, Aw α n s.heap.size z → Aw α n sz z := by rw [hsz]; exact fun _ h => h
  have hl : lv_has ls 2 [(0, .ref (α 30)), (1, .int (nI i))] := hl
  refine lv_aload_n hx hb dX11_wouldPair_0 rfl (lv_at hl 0 rfl) ?_
  refine lv_iconst (v := nI 0) hx hb dX11_wouldPair_1 (by decide) ?_
  refine x_putI (x := nI 0) (ty := .int) (C := RX11) (T := TX11) (N := 24) hx hb hts (fun _ h => List.mem_cons_of_mem _ (List.mem_append_right _ h)) tyX11 tyX11_ok nmX11 hown hK hw 30 (Nat.lt_of_lt_of_le (Nat.le_of_ble_eq_true rfl : 30 < 191) hn) (mk_30 cA α) rfl 0 (by decide) (hts _ (List.mem_of_getElem? (i := 1) rfl)) (fun _ h9 => h9) rfl rfl rfl rfl (Nat.le_of_ble_eq_true rfl) rfl dX11_wouldPair_2 (fun S1 eS1 H locs hw => ?_)
  refine lv_aload_n hx hb dX11_wouldPair_5 rfl (lv_at hl 0 rfl) ?_
  refine lv_iload_n hx hb dX11_wouldPair_6 rfl (lv_at hl 1 rfl) ?_
  refine x_callVIr (q := 30) (C := RX11) (As := [.int (nI i)]) (rest := []) ⟨hx, hb, hml, hown, hts⟩ (ct_X11_isItem l D cA α n _ hn S1 (nI i)) (cwV 1 hts gX11_wouldPair_X11_isItem rfl rfl rfl (by decide +kernel) ⟨Nat.le_of_ble_eq_true rfl, Nat.le_of_ble_eq_true rfl⟩) hK hw hAw (ws_recv hK hw (q := 30) (Nat.lt_of_lt_of_le (Nat.le_of_ble_eq_true rfl : 30 < 191) hn) (mk_30 cA α) rfl) rfl hl.1 rfl (Nat.le_of_ble_eq_true rfl) dX11_wouldPair_7 ⟨Nat.zero_le _, Nat.zero_le _⟩ (fun H locs hw => ?_)
  refine xb_ne (b := (isItR S1 (nI i))) (tgt := 19) hx hb dX11_wouldPair_10 (by decide) (fun c1 => ?_) (fun c1 => ?_)
  · skip
    refine lv_aload_n hx hb dX11_wouldPair_19 rfl (lv_at hl 0 rfl) ?_
    refine lv_iload_n hx hb dX11_wouldPair_20 rfl (lv_at hl 1 rfl) ?_
    refine lv_iconst (v := nI 0) hx hb dX11_wouldPair_21 (by decide) ?_
    refine lv_iconst (v := nI 0) hx hb dX11_wouldPair_22 (by decide) ?_
    refine x_callVIr (q := 30) (C := RX11) (As := [.int (nI i), .int (nI 0), .int (nI 0)]) (rest := []) ⟨hx, hb, hml, hown, hts⟩ (ct_X11_is l D cA α n _ hn S1 i (nI 0) (nI 0) (by omega)) (cwV 3 hts gX11_wouldPair_X11_is rfl rfl rfl (by decide +kernel) ⟨Nat.le_of_ble_eq_true rfl, Nat.le_of_ble_eq_true rfl⟩) hK hw hAw (ws_recv hK hw (q := 30) (Nat.lt_of_lt_of_le (Nat.le_of_ble_eq_true rfl : 30 < 191) hn) (mk_30 cA α) rfl) rfl hl.1 rfl (Nat.le_of_ble_eq_true rfl) dX11_wouldPair_23 ⟨Nat.zero_le _, Nat.zero_le _⟩ (fun H locs hw => ?_)
    refine xb_ne (b := (rIs S1 i (nI 0) (nI 0))) (tgt := 35) hx hb dX11_wouldPair_26 (by decide) (fun c2 => ?_) (fun c2 => ?_)
    · exact absurd (show rIs S1 i (nI 0) (nI 0) = false by subst eS1; exact hs) (by rw [c2]; decide)
    · skip
      refine lv_aload_n hx hb dX11_wouldPair_29 rfl (lv_at hl 0 rfl) ?_
      refine lv_iconst (v := nI 2) hx hb dX11_wouldPair_30 (by decide) ?_
      refine x_callVI (q := 30) (C := RX11) (As := [.int (nI 2)]) (rest := []) ⟨hx, hb, hml, hown, hts⟩ (ct_X11_fail l D cA α n _ hn S1 (nI 2)) (cwV 1 hts gX11_wouldPair_X11_fail rfl rfl rfl (by decide +kernel) ⟨Nat.le_of_ble_eq_true rfl, Nat.le_of_ble_eq_true rfl⟩) hK hw hAw (ws_recv hK hw (q := 30) (Nat.lt_of_lt_of_le (Nat.le_of_ble_eq_true rfl : 30 < 191) hn) (mk_30 cA α) rfl) rfl hl.1 rfl (Nat.le_of_ble_eq_true rfl) dX11_wouldPair_31 ⟨Nat.zero_le _, Nat.zero_le _⟩ (fun S2 eS2 H locs hw => ?_)
      exact ret_i hx hb hr hlocks hK hw dX11_wouldPair_34 rfl (by subst_vars; rfl)
  · exact absurd (isIt_t (S := S1) (by subst eS1; exact hN) hN2 hi) (by rw [c1]; decide)

set_option maxRecDepth 100000 in
set_option maxHeartbeats 1000000 in
theorem ct_X11_toleranceNeeded (l : Launch) (D : va_G) (cA : Nat → ClassId) (α : Nat → Nat) (n sz : Nat) (hn : 191 ≤ n) (S : Mem) (N : Nat) (hN : S.1 34 0 = nI N) (hN2 : N ≤ 100) (ho : ∀ j, j < N → okR S j) : CtL l yX11_toleranceNeeded wsX11_toleranceNeeded ({ frames := 5, cells := 0, slots := 0, locals := 109 }) D cA α n sz [.ref (α 30)] S (rWid (rT0 (setI S 30 0 (nI 0)) N) N) (rT0 (setI S 30 0 (nI 0)) N) := by
  refine ct_enter cX11_toleranceNeeded 4 (some .long) (by decide) rfl (Nat.le_of_ble_eq_true rfl) ?_
  intro p e s m below meth c hx hb hr hml hlocks hown hts hK hsz hw ls hl
  have hown : s.vm.findClass RX11 = some m.cls := hown
  have hAw : ∀ z, Aw α n s.heap.size z → Aw α n sz z := by rw [hsz]; exact fun _ h => h
  have hl : lv_has ls 4 [(0, .ref (α 30))] := hl
  refine lv_aload_n hx hb dX11_toleranceNeeded_0 rfl (lv_at hl 0 rfl) ?_
  refine lv_iconst (v := nI 0) hx hb dX11_toleranceNeeded_1 (by decide) ?_
  refine x_putI (x := nI 0) (ty := .int) (C := RX11) (T := TX11) (N := 24) hx hb hts (fun _ h => List.mem_cons_of_mem _ (List.mem_append_right _ h)) tyX11 tyX11_ok nmX11 hown hK hw 30 (Nat.lt_of_lt_of_le (Nat.le_of_ble_eq_true rfl : 30 < 191) hn) (mk_30 cA α) rfl 0 (by decide) (hts _ (List.mem_of_getElem? (i := 1) rfl)) (fun _ h9 => h9) rfl rfl rfl rfl (Nat.le_of_ble_eq_true rfl) rfl dX11_toleranceNeeded_2 (fun S1 eS1 H locs hw => ?_)
  refine lv_aload_n hx hb dX11_toleranceNeeded_5 rfl (lv_at hl 0 rfl) ?_
  refine x_callVV (q := 30) (C := RX11) (As := []) (rest := []) ⟨hx, hb, hml, hown, hts⟩ (ct_X11_laysRun l D cA α n _ hn S1 N (by subst eS1; exact hN) hN2 (by subst eS1; exact ho)) (cwV 0 hts gX11_toleranceNeeded_X11_laysRun rfl rfl rfl (by decide +kernel) ⟨Nat.le_of_ble_eq_true rfl, Nat.le_of_ble_eq_true rfl⟩) hK hw hAw (ws_recv hK hw (q := 30) (Nat.lt_of_lt_of_le (Nat.le_of_ble_eq_true rfl : 30 < 191) hn) (mk_30 cA α) rfl) rfl hl.1 rfl (Nat.le_of_ble_eq_true rfl) dX11_toleranceNeeded_6 ⟨Nat.zero_le _, Nat.zero_le _⟩ (fun S2 eS2 H locs hw => ?_)
  have hp := rPlan_ok S1 hN2 N (Nat.le_refl _)
  have hp41 : S2.1 41 = rPlan S1 N N := by rw [eS2, sR_e]
  refine lv_ldc2 (v := -1) hx hb hown (hts _ (List.mem_of_getElem? (i := 2) rfl)) dX11_toleranceNeeded_9 ?_
  refine lv_lstore_n (lv' := [(1, .long (-1)), (0, .ref (α 30))]) hx hb dX11_toleranceNeeded_12 rfl hl (by decide) rfl (fun ls hl => ?_)
  refine lv_iconst (v := nI 0) hx hb dX11_toleranceNeeded_13 (by decide) ?_
  refine lv_istore_n (lv' := [(3, .int (nI 0)), (1, .long (-1)), (0, .ref (α 30))]) hx hb dX11_toleranceNeeded_14 rfl hl (by decide) rfl (fun ls hl => ?_)
  have lp15 : ∀ (t : Nat) (j : Nat) (acc : Int64) (H : Heap) (locs : List Loc) (ls : Array Slot), N - j < t → j ≤ N → acc = rWid S2 j → Ws D cA α n (Aw α n sz) s.heap S2 H locs → lv_has ls 4 [(0, .ref (α 30)), (3, .int (nI j)), (1, .long acc)] → W p l e ({ frames := 5, cells := 0, slots := 0, locals := 109 } : Room) s m (List.toArray ([.ref (α 30)] : List Value)) below meth c H locs 0 0 (MQ below (va_Ql (fun r u => r = (rWid (rT0 (setI S 30 0 (nI 0)) N) N) ∧ u = (rT0 (setI S 30 0 (nI 0)) N)) (Pw D cA α n) (Aw α n sz)) (List.toArray ([.ref (α 30)] : List Value)) s 0 0 (Aw α n sz)) (F0 m 15 ls []) := by
    intro t
    induction t with
    | zero => intro j acc H locs ls ht; exact absurd ht (Nat.not_lt_zero _)
    | succ t ih15 =>
      intro j acc H locs ls ht hj hk hw hl
      refine lv_iload_n hx hb dX11_toleranceNeeded_15 rfl (lv_at hl 1 rfl) ?_
      refine lv_aload_n hx hb dX11_toleranceNeeded_16 rfl (lv_at hl 0 rfl) ?_
      refine x_get (v := .ref (α 34)) (C := RX11) (T := TX11) (N := 24) hx hb hts (fun _ h => List.mem_cons_of_mem _ (List.mem_append_right _ h)) hown hK hw 30 (Nat.lt_of_lt_of_le (Nat.le_of_ble_eq_true rfl : 30 < 191) hn) (mk_30 cA α) rfl 13 (by decide) (hts _ (List.mem_of_getElem? (i := 3) rfl)) (fun _ h9 => h9) rfl dX11_toleranceNeeded_17 ?_
      refine lv_iconst (v := nI 0) hx hb dX11_toleranceNeeded_20 (by decide) ?_
      refine x_iald hx hb hK hw 34 1508 (Nat.lt_of_lt_of_le (Nat.le_of_ble_eq_true rfl : 34 < 191) hn) (mk_34 cA α) 0 rfl (by decide) (by decide) dX11_toleranceNeeded_21 ?_
      refine x_topN (k := N) (by subst eS2; subst eS1; exact hN) ?_
      refine xn_icmp_ge (tgt := 56) hx hb (by omega) (by omega) dX11_toleranceNeeded_22 (by decide) (fun c1 => ?_) (fun c1 => ?_)
      · skip
        refine lv_lload_n hx hb dX11_toleranceNeeded_56 rfl (lv_at hl 2 rfl) ?_
        exact ret_l hx hb hr hlocks hK hw dX11_toleranceNeeded_57 (by rw [hk, show j = N by omega]; subst eS2; subst eS1; rfl) (by subst_vars; rfl)
      · skip
        refine lv_aload_n hx hb dX11_toleranceNeeded_25 rfl (lv_at hl 0 rfl) ?_
        refine x_get (v := .ref (α 41)) (C := RX11) (T := TX11) (N := 24) hx hb hts (fun _ h => List.mem_cons_of_mem _ (List.mem_append_right _ h)) hown hK hw 30 (Nat.lt_of_lt_of_le (Nat.le_of_ble_eq_true rfl : 30 < 191) hn) (mk_30 cA α) rfl 21 (by decide) (hts _ (List.mem_of_getElem? (i := 4) rfl)) (fun _ h9 => h9) rfl dX11_toleranceNeeded_26 ?_
        refine lv_iload_n hx hb dX11_toleranceNeeded_29 rfl (lv_at hl 1 rfl) ?_
        refine x_iald hx hb hK hw 41 100 (Nat.lt_of_lt_of_le (Nat.le_of_ble_eq_true rfl : 41 < 191) hn) (mk_41 cA α) j rfl (by omega) (by decide) dX11_toleranceNeeded_30 ?_
        refine lv_if_lt (tgt := 50) hx hb dX11_toleranceNeeded_31 (by decide) (fun c2 => ?_) (fun c2 => ?_)
        · skip
          refine lv_iinc (v := nI (j + 1)) (lv' := [(3, .int (nI (j + 1))), (0, .ref (α 30)), (1, .long acc)]) hx hb dX11_toleranceNeeded_50 hl (k := 1) rfl (nI_1 _) (by decide) rfl (fun ls hl => ?_)
          refine lv_goto (tgt := 15) hx hb dX11_toleranceNeeded_53 (by decide) ?_
          exact ih15 (j + 1) acc _ _ _ (by omega) (by omega) (by rw [rWid, ← hk]; simp only [if_pos c1, if_neg (not_not_intro c1), decide_eq_true c1, if_pos c2, if_neg (not_not_intro c2), decide_eq_true c2, if_true, if_false, eq_self, Bool.false_eq_true, not_true_eq_false, not_false_eq_true, decide_true, decide_false, Bool.and_true, Bool.true_and, Bool.and_false, Bool.false_and, Bool.not_true, Bool.not_false, Bool.or_true, Bool.true_or, Bool.or_false, Bool.false_or, reduceIte, b2i_t, b2i_f]) hw (lv_sub hl [1, 0, 2] rfl)
        · skip
          have hq : okI (S2.1 41 j) N := by rw [hp41]; exact (hp j (by omega)).resolve_left (by rw [← hp41]; exact c2)
          refine lv_aload_n hx hb dX11_toleranceNeeded_34 rfl (lv_at hl 0 rfl) ?_
          refine lv_iload_n hx hb dX11_toleranceNeeded_35 rfl (lv_at hl 1 rfl) ?_
          refine x_callVLr (q := 30) (C := RX11) (As := [.int (nI j)]) (rest := []) ⟨hx, hb, hml, hown, hts⟩ (ct_X11_wouldDiffer l D cA α n _ hn S2 j (gN (S2.1 41 j)) (by subst eS2; subst eS1; exact ho j (by omega)) hq.1 (by subst eS2; subst eS1; exact ho _ hq.2)) (cwV 1 hts gX11_toleranceNeeded_X11_wouldDiffer rfl rfl rfl (by decide +kernel) ⟨Nat.le_of_ble_eq_true rfl, Nat.le_of_ble_eq_true rfl⟩) hK hw hAw (ws_recv hK hw (q := 30) (Nat.lt_of_lt_of_le (Nat.le_of_ble_eq_true rfl : 30 < 191) hn) (mk_30 cA α) rfl) rfl hl.1 rfl (Nat.le_of_ble_eq_true rfl) dX11_toleranceNeeded_36 ⟨Nat.zero_le _, Nat.zero_le _⟩ (fun H locs hw => ?_)
          refine lv_lload_n hx hb dX11_toleranceNeeded_39 rfl (lv_at hl 2 rfl) ?_
          refine x_lcmp_le (tgt := 50) hx hb dX11_toleranceNeeded_40 dX11_toleranceNeeded_41 (by decide) (fun c3 => ?_) (fun c3 => ?_)
          · skip
            refine lv_iinc (v := nI (j + 1)) (lv' := [(3, .int (nI (j + 1))), (0, .ref (α 30)), (1, .long acc)]) hx hb dX11_toleranceNeeded_50 hl (k := 1) rfl (nI_1 _) (by decide) rfl (fun ls hl => ?_)
            refine lv_goto (tgt := 15) hx hb dX11_toleranceNeeded_53 (by decide) ?_
            exact ih15 (j + 1) acc _ _ _ (by omega) (by omega) (by rw [rWid, ← hk]; simp only [if_pos c1, if_neg (not_not_intro c1), decide_eq_true c1, if_neg c2, if_pos c2, decide_eq_false c2, if_pos c3, if_neg (not_not_intro c3), decide_eq_true c3, if_true, if_false, eq_self, Bool.false_eq_true, not_true_eq_false, not_false_eq_true, decide_true, decide_false, Bool.and_true, Bool.true_and, Bool.and_false, Bool.false_and, Bool.not_true, Bool.not_false, Bool.or_true, Bool.true_or, Bool.or_false, Bool.false_or, reduceIte, b2i_t, b2i_f]) hw (lv_sub hl [1, 0, 2] rfl)
          · skip
            refine lv_aload_n hx hb dX11_toleranceNeeded_44 rfl (lv_at hl 0 rfl) ?_
            refine lv_iload_n hx hb dX11_toleranceNeeded_45 rfl (lv_at hl 1 rfl) ?_
            refine x_callVLr (q := 30) (C := RX11) (As := [.int (nI j)]) (rest := []) ⟨hx, hb, hml, hown, hts⟩ (ct_X11_wouldDiffer l D cA α n _ hn S2 j (gN (S2.1 41 j)) (by subst eS2; subst eS1; exact ho j (by omega)) hq.1 (by subst eS2; subst eS1; exact ho _ hq.2)) (cwV 1 hts gX11_toleranceNeeded_X11_wouldDiffer rfl rfl rfl (by decide +kernel) ⟨Nat.le_of_ble_eq_true rfl, Nat.le_of_ble_eq_true rfl⟩) hK hw hAw (ws_recv hK hw (q := 30) (Nat.lt_of_lt_of_le (Nat.le_of_ble_eq_true rfl : 30 < 191) hn) (mk_30 cA α) rfl) rfl hl.1 rfl (Nat.le_of_ble_eq_true rfl) dX11_toleranceNeeded_46 ⟨Nat.zero_le _, Nat.zero_le _⟩ (fun H locs hw => ?_)
            refine lv_lstore_n (lv' := [(1, .long (absL (rVal S2 j - rVal S2 (gN (S2.1 41 j))))), (0, .ref (α 30)), (3, .int (nI j))]) hx hb dX11_toleranceNeeded_49 rfl hl (by decide) rfl (fun ls hl => ?_)
            refine lv_iinc (v := nI (j + 1)) (lv' := [(3, .int (nI (j + 1))), (1, .long (absL (rVal S2 j - rVal S2 (gN (S2.1 41 j))))), (0, .ref (α 30))]) hx hb dX11_toleranceNeeded_50 hl (k := 2) rfl (nI_1 _) (by decide) rfl (fun ls hl => ?_)
            refine lv_goto (tgt := 15) hx hb dX11_toleranceNeeded_53 (by decide) ?_
            exact ih15 (j + 1) (absL (rVal S2 j - rVal S2 (gN (S2.1 41 j)))) _ _ _ (by omega) (by omega) (by rw [rWid, ← hk]; simp only [if_pos c1, if_neg (not_not_intro c1), decide_eq_true c1, if_neg c2, if_pos c2, decide_eq_false c2, if_neg c3, if_pos c3, decide_eq_false c3, if_true, if_false, eq_self, Bool.false_eq_true, not_true_eq_false, not_false_eq_true, decide_true, decide_false, Bool.and_true, Bool.true_and, Bool.and_false, Bool.false_and, Bool.not_true, Bool.not_false, Bool.or_true, Bool.true_or, Bool.or_false, Bool.false_or, reduceIte, b2i_t, b2i_f]) hw (lv_sub hl [2, 0, 1] rfl)
  exact lp15 _ 0 (-1) _ _ _ (Nat.lt_succ_self _) (Nat.zero_le _) rfl hw (lv_sub hl [2, 0, 1] rfl)

def put4 (T : Mem) (i b : Nat) (x y : Int32) : Mem := setI (setI (setI (setI T 34 (8 + 6 * i + 4) y) 34 (8 + 6 * b + 4) y) 34 (8 + 6 * i + 5) x) 34 (8 + 6 * b + 5) (nI i)
def rSt (T : Mem) (i b : Nat) : Int32 := if (T.1 34 3).toInt64 < absL (rVal T i - rVal T b) then nI 2 else nI 1
def rMt (S : Mem) : Nat → Mem × Nat
  | 0 => (S, 0)
  | i + 1 => if S.1 41 i < 0 then rMt S i else if S.1 34 (8 + 6 * i + 2) = nI 1 then rMt S i else (put4 (rMt S i).1 i (gN (S.1 41 i)) (S.1 41 i) (rSt (rMt S i).1 i (gN (S.1 41 i))), (rMt S i).2 + 1)
theorem put4_k (T : Mem) (i b : Nat) (x y : Int32) {z : Nat} (h : z ≠ 34) : (put4 T i b x y).1 z = T.1 z := by
  unfold put4; rw [sI_1 h, sI_1 h, sI_1 h, sI_1 h]
theorem put4_34 (T : Mem) (i b : Nat) (x y : Int32) {z : Nat} (h : z < 8 ∨ (z % 6 ≠ 0 ∧ z % 6 ≠ 1)) : (put4 T i b x y).1 34 z = T.1 34 z := by
  unfold put4; rw [sI_e, pk_un (by omega), sI_e, pk_un (by omega), sI_e, pk_un (by omega), sI_e, pk_un (by omega)]
theorem rMt_k (S : Mem) {z : Nat} (h : z ≠ 34) : ∀ i, (rMt S i).1.1 z = S.1 z
  | 0 => rfl
  | i + 1 => by
    rw [rMt]
    split
    · exact rMt_k S h i
    · split
      · exact rMt_k S h i
      · rw [put4_k _ _ _ _ _ h]; exact rMt_k S h i
theorem rMt_34 (S : Mem) {z : Nat} (h : z < 8 ∨ (z % 6 ≠ 0 ∧ z % 6 ≠ 1)) : ∀ i, (rMt S i).1.1 34 z = S.1 34 z
  | 0 => rfl
  | i + 1 => by
    rw [rMt]
    split
    · exact rMt_34 S h i
    · split
      · exact rMt_34 S h i
      · rw [put4_34 _ _ _ _ _ h]; exact rMt_34 S h i
theorem rMt_2 (S : Mem) : ∀ i, (rMt S i).1.2 = S.2
  | 0 => rfl
  | i + 1 => by
    rw [rMt]
    split
    · exact rMt_2 S i
    · split
      · exact rMt_2 S i
      · exact rMt_2 S i
theorem okR_of2 {S T : Mem} {j : Nat} (h : okR S j) (e1 : T.1 34 (8 + 6 * j + 0) = S.1 34 (8 + 6 * j + 0)) (e2 : T.1 33 = S.1 33) : okR T j := by
  unfold okR; rw [e1, e2]; exact h

set_option maxRecDepth 100000 in
set_option maxHeartbeats 1000000 in
theorem ct_X11_match (l : Launch) (D : va_G) (cA : Nat → ClassId) (α : Nat → Nat) (n sz : Nat) (hn : 191 ≤ n) (S : Mem) (N : Nat) (hN : S.1 34 0 = nI N) (hN2 : N ≤ 100) (ho : ∀ j, j < N → okR S j) (k : Nat) (hk : S.1 30 17 = nI k) (hk2 : k ≤ 10) : CtI l yX11_match wsX11_match ({ frames := 5, cells := 0, slots := 0, locals := 109 }) D cA α n sz [.ref (α 30)] S (nI (rMt (rT0 (K0 S k) N) N).2) ((rMt (rT0 (K0 S k) N) N).1) := by
  refine ct_enter cX11_match 4 (some .int) (by decide) rfl (Nat.le_of_ble_eq_true rfl) ?_
  intro p e s m below meth c hx hb hr hml hlocks hown hts hK hsz hw ls hl
  have hown : s.vm.findClass RX11 = some m.cls := hown
  have hAw : ∀ z, Aw α n s.heap.size z → Aw α n sz z := by rw [hsz]; exact fun _ h => h
  have hl : lv_has ls 4 [(0, .ref (α 30))] := hl
  refine lv_aload_n hx hb dX11_match_0 rfl (lv_at hl 0 rfl) ?_
  refine lv_iconst (v := nI 0) hx hb dX11_match_1 (by decide) ?_
  refine x_putI (x := nI 0) (ty := .int) (C := RX11) (T := TX11) (N := 24) hx hb hts (fun _ h => List.mem_cons_of_mem _ (List.mem_append_right _ h)) tyX11 tyX11_ok nmX11 hown hK hw 30 (Nat.lt_of_lt_of_le (Nat.le_of_ble_eq_true rfl : 30 < 191) hn) (mk_30 cA α) rfl 0 (by decide) (hts _ (List.mem_of_getElem? (i := 1) rfl)) (fun _ h9 => h9) rfl rfl rfl rfl (Nat.le_of_ble_eq_true rfl) rfl dX11_match_2 (fun S1 eS1 H locs hw => ?_)
  refine lv_aload_n hx hb dX11_match_5 rfl (lv_at hl 0 rfl) ?_
  refine x_callVV (q := 30) (C := RX11) (As := []) (rest := []) ⟨hx, hb, hml, hown, hts⟩ (ct_X11_keepU l D cA α n _ hn S1 k (by subst eS1; exact hk) hk2) (cwV 0 hts gX11_match_X11_keep rfl rfl rfl (by decide +kernel) ⟨Nat.le_of_ble_eq_true rfl, Nat.le_of_ble_eq_true rfl⟩) hK hw hAw (ws_recv hK hw (q := 30) (Nat.lt_of_lt_of_le (Nat.le_of_ble_eq_true rfl : 30 < 191) hn) (mk_30 cA α) rfl) rfl hl.1 rfl (Nat.le_of_ble_eq_true rfl) dX11_match_6 ⟨Nat.zero_le _, Nat.zero_le _⟩ (fun S2 eS2 H locs hw => ?_)
  refine lv_aload_n hx hb dX11_match_9 rfl (lv_at hl 0 rfl) ?_
  refine x_callVV (q := 30) (C := RX11) (As := []) (rest := []) ⟨hx, hb, hml, hown, hts⟩ (ct_X11_laysRun l D cA α n _ hn S2 N (by subst eS2; subst eS1; exact (congrFun (K0_34 S k) 0).trans hN) hN2 (by subst eS2; subst eS1; exact fun j hj => okR_of (ho j hj) (K0_34 S k) (K0_33 S k))) (cwV 0 hts gX11_match_X11_laysRun rfl rfl rfl (by decide +kernel) ⟨Nat.le_of_ble_eq_true rfl, Nat.le_of_ble_eq_true rfl⟩) hK hw hAw (ws_recv hK hw (q := 30) (Nat.lt_of_lt_of_le (Nat.le_of_ble_eq_true rfl : 30 < 191) hn) (mk_30 cA α) rfl) rfl hl.1 rfl (Nat.le_of_ble_eq_true rfl) dX11_match_10 ⟨Nat.zero_le _, Nat.zero_le _⟩ (fun S3 eS3 H locs hw => ?_)
  have hp := rPlan_ok S2 hN2 N (Nat.le_refl _)
  have hp41 : S3.1 41 = rPlan S2 N N := by rw [eS3, sR_e]
  have hoT : ∀ j, j < N → okR S3 j := by subst eS3; subst eS2; subst eS1; exact fun j hj => okR_of (ho j hj) (K0_34 S k) (K0_33 S k)
  refine lv_iconst (v := nI 0) hx hb dX11_match_13 (by decide) ?_
  refine lv_istore_n (lv' := [(1, .int (nI 0)), (0, .ref (α 30))]) hx hb dX11_match_14 rfl hl (by decide) rfl (fun ls hl => ?_)
  refine lv_iconst (v := nI 0) hx hb dX11_match_15 (by decide) ?_
  refine lv_istore_n (lv' := [(2, .int (nI 0)), (1, .int (nI 0)), (0, .ref (α 30))]) hx hb dX11_match_16 rfl hl (by decide) rfl (fun ls hl => ?_)
  have lp17 : ∀ (t : Nat) (i : Nat) (r : Nat) (T : Mem) (H : Heap) (locs : List Loc) (ls : Array Slot), N - i < t → i ≤ N → T = (rMt S3 i).1 → r = (rMt S3 i).2 → Ws D cA α n (Aw α n sz) s.heap T H locs → lv_has ls 4 [(0, .ref (α 30)), (2, .int (nI i)), (1, .int (nI r))] → W p l e ({ frames := 5, cells := 0, slots := 0, locals := 109 } : Room) s m (List.toArray ([.ref (α 30)] : List Value)) below meth c H locs 0 0 (MQ below (va_Qi (fun r u => r = (nI (rMt (rT0 (K0 S k) N) N).2) ∧ u = ((rMt (rT0 (K0 S k) N) N).1)) (Pw D cA α n) (Aw α n sz)) (List.toArray ([.ref (α 30)] : List Value)) s 0 0 (Aw α n sz)) (F0 m 17 ls []) := by
    intro t
    induction t with
    | zero => intro i r T H locs ls ht; exact absurd ht (Nat.not_lt_zero _)
    | succ t ih17 =>
      intro i r T H locs ls ht hj hT hk9 hw hl
      refine lv_iload_n hx hb dX11_match_17 rfl (lv_at hl 1 rfl) ?_
      refine lv_aload_n hx hb dX11_match_18 rfl (lv_at hl 0 rfl) ?_
      refine x_get (v := .ref (α 34)) (C := RX11) (T := TX11) (N := 24) hx hb hts (fun _ h => List.mem_cons_of_mem _ (List.mem_append_right _ h)) hown hK hw 30 (Nat.lt_of_lt_of_le (Nat.le_of_ble_eq_true rfl : 30 < 191) hn) (mk_30 cA α) rfl 13 (by decide) (hts _ (List.mem_of_getElem? (i := 2) rfl)) (fun _ h9 => h9) rfl dX11_match_19 ?_
      refine lv_iconst (v := nI 0) hx hb dX11_match_22 (by decide) ?_
      refine x_iald hx hb hK hw 34 1508 (Nat.lt_of_lt_of_le (Nat.le_of_ble_eq_true rfl : 34 < 191) hn) (mk_34 cA α) 0 rfl (by decide) (by decide) dX11_match_23 ?_
      refine x_topN (k := N) (by rw [hT, rMt_34 S3 (by decide) i, eS3]; exact (congrFun (K0_34 S k) 0).trans hN |> fun q => by rw [sR_1 (by decide), eS2, eS1]; exact q) ?_
      refine xn_icmp_ge (tgt := 123) hx hb (by omega) (by omega) dX11_match_24 (by decide) (fun c1 => ?_) (fun c1 => ?_)
      · skip
        refine lv_iload_n hx hb dX11_match_123 rfl (lv_at hl 2 rfl) ?_
        exact ret_i hx hb hr hlocks hK hw dX11_match_124 (by rw [hk9, show i = N by omega, eS3, eS2, eS1]) (by rw [hT, show i = N by omega, eS3, eS2, eS1])
      · skip
        refine lv_aload_n hx hb dX11_match_27 rfl (lv_at hl 0 rfl) ?_
        refine x_get (v := .ref (α 41)) (C := RX11) (T := TX11) (N := 24) hx hb hts (fun _ h => List.mem_cons_of_mem _ (List.mem_append_right _ h)) hown hK hw 30 (Nat.lt_of_lt_of_le (Nat.le_of_ble_eq_true rfl : 30 < 191) hn) (mk_30 cA α) rfl 21 (by decide) (hts _ (List.mem_of_getElem? (i := 3) rfl)) (fun _ h9 => h9) rfl dX11_match_28 ?_
        refine lv_iload_n hx hb dX11_match_31 rfl (lv_at hl 1 rfl) ?_
        refine x_iald hx hb hK hw 41 100 (Nat.lt_of_lt_of_le (Nat.le_of_ble_eq_true rfl : 41 < 191) hn) (mk_41 cA α) i rfl (by omega) (by decide) dX11_match_32 ?_
        refine x_topE (y := S3.1 41 i) (by rw [hT]; exact (congrFun (rMt_k S3 (by decide) i) i)) ?_
        refine lv_if_lt (tgt := 117) hx hb dX11_match_33 (by decide) (fun c2 => ?_) (fun c2 => ?_)
        · skip
          refine lv_iinc (v := nI (i + 1)) (lv' := [(2, .int (nI (i + 1))), (0, .ref (α 30)), (1, .int (nI r))]) hx hb dX11_match_117 hl (k := 1) rfl (nI_1 _) (by decide) rfl (fun ls hl => ?_)
          refine lv_goto (tgt := 17) hx hb dX11_match_120 (by decide) ?_
          exact ih17 (i + 1) r T _ _ _ (by omega) (by omega) (by rw [rMt]; simp only [if_pos c1, if_neg (not_not_intro c1), decide_eq_true c1, if_pos c2, if_neg (not_not_intro c2), decide_eq_true c2, if_true, if_false, eq_self, Bool.false_eq_true, not_true_eq_false, not_false_eq_true, decide_true, decide_false, Bool.and_true, Bool.true_and, Bool.and_false, Bool.false_and, Bool.not_true, Bool.not_false, Bool.or_true, Bool.true_or, Bool.or_false, Bool.false_or, reduceIte, b2i_t, b2i_f]; exact hT) (by rw [rMt]; simp only [if_pos c1, if_neg (not_not_intro c1), decide_eq_true c1, if_pos c2, if_neg (not_not_intro c2), decide_eq_true c2, if_true, if_false, eq_self, Bool.false_eq_true, not_true_eq_false, not_false_eq_true, decide_true, decide_false, Bool.and_true, Bool.true_and, Bool.and_false, Bool.false_and, Bool.not_true, Bool.not_false, Bool.or_true, Bool.true_or, Bool.or_false, Bool.false_or, reduceIte, b2i_t, b2i_f]; exact hk9) hw (lv_sub hl [1, 0, 2] rfl)
        · skip
          refine lv_aload_n hx hb dX11_match_36 rfl (lv_at hl 0 rfl) ?_
          refine lv_iload_n hx hb dX11_match_37 rfl (lv_at hl 1 rfl) ?_
          refine lv_iconst (v := nI 2) hx hb dX11_match_38 (by decide) ?_
          refine x_callVIr (q := 30) (C := RX11) (As := [.int (nI i), .int (nI 2)]) (rest := []) ⟨hx, hb, hml, hown, hts⟩ (ct_X11_of l D cA α n _ hn T i 2 (by omega)) (cwV 2 hts gX11_match_X11_of rfl rfl rfl (by decide +kernel) ⟨Nat.le_of_ble_eq_true rfl, Nat.le_of_ble_eq_true rfl⟩) hK hw hAw (ws_recv hK hw (q := 30) (Nat.lt_of_lt_of_le (Nat.le_of_ble_eq_true rfl : 30 < 191) hn) (mk_30 cA α) rfl) rfl hl.1 rfl (Nat.le_of_ble_eq_true rfl) dX11_match_39 ⟨Nat.zero_le _, Nat.zero_le _⟩ (fun H locs hw => ?_)
          refine x_topE (y := S3.1 34 (8 + 6 * i + 2)) (by rw [hT]; exact rMt_34 S3 (by omega) i) ?_
          refine lv_iconst (v := nI 1) hx hb dX11_match_42 (by decide) ?_
          refine lv_icmp_ne (tgt := 49) hx hb dX11_match_43 (by decide) (fun c3 => ?_) (fun c3 => ?_)
          · skip
            have hq : okI (S3.1 41 i) N := by rw [hp41]; exact (hp i (by omega)).resolve_left (by rw [← hp41]; exact c2)
            have hq2 := hq.2
            refine lv_aload_n hx hb dX11_match_49 rfl (lv_at hl 0 rfl) ?_
            refine lv_iload_n hx hb dX11_match_50 rfl (lv_at hl 1 rfl) ?_
            refine x_callVLr (q := 30) (C := RX11) (As := [.int (nI i)]) (rest := []) ⟨hx, hb, hml, hown, hts⟩ (ct_X11_wouldDiffer l D cA α n _ hn T i (gN (S3.1 41 i)) (okR_of2 (hoT i (by omega)) (by rw [hT]; exact rMt_34 S3 (by omega) i) (by rw [hT]; exact rMt_k S3 (by decide) i)) (by rw [hT]; exact (congrFun (rMt_k S3 (by decide) i) i).trans hq.1) (okR_of2 (hoT _ hq.2) (by rw [hT]; exact rMt_34 S3 (by omega) i) (by rw [hT]; exact rMt_k S3 (by decide) i))) (cwV 1 hts gX11_match_X11_wouldDiffer rfl rfl rfl (by decide +kernel) ⟨Nat.le_of_ble_eq_true rfl, Nat.le_of_ble_eq_true rfl⟩) hK hw hAw (ws_recv hK hw (q := 30) (Nat.lt_of_lt_of_le (Nat.le_of_ble_eq_true rfl : 30 < 191) hn) (mk_30 cA α) rfl) rfl hl.1 rfl (Nat.le_of_ble_eq_true rfl) dX11_match_51 ⟨Nat.zero_le _, Nat.zero_le _⟩ (fun H locs hw => ?_)
            refine lv_aload_n hx hb dX11_match_54 rfl (lv_at hl 0 rfl) ?_
            refine x_get (v := .ref (α 34)) (C := RX11) (T := TX11) (N := 24) hx hb hts (fun _ h => List.mem_cons_of_mem _ (List.mem_append_right _ h)) hown hK hw 30 (Nat.lt_of_lt_of_le (Nat.le_of_ble_eq_true rfl : 30 < 191) hn) (mk_30 cA α) rfl 13 (by decide) (hts _ (List.mem_of_getElem? (i := 2) rfl)) (fun _ h9 => h9) rfl dX11_match_55 ?_
            refine lv_iconst (v := nI 3) hx hb dX11_match_58 (by decide) ?_
            refine x_iald hx hb hK hw 34 1508 (Nat.lt_of_lt_of_le (Nat.le_of_ble_eq_true rfl : 34 < 191) hn) (mk_34 cA α) 3 rfl (by decide) (by decide) dX11_match_59 ?_
            refine lv_i2l hx hb dX11_match_60 rfl ?_
            refine x_lcmp_gt (tgt := 69) hx hb dX11_match_61 dX11_match_62 (by decide) (fun c4 => ?_) (fun c4 => ?_)
            · skip
              refine lv_iconst (v := nI 2) hx hb dX11_match_69 (by decide) ?_
              refine lv_istore_n (lv' := [(3, .int (nI 2)), (0, .ref (α 30)), (2, .int (nI i)), (1, .int (nI r))]) hx hb dX11_match_70 rfl hl (by decide) rfl (fun ls hl => ?_)
              refine lv_aload_n hx hb dX11_match_71 rfl (lv_at hl 1 rfl) ?_
              refine lv_iload_n hx hb dX11_match_72 rfl (lv_at hl 2 rfl) ?_
              refine lv_iconst (v := nI 4) hx hb dX11_match_73 (by decide) ?_
              refine lv_iload_n hx hb dX11_match_74 rfl (lv_at hl 0 rfl) ?_
              refine x_callVV (q := 30) (C := RX11) (As := [.int (nI i), .int (nI 4), .int (nI 2)]) (rest := []) ⟨hx, hb, hml, hown, hts⟩ (ct_X11_put l D cA α n _ hn T i 4 (nI 2) (by omega)) (cwV 3 hts gX11_match_X11_put rfl rfl rfl (by decide +kernel) ⟨Nat.le_of_ble_eq_true rfl, Nat.le_of_ble_eq_true rfl⟩) hK hw hAw (ws_recv hK hw (q := 30) (Nat.lt_of_lt_of_le (Nat.le_of_ble_eq_true rfl : 30 < 191) hn) (mk_30 cA α) rfl) rfl hl.1 rfl (Nat.le_of_ble_eq_true rfl) dX11_match_75 ⟨Nat.zero_le _, Nat.zero_le _⟩ (fun S4 eS4 H locs hw => ?_)
              refine lv_aload_n hx hb dX11_match_78 rfl (lv_at hl 1 rfl) ?_
              refine lv_aload_n hx hb dX11_match_79 rfl (lv_at hl 1 rfl) ?_
              refine x_get (v := .ref (α 41)) (C := RX11) (T := TX11) (N := 24) hx hb hts (fun _ h => List.mem_cons_of_mem _ (List.mem_append_right _ h)) hown hK hw 30 (Nat.lt_of_lt_of_le (Nat.le_of_ble_eq_true rfl : 30 < 191) hn) (mk_30 cA α) rfl 21 (by decide) (hts _ (List.mem_of_getElem? (i := 3) rfl)) (fun _ h9 => h9) rfl dX11_match_80 ?_
              refine lv_iload_n hx hb dX11_match_83 rfl (lv_at hl 2 rfl) ?_
              refine x_iald hx hb hK hw 41 100 (Nat.lt_of_lt_of_le (Nat.le_of_ble_eq_true rfl : 41 < 191) hn) (mk_41 cA α) i rfl (by omega) (by decide) dX11_match_84 ?_
              refine x_topN (k := gN (S3.1 41 i)) (by subst eS4; rw [sI_1 (by decide), hT]; exact (congrFun (rMt_k S3 (by decide) i) i).trans hq.1) ?_
              refine lv_iconst (v := nI 4) hx hb dX11_match_85 (by decide) ?_
              refine lv_iload_n hx hb dX11_match_86 rfl (lv_at hl 0 rfl) ?_
              refine x_callVV (q := 30) (C := RX11) (As := [.int (nI (gN (S3.1 41 i))), .int (nI 4), .int (nI 2)]) (rest := []) ⟨hx, hb, hml, hown, hts⟩ (ct_X11_put l D cA α n _ hn S4 (gN (S3.1 41 i)) 4 (nI 2) (by omega)) (cwV 3 hts gX11_match_X11_put rfl rfl rfl (by decide +kernel) ⟨Nat.le_of_ble_eq_true rfl, Nat.le_of_ble_eq_true rfl⟩) hK hw hAw (ws_recv hK hw (q := 30) (Nat.lt_of_lt_of_le (Nat.le_of_ble_eq_true rfl : 30 < 191) hn) (mk_30 cA α) rfl) rfl hl.1 rfl (Nat.le_of_ble_eq_true rfl) dX11_match_87 ⟨Nat.zero_le _, Nat.zero_le _⟩ (fun S5 eS5 H locs hw => ?_)
              refine lv_aload_n hx hb dX11_match_90 rfl (lv_at hl 1 rfl) ?_
              refine lv_iload_n hx hb dX11_match_91 rfl (lv_at hl 2 rfl) ?_
              refine lv_iconst (v := nI 5) hx hb dX11_match_92 (by decide) ?_
              refine lv_aload_n hx hb dX11_match_93 rfl (lv_at hl 1 rfl) ?_
              refine x_get (v := .ref (α 41)) (C := RX11) (T := TX11) (N := 24) hx hb hts (fun _ h => List.mem_cons_of_mem _ (List.mem_append_right _ h)) hown hK hw 30 (Nat.lt_of_lt_of_le (Nat.le_of_ble_eq_true rfl : 30 < 191) hn) (mk_30 cA α) rfl 21 (by decide) (hts _ (List.mem_of_getElem? (i := 3) rfl)) (fun _ h9 => h9) rfl dX11_match_94 ?_
              refine lv_iload_n hx hb dX11_match_97 rfl (lv_at hl 2 rfl) ?_
              refine x_iald hx hb hK hw 41 100 (Nat.lt_of_lt_of_le (Nat.le_of_ble_eq_true rfl : 41 < 191) hn) (mk_41 cA α) i rfl (by omega) (by decide) dX11_match_98 ?_
              refine x_topE (y := S3.1 41 i) (by subst eS5; subst eS4; rw [sI_1 (by decide), sI_1 (by decide), hT]; exact (congrFun (rMt_k S3 (by decide) i) i)) ?_
              refine x_callVV (q := 30) (C := RX11) (As := [.int (nI i), .int (nI 5), .int (S3.1 41 i)]) (rest := []) ⟨hx, hb, hml, hown, hts⟩ (ct_X11_put l D cA α n _ hn S5 i 5 (S3.1 41 i) (by omega)) (cwV 3 hts gX11_match_X11_put rfl rfl rfl (by decide +kernel) ⟨Nat.le_of_ble_eq_true rfl, Nat.le_of_ble_eq_true rfl⟩) hK hw hAw (ws_recv hK hw (q := 30) (Nat.lt_of_lt_of_le (Nat.le_of_ble_eq_true rfl : 30 < 191) hn) (mk_30 cA α) rfl) rfl hl.1 rfl (Nat.le_of_ble_eq_true rfl) dX11_match_99 ⟨Nat.zero_le _, Nat.zero_le _⟩ (fun S6 eS6 H locs hw => ?_)
              refine lv_aload_n hx hb dX11_match_102 rfl (lv_at hl 1 rfl) ?_
              refine lv_aload_n hx hb dX11_match_103 rfl (lv_at hl 1 rfl) ?_
              refine x_get (v := .ref (α 41)) (C := RX11) (T := TX11) (N := 24) hx hb hts (fun _ h => List.mem_cons_of_mem _ (List.mem_append_right _ h)) hown hK hw 30 (Nat.lt_of_lt_of_le (Nat.le_of_ble_eq_true rfl : 30 < 191) hn) (mk_30 cA α) rfl 21 (by decide) (hts _ (List.mem_of_getElem? (i := 3) rfl)) (fun _ h9 => h9) rfl dX11_match_104 ?_
              refine lv_iload_n hx hb dX11_match_107 rfl (lv_at hl 2 rfl) ?_
              refine x_iald hx hb hK hw 41 100 (Nat.lt_of_lt_of_le (Nat.le_of_ble_eq_true rfl : 41 < 191) hn) (mk_41 cA α) i rfl (by omega) (by decide) dX11_match_108 ?_
              refine x_topN (k := gN (S3.1 41 i)) (by subst eS6; subst eS5; subst eS4; rw [sI_1 (by decide), sI_1 (by decide), sI_1 (by decide), hT]; exact (congrFun (rMt_k S3 (by decide) i) i).trans hq.1) ?_
              refine lv_iconst (v := nI 5) hx hb dX11_match_109 (by decide) ?_
              refine lv_iload_n hx hb dX11_match_110 rfl (lv_at hl 2 rfl) ?_
              refine x_callVV (q := 30) (C := RX11) (As := [.int (nI (gN (S3.1 41 i))), .int (nI 5), .int (nI i)]) (rest := []) ⟨hx, hb, hml, hown, hts⟩ (ct_X11_put l D cA α n _ hn S6 (gN (S3.1 41 i)) 5 (nI i) (by omega)) (cwV 3 hts gX11_match_X11_put rfl rfl rfl (by decide +kernel) ⟨Nat.le_of_ble_eq_true rfl, Nat.le_of_ble_eq_true rfl⟩) hK hw hAw (ws_recv hK hw (q := 30) (Nat.lt_of_lt_of_le (Nat.le_of_ble_eq_true rfl : 30 < 191) hn) (mk_30 cA α) rfl) rfl hl.1 rfl (Nat.le_of_ble_eq_true rfl) dX11_match_111 ⟨Nat.zero_le _, Nat.zero_le _⟩ (fun S7 eS7 H locs hw => ?_)
              refine lv_iinc (v := nI (r + 1)) (lv' := [(1, .int (nI (r + 1))), (3, .int (nI 2)), (0, .ref (α 30)), (2, .int (nI i))]) hx hb dX11_match_114 hl (k := 3) rfl (nI_1 _) (by decide) rfl (fun ls hl => ?_)
              refine lv_iinc (v := nI (i + 1)) (lv' := [(2, .int (nI (i + 1))), (1, .int (nI (r + 1))), (3, .int (nI 2)), (0, .ref (α 30))]) hx hb dX11_match_117 hl (k := 3) rfl (nI_1 _) (by decide) rfl (fun ls hl => ?_)
              refine lv_goto (tgt := 17) hx hb dX11_match_120 (by decide) ?_
              exact ih17 (i + 1) (r + 1) S7 _ _ _ (by omega) (by omega) (by rw [rMt]; simp only [if_pos c1, if_neg (not_not_intro c1), decide_eq_true c1, if_neg c2, if_pos c2, decide_eq_false c2, if_neg c3, if_pos c3, decide_eq_false c3, if_pos c4, if_neg (not_not_intro c4), decide_eq_true c4, if_true, if_false, eq_self, Bool.false_eq_true, not_true_eq_false, not_false_eq_true, decide_true, decide_false, Bool.and_true, Bool.true_and, Bool.and_false, Bool.false_and, Bool.not_true, Bool.not_false, Bool.or_true, Bool.true_or, Bool.or_false, Bool.false_or, reduceIte, b2i_t, b2i_f]; rw [← hT]; subst eS7; subst eS6; subst eS5; subst eS4; simp only [put4, rSt, if_pos c1, if_neg (not_not_intro c1), decide_eq_true c1, if_neg c2, if_pos c2, decide_eq_false c2, if_neg c3, if_pos c3, decide_eq_false c3, if_pos c4, if_neg (not_not_intro c4), decide_eq_true c4, if_true, if_false, eq_self, Bool.false_eq_true, not_true_eq_false, not_false_eq_true, decide_true, decide_false, Bool.and_true, Bool.true_and, Bool.and_false, Bool.false_and, Bool.not_true, Bool.not_false, Bool.or_true, Bool.true_or, Bool.or_false, Bool.false_or, reduceIte, b2i_t, b2i_f]; try rfl) (by rw [rMt]; simp only [if_pos c1, if_neg (not_not_intro c1), decide_eq_true c1, if_neg c2, if_pos c2, decide_eq_false c2, if_neg c3, if_pos c3, decide_eq_false c3, if_pos c4, if_neg (not_not_intro c4), decide_eq_true c4, if_true, if_false, eq_self, Bool.false_eq_true, not_true_eq_false, not_false_eq_true, decide_true, decide_false, Bool.and_true, Bool.true_and, Bool.and_false, Bool.false_and, Bool.not_true, Bool.not_false, Bool.or_true, Bool.true_or, Bool.or_false, Bool.false_or, reduceIte, b2i_t, b2i_f]; rw [hk9]) hw (lv_sub hl [3, 0, 1] rfl)
            · skip
              refine lv_iconst (v := nI 1) hx hb dX11_match_65 (by decide) ?_
              refine lv_goto (tgt := 70) hx hb dX11_match_66 (by decide) ?_
              refine lv_istore_n (lv' := [(3, .int (nI 1)), (0, .ref (α 30)), (2, .int (nI i)), (1, .int (nI r))]) hx hb dX11_match_70 rfl hl (by decide) rfl (fun ls hl => ?_)
              refine lv_aload_n hx hb dX11_match_71 rfl (lv_at hl 1 rfl) ?_
              refine lv_iload_n hx hb dX11_match_72 rfl (lv_at hl 2 rfl) ?_
              refine lv_iconst (v := nI 4) hx hb dX11_match_73 (by decide) ?_
              refine lv_iload_n hx hb dX11_match_74 rfl (lv_at hl 0 rfl) ?_
              refine x_callVV (q := 30) (C := RX11) (As := [.int (nI i), .int (nI 4), .int (nI 1)]) (rest := []) ⟨hx, hb, hml, hown, hts⟩ (ct_X11_put l D cA α n _ hn T i 4 (nI 1) (by omega)) (cwV 3 hts gX11_match_X11_put rfl rfl rfl (by decide +kernel) ⟨Nat.le_of_ble_eq_true rfl, Nat.le_of_ble_eq_true rfl⟩) hK hw hAw (ws_recv hK hw (q := 30) (Nat.lt_of_lt_of_le (Nat.le_of_ble_eq_true rfl : 30 < 191) hn) (mk_30 cA α) rfl) rfl hl.1 rfl (Nat.le_of_ble_eq_true rfl) dX11_match_75 ⟨Nat.zero_le _, Nat.zero_le _⟩ (fun S8 eS8 H locs hw => ?_)
              refine lv_aload_n hx hb dX11_match_78 rfl (lv_at hl 1 rfl) ?_
              refine lv_aload_n hx hb dX11_match_79 rfl (lv_at hl 1 rfl) ?_
              refine x_get (v := .ref (α 41)) (C := RX11) (T := TX11) (N := 24) hx hb hts (fun _ h => List.mem_cons_of_mem _ (List.mem_append_right _ h)) hown hK hw 30 (Nat.lt_of_lt_of_le (Nat.le_of_ble_eq_true rfl : 30 < 191) hn) (mk_30 cA α) rfl 21 (by decide) (hts _ (List.mem_of_getElem? (i := 3) rfl)) (fun _ h9 => h9) rfl dX11_match_80 ?_
              refine lv_iload_n hx hb dX11_match_83 rfl (lv_at hl 2 rfl) ?_
              refine x_iald hx hb hK hw 41 100 (Nat.lt_of_lt_of_le (Nat.le_of_ble_eq_true rfl : 41 < 191) hn) (mk_41 cA α) i rfl (by omega) (by decide) dX11_match_84 ?_
              refine x_topN (k := gN (S3.1 41 i)) (by subst eS8; rw [sI_1 (by decide), hT]; exact (congrFun (rMt_k S3 (by decide) i) i).trans hq.1) ?_
              refine lv_iconst (v := nI 4) hx hb dX11_match_85 (by decide) ?_
              refine lv_iload_n hx hb dX11_match_86 rfl (lv_at hl 0 rfl) ?_
              refine x_callVV (q := 30) (C := RX11) (As := [.int (nI (gN (S3.1 41 i))), .int (nI 4), .int (nI 1)]) (rest := []) ⟨hx, hb, hml, hown, hts⟩ (ct_X11_put l D cA α n _ hn S8 (gN (S3.1 41 i)) 4 (nI 1) (by omega)) (cwV 3 hts gX11_match_X11_put rfl rfl rfl (by decide +kernel) ⟨Nat.le_of_ble_eq_true rfl, Nat.le_of_ble_eq_true rfl⟩) hK hw hAw (ws_recv hK hw (q := 30) (Nat.lt_of_lt_of_le (Nat.le_of_ble_eq_true rfl : 30 < 191) hn) (mk_30 cA α) rfl) rfl hl.1 rfl (Nat.le_of_ble_eq_true rfl) dX11_match_87 ⟨Nat.zero_le _, Nat.zero_le _⟩ (fun S9 eS9 H locs hw => ?_)
              refine lv_aload_n hx hb dX11_match_90 rfl (lv_at hl 1 rfl) ?_
              refine lv_iload_n hx hb dX11_match_91 rfl (lv_at hl 2 rfl) ?_
              refine lv_iconst (v := nI 5) hx hb dX11_match_92 (by decide) ?_
              refine lv_aload_n hx hb dX11_match_93 rfl (lv_at hl 1 rfl) ?_
              refine x_get (v := .ref (α 41)) (C := RX11) (T := TX11) (N := 24) hx hb hts (fun _ h => List.mem_cons_of_mem _ (List.mem_append_right _ h)) hown hK hw 30 (Nat.lt_of_lt_of_le (Nat.le_of_ble_eq_true rfl : 30 < 191) hn) (mk_30 cA α) rfl 21 (by decide) (hts _ (List.mem_of_getElem? (i := 3) rfl)) (fun _ h9 => h9) rfl dX11_match_94 ?_
              refine lv_iload_n hx hb dX11_match_97 rfl (lv_at hl 2 rfl) ?_
              refine x_iald hx hb hK hw 41 100 (Nat.lt_of_lt_of_le (Nat.le_of_ble_eq_true rfl : 41 < 191) hn) (mk_41 cA α) i rfl (by omega) (by decide) dX11_match_98 ?_
              refine x_topE (y := S3.1 41 i) (by subst eS9; subst eS8; rw [sI_1 (by decide), sI_1 (by decide), hT]; exact (congrFun (rMt_k S3 (by decide) i) i)) ?_
              refine x_callVV (q := 30) (C := RX11) (As := [.int (nI i), .int (nI 5), .int (S3.1 41 i)]) (rest := []) ⟨hx, hb, hml, hown, hts⟩ (ct_X11_put l D cA α n _ hn S9 i 5 (S3.1 41 i) (by omega)) (cwV 3 hts gX11_match_X11_put rfl rfl rfl (by decide +kernel) ⟨Nat.le_of_ble_eq_true rfl, Nat.le_of_ble_eq_true rfl⟩) hK hw hAw (ws_recv hK hw (q := 30) (Nat.lt_of_lt_of_le (Nat.le_of_ble_eq_true rfl : 30 < 191) hn) (mk_30 cA α) rfl) rfl hl.1 rfl (Nat.le_of_ble_eq_true rfl) dX11_match_99 ⟨Nat.zero_le _, Nat.zero_le _⟩ (fun S10 eS10 H locs hw => ?_)
              refine lv_aload_n hx hb dX11_match_102 rfl (lv_at hl 1 rfl) ?_
              refine lv_aload_n hx hb dX11_match_103 rfl (lv_at hl 1 rfl) ?_
              refine x_get (v := .ref (α 41)) (C := RX11) (T := TX11) (N := 24) hx hb hts (fun _ h => List.mem_cons_of_mem _ (List.mem_append_right _ h)) hown hK hw 30 (Nat.lt_of_lt_of_le (Nat.le_of_ble_eq_true rfl : 30 < 191) hn) (mk_30 cA α) rfl 21 (by decide) (hts _ (List.mem_of_getElem? (i := 3) rfl)) (fun _ h9 => h9) rfl dX11_match_104 ?_
              refine lv_iload_n hx hb dX11_match_107 rfl (lv_at hl 2 rfl) ?_
              refine x_iald hx hb hK hw 41 100 (Nat.lt_of_lt_of_le (Nat.le_of_ble_eq_true rfl : 41 < 191) hn) (mk_41 cA α) i rfl (by omega) (by decide) dX11_match_108 ?_
              refine x_topN (k := gN (S3.1 41 i)) (by subst eS10; subst eS9; subst eS8; rw [sI_1 (by decide), sI_1 (by decide), sI_1 (by decide), hT]; exact (congrFun (rMt_k S3 (by decide) i) i).trans hq.1) ?_
              refine lv_iconst (v := nI 5) hx hb dX11_match_109 (by decide) ?_
              refine lv_iload_n hx hb dX11_match_110 rfl (lv_at hl 2 rfl) ?_
              refine x_callVV (q := 30) (C := RX11) (As := [.int (nI (gN (S3.1 41 i))), .int (nI 5), .int (nI i)]) (rest := []) ⟨hx, hb, hml, hown, hts⟩ (ct_X11_put l D cA α n _ hn S10 (gN (S3.1 41 i)) 5 (nI i) (by omega)) (cwV 3 hts gX11_match_X11_put rfl rfl rfl (by decide +kernel) ⟨Nat.le_of_ble_eq_true rfl, Nat.le_of_ble_eq_true rfl⟩) hK hw hAw (ws_recv hK hw (q := 30) (Nat.lt_of_lt_of_le (Nat.le_of_ble_eq_true rfl : 30 < 191) hn) (mk_30 cA α) rfl) rfl hl.1 rfl (Nat.le_of_ble_eq_true rfl) dX11_match_111 ⟨Nat.zero_le _, Nat.zero_le _⟩ (fun S11 eS11 H locs hw => ?_)
              refine lv_iinc (v := nI (r + 1)) (lv' := [(1, .int (nI (r + 1))), (3, .int (nI 1)), (0, .ref (α 30)), (2, .int (nI i))]) hx hb dX11_match_114 hl (k := 3) rfl (nI_1 _) (by decide) rfl (fun ls hl => ?_)
              refine lv_iinc (v := nI (i + 1)) (lv' := [(2, .int (nI (i + 1))), (1, .int (nI (r + 1))), (3, .int (nI 1)), (0, .ref (α 30))]) hx hb dX11_match_117 hl (k := 3) rfl (nI_1 _) (by decide) rfl (fun ls hl => ?_)
              refine lv_goto (tgt := 17) hx hb dX11_match_120 (by decide) ?_
              exact ih17 (i + 1) (r + 1) S11 _ _ _ (by omega) (by omega) (by rw [rMt]; simp only [if_pos c1, if_neg (not_not_intro c1), decide_eq_true c1, if_neg c2, if_pos c2, decide_eq_false c2, if_neg c3, if_pos c3, decide_eq_false c3, if_neg c4, if_pos c4, decide_eq_false c4, if_true, if_false, eq_self, Bool.false_eq_true, not_true_eq_false, not_false_eq_true, decide_true, decide_false, Bool.and_true, Bool.true_and, Bool.and_false, Bool.false_and, Bool.not_true, Bool.not_false, Bool.or_true, Bool.true_or, Bool.or_false, Bool.false_or, reduceIte, b2i_t, b2i_f]; rw [← hT]; subst eS11; subst eS10; subst eS9; subst eS8; simp only [put4, rSt, if_pos c1, if_neg (not_not_intro c1), decide_eq_true c1, if_neg c2, if_pos c2, decide_eq_false c2, if_neg c3, if_pos c3, decide_eq_false c3, if_neg c4, if_pos c4, decide_eq_false c4, if_true, if_false, eq_self, Bool.false_eq_true, not_true_eq_false, not_false_eq_true, decide_true, decide_false, Bool.and_true, Bool.true_and, Bool.and_false, Bool.false_and, Bool.not_true, Bool.not_false, Bool.or_true, Bool.true_or, Bool.or_false, Bool.false_or, reduceIte, b2i_t, b2i_f]; try rfl) (by rw [rMt]; simp only [if_pos c1, if_neg (not_not_intro c1), decide_eq_true c1, if_neg c2, if_pos c2, decide_eq_false c2, if_neg c3, if_pos c3, decide_eq_false c3, if_neg c4, if_pos c4, decide_eq_false c4, if_true, if_false, eq_self, Bool.false_eq_true, not_true_eq_false, not_false_eq_true, decide_true, decide_false, Bool.and_true, Bool.true_and, Bool.and_false, Bool.false_and, Bool.not_true, Bool.not_false, Bool.or_true, Bool.true_or, Bool.or_false, Bool.false_or, reduceIte, b2i_t, b2i_f]; rw [hk9]) hw (lv_sub hl [3, 0, 1] rfl)
          · skip
            refine lv_goto (tgt := 117) hx hb dX11_match_46 (by decide) ?_
            refine lv_iinc (v := nI (i + 1)) (lv' := [(2, .int (nI (i + 1))), (0, .ref (α 30)), (1, .int (nI r))]) hx hb dX11_match_117 hl (k := 1) rfl (nI_1 _) (by decide) rfl (fun ls hl => ?_)
            refine lv_goto (tgt := 17) hx hb dX11_match_120 (by decide) ?_
            exact ih17 (i + 1) r T _ _ _ (by omega) (by omega) (by rw [rMt]; simp only [if_pos c1, if_neg (not_not_intro c1), decide_eq_true c1, if_neg c2, if_pos c2, decide_eq_false c2, if_pos c3, if_neg (not_not_intro c3), decide_eq_true c3, if_true, if_false, eq_self, Bool.false_eq_true, not_true_eq_false, not_false_eq_true, decide_true, decide_false, Bool.and_true, Bool.true_and, Bool.and_false, Bool.false_and, Bool.not_true, Bool.not_false, Bool.or_true, Bool.true_or, Bool.or_false, Bool.false_or, reduceIte, b2i_t, b2i_f]; exact hT) (by rw [rMt]; simp only [if_pos c1, if_neg (not_not_intro c1), decide_eq_true c1, if_neg c2, if_pos c2, decide_eq_false c2, if_pos c3, if_neg (not_not_intro c3), decide_eq_true c3, if_true, if_false, eq_self, Bool.false_eq_true, not_true_eq_false, not_false_eq_true, decide_true, decide_false, Bool.and_true, Bool.true_and, Bool.and_false, Bool.false_and, Bool.not_true, Bool.not_false, Bool.or_true, Bool.true_or, Bool.or_false, Bool.false_or, reduceIte, b2i_t, b2i_f]; exact hk9) hw (lv_sub hl [1, 0, 2] rfl)
  exact lp17 _ 0 0 S3 _ _ _ (Nat.lt_succ_self _) (Nat.zero_le _) rfl rfl hw (lv_sub hl [2, 0, 1] rfl)
