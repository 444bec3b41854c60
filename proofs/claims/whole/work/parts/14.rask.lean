/-! the reference: what it answers, when asked rightly and when not -/

set_option maxRecDepth 100000 in
set_option maxHeartbeats 1000000 in
theorem ct_X11_amount (l : Launch) (D : va_G) (cA : Nat → ClassId) (α : Nat → Nat) (n sz : Nat) (hn : 191 ≤ n) (S : Mem) (N : Nat) (hN : S.1 34 0 = nI N) (hN2 : N ≤ 100) (i : Nat) (hi : i < N) : CtL l yX11_amount wsX11_amount ({ frames := 2, cells := 0, slots := 0, locals := 46 }) D cA α n sz [.ref (α 30), .int (nI i)] S (S.2 35 (9 + i)) (setI S 30 0 (nI 0)) := by
  refine ct_enter cX11_amount 2 (some .long) (by decide) rfl (Nat.le_of_ble_eq_true rfl) ?_
  intro p e s m below meth c hx hb hr hml hlocks hown hts hK hsz hw ls hl
  have hown : s.vm.findClass RX11 = some m.cls := hown
  have hAw : ∀ z, Aw α n s.heap.size z → Aw α n sz z := by rw [hsz]; exact fun _ h => h
  have hl : lv_has ls 2 [(0, .ref (α 30)), (1, .int (nI i))] := hl
  refine lv_aload_n hx hb dX11_amount_0 rfl (lv_at hl 0 rfl) ?_
  refine lv_aload_n hx hb dX11_amount_1 rfl (lv_at hl 0 rfl) ?_
  refine lv_iload_n hx hb dX11_amount_2 rfl (lv_at hl 1 rfl) ?_
  refine x_callVIr (q := 30) (C := RX11) (As := [.int (nI i)]) (rest := [.ref (α 30)]) ⟨hx, hb, hml, hown, hts⟩ (ct_X11_isItem l D cA α n _ hn S (nI i)) (cwV 1 hts gX11_amount_X11_isItem rfl rfl rfl (by decide +kernel) ⟨Nat.le_of_ble_eq_true rfl, Nat.le_of_ble_eq_true rfl⟩) hK hw hAw (ws_recv hK hw (q := 30) (Nat.lt_of_lt_of_le (Nat.le_of_ble_eq_true rfl : 30 < 191) hn) (mk_30 cA α) rfl) rfl hl.1 rfl (Nat.le_of_ble_eq_true rfl) dX11_amount_3 ⟨Nat.zero_le _, Nat.zero_le _⟩ (fun H locs hw => ?_)
  refine xb_eq (b := (isItR S (nI i))) (tgt := 13) hx hb dX11_amount_6 (by decide) (fun c1 => ?_) (fun c1 => ?_)
  · exact absurd (isIt_t (S := S) (by subst_vars; exact hN) hN2 hi) (by rw [c1]; decide)
  · skip
    refine lv_iconst (v := nI 0) hx hb dX11_amount_9 (by decide) ?_
    refine lv_goto (tgt := 14) hx hb dX11_amount_10 (by decide) ?_
    refine x_putI (x := nI 0) (ty := .int) (C := RX11) (T := TX11) (N := 24) hx hb hts (fun _ h => List.mem_cons_of_mem _ (List.mem_append_right _ h)) tyX11 tyX11_ok nmX11 hown hK hw 30 (Nat.lt_of_lt_of_le (Nat.le_of_ble_eq_true rfl : 30 < 191) hn) (mk_30 cA α) rfl 0 (by decide) (hts _ (List.mem_of_getElem? (i := 1) rfl)) (fun _ h9 => h9) rfl rfl rfl rfl (Nat.le_of_ble_eq_true rfl) rfl dX11_amount_14 (fun S1 eS1 H locs hw => ?_)
    refine lv_aload_n hx hb dX11_amount_17 rfl (lv_at hl 0 rfl) ?_
    refine x_get (v := .int (S1.1 30 0)) (C := RX11) (T := TX11) (N := 24) hx hb hts (fun _ h => List.mem_cons_of_mem _ (List.mem_append_right _ h)) hown hK hw 30 (Nat.lt_of_lt_of_le (Nat.le_of_ble_eq_true rfl : 30 < 191) hn) (mk_30 cA α) rfl 0 (by decide) (hts _ (List.mem_of_getElem? (i := 1) rfl)) (fun _ h9 => h9) rfl dX11_amount_18 ?_
    refine x_topN (k := 0) (by subst_vars; simp [sI_e, upd]) ?_
    refine xn_if_ne (tgt := 36) hx hb (by omega) dX11_amount_21 (by decide) (fun c2 => ?_) (fun c2 => ?_)
    · exact absurd rfl c2
    · skip
      refine lv_aload_n hx hb dX11_amount_24 rfl (lv_at hl 0 rfl) ?_
      refine x_get (v := .ref (α 35)) (C := RX11) (T := TX11) (N := 24) hx hb hts (fun _ h => List.mem_cons_of_mem _ (List.mem_append_right _ h)) hown hK hw 30 (Nat.lt_of_lt_of_le (Nat.le_of_ble_eq_true rfl : 30 < 191) hn) (mk_30 cA α) rfl 14 (by decide) (hts _ (List.mem_of_getElem? (i := 2) rfl)) (fun _ h9 => h9) rfl dX11_amount_25 ?_
      refine lv_bipush (v := nI 9) hx hb dX11_amount_28 (by decide) ?_
      refine lv_iload_n hx hb dX11_amount_30 rfl (lv_at hl 1 rfl) ?_
      refine xn_iadd hx hb dX11_amount_31 ?_
      refine x_lald hx hb hK hw 35 309 (Nat.lt_of_lt_of_le (Nat.le_of_ble_eq_true rfl : 35 < 191) hn) (mk_35 cA α) (9 + i) rfl (by omega) (by decide) dX11_amount_32 ?_
      refine lv_goto (tgt := 37) hx hb dX11_amount_33 (by decide) ?_
      exact ret_l hx hb hr hlocks hK hw dX11_amount_37 (by subst_vars; rfl) (by first | (subst_vars; rfl) | (subst_vars; simp only [eq_self, c1, if_pos c2, if_neg (not_not_intro c2), decide_eq_true c2, if_true, if_false, eq_self, Bool.false_eq_true, not_true_eq_false, not_false_eq_true, decide_true, decide_false, Bool.and_true, Bool.true_and, Bool.and_false, Bool.false_and, Bool.not_true, Bool.not_false, Bool.or_true, Bool.true_or, Bool.or_false, Bool.false_or, reduceIte, b2i_t, b2i_f]; done) | (subst_vars; simp [eq_self, c1, if_pos c2, if_neg (not_not_intro c2), decide_eq_true c2]; done))

set_option maxRecDepth 100000 in
set_option maxHeartbeats 1000000 in
theorem ct_X11_amountX (l : Launch) (D : va_G) (cA : Nat → ClassId) (α : Nat → Nat) (n sz : Nat) (hn : 191 ≤ n) (S : Mem) (N : Nat) (hN : S.1 34 0 = nI N) (hN2 : N ≤ 100) (x : Int32) (hx9 : ¬ ∃ i, i < N ∧ x = nI i) : CtL l yX11_amount wsX11_amount ({ frames := 2, cells := 0, slots := 0, locals := 46 }) D cA α n sz [.ref (α 30), .int x] S 0 (setI S 30 0 (nI 1)) := by
  refine ct_enter cX11_amount 2 (some .long) (by decide) rfl (Nat.le_of_ble_eq_true rfl) ?_
  intro p e s m below meth c hx hb hr hml hlocks hown hts hK hsz hw ls hl
  have hown : s.vm.findClass RX11 = some m.cls := hown
  have hAw : ∀ z, Aw α n s.heap.size z → Aw α n sz z := by rw [hsz]; exact fun _ h => h
  have hl : lv_has ls 2 [(0, .ref (α 30)), (1, .int x)] := hl
  refine lv_aload_n hx hb dX11_amount_0 rfl (lv_at hl 0 rfl) ?_
  refine lv_aload_n hx hb dX11_amount_1 rfl (lv_at hl 0 rfl) ?_
  refine lv_iload_n hx hb dX11_amount_2 rfl (lv_at hl 1 rfl) ?_
  refine x_callVIr (q := 30) (C := RX11) (As := [.int x]) (rest := [.ref (α 30)]) ⟨hx, hb, hml, hown, hts⟩ (ct_X11_isItem l D cA α n _ hn S x) (cwV 1 hts gX11_amount_X11_isItem rfl rfl rfl (by decide +kernel) ⟨Nat.le_of_ble_eq_true rfl, Nat.le_of_ble_eq_true rfl⟩) hK hw hAw (ws_recv hK hw (q := 30) (Nat.lt_of_lt_of_le (Nat.le_of_ble_eq_true rfl : 30 < 191) hn) (mk_30 cA α) rfl) rfl hl.1 rfl (Nat.le_of_ble_eq_true rfl) dX11_amount_3 ⟨Nat.zero_le _, Nat.zero_le _⟩ (fun H locs hw => ?_)
  refine xb_eq (b := (isItR S x)) (tgt := 13) hx hb dX11_amount_6 (by decide) (fun c1 => ?_) (fun c1 => ?_)
  · skip
    refine lv_iconst (v := nI 1) hx hb dX11_amount_13 (by decide) ?_
    refine x_putI (x := nI 1) (ty := .int) (C := RX11) (T := TX11) (N := 24) hx hb hts (fun _ h => List.mem_cons_of_mem _ (List.mem_append_right _ h)) tyX11 tyX11_ok nmX11 hown hK hw 30 (Nat.lt_of_lt_of_le (Nat.le_of_ble_eq_true rfl : 30 < 191) hn) (mk_30 cA α) rfl 0 (by decide) (hts _ (List.mem_of_getElem? (i := 1) rfl)) (fun _ h9 => h9) rfl rfl rfl rfl (Nat.le_of_ble_eq_true rfl) rfl dX11_amount_14 (fun S1 eS1 H locs hw => ?_)
    refine lv_aload_n hx hb dX11_amount_17 rfl (lv_at hl 0 rfl) ?_
    refine x_get (v := .int (S1.1 30 0)) (C := RX11) (T := TX11) (N := 24) hx hb hts (fun _ h => List.mem_cons_of_mem _ (List.mem_append_right _ h)) hown hK hw 30 (Nat.lt_of_lt_of_le (Nat.le_of_ble_eq_true rfl : 30 < 191) hn) (mk_30 cA α) rfl 0 (by decide) (hts _ (List.mem_of_getElem? (i := 1) rfl)) (fun _ h9 => h9) rfl dX11_amount_18 ?_
    refine x_topN (k := 1) (by subst_vars; simp [sI_e, upd]) ?_
    refine xn_if_ne (tgt := 36) hx hb (by omega) dX11_amount_21 (by decide) (fun c2 => ?_) (fun c2 => ?_)
    · skip
      refine lv_lconst (v := 0) hx hb dX11_amount_36 (by decide) ?_
      exact ret_l hx hb hr hlocks hK hw dX11_amount_37 rfl (by first | (subst_vars; rfl) | (subst_vars; simp only [eq_self, c1, if_neg c2, if_pos c2, decide_eq_false c2, if_true, if_false, eq_self, Bool.false_eq_true, not_true_eq_false, not_false_eq_true, decide_true, decide_false, Bool.and_true, Bool.true_and, Bool.and_false, Bool.false_and, Bool.not_true, Bool.not_false, Bool.or_true, Bool.true_or, Bool.or_false, Bool.false_or, reduceIte, b2i_t, b2i_f]; done) | (subst_vars; simp [eq_self, c1, if_neg c2, if_pos c2, decide_eq_false c2]; done))
    · exact absurd c2 (by decide)
  · exact absurd (isIt_f (S := S) (by subst_vars; exact hN) hN2 hx9) (by rw [c1]; decide)

set_option maxRecDepth 100000 in
set_option maxHeartbeats 1000000 in
theorem ct_X11_value (l : Launch) (D : va_G) (cA : Nat → ClassId) (α : Nat → Nat) (n sz : Nat) (hn : 191 ≤ n) (S : Mem) (N : Nat) (hN : S.1 34 0 = nI N) (hN2 : N ≤ 100) (i : Nat) (hi : i < N) (ho : okR S i) : CtL l yX11_value wsX11_value ({ frames := 3, cells := 0, slots := 0, locals := 64 }) D cA α n sz [.ref (α 30), .int (nI i)] S (rVal S i) (setI S 30 0 (nI 0)) := by
  refine ct_enter cX11_value 2 (some .long) (by decide) rfl (Nat.le_of_ble_eq_true rfl) ?_
  intro p e s m below meth c hx hb hr hml hlocks hown hts hK hsz hw ls hl
  have hown : s.vm.findClass RX11 = some m.cls := hown
  have hAw : ∀ z, Aw α n s.heap.size z → Aw α n sz z := by rw [hsz]; exact fun _ h => h
  have hl : lv_has ls 2 [(0, .ref (α 30)), (1, .int (nI i))] := hl
  refine lv_aload_n hx hb dX11_value_0 rfl (lv_at hl 0 rfl) ?_
  refine lv_aload_n hx hb dX11_value_1 rfl (lv_at hl 0 rfl) ?_
  refine lv_iload_n hx hb dX11_value_2 rfl (lv_at hl 1 rfl) ?_
  refine x_callVIr (q := 30) (C := RX11) (As := [.int (nI i)]) (rest := [.ref (α 30)]) ⟨hx, hb, hml, hown, hts⟩ (ct_X11_isItem l D cA α n _ hn S (nI i)) (cwV 1 hts gX11_value_X11_isItem rfl rfl rfl (by decide +kernel) ⟨Nat.le_of_ble_eq_true rfl, Nat.le_of_ble_eq_true rfl⟩) hK hw hAw (ws_recv hK hw (q := 30) (Nat.lt_of_lt_of_le (Nat.le_of_ble_eq_true rfl : 30 < 191) hn) (mk_30 cA α) rfl) rfl hl.1 rfl (Nat.le_of_ble_eq_true rfl) dX11_value_3 ⟨Nat.zero_le _, Nat.zero_le _⟩ (fun H locs hw => ?_)
  refine xb_eq (b := (isItR S (nI i))) (tgt := 13) hx hb dX11_value_6 (by decide) (fun c1 => ?_) (fun c1 => ?_)
  · exact absurd (isIt_t (S := S) (by subst_vars; exact hN) hN2 hi) (by rw [c1]; decide)
  · skip
    refine lv_iconst (v := nI 0) hx hb dX11_value_9 (by decide) ?_
    refine lv_goto (tgt := 14) hx hb dX11_value_10 (by decide) ?_
    refine x_putI (x := nI 0) (ty := .int) (C := RX11) (T := TX11) (N := 24) hx hb hts (fun _ h => List.mem_cons_of_mem _ (List.mem_append_right _ h)) tyX11 tyX11_ok nmX11 hown hK hw 30 (Nat.lt_of_lt_of_le (Nat.le_of_ble_eq_true rfl : 30 < 191) hn) (mk_30 cA α) rfl 0 (by decide) (hts _ (List.mem_of_getElem? (i := 1) rfl)) (fun _ h9 => h9) rfl rfl rfl rfl (Nat.le_of_ble_eq_true rfl) rfl dX11_value_14 (fun S1 eS1 H locs hw => ?_)
    refine lv_aload_n hx hb dX11_value_17 rfl (lv_at hl 0 rfl) ?_
    refine x_get (v := .int (S1.1 30 0)) (C := RX11) (T := TX11) (N := 24) hx hb hts (fun _ h => List.mem_cons_of_mem _ (List.mem_append_right _ h)) hown hK hw 30 (Nat.lt_of_lt_of_le (Nat.le_of_ble_eq_true rfl : 30 < 191) hn) (mk_30 cA α) rfl 0 (by decide) (hts _ (List.mem_of_getElem? (i := 1) rfl)) (fun _ h9 => h9) rfl dX11_value_18 ?_
    refine x_topN (k := 0) (by subst_vars; simp [sI_e, upd]) ?_
    refine xn_if_ne (tgt := 32) hx hb (by omega) dX11_value_21 (by decide) (fun c2 => ?_) (fun c2 => ?_)
    · exact absurd rfl c2
    · skip
      refine lv_aload_n hx hb dX11_value_24 rfl (lv_at hl 0 rfl) ?_
      refine lv_iload_n hx hb dX11_value_25 rfl (lv_at hl 1 rfl) ?_
      refine x_callVLr (q := 30) (C := RX11) (As := [.int (nI i)]) (rest := []) ⟨hx, hb, hml, hown, hts⟩ (ct_X11_valueOf l D cA α n _ hn S1 i (by subst_vars; exact ho)) (cwV 1 hts gX11_value_X11_valueOf rfl rfl rfl (by decide +kernel) ⟨Nat.le_of_ble_eq_true rfl, Nat.le_of_ble_eq_true rfl⟩) hK hw hAw (ws_recv hK hw (q := 30) (Nat.lt_of_lt_of_le (Nat.le_of_ble_eq_true rfl : 30 < 191) hn) (mk_30 cA α) rfl) rfl hl.1 rfl (Nat.le_of_ble_eq_true rfl) dX11_value_26 ⟨Nat.zero_le _, Nat.zero_le _⟩ (fun H locs hw => ?_)
      refine lv_goto (tgt := 33) hx hb dX11_value_29 (by decide) ?_
      exact ret_l hx hb hr hlocks hK hw dX11_value_33 (by subst_vars; rfl) (by first | (subst_vars; rfl) | (subst_vars; simp only [eq_self, c1, if_pos c2, if_neg (not_not_intro c2), decide_eq_true c2, if_true, if_false, eq_self, Bool.false_eq_true, not_true_eq_false, not_false_eq_true, decide_true, decide_false, Bool.and_true, Bool.true_and, Bool.and_false, Bool.false_and, Bool.not_true, Bool.not_false, Bool.or_true, Bool.true_or, Bool.or_false, Bool.false_or, reduceIte, b2i_t, b2i_f]; done) | (subst_vars; simp [eq_self, c1, if_pos c2, if_neg (not_not_intro c2), decide_eq_true c2]; done))

set_option maxRecDepth 100000 in
set_option maxHeartbeats 1000000 in
theorem ct_X11_valueX (l : Launch) (D : va_G) (cA : Nat → ClassId) (α : Nat → Nat) (n sz : Nat) (hn : 191 ≤ n) (S : Mem) (N : Nat) (hN : S.1 34 0 = nI N) (hN2 : N ≤ 100) (x : Int32) (hx9 : ¬ ∃ i, i < N ∧ x = nI i) : CtL l yX11_value wsX11_value ({ frames := 3, cells := 0, slots := 0, locals := 64 }) D cA α n sz [.ref (α 30), .int x] S 0 (setI S 30 0 (nI 1)) := by
  refine ct_enter cX11_value 2 (some .long) (by decide) rfl (Nat.le_of_ble_eq_true rfl) ?_
  intro p e s m below meth c hx hb hr hml hlocks hown hts hK hsz hw ls hl
  have hown : s.vm.findClass RX11 = some m.cls := hown
  have hAw : ∀ z, Aw α n s.heap.size z → Aw α n sz z := by rw [hsz]; exact fun _ h => h
  have hl : lv_has ls 2 [(0, .ref (α 30)), (1, .int x)] := hl
  refine lv_aload_n hx hb dX11_value_0 rfl (lv_at hl 0 rfl) ?_
  refine lv_aload_n hx hb dX11_value_1 rfl (lv_at hl 0 rfl) ?_
  refine lv_iload_n hx hb dX11_value_2 rfl (lv_at hl 1 rfl) ?_
  refine x_callVIr (q := 30) (C := RX11) (As := [.int x]) (rest := [.ref (α 30)]) ⟨hx, hb, hml, hown, hts⟩ (ct_X11_isItem l D cA α n _ hn S x) (cwV 1 hts gX11_value_X11_isItem rfl rfl rfl (by decide +kernel) ⟨Nat.le_of_ble_eq_true rfl, Nat.le_of_ble_eq_true rfl⟩) hK hw hAw (ws_recv hK hw (q := 30) (Nat.lt_of_lt_of_le (Nat.le_of_ble_eq_true rfl : 30 < 191) hn) (mk_30 cA α) rfl) rfl hl.1 rfl (Nat.le_of_ble_eq_true rfl) dX11_value_3 ⟨Nat.zero_le _, Nat.zero_le _⟩ (fun H locs hw => ?_)
  refine xb_eq (b := (isItR S x)) (tgt := 13) hx hb dX11_value_6 (by decide) (fun c1 => ?_) (fun c1 => ?_)
  · skip
    refine lv_iconst (v := nI 1) hx hb dX11_value_13 (by decide) ?_
    refine x_putI (x := nI 1) (ty := .int) (C := RX11) (T := TX11) (N := 24) hx hb hts (fun _ h => List.mem_cons_of_mem _ (List.mem_append_right _ h)) tyX11 tyX11_ok nmX11 hown hK hw 30 (Nat.lt_of_lt_of_le (Nat.le_of_ble_eq_true rfl : 30 < 191) hn) (mk_30 cA α) rfl 0 (by decide) (hts _ (List.mem_of_getElem? (i := 1) rfl)) (fun _ h9 => h9) rfl rfl rfl rfl (Nat.le_of_ble_eq_true rfl) rfl dX11_value_14 (fun S1 eS1 H locs hw => ?_)
    refine lv_aload_n hx hb dX11_value_17 rfl (lv_at hl 0 rfl) ?_
    refine x_get (v := .int (S1.1 30 0)) (C := RX11) (T := TX11) (N := 24) hx hb hts (fun _ h => List.mem_cons_of_mem _ (List.mem_append_right _ h)) hown hK hw 30 (Nat.lt_of_lt_of_le (Nat.le_of_ble_eq_true rfl : 30 < 191) hn) (mk_30 cA α) rfl 0 (by decide) (hts _ (List.mem_of_getElem? (i := 1) rfl)) (fun _ h9 => h9) rfl dX11_value_18 ?_
    refine x_topN (k := 1) (by subst_vars; simp [sI_e, upd]) ?_
    refine xn_if_ne (tgt := 32) hx hb (by omega) dX11_value_21 (by decide) (fun c2 => ?_) (fun c2 => ?_)
    · skip
      refine lv_lconst (v := 0) hx hb dX11_value_32 (by decide) ?_
      exact ret_l hx hb hr hlocks hK hw dX11_value_33 rfl (by first | (subst_vars; rfl) | (subst_vars; simp only [eq_self, c1, if_neg c2, if_pos c2, decide_eq_false c2, if_true, if_false, eq_self, Bool.false_eq_true, not_true_eq_false, not_false_eq_true, decide_true, decide_false, Bool.and_true, Bool.true_and, Bool.and_false, Bool.false_and, Bool.not_true, Bool.not_false, Bool.or_true, Bool.true_or, Bool.or_false, Bool.false_or, reduceIte, b2i_t, b2i_f]; done) | (subst_vars; simp [eq_self, c1, if_neg c2, if_pos c2, decide_eq_false c2]; done))
    · exact absurd c2 (by decide)
  · exact absurd (isIt_f (S := S) (by subst_vars; exact hN) hN2 hx9) (by rw [c1]; decide)

def rCd (S : Mem) (i : Nat) : Int64 := if ¬ S.1 34 (8 + 6 * i + 4) = nI 4 then rVal S i - S.2 35 (109 + i) else 0

set_option maxRecDepth 100000 in
set_option maxHeartbeats 1000000 in
theorem ct_X11_currencyDifference (l : Launch) (D : va_G) (cA : Nat → ClassId) (α : Nat → Nat) (n sz : Nat) (hn : 191 ≤ n) (S : Mem) (N : Nat) (hN : S.1 34 0 = nI N) (hN2 : N ≤ 100) (i : Nat) (hi : i < N) (ho : okR S i) : CtL l yX11_currencyDifference wsX11_currencyDifference ({ frames := 3, cells := 0, slots := 0, locals := 64 }) D cA α n sz [.ref (α 30), .int (nI i)] S (rCd S i) (setI S 30 0 (nI 0)) := by
  refine ct_enter cX11_currencyDifference 2 (some .long) (by decide) rfl (Nat.le_of_ble_eq_true rfl) ?_
  intro p e s m below meth c hx hb hr hml hlocks hown hts hK hsz hw ls hl
  have hown : s.vm.findClass RX11 = some m.cls := hown
  have hAw : ∀ z, Aw α n s.heap.size z → Aw α n sz z := by rw [hsz]; exact fun _ h => h
  have hl : lv_has ls 2 [(0, .ref (α 30)), (1, .int (nI i))] := hl
  refine lv_aload_n hx hb dX11_currencyDifference_0 rfl (lv_at hl 0 rfl) ?_
  refine lv_aload_n hx hb dX11_currencyDifference_1 rfl (lv_at hl 0 rfl) ?_
  refine lv_iload_n hx hb dX11_currencyDifference_2 rfl (lv_at hl 1 rfl) ?_
  refine x_callVIr (q := 30) (C := RX11) (As := [.int (nI i)]) (rest := [.ref (α 30)]) ⟨hx, hb, hml, hown, hts⟩ (ct_X11_isItem l D cA α n _ hn S (nI i)) (cwV 1 hts gX11_currencyDifference_X11_isItem rfl rfl rfl (by decide +kernel) ⟨Nat.le_of_ble_eq_true rfl, Nat.le_of_ble_eq_true rfl⟩) hK hw hAw (ws_recv hK hw (q := 30) (Nat.lt_of_lt_of_le (Nat.le_of_ble_eq_true rfl : 30 < 191) hn) (mk_30 cA α) rfl) rfl hl.1 rfl (Nat.le_of_ble_eq_true rfl) dX11_currencyDifference_3 ⟨Nat.zero_le _, Nat.zero_le _⟩ (fun H locs hw => ?_)
  refine xb_eq (b := (isItR S (nI i))) (tgt := 13) hx hb dX11_currencyDifference_6 (by decide) (fun c1 => ?_) (fun c1 => ?_)
  · exact absurd (isIt_t (S := S) (by subst_vars; exact hN) hN2 hi) (by rw [c1]; decide)
  · skip
    refine lv_iconst (v := nI 0) hx hb dX11_currencyDifference_9 (by decide) ?_
    refine lv_goto (tgt := 14) hx hb dX11_currencyDifference_10 (by decide) ?_
    refine x_putI (x := nI 0) (ty := .int) (C := RX11) (T := TX11) (N := 24) hx hb hts (fun _ h => List.mem_cons_of_mem _ (List.mem_append_right _ h)) tyX11 tyX11_ok nmX11 hown hK hw 30 (Nat.lt_of_lt_of_le (Nat.le_of_ble_eq_true rfl : 30 < 191) hn) (mk_30 cA α) rfl 0 (by decide) (hts _ (List.mem_of_getElem? (i := 1) rfl)) (fun _ h9 => h9) rfl rfl rfl rfl (Nat.le_of_ble_eq_true rfl) rfl dX11_currencyDifference_14 (fun S1 eS1 H locs hw => ?_)
    refine lv_aload_n hx hb dX11_currencyDifference_17 rfl (lv_at hl 0 rfl) ?_
    refine x_get (v := .int (S1.1 30 0)) (C := RX11) (T := TX11) (N := 24) hx hb hts (fun _ h => List.mem_cons_of_mem _ (List.mem_append_right _ h)) hown hK hw 30 (Nat.lt_of_lt_of_le (Nat.le_of_ble_eq_true rfl : 30 < 191) hn) (mk_30 cA α) rfl 0 (by decide) (hts _ (List.mem_of_getElem? (i := 1) rfl)) (fun _ h9 => h9) rfl dX11_currencyDifference_18 ?_
    refine x_topN (k := 0) (by subst_vars; simp [sI_e, upd]) ?_
    refine lv_iconst (v := nI 1) hx hb dX11_currencyDifference_21 (by decide) ?_
    refine xn_icmp_eq (tgt := 35) hx hb (by decide) (by decide) dX11_currencyDifference_22 (by decide) (fun c2 => ?_) (fun c2 => ?_)
    · exact absurd c2 (by decide)
    · skip
      refine lv_aload_n hx hb dX11_currencyDifference_25 rfl (lv_at hl 0 rfl) ?_
      refine lv_iload_n hx hb dX11_currencyDifference_26 rfl (lv_at hl 1 rfl) ?_
      refine lv_iconst (v := nI 4) hx hb dX11_currencyDifference_27 (by decide) ?_
      refine x_callVIr (q := 30) (C := RX11) (As := [.int (nI i), .int (nI 4)]) (rest := []) ⟨hx, hb, hml, hown, hts⟩ (ct_X11_of l D cA α n _ hn S1 i 4 (by omega)) (cwV 2 hts gX11_currencyDifference_X11_of rfl rfl rfl (by decide +kernel) ⟨Nat.le_of_ble_eq_true rfl, Nat.le_of_ble_eq_true rfl⟩) hK hw hAw (ws_recv hK hw (q := 30) (Nat.lt_of_lt_of_le (Nat.le_of_ble_eq_true rfl : 30 < 191) hn) (mk_30 cA α) rfl) rfl hl.1 rfl (Nat.le_of_ble_eq_true rfl) dX11_currencyDifference_28 ⟨Nat.zero_le _, Nat.zero_le _⟩ (fun H locs hw => ?_)
      refine x_topE (y := S.1 34 (8 + 6 * i + 4)) (by subst_vars; rfl) ?_
      refine lv_iconst (v := nI 4) hx hb dX11_currencyDifference_31 (by decide) ?_
      refine lv_icmp_ne (tgt := 39) hx hb dX11_currencyDifference_32 (by decide) (fun c3 => ?_) (fun c3 => ?_)
      · skip
        refine lv_aload_n hx hb dX11_currencyDifference_39 rfl (lv_at hl 0 rfl) ?_
        refine lv_iload_n hx hb dX11_currencyDifference_40 rfl (lv_at hl 1 rfl) ?_
        refine x_callVLr (q := 30) (C := RX11) (As := [.int (nI i)]) (rest := []) ⟨hx, hb, hml, hown, hts⟩ (ct_X11_valueOf l D cA α n _ hn S1 i (by subst_vars; exact ho)) (cwV 1 hts gX11_currencyDifference_X11_valueOf rfl rfl rfl (by decide +kernel) ⟨Nat.le_of_ble_eq_true rfl, Nat.le_of_ble_eq_true rfl⟩) hK hw hAw (ws_recv hK hw (q := 30) (Nat.lt_of_lt_of_le (Nat.le_of_ble_eq_true rfl : 30 < 191) hn) (mk_30 cA α) rfl) rfl hl.1 rfl (Nat.le_of_ble_eq_true rfl) dX11_currencyDifference_41 ⟨Nat.zero_le _, Nat.zero_le _⟩ (fun H locs hw => ?_)
        refine lv_aload_n hx hb dX11_currencyDifference_44 rfl (lv_at hl 0 rfl) ?_
        refine x_get (v := .ref (α 35)) (C := RX11) (T := TX11) (N := 24) hx hb hts (fun _ h => List.mem_cons_of_mem _ (List.mem_append_right _ h)) hown hK hw 30 (Nat.lt_of_lt_of_le (Nat.le_of_ble_eq_true rfl : 30 < 191) hn) (mk_30 cA α) rfl 14 (by decide) (hts _ (List.mem_of_getElem? (i := 2) rfl)) (fun _ h9 => h9) rfl dX11_currencyDifference_45 ?_
        refine lv_bipush (v := nI 109) hx hb dX11_currencyDifference_48 (by decide) ?_
        refine lv_iload_n hx hb dX11_currencyDifference_50 rfl (lv_at hl 1 rfl) ?_
        refine xn_iadd hx hb dX11_currencyDifference_51 ?_
        refine x_lald hx hb hK hw 35 309 (Nat.lt_of_lt_of_le (Nat.le_of_ble_eq_true rfl : 35 < 191) hn) (mk_35 cA α) (109 + i) rfl (by omega) (by decide) dX11_currencyDifference_52 ?_
        refine lv_lsub hx hb dX11_currencyDifference_53 ?_
        exact ret_l hx hb hr hlocks hK hw dX11_currencyDifference_54 (by subst_vars; unfold rCd; first | (rw [if_pos c3]; rfl) | (rw [if_neg (not_not_intro c3)])) (by first | (subst_vars; rfl) | (subst_vars; simp only [eq_self, c1, if_neg c2, if_pos c2, decide_eq_false c2, if_neg c3, if_pos c3, decide_eq_false c3, if_true, if_false, eq_self, Bool.false_eq_true, not_true_eq_false, not_false_eq_true, decide_true, decide_false, Bool.and_true, Bool.true_and, Bool.and_false, Bool.false_and, Bool.not_true, Bool.not_false, Bool.or_true, Bool.true_or, Bool.or_false, Bool.false_or, reduceIte, b2i_t, b2i_f]; done) | (subst_vars; simp [eq_self, c1, if_neg c2, if_pos c2, decide_eq_false c2, if_neg c3, if_pos c3, decide_eq_false c3]; done))
      · skip
        refine lv_lconst (v := 0) hx hb dX11_currencyDifference_35 (by decide) ?_
        refine lv_goto (tgt := 54) hx hb dX11_currencyDifference_36 (by decide) ?_
        exact ret_l hx hb hr hlocks hK hw dX11_currencyDifference_54 (by subst_vars; unfold rCd; first | (rw [if_pos c3]; rfl) | (rw [if_neg (not_not_intro c3)])) (by first | (subst_vars; rfl) | (subst_vars; simp only [eq_self, c1, if_neg c2, if_pos c2, decide_eq_false c2, if_pos c3, if_neg (not_not_intro c3), decide_eq_true c3, if_true, if_false, eq_self, Bool.false_eq_true, not_true_eq_false, not_false_eq_true, decide_true, decide_false, Bool.and_true, Bool.true_and, Bool.and_false, Bool.false_and, Bool.not_true, Bool.not_false, Bool.or_true, Bool.true_or, Bool.or_false, Bool.false_or, reduceIte, b2i_t, b2i_f]; done) | (subst_vars; simp [eq_self, c1, if_neg c2, if_pos c2, decide_eq_false c2, if_pos c3, if_neg (not_not_intro c3), decide_eq_true c3]; done))

set_option maxRecDepth 100000 in
set_option maxHeartbeats 1000000 in
theorem ct_X11_currencyDifferenceX (l : Launch) (D : va_G) (cA : Nat → ClassId) (α : Nat → Nat) (n sz : Nat) (hn : 191 ≤ n) (S : Mem) (N : Nat) (hN : S.1 34 0 = nI N) (hN2 : N ≤ 100) (x : Int32) (hx9 : ¬ ∃ i, i < N ∧ x = nI i) : CtL l yX11_currencyDifference wsX11_currencyDifference ({ frames := 3, cells := 0, slots := 0, locals := 64 }) D cA α n sz [.ref (α 30), .int x] S 0 (setI S 30 0 (nI 1)) := by
  refine ct_enter cX11_currencyDifference 2 (some .long) (by decide) rfl (Nat.le_of_ble_eq_true rfl) ?_
  intro p e s m below meth c hx hb hr hml hlocks hown hts hK hsz hw ls hl
  have hown : s.vm.findClass RX11 = some m.cls := hown
  have hAw : ∀ z, Aw α n s.heap.size z → Aw α n sz z := by rw [hsz]; exact fun _ h => h
  have hl : lv_has ls 2 [(0, .ref (α 30)), (1, .int x)] := hl
  refine lv_aload_n hx hb dX11_currencyDifference_0 rfl (lv_at hl 0 rfl) ?_
  refine lv_aload_n hx hb dX11_currencyDifference_1 rfl (lv_at hl 0 rfl) ?_
  refine lv_iload_n hx hb dX11_currencyDifference_2 rfl (lv_at hl 1 rfl) ?_
  refine x_callVIr (q := 30) (C := RX11) (As := [.int x]) (rest := [.ref (α 30)]) ⟨hx, hb, hml, hown, hts⟩ (ct_X11_isItem l D cA α n _ hn S x) (cwV 1 hts gX11_currencyDifference_X11_isItem rfl rfl rfl (by decide +kernel) ⟨Nat.le_of_ble_eq_true rfl, Nat.le_of_ble_eq_true rfl⟩) hK hw hAw (ws_recv hK hw (q := 30) (Nat.lt_of_lt_of_le (Nat.le_of_ble_eq_true rfl : 30 < 191) hn) (mk_30 cA α) rfl) rfl hl.1 rfl (Nat.le_of_ble_eq_true rfl) dX11_currencyDifference_3 ⟨Nat.zero_le _, Nat.zero_le _⟩ (fun H locs hw => ?_)
  refine xb_eq (b := (isItR S x)) (tgt := 13) hx hb dX11_currencyDifference_6 (by decide) (fun c1 => ?_) (fun c1 => ?_)
  · skip
    refine lv_iconst (v := nI 1) hx hb dX11_currencyDifference_13 (by decide) ?_
    refine x_putI (x := nI 1) (ty := .int) (C := RX11) (T := TX11) (N := 24) hx hb hts (fun _ h => List.mem_cons_of_mem _ (List.mem_append_right _ h)) tyX11 tyX11_ok nmX11 hown hK hw 30 (Nat.lt_of_lt_of_le (Nat.le_of_ble_eq_true rfl : 30 < 191) hn) (mk_30 cA α) rfl 0 (by decide) (hts _ (List.mem_of_getElem? (i := 1) rfl)) (fun _ h9 => h9) rfl rfl rfl rfl (Nat.le_of_ble_eq_true rfl) rfl dX11_currencyDifference_14 (fun S1 eS1 H locs hw => ?_)
    refine lv_aload_n hx hb dX11_currencyDifference_17 rfl (lv_at hl 0 rfl) ?_
    refine x_get (v := .int (S1.1 30 0)) (C := RX11) (T := TX11) (N := 24) hx hb hts (fun _ h => List.mem_cons_of_mem _ (List.mem_append_right _ h)) hown hK hw 30 (Nat.lt_of_lt_of_le (Nat.le_of_ble_eq_true rfl : 30 < 191) hn) (mk_30 cA α) rfl 0 (by decide) (hts _ (List.mem_of_getElem? (i := 1) rfl)) (fun _ h9 => h9) rfl dX11_currencyDifference_18 ?_
    refine x_topN (k := 1) (by subst_vars; simp [sI_e, upd]) ?_
    refine lv_iconst (v := nI 1) hx hb dX11_currencyDifference_21 (by decide) ?_
    refine xn_icmp_eq (tgt := 35) hx hb (by decide) (by decide) dX11_currencyDifference_22 (by decide) (fun c2 => ?_) (fun c2 => ?_)
    · skip
      refine lv_lconst (v := 0) hx hb dX11_currencyDifference_35 (by decide) ?_
      refine lv_goto (tgt := 54) hx hb dX11_currencyDifference_36 (by decide) ?_
      exact ret_l hx hb hr hlocks hK hw dX11_currencyDifference_54 rfl (by first | (subst_vars; rfl) | (subst_vars; simp only [eq_self, c1, if_pos c2, if_neg (not_not_intro c2), decide_eq_true c2, if_true, if_false, eq_self, Bool.false_eq_true, not_true_eq_false, not_false_eq_true, decide_true, decide_false, Bool.and_true, Bool.true_and, Bool.and_false, Bool.false_and, Bool.not_true, Bool.not_false, Bool.or_true, Bool.true_or, Bool.or_false, Bool.false_or, reduceIte, b2i_t, b2i_f]; done) | (subst_vars; simp [eq_self, c1, if_pos c2, if_neg (not_not_intro c2), decide_eq_true c2]; done))
    · exact absurd rfl c2
  · exact absurd (isIt_f (S := S) (by subst_vars; exact hN) hN2 hx9) (by rw [c1]; decide)

set_option maxRecDepth 100000 in
set_option maxHeartbeats 1000000 in
theorem ct_X11_position (l : Launch) (D : va_G) (cA : Nat → ClassId) (α : Nat → Nat) (n sz : Nat) (hn : 191 ≤ n) (S : Mem) (Cn : Nat) (hC : S.1 33 1 = nI Cn) (hC2 : Cn ≤ 6) (i : Nat) (hi : i < Cn) (N : Nat) (hN : S.1 34 0 = nI N) (hN2 : N ≤ 100) (ho : ∀ j, j < N → okR S j) : CtL l yX11_position wsX11_position ({ frames := 4, cells := 0, slots := 0, locals := 88 }) D cA α n sz [.ref (α 30), .int (nI i)] S (sumL (gPos S (nI i)) N) (setI S 30 0 (nI 0)) := by
  refine ct_enter cX11_position 2 (some .long) (by decide) rfl (Nat.le_of_ble_eq_true rfl) ?_
  intro p e s m below meth c hx hb hr hml hlocks hown hts hK hsz hw ls hl
  have hown : s.vm.findClass RX11 = some m.cls := hown
  have hAw : ∀ z, Aw α n s.heap.size z → Aw α n sz z := by rw [hsz]; exact fun _ h => h
  have hl : lv_has ls 2 [(0, .ref (α 30)), (1, .int (nI i))] := hl
  refine lv_aload_n hx hb dX11_position_0 rfl (lv_at hl 0 rfl) ?_
  refine lv_aload_n hx hb dX11_position_1 rfl (lv_at hl 0 rfl) ?_
  refine lv_iload_n hx hb dX11_position_2 rfl (lv_at hl 1 rfl) ?_
  refine x_callVIr (q := 30) (C := RX11) (As := [.int (nI i)]) (rest := [.ref (α 30)]) ⟨hx, hb, hml, hown, hts⟩ (ct_X11_isCompany l D cA α n _ hn S (nI i)) (cwV 1 hts gX11_position_X11_isCompany rfl rfl rfl (by decide +kernel) ⟨Nat.le_of_ble_eq_true rfl, Nat.le_of_ble_eq_true rfl⟩) hK hw hAw (ws_recv hK hw (q := 30) (Nat.lt_of_lt_of_le (Nat.le_of_ble_eq_true rfl : 30 < 191) hn) (mk_30 cA α) rfl) rfl hl.1 rfl (Nat.le_of_ble_eq_true rfl) dX11_position_3 ⟨Nat.zero_le _, Nat.zero_le _⟩ (fun H locs hw => ?_)
  refine xb_eq (b := (isCoR S (nI i))) (tgt := 13) hx hb dX11_position_6 (by decide) (fun c1 => ?_) (fun c1 => ?_)
  · exact absurd (isCo_t (S := S) (by subst_vars; exact hC) hC2 hi) (by rw [c1]; decide)
  · skip
    refine lv_iconst (v := nI 0) hx hb dX11_position_9 (by decide) ?_
    refine lv_goto (tgt := 14) hx hb dX11_position_10 (by decide) ?_
    refine x_putI (x := nI 0) (ty := .int) (C := RX11) (T := TX11) (N := 24) hx hb hts (fun _ h => List.mem_cons_of_mem _ (List.mem_append_right _ h)) tyX11 tyX11_ok nmX11 hown hK hw 30 (Nat.lt_of_lt_of_le (Nat.le_of_ble_eq_true rfl : 30 < 191) hn) (mk_30 cA α) rfl 0 (by decide) (hts _ (List.mem_of_getElem? (i := 1) rfl)) (fun _ h9 => h9) rfl rfl rfl rfl (Nat.le_of_ble_eq_true rfl) rfl dX11_position_14 (fun S1 eS1 H locs hw => ?_)
    refine lv_aload_n hx hb dX11_position_17 rfl (lv_at hl 0 rfl) ?_
    refine x_get (v := .int (S1.1 30 0)) (C := RX11) (T := TX11) (N := 24) hx hb hts (fun _ h => List.mem_cons_of_mem _ (List.mem_append_right _ h)) hown hK hw 30 (Nat.lt_of_lt_of_le (Nat.le_of_ble_eq_true rfl : 30 < 191) hn) (mk_30 cA α) rfl 0 (by decide) (hts _ (List.mem_of_getElem? (i := 1) rfl)) (fun _ h9 => h9) rfl dX11_position_18 ?_
    refine x_topN (k := 0) (by subst_vars; simp [sI_e, upd]) ?_
    refine xn_if_ne (tgt := 32) hx hb (by omega) dX11_position_21 (by decide) (fun c2 => ?_) (fun c2 => ?_)
    · exact absurd rfl c2
    · skip
      refine lv_aload_n hx hb dX11_position_24 rfl (lv_at hl 0 rfl) ?_
      refine lv_iload_n hx hb dX11_position_25 rfl (lv_at hl 1 rfl) ?_
      refine x_callVLr (q := 30) (C := RX11) (As := [.int (nI i)]) (rest := []) ⟨hx, hb, hml, hown, hts⟩ (ct_X11_positionOf l D cA α n _ hn S1 (nI i) N (by subst_vars; exact hN) hN2 (by subst_vars; exact ho)) (cwV 1 hts gX11_position_X11_positionOf rfl rfl rfl (by decide +kernel) ⟨Nat.le_of_ble_eq_true rfl, Nat.le_of_ble_eq_true rfl⟩) hK hw hAw (ws_recv hK hw (q := 30) (Nat.lt_of_lt_of_le (Nat.le_of_ble_eq_true rfl : 30 < 191) hn) (mk_30 cA α) rfl) rfl hl.1 rfl (Nat.le_of_ble_eq_true rfl) dX11_position_26 ⟨Nat.zero_le _, Nat.zero_le _⟩ (fun H locs hw => ?_)
      refine lv_goto (tgt := 33) hx hb dX11_position_29 (by decide) ?_
      exact ret_l hx hb hr hlocks hK hw dX11_position_33 (by subst_vars; rfl) (by first | (subst_vars; rfl) | (subst_vars; simp only [eq_self, c1, if_pos c2, if_neg (not_not_intro c2), decide_eq_true c2, if_true, if_false, eq_self, Bool.false_eq_true, not_true_eq_false, not_false_eq_true, decide_true, decide_false, Bool.and_true, Bool.true_and, Bool.and_false, Bool.false_and, Bool.not_true, Bool.not_false, Bool.or_true, Bool.true_or, Bool.or_false, Bool.false_or, reduceIte, b2i_t, b2i_f]; done) | (subst_vars; simp [eq_self, c1, if_pos c2, if_neg (not_not_intro c2), decide_eq_true c2]; done))

set_option maxRecDepth 100000 in
set_option maxHeartbeats 1000000 in
theorem ct_X11_positionX (l : Launch) (D : va_G) (cA : Nat → ClassId) (α : Nat → Nat) (n sz : Nat) (hn : 191 ≤ n) (S : Mem) (Cn : Nat) (hC : S.1 33 1 = nI Cn) (hC2 : Cn ≤ 6) (x : Int32) (hx9 : ¬ ∃ i, i < Cn ∧ x = nI i) : CtL l yX11_position wsX11_position ({ frames := 4, cells := 0, slots := 0, locals := 88 }) D cA α n sz [.ref (α 30), .int x] S 0 (setI S 30 0 (nI 1)) := by
  refine ct_enter cX11_position 2 (some .long) (by decide) rfl (Nat.le_of_ble_eq_true rfl) ?_
  intro p e s m below meth c hx hb hr hml hlocks hown hts hK hsz hw ls hl
  have hown : s.vm.findClass RX11 = some m.cls := hown
  have hAw : ∀ z, Aw α n s.heap.size z → Aw α n sz z := by rw [hsz]; exact fun _ h => h
  have hl : lv_has ls 2 [(0, .ref (α 30)), (1, .int x)] := hl
  refine lv_aload_n hx hb dX11_position_0 rfl (lv_at hl 0 rfl) ?_
  refine lv_aload_n hx hb dX11_position_1 rfl (lv_at hl 0 rfl) ?_
  refine lv_iload_n hx hb dX11_position_2 rfl (lv_at hl 1 rfl) ?_
  refine x_callVIr (q := 30) (C := RX11) (As := [.int x]) (rest := [.ref (α 30)]) ⟨hx, hb, hml, hown, hts⟩ (ct_X11_isCompany l D cA α n _ hn S x) (cwV 1 hts gX11_position_X11_isCompany rfl rfl rfl (by decide +kernel) ⟨Nat.le_of_ble_eq_true rfl, Nat.le_of_ble_eq_true rfl⟩) hK hw hAw (ws_recv hK hw (q := 30) (Nat.lt_of_lt_of_le (Nat.le_of_ble_eq_true rfl : 30 < 191) hn) (mk_30 cA α) rfl) rfl hl.1 rfl (Nat.le_of_ble_eq_true rfl) dX11_position_3 ⟨Nat.zero_le _, Nat.zero_le _⟩ (fun H locs hw => ?_)
  refine xb_eq (b := (isCoR S x)) (tgt := 13) hx hb dX11_position_6 (by decide) (fun c1 => ?_) (fun c1 => ?_)
  · skip
    refine lv_iconst (v := nI 1) hx hb dX11_position_13 (by decide) ?_
    refine x_putI (x := nI 1) (ty := .int) (C := RX11) (T := TX11) (N := 24) hx hb hts (fun _ h => List.mem_cons_of_mem _ (List.mem_append_right _ h)) tyX11 tyX11_ok nmX11 hown hK hw 30 (Nat.lt_of_lt_of_le (Nat.le_of_ble_eq_true rfl : 30 < 191) hn) (mk_30 cA α) rfl 0 (by decide) (hts _ (List.mem_of_getElem? (i := 1) rfl)) (fun _ h9 => h9) rfl rfl rfl rfl (Nat.le_of_ble_eq_true rfl) rfl dX11_position_14 (fun S1 eS1 H locs hw => ?_)
    refine lv_aload_n hx hb dX11_position_17 rfl (lv_at hl 0 rfl) ?_
    refine x_get (v := .int (S1.1 30 0)) (C := RX11) (T := TX11) (N := 24) hx hb hts (fun _ h => List.mem_cons_of_mem _ (List.mem_append_right _ h)) hown hK hw 30 (Nat.lt_of_lt_of_le (Nat.le_of_ble_eq_true rfl : 30 < 191) hn) (mk_30 cA α) rfl 0 (by decide) (hts _ (List.mem_of_getElem? (i := 1) rfl)) (fun _ h9 => h9) rfl dX11_position_18 ?_
    refine x_topN (k := 1) (by subst_vars; simp [sI_e, upd]) ?_
    refine xn_if_ne (tgt := 32) hx hb (by omega) dX11_position_21 (by decide) (fun c2 => ?_) (fun c2 => ?_)
    · skip
      refine lv_lconst (v := 0) hx hb dX11_position_32 (by decide) ?_
      exact ret_l hx hb hr hlocks hK hw dX11_position_33 rfl (by first | (subst_vars; rfl) | (subst_vars; simp only [eq_self, c1, if_neg c2, if_pos c2, decide_eq_false c2, if_true, if_false, eq_self, Bool.false_eq_true, not_true_eq_false, not_false_eq_true, decide_true, decide_false, Bool.and_true, Bool.true_and, Bool.and_false, Bool.false_and, Bool.not_true, Bool.not_false, Bool.or_true, Bool.true_or, Bool.or_false, Bool.false_or, reduceIte, b2i_t, b2i_f]; done) | (subst_vars; simp [eq_self, c1, if_neg c2, if_pos c2, decide_eq_false c2]; done))
    · exact absurd c2 (by decide)
  · exact absurd (isCo_f (S := S) (by subst_vars; exact hC) hC2 hx9) (by rw [c1]; decide)

set_option maxRecDepth 100000 in
set_option maxHeartbeats 1000000 in
theorem ct_X11_settledPosition (l : Launch) (D : va_G) (cA : Nat → ClassId) (α : Nat → Nat) (n sz : Nat) (hn : 191 ≤ n) (S : Mem) (Cn : Nat) (hC : S.1 33 1 = nI Cn) (hC2 : Cn ≤ 6) (i : Nat) (hi : i < Cn) : CtL l yX11_settledPosition wsX11_settledPosition ({ frames := 2, cells := 0, slots := 0, locals := 46 }) D cA α n sz [.ref (α 30), .int (nI i)] S (S.2 35 (3 + i)) (setI S 30 0 (nI 0)) := by
  refine ct_enter cX11_settledPosition 2 (some .long) (by decide) rfl (Nat.le_of_ble_eq_true rfl) ?_
  intro p e s m below meth c hx hb hr hml hlocks hown hts hK hsz hw ls hl
  have hown : s.vm.findClass RX11 = some m.cls := hown
  have hAw : ∀ z, Aw α n s.heap.size z → Aw α n sz z := by rw [hsz]; exact fun _ h => h
  have hl : lv_has ls 2 [(0, .ref (α 30)), (1, .int (nI i))] := hl
  refine lv_aload_n hx hb dX11_settledPosition_0 rfl (lv_at hl 0 rfl) ?_
  refine lv_aload_n hx hb dX11_settledPosition_1 rfl (lv_at hl 0 rfl) ?_
  refine lv_iload_n hx hb dX11_settledPosition_2 rfl (lv_at hl 1 rfl) ?_
  refine x_callVIr (q := 30) (C := RX11) (As := [.int (nI i)]) (rest := [.ref (α 30)]) ⟨hx, hb, hml, hown, hts⟩ (ct_X11_isCompany l D cA α n _ hn S (nI i)) (cwV 1 hts gX11_settledPosition_X11_isCompany rfl rfl rfl (by decide +kernel) ⟨Nat.le_of_ble_eq_true rfl, Nat.le_of_ble_eq_true rfl⟩) hK hw hAw (ws_recv hK hw (q := 30) (Nat.lt_of_lt_of_le (Nat.le_of_ble_eq_true rfl : 30 < 191) hn) (mk_30 cA α) rfl) rfl hl.1 rfl (Nat.le_of_ble_eq_true rfl) dX11_settledPosition_3 ⟨Nat.zero_le _, Nat.zero_le _⟩ (fun H locs hw => ?_)
  refine xb_eq (b := (isCoR S (nI i))) (tgt := 13) hx hb dX11_settledPosition_6 (by decide) (fun c1 => ?_) (fun c1 => ?_)
  · exact absurd (isCo_t (S := S) (by subst_vars; exact hC) hC2 hi) (by rw [c1]; decide)
  · skip
    refine lv_iconst (v := nI 0) hx hb dX11_settledPosition_9 (by decide) ?_
    refine lv_goto (tgt := 14) hx hb dX11_settledPosition_10 (by decide) ?_
    refine x_putI (x := nI 0) (ty := .int) (C := RX11) (T := TX11) (N := 24) hx hb hts (fun _ h => List.mem_cons_of_mem _ (List.mem_append_right _ h)) tyX11 tyX11_ok nmX11 hown hK hw 30 (Nat.lt_of_lt_of_le (Nat.le_of_ble_eq_true rfl : 30 < 191) hn) (mk_30 cA α) rfl 0 (by decide) (hts _ (List.mem_of_getElem? (i := 1) rfl)) (fun _ h9 => h9) rfl rfl rfl rfl (Nat.le_of_ble_eq_true rfl) rfl dX11_settledPosition_14 (fun S1 eS1 H locs hw => ?_)
    refine lv_aload_n hx hb dX11_settledPosition_17 rfl (lv_at hl 0 rfl) ?_
    refine x_get (v := .int (S1.1 30 0)) (C := RX11) (T := TX11) (N := 24) hx hb hts (fun _ h => List.mem_cons_of_mem _ (List.mem_append_right _ h)) hown hK hw 30 (Nat.lt_of_lt_of_le (Nat.le_of_ble_eq_true rfl : 30 < 191) hn) (mk_30 cA α) rfl 0 (by decide) (hts _ (List.mem_of_getElem? (i := 1) rfl)) (fun _ h9 => h9) rfl dX11_settledPosition_18 ?_
    refine x_topN (k := 0) (by subst_vars; simp [sI_e, upd]) ?_
    refine xn_if_ne (tgt := 35) hx hb (by omega) dX11_settledPosition_21 (by decide) (fun c2 => ?_) (fun c2 => ?_)
    · exact absurd rfl c2
    · skip
      refine lv_aload_n hx hb dX11_settledPosition_24 rfl (lv_at hl 0 rfl) ?_
      refine x_get (v := .ref (α 35)) (C := RX11) (T := TX11) (N := 24) hx hb hts (fun _ h => List.mem_cons_of_mem _ (List.mem_append_right _ h)) hown hK hw 30 (Nat.lt_of_lt_of_le (Nat.le_of_ble_eq_true rfl : 30 < 191) hn) (mk_30 cA α) rfl 14 (by decide) (hts _ (List.mem_of_getElem? (i := 2) rfl)) (fun _ h9 => h9) rfl dX11_settledPosition_25 ?_
      refine lv_iconst (v := nI 3) hx hb dX11_settledPosition_28 (by decide) ?_
      refine lv_iload_n hx hb dX11_settledPosition_29 rfl (lv_at hl 1 rfl) ?_
      refine xn_iadd hx hb dX11_settledPosition_30 ?_
      refine x_lald hx hb hK hw 35 309 (Nat.lt_of_lt_of_le (Nat.le_of_ble_eq_true rfl : 35 < 191) hn) (mk_35 cA α) (3 + i) rfl (by omega) (by decide) dX11_settledPosition_31 ?_
      refine lv_goto (tgt := 36) hx hb dX11_settledPosition_32 (by decide) ?_
      exact ret_l hx hb hr hlocks hK hw dX11_settledPosition_36 (by subst_vars; rfl) (by first | (subst_vars; rfl) | (subst_vars; simp only [eq_self, c1, if_pos c2, if_neg (not_not_intro c2), decide_eq_true c2, if_true, if_false, eq_self, Bool.false_eq_true, not_true_eq_false, not_false_eq_true, decide_true, decide_false, Bool.and_true, Bool.true_and, Bool.and_false, Bool.false_and, Bool.not_true, Bool.not_false, Bool.or_true, Bool.true_or, Bool.or_false, Bool.false_or, reduceIte, b2i_t, b2i_f]; done) | (subst_vars; simp [eq_self, c1, if_pos c2, if_neg (not_not_intro c2), decide_eq_true c2]; done))

set_option maxRecDepth 100000 in
set_option maxHeartbeats 1000000 in
theorem ct_X11_settledPositionX (l : Launch) (D : va_G) (cA : Nat → ClassId) (α : Nat → Nat) (n sz : Nat) (hn : 191 ≤ n) (S : Mem) (Cn : Nat) (hC : S.1 33 1 = nI Cn) (hC2 : Cn ≤ 6) (x : Int32) (hx9 : ¬ ∃ i, i < Cn ∧ x = nI i) : CtL l yX11_settledPosition wsX11_settledPosition ({ frames := 2, cells := 0, slots := 0, locals := 46 }) D cA α n sz [.ref (α 30), .int x] S 0 (setI S 30 0 (nI 1)) := by
  refine ct_enter cX11_settledPosition 2 (some .long) (by decide) rfl (Nat.le_of_ble_eq_true rfl) ?_
  intro p e s m below meth c hx hb hr hml hlocks hown hts hK hsz hw ls hl
  have hown : s.vm.findClass RX11 = some m.cls := hown
  have hAw : ∀ z, Aw α n s.heap.size z → Aw α n sz z := by rw [hsz]; exact fun _ h => h
  have hl : lv_has ls 2 [(0, .ref (α 30)), (1, .int x)] := hl
  refine lv_aload_n hx hb dX11_settledPosition_0 rfl (lv_at hl 0 rfl) ?_
  refine lv_aload_n hx hb dX11_settledPosition_1 rfl (lv_at hl 0 rfl) ?_
  refine lv_iload_n hx hb dX11_settledPosition_2 rfl (lv_at hl 1 rfl) ?_
  refine x_callVIr (q := 30) (C := RX11) (As := [.int x]) (rest := [.ref (α 30)]) ⟨hx, hb, hml, hown, hts⟩ (ct_X11_isCompany l D cA α n _ hn S x) (cwV 1 hts gX11_settledPosition_X11_isCompany rfl rfl rfl (by decide +kernel) ⟨Nat.le_of_ble_eq_true rfl, Nat.le_of_ble_eq_true rfl⟩) hK hw hAw (ws_recv hK hw (q := 30) (Nat.lt_of_lt_of_le (Nat.le_of_ble_eq_true rfl : 30 < 191) hn) (mk_30 cA α) rfl) rfl hl.1 rfl (Nat.le_of_ble_eq_true rfl) dX11_settledPosition_3 ⟨Nat.zero_le _, Nat.zero_le _⟩ (fun H locs hw => ?_)
  refine xb_eq (b := (isCoR S x)) (tgt := 13) hx hb dX11_settledPosition_6 (by decide) (fun c1 => ?_) (fun c1 => ?_)
  · skip
    refine lv_iconst (v := nI 1) hx hb dX11_settledPosition_13 (by decide) ?_
    refine x_putI (x := nI 1) (ty := .int) (C := RX11) (T := TX11) (N := 24) hx hb hts (fun _ h => List.mem_cons_of_mem _ (List.mem_append_right _ h)) tyX11 tyX11_ok nmX11 hown hK hw 30 (Nat.lt_of_lt_of_le (Nat.le_of_ble_eq_true rfl : 30 < 191) hn) (mk_30 cA α) rfl 0 (by decide) (hts _ (List.mem_of_getElem? (i := 1) rfl)) (fun _ h9 => h9) rfl rfl rfl rfl (Nat.le_of_ble_eq_true rfl) rfl dX11_settledPosition_14 (fun S1 eS1 H locs hw => ?_)
    refine lv_aload_n hx hb dX11_settledPosition_17 rfl (lv_at hl 0 rfl) ?_
    refine x_get (v := .int (S1.1 30 0)) (C := RX11) (T := TX11) (N := 24) hx hb hts (fun _ h => List.mem_cons_of_mem _ (List.mem_append_right _ h)) hown hK hw 30 (Nat.lt_of_lt_of_le (Nat.le_of_ble_eq_true rfl : 30 < 191) hn) (mk_30 cA α) rfl 0 (by decide) (hts _ (List.mem_of_getElem? (i := 1) rfl)) (fun _ h9 => h9) rfl dX11_settledPosition_18 ?_
    refine x_topN (k := 1) (by subst_vars; simp [sI_e, upd]) ?_
    refine xn_if_ne (tgt := 35) hx hb (by omega) dX11_settledPosition_21 (by decide) (fun c2 => ?_) (fun c2 => ?_)
    · skip
      refine lv_lconst (v := 0) hx hb dX11_settledPosition_35 (by decide) ?_
      exact ret_l hx hb hr hlocks hK hw dX11_settledPosition_36 rfl (by first | (subst_vars; rfl) | (subst_vars; simp only [eq_self, c1, if_neg c2, if_pos c2, decide_eq_false c2, if_true, if_false, eq_self, Bool.false_eq_true, not_true_eq_false, not_false_eq_true, decide_true, decide_false, Bool.and_true, Bool.true_and, Bool.and_false, Bool.false_and, Bool.not_true, Bool.not_false, Bool.or_true, Bool.true_or, Bool.or_false, Bool.false_or, reduceIte, b2i_t, b2i_f]; done) | (subst_vars; simp [eq_self, c1, if_neg c2, if_pos c2, decide_eq_false c2]; done))
    · exact absurd c2 (by decide)
  · exact absurd (isCo_f (S := S) (by subst_vars; exact hC) hC2 hx9) (by rw [c1]; decide)

set_option maxRecDepth 100000 in
set_option maxHeartbeats 1000000 in
theorem ct_X11_unrealized (l : Launch) (D : va_G) (cA : Nat → ClassId) (α : Nat → Nat) (n sz : Nat) (hn : 191 ≤ n) (S : Mem) (Cn : Nat) (hC : S.1 33 1 = nI Cn) (hC2 : Cn ≤ 6) (i : Nat) (hi : i < Cn) (L : Nat) (hL : S.1 34 1 = nI L) (hL2 : L ≤ 100) (hlo : ∀ j, j < L → okI (S.1 34 (608 + 4 * j + 1)) 6) : CtL l yX11_unrealized wsX11_unrealized ({ frames := 3, cells := 0, slots := 0, locals := 67 }) D cA α n sz [.ref (α 30), .int (nI i)] S (sumL (gPro S (nI i)) L) (setI S 30 0 (nI 0)) := by
  refine ct_enter cX11_unrealized 2 (some .long) (by decide) rfl (Nat.le_of_ble_eq_true rfl) ?_
  intro p e s m below meth c hx hb hr hml hlocks hown hts hK hsz hw ls hl
  have hown : s.vm.findClass RX11 = some m.cls := hown
  have hAw : ∀ z, Aw α n s.heap.size z → Aw α n sz z := by rw [hsz]; exact fun _ h => h
  have hl : lv_has ls 2 [(0, .ref (α 30)), (1, .int (nI i))] := hl
  refine lv_aload_n hx hb dX11_unrealized_0 rfl (lv_at hl 0 rfl) ?_
  refine lv_aload_n hx hb dX11_unrealized_1 rfl (lv_at hl 0 rfl) ?_
  refine lv_iload_n hx hb dX11_unrealized_2 rfl (lv_at hl 1 rfl) ?_
  refine x_callVIr (q := 30) (C := RX11) (As := [.int (nI i)]) (rest := [.ref (α 30)]) ⟨hx, hb, hml, hown, hts⟩ (ct_X11_isCompany l D cA α n _ hn S (nI i)) (cwV 1 hts gX11_unrealized_X11_isCompany rfl rfl rfl (by decide +kernel) ⟨Nat.le_of_ble_eq_true rfl, Nat.le_of_ble_eq_true rfl⟩) hK hw hAw (ws_recv hK hw (q := 30) (Nat.lt_of_lt_of_le (Nat.le_of_ble_eq_true rfl : 30 < 191) hn) (mk_30 cA α) rfl) rfl hl.1 rfl (Nat.le_of_ble_eq_true rfl) dX11_unrealized_3 ⟨Nat.zero_le _, Nat.zero_le _⟩ (fun H locs hw => ?_)
  refine xb_eq (b := (isCoR S (nI i))) (tgt := 13) hx hb dX11_unrealized_6 (by decide) (fun c1 => ?_) (fun c1 => ?_)
  · exact absurd (isCo_t (S := S) (by subst_vars; exact hC) hC2 hi) (by rw [c1]; decide)
  · skip
    refine lv_iconst (v := nI 0) hx hb dX11_unrealized_9 (by decide) ?_
    refine lv_goto (tgt := 14) hx hb dX11_unrealized_10 (by decide) ?_
    refine x_putI (x := nI 0) (ty := .int) (C := RX11) (T := TX11) (N := 24) hx hb hts (fun _ h => List.mem_cons_of_mem _ (List.mem_append_right _ h)) tyX11 tyX11_ok nmX11 hown hK hw 30 (Nat.lt_of_lt_of_le (Nat.le_of_ble_eq_true rfl : 30 < 191) hn) (mk_30 cA α) rfl 0 (by decide) (hts _ (List.mem_of_getElem? (i := 1) rfl)) (fun _ h9 => h9) rfl rfl rfl rfl (Nat.le_of_ble_eq_true rfl) rfl dX11_unrealized_14 (fun S1 eS1 H locs hw => ?_)
    refine lv_aload_n hx hb dX11_unrealized_17 rfl (lv_at hl 0 rfl) ?_
    refine x_get (v := .int (S1.1 30 0)) (C := RX11) (T := TX11) (N := 24) hx hb hts (fun _ h => List.mem_cons_of_mem _ (List.mem_append_right _ h)) hown hK hw 30 (Nat.lt_of_lt_of_le (Nat.le_of_ble_eq_true rfl : 30 < 191) hn) (mk_30 cA α) rfl 0 (by decide) (hts _ (List.mem_of_getElem? (i := 1) rfl)) (fun _ h9 => h9) rfl dX11_unrealized_18 ?_
    refine x_topN (k := 0) (by subst_vars; simp [sI_e, upd]) ?_
    refine xn_if_ne (tgt := 32) hx hb (by omega) dX11_unrealized_21 (by decide) (fun c2 => ?_) (fun c2 => ?_)
    · exact absurd rfl c2
    · skip
      refine lv_aload_n hx hb dX11_unrealized_24 rfl (lv_at hl 0 rfl) ?_
      refine lv_iload_n hx hb dX11_unrealized_25 rfl (lv_at hl 1 rfl) ?_
      refine x_callVLr (q := 30) (C := RX11) (As := [.int (nI i)]) (rest := []) ⟨hx, hb, hml, hown, hts⟩ (ct_X11_profitOf l D cA α n _ hn S1 (nI i) L (by subst_vars; exact hL) hL2 (by subst_vars; exact hlo)) (cwV 1 hts gX11_unrealized_X11_profitOf rfl rfl rfl (by decide +kernel) ⟨Nat.le_of_ble_eq_true rfl, Nat.le_of_ble_eq_true rfl⟩) hK hw hAw (ws_recv hK hw (q := 30) (Nat.lt_of_lt_of_le (Nat.le_of_ble_eq_true rfl : 30 < 191) hn) (mk_30 cA α) rfl) rfl hl.1 rfl (Nat.le_of_ble_eq_true rfl) dX11_unrealized_26 ⟨Nat.zero_le _, Nat.zero_le _⟩ (fun H locs hw => ?_)
      refine lv_goto (tgt := 33) hx hb dX11_unrealized_29 (by decide) ?_
      exact ret_l hx hb hr hlocks hK hw dX11_unrealized_33 (by subst_vars; rfl) (by first | (subst_vars; rfl) | (subst_vars; simp only [eq_self, c1, if_pos c2, if_neg (not_not_intro c2), decide_eq_true c2, if_true, if_false, eq_self, Bool.false_eq_true, not_true_eq_false, not_false_eq_true, decide_true, decide_false, Bool.and_true, Bool.true_and, Bool.and_false, Bool.false_and, Bool.not_true, Bool.not_false, Bool.or_true, Bool.true_or, Bool.or_false, Bool.false_or, reduceIte, b2i_t, b2i_f]; done) | (subst_vars; simp [eq_self, c1, if_pos c2, if_neg (not_not_intro c2), decide_eq_true c2]; done))

set_option maxRecDepth 100000 in
set_option maxHeartbeats 1000000 in
theorem ct_X11_unrealizedX (l : Launch) (D : va_G) (cA : Nat → ClassId) (α : Nat → Nat) (n sz : Nat) (hn : 191 ≤ n) (S : Mem) (Cn : Nat) (hC : S.1 33 1 = nI Cn) (hC2 : Cn ≤ 6) (x : Int32) (hx9 : ¬ ∃ i, i < Cn ∧ x = nI i) : CtL l yX11_unrealized wsX11_unrealized ({ frames := 3, cells := 0, slots := 0, locals := 67 }) D cA α n sz [.ref (α 30), .int x] S 0 (setI S 30 0 (nI 1)) := by
  refine ct_enter cX11_unrealized 2 (some .long) (by decide) rfl (Nat.le_of_ble_eq_true rfl) ?_
  intro p e s m below meth c hx hb hr hml hlocks hown hts hK hsz hw ls hl
  have hown : s.vm.findClass RX11 = some m.cls := hown
  have hAw : ∀ z, Aw α n s.heap.size z → Aw α n sz z := by rw [hsz]; exact fun _ h => h
  have hl : lv_has ls 2 [(0, .ref (α 30)), (1, .int x)] := hl
  refine lv_aload_n hx hb dX11_unrealized_0 rfl (lv_at hl 0 rfl) ?_
  refine lv_aload_n hx hb dX11_unrealized_1 rfl (lv_at hl 0 rfl) ?_
  refine lv_iload_n hx hb dX11_unrealized_2 rfl (lv_at hl 1 rfl) ?_
  refine x_callVIr (q := 30) (C := RX11) (As := [.int x]) (rest := [.ref (α 30)]) ⟨hx, hb, hml, hown, hts⟩ (ct_X11_isCompany l D cA α n _ hn S x) (cwV 1 hts gX11_unrealized_X11_isCompany rfl rfl rfl (by decide +kernel) ⟨Nat.le_of_ble_eq_true rfl, Nat.le_of_ble_eq_true rfl⟩) hK hw hAw (ws_recv hK hw (q := 30) (Nat.lt_of_lt_of_le (Nat.le_of_ble_eq_true rfl : 30 < 191) hn) (mk_30 cA α) rfl) rfl hl.1 rfl (Nat.le_of_ble_eq_true rfl) dX11_unrealized_3 ⟨Nat.zero_le _, Nat.zero_le _⟩ (fun H locs hw => ?_)
  refine xb_eq (b := (isCoR S x)) (tgt := 13) hx hb dX11_unrealized_6 (by decide) (fun c1 => ?_) (fun c1 => ?_)
  · skip
    refine lv_iconst (v := nI 1) hx hb dX11_unrealized_13 (by decide) ?_
    refine x_putI (x := nI 1) (ty := .int) (C := RX11) (T := TX11) (N := 24) hx hb hts (fun _ h => List.mem_cons_of_mem _ (List.mem_append_right _ h)) tyX11 tyX11_ok nmX11 hown hK hw 30 (Nat.lt_of_lt_of_le (Nat.le_of_ble_eq_true rfl : 30 < 191) hn) (mk_30 cA α) rfl 0 (by decide) (hts _ (List.mem_of_getElem? (i := 1) rfl)) (fun _ h9 => h9) rfl rfl rfl rfl (Nat.le_of_ble_eq_true rfl) rfl dX11_unrealized_14 (fun S1 eS1 H locs hw => ?_)
    refine lv_aload_n hx hb dX11_unrealized_17 rfl (lv_at hl 0 rfl) ?_
    refine x_get (v := .int (S1.1 30 0)) (C := RX11) (T := TX11) (N := 24) hx hb hts (fun _ h => List.mem_cons_of_mem _ (List.mem_append_right _ h)) hown hK hw 30 (Nat.lt_of_lt_of_le (Nat.le_of_ble_eq_true rfl : 30 < 191) hn) (mk_30 cA α) rfl 0 (by decide) (hts _ (List.mem_of_getElem? (i := 1) rfl)) (fun _ h9 => h9) rfl dX11_unrealized_18 ?_
    refine x_topN (k := 1) (by subst_vars; simp [sI_e, upd]) ?_
    refine xn_if_ne (tgt := 32) hx hb (by omega) dX11_unrealized_21 (by decide) (fun c2 => ?_) (fun c2 => ?_)
    · skip
      refine lv_lconst (v := 0) hx hb dX11_unrealized_32 (by decide) ?_
      exact ret_l hx hb hr hlocks hK hw dX11_unrealized_33 rfl (by first | (subst_vars; rfl) | (subst_vars; simp only [eq_self, c1, if_neg c2, if_pos c2, decide_eq_false c2, if_true, if_false, eq_self, Bool.false_eq_true, not_true_eq_false, not_false_eq_true, decide_true, decide_false, Bool.and_true, Bool.true_and, Bool.and_false, Bool.false_and, Bool.not_true, Bool.not_false, Bool.or_true, Bool.true_or, Bool.or_false, Bool.false_or, reduceIte, b2i_t, b2i_f]; done) | (subst_vars; simp [eq_self, c1, if_neg c2, if_pos c2, decide_eq_false c2]; done))
    · exact absurd c2 (by decide)
  · exact absurd (isCo_f (S := S) (by subst_vars; exact hC) hC2 hx9) (by rw [c1]; decide)

set_option maxRecDepth 100000 in
set_option maxHeartbeats 1000000 in
theorem ct_X11_currencyOf (l : Launch) (D : va_G) (cA : Nat → ClassId) (α : Nat → Nat) (n sz : Nat) (hn : 191 ≤ n) (S : Mem) (Cn : Nat) (hC : S.1 33 1 = nI Cn) (hC2 : Cn ≤ 6) (i : Nat) (hi : i < Cn) : CtI l yX11_currencyOf wsX11_currencyOf ({ frames := 2, cells := 0, slots := 0, locals := 46 }) D cA α n sz [.ref (α 30), .int (nI i)] S (S.1 33 (10 + i)) (setI S 30 0 (nI 0)) := by
  refine ct_enter cX11_currencyOf 2 (some .int) (by decide) rfl (Nat.le_of_ble_eq_true rfl) ?_
  intro p e s m below meth c hx hb hr hml hlocks hown hts hK hsz hw ls hl
  have hown : s.vm.findClass RX11 = some m.cls := hown
  have hAw : ∀ z, Aw α n s.heap.size z → Aw α n sz z := by rw [hsz]; exact fun _ h => h
  have hl : lv_has ls 2 [(0, .ref (α 30)), (1, .int (nI i))] := hl
  refine lv_aload_n hx hb dX11_currencyOf_0 rfl (lv_at hl 0 rfl) ?_
  refine lv_iconst (v := nI 0) hx hb dX11_currencyOf_1 (by decide) ?_
  refine x_putI (x := nI 0) (ty := .int) (C := RX11) (T := TX11) (N := 24) hx hb hts (fun _ h => List.mem_cons_of_mem _ (List.mem_append_right _ h)) tyX11 tyX11_ok nmX11 hown hK hw 30 (Nat.lt_of_lt_of_le (Nat.le_of_ble_eq_true rfl : 30 < 191) hn) (mk_30 cA α) rfl 0 (by decide) (hts _ (List.mem_of_getElem? (i := 1) rfl)) (fun _ h9 => h9) rfl rfl rfl rfl (Nat.le_of_ble_eq_true rfl) rfl dX11_currencyOf_2 (fun S1 eS1 H locs hw => ?_)
  refine lv_aload_n hx hb dX11_currencyOf_5 rfl (lv_at hl 0 rfl) ?_
  refine lv_iload_n hx hb dX11_currencyOf_6 rfl (lv_at hl 1 rfl) ?_
  refine x_callVIr (q := 30) (C := RX11) (As := [.int (nI i)]) (rest := []) ⟨hx, hb, hml, hown, hts⟩ (ct_X11_isCompany l D cA α n _ hn S1 (nI i)) (cwV 1 hts gX11_currencyOf_X11_isCompany rfl rfl rfl (by decide +kernel) ⟨Nat.le_of_ble_eq_true rfl, Nat.le_of_ble_eq_true rfl⟩) hK hw hAw (ws_recv hK hw (q := 30) (Nat.lt_of_lt_of_le (Nat.le_of_ble_eq_true rfl : 30 < 191) hn) (mk_30 cA α) rfl) rfl hl.1 rfl (Nat.le_of_ble_eq_true rfl) dX11_currencyOf_7 ⟨Nat.zero_le _, Nat.zero_le _⟩ (fun H locs hw => ?_)
  refine xb_eq (b := (isCoR S1 (nI i))) (tgt := 25) hx hb dX11_currencyOf_10 (by decide) (fun c1 => ?_) (fun c1 => ?_)
  · exact absurd (isCo_t (S := S1) (by subst_vars; exact hC) hC2 hi) (by rw [c1]; decide)
  · skip
    refine lv_aload_n hx hb dX11_currencyOf_13 rfl (lv_at hl 0 rfl) ?_
    refine x_get (v := .ref (α 33)) (C := RX11) (T := TX11) (N := 24) hx hb hts (fun _ h => List.mem_cons_of_mem _ (List.mem_append_right _ h)) hown hK hw 30 (Nat.lt_of_lt_of_le (Nat.le_of_ble_eq_true rfl : 30 < 191) hn) (mk_30 cA α) rfl 11 (by decide) (hts _ (List.mem_of_getElem? (i := 2) rfl)) (fun _ h9 => h9) rfl dX11_currencyOf_14 ?_
    refine lv_bipush (v := nI 10) hx hb dX11_currencyOf_17 (by decide) ?_
    refine lv_iload_n hx hb dX11_currencyOf_19 rfl (lv_at hl 1 rfl) ?_
    refine xn_iadd hx hb dX11_currencyOf_20 ?_
    refine x_iald hx hb hK hw 33 40 (Nat.lt_of_lt_of_le (Nat.le_of_ble_eq_true rfl : 33 < 191) hn) (mk_33 cA α) (10 + i) rfl (by omega) (by decide) dX11_currencyOf_21 ?_
    refine lv_goto (tgt := 30) hx hb dX11_currencyOf_22 (by decide) ?_
    exact ret_i hx hb hr hlocks hK hw dX11_currencyOf_30 (by subst_vars; rfl) (by first | (subst_vars; rfl) | (subst_vars; simp only [eq_self, c1, if_true, if_false, eq_self, Bool.false_eq_true, not_true_eq_false, not_false_eq_true, decide_true, decide_false, Bool.and_true, Bool.true_and, Bool.and_false, Bool.false_and, Bool.not_true, Bool.not_false, Bool.or_true, Bool.true_or, Bool.or_false, Bool.false_or, reduceIte, b2i_t, b2i_f]; done) | (subst_vars; simp [eq_self, c1]; done))

set_option maxRecDepth 100000 in
set_option maxHeartbeats 1000000 in
theorem ct_X11_currencyOfX (l : Launch) (D : va_G) (cA : Nat → ClassId) (α : Nat → Nat) (n sz : Nat) (hn : 191 ≤ n) (S : Mem) (Cn : Nat) (hC : S.1 33 1 = nI Cn) (hC2 : Cn ≤ 6) (x : Int32) (hx9 : ¬ ∃ i, i < Cn ∧ x = nI i) : CtI l yX11_currencyOf wsX11_currencyOf ({ frames := 2, cells := 0, slots := 0, locals := 46 }) D cA α n sz [.ref (α 30), .int x] S (nI 0) (setI (setI S 30 0 (nI 0)) 30 0 (nI 1)) := by
  refine ct_enter cX11_currencyOf 2 (some .int) (by decide) rfl (Nat.le_of_ble_eq_true rfl) ?_
  intro p e s m below meth c hx hb hr hml hlocks hown hts hK hsz hw ls hl
  have hown : s.vm.findClass RX11 = some m.cls := hown
  have hAw : ∀ z, Aw α n s.heap.size z → Aw α n sz z := by rw [hsz]; exact fun _ h => h
  have hl : lv_has ls 2 [(0, .ref (α 30)), (1, .int x)] := hl
  refine lv_aload_n hx hb dX11_currencyOf_0 rfl (lv_at hl 0 rfl) ?_
  refine lv_iconst (v := nI 0) hx hb dX11_currencyOf_1 (by decide) ?_
  refine x_putI (x := nI 0) (ty := .int) (C := RX11) (T := TX11) (N := 24) hx hb hts (fun _ h => List.mem_cons_of_mem _ (List.mem_append_right _ h)) tyX11 tyX11_ok nmX11 hown hK hw 30 (Nat.lt_of_lt_of_le (Nat.le_of_ble_eq_true rfl : 30 < 191) hn) (mk_30 cA α) rfl 0 (by decide) (hts _ (List.mem_of_getElem? (i := 1) rfl)) (fun _ h9 => h9) rfl rfl rfl rfl (Nat.le_of_ble_eq_true rfl) rfl dX11_currencyOf_2 (fun S1 eS1 H locs hw => ?_)
  refine lv_aload_n hx hb dX11_currencyOf_5 rfl (lv_at hl 0 rfl) ?_
  refine lv_iload_n hx hb dX11_currencyOf_6 rfl (lv_at hl 1 rfl) ?_
  refine x_callVIr (q := 30) (C := RX11) (As := [.int x]) (rest := []) ⟨hx, hb, hml, hown, hts⟩ (ct_X11_isCompany l D cA α n _ hn S1 x) (cwV 1 hts gX11_currencyOf_X11_isCompany rfl rfl rfl (by decide +kernel) ⟨Nat.le_of_ble_eq_true rfl, Nat.le_of_ble_eq_true rfl⟩) hK hw hAw (ws_recv hK hw (q := 30) (Nat.lt_of_lt_of_le (Nat.le_of_ble_eq_true rfl : 30 < 191) hn) (mk_30 cA α) rfl) rfl hl.1 rfl (Nat.le_of_ble_eq_true rfl) dX11_currencyOf_7 ⟨Nat.zero_le _, Nat.zero_le _⟩ (fun H locs hw => ?_)
  refine xb_eq (b := (isCoR S1 x)) (tgt := 25) hx hb dX11_currencyOf_10 (by decide) (fun c1 => ?_) (fun c1 => ?_)
  · skip
    refine lv_aload_n hx hb dX11_currencyOf_25 rfl (lv_at hl 0 rfl) ?_
    refine lv_iconst (v := nI 1) hx hb dX11_currencyOf_26 (by decide) ?_
    refine x_callVI (q := 30) (C := RX11) (As := [.int (nI 1)]) (rest := []) ⟨hx, hb, hml, hown, hts⟩ (ct_X11_fail l D cA α n _ hn S1 (nI 1)) (cwV 1 hts gX11_currencyOf_X11_fail rfl rfl rfl (by decide +kernel) ⟨Nat.le_of_ble_eq_true rfl, Nat.le_of_ble_eq_true rfl⟩) hK hw hAw (ws_recv hK hw (q := 30) (Nat.lt_of_lt_of_le (Nat.le_of_ble_eq_true rfl : 30 < 191) hn) (mk_30 cA α) rfl) rfl hl.1 rfl (Nat.le_of_ble_eq_true rfl) dX11_currencyOf_27 ⟨Nat.zero_le _, Nat.zero_le _⟩ (fun S2 eS2 H locs hw => ?_)
    exact ret_i hx hb hr hlocks hK hw dX11_currencyOf_30 rfl (by subst_vars; rfl)
  · exact absurd (isCo_f (S := S1) (by subst_vars; exact hC) hC2 hx9) (by rw [c1]; decide)

set_option maxRecDepth 100000 in
set_option maxHeartbeats 1000000 in
theorem ct_X11_rate (l : Launch) (D : va_G) (cA : Nat → ClassId) (α : Nat → Nat) (n sz : Nat) (hn : 191 ≤ n) (S : Mem) (Un : Nat) (hU : S.1 33 0 = nI Un) (hU2 : Un ≤ 4) (i : Nat) (hi : i < Un) : CtI l yX11_rate wsX11_rate ({ frames := 1, cells := 0, slots := 0, locals := 25 }) D cA α n sz [.ref (α 30), .int (nI i)] S (S.1 34 (4 + i)) (setI S 30 0 (nI 0)) := by
  refine ct_enter cX11_rate 2 (some .int) (by decide) rfl (Nat.le_of_ble_eq_true rfl) ?_
  intro p e s m below meth c hx hb hr hml hlocks hown hts hK hsz hw ls hl
  have hown : s.vm.findClass RX11 = some m.cls := hown
  have hAw : ∀ z, Aw α n s.heap.size z → Aw α n sz z := by rw [hsz]; exact fun _ h => h
  have hl : lv_has ls 2 [(0, .ref (α 30)), (1, .int (nI i))] := hl
  refine lv_aload_n hx hb dX11_rate_0 rfl (lv_at hl 0 rfl) ?_
  refine lv_iconst (v := nI 0) hx hb dX11_rate_1 (by decide) ?_
  refine x_putI (x := nI 0) (ty := .int) (C := RX11) (T := TX11) (N := 24) hx hb hts (fun _ h => List.mem_cons_of_mem _ (List.mem_append_right _ h)) tyX11 tyX11_ok nmX11 hown hK hw 30 (Nat.lt_of_lt_of_le (Nat.le_of_ble_eq_true rfl : 30 < 191) hn) (mk_30 cA α) rfl 0 (by decide) (hts _ (List.mem_of_getElem? (i := 1) rfl)) (fun _ h9 => h9) rfl rfl rfl rfl (Nat.le_of_ble_eq_true rfl) rfl dX11_rate_2 (fun S1 eS1 H locs hw => ?_)
  refine lv_iload_n hx hb dX11_rate_5 rfl (lv_at hl 1 rfl) ?_
  refine lv_i2l hx hb dX11_rate_6 rfl ?_
  refine lv_lconst (v := 0) hx hb dX11_rate_7 (by decide) ?_
  refine lv_aload_n hx hb dX11_rate_8 rfl (lv_at hl 0 rfl) ?_
  refine x_get (v := .ref (α 33)) (C := RX11) (T := TX11) (N := 24) hx hb hts (fun _ h => List.mem_cons_of_mem _ (List.mem_append_right _ h)) hown hK hw 30 (Nat.lt_of_lt_of_le (Nat.le_of_ble_eq_true rfl : 30 < 191) hn) (mk_30 cA α) rfl 11 (by decide) (hts _ (List.mem_of_getElem? (i := 2) rfl)) (fun _ h9 => h9) rfl dX11_rate_9 ?_
  refine lv_iconst (v := nI 0) hx hb dX11_rate_12 (by decide) ?_
  refine x_iald hx hb hK hw 33 40 (Nat.lt_of_lt_of_le (Nat.le_of_ble_eq_true rfl : 33 < 191) hn) (mk_33 cA α) 0 rfl (by decide) (by decide) dX11_rate_13 ?_
  refine lv_iconst (v := nI 1) hx hb dX11_rate_14 (by decide) ?_
  refine lv_isub hx hb dX11_rate_15 ?_
  refine lv_i2l hx hb dX11_rate_16 rfl ?_
  refine x_callSIr (q := 0) (C := RX0) (As := [.long ((nI i).toInt64), .long (0), .long (((S1.1 33 0) - (nI 1)).toInt64)]) (rest := []) ⟨hx, hb, hml, hown, hts⟩ (ct_X11_within l D cA α n _ hn S1 ((nI i).toInt64) (0) (((S1.1 33 0) - (nI 1)).toInt64)) (va_cwS 3 hts gX11_rate_X11_within rfl rfl rfl (by decide +kernel) ⟨Nat.le_of_ble_eq_true rfl, Nat.le_of_ble_eq_true rfl⟩) hK hw hAw rfl hl.1 rfl (Nat.le_of_ble_eq_true rfl) dX11_rate_17 ⟨Nat.zero_le _, Nat.zero_le _⟩ (fun H locs hw => ?_)
  refine xb_eq (b := (wiL ((nI i).toInt64) (0) (((S1.1 33 0) - (nI 1)).toInt64))) (tgt := 34) hx hb dX11_rate_20 (by decide) (fun c1 => ?_) (fun c1 => ?_)
  · exact absurd (show wiL (nI i).toInt64 0 (S1.1 33 0 - nI 1).toInt64 = true by rw [show S1.1 33 0 = nI Un by subst_vars; exact hU]; exact wi_t hi (by omega)) (by rw [c1]; decide)
  · skip
    refine lv_aload_n hx hb dX11_rate_23 rfl (lv_at hl 0 rfl) ?_
    refine x_get (v := .ref (α 34)) (C := RX11) (T := TX11) (N := 24) hx hb hts (fun _ h => List.mem_cons_of_mem _ (List.mem_append_right _ h)) hown hK hw 30 (Nat.lt_of_lt_of_le (Nat.le_of_ble_eq_true rfl : 30 < 191) hn) (mk_30 cA α) rfl 13 (by decide) (hts _ (List.mem_of_getElem? (i := 3) rfl)) (fun _ h9 => h9) rfl dX11_rate_24 ?_
    refine lv_iconst (v := nI 4) hx hb dX11_rate_27 (by decide) ?_
    refine lv_iload_n hx hb dX11_rate_28 rfl (lv_at hl 1 rfl) ?_
    refine xn_iadd hx hb dX11_rate_29 ?_
    refine x_iald hx hb hK hw 34 1508 (Nat.lt_of_lt_of_le (Nat.le_of_ble_eq_true rfl : 34 < 191) hn) (mk_34 cA α) (4 + i) rfl (by omega) (by decide) dX11_rate_30 ?_
    refine lv_goto (tgt := 39) hx hb dX11_rate_31 (by decide) ?_
    exact ret_i hx hb hr hlocks hK hw dX11_rate_39 (by subst_vars; rfl) (by first | (subst_vars; rfl) | (subst_vars; simp only [eq_self, c1, if_true, if_false, eq_self, Bool.false_eq_true, not_true_eq_false, not_false_eq_true, decide_true, decide_false, Bool.and_true, Bool.true_and, Bool.and_false, Bool.false_and, Bool.not_true, Bool.not_false, Bool.or_true, Bool.true_or, Bool.or_false, Bool.false_or, reduceIte, b2i_t, b2i_f]; done) | (subst_vars; simp [eq_self, c1]; done))

set_option maxRecDepth 100000 in
set_option maxHeartbeats 1000000 in
theorem ct_X11_rateX (l : Launch) (D : va_G) (cA : Nat → ClassId) (α : Nat → Nat) (n sz : Nat) (hn : 191 ≤ n) (S : Mem) (Un : Nat) (hU : S.1 33 0 = nI Un) (hU2 : Un ≤ 4) (x : Int32) (hx9 : ¬ ∃ i, i < Un ∧ x = nI i) : CtI l yX11_rate wsX11_rate ({ frames := 1, cells := 0, slots := 0, locals := 25 }) D cA α n sz [.ref (α 30), .int x] S (nI 0) (setI (setI S 30 0 (nI 0)) 30 0 (nI 1)) := by
  refine ct_enter cX11_rate 2 (some .int) (by decide) rfl (Nat.le_of_ble_eq_true rfl) ?_
  intro p e s m below meth c hx hb hr hml hlocks hown hts hK hsz hw ls hl
  have hown : s.vm.findClass RX11 = some m.cls := hown
  have hAw : ∀ z, Aw α n s.heap.size z → Aw α n sz z := by rw [hsz]; exact fun _ h => h
  have hl : lv_has ls 2 [(0, .ref (α 30)), (1, .int x)] := hl
  refine lv_aload_n hx hb dX11_rate_0 rfl (lv_at hl 0 rfl) ?_
  refine lv_iconst (v := nI 0) hx hb dX11_rate_1 (by decide) ?_
  refine x_putI (x := nI 0) (ty := .int) (C := RX11) (T := TX11) (N := 24) hx hb hts (fun _ h => List.mem_cons_of_mem _ (List.mem_append_right _ h)) tyX11 tyX11_ok nmX11 hown hK hw 30 (Nat.lt_of_lt_of_le (Nat.le_of_ble_eq_true rfl : 30 < 191) hn) (mk_30 cA α) rfl 0 (by decide) (hts _ (List.mem_of_getElem? (i := 1) rfl)) (fun _ h9 => h9) rfl rfl rfl rfl (Nat.le_of_ble_eq_true rfl) rfl dX11_rate_2 (fun S1 eS1 H locs hw => ?_)
  refine lv_iload_n hx hb dX11_rate_5 rfl (lv_at hl 1 rfl) ?_
  refine lv_i2l hx hb dX11_rate_6 rfl ?_
  refine lv_lconst (v := 0) hx hb dX11_rate_7 (by decide) ?_
  refine lv_aload_n hx hb dX11_rate_8 rfl (lv_at hl 0 rfl) ?_
  refine x_get (v := .ref (α 33)) (C := RX11) (T := TX11) (N := 24) hx hb hts (fun _ h => List.mem_cons_of_mem _ (List.mem_append_right _ h)) hown hK hw 30 (Nat.lt_of_lt_of_le (Nat.le_of_ble_eq_true rfl : 30 < 191) hn) (mk_30 cA α) rfl 11 (by decide) (hts _ (List.mem_of_getElem? (i := 2) rfl)) (fun _ h9 => h9) rfl dX11_rate_9 ?_
  refine lv_iconst (v := nI 0) hx hb dX11_rate_12 (by decide) ?_
  refine x_iald hx hb hK hw 33 40 (Nat.lt_of_lt_of_le (Nat.le_of_ble_eq_true rfl : 33 < 191) hn) (mk_33 cA α) 0 rfl (by decide) (by decide) dX11_rate_13 ?_
  refine lv_iconst (v := nI 1) hx hb dX11_rate_14 (by decide) ?_
  refine lv_isub hx hb dX11_rate_15 ?_
  refine lv_i2l hx hb dX11_rate_16 rfl ?_
  refine x_callSIr (q := 0) (C := RX0) (As := [.long (x.toInt64), .long (0), .long (((S1.1 33 0) - (nI 1)).toInt64)]) (rest := []) ⟨hx, hb, hml, hown, hts⟩ (ct_X11_within l D cA α n _ hn S1 (x.toInt64) (0) (((S1.1 33 0) - (nI 1)).toInt64)) (va_cwS 3 hts gX11_rate_X11_within rfl rfl rfl (by decide +kernel) ⟨Nat.le_of_ble_eq_true rfl, Nat.le_of_ble_eq_true rfl⟩) hK hw hAw rfl hl.1 rfl (Nat.le_of_ble_eq_true rfl) dX11_rate_17 ⟨Nat.zero_le _, Nat.zero_le _⟩ (fun H locs hw => ?_)
  refine xb_eq (b := (wiL (x.toInt64) (0) (((S1.1 33 0) - (nI 1)).toInt64))) (tgt := 34) hx hb dX11_rate_20 (by decide) (fun c1 => ?_) (fun c1 => ?_)
  · skip
    refine lv_aload_n hx hb dX11_rate_34 rfl (lv_at hl 0 rfl) ?_
    refine lv_iconst (v := nI 1) hx hb dX11_rate_35 (by decide) ?_
    refine x_callVI (q := 30) (C := RX11) (As := [.int (nI 1)]) (rest := []) ⟨hx, hb, hml, hown, hts⟩ (ct_X11_fail l D cA α n _ hn S1 (nI 1)) (cwV 1 hts gX11_rate_X11_fail rfl rfl rfl (by decide +kernel) ⟨Nat.le_of_ble_eq_true rfl, Nat.le_of_ble_eq_true rfl⟩) hK hw hAw (ws_recv hK hw (q := 30) (Nat.lt_of_lt_of_le (Nat.le_of_ble_eq_true rfl : 30 < 191) hn) (mk_30 cA α) rfl) rfl hl.1 rfl (Nat.le_of_ble_eq_true rfl) dX11_rate_36 ⟨Nat.zero_le _, Nat.zero_le _⟩ (fun S2 eS2 H locs hw => ?_)
    exact ret_i hx hb hr hlocks hK hw dX11_rate_39 rfl (by subst_vars; rfl)
  · exact absurd (show wiL x.toInt64 0 (S1.1 33 0 - nI 1).toInt64 = false by rw [show S1.1 33 0 = nI Un by subst_vars; exact hU]; exact wi_f hx9 (by omega)) (by rw [c1]; decide)

def rCan (S : Mem) (i j : Nat) : Bool := decide (S.1 34 (8 + 6 * j + 4) = 0) && rMir S i j

set_option maxRecDepth 100000 in
set_option maxHeartbeats 1000000 in
theorem ct_X11_candidates (l : Launch) (D : va_G) (cA : Nat → ClassId) (α : Nat → Nat) (n sz : Nat) (hn : 191 ≤ n) (S : Mem) (N : Nat) (hN : S.1 34 0 = nI N) (hN2 : N ≤ 100) (i : Nat) (hi : i < N) : CtI l yX11_candidates wsX11_candidates ({ frames := 2, cells := 0, slots := 0, locals := 46 }) D cA α n sz [.ref (α 30), .int (nI i)] S (nI (cnt (rCan S i) N)) (setI S 30 0 (nI 0)) := by
  refine ct_enter cX11_candidates 4 (some .int) (by decide) rfl (Nat.le_of_ble_eq_true rfl) ?_
  intro p e s m below meth c hx hb hr hml hlocks hown hts hK hsz hw ls hl
  have hown : s.vm.findClass RX11 = some m.cls := hown
  have hAw : ∀ z, Aw α n s.heap.size z → Aw α n sz z := by rw [hsz]; exact fun _ h => h
  have hl : lv_has ls 4 [(0, .ref (α 30)), (1, .int (nI i))] := hl
  refine lv_aload_n hx hb dX11_candidates_0 rfl (lv_at hl 0 rfl) ?_
  refine lv_iconst (v := nI 0) hx hb dX11_candidates_1 (by decide) ?_
  refine x_putI (x := nI 0) (ty := .int) (C := RX11) (T := TX11) (N := 24) hx hb hts (fun _ h => List.mem_cons_of_mem _ (List.mem_append_right _ h)) tyX11 tyX11_ok nmX11 hown hK hw 30 (Nat.lt_of_lt_of_le (Nat.le_of_ble_eq_true rfl : 30 < 191) hn) (mk_30 cA α) rfl 0 (by decide) (hts _ (List.mem_of_getElem? (i := 1) rfl)) (fun _ h9 => h9) rfl rfl rfl rfl (Nat.le_of_ble_eq_true rfl) rfl dX11_candidates_2 (fun S1 eS1 H locs hw => ?_)
  refine lv_aload_n hx hb dX11_candidates_5 rfl (lv_at hl 0 rfl) ?_
  refine lv_iload_n hx hb dX11_candidates_6 rfl (lv_at hl 1 rfl) ?_
  refine x_callVIr (q := 30) (C := RX11) (As := [.int (nI i)]) (rest := []) ⟨hx, hb, hml, hown, hts⟩ (ct_X11_isItem l D cA α n _ hn S1 (nI i)) (cwV 1 hts gX11_candidates_X11_isItem rfl rfl rfl (by decide +kernel) ⟨Nat.le_of_ble_eq_true rfl, Nat.le_of_ble_eq_true rfl⟩) hK hw hAw (ws_recv hK hw (q := 30) (Nat.lt_of_lt_of_le (Nat.le_of_ble_eq_true rfl : 30 < 191) hn) (mk_30 cA α) rfl) rfl hl.1 rfl (Nat.le_of_ble_eq_true rfl) dX11_candidates_7 ⟨Nat.zero_le _, Nat.zero_le _⟩ (fun H locs hw => ?_)
  refine xb_ne (b := (isItR S1 (nI i))) (tgt := 19) hx hb dX11_candidates_10 (by decide) (fun c1 => ?_) (fun c1 => ?_)
  · skip
    refine lv_iconst (v := nI 0) hx hb dX11_candidates_19 (by decide) ?_
    refine lv_istore_n (lv' := [(2, .int (nI 0)), (0, .ref (α 30)), (1, .int (nI i))]) hx hb dX11_candidates_20 rfl hl (by decide) rfl (fun ls hl => ?_)
    refine lv_iconst (v := nI 0) hx hb dX11_candidates_21 (by decide) ?_
    refine lv_istore_n (lv' := [(3, .int (nI 0)), (2, .int (nI 0)), (0, .ref (α 30)), (1, .int (nI i))]) hx hb dX11_candidates_22 rfl hl (by decide) rfl (fun ls hl => ?_)
    have lp23 : ∀ (t : Nat) (j : Nat) (k : Nat) (H : Heap) (locs : List Loc) (ls : Array Slot), N - j < t → j ≤ N → k = cnt (rCan S i) j → Ws D cA α n (Aw α n sz) s.heap S1 H locs → lv_has ls 4 [(0, .ref (α 30)), (1, .int (nI i)), (3, .int (nI j)), (2, .int (nI k))] → W p l e ({ frames := 2, cells := 0, slots := 0, locals := 46 } : Room) s m (List.toArray ([.ref (α 30), .int (nI i)] : List Value)) below meth c H locs 0 0 (MQ below (va_Qi (fun r u => r = (nI (cnt (rCan S i) N)) ∧ u = (setI S 30 0 (nI 0))) (Pw D cA α n) (Aw α n sz)) (List.toArray ([.ref (α 30), .int (nI i)] : List Value)) s 0 0 (Aw α n sz)) (F0 m 23 ls []) := by
      intro t
      induction t with
      | zero => intro j k H locs ls ht; exact absurd ht (Nat.not_lt_zero _)
      | succ t ih23 =>
        intro j k H locs ls ht hj hk hw hl
        refine lv_iload_n hx hb dX11_candidates_23 rfl (lv_at hl 2 rfl) ?_
        refine lv_aload_n hx hb dX11_candidates_24 rfl (lv_at hl 0 rfl) ?_
        refine x_get (v := .ref (α 34)) (C := RX11) (T := TX11) (N := 24) hx hb hts (fun _ h => List.mem_cons_of_mem _ (List.mem_append_right _ h)) hown hK hw 30 (Nat.lt_of_lt_of_le (Nat.le_of_ble_eq_true rfl : 30 < 191) hn) (mk_30 cA α) rfl 13 (by decide) (hts _ (List.mem_of_getElem? (i := 2) rfl)) (fun _ h9 => h9) rfl dX11_candidates_25 ?_
        refine lv_iconst (v := nI 0) hx hb dX11_candidates_28 (by decide) ?_
        refine x_iald hx hb hK hw 34 1508 (Nat.lt_of_lt_of_le (Nat.le_of_ble_eq_true rfl : 34 < 191) hn) (mk_34 cA α) 0 rfl (by decide) (by decide) dX11_candidates_29 ?_
        refine x_topN (k := N) (by subst_vars; exact hN) ?_
        refine xn_icmp_ge (tgt := 60) hx hb (by omega) (by omega) dX11_candidates_30 (by decide) (fun c2 => ?_) (fun c2 => ?_)
        · skip
          refine lv_iload_n hx hb dX11_candidates_60 rfl (lv_at hl 3 rfl) ?_
          exact ret_i hx hb hr hlocks hK hw dX11_candidates_61 (by rw [hk, show j = N by omega]) (by subst_vars; rfl)
        · skip
          refine lv_aload_n hx hb dX11_candidates_33 rfl (lv_at hl 0 rfl) ?_
          refine lv_iload_n hx hb dX11_candidates_34 rfl (lv_at hl 2 rfl) ?_
          refine lv_iconst (v := nI 4) hx hb dX11_candidates_35 (by decide) ?_
          refine x_callVIr (q := 30) (C := RX11) (As := [.int (nI j), .int (nI 4)]) (rest := []) ⟨hx, hb, hml, hown, hts⟩ (ct_X11_of l D cA α n _ hn S1 j 4 (by omega)) (cwV 2 hts gX11_candidates_X11_of rfl rfl rfl (by decide +kernel) ⟨Nat.le_of_ble_eq_true rfl, Nat.le_of_ble_eq_true rfl⟩) hK hw hAw (ws_recv hK hw (q := 30) (Nat.lt_of_lt_of_le (Nat.le_of_ble_eq_true rfl : 30 < 191) hn) (mk_30 cA α) rfl) rfl hl.1 rfl (Nat.le_of_ble_eq_true rfl) dX11_candidates_36 ⟨Nat.zero_le _, Nat.zero_le _⟩ (fun H locs hw => ?_)
          refine x_topE (y := S.1 34 (8 + 6 * j + 4)) (by subst_vars; rfl) ?_
          refine lv_if_ne (tgt := 54) hx hb dX11_candidates_39 (by decide) (fun c3 => ?_) (fun c3 => ?_)
          · skip
            refine lv_iinc (v := nI (j + 1)) (lv' := [(3, .int (nI (j + 1))), (0, .ref (α 30)), (1, .int (nI i)), (2, .int (nI k))]) hx hb dX11_candidates_54 hl (k := 2) rfl (nI_1 _) (by decide) rfl (fun ls hl => ?_)
            refine lv_goto (tgt := 23) hx hb dX11_candidates_57 (by decide) ?_
            exact ih23 (j + 1) k _ _ _ (by omega) (by omega) (by rw [cnt, ← hk]; unfold rCan; simp only [c1, if_pos c2, if_neg (not_not_intro c2), decide_eq_true c2, if_neg c3, if_pos c3, decide_eq_false c3, if_true, if_false, eq_self, Bool.false_eq_true, not_true_eq_false, not_false_eq_true, decide_true, decide_false, Bool.and_true, Bool.true_and, Bool.and_false, Bool.false_and, Bool.not_true, Bool.not_false, Bool.or_true, Bool.true_or, Bool.or_false, Bool.false_or, reduceIte, b2i_t, b2i_f, Nat.add_zero]) hw (lv_sub hl [1, 2, 0, 3] rfl)
          · skip
            refine lv_aload_n hx hb dX11_candidates_42 rfl (lv_at hl 0 rfl) ?_
            refine lv_iload_n hx hb dX11_candidates_43 rfl (lv_at hl 1 rfl) ?_
            refine lv_iload_n hx hb dX11_candidates_44 rfl (lv_at hl 2 rfl) ?_
            refine x_callVIr (q := 30) (C := RX11) (As := [.int (nI i), .int (nI j)]) (rest := []) ⟨hx, hb, hml, hown, hts⟩ (ct_X11_mirrors l D cA α n _ hn S1 i j (by omega) (by omega)) (cwV 2 hts gX11_candidates_X11_mirrors rfl rfl rfl (by decide +kernel) ⟨Nat.le_of_ble_eq_true rfl, Nat.le_of_ble_eq_true rfl⟩) hK hw hAw (ws_recv hK hw (q := 30) (Nat.lt_of_lt_of_le (Nat.le_of_ble_eq_true rfl : 30 < 191) hn) (mk_30 cA α) rfl) rfl hl.1 rfl (Nat.le_of_ble_eq_true rfl) dX11_candidates_45 ⟨Nat.zero_le _, Nat.zero_le _⟩ (fun H locs hw => ?_)
            refine x_topE (y := b2i (rMir S i j)) (by subst_vars; rfl) ?_
            refine xb_eq (b := (rMir S i j)) (tgt := 54) hx hb dX11_candidates_48 (by decide) (fun c4 => ?_) (fun c4 => ?_)
            · skip
              refine lv_iinc (v := nI (j + 1)) (lv' := [(3, .int (nI (j + 1))), (0, .ref (α 30)), (1, .int (nI i)), (2, .int (nI k))]) hx hb dX11_candidates_54 hl (k := 2) rfl (nI_1 _) (by decide) rfl (fun ls hl => ?_)
              refine lv_goto (tgt := 23) hx hb dX11_candidates_57 (by decide) ?_
              exact ih23 (j + 1) k _ _ _ (by omega) (by omega) (by rw [cnt, ← hk]; unfold rCan; simp only [c1, if_pos c2, if_neg (not_not_intro c2), decide_eq_true c2, if_pos c3, if_neg (not_not_intro c3), decide_eq_true c3, c4, if_true, if_false, eq_self, Bool.false_eq_true, not_true_eq_false, not_false_eq_true, decide_true, decide_false, Bool.and_true, Bool.true_and, Bool.and_false, Bool.false_and, Bool.not_true, Bool.not_false, Bool.or_true, Bool.true_or, Bool.or_false, Bool.false_or, reduceIte, b2i_t, b2i_f, Nat.add_zero]) hw (lv_sub hl [1, 2, 0, 3] rfl)
            · skip
              refine lv_iinc (v := nI (k + 1)) (lv' := [(2, .int (nI (k + 1))), (0, .ref (α 30)), (1, .int (nI i)), (3, .int (nI j))]) hx hb dX11_candidates_51 hl (k := 3) rfl (nI_1 _) (by decide) rfl (fun ls hl => ?_)
              refine lv_iinc (v := nI (j + 1)) (lv' := [(3, .int (nI (j + 1))), (2, .int (nI (k + 1))), (0, .ref (α 30)), (1, .int (nI i))]) hx hb dX11_candidates_54 hl (k := 3) rfl (nI_1 _) (by decide) rfl (fun ls hl => ?_)
              refine lv_goto (tgt := 23) hx hb dX11_candidates_57 (by decide) ?_
              exact ih23 (j + 1) (k + 1) _ _ _ (by omega) (by omega) (by rw [cnt, ← hk]; unfold rCan; simp only [c1, if_pos c2, if_neg (not_not_intro c2), decide_eq_true c2, if_pos c3, if_neg (not_not_intro c3), decide_eq_true c3, c4, if_true, if_false, eq_self, Bool.false_eq_true, not_true_eq_false, not_false_eq_true, decide_true, decide_false, Bool.and_true, Bool.true_and, Bool.and_false, Bool.false_and, Bool.not_true, Bool.not_false, Bool.or_true, Bool.true_or, Bool.or_false, Bool.false_or, reduceIte, b2i_t, b2i_f, Nat.add_zero]) hw (lv_sub hl [2, 3, 0, 1] rfl)
    exact lp23 _ 0 0 _ _ _ (Nat.lt_succ_self _) (Nat.zero_le _) rfl hw (lv_sub hl [2, 3, 0, 1] rfl)
  · exact absurd (isIt_t (S := S1) (by subst_vars; exact hN) hN2 hi) (by rw [c1]; decide)

set_option maxRecDepth 100000 in
set_option maxHeartbeats 1000000 in
theorem ct_X11_candidatesX (l : Launch) (D : va_G) (cA : Nat → ClassId) (α : Nat → Nat) (n sz : Nat) (hn : 191 ≤ n) (S : Mem) (N : Nat) (hN : S.1 34 0 = nI N) (hN2 : N ≤ 100) (x : Int32) (hx9 : ¬ ∃ i, i < N ∧ x = nI i) : CtI l yX11_candidates wsX11_candidates ({ frames := 2, cells := 0, slots := 0, locals := 46 }) D cA α n sz [.ref (α 30), .int x] S (nI 0) (setI (setI S 30 0 (nI 0)) 30 0 (nI 1)) := by
  refine ct_enter cX11_candidates 4 (some .int) (by decide) rfl (Nat.le_of_ble_eq_true rfl) ?_
  intro p e s m below meth c hx hb hr hml hlocks hown hts hK hsz hw ls hl
  have hown : s.vm.findClass RX11 = some m.cls := hown
  have hAw : ∀ z, Aw α n s.heap.size z → Aw α n sz z := by rw [hsz]; exact fun _ h => h
  have hl : lv_has ls 4 [(0, .ref (α 30)), (1, .int x)] := hl
  refine lv_aload_n hx hb dX11_candidates_0 rfl (lv_at hl 0 rfl) ?_
  refine lv_iconst (v := nI 0) hx hb dX11_candidates_1 (by decide) ?_
  refine x_putI (x := nI 0) (ty := .int) (C := RX11) (T := TX11) (N := 24) hx hb hts (fun _ h => List.mem_cons_of_mem _ (List.mem_append_right _ h)) tyX11 tyX11_ok nmX11 hown hK hw 30 (Nat.lt_of_lt_of_le (Nat.le_of_ble_eq_true rfl : 30 < 191) hn) (mk_30 cA α) rfl 0 (by decide) (hts _ (List.mem_of_getElem? (i := 1) rfl)) (fun _ h9 => h9) rfl rfl rfl rfl (Nat.le_of_ble_eq_true rfl) rfl dX11_candidates_2 (fun S1 eS1 H locs hw => ?_)
  refine lv_aload_n hx hb dX11_candidates_5 rfl (lv_at hl 0 rfl) ?_
  refine lv_iload_n hx hb dX11_candidates_6 rfl (lv_at hl 1 rfl) ?_
  refine x_callVIr (q := 30) (C := RX11) (As := [.int x]) (rest := []) ⟨hx, hb, hml, hown, hts⟩ (ct_X11_isItem l D cA α n _ hn S1 x) (cwV 1 hts gX11_candidates_X11_isItem rfl rfl rfl (by decide +kernel) ⟨Nat.le_of_ble_eq_true rfl, Nat.le_of_ble_eq_true rfl⟩) hK hw hAw (ws_recv hK hw (q := 30) (Nat.lt_of_lt_of_le (Nat.le_of_ble_eq_true rfl : 30 < 191) hn) (mk_30 cA α) rfl) rfl hl.1 rfl (Nat.le_of_ble_eq_true rfl) dX11_candidates_7 ⟨Nat.zero_le _, Nat.zero_le _⟩ (fun H locs hw => ?_)
  refine xb_ne (b := (isItR S1 x)) (tgt := 19) hx hb dX11_candidates_10 (by decide) (fun c1 => ?_) (fun c1 => ?_)
  · exact absurd (isIt_f (S := S1) (by subst_vars; exact hN) hN2 hx9) (by rw [c1]; decide)
  · skip
    refine lv_aload_n hx hb dX11_candidates_13 rfl (lv_at hl 0 rfl) ?_
    refine lv_iconst (v := nI 1) hx hb dX11_candidates_14 (by decide) ?_
    refine x_callVI (q := 30) (C := RX11) (As := [.int (nI 1)]) (rest := []) ⟨hx, hb, hml, hown, hts⟩ (ct_X11_fail l D cA α n _ hn S1 (nI 1)) (cwV 1 hts gX11_candidates_X11_fail rfl rfl rfl (by decide +kernel) ⟨Nat.le_of_ble_eq_true rfl, Nat.le_of_ble_eq_true rfl⟩) hK hw hAw (ws_recv hK hw (q := 30) (Nat.lt_of_lt_of_le (Nat.le_of_ble_eq_true rfl : 30 < 191) hn) (mk_30 cA α) rfl) rfl hl.1 rfl (Nat.le_of_ble_eq_true rfl) dX11_candidates_15 ⟨Nat.zero_le _, Nat.zero_le _⟩ (fun S2 eS2 H locs hw => ?_)
    exact ret_i hx hb hr hlocks hK hw dX11_candidates_18 rfl (by subst_vars; rfl)
