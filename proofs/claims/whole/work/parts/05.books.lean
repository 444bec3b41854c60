/-! the books of the class -/
/-- item j has a company of 6 and that has a currency of 4 -/
def okC (S : Mem) (j : Nat) : Prop := j < 100 ∧ okI (S.1 45 j) 6 ∧ okI (S.1 25 (gN (S.1 45 j))) 4
def cRate (S : Mem) (j : Nat) : Int32 := S.1 81 (gN (S.1 25 (gN (S.1 45 j))))
def cVal (S : Mem) (j : Nat) : Int64 := if ¬ S.1 76 j = nI 4 then (if ¬ S.1 76 j = nI 3 then (S.1 75 j).toInt64 * (cRate S j).toInt64 / 100 else S.2 79 j) else 0
def cIs (S : Mem) (j : Nat) (a b : Int32) : Bool := decide (S.1 47 j = a) && decide (S.1 76 j = b)

set_option maxRecDepth 100000 in
set_option maxHeartbeats 1000000 in
theorem ct_X0_rateOf (l : Launch) (D : va_G) (cA : Nat → ClassId) (α : Nat → Nat) (n sz : Nat) (hn : 191 ≤ n) (S : Mem) (j : Nat) (h : okC S j) : CtI l yX0_rateOf wsX0_rateOf ({ frames := 0, cells := 0, slots := 0, locals := 0 }) D cA α n sz [.ref (α 3), .int (nI j)] S (cRate S j) S := by
  refine ct_enter cX0_rateOf 2 (some .int) (by decide) rfl (Nat.le_of_ble_eq_true rfl) ?_
  intro p e s m below meth c hx hb hr hml hlocks hown hts hK hsz hw ls hl
  have hown : s.vm.findClass RX0 = some m.cls := hown
  have hAw : ∀ z, Aw α n s.heap.size z → Aw α n sz z := by rw [hsz]; exact fun _ h => h
  have hl : lv_has ls 2 [(0, .ref (α 3)), (1, .int (nI j))] := hl
  obtain ⟨h0, h1, h2⟩ := h
  have h3 := h1.2
  have h4 := h2.2
  refine lv_aload_n hx hb dX0_rateOf_0 rfl (lv_at hl 0 rfl) ?_
  refine x_get (v := .ref (α 74)) (C := RX0) (T := TX0) (N := 3) hx hb hts (fun _ h => List.mem_cons_of_mem _ (List.mem_append_left _ (List.mem_append_left _ (List.mem_append_left _ (List.mem_append_right _ h))))) hown hK hw 3 (Nat.lt_of_lt_of_le (Nat.le_of_ble_eq_true rfl : 3 < 191) hn) (mk_3 cA α) rfl 2 (by decide) (hts _ (List.mem_of_getElem? (i := 1) rfl)) (fun _ h9 => h9) rfl dX0_rateOf_1 ?_
  refine x_get (v := .ref (α 81)) (C := RX9) (T := TX9) (N := 14) hx hb hts (fun _ h => List.mem_cons_of_mem _ (List.mem_append_left _ (List.mem_append_left _ (List.mem_append_right _ h)))) hown hK hw 74 (Nat.lt_of_lt_of_le (Nat.le_of_ble_eq_true rfl : 74 < 191) hn) (mk_74 cA α) rfl 12 (by decide) (hts _ (List.mem_of_getElem? (i := 2) rfl)) (fun _ h9 => h9) rfl dX0_rateOf_4 ?_
  refine lv_aload_n hx hb dX0_rateOf_7 rfl (lv_at hl 0 rfl) ?_
  refine x_get (v := .ref (α 23)) (C := RX0) (T := TX0) (N := 3) hx hb hts (fun _ h => List.mem_cons_of_mem _ (List.mem_append_left _ (List.mem_append_left _ (List.mem_append_left _ (List.mem_append_right _ h))))) hown hK hw 3 (Nat.lt_of_lt_of_le (Nat.le_of_ble_eq_true rfl : 3 < 191) hn) (mk_3 cA α) rfl 0 (by decide) (hts _ (List.mem_of_getElem? (i := 3) rfl)) (fun _ h9 => h9) rfl dX0_rateOf_8 ?_
  refine x_get (v := .ref (α 25)) (C := RX2) (T := TX2) (N := 12) hx hb hts (fun _ h => List.mem_cons_of_mem _ (List.mem_append_left _ (List.mem_append_right _ h))) hown hK hw 23 (Nat.lt_of_lt_of_le (Nat.le_of_ble_eq_true rfl : 23 < 191) hn) (mk_23 cA α) rfl 7 (by decide) (hts _ (List.mem_of_getElem? (i := 4) rfl)) (fun _ h9 => h9) rfl dX0_rateOf_11 ?_
  refine lv_aload_n hx hb dX0_rateOf_14 rfl (lv_at hl 0 rfl) ?_
  refine x_get (v := .ref (α 44)) (C := RX0) (T := TX0) (N := 3) hx hb hts (fun _ h => List.mem_cons_of_mem _ (List.mem_append_left _ (List.mem_append_left _ (List.mem_append_left _ (List.mem_append_right _ h))))) hown hK hw 3 (Nat.lt_of_lt_of_le (Nat.le_of_ble_eq_true rfl : 3 < 191) hn) (mk_3 cA α) rfl 1 (by decide) (hts _ (List.mem_of_getElem? (i := 5) rfl)) (fun _ h9 => h9) rfl dX0_rateOf_15 ?_
  refine x_get (v := .ref (α 45)) (C := RX7) (T := TX7) (N := 9) hx hb hts (fun _ h => List.mem_cons_of_mem _ (List.mem_append_right _ h)) hown hK hw 44 (Nat.lt_of_lt_of_le (Nat.le_of_ble_eq_true rfl : 44 < 191) hn) (mk_44 cA α) rfl 0 (by decide) (hts _ (List.mem_of_getElem? (i := 6) rfl)) (fun _ h9 => h9) rfl dX0_rateOf_18 ?_
  refine lv_iload_n hx hb dX0_rateOf_21 rfl (lv_at hl 1 rfl) ?_
  refine x_iald hx hb hK hw 45 100 (Nat.lt_of_lt_of_le (Nat.le_of_ble_eq_true rfl : 45 < 191) hn) (mk_45 cA α) j rfl (by omega) (by decide) dX0_rateOf_22 ?_
  refine x_topN (k := gN (S.1 45 j)) h1.1 ?_
  refine x_iald hx hb hK hw 25 6 (Nat.lt_of_lt_of_le (Nat.le_of_ble_eq_true rfl : 25 < 191) hn) (mk_25 cA α) (gN (S.1 45 j)) rfl (by omega) (by decide) dX0_rateOf_23 ?_
  refine x_topN (k := gN (S.1 25 (gN (S.1 45 j)))) h2.1 ?_
  refine x_iald hx hb hK hw 81 4 (Nat.lt_of_lt_of_le (Nat.le_of_ble_eq_true rfl : 81 < 191) hn) (mk_81 cA α) (gN (S.1 25 (gN (S.1 45 j)))) rfl (by omega) (by decide) dX0_rateOf_24 ?_
  exact ret_i hx hb hr hlocks hK hw dX0_rateOf_25 (by first | (simp only [cRate, eq_self, if_true, if_false, eq_self, Bool.false_eq_true, not_true_eq_false, not_false_eq_true, decide_true, decide_false, Bool.and_true, Bool.true_and, Bool.and_false, Bool.false_and, Bool.not_true, Bool.not_false, Bool.or_true, Bool.true_or, Bool.or_false, Bool.false_or, reduceIte, b2i_t, b2i_f]; done) | rfl | (simp [cRate, eq_self, b2i, nI_0, nI_one]; done)) rfl

set_option maxRecDepth 100000 in
set_option maxHeartbeats 1000000 in
theorem ct_X0_valueOf (l : Launch) (D : va_G) (cA : Nat → ClassId) (α : Nat → Nat) (n sz : Nat) (hn : 191 ≤ n) (S : Mem) (j : Nat) (h : okC S j) : CtL l yX0_valueOf wsX0_valueOf ({ frames := 1, cells := 0, slots := 0, locals := 21 }) D cA α n sz [.ref (α 3), .int (nI j)] S (cVal S j) S := by
  refine ct_enter cX0_valueOf 3 (some .long) (by decide) rfl (Nat.le_of_ble_eq_true rfl) ?_
  intro p e s m below meth c hx hb hr hml hlocks hown hts hK hsz hw ls hl
  have hown : s.vm.findClass RX0 = some m.cls := hown
  have hAw : ∀ z, Aw α n s.heap.size z → Aw α n sz z := by rw [hsz]; exact fun _ h => h
  have hl : lv_has ls 3 [(0, .ref (α 3)), (1, .int (nI j))] := hl
  have h0 := h.1
  refine lv_aload_n hx hb dX0_valueOf_0 rfl (lv_at hl 0 rfl) ?_
  refine x_get (v := .ref (α 74)) (C := RX0) (T := TX0) (N := 3) hx hb hts (fun _ h => List.mem_cons_of_mem _ (List.mem_append_left _ (List.mem_append_left _ (List.mem_append_left _ (List.mem_append_right _ h))))) hown hK hw 3 (Nat.lt_of_lt_of_le (Nat.le_of_ble_eq_true rfl : 3 < 191) hn) (mk_3 cA α) rfl 2 (by decide) (hts _ (List.mem_of_getElem? (i := 1) rfl)) (fun _ h9 => h9) rfl dX0_valueOf_1 ?_
  refine x_get (v := .ref (α 76)) (C := RX9) (T := TX9) (N := 14) hx hb hts (fun _ h => List.mem_cons_of_mem _ (List.mem_append_left _ (List.mem_append_left _ (List.mem_append_right _ h)))) hown hK hw 74 (Nat.lt_of_lt_of_le (Nat.le_of_ble_eq_true rfl : 74 < 191) hn) (mk_74 cA α) rfl 7 (by decide) (hts _ (List.mem_of_getElem? (i := 2) rfl)) (fun _ h9 => h9) rfl dX0_valueOf_4 ?_
  refine lv_iload_n hx hb dX0_valueOf_7 rfl (lv_at hl 1 rfl) ?_
  refine x_iald hx hb hK hw 76 100 (Nat.lt_of_lt_of_le (Nat.le_of_ble_eq_true rfl : 76 < 191) hn) (mk_76 cA α) j rfl (by omega) (by decide) dX0_valueOf_8 ?_
  refine lv_istore_n (lv' := [(2, .int (S.1 76 j)), (0, .ref (α 3)), (1, .int (nI j))]) hx hb dX0_valueOf_9 rfl hl (by decide) rfl (fun ls hl => ?_)
  refine lv_iload_n hx hb dX0_valueOf_10 rfl (lv_at hl 0 rfl) ?_
  refine lv_iconst (v := nI 4) hx hb dX0_valueOf_11 (by decide) ?_
  refine lv_icmp_ne (tgt := 17) hx hb dX0_valueOf_12 (by decide) (fun c1 => ?_) (fun c1 => ?_)
  · skip
    refine lv_iload_n hx hb dX0_valueOf_17 rfl (lv_at hl 0 rfl) ?_
    refine lv_iconst (v := nI 3) hx hb dX0_valueOf_18 (by decide) ?_
    refine lv_icmp_ne (tgt := 32) hx hb dX0_valueOf_19 (by decide) (fun c2 => ?_) (fun c2 => ?_)
    · skip
      refine lv_aload_n hx hb dX0_valueOf_32 rfl (lv_at hl 1 rfl) ?_
      refine x_get (v := .ref (α 74)) (C := RX0) (T := TX0) (N := 3) hx hb hts (fun _ h => List.mem_cons_of_mem _ (List.mem_append_left _ (List.mem_append_left _ (List.mem_append_left _ (List.mem_append_right _ h))))) hown hK hw 3 (Nat.lt_of_lt_of_le (Nat.le_of_ble_eq_true rfl : 3 < 191) hn) (mk_3 cA α) rfl 2 (by decide) (hts _ (List.mem_of_getElem? (i := 1) rfl)) (fun _ h9 => h9) rfl dX0_valueOf_33 ?_
      refine x_get (v := .ref (α 75)) (C := RX9) (T := TX9) (N := 14) hx hb hts (fun _ h => List.mem_cons_of_mem _ (List.mem_append_left _ (List.mem_append_left _ (List.mem_append_right _ h)))) hown hK hw 74 (Nat.lt_of_lt_of_le (Nat.le_of_ble_eq_true rfl : 74 < 191) hn) (mk_74 cA α) rfl 6 (by decide) (hts _ (List.mem_of_getElem? (i := 4) rfl)) (fun _ h9 => h9) rfl dX0_valueOf_36 ?_
      refine lv_iload_n hx hb dX0_valueOf_39 rfl (lv_at hl 2 rfl) ?_
      refine x_iald hx hb hK hw 75 100 (Nat.lt_of_lt_of_le (Nat.le_of_ble_eq_true rfl : 75 < 191) hn) (mk_75 cA α) j rfl (by omega) (by decide) dX0_valueOf_40 ?_
      refine lv_i2l hx hb dX0_valueOf_41 rfl ?_
      refine lv_aload_n hx hb dX0_valueOf_42 rfl (lv_at hl 1 rfl) ?_
      refine lv_iload_n hx hb dX0_valueOf_43 rfl (lv_at hl 2 rfl) ?_
      refine x_callVIr (q := 3) (C := RX0) (As := [.int (nI j)]) (rest := [.long ((S.1 75 j).toInt64)]) ⟨hx, hb, hml, hown, hts⟩ (ct_X0_rateOf l D cA α n _ hn S j h) (cwV 1 hts gX0_valueOf_X0_rateOf rfl rfl rfl (by decide +kernel) ⟨Nat.le_of_ble_eq_true rfl, Nat.le_of_ble_eq_true rfl⟩) hK hw hAw (ws_recv hK hw (q := 3) (Nat.lt_of_lt_of_le (Nat.le_of_ble_eq_true rfl : 3 < 191) hn) (mk_3 cA α) rfl) rfl hl.1 rfl (Nat.le_of_ble_eq_true rfl) dX0_valueOf_44 ⟨Nat.zero_le _, Nat.zero_le _⟩ (fun H locs hw => ?_)
      refine lv_i2l hx hb dX0_valueOf_47 rfl ?_
      refine lv_lmul hx hb dX0_valueOf_48 ?_
      refine lv_ldc2 (v := 100) hx hb hown (hts _ (List.mem_of_getElem? (i := 5) rfl)) dX0_valueOf_49 ?_
      refine lv_ldiv hx hb dX0_valueOf_52 (by decide) ?_
      exact ret_l hx hb hr hlocks hK hw dX0_valueOf_53 (by first | (simp only [cVal, if_neg c1, if_pos c1, decide_eq_false c1, if_neg c2, if_pos c2, decide_eq_false c2, if_true, if_false, eq_self, Bool.false_eq_true, not_true_eq_false, not_false_eq_true, decide_true, decide_false, Bool.and_true, Bool.true_and, Bool.and_false, Bool.false_and, Bool.not_true, Bool.not_false, Bool.or_true, Bool.true_or, Bool.or_false, Bool.false_or, reduceIte, b2i_t, b2i_f]; done) | rfl | (simp [cVal, if_neg c1, if_pos c1, decide_eq_false c1, if_neg c2, if_pos c2, decide_eq_false c2, b2i, nI_0, nI_one]; done)) rfl
    · skip
      refine lv_aload_n hx hb dX0_valueOf_22 rfl (lv_at hl 1 rfl) ?_
      refine x_get (v := .ref (α 74)) (C := RX0) (T := TX0) (N := 3) hx hb hts (fun _ h => List.mem_cons_of_mem _ (List.mem_append_left _ (List.mem_append_left _ (List.mem_append_left _ (List.mem_append_right _ h))))) hown hK hw 3 (Nat.lt_of_lt_of_le (Nat.le_of_ble_eq_true rfl : 3 < 191) hn) (mk_3 cA α) rfl 2 (by decide) (hts _ (List.mem_of_getElem? (i := 1) rfl)) (fun _ h9 => h9) rfl dX0_valueOf_23 ?_
      refine x_get (v := .ref (α 79)) (C := RX9) (T := TX9) (N := 14) hx hb hts (fun _ h => List.mem_cons_of_mem _ (List.mem_append_left _ (List.mem_append_left _ (List.mem_append_right _ h)))) hown hK hw 74 (Nat.lt_of_lt_of_le (Nat.le_of_ble_eq_true rfl : 74 < 191) hn) (mk_74 cA α) rfl 10 (by decide) (hts _ (List.mem_of_getElem? (i := 3) rfl)) (fun _ h9 => h9) rfl dX0_valueOf_26 ?_
      refine lv_iload_n hx hb dX0_valueOf_29 rfl (lv_at hl 2 rfl) ?_
      refine x_lald hx hb hK hw 79 100 (Nat.lt_of_lt_of_le (Nat.le_of_ble_eq_true rfl : 79 < 191) hn) (mk_79 cA α) j rfl (by omega) (by decide) dX0_valueOf_30 ?_
      exact ret_l hx hb hr hlocks hK hw dX0_valueOf_31 (by first | (simp only [cVal, if_neg c1, if_pos c1, decide_eq_false c1, if_pos c2, if_neg (not_not_intro c2), decide_eq_true c2, if_true, if_false, eq_self, Bool.false_eq_true, not_true_eq_false, not_false_eq_true, decide_true, decide_false, Bool.and_true, Bool.true_and, Bool.and_false, Bool.false_and, Bool.not_true, Bool.not_false, Bool.or_true, Bool.true_or, Bool.or_false, Bool.false_or, reduceIte, b2i_t, b2i_f]; done) | rfl | (simp [cVal, if_neg c1, if_pos c1, decide_eq_false c1, if_pos c2, if_neg (not_not_intro c2), decide_eq_true c2, b2i, nI_0, nI_one]; done)) rfl
  · skip
    refine lv_lconst (v := 0) hx hb dX0_valueOf_15 (by decide) ?_
    exact ret_l hx hb hr hlocks hK hw dX0_valueOf_16 (by first | (simp only [cVal, if_pos c1, if_neg (not_not_intro c1), decide_eq_true c1, if_true, if_false, eq_self, Bool.false_eq_true, not_true_eq_false, not_false_eq_true, decide_true, decide_false, Bool.and_true, Bool.true_and, Bool.and_false, Bool.false_and, Bool.not_true, Bool.not_false, Bool.or_true, Bool.true_or, Bool.or_false, Bool.false_or, reduceIte, b2i_t, b2i_f]; done) | rfl | (simp [cVal, if_pos c1, if_neg (not_not_intro c1), decide_eq_true c1, b2i, nI_0, nI_one]; done)) rfl

set_option maxRecDepth 100000 in
set_option maxHeartbeats 1000000 in
theorem ct_X0_amountWorth (l : Launch) (D : va_G) (cA : Nat → ClassId) (α : Nat → Nat) (n sz : Nat) (hn : 191 ≤ n) (S : Mem) (v : Int64) (j : Nat) (h : okC S j) : CtL l yX0_amountWorth wsX0_amountWorth ({ frames := 1, cells := 0, slots := 0, locals := 21 }) D cA α n sz [.ref (α 3), .long v, .int (nI j)] S (if nI 1 ≤ cRate S j then v * 100 / (cRate S j).toInt64 else 0) S := by
  refine ct_enter cX0_amountWorth 5 (some .long) (by decide) rfl (Nat.le_of_ble_eq_true rfl) ?_
  intro p e s m below meth c hx hb hr hml hlocks hown hts hK hsz hw ls hl
  have hown : s.vm.findClass RX0 = some m.cls := hown
  have hAw : ∀ z, Aw α n s.heap.size z → Aw α n sz z := by rw [hsz]; exact fun _ h => h
  have hl : lv_has ls 5 [(0, .ref (α 3)), (1, .long v), (3, .int (nI j))] := hl
  refine lv_aload_n hx hb dX0_amountWorth_0 rfl (lv_at hl 0 rfl) ?_
  refine lv_iload_n hx hb dX0_amountWorth_1 rfl (lv_at hl 2 rfl) ?_
  refine x_callVIr (q := 3) (C := RX0) (As := [.int (nI j)]) (rest := []) ⟨hx, hb, hml, hown, hts⟩ (ct_X0_rateOf l D cA α n _ hn S j h) (cwV 1 hts gX0_amountWorth_X0_rateOf rfl rfl rfl (by decide +kernel) ⟨Nat.le_of_ble_eq_true rfl, Nat.le_of_ble_eq_true rfl⟩) hK hw hAw (ws_recv hK hw (q := 3) (Nat.lt_of_lt_of_le (Nat.le_of_ble_eq_true rfl : 3 < 191) hn) (mk_3 cA α) rfl) rfl hl.1 rfl (Nat.le_of_ble_eq_true rfl) dX0_amountWorth_2 ⟨Nat.zero_le _, Nat.zero_le _⟩ (fun H locs hw => ?_)
  refine lv_istore (lv' := [(4, .int (cRate S j)), (0, .ref (α 3)), (1, .long v), (3, .int (nI j))]) hx hb dX0_amountWorth_5 hl (by decide) rfl (fun ls hl => ?_)
  refine lv_iload hx hb dX0_amountWorth_7 (lv_at hl 0 rfl) ?_
  refine lv_iconst (v := nI 1) hx hb dX0_amountWorth_9 (by decide) ?_
  refine lv_icmp_ge (tgt := 15) hx hb dX0_amountWorth_10 (by decide) (fun c1 => ?_) (fun c1 => ?_)
  · skip
    refine lv_lload_n hx hb dX0_amountWorth_15 rfl (lv_at hl 2 rfl) ?_
    refine lv_ldc2 (v := 100) hx hb hown (hts _ (List.mem_of_getElem? (i := 1) rfl)) dX0_amountWorth_16 ?_
    refine lv_lmul hx hb dX0_amountWorth_19 ?_
    refine lv_iload hx hb dX0_amountWorth_20 (lv_at hl 0 rfl) ?_
    refine lv_i2l hx hb dX0_amountWorth_22 rfl ?_
    refine lv_ldiv hx hb dX0_amountWorth_23 (i64_ne0 c1) ?_
    exact ret_l hx hb hr hlocks hK hw dX0_amountWorth_24 (by first | (simp only [eq_self, if_pos c1, if_neg (not_not_intro c1), decide_eq_true c1, if_true, if_false, eq_self, Bool.false_eq_true, not_true_eq_false, not_false_eq_true, decide_true, decide_false, Bool.and_true, Bool.true_and, Bool.and_false, Bool.false_and, Bool.not_true, Bool.not_false, Bool.or_true, Bool.true_or, Bool.or_false, Bool.false_or, reduceIte, b2i_t, b2i_f]; done) | rfl | (simp [eq_self, if_pos c1, if_neg (not_not_intro c1), decide_eq_true c1, b2i, nI_0, nI_one]; done)) rfl
  · skip
    refine lv_lconst (v := 0) hx hb dX0_amountWorth_13 (by decide) ?_
    exact ret_l hx hb hr hlocks hK hw dX0_amountWorth_14 (by first | (simp only [eq_self, if_neg c1, if_pos c1, decide_eq_false c1, if_true, if_false, eq_self, Bool.false_eq_true, not_true_eq_false, not_false_eq_true, decide_true, decide_false, Bool.and_true, Bool.true_and, Bool.and_false, Bool.false_and, Bool.not_true, Bool.not_false, Bool.or_true, Bool.true_or, Bool.or_false, Bool.false_or, reduceIte, b2i_t, b2i_f]; done) | rfl | (simp [eq_self, if_neg c1, if_pos c1, decide_eq_false c1, b2i, nI_0, nI_one]; done)) rfl

set_option maxRecDepth 100000 in
set_option maxHeartbeats 1000000 in
theorem ct_X0_isIn (l : Launch) (D : va_G) (cA : Nat → ClassId) (α : Nat → Nat) (n sz : Nat) (hn : 191 ≤ n) (S : Mem) (j : Nat) (a b : Int32) (hj : j < 100) : CtI l yX0_isIn wsX0_isIn ({ frames := 0, cells := 0, slots := 0, locals := 0 }) D cA α n sz [.ref (α 3), .int (nI j), .int a, .int b] S (b2i (cIs S j a b)) S := by
  refine ct_enter cX0_isIn 4 (some .boolean) (by decide) rfl (Nat.le_of_ble_eq_true rfl) ?_
  intro p e s m below meth c hx hb hr hml hlocks hown hts hK hsz hw ls hl
  have hown : s.vm.findClass RX0 = some m.cls := hown
  have hAw : ∀ z, Aw α n s.heap.size z → Aw α n sz z := by rw [hsz]; exact fun _ h => h
  have hl : lv_has ls 4 [(0, .ref (α 3)), (1, .int (nI j)), (2, .int a), (3, .int b)] := hl
  refine lv_aload_n hx hb dX0_isIn_0 rfl (lv_at hl 0 rfl) ?_
  refine x_get (v := .ref (α 44)) (C := RX0) (T := TX0) (N := 3) hx hb hts (fun _ h => List.mem_cons_of_mem _ (List.mem_append_left _ (List.mem_append_left _ (List.mem_append_right _ h)))) hown hK hw 3 (Nat.lt_of_lt_of_le (Nat.le_of_ble_eq_true rfl : 3 < 191) hn) (mk_3 cA α) rfl 1 (by decide) (hts _ (List.mem_of_getElem? (i := 1) rfl)) (fun _ h9 => h9) rfl dX0_isIn_1 ?_
  refine x_get (v := .ref (α 47)) (C := RX7) (T := TX7) (N := 9) hx hb hts (fun _ h => List.mem_cons_of_mem _ (List.mem_append_left _ (List.mem_append_right _ h))) hown hK hw 44 (Nat.lt_of_lt_of_le (Nat.le_of_ble_eq_true rfl : 44 < 191) hn) (mk_44 cA α) rfl 2 (by decide) (hts _ (List.mem_of_getElem? (i := 2) rfl)) (fun _ h9 => h9) rfl dX0_isIn_4 ?_
  refine lv_iload_n hx hb dX0_isIn_7 rfl (lv_at hl 1 rfl) ?_
  refine x_iald hx hb hK hw 47 100 (Nat.lt_of_lt_of_le (Nat.le_of_ble_eq_true rfl : 47 < 191) hn) (mk_47 cA α) j rfl (by omega) (by decide) dX0_isIn_8 ?_
  refine lv_iload_n hx hb dX0_isIn_9 rfl (lv_at hl 2 rfl) ?_
  refine lv_icmp_ne (tgt := 30) hx hb dX0_isIn_10 (by decide) (fun c1 => ?_) (fun c1 => ?_)
  · skip
    refine lv_iconst (v := nI 0) hx hb dX0_isIn_30 (by decide) ?_
    exact ret_z hx hb hr (by first | rfl | decide | exact narB _) hlocks hK hw dX0_isIn_31 (by first | (simp only [cIs, if_neg c1, if_pos c1, decide_eq_false c1, if_true, if_false, eq_self, Bool.false_eq_true, not_true_eq_false, not_false_eq_true, decide_true, decide_false, Bool.and_true, Bool.true_and, Bool.and_false, Bool.false_and, Bool.not_true, Bool.not_false, Bool.or_true, Bool.true_or, Bool.or_false, Bool.false_or, reduceIte, b2i_t, b2i_f]; done) | rfl | (simp [cIs, if_neg c1, if_pos c1, decide_eq_false c1, b2i, nI_0, nI_one]; done)) rfl
  · skip
    refine lv_aload_n hx hb dX0_isIn_13 rfl (lv_at hl 0 rfl) ?_
    refine x_get (v := .ref (α 74)) (C := RX0) (T := TX0) (N := 3) hx hb hts (fun _ h => List.mem_cons_of_mem _ (List.mem_append_left _ (List.mem_append_left _ (List.mem_append_right _ h)))) hown hK hw 3 (Nat.lt_of_lt_of_le (Nat.le_of_ble_eq_true rfl : 3 < 191) hn) (mk_3 cA α) rfl 2 (by decide) (hts _ (List.mem_of_getElem? (i := 3) rfl)) (fun _ h9 => h9) rfl dX0_isIn_14 ?_
    refine x_get (v := .ref (α 76)) (C := RX9) (T := TX9) (N := 14) hx hb hts (fun _ h => List.mem_cons_of_mem _ (List.mem_append_right _ h)) hown hK hw 74 (Nat.lt_of_lt_of_le (Nat.le_of_ble_eq_true rfl : 74 < 191) hn) (mk_74 cA α) rfl 7 (by decide) (hts _ (List.mem_of_getElem? (i := 4) rfl)) (fun _ h9 => h9) rfl dX0_isIn_17 ?_
    refine lv_iload_n hx hb dX0_isIn_20 rfl (lv_at hl 1 rfl) ?_
    refine x_iald hx hb hK hw 76 100 (Nat.lt_of_lt_of_le (Nat.le_of_ble_eq_true rfl : 76 < 191) hn) (mk_76 cA α) j rfl (by omega) (by decide) dX0_isIn_21 ?_
    refine lv_iload_n hx hb dX0_isIn_22 rfl (lv_at hl 3 rfl) ?_
    refine lv_icmp_ne (tgt := 30) hx hb dX0_isIn_23 (by decide) (fun c2 => ?_) (fun c2 => ?_)
    · skip
      refine lv_iconst (v := nI 0) hx hb dX0_isIn_30 (by decide) ?_
      exact ret_z hx hb hr (by first | rfl | decide | exact narB _) hlocks hK hw dX0_isIn_31 (by first | (simp only [cIs, if_pos c1, if_neg (not_not_intro c1), decide_eq_true c1, if_neg c2, if_pos c2, decide_eq_false c2, if_true, if_false, eq_self, Bool.false_eq_true, not_true_eq_false, not_false_eq_true, decide_true, decide_false, Bool.and_true, Bool.true_and, Bool.and_false, Bool.false_and, Bool.not_true, Bool.not_false, Bool.or_true, Bool.true_or, Bool.or_false, Bool.false_or, reduceIte, b2i_t, b2i_f]; done) | rfl | (simp [cIs, if_pos c1, if_neg (not_not_intro c1), decide_eq_true c1, if_neg c2, if_pos c2, decide_eq_false c2, b2i, nI_0, nI_one]; done)) rfl
    · skip
      refine lv_iconst (v := nI 1) hx hb dX0_isIn_26 (by decide) ?_
      refine lv_goto (tgt := 31) hx hb dX0_isIn_27 (by decide) ?_
      exact ret_z hx hb hr (by first | rfl | decide | exact narB _) hlocks hK hw dX0_isIn_31 (by first | (simp only [cIs, if_pos c1, if_neg (not_not_intro c1), decide_eq_true c1, if_pos c2, if_neg (not_not_intro c2), decide_eq_true c2, if_true, if_false, eq_self, Bool.false_eq_true, not_true_eq_false, not_false_eq_true, decide_true, decide_false, Bool.and_true, Bool.true_and, Bool.and_false, Bool.false_and, Bool.not_true, Bool.not_false, Bool.or_true, Bool.true_or, Bool.or_false, Bool.false_or, reduceIte, b2i_t, b2i_f]; done) | rfl | (simp [cIs, if_pos c1, if_neg (not_not_intro c1), decide_eq_true c1, if_pos c2, if_neg (not_not_intro c2), decide_eq_true c2, b2i, nI_0, nI_one]; done)) rfl

set_option maxRecDepth 100000 in
set_option maxHeartbeats 1000000 in
theorem ct_X0_receivablesIn (l : Launch) (D : va_G) (cA : Nat → ClassId) (α : Nat → Nat) (n sz : Nat) (hn : 191 ≤ n) (S : Mem) (x : Int32) (N : Nat) (hN : S.1 74 0 = nI N) (hN2 : N ≤ 100) : CtI l yX0_receivablesIn wsX0_receivablesIn ({ frames := 1, cells := 0, slots := 0, locals := 23 }) D cA α n sz [.ref (α 3), .int x] S (nI (cnt (fun j => cIs S j (nI 0) x) N)) S := by
  refine ct_enter cX0_receivablesIn 4 (some .int) (by decide) rfl (Nat.le_of_ble_eq_true rfl) ?_
  intro p e s m below meth c hx hb hr hml hlocks hown hts hK hsz hw ls hl
  have hown : s.vm.findClass RX0 = some m.cls := hown
  have hAw : ∀ z, Aw α n s.heap.size z → Aw α n sz z := by rw [hsz]; exact fun _ h => h
  have hl : lv_has ls 4 [(0, .ref (α 3)), (1, .int x)] := hl
  refine lv_iconst (v := nI 0) hx hb dX0_receivablesIn_0 (by decide) ?_
  refine lv_istore_n (lv' := [(2, .int (nI 0)), (0, .ref (α 3)), (1, .int x)]) hx hb dX0_receivablesIn_1 rfl hl (by decide) rfl (fun ls hl => ?_)
  refine lv_iconst (v := nI 0) hx hb dX0_receivablesIn_2 (by decide) ?_
  refine lv_istore_n (lv' := [(3, .int (nI 0)), (2, .int (nI 0)), (0, .ref (α 3)), (1, .int x)]) hx hb dX0_receivablesIn_3 rfl hl (by decide) rfl (fun ls hl => ?_)
  have lp4 : ∀ (t : Nat) (j : Nat) (k : Nat) (H : Heap) (locs : List Loc) (ls : Array Slot), N - j < t → j ≤ N → k = cnt (fun j => cIs S j (nI 0) x) j → Ws D cA α n (Aw α n sz) s.heap S H locs → lv_has ls 4 [(0, .ref (α 3)), (1, .int x), (3, .int (nI j)), (2, .int (nI k))] → W p l e ({ frames := 1, cells := 0, slots := 0, locals := 23 } : Room) s m (List.toArray ([.ref (α 3), .int x] : List Value)) below meth c H locs 0 0 (MQ below (va_Qi (fun r u => r = (nI (cnt (fun j => cIs S j (nI 0) x) N)) ∧ u = S) (Pw D cA α n) (Aw α n sz)) (List.toArray ([.ref (α 3), .int x] : List Value)) s 0 0 (Aw α n sz)) (F0 m 4 ls []) := by
    intro t
    induction t with
    | zero => intro j k H locs ls ht; exact absurd ht (Nat.not_lt_zero _)
    | succ t ih4 =>
      intro j k H locs ls ht hj hk hw hl
      refine lv_iload_n hx hb dX0_receivablesIn_4 rfl (lv_at hl 2 rfl) ?_
      refine lv_aload_n hx hb dX0_receivablesIn_5 rfl (lv_at hl 0 rfl) ?_
      refine x_get (v := .ref (α 74)) (C := RX0) (T := TX0) (N := 3) hx hb hts (fun _ h => List.mem_cons_of_mem _ (List.mem_append_left _ (List.mem_append_left _ (List.mem_append_right _ h)))) hown hK hw 3 (Nat.lt_of_lt_of_le (Nat.le_of_ble_eq_true rfl : 3 < 191) hn) (mk_3 cA α) rfl 2 (by decide) (hts _ (List.mem_of_getElem? (i := 1) rfl)) (fun _ h9 => h9) rfl dX0_receivablesIn_6 ?_
      refine x_get (v := .int (S.1 74 0)) (C := RX9) (T := TX9) (N := 14) hx hb hts (fun _ h => List.mem_cons_of_mem _ (List.mem_append_left _ (List.mem_append_right _ h))) hown hK hw 74 (Nat.lt_of_lt_of_le (Nat.le_of_ble_eq_true rfl : 74 < 191) hn) (mk_74 cA α) rfl 0 (by decide) (hts _ (List.mem_of_getElem? (i := 2) rfl)) (fun _ h9 => h9) rfl dX0_receivablesIn_9 ?_
      refine x_topN (k := N) hN ?_
      refine xn_icmp_ge (tgt := 34) hx hb (by omega) (by omega) dX0_receivablesIn_12 (by decide) (fun c1 => ?_) (fun c1 => ?_)
      · skip
        refine lv_iload_n hx hb dX0_receivablesIn_34 rfl (lv_at hl 3 rfl) ?_
        exact ret_i hx hb hr hlocks hK hw dX0_receivablesIn_35 (by rw [hk, show j = N by omega]) rfl
      · skip
        refine lv_aload_n hx hb dX0_receivablesIn_15 rfl (lv_at hl 0 rfl) ?_
        refine lv_iload_n hx hb dX0_receivablesIn_16 rfl (lv_at hl 2 rfl) ?_
        refine lv_iconst (v := nI 0) hx hb dX0_receivablesIn_17 (by decide) ?_
        refine lv_iload_n hx hb dX0_receivablesIn_18 rfl (lv_at hl 1 rfl) ?_
        refine x_callVIr (q := 3) (C := RX0) (As := [.int (nI j), .int (nI 0), .int x]) (rest := []) ⟨hx, hb, hml, hown, hts⟩ (ct_X0_isIn l D cA α n _ hn S j (nI 0) x (by omega)) (cwV 3 hts gX0_receivablesIn_X0_isIn rfl rfl rfl (by decide +kernel) ⟨Nat.le_of_ble_eq_true rfl, Nat.le_of_ble_eq_true rfl⟩) hK hw hAw (ws_recv hK hw (q := 3) (Nat.lt_of_lt_of_le (Nat.le_of_ble_eq_true rfl : 3 < 191) hn) (mk_3 cA α) rfl) rfl hl.1 rfl (Nat.le_of_ble_eq_true rfl) dX0_receivablesIn_19 ⟨Nat.zero_le _, Nat.zero_le _⟩ (fun H locs hw => ?_)
        refine xb_eq (b := (cIs S j (nI 0) x)) (tgt := 28) hx hb dX0_receivablesIn_22 (by decide) (fun c2 => ?_) (fun c2 => ?_)
        · skip
          refine lv_iinc (v := nI (j + 1)) (lv' := [(3, .int (nI (j + 1))), (0, .ref (α 3)), (1, .int x), (2, .int (nI k))]) hx hb dX0_receivablesIn_28 hl (k := 2) rfl (nI_1 _) (by decide) rfl (fun ls hl => ?_)
          refine lv_goto (tgt := 4) hx hb dX0_receivablesIn_31 (by decide) ?_
          exact ih4 (j + 1) k _ _ _ (by omega) (by omega) (by rw [cnt, ← hk]; simp only [if_pos c1, if_neg (not_not_intro c1), decide_eq_true c1, c2, if_true, if_false, eq_self, Bool.false_eq_true, not_true_eq_false, not_false_eq_true, decide_true, decide_false, Bool.and_true, Bool.true_and, Bool.and_false, Bool.false_and, Bool.not_true, Bool.not_false, Bool.or_true, Bool.true_or, Bool.or_false, Bool.false_or, reduceIte, b2i_t, b2i_f]; try rfl) hw (lv_sub hl [1, 2, 0, 3] rfl)
        · skip
          refine lv_iinc (v := nI (k + 1)) (lv' := [(2, .int (nI (k + 1))), (0, .ref (α 3)), (1, .int x), (3, .int (nI j))]) hx hb dX0_receivablesIn_25 hl (k := 3) rfl (nI_1 _) (by decide) rfl (fun ls hl => ?_)
          refine lv_iinc (v := nI (j + 1)) (lv' := [(3, .int (nI (j + 1))), (2, .int (nI (k + 1))), (0, .ref (α 3)), (1, .int x)]) hx hb dX0_receivablesIn_28 hl (k := 3) rfl (nI_1 _) (by decide) rfl (fun ls hl => ?_)
          refine lv_goto (tgt := 4) hx hb dX0_receivablesIn_31 (by decide) ?_
          exact ih4 (j + 1) (k + 1) _ _ _ (by omega) (by omega) (by rw [cnt, ← hk]; simp only [if_pos c1, if_neg (not_not_intro c1), decide_eq_true c1, c2, if_true, if_false, eq_self, Bool.false_eq_true, not_true_eq_false, not_false_eq_true, decide_true, decide_false, Bool.and_true, Bool.true_and, Bool.and_false, Bool.false_and, Bool.not_true, Bool.not_false, Bool.or_true, Bool.true_or, Bool.or_false, Bool.false_or, reduceIte, b2i_t, b2i_f]; try rfl) hw (lv_sub hl [2, 3, 0, 1] rfl)
  exact lp4 _ 0 0 _ _ _ (Nat.lt_succ_self _) (Nat.zero_le _) rfl hw (lv_sub hl [2, 3, 0, 1] rfl)

def fNet (S : Mem) (a b : Int32) (j : Nat) : Int64 := if S.1 76 j < a then 0 else if b < S.1 76 j then 0 else if ¬ S.1 47 j = 0 then -(cVal S j) else cVal S j
def fBal (S : Mem) (a b : Int32) (j : Nat) : Int64 := if S.1 76 j < nI 3 then (if ¬ S.1 47 j = 0 then (if ¬ S.1 45 j = b then 0 else if ¬ S.1 46 j = a then 0 else -(cVal S j)) else (if ¬ S.1 45 j = a then 0 else if ¬ S.1 46 j = b then 0 else cVal S j)) else 0

set_option maxRecDepth 100000 in
set_option maxHeartbeats 1000000 in
theorem ct_X0_netOfStates (l : Launch) (D : va_G) (cA : Nat → ClassId) (α : Nat → Nat) (n sz : Nat) (hn : 191 ≤ n) (S : Mem) (a b : Int32) (N : Nat) (hN : S.1 74 0 = nI N) (hN2 : N ≤ 100) (ho : ∀ j, j < N → okC S j) : CtL l yX0_netOfStates wsX0_netOfStates ({ frames := 2, cells := 0, slots := 0, locals := 43 }) D cA α n sz [.ref (α 3), .int a, .int b] S (sumL (fNet S a b) N) S := by
  refine ct_enter cX0_netOfStates 7 (some .long) (by decide) rfl (Nat.le_of_ble_eq_true rfl) ?_
  intro p e s m below meth c hx hb hr hml hlocks hown hts hK hsz hw ls hl
  have hown : s.vm.findClass RX0 = some m.cls := hown
  have hAw : ∀ z, Aw α n s.heap.size z → Aw α n sz z := by rw [hsz]; exact fun _ h => h
  have hl : lv_has ls 7 [(0, .ref (α 3)), (1, .int a), (2, .int b)] := hl
  refine lv_lconst (v := 0) hx hb dX0_netOfStates_0 (by decide) ?_
  refine lv_lstore_n (lv' := [(3, .long 0), (0, .ref (α 3)), (1, .int a), (2, .int b)]) hx hb dX0_netOfStates_1 rfl hl (by decide) rfl (fun ls hl => ?_)
  refine lv_iconst (v := nI 0) hx hb dX0_netOfStates_2 (by decide) ?_
  refine lv_istore (lv' := [(5, .int (nI 0)), (3, .long 0), (0, .ref (α 3)), (1, .int a), (2, .int b)]) hx hb dX0_netOfStates_3 hl (by decide) rfl (fun ls hl => ?_)
  have lp5 : ∀ (t : Nat) (j : Nat) (acc : Int64) (H : Heap) (locs : List Loc) (ls : Array Slot), N - j < t → j ≤ N → acc = sumL (fNet S a b) j → Ws D cA α n (Aw α n sz) s.heap S H locs → lv_has ls 7 [(0, .ref (α 3)), (1, .int a), (2, .int b), (5, .int (nI j)), (3, .long acc)] → W p l e ({ frames := 2, cells := 0, slots := 0, locals := 43 } : Room) s m (List.toArray ([.ref (α 3), .int a, .int b] : List Value)) below meth c H locs 0 0 (MQ below (va_Ql (fun r u => r = (sumL (fNet S a b) N) ∧ u = S) (Pw D cA α n) (Aw α n sz)) (List.toArray ([.ref (α 3), .int a, .int b] : List Value)) s 0 0 (Aw α n sz)) (F0 m 5 ls []) := by
    intro t
    induction t with
    | zero => intro j acc H locs ls ht; exact absurd ht (Nat.not_lt_zero _)
    | succ t ih5 =>
      intro j acc H locs ls ht hj hk hw hl
      refine lv_iload hx hb dX0_netOfStates_5 (lv_at hl 3 rfl) ?_
      refine lv_aload_n hx hb dX0_netOfStates_7 rfl (lv_at hl 0 rfl) ?_
      refine x_get (v := .ref (α 74)) (C := RX0) (T := TX0) (N := 3) hx hb hts (fun _ h => List.mem_cons_of_mem _ (List.mem_append_left _ (List.mem_append_left _ (List.mem_append_left _ (List.mem_append_right _ h))))) hown hK hw 3 (Nat.lt_of_lt_of_le (Nat.le_of_ble_eq_true rfl : 3 < 191) hn) (mk_3 cA α) rfl 2 (by decide) (hts _ (List.mem_of_getElem? (i := 1) rfl)) (fun _ h9 => h9) rfl dX0_netOfStates_8 ?_
      refine x_get (v := .int (S.1 74 0)) (C := RX9) (T := TX9) (N := 14) hx hb hts (fun _ h => List.mem_cons_of_mem _ (List.mem_append_left _ (List.mem_append_left _ (List.mem_append_right _ h)))) hown hK hw 74 (Nat.lt_of_lt_of_le (Nat.le_of_ble_eq_true rfl : 74 < 191) hn) (mk_74 cA α) rfl 0 (by decide) (hts _ (List.mem_of_getElem? (i := 2) rfl)) (fun _ h9 => h9) rfl dX0_netOfStates_11 ?_
      refine x_topN (k := N) hN ?_
      refine xn_icmp_ge (tgt := 79) hx hb (by omega) (by omega) dX0_netOfStates_14 (by decide) (fun c1 => ?_) (fun c1 => ?_)
      · skip
        refine lv_lload_n hx hb dX0_netOfStates_79 rfl (lv_at hl 4 rfl) ?_
        exact ret_l hx hb hr hlocks hK hw dX0_netOfStates_80 (by rw [hk, show j = N by omega]) rfl
      · skip
        refine lv_aload_n hx hb dX0_netOfStates_17 rfl (lv_at hl 0 rfl) ?_
        refine x_get (v := .ref (α 74)) (C := RX0) (T := TX0) (N := 3) hx hb hts (fun _ h => List.mem_cons_of_mem _ (List.mem_append_left _ (List.mem_append_left _ (List.mem_append_left _ (List.mem_append_right _ h))))) hown hK hw 3 (Nat.lt_of_lt_of_le (Nat.le_of_ble_eq_true rfl : 3 < 191) hn) (mk_3 cA α) rfl 2 (by decide) (hts _ (List.mem_of_getElem? (i := 1) rfl)) (fun _ h9 => h9) rfl dX0_netOfStates_18 ?_
        refine x_get (v := .ref (α 76)) (C := RX9) (T := TX9) (N := 14) hx hb hts (fun _ h => List.mem_cons_of_mem _ (List.mem_append_left _ (List.mem_append_left _ (List.mem_append_right _ h)))) hown hK hw 74 (Nat.lt_of_lt_of_le (Nat.le_of_ble_eq_true rfl : 74 < 191) hn) (mk_74 cA α) rfl 7 (by decide) (hts _ (List.mem_of_getElem? (i := 3) rfl)) (fun _ h9 => h9) rfl dX0_netOfStates_21 ?_
        refine lv_iload hx hb dX0_netOfStates_24 (lv_at hl 3 rfl) ?_
        refine x_iald hx hb hK hw 76 100 (Nat.lt_of_lt_of_le (Nat.le_of_ble_eq_true rfl : 76 < 191) hn) (mk_76 cA α) j rfl (by omega) (by decide) dX0_netOfStates_26 ?_
        refine lv_istore (lv' := [(6, .int (S.1 76 j)), (0, .ref (α 3)), (1, .int a), (2, .int b), (5, .int (nI j)), (3, .long acc)]) hx hb dX0_netOfStates_27 hl (by decide) rfl (fun ls hl => ?_)
        refine lv_iload hx hb dX0_netOfStates_29 (lv_at hl 0 rfl) ?_
        refine lv_iload_n hx hb dX0_netOfStates_31 rfl (lv_at hl 2 rfl) ?_
        refine lv_icmp_lt (tgt := 73) hx hb dX0_netOfStates_32 (by decide) (fun c2 => ?_) (fun c2 => ?_)
        · skip
          refine lv_iinc (v := nI (j + 1)) (lv' := [(5, .int (nI (j + 1))), (6, .int (S.1 76 j)), (0, .ref (α 3)), (1, .int a), (2, .int b), (3, .long acc)]) hx hb dX0_netOfStates_73 hl (k := 4) rfl (nI_1 _) (by decide) rfl (fun ls hl => ?_)
          refine lv_goto (tgt := 5) hx hb dX0_netOfStates_76 (by decide) ?_
          exact ih5 (j + 1) acc _ _ _ (by omega) (by omega) (by rw [sumL, ← hk]; first | (simp only [fNet, if_pos c1, if_neg (not_not_intro c1), decide_eq_true c1, if_pos c2, if_neg (not_not_intro c2), decide_eq_true c2, if_true, if_false, eq_self, Bool.false_eq_true, not_true_eq_false, not_false_eq_true, decide_true, decide_false, Bool.and_true, Bool.true_and, Bool.and_false, Bool.false_and, Bool.not_true, Bool.not_false, Bool.or_true, Bool.true_or, Bool.or_false, Bool.false_or, reduceIte, b2i_t, b2i_f, Int64.add_zero, Int64.sub_eq_add_neg]; done) | (simp [fNet, if_pos c1, if_neg (not_not_intro c1), decide_eq_true c1, if_pos c2, if_neg (not_not_intro c2), decide_eq_true c2, Int64.sub_eq_add_neg]; done)) hw (lv_sub hl [2, 3, 4, 0, 5] rfl)
        · skip
          refine lv_iload hx hb dX0_netOfStates_35 (lv_at hl 0 rfl) ?_
          refine lv_iload_n hx hb dX0_netOfStates_37 rfl (lv_at hl 3 rfl) ?_
          refine lv_icmp_gt (tgt := 73) hx hb dX0_netOfStates_38 (by decide) (fun c3 => ?_) (fun c3 => ?_)
          · skip
            refine lv_iinc (v := nI (j + 1)) (lv' := [(5, .int (nI (j + 1))), (6, .int (S.1 76 j)), (0, .ref (α 3)), (1, .int a), (2, .int b), (3, .long acc)]) hx hb dX0_netOfStates_73 hl (k := 4) rfl (nI_1 _) (by decide) rfl (fun ls hl => ?_)
            refine lv_goto (tgt := 5) hx hb dX0_netOfStates_76 (by decide) ?_
            exact ih5 (j + 1) acc _ _ _ (by omega) (by omega) (by rw [sumL, ← hk]; first | (simp only [fNet, if_pos c1, if_neg (not_not_intro c1), decide_eq_true c1, if_neg c2, if_pos c2, decide_eq_false c2, if_pos c3, if_neg (not_not_intro c3), decide_eq_true c3, if_true, if_false, eq_self, Bool.false_eq_true, not_true_eq_false, not_false_eq_true, decide_true, decide_false, Bool.and_true, Bool.true_and, Bool.and_false, Bool.false_and, Bool.not_true, Bool.not_false, Bool.or_true, Bool.true_or, Bool.or_false, Bool.false_or, reduceIte, b2i_t, b2i_f, Int64.add_zero, Int64.sub_eq_add_neg]; done) | (simp [fNet, if_pos c1, if_neg (not_not_intro c1), decide_eq_true c1, if_neg c2, if_pos c2, decide_eq_false c2, if_pos c3, if_neg (not_not_intro c3), decide_eq_true c3, Int64.sub_eq_add_neg]; done)) hw (lv_sub hl [2, 3, 4, 0, 5] rfl)
          · skip
            refine lv_lload_n hx hb dX0_netOfStates_41 rfl (lv_at hl 5 rfl) ?_
            refine lv_aload_n hx hb dX0_netOfStates_42 rfl (lv_at hl 1 rfl) ?_
            refine x_get (v := .ref (α 44)) (C := RX0) (T := TX0) (N := 3) hx hb hts (fun _ h => List.mem_cons_of_mem _ (List.mem_append_left _ (List.mem_append_left _ (List.mem_append_left _ (List.mem_append_right _ h))))) hown hK hw 3 (Nat.lt_of_lt_of_le (Nat.le_of_ble_eq_true rfl : 3 < 191) hn) (mk_3 cA α) rfl 1 (by decide) (hts _ (List.mem_of_getElem? (i := 4) rfl)) (fun _ h9 => h9) rfl dX0_netOfStates_43 ?_
            refine x_get (v := .ref (α 47)) (C := RX7) (T := TX7) (N := 9) hx hb hts (fun _ h => List.mem_cons_of_mem _ (List.mem_append_left _ (List.mem_append_right _ h))) hown hK hw 44 (Nat.lt_of_lt_of_le (Nat.le_of_ble_eq_true rfl : 44 < 191) hn) (mk_44 cA α) rfl 2 (by decide) (hts _ (List.mem_of_getElem? (i := 5) rfl)) (fun _ h9 => h9) rfl dX0_netOfStates_46 ?_
            refine lv_iload hx hb dX0_netOfStates_49 (lv_at hl 4 rfl) ?_
            refine x_iald hx hb hK hw 47 100 (Nat.lt_of_lt_of_le (Nat.le_of_ble_eq_true rfl : 47 < 191) hn) (mk_47 cA α) j rfl (by omega) (by decide) dX0_netOfStates_51 ?_
            refine lv_if_ne (tgt := 64) hx hb dX0_netOfStates_52 (by decide) (fun c4 => ?_) (fun c4 => ?_)
            · skip
              refine lv_aload_n hx hb dX0_netOfStates_64 rfl (lv_at hl 1 rfl) ?_
              refine lv_iload hx hb dX0_netOfStates_65 (lv_at hl 4 rfl) ?_
              refine x_callVLr (q := 3) (C := RX0) (As := [.int (nI j)]) (rest := [.long acc]) ⟨hx, hb, hml, hown, hts⟩ (ct_X0_valueOf l D cA α n _ hn S j (ho j (by omega))) (cwV 1 hts gX0_netOfStates_X0_valueOf rfl rfl rfl (by decide +kernel) ⟨Nat.le_of_ble_eq_true rfl, Nat.le_of_ble_eq_true rfl⟩) hK hw hAw (ws_recv hK hw (q := 3) (Nat.lt_of_lt_of_le (Nat.le_of_ble_eq_true rfl : 3 < 191) hn) (mk_3 cA α) rfl) rfl hl.1 rfl (Nat.le_of_ble_eq_true rfl) dX0_netOfStates_67 ⟨Nat.zero_le _, Nat.zero_le _⟩ (fun H locs hw => ?_)
              refine lv_lneg hx hb dX0_netOfStates_70 ?_
              refine lv_ladd hx hb dX0_netOfStates_71 ?_
              refine lv_lstore_n (lv' := [(3, .long (acc + (-(cVal S j)))), (6, .int (S.1 76 j)), (0, .ref (α 3)), (1, .int a), (2, .int b), (5, .int (nI j))]) hx hb dX0_netOfStates_72 rfl hl (by decide) rfl (fun ls hl => ?_)
              refine lv_iinc (v := nI (j + 1)) (lv' := [(5, .int (nI (j + 1))), (3, .long (acc + (-(cVal S j)))), (6, .int (S.1 76 j)), (0, .ref (α 3)), (1, .int a), (2, .int b)]) hx hb dX0_netOfStates_73 hl (k := 5) rfl (nI_1 _) (by decide) rfl (fun ls hl => ?_)
              refine lv_goto (tgt := 5) hx hb dX0_netOfStates_76 (by decide) ?_
              exact ih5 (j + 1) (acc + (-(cVal S j))) _ _ _ (by omega) (by omega) (by rw [sumL, ← hk]; first | (simp only [fNet, if_pos c1, if_neg (not_not_intro c1), decide_eq_true c1, if_neg c2, if_pos c2, decide_eq_false c2, if_neg c3, if_pos c3, decide_eq_false c3, if_neg c4, if_pos c4, decide_eq_false c4, if_true, if_false, eq_self, Bool.false_eq_true, not_true_eq_false, not_false_eq_true, decide_true, decide_false, Bool.and_true, Bool.true_and, Bool.and_false, Bool.false_and, Bool.not_true, Bool.not_false, Bool.or_true, Bool.true_or, Bool.or_false, Bool.false_or, reduceIte, b2i_t, b2i_f, Int64.add_zero, Int64.sub_eq_add_neg]; done) | (simp [fNet, if_pos c1, if_neg (not_not_intro c1), decide_eq_true c1, if_neg c2, if_pos c2, decide_eq_false c2, if_neg c3, if_pos c3, decide_eq_false c3, if_neg c4, if_pos c4, decide_eq_false c4, Int64.sub_eq_add_neg]; done)) hw (lv_sub hl [3, 4, 5, 0, 1] rfl)
            · skip
              refine lv_aload_n hx hb dX0_netOfStates_55 rfl (lv_at hl 1 rfl) ?_
              refine lv_iload hx hb dX0_netOfStates_56 (lv_at hl 4 rfl) ?_
              refine x_callVLr (q := 3) (C := RX0) (As := [.int (nI j)]) (rest := [.long acc]) ⟨hx, hb, hml, hown, hts⟩ (ct_X0_valueOf l D cA α n _ hn S j (ho j (by omega))) (cwV 1 hts gX0_netOfStates_X0_valueOf rfl rfl rfl (by decide +kernel) ⟨Nat.le_of_ble_eq_true rfl, Nat.le_of_ble_eq_true rfl⟩) hK hw hAw (ws_recv hK hw (q := 3) (Nat.lt_of_lt_of_le (Nat.le_of_ble_eq_true rfl : 3 < 191) hn) (mk_3 cA α) rfl) rfl hl.1 rfl (Nat.le_of_ble_eq_true rfl) dX0_netOfStates_58 ⟨Nat.zero_le _, Nat.zero_le _⟩ (fun H locs hw => ?_)
              refine lv_goto (tgt := 71) hx hb dX0_netOfStates_61 (by decide) ?_
              refine lv_ladd hx hb dX0_netOfStates_71 ?_
              refine lv_lstore_n (lv' := [(3, .long (acc + (cVal S j))), (6, .int (S.1 76 j)), (0, .ref (α 3)), (1, .int a), (2, .int b), (5, .int (nI j))]) hx hb dX0_netOfStates_72 rfl hl (by decide) rfl (fun ls hl => ?_)
              refine lv_iinc (v := nI (j + 1)) (lv' := [(5, .int (nI (j + 1))), (3, .long (acc + (cVal S j))), (6, .int (S.1 76 j)), (0, .ref (α 3)), (1, .int a), (2, .int b)]) hx hb dX0_netOfStates_73 hl (k := 5) rfl (nI_1 _) (by decide) rfl (fun ls hl => ?_)
              refine lv_goto (tgt := 5) hx hb dX0_netOfStates_76 (by decide) ?_
              exact ih5 (j + 1) (acc + (cVal S j)) _ _ _ (by omega) (by omega) (by rw [sumL, ← hk]; first | (simp only [fNet, if_pos c1, if_neg (not_not_intro c1), decide_eq_true c1, if_neg c2, if_pos c2, decide_eq_false c2, if_neg c3, if_pos c3, decide_eq_false c3, if_pos c4, if_neg (not_not_intro c4), decide_eq_true c4, if_true, if_false, eq_self, Bool.false_eq_true, not_true_eq_false, not_false_eq_true, decide_true, decide_false, Bool.and_true, Bool.true_and, Bool.and_false, Bool.false_and, Bool.not_true, Bool.not_false, Bool.or_true, Bool.true_or, Bool.or_false, Bool.false_or, reduceIte, b2i_t, b2i_f, Int64.add_zero, Int64.sub_eq_add_neg]; done) | (simp [fNet, if_pos c1, if_neg (not_not_intro c1), decide_eq_true c1, if_neg c2, if_pos c2, decide_eq_false c2, if_neg c3, if_pos c3, decide_eq_false c3, if_pos c4, if_neg (not_not_intro c4), decide_eq_true c4, Int64.sub_eq_add_neg]; done)) hw (lv_sub hl [3, 4, 5, 0, 1] rfl)
  exact lp5 _ 0 0 _ _ _ (Nat.lt_succ_self _) (Nat.zero_le _) rfl hw (lv_sub hl [2, 3, 4, 0, 1] rfl)

set_option maxRecDepth 100000 in
set_option maxHeartbeats 1000000 in
theorem ct_X0_balanceBetween (l : Launch) (D : va_G) (cA : Nat → ClassId) (α : Nat → Nat) (n sz : Nat) (hn : 191 ≤ n) (S : Mem) (a b : Int32) (N : Nat) (hN : S.1 74 0 = nI N) (hN2 : N ≤ 100) (ho : ∀ j, j < N → okC S j) : CtL l yX0_balanceBetween wsX0_balanceBetween ({ frames := 2, cells := 0, slots := 0, locals := 43 }) D cA α n sz [.ref (α 3), .int a, .int b] S (sumL (fBal S a b) N) S := by
  refine ct_enter cX0_balanceBetween 6 (some .long) (by decide) rfl (Nat.le_of_ble_eq_true rfl) ?_
  intro p e s m below meth c hx hb hr hml hlocks hown hts hK hsz hw ls hl
  have hown : s.vm.findClass RX0 = some m.cls := hown
  have hAw : ∀ z, Aw α n s.heap.size z → Aw α n sz z := by rw [hsz]; exact fun _ h => h
  have hl : lv_has ls 6 [(0, .ref (α 3)), (1, .int a), (2, .int b)] := hl
  refine lv_lconst (v := 0) hx hb dX0_balanceBetween_0 (by decide) ?_
  refine lv_lstore_n (lv' := [(3, .long 0), (0, .ref (α 3)), (1, .int a), (2, .int b)]) hx hb dX0_balanceBetween_1 rfl hl (by decide) rfl (fun ls hl => ?_)
  refine lv_iconst (v := nI 0) hx hb dX0_balanceBetween_2 (by decide) ?_
  refine lv_istore (lv' := [(5, .int (nI 0)), (3, .long 0), (0, .ref (α 3)), (1, .int a), (2, .int b)]) hx hb dX0_balanceBetween_3 hl (by decide) rfl (fun ls hl => ?_)
  have lp5 : ∀ (t : Nat) (j : Nat) (acc : Int64) (H : Heap) (locs : List Loc) (ls : Array Slot), N - j < t → j ≤ N → acc = sumL (fBal S a b) j → Ws D cA α n (Aw α n sz) s.heap S H locs → lv_has ls 6 [(0, .ref (α 3)), (1, .int a), (2, .int b), (5, .int (nI j)), (3, .long acc)] → W p l e ({ frames := 2, cells := 0, slots := 0, locals := 43 } : Room) s m (List.toArray ([.ref (α 3), .int a, .int b] : List Value)) below meth c H locs 0 0 (MQ below (va_Ql (fun r u => r = (sumL (fBal S a b) N) ∧ u = S) (Pw D cA α n) (Aw α n sz)) (List.toArray ([.ref (α 3), .int a, .int b] : List Value)) s 0 0 (Aw α n sz)) (F0 m 5 ls []) := by
    intro t
    induction t with
    | zero => intro j acc H locs ls ht; exact absurd ht (Nat.not_lt_zero _)
    | succ t ih5 =>
      intro j acc H locs ls ht hj hk hw hl
      refine lv_iload hx hb dX0_balanceBetween_5 (lv_at hl 3 rfl) ?_
      refine lv_aload_n hx hb dX0_balanceBetween_7 rfl (lv_at hl 0 rfl) ?_
      refine x_get (v := .ref (α 74)) (C := RX0) (T := TX0) (N := 3) hx hb hts (fun _ h => List.mem_cons_of_mem _ (List.mem_append_left _ (List.mem_append_left _ (List.mem_append_left _ (List.mem_append_right _ h))))) hown hK hw 3 (Nat.lt_of_lt_of_le (Nat.le_of_ble_eq_true rfl : 3 < 191) hn) (mk_3 cA α) rfl 2 (by decide) (hts _ (List.mem_of_getElem? (i := 1) rfl)) (fun _ h9 => h9) rfl dX0_balanceBetween_8 ?_
      refine x_get (v := .int (S.1 74 0)) (C := RX9) (T := TX9) (N := 14) hx hb hts (fun _ h => List.mem_cons_of_mem _ (List.mem_append_left _ (List.mem_append_left _ (List.mem_append_right _ h)))) hown hK hw 74 (Nat.lt_of_lt_of_le (Nat.le_of_ble_eq_true rfl : 74 < 191) hn) (mk_74 cA α) rfl 0 (by decide) (hts _ (List.mem_of_getElem? (i := 2) rfl)) (fun _ h9 => h9) rfl dX0_balanceBetween_11 ?_
      refine x_topN (k := N) hN ?_
      refine xn_icmp_ge (tgt := 130) hx hb (by omega) (by omega) dX0_balanceBetween_14 (by decide) (fun c1 => ?_) (fun c1 => ?_)
      · skip
        refine lv_lload_n hx hb dX0_balanceBetween_130 rfl (lv_at hl 4 rfl) ?_
        exact ret_l hx hb hr hlocks hK hw dX0_balanceBetween_131 (by rw [hk, show j = N by omega]) rfl
      · skip
        refine lv_aload_n hx hb dX0_balanceBetween_17 rfl (lv_at hl 0 rfl) ?_
        refine x_get (v := .ref (α 74)) (C := RX0) (T := TX0) (N := 3) hx hb hts (fun _ h => List.mem_cons_of_mem _ (List.mem_append_left _ (List.mem_append_left _ (List.mem_append_left _ (List.mem_append_right _ h))))) hown hK hw 3 (Nat.lt_of_lt_of_le (Nat.le_of_ble_eq_true rfl : 3 < 191) hn) (mk_3 cA α) rfl 2 (by decide) (hts _ (List.mem_of_getElem? (i := 1) rfl)) (fun _ h9 => h9) rfl dX0_balanceBetween_18 ?_
        refine x_get (v := .ref (α 76)) (C := RX9) (T := TX9) (N := 14) hx hb hts (fun _ h => List.mem_cons_of_mem _ (List.mem_append_left _ (List.mem_append_left _ (List.mem_append_right _ h)))) hown hK hw 74 (Nat.lt_of_lt_of_le (Nat.le_of_ble_eq_true rfl : 74 < 191) hn) (mk_74 cA α) rfl 7 (by decide) (hts _ (List.mem_of_getElem? (i := 3) rfl)) (fun _ h9 => h9) rfl dX0_balanceBetween_21 ?_
        refine lv_iload hx hb dX0_balanceBetween_24 (lv_at hl 3 rfl) ?_
        refine x_iald hx hb hK hw 76 100 (Nat.lt_of_lt_of_le (Nat.le_of_ble_eq_true rfl : 76 < 191) hn) (mk_76 cA α) j rfl (by omega) (by decide) dX0_balanceBetween_26 ?_
        refine lv_iconst (v := nI 3) hx hb dX0_balanceBetween_27 (by decide) ?_
        refine lv_icmp_lt (tgt := 34) hx hb dX0_balanceBetween_28 (by decide) (fun c2 => ?_) (fun c2 => ?_)
        · skip
          refine lv_aload_n hx hb dX0_balanceBetween_34 rfl (lv_at hl 0 rfl) ?_
          refine x_get (v := .ref (α 44)) (C := RX0) (T := TX0) (N := 3) hx hb hts (fun _ h => List.mem_cons_of_mem _ (List.mem_append_left _ (List.mem_append_left _ (List.mem_append_left _ (List.mem_append_right _ h))))) hown hK hw 3 (Nat.lt_of_lt_of_le (Nat.le_of_ble_eq_true rfl : 3 < 191) hn) (mk_3 cA α) rfl 1 (by decide) (hts _ (List.mem_of_getElem? (i := 4) rfl)) (fun _ h9 => h9) rfl dX0_balanceBetween_35 ?_
          refine x_get (v := .ref (α 47)) (C := RX7) (T := TX7) (N := 9) hx hb hts (fun _ h => List.mem_cons_of_mem _ (List.mem_append_left _ (List.mem_append_right _ h))) hown hK hw 44 (Nat.lt_of_lt_of_le (Nat.le_of_ble_eq_true rfl : 44 < 191) hn) (mk_44 cA α) rfl 2 (by decide) (hts _ (List.mem_of_getElem? (i := 5) rfl)) (fun _ h9 => h9) rfl dX0_balanceBetween_38 ?_
          refine lv_iload hx hb dX0_balanceBetween_41 (lv_at hl 3 rfl) ?_
          refine x_iald hx hb hK hw 47 100 (Nat.lt_of_lt_of_le (Nat.le_of_ble_eq_true rfl : 47 < 191) hn) (mk_47 cA α) j rfl (by omega) (by decide) dX0_balanceBetween_43 ?_
          refine lv_if_ne (tgt := 87) hx hb dX0_balanceBetween_44 (by decide) (fun c3 => ?_) (fun c3 => ?_)
          · skip
            refine lv_aload_n hx hb dX0_balanceBetween_87 rfl (lv_at hl 0 rfl) ?_
            refine x_get (v := .ref (α 44)) (C := RX0) (T := TX0) (N := 3) hx hb hts (fun _ h => List.mem_cons_of_mem _ (List.mem_append_left _ (List.mem_append_left _ (List.mem_append_left _ (List.mem_append_right _ h))))) hown hK hw 3 (Nat.lt_of_lt_of_le (Nat.le_of_ble_eq_true rfl : 3 < 191) hn) (mk_3 cA α) rfl 1 (by decide) (hts _ (List.mem_of_getElem? (i := 4) rfl)) (fun _ h9 => h9) rfl dX0_balanceBetween_88 ?_
            refine x_get (v := .ref (α 45)) (C := RX7) (T := TX7) (N := 9) hx hb hts (fun _ h => List.mem_cons_of_mem _ (List.mem_append_left _ (List.mem_append_right _ h))) hown hK hw 44 (Nat.lt_of_lt_of_le (Nat.le_of_ble_eq_true rfl : 44 < 191) hn) (mk_44 cA α) rfl 0 (by decide) (hts _ (List.mem_of_getElem? (i := 6) rfl)) (fun _ h9 => h9) rfl dX0_balanceBetween_91 ?_
            refine lv_iload hx hb dX0_balanceBetween_94 (lv_at hl 3 rfl) ?_
            refine x_iald hx hb hK hw 45 100 (Nat.lt_of_lt_of_le (Nat.le_of_ble_eq_true rfl : 45 < 191) hn) (mk_45 cA α) j rfl (by omega) (by decide) dX0_balanceBetween_96 ?_
            refine lv_iload_n hx hb dX0_balanceBetween_97 rfl (lv_at hl 2 rfl) ?_
            refine lv_icmp_ne (tgt := 124) hx hb dX0_balanceBetween_98 (by decide) (fun c4 => ?_) (fun c4 => ?_)
            · skip
              refine lv_iinc (v := nI (j + 1)) (lv' := [(5, .int (nI (j + 1))), (0, .ref (α 3)), (1, .int a), (2, .int b), (3, .long acc)]) hx hb dX0_balanceBetween_124 hl (k := 3) rfl (nI_1 _) (by decide) rfl (fun ls hl => ?_)
              refine lv_goto (tgt := 5) hx hb dX0_balanceBetween_127 (by decide) ?_
              exact ih5 (j + 1) acc _ _ _ (by omega) (by omega) (by rw [sumL, ← hk]; first | (simp only [fBal, if_pos c1, if_neg (not_not_intro c1), decide_eq_true c1, if_pos c2, if_neg (not_not_intro c2), decide_eq_true c2, if_neg c3, if_pos c3, decide_eq_false c3, if_neg c4, if_pos c4, decide_eq_false c4, if_true, if_false, eq_self, Bool.false_eq_true, not_true_eq_false, not_false_eq_true, decide_true, decide_false, Bool.and_true, Bool.true_and, Bool.and_false, Bool.false_and, Bool.not_true, Bool.not_false, Bool.or_true, Bool.true_or, Bool.or_false, Bool.false_or, reduceIte, b2i_t, b2i_f, Int64.add_zero, Int64.sub_eq_add_neg]; done) | (simp [fBal, if_pos c1, if_neg (not_not_intro c1), decide_eq_true c1, if_pos c2, if_neg (not_not_intro c2), decide_eq_true c2, if_neg c3, if_pos c3, decide_eq_false c3, if_neg c4, if_pos c4, decide_eq_false c4, Int64.sub_eq_add_neg]; done)) hw (lv_sub hl [1, 2, 3, 0, 4] rfl)
            · skip
              refine lv_aload_n hx hb dX0_balanceBetween_101 rfl (lv_at hl 0 rfl) ?_
              refine x_get (v := .ref (α 44)) (C := RX0) (T := TX0) (N := 3) hx hb hts (fun _ h => List.mem_cons_of_mem _ (List.mem_append_left _ (List.mem_append_left _ (List.mem_append_left _ (List.mem_append_right _ h))))) hown hK hw 3 (Nat.lt_of_lt_of_le (Nat.le_of_ble_eq_true rfl : 3 < 191) hn) (mk_3 cA α) rfl 1 (by decide) (hts _ (List.mem_of_getElem? (i := 4) rfl)) (fun _ h9 => h9) rfl dX0_balanceBetween_102 ?_
              refine x_get (v := .ref (α 46)) (C := RX7) (T := TX7) (N := 9) hx hb hts (fun _ h => List.mem_cons_of_mem _ (List.mem_append_left _ (List.mem_append_right _ h))) hown hK hw 44 (Nat.lt_of_lt_of_le (Nat.le_of_ble_eq_true rfl : 44 < 191) hn) (mk_44 cA α) rfl 1 (by decide) (hts _ (List.mem_of_getElem? (i := 7) rfl)) (fun _ h9 => h9) rfl dX0_balanceBetween_105 ?_
              refine lv_iload hx hb dX0_balanceBetween_108 (lv_at hl 3 rfl) ?_
              refine x_iald hx hb hK hw 46 100 (Nat.lt_of_lt_of_le (Nat.le_of_ble_eq_true rfl : 46 < 191) hn) (mk_46 cA α) j rfl (by omega) (by decide) dX0_balanceBetween_110 ?_
              refine lv_iload_n hx hb dX0_balanceBetween_111 rfl (lv_at hl 1 rfl) ?_
              refine lv_icmp_ne (tgt := 124) hx hb dX0_balanceBetween_112 (by decide) (fun c5 => ?_) (fun c5 => ?_)
              · skip
                refine lv_iinc (v := nI (j + 1)) (lv' := [(5, .int (nI (j + 1))), (0, .ref (α 3)), (1, .int a), (2, .int b), (3, .long acc)]) hx hb dX0_balanceBetween_124 hl (k := 3) rfl (nI_1 _) (by decide) rfl (fun ls hl => ?_)
                refine lv_goto (tgt := 5) hx hb dX0_balanceBetween_127 (by decide) ?_
                exact ih5 (j + 1) acc _ _ _ (by omega) (by omega) (by rw [sumL, ← hk]; first | (simp only [fBal, if_pos c1, if_neg (not_not_intro c1), decide_eq_true c1, if_pos c2, if_neg (not_not_intro c2), decide_eq_true c2, if_neg c3, if_pos c3, decide_eq_false c3, if_pos c4, if_neg (not_not_intro c4), decide_eq_true c4, if_neg c5, if_pos c5, decide_eq_false c5, if_true, if_false, eq_self, Bool.false_eq_true, not_true_eq_false, not_false_eq_true, decide_true, decide_false, Bool.and_true, Bool.true_and, Bool.and_false, Bool.false_and, Bool.not_true, Bool.not_false, Bool.or_true, Bool.true_or, Bool.or_false, Bool.false_or, reduceIte, b2i_t, b2i_f, Int64.add_zero, Int64.sub_eq_add_neg]; done) | (simp [fBal, if_pos c1, if_neg (not_not_intro c1), decide_eq_true c1, if_pos c2, if_neg (not_not_intro c2), decide_eq_true c2, if_neg c3, if_pos c3, decide_eq_false c3, if_pos c4, if_neg (not_not_intro c4), decide_eq_true c4, if_neg c5, if_pos c5, decide_eq_false c5, Int64.sub_eq_add_neg]; done)) hw (lv_sub hl [1, 2, 3, 0, 4] rfl)
              · skip
                refine lv_lload_n hx hb dX0_balanceBetween_115 rfl (lv_at hl 4 rfl) ?_
                refine lv_aload_n hx hb dX0_balanceBetween_116 rfl (lv_at hl 0 rfl) ?_
                refine lv_iload hx hb dX0_balanceBetween_117 (lv_at hl 3 rfl) ?_
                refine x_callVLr (q := 3) (C := RX0) (As := [.int (nI j)]) (rest := [.long acc]) ⟨hx, hb, hml, hown, hts⟩ (ct_X0_valueOf l D cA α n _ hn S j (ho j (by omega))) (cwV 1 hts gX0_balanceBetween_X0_valueOf rfl rfl rfl (by decide +kernel) ⟨Nat.le_of_ble_eq_true rfl, Nat.le_of_ble_eq_true rfl⟩) hK hw hAw (ws_recv hK hw (q := 3) (Nat.lt_of_lt_of_le (Nat.le_of_ble_eq_true rfl : 3 < 191) hn) (mk_3 cA α) rfl) rfl hl.1 rfl (Nat.le_of_ble_eq_true rfl) dX0_balanceBetween_119 ⟨Nat.zero_le _, Nat.zero_le _⟩ (fun H locs hw => ?_)
                refine lv_lsub hx hb dX0_balanceBetween_122 ?_
                refine lv_lstore_n (lv' := [(3, .long (acc - (cVal S j))), (0, .ref (α 3)), (1, .int a), (2, .int b), (5, .int (nI j))]) hx hb dX0_balanceBetween_123 rfl hl (by decide) rfl (fun ls hl => ?_)
                refine lv_iinc (v := nI (j + 1)) (lv' := [(5, .int (nI (j + 1))), (3, .long (acc - (cVal S j))), (0, .ref (α 3)), (1, .int a), (2, .int b)]) hx hb dX0_balanceBetween_124 hl (k := 4) rfl (nI_1 _) (by decide) rfl (fun ls hl => ?_)
                refine lv_goto (tgt := 5) hx hb dX0_balanceBetween_127 (by decide) ?_
                exact ih5 (j + 1) (acc - (cVal S j)) _ _ _ (by omega) (by omega) (by rw [sumL, ← hk]; first | (simp only [fBal, if_pos c1, if_neg (not_not_intro c1), decide_eq_true c1, if_pos c2, if_neg (not_not_intro c2), decide_eq_true c2, if_neg c3, if_pos c3, decide_eq_false c3, if_pos c4, if_neg (not_not_intro c4), decide_eq_true c4, if_pos c5, if_neg (not_not_intro c5), decide_eq_true c5, if_true, if_false, eq_self, Bool.false_eq_true, not_true_eq_false, not_false_eq_true, decide_true, decide_false, Bool.and_true, Bool.true_and, Bool.and_false, Bool.false_and, Bool.not_true, Bool.not_false, Bool.or_true, Bool.true_or, Bool.or_false, Bool.false_or, reduceIte, b2i_t, b2i_f, Int64.add_zero, Int64.sub_eq_add_neg]; done) | (simp [fBal, if_pos c1, if_neg (not_not_intro c1), decide_eq_true c1, if_pos c2, if_neg (not_not_intro c2), decide_eq_true c2, if_neg c3, if_pos c3, decide_eq_false c3, if_pos c4, if_neg (not_not_intro c4), decide_eq_true c4, if_pos c5, if_neg (not_not_intro c5), decide_eq_true c5, Int64.sub_eq_add_neg]; done)) hw (lv_sub hl [2, 3, 4, 0, 1] rfl)
          · skip
            refine lv_aload_n hx hb dX0_balanceBetween_47 rfl (lv_at hl 0 rfl) ?_
            refine x_get (v := .ref (α 44)) (C := RX0) (T := TX0) (N := 3) hx hb hts (fun _ h => List.mem_cons_of_mem _ (List.mem_append_left _ (List.mem_append_left _ (List.mem_append_left _ (List.mem_append_right _ h))))) hown hK hw 3 (Nat.lt_of_lt_of_le (Nat.le_of_ble_eq_true rfl : 3 < 191) hn) (mk_3 cA α) rfl 1 (by decide) (hts _ (List.mem_of_getElem? (i := 4) rfl)) (fun _ h9 => h9) rfl dX0_balanceBetween_48 ?_
            refine x_get (v := .ref (α 45)) (C := RX7) (T := TX7) (N := 9) hx hb hts (fun _ h => List.mem_cons_of_mem _ (List.mem_append_left _ (List.mem_append_right _ h))) hown hK hw 44 (Nat.lt_of_lt_of_le (Nat.le_of_ble_eq_true rfl : 44 < 191) hn) (mk_44 cA α) rfl 0 (by decide) (hts _ (List.mem_of_getElem? (i := 6) rfl)) (fun _ h9 => h9) rfl dX0_balanceBetween_51 ?_
            refine lv_iload hx hb dX0_balanceBetween_54 (lv_at hl 3 rfl) ?_
            refine x_iald hx hb hK hw 45 100 (Nat.lt_of_lt_of_le (Nat.le_of_ble_eq_true rfl : 45 < 191) hn) (mk_45 cA α) j rfl (by omega) (by decide) dX0_balanceBetween_56 ?_
            refine lv_iload_n hx hb dX0_balanceBetween_57 rfl (lv_at hl 1 rfl) ?_
            refine lv_icmp_ne (tgt := 124) hx hb dX0_balanceBetween_58 (by decide) (fun c6 => ?_) (fun c6 => ?_)
            · skip
              refine lv_iinc (v := nI (j + 1)) (lv' := [(5, .int (nI (j + 1))), (0, .ref (α 3)), (1, .int a), (2, .int b), (3, .long acc)]) hx hb dX0_balanceBetween_124 hl (k := 3) rfl (nI_1 _) (by decide) rfl (fun ls hl => ?_)
              refine lv_goto (tgt := 5) hx hb dX0_balanceBetween_127 (by decide) ?_
              exact ih5 (j + 1) acc _ _ _ (by omega) (by omega) (by rw [sumL, ← hk]; first | (simp only [fBal, if_pos c1, if_neg (not_not_intro c1), decide_eq_true c1, if_pos c2, if_neg (not_not_intro c2), decide_eq_true c2, if_pos c3, if_neg (not_not_intro c3), decide_eq_true c3, if_neg c6, if_pos c6, decide_eq_false c6, if_true, if_false, eq_self, Bool.false_eq_true, not_true_eq_false, not_false_eq_true, decide_true, decide_false, Bool.and_true, Bool.true_and, Bool.and_false, Bool.false_and, Bool.not_true, Bool.not_false, Bool.or_true, Bool.true_or, Bool.or_false, Bool.false_or, reduceIte, b2i_t, b2i_f, Int64.add_zero, Int64.sub_eq_add_neg]; done) | (simp [fBal, if_pos c1, if_neg (not_not_intro c1), decide_eq_true c1, if_pos c2, if_neg (not_not_intro c2), decide_eq_true c2, if_pos c3, if_neg (not_not_intro c3), decide_eq_true c3, if_neg c6, if_pos c6, decide_eq_false c6, Int64.sub_eq_add_neg]; done)) hw (lv_sub hl [1, 2, 3, 0, 4] rfl)
            · skip
              refine lv_aload_n hx hb dX0_balanceBetween_61 rfl (lv_at hl 0 rfl) ?_
              refine x_get (v := .ref (α 44)) (C := RX0) (T := TX0) (N := 3) hx hb hts (fun _ h => List.mem_cons_of_mem _ (List.mem_append_left _ (List.mem_append_left _ (List.mem_append_left _ (List.mem_append_right _ h))))) hown hK hw 3 (Nat.lt_of_lt_of_le (Nat.le_of_ble_eq_true rfl : 3 < 191) hn) (mk_3 cA α) rfl 1 (by decide) (hts _ (List.mem_of_getElem? (i := 4) rfl)) (fun _ h9 => h9) rfl dX0_balanceBetween_62 ?_
              refine x_get (v := .ref (α 46)) (C := RX7) (T := TX7) (N := 9) hx hb hts (fun _ h => List.mem_cons_of_mem _ (List.mem_append_left _ (List.mem_append_right _ h))) hown hK hw 44 (Nat.lt_of_lt_of_le (Nat.le_of_ble_eq_true rfl : 44 < 191) hn) (mk_44 cA α) rfl 1 (by decide) (hts _ (List.mem_of_getElem? (i := 7) rfl)) (fun _ h9 => h9) rfl dX0_balanceBetween_65 ?_
              refine lv_iload hx hb dX0_balanceBetween_68 (lv_at hl 3 rfl) ?_
              refine x_iald hx hb hK hw 46 100 (Nat.lt_of_lt_of_le (Nat.le_of_ble_eq_true rfl : 46 < 191) hn) (mk_46 cA α) j rfl (by omega) (by decide) dX0_balanceBetween_70 ?_
              refine lv_iload_n hx hb dX0_balanceBetween_71 rfl (lv_at hl 2 rfl) ?_
              refine lv_icmp_ne (tgt := 124) hx hb dX0_balanceBetween_72 (by decide) (fun c7 => ?_) (fun c7 => ?_)
              · skip
                refine lv_iinc (v := nI (j + 1)) (lv' := [(5, .int (nI (j + 1))), (0, .ref (α 3)), (1, .int a), (2, .int b), (3, .long acc)]) hx hb dX0_balanceBetween_124 hl (k := 3) rfl (nI_1 _) (by decide) rfl (fun ls hl => ?_)
                refine lv_goto (tgt := 5) hx hb dX0_balanceBetween_127 (by decide) ?_
                exact ih5 (j + 1) acc _ _ _ (by omega) (by omega) (by rw [sumL, ← hk]; first | (simp only [fBal, if_pos c1, if_neg (not_not_intro c1), decide_eq_true c1, if_pos c2, if_neg (not_not_intro c2), decide_eq_true c2, if_pos c3, if_neg (not_not_intro c3), decide_eq_true c3, if_pos c6, if_neg (not_not_intro c6), decide_eq_true c6, if_neg c7, if_pos c7, decide_eq_false c7, if_true, if_false, eq_self, Bool.false_eq_true, not_true_eq_false, not_false_eq_true, decide_true, decide_false, Bool.and_true, Bool.true_and, Bool.and_false, Bool.false_and, Bool.not_true, Bool.not_false, Bool.or_true, Bool.true_or, Bool.or_false, Bool.false_or, reduceIte, b2i_t, b2i_f, Int64.add_zero, Int64.sub_eq_add_neg]; done) | (simp [fBal, if_pos c1, if_neg (not_not_intro c1), decide_eq_true c1, if_pos c2, if_neg (not_not_intro c2), decide_eq_true c2, if_pos c3, if_neg (not_not_intro c3), decide_eq_true c3, if_pos c6, if_neg (not_not_intro c6), decide_eq_true c6, if_neg c7, if_pos c7, decide_eq_false c7, Int64.sub_eq_add_neg]; done)) hw (lv_sub hl [1, 2, 3, 0, 4] rfl)
              · skip
                refine lv_lload_n hx hb dX0_balanceBetween_75 rfl (lv_at hl 4 rfl) ?_
                refine lv_aload_n hx hb dX0_balanceBetween_76 rfl (lv_at hl 0 rfl) ?_
                refine lv_iload hx hb dX0_balanceBetween_77 (lv_at hl 3 rfl) ?_
                refine x_callVLr (q := 3) (C := RX0) (As := [.int (nI j)]) (rest := [.long acc]) ⟨hx, hb, hml, hown, hts⟩ (ct_X0_valueOf l D cA α n _ hn S j (ho j (by omega))) (cwV 1 hts gX0_balanceBetween_X0_valueOf rfl rfl rfl (by decide +kernel) ⟨Nat.le_of_ble_eq_true rfl, Nat.le_of_ble_eq_true rfl⟩) hK hw hAw (ws_recv hK hw (q := 3) (Nat.lt_of_lt_of_le (Nat.le_of_ble_eq_true rfl : 3 < 191) hn) (mk_3 cA α) rfl) rfl hl.1 rfl (Nat.le_of_ble_eq_true rfl) dX0_balanceBetween_79 ⟨Nat.zero_le _, Nat.zero_le _⟩ (fun H locs hw => ?_)
                refine lv_ladd hx hb dX0_balanceBetween_82 ?_
                refine lv_lstore_n (lv' := [(3, .long (acc + (cVal S j))), (0, .ref (α 3)), (1, .int a), (2, .int b), (5, .int (nI j))]) hx hb dX0_balanceBetween_83 rfl hl (by decide) rfl (fun ls hl => ?_)
                refine lv_goto (tgt := 124) hx hb dX0_balanceBetween_84 (by decide) ?_
                refine lv_iinc (v := nI (j + 1)) (lv' := [(5, .int (nI (j + 1))), (3, .long (acc + (cVal S j))), (0, .ref (α 3)), (1, .int a), (2, .int b)]) hx hb dX0_balanceBetween_124 hl (k := 4) rfl (nI_1 _) (by decide) rfl (fun ls hl => ?_)
                refine lv_goto (tgt := 5) hx hb dX0_balanceBetween_127 (by decide) ?_
                exact ih5 (j + 1) (acc + (cVal S j)) _ _ _ (by omega) (by omega) (by rw [sumL, ← hk]; first | (simp only [fBal, if_pos c1, if_neg (not_not_intro c1), decide_eq_true c1, if_pos c2, if_neg (not_not_intro c2), decide_eq_true c2, if_pos c3, if_neg (not_not_intro c3), decide_eq_true c3, if_pos c6, if_neg (not_not_intro c6), decide_eq_true c6, if_pos c7, if_neg (not_not_intro c7), decide_eq_true c7, if_true, if_false, eq_self, Bool.false_eq_true, not_true_eq_false, not_false_eq_true, decide_true, decide_false, Bool.and_true, Bool.true_and, Bool.and_false, Bool.false_and, Bool.not_true, Bool.not_false, Bool.or_true, Bool.true_or, Bool.or_false, Bool.false_or, reduceIte, b2i_t, b2i_f, Int64.add_zero, Int64.sub_eq_add_neg]; done) | (simp [fBal, if_pos c1, if_neg (not_not_intro c1), decide_eq_true c1, if_pos c2, if_neg (not_not_intro c2), decide_eq_true c2, if_pos c3, if_neg (not_not_intro c3), decide_eq_true c3, if_pos c6, if_neg (not_not_intro c6), decide_eq_true c6, if_pos c7, if_neg (not_not_intro c7), decide_eq_true c7, Int64.sub_eq_add_neg]; done)) hw (lv_sub hl [2, 3, 4, 0, 1] rfl)
        · skip
          refine lv_goto (tgt := 124) hx hb dX0_balanceBetween_31 (by decide) ?_
          refine lv_iinc (v := nI (j + 1)) (lv' := [(5, .int (nI (j + 1))), (0, .ref (α 3)), (1, .int a), (2, .int b), (3, .long acc)]) hx hb dX0_balanceBetween_124 hl (k := 3) rfl (nI_1 _) (by decide) rfl (fun ls hl => ?_)
          refine lv_goto (tgt := 5) hx hb dX0_balanceBetween_127 (by decide) ?_
          exact ih5 (j + 1) acc _ _ _ (by omega) (by omega) (by rw [sumL, ← hk]; first | (simp only [fBal, if_pos c1, if_neg (not_not_intro c1), decide_eq_true c1, if_neg c2, if_pos c2, decide_eq_false c2, if_true, if_false, eq_self, Bool.false_eq_true, not_true_eq_false, not_false_eq_true, decide_true, decide_false, Bool.and_true, Bool.true_and, Bool.and_false, Bool.false_and, Bool.not_true, Bool.not_false, Bool.or_true, Bool.true_or, Bool.or_false, Bool.false_or, reduceIte, b2i_t, b2i_f, Int64.add_zero, Int64.sub_eq_add_neg]; done) | (simp [fBal, if_pos c1, if_neg (not_not_intro c1), decide_eq_true c1, if_neg c2, if_pos c2, decide_eq_false c2, Int64.sub_eq_add_neg]; done)) hw (lv_sub hl [1, 2, 3, 0, 4] rfl)
  exact lp5 _ 0 0 _ _ _ (Nat.lt_succ_self _) (Nat.zero_le _) rfl hw (lv_sub hl [2, 3, 4, 0, 1] rfl)

set_option maxRecDepth 100000 in
set_option maxHeartbeats 1000000 in
theorem ct_X9_putPair (l : Launch) (D : va_G) (cA : Nat → ClassId) (α : Nat → Nat) (n sz : Nat) (hn : 191 ≤ n) (S : Mem) (j : Nat) (x y : Int32) (hj : j < 100) : CtV l yX9_putPair wsX9_putPair ({ frames := 0, cells := 0, slots := 0, locals := 0 }) D cA α n sz [.ref (α 74), .int (nI j), .int x, .int y] S (setI (setI S 77 j x) 76 j y) := by
  refine ct_enter cX9_putPair 4 none (by decide) rfl (Nat.le_of_ble_eq_true rfl) ?_
  intro p e s m below meth c hx hb hr hml hlocks hown hts hK hsz hw ls hl
  have hown : s.vm.findClass RX9 = some m.cls := hown
  have hAw : ∀ z, Aw α n s.heap.size z → Aw α n sz z := by rw [hsz]; exact fun _ h => h
  have hl : lv_has ls 4 [(0, .ref (α 74)), (1, .int (nI j)), (2, .int x), (3, .int y)] := hl
  refine lv_aload_n hx hb dX9_putPair_0 rfl (lv_at hl 0 rfl) ?_
  refine x_get (v := .ref (α 77)) (C := RX9) (T := TX9) (N := 14) hx hb hts (fun _ h => List.mem_cons_of_mem _ (List.mem_append_right _ h)) hown hK hw 74 (Nat.lt_of_lt_of_le (Nat.le_of_ble_eq_true rfl : 74 < 191) hn) (mk_74 cA α) rfl 8 (by decide) (hts _ (List.mem_of_getElem? (i := 1) rfl)) (fun _ h9 => h9) rfl dX9_putPair_1 ?_
  refine lv_iload_n hx hb dX9_putPair_4 rfl (lv_at hl 1 rfl) ?_
  refine lv_iload_n hx hb dX9_putPair_5 rfl (lv_at hl 2 rfl) ?_
  refine x_iast (x := x) hx hb hK hw 77 100 (Nat.lt_of_lt_of_le (Nat.le_of_ble_eq_true rfl : 77 < 191) hn) (mk_77 cA α) j rfl (by omega) (by decide) dX9_putPair_6 (fun S1 eS1 H locs hw => ?_)
  refine lv_aload_n hx hb dX9_putPair_7 rfl (lv_at hl 0 rfl) ?_
  refine x_get (v := .ref (α 76)) (C := RX9) (T := TX9) (N := 14) hx hb hts (fun _ h => List.mem_cons_of_mem _ (List.mem_append_right _ h)) hown hK hw 74 (Nat.lt_of_lt_of_le (Nat.le_of_ble_eq_true rfl : 74 < 191) hn) (mk_74 cA α) rfl 7 (by decide) (hts _ (List.mem_of_getElem? (i := 2) rfl)) (fun _ h9 => h9) rfl dX9_putPair_8 ?_
  refine lv_iload_n hx hb dX9_putPair_11 rfl (lv_at hl 1 rfl) ?_
  refine lv_iload_n hx hb dX9_putPair_12 rfl (lv_at hl 3 rfl) ?_
  refine x_iast (x := y) hx hb hK hw 76 100 (Nat.lt_of_lt_of_le (Nat.le_of_ble_eq_true rfl : 76 < 191) hn) (mk_76 cA α) j rfl (by omega) (by decide) dX9_putPair_13 (fun S2 eS2 H locs hw => ?_)
  exact ret_v hx hb hr hlocks hK hw dX9_putPair_14 (by subst_vars; rfl)

def cOpen1 (S : Mem) (N : Nat) (x : Int32) : Mem := setI (setI (setI S 77 N (-1)) 76 N (nI 0)) 75 N x
def cOpen (S : Mem) (N : Nat) (x : Int32) : Mem := setI (setJ (cOpen1 S N x) 78 N (cVal (cOpen1 S N x) N)) 74 0 (S.1 74 0 + nI 1)

set_option maxRecDepth 100000 in
set_option maxHeartbeats 1000000 in
theorem ct_X0_openItem (l : Launch) (D : va_G) (cA : Nat → ClassId) (α : Nat → Nat) (n sz : Nat) (hn : 191 ≤ n) (S : Mem) (x : Int32) (N : Nat) (hN : S.1 74 0 = nI N) (hN2 : N < 100) (h : okC S N) : CtV l yX0_openItem wsX0_openItem ({ frames := 2, cells := 0, slots := 0, locals := 43 }) D cA α n sz [.ref (α 3), .int x] S (cOpen S N x) := by
  refine ct_enter cX0_openItem 3 none (by decide) rfl (Nat.le_of_ble_eq_true rfl) ?_
  intro p e s m below meth c hx hb hr hml hlocks hown hts hK hsz hw ls hl
  have hown : s.vm.findClass RX0 = some m.cls := hown
  have hAw : ∀ z, Aw α n s.heap.size z → Aw α n sz z := by rw [hsz]; exact fun _ h => h
  have hl : lv_has ls 3 [(0, .ref (α 3)), (1, .int x)] := hl
  refine lv_aload_n hx hb dX0_openItem_0 rfl (lv_at hl 0 rfl) ?_
  refine x_get (v := .ref (α 74)) (C := RX0) (T := TX0) (N := 3) hx hb hts (fun _ h => List.mem_cons_of_mem _ (List.mem_append_left _ (List.mem_append_left _ (List.mem_append_left _ (List.mem_append_right _ h))))) hown hK hw 3 (Nat.lt_of_lt_of_le (Nat.le_of_ble_eq_true rfl : 3 < 191) hn) (mk_3 cA α) rfl 2 (by decide) (hts _ (List.mem_of_getElem? (i := 1) rfl)) (fun _ h9 => h9) rfl dX0_openItem_1 ?_
  refine x_get (v := .int (S.1 74 0)) (C := RX9) (T := TX9) (N := 14) hx hb hts (fun _ h => List.mem_cons_of_mem _ (List.mem_append_left _ (List.mem_append_left _ (List.mem_append_right _ h)))) hown hK hw 74 (Nat.lt_of_lt_of_le (Nat.le_of_ble_eq_true rfl : 74 < 191) hn) (mk_74 cA α) rfl 0 (by decide) (hts _ (List.mem_of_getElem? (i := 2) rfl)) (fun _ h9 => h9) rfl dX0_openItem_4 ?_
  refine x_topN (k := N) hN ?_
  refine lv_istore_n (lv' := [(2, .int (nI N)), (0, .ref (α 3)), (1, .int x)]) hx hb dX0_openItem_7 rfl hl (by decide) rfl (fun ls hl => ?_)
  refine lv_aload_n hx hb dX0_openItem_8 rfl (lv_at hl 1 rfl) ?_
  refine x_get (v := .ref (α 74)) (C := RX0) (T := TX0) (N := 3) hx hb hts (fun _ h => List.mem_cons_of_mem _ (List.mem_append_left _ (List.mem_append_left _ (List.mem_append_left _ (List.mem_append_right _ h))))) hown hK hw 3 (Nat.lt_of_lt_of_le (Nat.le_of_ble_eq_true rfl : 3 < 191) hn) (mk_3 cA α) rfl 2 (by decide) (hts _ (List.mem_of_getElem? (i := 1) rfl)) (fun _ h9 => h9) rfl dX0_openItem_9 ?_
  refine lv_iload_n hx hb dX0_openItem_12 rfl (lv_at hl 0 rfl) ?_
  refine lv_iconst (v := (-1)) hx hb dX0_openItem_13 (by decide) ?_
  refine lv_iconst (v := nI 0) hx hb dX0_openItem_14 (by decide) ?_
  refine x_callVV (q := 74) (C := RX9) (As := [.int (nI N), .int (-1), .int (nI 0)]) (rest := []) ⟨hx, hb, hml, hown, hts⟩ (ct_X9_putPair l D cA α n _ hn S N (-1) (nI 0) hN2) (cwV 3 hts gX0_openItem_X9_putPair rfl rfl rfl (by decide +kernel) ⟨Nat.le_of_ble_eq_true rfl, Nat.le_of_ble_eq_true rfl⟩) hK hw hAw (ws_recv hK hw (q := 74) (Nat.lt_of_lt_of_le (Nat.le_of_ble_eq_true rfl : 74 < 191) hn) (mk_74 cA α) rfl) rfl hl.1 rfl (Nat.le_of_ble_eq_true rfl) dX0_openItem_15 ⟨Nat.zero_le _, Nat.zero_le _⟩ (fun S1 eS1 H locs hw => ?_)
  refine lv_aload_n hx hb dX0_openItem_18 rfl (lv_at hl 1 rfl) ?_
  refine x_get (v := .ref (α 74)) (C := RX0) (T := TX0) (N := 3) hx hb hts (fun _ h => List.mem_cons_of_mem _ (List.mem_append_left _ (List.mem_append_left _ (List.mem_append_left _ (List.mem_append_right _ h))))) hown hK hw 3 (Nat.lt_of_lt_of_le (Nat.le_of_ble_eq_true rfl : 3 < 191) hn) (mk_3 cA α) rfl 2 (by decide) (hts _ (List.mem_of_getElem? (i := 1) rfl)) (fun _ h9 => h9) rfl dX0_openItem_19 ?_
  refine x_get (v := .ref (α 75)) (C := RX9) (T := TX9) (N := 14) hx hb hts (fun _ h => List.mem_cons_of_mem _ (List.mem_append_left _ (List.mem_append_left _ (List.mem_append_right _ h)))) hown hK hw 74 (Nat.lt_of_lt_of_le (Nat.le_of_ble_eq_true rfl : 74 < 191) hn) (mk_74 cA α) rfl 6 (by decide) (hts _ (List.mem_of_getElem? (i := 3) rfl)) (fun _ h9 => h9) rfl dX0_openItem_22 ?_
  refine lv_iload_n hx hb dX0_openItem_25 rfl (lv_at hl 0 rfl) ?_
  refine lv_iload_n hx hb dX0_openItem_26 rfl (lv_at hl 2 rfl) ?_
  refine x_iast (x := x) hx hb hK hw 75 100 (Nat.lt_of_lt_of_le (Nat.le_of_ble_eq_true rfl : 75 < 191) hn) (mk_75 cA α) N rfl (by omega) (by decide) dX0_openItem_27 (fun S2 eS2 H locs hw => ?_)
  refine lv_aload_n hx hb dX0_openItem_28 rfl (lv_at hl 1 rfl) ?_
  refine x_get (v := .ref (α 74)) (C := RX0) (T := TX0) (N := 3) hx hb hts (fun _ h => List.mem_cons_of_mem _ (List.mem_append_left _ (List.mem_append_left _ (List.mem_append_left _ (List.mem_append_right _ h))))) hown hK hw 3 (Nat.lt_of_lt_of_le (Nat.le_of_ble_eq_true rfl : 3 < 191) hn) (mk_3 cA α) rfl 2 (by decide) (hts _ (List.mem_of_getElem? (i := 1) rfl)) (fun _ h9 => h9) rfl dX0_openItem_29 ?_
  refine x_get (v := .ref (α 78)) (C := RX9) (T := TX9) (N := 14) hx hb hts (fun _ h => List.mem_cons_of_mem _ (List.mem_append_left _ (List.mem_append_left _ (List.mem_append_right _ h)))) hown hK hw 74 (Nat.lt_of_lt_of_le (Nat.le_of_ble_eq_true rfl : 74 < 191) hn) (mk_74 cA α) rfl 9 (by decide) (hts _ (List.mem_of_getElem? (i := 4) rfl)) (fun _ h9 => h9) rfl dX0_openItem_32 ?_
  refine lv_iload_n hx hb dX0_openItem_35 rfl (lv_at hl 0 rfl) ?_
  refine lv_aload_n hx hb dX0_openItem_36 rfl (lv_at hl 1 rfl) ?_
  refine lv_iload_n hx hb dX0_openItem_37 rfl (lv_at hl 0 rfl) ?_
  refine x_callVLr (q := 3) (C := RX0) (As := [.int (nI N)]) (rest := [.int (nI N), .ref (α 78)]) ⟨hx, hb, hml, hown, hts⟩ (ct_X0_valueOf l D cA α n _ hn S2 N (by subst_vars; exact h)) (cwV 1 hts gX0_openItem_X0_valueOf rfl rfl rfl (by decide +kernel) ⟨Nat.le_of_ble_eq_true rfl, Nat.le_of_ble_eq_true rfl⟩) hK hw hAw (ws_recv hK hw (q := 3) (Nat.lt_of_lt_of_le (Nat.le_of_ble_eq_true rfl : 3 < 191) hn) (mk_3 cA α) rfl) rfl hl.1 rfl (Nat.le_of_ble_eq_true rfl) dX0_openItem_38 ⟨Nat.zero_le _, Nat.zero_le _⟩ (fun H locs hw => ?_)
  refine x_last (x := cVal S2 N) hx hb hK hw 78 100 (Nat.lt_of_lt_of_le (Nat.le_of_ble_eq_true rfl : 78 < 191) hn) (mk_78 cA α) N rfl (by omega) (by decide) dX0_openItem_41 (fun S3 eS3 H locs hw => ?_)
  refine lv_aload_n hx hb dX0_openItem_42 rfl (lv_at hl 1 rfl) ?_
  refine x_get (v := .ref (α 74)) (C := RX0) (T := TX0) (N := 3) hx hb hts (fun _ h => List.mem_cons_of_mem _ (List.mem_append_left _ (List.mem_append_left _ (List.mem_append_left _ (List.mem_append_right _ h))))) hown hK hw 3 (Nat.lt_of_lt_of_le (Nat.le_of_ble_eq_true rfl : 3 < 191) hn) (mk_3 cA α) rfl 2 (by decide) (hts _ (List.mem_of_getElem? (i := 1) rfl)) (fun _ h9 => h9) rfl dX0_openItem_43 ?_
  refine lv_dup hx hb dX0_openItem_46 rfl ?_
  refine x_get (v := .int (S3.1 74 0)) (C := RX9) (T := TX9) (N := 14) hx hb hts (fun _ h => List.mem_cons_of_mem _ (List.mem_append_left _ (List.mem_append_left _ (List.mem_append_right _ h)))) hown hK hw 74 (Nat.lt_of_lt_of_le (Nat.le_of_ble_eq_true rfl : 74 < 191) hn) (mk_74 cA α) rfl 0 (by decide) (hts _ (List.mem_of_getElem? (i := 2) rfl)) (fun _ h9 => h9) rfl dX0_openItem_47 ?_
  refine lv_iconst (v := nI 1) hx hb dX0_openItem_50 (by decide) ?_
  refine lv_iadd hx hb dX0_openItem_51 ?_
  refine x_putI (x := (S3.1 74 0) + (nI 1)) (ty := .int) (C := RX9) (T := TX9) (N := 14) hx hb hts (fun _ h => List.mem_cons_of_mem _ (List.mem_append_left _ (List.mem_append_left _ (List.mem_append_right _ h)))) tyX9 tyX9_ok nmX9 hown hK hw 74 (Nat.lt_of_lt_of_le (Nat.le_of_ble_eq_true rfl : 74 < 191) hn) (mk_74 cA α) rfl 0 (by decide) (hts _ (List.mem_of_getElem? (i := 2) rfl)) (fun _ h9 => h9) rfl rfl rfl rfl (Nat.le_of_ble_eq_true rfl) rfl dX0_openItem_52 (fun S4 eS4 H locs hw => ?_)
  exact ret_v hx hb hr hlocks hK hw dX0_openItem_55 (by subst_vars; rfl)
