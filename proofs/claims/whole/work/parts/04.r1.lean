/-! the reference: its smallest methods -/
def wiL (v lo hi : Int64) : Bool := !decide (v < lo) && !decide (hi < v)
def absL (v : Int64) : Int64 := if 0 ≤ v then v else -v

set_option maxRecDepth 100000 in
set_option maxHeartbeats 1000000 in
theorem ct_X11_thrown (l : Launch) (D : va_G) (cA : Nat → ClassId) (α : Nat → Nat) (n sz : Nat) (hn : 191 ≤ n) (S : Mem)  : CtI l yX11_thrown wsX11_thrown ({ frames := 0, cells := 0, slots := 0, locals := 0 }) D cA α n sz [.ref (α 30)] S (S.1 30 0) S := by
  refine ct_enter cX11_thrown 1 (some .int) (by decide) rfl (Nat.le_of_ble_eq_true rfl) ?_
  intro p e s m below meth c hx hb hr hml hlocks hown hts hK hsz hw ls hl
  have hown : s.vm.findClass RX11 = some m.cls := hown
  have hAw : ∀ z, Aw α n s.heap.size z → Aw α n sz z := by rw [hsz]; exact fun _ h => h
  have hl : lv_has ls 1 [(0, .ref (α 30))] := hl
  refine lv_aload_n hx hb dX11_thrown_0 rfl (lv_at hl 0 rfl) ?_
  refine x_get (v := .int (S.1 30 0)) (C := RX11) (T := TX11) (N := 24) hx hb hts (fun _ h => List.mem_cons_of_mem _ (List.mem_append_right _ h)) hown hK hw 30 (Nat.lt_of_lt_of_le (Nat.le_of_ble_eq_true rfl : 30 < 191) hn) (mk_30 cA α) rfl 0 (by decide) (hts _ (List.mem_of_getElem? (i := 1) rfl)) (fun _ h9 => h9) rfl dX11_thrown_1 ?_
  exact ret_i hx hb hr hlocks hK hw dX11_thrown_4 rfl rfl

set_option maxRecDepth 100000 in
set_option maxHeartbeats 1000000 in
theorem ct_X11_within (l : Launch) (D : va_G) (cA : Nat → ClassId) (α : Nat → Nat) (n sz : Nat) (hn : 191 ≤ n) (S : Mem) (v lo hi : Int64) : CtI l yX11_within wsX11_within ({ frames := 0, cells := 0, slots := 0, locals := 0 }) D cA α n sz [.long v, .long lo, .long hi] S (b2i (wiL v lo hi)) S := by
  refine ct_enter cX11_within 6 (some .boolean) (by decide) rfl (Nat.le_of_ble_eq_true rfl) ?_
  intro p e s m below meth c hx hb hr hml hlocks hown hts hK hsz hw ls hl
  have hown : s.vm.findClass RX11 = some m.cls := hown
  have hAw : ∀ z, Aw α n s.heap.size z → Aw α n sz z := by rw [hsz]; exact fun _ h => h
  have hl : lv_has ls 6 [(0, .long v), (2, .long lo), (4, .long hi)] := hl
  refine lv_lload_n hx hb dX11_within_0 rfl (lv_at hl 0 rfl) ?_
  refine lv_lload_n hx hb dX11_within_1 rfl (lv_at hl 1 rfl) ?_
  refine x_lcmp_lt (tgt := 17) hx hb dX11_within_2 dX11_within_3 (by decide) (fun c1 => ?_) (fun c1 => ?_)
  · skip
    refine lv_iconst (v := nI 0) hx hb dX11_within_17 (by decide) ?_
    exact ret_z hx hb hr (by first | rfl | decide | exact narB _) hlocks hK hw dX11_within_18 (by first | (simp only [wiL, if_pos c1, if_neg (not_not_intro c1), decide_eq_true c1, if_true, if_false, eq_self, Bool.false_eq_true, not_true_eq_false, not_false_eq_true, decide_true, decide_false, Bool.and_true, Bool.true_and, Bool.and_false, Bool.false_and, Bool.not_true, Bool.not_false, Bool.or_true, Bool.true_or, Bool.or_false, Bool.false_or, reduceIte, b2i_t, b2i_f]; done) | rfl | (simp [wiL, if_pos c1, if_neg (not_not_intro c1), decide_eq_true c1, b2i, nI_0, nI_one]; done)) rfl
  · skip
    refine lv_lload_n hx hb dX11_within_6 rfl (lv_at hl 0 rfl) ?_
    refine lv_lload hx hb dX11_within_7 (lv_at hl 2 rfl) ?_
    refine x_lcmp_gt (tgt := 17) hx hb dX11_within_9 dX11_within_10 (by decide) (fun c2 => ?_) (fun c2 => ?_)
    · skip
      refine lv_iconst (v := nI 0) hx hb dX11_within_17 (by decide) ?_
      exact ret_z hx hb hr (by first | rfl | decide | exact narB _) hlocks hK hw dX11_within_18 (by first | (simp only [wiL, if_neg c1, if_pos c1, decide_eq_false c1, if_pos c2, if_neg (not_not_intro c2), decide_eq_true c2, if_true, if_false, eq_self, Bool.false_eq_true, not_true_eq_false, not_false_eq_true, decide_true, decide_false, Bool.and_true, Bool.true_and, Bool.and_false, Bool.false_and, Bool.not_true, Bool.not_false, Bool.or_true, Bool.true_or, Bool.or_false, Bool.false_or, reduceIte, b2i_t, b2i_f]; done) | rfl | (simp [wiL, if_neg c1, if_pos c1, decide_eq_false c1, if_pos c2, if_neg (not_not_intro c2), decide_eq_true c2, b2i, nI_0, nI_one]; done)) rfl
    · skip
      refine lv_iconst (v := nI 1) hx hb dX11_within_13 (by decide) ?_
      refine lv_goto (tgt := 18) hx hb dX11_within_14 (by decide) ?_
      exact ret_z hx hb hr (by first | rfl | decide | exact narB _) hlocks hK hw dX11_within_18 (by first | (simp only [wiL, if_neg c1, if_pos c1, decide_eq_false c1, if_neg c2, if_pos c2, decide_eq_false c2, if_true, if_false, eq_self, Bool.false_eq_true, not_true_eq_false, not_false_eq_true, decide_true, decide_false, Bool.and_true, Bool.true_and, Bool.and_false, Bool.false_and, Bool.not_true, Bool.not_false, Bool.or_true, Bool.true_or, Bool.or_false, Bool.false_or, reduceIte, b2i_t, b2i_f]; done) | rfl | (simp [wiL, if_neg c1, if_pos c1, decide_eq_false c1, if_neg c2, if_pos c2, decide_eq_false c2, b2i, nI_0, nI_one]; done)) rfl

set_option maxRecDepth 100000 in
set_option maxHeartbeats 1000000 in
theorem ct_X11_absolute (l : Launch) (D : va_G) (cA : Nat → ClassId) (α : Nat → Nat) (n sz : Nat) (hn : 191 ≤ n) (S : Mem) (v : Int64) : CtL l yX11_absolute wsX11_absolute ({ frames := 0, cells := 0, slots := 0, locals := 0 }) D cA α n sz [.long v] S (absL v) S := by
  refine ct_enter cX11_absolute 2 (some .long) (by decide) rfl (Nat.le_of_ble_eq_true rfl) ?_
  intro p e s m below meth c hx hb hr hml hlocks hown hts hK hsz hw ls hl
  have hown : s.vm.findClass RX11 = some m.cls := hown
  have hAw : ∀ z, Aw α n s.heap.size z → Aw α n sz z := by rw [hsz]; exact fun _ h => h
  have hl : lv_has ls 2 [(0, .long v)] := hl
  refine lv_lload_n hx hb dX11_absolute_0 rfl (lv_at hl 0 rfl) ?_
  refine lv_lconst (v := 0) hx hb dX11_absolute_1 (by decide) ?_
  refine x_lcmp_ge (tgt := 11) hx hb dX11_absolute_2 dX11_absolute_3 (by decide) (fun c1 => ?_) (fun c1 => ?_)
  · skip
    refine lv_lload_n hx hb dX11_absolute_11 rfl (lv_at hl 0 rfl) ?_
    exact ret_l hx hb hr hlocks hK hw dX11_absolute_12 (by first | (simp only [absL, if_pos c1, if_neg (not_not_intro c1), decide_eq_true c1, if_true, if_false, eq_self, Bool.false_eq_true, not_true_eq_false, not_false_eq_true, decide_true, decide_false, Bool.and_true, Bool.true_and, Bool.and_false, Bool.false_and, Bool.not_true, Bool.not_false, Bool.or_true, Bool.true_or, Bool.or_false, Bool.false_or, reduceIte, b2i_t, b2i_f]; done) | rfl | (simp [absL, if_pos c1, if_neg (not_not_intro c1), decide_eq_true c1, b2i, nI_0, nI_one]; done)) rfl
  · skip
    refine lv_lload_n hx hb dX11_absolute_6 rfl (lv_at hl 0 rfl) ?_
    refine lv_lneg hx hb dX11_absolute_7 ?_
    refine lv_goto (tgt := 12) hx hb dX11_absolute_8 (by decide) ?_
    exact ret_l hx hb hr hlocks hK hw dX11_absolute_12 (by first | (simp only [absL, if_neg c1, if_pos c1, decide_eq_false c1, if_true, if_false, eq_self, Bool.false_eq_true, not_true_eq_false, not_false_eq_true, decide_true, decide_false, Bool.and_true, Bool.true_and, Bool.and_false, Bool.false_and, Bool.not_true, Bool.not_false, Bool.or_true, Bool.true_or, Bool.or_false, Bool.false_or, reduceIte, b2i_t, b2i_f]; done) | rfl | (simp [absL, if_neg c1, if_pos c1, decide_eq_false c1, b2i, nI_0, nI_one]; done)) rfl

set_option maxRecDepth 100000 in
set_option maxHeartbeats 1000000 in
theorem ct_X11_fail (l : Launch) (D : va_G) (cA : Nat → ClassId) (α : Nat → Nat) (n sz : Nat) (hn : 191 ≤ n) (S : Mem) (x : Int32) : CtI l yX11_fail wsX11_fail ({ frames := 0, cells := 0, slots := 0, locals := 0 }) D cA α n sz [.ref (α 30), .int x] S (nI 0) (setI S 30 0 x) := by
  refine ct_enter cX11_fail 2 (some .int) (by decide) rfl (Nat.le_of_ble_eq_true rfl) ?_
  intro p e s m below meth c hx hb hr hml hlocks hown hts hK hsz hw ls hl
  have hown : s.vm.findClass RX11 = some m.cls := hown
  have hAw : ∀ z, Aw α n s.heap.size z → Aw α n sz z := by rw [hsz]; exact fun _ h => h
  have hl : lv_has ls 2 [(0, .ref (α 30)), (1, .int x)] := hl
  refine lv_aload_n hx hb dX11_fail_0 rfl (lv_at hl 0 rfl) ?_
  refine lv_iload_n hx hb dX11_fail_1 rfl (lv_at hl 1 rfl) ?_
  refine x_putI (x := x) (ty := .int) (C := RX11) (T := TX11) (N := 24) hx hb hts (fun _ h => List.mem_cons_of_mem _ (List.mem_append_right _ h)) tyX11 tyX11_ok nmX11 hown hK hw 30 (Nat.lt_of_lt_of_le (Nat.le_of_ble_eq_true rfl : 30 < 191) hn) (mk_30 cA α) rfl 0 (by decide) (hts _ (List.mem_of_getElem? (i := 1) rfl)) (fun _ h9 => h9) rfl rfl rfl rfl (Nat.le_of_ble_eq_true rfl) rfl dX11_fail_2 (fun S1 eS1 H locs hw => ?_)
  refine lv_iconst (v := nI 0) hx hb dX11_fail_5 (by decide) ?_
  exact ret_i hx hb hr hlocks hK hw dX11_fail_6 rfl (by subst_vars; rfl)

set_option maxRecDepth 100000 in
set_option maxHeartbeats 1000000 in
theorem ct_X11_told (l : Launch) (D : va_G) (cA : Nat → ClassId) (α : Nat → Nat) (n sz : Nat) (hn : 191 ≤ n) (S : Mem) (x : Int32) : CtI l yX11_told wsX11_told ({ frames := 0, cells := 0, slots := 0, locals := 0 }) D cA α n sz [.ref (α 30), .int x] S x (setI S 30 0 (nI 0)) := by
  refine ct_enter cX11_told 2 (some .int) (by decide) rfl (Nat.le_of_ble_eq_true rfl) ?_
  intro p e s m below meth c hx hb hr hml hlocks hown hts hK hsz hw ls hl
  have hown : s.vm.findClass RX11 = some m.cls := hown
  have hAw : ∀ z, Aw α n s.heap.size z → Aw α n sz z := by rw [hsz]; exact fun _ h => h
  have hl : lv_has ls 2 [(0, .ref (α 30)), (1, .int x)] := hl
  refine lv_aload_n hx hb dX11_told_0 rfl (lv_at hl 0 rfl) ?_
  refine lv_iconst (v := nI 0) hx hb dX11_told_1 (by decide) ?_
  refine x_putI (x := nI 0) (ty := .int) (C := RX11) (T := TX11) (N := 24) hx hb hts (fun _ h => List.mem_cons_of_mem _ (List.mem_append_right _ h)) tyX11 tyX11_ok nmX11 hown hK hw 30 (Nat.lt_of_lt_of_le (Nat.le_of_ble_eq_true rfl : 30 < 191) hn) (mk_30 cA α) rfl 0 (by decide) (hts _ (List.mem_of_getElem? (i := 1) rfl)) (fun _ h9 => h9) rfl rfl rfl rfl (Nat.le_of_ble_eq_true rfl) rfl dX11_told_2 (fun S1 eS1 H locs hw => ?_)
  refine lv_iload_n hx hb dX11_told_5 rfl (lv_at hl 1 rfl) ?_
  exact ret_i hx hb hr hlocks hK hw dX11_told_6 rfl (by subst_vars; rfl)

set_option maxRecDepth 100000 in
set_option maxHeartbeats 1000000 in
theorem ct_X11_of (l : Launch) (D : va_G) (cA : Nat → ClassId) (α : Nat → Nat) (n sz : Nat) (hn : 191 ≤ n) (S : Mem) (j w : Nat) (hj : 8 + 6 * j + w < 1508) : CtI l yX11_of wsX11_of ({ frames := 0, cells := 0, slots := 0, locals := 0 }) D cA α n sz [.ref (α 30), .int (nI j), .int (nI w)] S (S.1 34 (8 + 6 * j + w)) S := by
  refine ct_enter cX11_of 3 (some .int) (by decide) rfl (Nat.le_of_ble_eq_true rfl) ?_
  intro p e s m below meth c hx hb hr hml hlocks hown hts hK hsz hw ls hl
  have hown : s.vm.findClass RX11 = some m.cls := hown
  have hAw : ∀ z, Aw α n s.heap.size z → Aw α n sz z := by rw [hsz]; exact fun _ h => h
  have hl : lv_has ls 3 [(0, .ref (α 30)), (1, .int (nI j)), (2, .int (nI w))] := hl
  refine lv_aload_n hx hb dX11_of_0 rfl (lv_at hl 0 rfl) ?_
  refine x_get (v := .ref (α 34)) (C := RX11) (T := TX11) (N := 24) hx hb hts (fun _ h => List.mem_cons_of_mem _ (List.mem_append_right _ h)) hown hK hw 30 (Nat.lt_of_lt_of_le (Nat.le_of_ble_eq_true rfl : 30 < 191) hn) (mk_30 cA α) rfl 13 (by decide) (hts _ (List.mem_of_getElem? (i := 1) rfl)) (fun _ h9 => h9) rfl dX11_of_1 ?_
  refine lv_bipush (v := nI 8) hx hb dX11_of_4 (by decide) ?_
  refine lv_bipush (v := nI 6) hx hb dX11_of_6 (by decide) ?_
  refine lv_iload_n hx hb dX11_of_8 rfl (lv_at hl 1 rfl) ?_
  refine xn_imul hx hb dX11_of_9 ?_
  refine xn_iadd hx hb dX11_of_10 ?_
  refine lv_iload_n hx hb dX11_of_11 rfl (lv_at hl 2 rfl) ?_
  refine xn_iadd hx hb dX11_of_12 ?_
  refine x_iald hx hb hK hw 34 1508 (Nat.lt_of_lt_of_le (Nat.le_of_ble_eq_true rfl : 34 < 191) hn) (mk_34 cA α) ((8 + (6 * j)) + w) rfl (by omega) (by decide) dX11_of_13 ?_
  exact ret_i hx hb hr hlocks hK hw dX11_of_14 rfl rfl

set_option maxRecDepth 100000 in
set_option maxHeartbeats 1000000 in
theorem ct_X11_put (l : Launch) (D : va_G) (cA : Nat → ClassId) (α : Nat → Nat) (n sz : Nat) (hn : 191 ≤ n) (S : Mem) (j w : Nat) (x : Int32) (hj : 8 + 6 * j + w < 1508) : CtV l yX11_put wsX11_put ({ frames := 0, cells := 0, slots := 0, locals := 0 }) D cA α n sz [.ref (α 30), .int (nI j), .int (nI w), .int x] S (setI S 34 (8 + 6 * j + w) x) := by
  refine ct_enter cX11_put 4 none (by decide) rfl (Nat.le_of_ble_eq_true rfl) ?_
  intro p e s m below meth c hx hb hr hml hlocks hown hts hK hsz hw ls hl
  have hown : s.vm.findClass RX11 = some m.cls := hown
  have hAw : ∀ z, Aw α n s.heap.size z → Aw α n sz z := by rw [hsz]; exact fun _ h => h
  have hl : lv_has ls 4 [(0, .ref (α 30)), (1, .int (nI j)), (2, .int (nI w)), (3, .int x)] := hl
  refine lv_aload_n hx hb dX11_put_0 rfl (lv_at hl 0 rfl) ?_
  refine x_get (v := .ref (α 34)) (C := RX11) (T := TX11) (N := 24) hx hb hts (fun _ h => List.mem_cons_of_mem _ (List.mem_append_right _ h)) hown hK hw 30 (Nat.lt_of_lt_of_le (Nat.le_of_ble_eq_true rfl : 30 < 191) hn) (mk_30 cA α) rfl 13 (by decide) (hts _ (List.mem_of_getElem? (i := 1) rfl)) (fun _ h9 => h9) rfl dX11_put_1 ?_
  refine lv_bipush (v := nI 8) hx hb dX11_put_4 (by decide) ?_
  refine lv_bipush (v := nI 6) hx hb dX11_put_6 (by decide) ?_
  refine lv_iload_n hx hb dX11_put_8 rfl (lv_at hl 1 rfl) ?_
  refine xn_imul hx hb dX11_put_9 ?_
  refine xn_iadd hx hb dX11_put_10 ?_
  refine lv_iload_n hx hb dX11_put_11 rfl (lv_at hl 2 rfl) ?_
  refine xn_iadd hx hb dX11_put_12 ?_
  refine lv_iload_n hx hb dX11_put_13 rfl (lv_at hl 3 rfl) ?_
  refine x_iast (x := x) hx hb hK hw 34 1508 (Nat.lt_of_lt_of_le (Nat.le_of_ble_eq_true rfl : 34 < 191) hn) (mk_34 cA α) ((8 + (6 * j)) + w) rfl (by omega) (by decide) dX11_put_14 (fun S1 eS1 H locs hw => ?_)
  exact ret_v hx hb hr hlocks hK hw dX11_put_15 (by subst_vars; rfl)

set_option maxRecDepth 100000 in
set_option maxHeartbeats 1000000 in
theorem ct_X11_lot (l : Launch) (D : va_G) (cA : Nat → ClassId) (α : Nat → Nat) (n sz : Nat) (hn : 191 ≤ n) (S : Mem) (j w : Nat) (hj : 608 + 4 * j + w < 1508) : CtI l yX11_lot wsX11_lot ({ frames := 0, cells := 0, slots := 0, locals := 0 }) D cA α n sz [.ref (α 30), .int (nI j), .int (nI w)] S (S.1 34 (608 + 4 * j + w)) S := by
  refine ct_enter cX11_lot 3 (some .int) (by decide) rfl (Nat.le_of_ble_eq_true rfl) ?_
  intro p e s m below meth c hx hb hr hml hlocks hown hts hK hsz hw ls hl
  have hown : s.vm.findClass RX11 = some m.cls := hown
  have hAw : ∀ z, Aw α n s.heap.size z → Aw α n sz z := by rw [hsz]; exact fun _ h => h
  have hl : lv_has ls 3 [(0, .ref (α 30)), (1, .int (nI j)), (2, .int (nI w))] := hl
  refine lv_aload_n hx hb dX11_lot_0 rfl (lv_at hl 0 rfl) ?_
  refine x_get (v := .ref (α 34)) (C := RX11) (T := TX11) (N := 24) hx hb hts (fun _ h => List.mem_cons_of_mem _ (List.mem_append_right _ h)) hown hK hw 30 (Nat.lt_of_lt_of_le (Nat.le_of_ble_eq_true rfl : 30 < 191) hn) (mk_30 cA α) rfl 13 (by decide) (hts _ (List.mem_of_getElem? (i := 1) rfl)) (fun _ h9 => h9) rfl dX11_lot_1 ?_
  refine lv_sipush (v := nI 608) hx hb dX11_lot_4 (by decide) ?_
  refine lv_iconst (v := nI 4) hx hb dX11_lot_7 (by decide) ?_
  refine lv_iload_n hx hb dX11_lot_8 rfl (lv_at hl 1 rfl) ?_
  refine xn_imul hx hb dX11_lot_9 ?_
  refine xn_iadd hx hb dX11_lot_10 ?_
  refine lv_iload_n hx hb dX11_lot_11 rfl (lv_at hl 2 rfl) ?_
  refine xn_iadd hx hb dX11_lot_12 ?_
  refine x_iald hx hb hK hw 34 1508 (Nat.lt_of_lt_of_le (Nat.le_of_ble_eq_true rfl : 34 < 191) hn) (mk_34 cA α) ((608 + (4 * j)) + w) rfl (by omega) (by decide) dX11_lot_13 ?_
  exact ret_i hx hb hr hlocks hK hw dX11_lot_14 rfl rfl

set_option maxRecDepth 100000 in
set_option maxHeartbeats 1000000 in
theorem ct_X11_delivery (l : Launch) (D : va_G) (cA : Nat → ClassId) (α : Nat → Nat) (n sz : Nat) (hn : 191 ≤ n) (S : Mem) (j w : Nat) (hj : 1008 + 5 * j + w < 1508) : CtI l yX11_delivery wsX11_delivery ({ frames := 0, cells := 0, slots := 0, locals := 0 }) D cA α n sz [.ref (α 30), .int (nI j), .int (nI w)] S (S.1 34 (1008 + 5 * j + w)) S := by
  refine ct_enter cX11_delivery 3 (some .int) (by decide) rfl (Nat.le_of_ble_eq_true rfl) ?_
  intro p e s m below meth c hx hb hr hml hlocks hown hts hK hsz hw ls hl
  have hown : s.vm.findClass RX11 = some m.cls := hown
  have hAw : ∀ z, Aw α n s.heap.size z → Aw α n sz z := by rw [hsz]; exact fun _ h => h
  have hl : lv_has ls 3 [(0, .ref (α 30)), (1, .int (nI j)), (2, .int (nI w))] := hl
  refine lv_aload_n hx hb dX11_delivery_0 rfl (lv_at hl 0 rfl) ?_
  refine x_get (v := .ref (α 34)) (C := RX11) (T := TX11) (N := 24) hx hb hts (fun _ h => List.mem_cons_of_mem _ (List.mem_append_right _ h)) hown hK hw 30 (Nat.lt_of_lt_of_le (Nat.le_of_ble_eq_true rfl : 30 < 191) hn) (mk_30 cA α) rfl 13 (by decide) (hts _ (List.mem_of_getElem? (i := 1) rfl)) (fun _ h9 => h9) rfl dX11_delivery_1 ?_
  refine lv_sipush (v := nI 1008) hx hb dX11_delivery_4 (by decide) ?_
  refine lv_iconst (v := nI 5) hx hb dX11_delivery_7 (by decide) ?_
  refine lv_iload_n hx hb dX11_delivery_8 rfl (lv_at hl 1 rfl) ?_
  refine xn_imul hx hb dX11_delivery_9 ?_
  refine xn_iadd hx hb dX11_delivery_10 ?_
  refine lv_iload_n hx hb dX11_delivery_11 rfl (lv_at hl 2 rfl) ?_
  refine xn_iadd hx hb dX11_delivery_12 ?_
  refine x_iald hx hb hK hw 34 1508 (Nat.lt_of_lt_of_le (Nat.le_of_ble_eq_true rfl : 34 < 191) hn) (mk_34 cA α) ((1008 + (5 * j)) + w) rfl (by omega) (by decide) dX11_delivery_13 ?_
  exact ret_i hx hb hr hlocks hK hw dX11_delivery_14 rfl rfl

def isCoR (S : Mem) (x : Int32) : Bool := wiL x.toInt64 0 (S.1 33 1 - nI 1).toInt64
def isPrR (S : Mem) (x : Int32) : Bool := wiL x.toInt64 0 (S.1 33 2 - nI 1).toInt64
def isItR (S : Mem) (x : Int32) : Bool := wiL x.toInt64 0 (S.1 34 0 - nI 1).toInt64

set_option maxRecDepth 100000 in
set_option maxHeartbeats 1000000 in
theorem ct_X11_isCompany (l : Launch) (D : va_G) (cA : Nat → ClassId) (α : Nat → Nat) (n sz : Nat) (hn : 191 ≤ n) (S : Mem) (x : Int32) : CtI l yX11_isCompany wsX11_isCompany ({ frames := 1, cells := 0, slots := 0, locals := 25 }) D cA α n sz [.ref (α 30), .int x] S (b2i (isCoR S x)) S := by
  refine ct_enter cX11_isCompany 2 (some .boolean) (by decide) rfl (Nat.le_of_ble_eq_true rfl) ?_
  intro p e s m below meth c hx hb hr hml hlocks hown hts hK hsz hw ls hl
  have hown : s.vm.findClass RX11 = some m.cls := hown
  have hAw : ∀ z, Aw α n s.heap.size z → Aw α n sz z := by rw [hsz]; exact fun _ h => h
  have hl : lv_has ls 2 [(0, .ref (α 30)), (1, .int x)] := hl
  refine lv_iload_n hx hb dX11_isCompany_0 rfl (lv_at hl 1 rfl) ?_
  refine lv_i2l hx hb dX11_isCompany_1 rfl ?_
  refine lv_lconst (v := 0) hx hb dX11_isCompany_2 (by decide) ?_
  refine lv_aload_n hx hb dX11_isCompany_3 rfl (lv_at hl 0 rfl) ?_
  refine x_get (v := .ref (α 33)) (C := RX11) (T := TX11) (N := 24) hx hb hts (fun _ h => List.mem_cons_of_mem _ (List.mem_append_right _ h)) hown hK hw 30 (Nat.lt_of_lt_of_le (Nat.le_of_ble_eq_true rfl : 30 < 191) hn) (mk_30 cA α) rfl 11 (by decide) (hts _ (List.mem_of_getElem? (i := 1) rfl)) (fun _ h9 => h9) rfl dX11_isCompany_4 ?_
  refine lv_iconst (v := nI 1) hx hb dX11_isCompany_7 (by decide) ?_
  refine x_iald hx hb hK hw 33 40 (Nat.lt_of_lt_of_le (Nat.le_of_ble_eq_true rfl : 33 < 191) hn) (mk_33 cA α) 1 rfl (by decide) (by decide) dX11_isCompany_8 ?_
  refine lv_iconst (v := nI 1) hx hb dX11_isCompany_9 (by decide) ?_
  refine lv_isub hx hb dX11_isCompany_10 ?_
  refine lv_i2l hx hb dX11_isCompany_11 rfl ?_
  refine x_callSIr (q := 0) (C := RX0) (As := [.long x.toInt64, .long 0, .long ((S.1 33 1 - nI 1).toInt64)]) (rest := []) ⟨hx, hb, hml, hown, hts⟩ (ct_X11_within l D cA α n _ hn S x.toInt64 0 ((S.1 33 1 - nI 1).toInt64)) (va_cwS 3 hts gX11_isCompany_X11_within rfl rfl rfl (by decide +kernel) ⟨Nat.le_of_ble_eq_true rfl, Nat.le_of_ble_eq_true rfl⟩) hK hw hAw rfl hl.1 rfl (Nat.le_of_ble_eq_true rfl) dX11_isCompany_12 ⟨Nat.zero_le _, Nat.zero_le _⟩ (fun H locs hw => ?_)
  exact ret_z hx hb hr (by first | rfl | decide | exact narB _) hlocks hK hw dX11_isCompany_15 (by first | (simp only [isCoR, eq_self, if_true, if_false, eq_self, Bool.false_eq_true, not_true_eq_false, not_false_eq_true, decide_true, decide_false, Bool.and_true, Bool.true_and, Bool.and_false, Bool.false_and, Bool.not_true, Bool.not_false, Bool.or_true, Bool.true_or, Bool.or_false, Bool.false_or, reduceIte, b2i_t, b2i_f]; done) | rfl | (simp [isCoR, eq_self, b2i, nI_0, nI_one]; done)) rfl

set_option maxRecDepth 100000 in
set_option maxHeartbeats 1000000 in
theorem ct_X11_isProduct (l : Launch) (D : va_G) (cA : Nat → ClassId) (α : Nat → Nat) (n sz : Nat) (hn : 191 ≤ n) (S : Mem) (x : Int32) : CtI l yX11_isProduct wsX11_isProduct ({ frames := 1, cells := 0, slots := 0, locals := 25 }) D cA α n sz [.ref (α 30), .int x] S (b2i (isPrR S x)) S := by
  refine ct_enter cX11_isProduct 2 (some .boolean) (by decide) rfl (Nat.le_of_ble_eq_true rfl) ?_
  intro p e s m below meth c hx hb hr hml hlocks hown hts hK hsz hw ls hl
  have hown : s.vm.findClass RX11 = some m.cls := hown
  have hAw : ∀ z, Aw α n s.heap.size z → Aw α n sz z := by rw [hsz]; exact fun _ h => h
  have hl : lv_has ls 2 [(0, .ref (α 30)), (1, .int x)] := hl
  refine lv_iload_n hx hb dX11_isProduct_0 rfl (lv_at hl 1 rfl) ?_
  refine lv_i2l hx hb dX11_isProduct_1 rfl ?_
  refine lv_lconst (v := 0) hx hb dX11_isProduct_2 (by decide) ?_
  refine lv_aload_n hx hb dX11_isProduct_3 rfl (lv_at hl 0 rfl) ?_
  refine x_get (v := .ref (α 33)) (C := RX11) (T := TX11) (N := 24) hx hb hts (fun _ h => List.mem_cons_of_mem _ (List.mem_append_right _ h)) hown hK hw 30 (Nat.lt_of_lt_of_le (Nat.le_of_ble_eq_true rfl : 30 < 191) hn) (mk_30 cA α) rfl 11 (by decide) (hts _ (List.mem_of_getElem? (i := 1) rfl)) (fun _ h9 => h9) rfl dX11_isProduct_4 ?_
  refine lv_iconst (v := nI 2) hx hb dX11_isProduct_7 (by decide) ?_
  refine x_iald hx hb hK hw 33 40 (Nat.lt_of_lt_of_le (Nat.le_of_ble_eq_true rfl : 33 < 191) hn) (mk_33 cA α) 2 rfl (by decide) (by decide) dX11_isProduct_8 ?_
  refine lv_iconst (v := nI 1) hx hb dX11_isProduct_9 (by decide) ?_
  refine lv_isub hx hb dX11_isProduct_10 ?_
  refine lv_i2l hx hb dX11_isProduct_11 rfl ?_
  refine x_callSIr (q := 0) (C := RX0) (As := [.long x.toInt64, .long 0, .long ((S.1 33 2 - nI 1).toInt64)]) (rest := []) ⟨hx, hb, hml, hown, hts⟩ (ct_X11_within l D cA α n _ hn S x.toInt64 0 ((S.1 33 2 - nI 1).toInt64)) (va_cwS 3 hts gX11_isProduct_X11_within rfl rfl rfl (by decide +kernel) ⟨Nat.le_of_ble_eq_true rfl, Nat.le_of_ble_eq_true rfl⟩) hK hw hAw rfl hl.1 rfl (Nat.le_of_ble_eq_true rfl) dX11_isProduct_12 ⟨Nat.zero_le _, Nat.zero_le _⟩ (fun H locs hw => ?_)
  exact ret_z hx hb hr (by first | rfl | decide | exact narB _) hlocks hK hw dX11_isProduct_15 (by first | (simp only [isPrR, eq_self, if_true, if_false, eq_self, Bool.false_eq_true, not_true_eq_false, not_false_eq_true, decide_true, decide_false, Bool.and_true, Bool.true_and, Bool.and_false, Bool.false_and, Bool.not_true, Bool.not_false, Bool.or_true, Bool.true_or, Bool.or_false, Bool.false_or, reduceIte, b2i_t, b2i_f]; done) | rfl | (simp [isPrR, eq_self, b2i, nI_0, nI_one]; done)) rfl

set_option maxRecDepth 100000 in
set_option maxHeartbeats 1000000 in
theorem ct_X11_isItem (l : Launch) (D : va_G) (cA : Nat → ClassId) (α : Nat → Nat) (n sz : Nat) (hn : 191 ≤ n) (S : Mem) (x : Int32) : CtI l yX11_isItem wsX11_isItem ({ frames := 1, cells := 0, slots := 0, locals := 25 }) D cA α n sz [.ref (α 30), .int x] S (b2i (isItR S x)) S := by
  refine ct_enter cX11_isItem 2 (some .boolean) (by decide) rfl (Nat.le_of_ble_eq_true rfl) ?_
  intro p e s m below meth c hx hb hr hml hlocks hown hts hK hsz hw ls hl
  have hown : s.vm.findClass RX11 = some m.cls := hown
  have hAw : ∀ z, Aw α n s.heap.size z → Aw α n sz z := by rw [hsz]; exact fun _ h => h
  have hl : lv_has ls 2 [(0, .ref (α 30)), (1, .int x)] := hl
  refine lv_iload_n hx hb dX11_isItem_0 rfl (lv_at hl 1 rfl) ?_
  refine lv_i2l hx hb dX11_isItem_1 rfl ?_
  refine lv_lconst (v := 0) hx hb dX11_isItem_2 (by decide) ?_
  refine lv_aload_n hx hb dX11_isItem_3 rfl (lv_at hl 0 rfl) ?_
  refine x_get (v := .ref (α 34)) (C := RX11) (T := TX11) (N := 24) hx hb hts (fun _ h => List.mem_cons_of_mem _ (List.mem_append_right _ h)) hown hK hw 30 (Nat.lt_of_lt_of_le (Nat.le_of_ble_eq_true rfl : 30 < 191) hn) (mk_30 cA α) rfl 13 (by decide) (hts _ (List.mem_of_getElem? (i := 1) rfl)) (fun _ h9 => h9) rfl dX11_isItem_4 ?_
  refine lv_iconst (v := nI 0) hx hb dX11_isItem_7 (by decide) ?_
  refine x_iald hx hb hK hw 34 1508 (Nat.lt_of_lt_of_le (Nat.le_of_ble_eq_true rfl : 34 < 191) hn) (mk_34 cA α) 0 rfl (by decide) (by decide) dX11_isItem_8 ?_
  refine lv_iconst (v := nI 1) hx hb dX11_isItem_9 (by decide) ?_
  refine lv_isub hx hb dX11_isItem_10 ?_
  refine lv_i2l hx hb dX11_isItem_11 rfl ?_
  refine x_callSIr (q := 0) (C := RX0) (As := [.long x.toInt64, .long 0, .long ((S.1 34 0 - nI 1).toInt64)]) (rest := []) ⟨hx, hb, hml, hown, hts⟩ (ct_X11_within l D cA α n _ hn S x.toInt64 0 ((S.1 34 0 - nI 1).toInt64)) (va_cwS 3 hts gX11_isItem_X11_within rfl rfl rfl (by decide +kernel) ⟨Nat.le_of_ble_eq_true rfl, Nat.le_of_ble_eq_true rfl⟩) hK hw hAw rfl hl.1 rfl (Nat.le_of_ble_eq_true rfl) dX11_isItem_12 ⟨Nat.zero_le _, Nat.zero_le _⟩ (fun H locs hw => ?_)
  exact ret_z hx hb hr (by first | rfl | decide | exact narB _) hlocks hK hw dX11_isItem_15 (by first | (simp only [isItR, eq_self, if_true, if_false, eq_self, Bool.false_eq_true, not_true_eq_false, not_false_eq_true, decide_true, decide_false, Bool.and_true, Bool.true_and, Bool.and_false, Bool.false_and, Bool.not_true, Bool.not_false, Bool.or_true, Bool.true_or, Bool.or_false, Bool.false_or, reduceIte, b2i_t, b2i_f]; done) | rfl | (simp [isItR, eq_self, b2i, nI_0, nI_one]; done)) rfl

/-- item j of the reference has a company of 6 and that has a currency of 4 -/
def okR (S : Mem) (j : Nat) : Prop := j < 100 ∧ okI (S.1 34 (8 + 6 * j + 0)) 6 ∧ okI (S.1 33 (10 + gN (S.1 34 (8 + 6 * j + 0)))) 4
def rRate (S : Mem) (j : Nat) : Int32 := S.1 34 (4 + gN (S.1 33 (10 + gN (S.1 34 (8 + 6 * j + 0)))))
def rVal (S : Mem) (j : Nat) : Int64 := if ¬ S.1 34 (8 + 6 * j + 4) = nI 4 then (if ¬ S.1 34 (8 + 6 * j + 4) = nI 3 then S.2 35 (9 + j) * (rRate S j).toInt64 / 100 else S.2 35 (209 + j)) else 0
def rIs (S : Mem) (j : Nat) (a b : Int32) : Bool := decide (S.1 34 (8 + 6 * j + 2) = a) && decide (S.1 34 (8 + 6 * j + 4) = b)
def rMir (S : Mem) (i j : Nat) : Bool := !decide (S.1 34 (8 + 6 * i + 2) = S.1 34 (8 + 6 * j + 2)) && decide (S.1 34 (8 + 6 * i + 0) = S.1 34 (8 + 6 * j + 1)) && decide (S.1 34 (8 + 6 * i + 1) = S.1 34 (8 + 6 * j + 0)) && decide (S.1 34 (8 + 6 * i + 3) = S.1 34 (8 + 6 * j + 3))
def rCnt (S : Mem) (j : Nat) : Bool := decide (S.1 34 (8 + 6 * j + 4) = 0) || decide (S.1 34 (8 + 6 * j + 4) = nI 1) || decide (S.1 34 (8 + 6 * j + 4) = nI 2)

set_option maxRecDepth 100000 in
set_option maxHeartbeats 1000000 in
theorem ct_X11_rateOf (l : Launch) (D : va_G) (cA : Nat → ClassId) (α : Nat → Nat) (n sz : Nat) (hn : 191 ≤ n) (S : Mem) (j : Nat) (h : okR S j) : CtI l yX11_rateOf wsX11_rateOf ({ frames := 1, cells := 0, slots := 0, locals := 22 }) D cA α n sz [.ref (α 30), .int (nI j)] S (rRate S j) S := by
  refine ct_enter cX11_rateOf 2 (some .int) (by decide) rfl (Nat.le_of_ble_eq_true rfl) ?_
  intro p e s m below meth c hx hb hr hml hlocks hown hts hK hsz hw ls hl
  have hown : s.vm.findClass RX11 = some m.cls := hown
  have hAw : ∀ z, Aw α n s.heap.size z → Aw α n sz z := by rw [hsz]; exact fun _ h => h
  have hl : lv_has ls 2 [(0, .ref (α 30)), (1, .int (nI j))] := hl
  obtain ⟨h0, h1, h2⟩ := h
  have h3 := h1.2
  have h4 := h2.2
  refine lv_aload_n hx hb dX11_rateOf_0 rfl (lv_at hl 0 rfl) ?_
  refine x_get (v := .ref (α 34)) (C := RX11) (T := TX11) (N := 24) hx hb hts (fun _ h => List.mem_cons_of_mem _ (List.mem_append_right _ h)) hown hK hw 30 (Nat.lt_of_lt_of_le (Nat.le_of_ble_eq_true rfl : 30 < 191) hn) (mk_30 cA α) rfl 13 (by decide) (hts _ (List.mem_of_getElem? (i := 1) rfl)) (fun _ h9 => h9) rfl dX11_rateOf_1 ?_
  refine lv_iconst (v := nI 4) hx hb dX11_rateOf_4 (by decide) ?_
  refine lv_aload_n hx hb dX11_rateOf_5 rfl (lv_at hl 0 rfl) ?_
  refine x_get (v := .ref (α 33)) (C := RX11) (T := TX11) (N := 24) hx hb hts (fun _ h => List.mem_cons_of_mem _ (List.mem_append_right _ h)) hown hK hw 30 (Nat.lt_of_lt_of_le (Nat.le_of_ble_eq_true rfl : 30 < 191) hn) (mk_30 cA α) rfl 11 (by decide) (hts _ (List.mem_of_getElem? (i := 2) rfl)) (fun _ h9 => h9) rfl dX11_rateOf_6 ?_
  refine lv_bipush (v := nI 10) hx hb dX11_rateOf_9 (by decide) ?_
  refine lv_aload_n hx hb dX11_rateOf_11 rfl (lv_at hl 0 rfl) ?_
  refine lv_iload_n hx hb dX11_rateOf_12 rfl (lv_at hl 1 rfl) ?_
  refine lv_iconst (v := nI 0) hx hb dX11_rateOf_13 (by decide) ?_
  refine x_callVIr (q := 30) (C := RX11) (As := [.int (nI j), .int (nI 0)]) (rest := [.int (nI 10), .ref (α 33), .int (nI 4), .ref (α 34)]) ⟨hx, hb, hml, hown, hts⟩ (ct_X11_of l D cA α n _ hn S j 0 (by omega)) (cwV 2 hts gX11_rateOf_X11_of rfl rfl rfl (by decide +kernel) ⟨Nat.le_of_ble_eq_true rfl, Nat.le_of_ble_eq_true rfl⟩) hK hw hAw (ws_recv hK hw (q := 30) (Nat.lt_of_lt_of_le (Nat.le_of_ble_eq_true rfl : 30 < 191) hn) (mk_30 cA α) rfl) rfl hl.1 rfl (Nat.le_of_ble_eq_true rfl) dX11_rateOf_14 ⟨Nat.zero_le _, Nat.zero_le _⟩ (fun H locs hw => ?_)
  refine x_topN (k := gN (S.1 34 (8 + 6 * j + 0))) h1.1 ?_
  refine xn_iadd hx hb dX11_rateOf_17 ?_
  refine x_iald hx hb hK hw 33 40 (Nat.lt_of_lt_of_le (Nat.le_of_ble_eq_true rfl : 33 < 191) hn) (mk_33 cA α) (10 + (gN (S.1 34 (8 + 6 * j + 0)))) rfl (by omega) (by decide) dX11_rateOf_18 ?_
  refine x_topN (k := gN (S.1 33 (10 + gN (S.1 34 (8 + 6 * j + 0))))) h2.1 ?_
  refine xn_iadd hx hb dX11_rateOf_19 ?_
  refine x_iald hx hb hK hw 34 1508 (Nat.lt_of_lt_of_le (Nat.le_of_ble_eq_true rfl : 34 < 191) hn) (mk_34 cA α) (4 + (gN (S.1 33 (10 + gN (S.1 34 (8 + 6 * j + 0)))))) rfl (by omega) (by decide) dX11_rateOf_20 ?_
  exact ret_i hx hb hr hlocks hK hw dX11_rateOf_21 (by first | (simp only [rRate, eq_self, if_true, if_false, eq_self, Bool.false_eq_true, not_true_eq_false, not_false_eq_true, decide_true, decide_false, Bool.and_true, Bool.true_and, Bool.and_false, Bool.false_and, Bool.not_true, Bool.not_false, Bool.or_true, Bool.true_or, Bool.or_false, Bool.false_or, reduceIte, b2i_t, b2i_f]; done) | rfl | (simp [rRate, eq_self, b2i, nI_0, nI_one]; done)) rfl

set_option maxRecDepth 100000 in
set_option maxHeartbeats 1000000 in
theorem ct_X11_valueOf (l : Launch) (D : va_G) (cA : Nat → ClassId) (α : Nat → Nat) (n sz : Nat) (hn : 191 ≤ n) (S : Mem) (j : Nat) (h : okR S j) : CtL l yX11_valueOf wsX11_valueOf ({ frames := 2, cells := 0, slots := 0, locals := 43 }) D cA α n sz [.ref (α 30), .int (nI j)] S (rVal S j) S := by
  refine ct_enter cX11_valueOf 2 (some .long) (by decide) rfl (Nat.le_of_ble_eq_true rfl) ?_
  intro p e s m below meth c hx hb hr hml hlocks hown hts hK hsz hw ls hl
  have hown : s.vm.findClass RX11 = some m.cls := hown
  have hAw : ∀ z, Aw α n s.heap.size z → Aw α n sz z := by rw [hsz]; exact fun _ h => h
  have hl : lv_has ls 2 [(0, .ref (α 30)), (1, .int (nI j))] := hl
  have h0 := h.1
  refine lv_aload_n hx hb dX11_valueOf_0 rfl (lv_at hl 0 rfl) ?_
  refine lv_iload_n hx hb dX11_valueOf_1 rfl (lv_at hl 1 rfl) ?_
  refine lv_iconst (v := nI 4) hx hb dX11_valueOf_2 (by decide) ?_
  refine x_callVIr (q := 30) (C := RX11) (As := [.int (nI j), .int (nI 4)]) (rest := []) ⟨hx, hb, hml, hown, hts⟩ (ct_X11_of l D cA α n _ hn S j 4 (by omega)) (cwV 2 hts gX11_valueOf_X11_of rfl rfl rfl (by decide +kernel) ⟨Nat.le_of_ble_eq_true rfl, Nat.le_of_ble_eq_true rfl⟩) hK hw hAw (ws_recv hK hw (q := 30) (Nat.lt_of_lt_of_le (Nat.le_of_ble_eq_true rfl : 30 < 191) hn) (mk_30 cA α) rfl) rfl hl.1 rfl (Nat.le_of_ble_eq_true rfl) dX11_valueOf_3 ⟨Nat.zero_le _, Nat.zero_le _⟩ (fun H locs hw => ?_)
  refine lv_iconst (v := nI 4) hx hb dX11_valueOf_6 (by decide) ?_
  refine lv_icmp_ne (tgt := 12) hx hb dX11_valueOf_7 (by decide) (fun c1 => ?_) (fun c1 => ?_)
  · skip
    refine lv_aload_n hx hb dX11_valueOf_12 rfl (lv_at hl 0 rfl) ?_
    refine lv_iload_n hx hb dX11_valueOf_13 rfl (lv_at hl 1 rfl) ?_
    refine lv_iconst (v := nI 4) hx hb dX11_valueOf_14 (by decide) ?_
    refine x_callVIr (q := 30) (C := RX11) (As := [.int (nI j), .int (nI 4)]) (rest := []) ⟨hx, hb, hml, hown, hts⟩ (ct_X11_of l D cA α n _ hn S j 4 (by omega)) (cwV 2 hts gX11_valueOf_X11_of rfl rfl rfl (by decide +kernel) ⟨Nat.le_of_ble_eq_true rfl, Nat.le_of_ble_eq_true rfl⟩) hK hw hAw (ws_recv hK hw (q := 30) (Nat.lt_of_lt_of_le (Nat.le_of_ble_eq_true rfl : 30 < 191) hn) (mk_30 cA α) rfl) rfl hl.1 rfl (Nat.le_of_ble_eq_true rfl) dX11_valueOf_15 ⟨Nat.zero_le _, Nat.zero_le _⟩ (fun H locs hw => ?_)
    refine lv_iconst (v := nI 3) hx hb dX11_valueOf_18 (by decide) ?_
    refine lv_icmp_ne (tgt := 35) hx hb dX11_valueOf_19 (by decide) (fun c2 => ?_) (fun c2 => ?_)
    · skip
      refine lv_aload_n hx hb dX11_valueOf_35 rfl (lv_at hl 0 rfl) ?_
      refine x_get (v := .ref (α 35)) (C := RX11) (T := TX11) (N := 24) hx hb hts (fun _ h => List.mem_cons_of_mem _ (List.mem_append_right _ h)) hown hK hw 30 (Nat.lt_of_lt_of_le (Nat.le_of_ble_eq_true rfl : 30 < 191) hn) (mk_30 cA α) rfl 14 (by decide) (hts _ (List.mem_of_getElem? (i := 1) rfl)) (fun _ h9 => h9) rfl dX11_valueOf_36 ?_
      refine lv_bipush (v := nI 9) hx hb dX11_valueOf_39 (by decide) ?_
      refine lv_iload_n hx hb dX11_valueOf_41 rfl (lv_at hl 1 rfl) ?_
      refine xn_iadd hx hb dX11_valueOf_42 ?_
      refine x_lald hx hb hK hw 35 309 (Nat.lt_of_lt_of_le (Nat.le_of_ble_eq_true rfl : 35 < 191) hn) (mk_35 cA α) (9 + j) rfl (by omega) (by decide) dX11_valueOf_43 ?_
      refine lv_aload_n hx hb dX11_valueOf_44 rfl (lv_at hl 0 rfl) ?_
      refine lv_iload_n hx hb dX11_valueOf_45 rfl (lv_at hl 1 rfl) ?_
      refine x_callVIr (q := 30) (C := RX11) (As := [.int (nI j)]) (rest := [.long (S.2 35 (9 + j))]) ⟨hx, hb, hml, hown, hts⟩ (ct_X11_rateOf l D cA α n _ hn S j h) (cwV 1 hts gX11_valueOf_X11_rateOf rfl rfl rfl (by decide +kernel) ⟨Nat.le_of_ble_eq_true rfl, Nat.le_of_ble_eq_true rfl⟩) hK hw hAw (ws_recv hK hw (q := 30) (Nat.lt_of_lt_of_le (Nat.le_of_ble_eq_true rfl : 30 < 191) hn) (mk_30 cA α) rfl) rfl hl.1 rfl (Nat.le_of_ble_eq_true rfl) dX11_valueOf_46 ⟨Nat.zero_le _, Nat.zero_le _⟩ (fun H locs hw => ?_)
      refine lv_i2l hx hb dX11_valueOf_49 rfl ?_
      refine lv_lmul hx hb dX11_valueOf_50 ?_
      refine lv_ldc2 (v := 100) hx hb hown (hts _ (List.mem_of_getElem? (i := 2) rfl)) dX11_valueOf_51 ?_
      refine lv_ldiv hx hb dX11_valueOf_54 (by decide) ?_
      exact ret_l hx hb hr hlocks hK hw dX11_valueOf_55 (by first | (simp only [rVal, if_neg c1, if_pos c1, decide_eq_false c1, if_neg c2, if_pos c2, decide_eq_false c2, if_true, if_false, eq_self, Bool.false_eq_true, not_true_eq_false, not_false_eq_true, decide_true, decide_false, Bool.and_true, Bool.true_and, Bool.and_false, Bool.false_and, Bool.not_true, Bool.not_false, Bool.or_true, Bool.true_or, Bool.or_false, Bool.false_or, reduceIte, b2i_t, b2i_f]; done) | rfl | (simp [rVal, if_neg c1, if_pos c1, decide_eq_false c1, if_neg c2, if_pos c2, decide_eq_false c2, b2i, nI_0, nI_one]; done)) rfl
    · skip
      refine lv_aload_n hx hb dX11_valueOf_22 rfl (lv_at hl 0 rfl) ?_
      refine x_get (v := .ref (α 35)) (C := RX11) (T := TX11) (N := 24) hx hb hts (fun _ h => List.mem_cons_of_mem _ (List.mem_append_right _ h)) hown hK hw 30 (Nat.lt_of_lt_of_le (Nat.le_of_ble_eq_true rfl : 30 < 191) hn) (mk_30 cA α) rfl 14 (by decide) (hts _ (List.mem_of_getElem? (i := 1) rfl)) (fun _ h9 => h9) rfl dX11_valueOf_23 ?_
      refine lv_sipush (v := nI 209) hx hb dX11_valueOf_26 (by decide) ?_
      refine lv_iload_n hx hb dX11_valueOf_29 rfl (lv_at hl 1 rfl) ?_
      refine xn_iadd hx hb dX11_valueOf_30 ?_
      refine x_lald hx hb hK hw 35 309 (Nat.lt_of_lt_of_le (Nat.le_of_ble_eq_true rfl : 35 < 191) hn) (mk_35 cA α) (209 + j) rfl (by omega) (by decide) dX11_valueOf_31 ?_
      refine lv_goto (tgt := 55) hx hb dX11_valueOf_32 (by decide) ?_
      exact ret_l hx hb hr hlocks hK hw dX11_valueOf_55 (by first | (simp only [rVal, if_neg c1, if_pos c1, decide_eq_false c1, if_pos c2, if_neg (not_not_intro c2), decide_eq_true c2, if_true, if_false, eq_self, Bool.false_eq_true, not_true_eq_false, not_false_eq_true, decide_true, decide_false, Bool.and_true, Bool.true_and, Bool.and_false, Bool.false_and, Bool.not_true, Bool.not_false, Bool.or_true, Bool.true_or, Bool.or_false, Bool.false_or, reduceIte, b2i_t, b2i_f]; done) | rfl | (simp [rVal, if_neg c1, if_pos c1, decide_eq_false c1, if_pos c2, if_neg (not_not_intro c2), decide_eq_true c2, b2i, nI_0, nI_one]; done)) rfl
  · skip
    refine lv_lconst (v := 0) hx hb dX11_valueOf_10 (by decide) ?_
    exact ret_l hx hb hr hlocks hK hw dX11_valueOf_11 (by first | (simp only [rVal, if_pos c1, if_neg (not_not_intro c1), decide_eq_true c1, if_true, if_false, eq_self, Bool.false_eq_true, not_true_eq_false, not_false_eq_true, decide_true, decide_false, Bool.and_true, Bool.true_and, Bool.and_false, Bool.false_and, Bool.not_true, Bool.not_false, Bool.or_true, Bool.true_or, Bool.or_false, Bool.false_or, reduceIte, b2i_t, b2i_f]; done) | rfl | (simp [rVal, if_pos c1, if_neg (not_not_intro c1), decide_eq_true c1, b2i, nI_0, nI_one]; done)) rfl

set_option maxRecDepth 100000 in
set_option maxHeartbeats 1000000 in
theorem ct_X11_is (l : Launch) (D : va_G) (cA : Nat → ClassId) (α : Nat → Nat) (n sz : Nat) (hn : 191 ≤ n) (S : Mem) (j : Nat) (a b : Int32) (hj : j < 100) : CtI l yX11_is wsX11_is ({ frames := 1, cells := 0, slots := 0, locals := 22 }) D cA α n sz [.ref (α 30), .int (nI j), .int a, .int b] S (b2i (rIs S j a b)) S := by
  refine ct_enter cX11_is 4 (some .boolean) (by decide) rfl (Nat.le_of_ble_eq_true rfl) ?_
  intro p e s m below meth c hx hb hr hml hlocks hown hts hK hsz hw ls hl
  have hown : s.vm.findClass RX11 = some m.cls := hown
  have hAw : ∀ z, Aw α n s.heap.size z → Aw α n sz z := by rw [hsz]; exact fun _ h => h
  have hl : lv_has ls 4 [(0, .ref (α 30)), (1, .int (nI j)), (2, .int a), (3, .int b)] := hl
  refine lv_aload_n hx hb dX11_is_0 rfl (lv_at hl 0 rfl) ?_
  refine lv_iload_n hx hb dX11_is_1 rfl (lv_at hl 1 rfl) ?_
  refine lv_iconst (v := nI 2) hx hb dX11_is_2 (by decide) ?_
  refine x_callVIr (q := 30) (C := RX11) (As := [.int (nI j), .int (nI 2)]) (rest := []) ⟨hx, hb, hml, hown, hts⟩ (ct_X11_of l D cA α n _ hn S j 2 (by omega)) (cwV 2 hts gX11_is_X11_of rfl rfl rfl (by decide +kernel) ⟨Nat.le_of_ble_eq_true rfl, Nat.le_of_ble_eq_true rfl⟩) hK hw hAw (ws_recv hK hw (q := 30) (Nat.lt_of_lt_of_le (Nat.le_of_ble_eq_true rfl : 30 < 191) hn) (mk_30 cA α) rfl) rfl hl.1 rfl (Nat.le_of_ble_eq_true rfl) dX11_is_3 ⟨Nat.zero_le _, Nat.zero_le _⟩ (fun H locs hw => ?_)
  refine lv_iload_n hx hb dX11_is_6 rfl (lv_at hl 2 rfl) ?_
  refine lv_icmp_ne (tgt := 24) hx hb dX11_is_7 (by decide) (fun c1 => ?_) (fun c1 => ?_)
  · skip
    refine lv_iconst (v := nI 0) hx hb dX11_is_24 (by decide) ?_
    exact ret_z hx hb hr (by first | rfl | decide | exact narB _) hlocks hK hw dX11_is_25 (by first | (simp only [rIs, if_neg c1, if_pos c1, decide_eq_false c1, if_true, if_false, eq_self, Bool.false_eq_true, not_true_eq_false, not_false_eq_true, decide_true, decide_false, Bool.and_true, Bool.true_and, Bool.and_false, Bool.false_and, Bool.not_true, Bool.not_false, Bool.or_true, Bool.true_or, Bool.or_false, Bool.false_or, reduceIte, b2i_t, b2i_f]; done) | rfl | (simp [rIs, if_neg c1, if_pos c1, decide_eq_false c1, b2i, nI_0, nI_one]; done)) rfl
  · skip
    refine lv_aload_n hx hb dX11_is_10 rfl (lv_at hl 0 rfl) ?_
    refine lv_iload_n hx hb dX11_is_11 rfl (lv_at hl 1 rfl) ?_
    refine lv_iconst (v := nI 4) hx hb dX11_is_12 (by decide) ?_
    refine x_callVIr (q := 30) (C := RX11) (As := [.int (nI j), .int (nI 4)]) (rest := []) ⟨hx, hb, hml, hown, hts⟩ (ct_X11_of l D cA α n _ hn S j 4 (by omega)) (cwV 2 hts gX11_is_X11_of rfl rfl rfl (by decide +kernel) ⟨Nat.le_of_ble_eq_true rfl, Nat.le_of_ble_eq_true rfl⟩) hK hw hAw (ws_recv hK hw (q := 30) (Nat.lt_of_lt_of_le (Nat.le_of_ble_eq_true rfl : 30 < 191) hn) (mk_30 cA α) rfl) rfl hl.1 rfl (Nat.le_of_ble_eq_true rfl) dX11_is_13 ⟨Nat.zero_le _, Nat.zero_le _⟩ (fun H locs hw => ?_)
    refine lv_iload_n hx hb dX11_is_16 rfl (lv_at hl 3 rfl) ?_
    refine lv_icmp_ne (tgt := 24) hx hb dX11_is_17 (by decide) (fun c2 => ?_) (fun c2 => ?_)
    · skip
      refine lv_iconst (v := nI 0) hx hb dX11_is_24 (by decide) ?_
      exact ret_z hx hb hr (by first | rfl | decide | exact narB _) hlocks hK hw dX11_is_25 (by first | (simp only [rIs, if_pos c1, if_neg (not_not_intro c1), decide_eq_true c1, if_neg c2, if_pos c2, decide_eq_false c2, if_true, if_false, eq_self, Bool.false_eq_true, not_true_eq_false, not_false_eq_true, decide_true, decide_false, Bool.and_true, Bool.true_and, Bool.and_false, Bool.false_and, Bool.not_true, Bool.not_false, Bool.or_true, Bool.true_or, Bool.or_false, Bool.false_or, reduceIte, b2i_t, b2i_f]; done) | rfl | (simp [rIs, if_pos c1, if_neg (not_not_intro c1), decide_eq_true c1, if_neg c2, if_pos c2, decide_eq_false c2, b2i, nI_0, nI_one]; done)) rfl
    · skip
      refine lv_iconst (v := nI 1) hx hb dX11_is_20 (by decide) ?_
      refine lv_goto (tgt := 25) hx hb dX11_is_21 (by decide) ?_
      exact ret_z hx hb hr (by first | rfl | decide | exact narB _) hlocks hK hw dX11_is_25 (by first | (simp only [rIs, if_pos c1, if_neg (not_not_intro c1), decide_eq_true c1, if_pos c2, if_neg (not_not_intro c2), decide_eq_true c2, if_true, if_false, eq_self, Bool.false_eq_true, not_true_eq_false, not_false_eq_true, decide_true, decide_false, Bool.and_true, Bool.true_and, Bool.and_false, Bool.false_and, Bool.not_true, Bool.not_false, Bool.or_true, Bool.true_or, Bool.or_false, Bool.false_or, reduceIte, b2i_t, b2i_f]; done) | rfl | (simp [rIs, if_pos c1, if_neg (not_not_intro c1), decide_eq_true c1, if_pos c2, if_neg (not_not_intro c2), decide_eq_true c2, b2i, nI_0, nI_one]; done)) rfl

set_option maxRecDepth 100000 in
set_option maxHeartbeats 1000000 in
theorem ct_X11_mirrors (l : Launch) (D : va_G) (cA : Nat → ClassId) (α : Nat → Nat) (n sz : Nat) (hn : 191 ≤ n) (S : Mem) (i j : Nat) (hi : i < 100) (hj : j < 100) : CtI l yX11_mirrors wsX11_mirrors ({ frames := 1, cells := 0, slots := 0, locals := 22 }) D cA α n sz [.ref (α 30), .int (nI i), .int (nI j)] S (b2i (rMir S i j)) S := by
  refine ct_enter cX11_mirrors 3 (some .boolean) (by decide) rfl (Nat.le_of_ble_eq_true rfl) ?_
  intro p e s m below meth c hx hb hr hml hlocks hown hts hK hsz hw ls hl
  have hown : s.vm.findClass RX11 = some m.cls := hown
  have hAw : ∀ z, Aw α n s.heap.size z → Aw α n sz z := by rw [hsz]; exact fun _ h => h
  have hl : lv_has ls 3 [(0, .ref (α 30)), (1, .int (nI i)), (2, .int (nI j))] := hl
  refine lv_aload_n hx hb dX11_mirrors_0 rfl (lv_at hl 0 rfl) ?_
  refine lv_iload_n hx hb dX11_mirrors_1 rfl (lv_at hl 1 rfl) ?_
  refine lv_iconst (v := nI 2) hx hb dX11_mirrors_2 (by decide) ?_
  refine x_callVIr (q := 30) (C := RX11) (As := [.int (nI i), .int (nI 2)]) (rest := []) ⟨hx, hb, hml, hown, hts⟩ (ct_X11_of l D cA α n _ hn S i 2 (by omega)) (cwV 2 hts gX11_mirrors_X11_of rfl rfl rfl (by decide +kernel) ⟨Nat.le_of_ble_eq_true rfl, Nat.le_of_ble_eq_true rfl⟩) hK hw hAw (ws_recv hK hw (q := 30) (Nat.lt_of_lt_of_le (Nat.le_of_ble_eq_true rfl : 30 < 191) hn) (mk_30 cA α) rfl) rfl hl.1 rfl (Nat.le_of_ble_eq_true rfl) dX11_mirrors_3 ⟨Nat.zero_le _, Nat.zero_le _⟩ (fun H locs hw => ?_)
  refine lv_aload_n hx hb dX11_mirrors_6 rfl (lv_at hl 0 rfl) ?_
  refine lv_iload_n hx hb dX11_mirrors_7 rfl (lv_at hl 2 rfl) ?_
  refine lv_iconst (v := nI 2) hx hb dX11_mirrors_8 (by decide) ?_
  refine x_callVIr (q := 30) (C := RX11) (As := [.int (nI j), .int (nI 2)]) (rest := [.int (S.1 34 (8 + 6 * i + 2))]) ⟨hx, hb, hml, hown, hts⟩ (ct_X11_of l D cA α n _ hn S j 2 (by omega)) (cwV 2 hts gX11_mirrors_X11_of rfl rfl rfl (by decide +kernel) ⟨Nat.le_of_ble_eq_true rfl, Nat.le_of_ble_eq_true rfl⟩) hK hw hAw (ws_recv hK hw (q := 30) (Nat.lt_of_lt_of_le (Nat.le_of_ble_eq_true rfl : 30 < 191) hn) (mk_30 cA α) rfl) rfl hl.1 rfl (Nat.le_of_ble_eq_true rfl) dX11_mirrors_9 ⟨Nat.zero_le _, Nat.zero_le _⟩ (fun H locs hw => ?_)
  refine lv_icmp_eq (tgt := 64) hx hb dX11_mirrors_12 (by decide) (fun c1 => ?_) (fun c1 => ?_)
  · skip
    refine lv_iconst (v := nI 0) hx hb dX11_mirrors_64 (by decide) ?_
    exact ret_z hx hb hr (by first | rfl | decide | exact narB _) hlocks hK hw dX11_mirrors_65 (by first | (simp only [rMir, if_pos c1, if_neg (not_not_intro c1), decide_eq_true c1, if_true, if_false, eq_self, Bool.false_eq_true, not_true_eq_false, not_false_eq_true, decide_true, decide_false, Bool.and_true, Bool.true_and, Bool.and_false, Bool.false_and, Bool.not_true, Bool.not_false, Bool.or_true, Bool.true_or, Bool.or_false, Bool.false_or, reduceIte, b2i_t, b2i_f]; done) | rfl | (simp [rMir, if_pos c1, if_neg (not_not_intro c1), decide_eq_true c1, b2i, nI_0, nI_one]; done)) rfl
  · skip
    refine lv_aload_n hx hb dX11_mirrors_15 rfl (lv_at hl 0 rfl) ?_
    refine lv_iload_n hx hb dX11_mirrors_16 rfl (lv_at hl 1 rfl) ?_
    refine lv_iconst (v := nI 0) hx hb dX11_mirrors_17 (by decide) ?_
    refine x_callVIr (q := 30) (C := RX11) (As := [.int (nI i), .int (nI 0)]) (rest := []) ⟨hx, hb, hml, hown, hts⟩ (ct_X11_of l D cA α n _ hn S i 0 (by omega)) (cwV 2 hts gX11_mirrors_X11_of rfl rfl rfl (by decide +kernel) ⟨Nat.le_of_ble_eq_true rfl, Nat.le_of_ble_eq_true rfl⟩) hK hw hAw (ws_recv hK hw (q := 30) (Nat.lt_of_lt_of_le (Nat.le_of_ble_eq_true rfl : 30 < 191) hn) (mk_30 cA α) rfl) rfl hl.1 rfl (Nat.le_of_ble_eq_true rfl) dX11_mirrors_18 ⟨Nat.zero_le _, Nat.zero_le _⟩ (fun H locs hw => ?_)
    refine lv_aload_n hx hb dX11_mirrors_21 rfl (lv_at hl 0 rfl) ?_
    refine lv_iload_n hx hb dX11_mirrors_22 rfl (lv_at hl 2 rfl) ?_
    refine lv_iconst (v := nI 1) hx hb dX11_mirrors_23 (by decide) ?_
    refine x_callVIr (q := 30) (C := RX11) (As := [.int (nI j), .int (nI 1)]) (rest := [.int (S.1 34 (8 + 6 * i + 0))]) ⟨hx, hb, hml, hown, hts⟩ (ct_X11_of l D cA α n _ hn S j 1 (by omega)) (cwV 2 hts gX11_mirrors_X11_of rfl rfl rfl (by decide +kernel) ⟨Nat.le_of_ble_eq_true rfl, Nat.le_of_ble_eq_true rfl⟩) hK hw hAw (ws_recv hK hw (q := 30) (Nat.lt_of_lt_of_le (Nat.le_of_ble_eq_true rfl : 30 < 191) hn) (mk_30 cA α) rfl) rfl hl.1 rfl (Nat.le_of_ble_eq_true rfl) dX11_mirrors_24 ⟨Nat.zero_le _, Nat.zero_le _⟩ (fun H locs hw => ?_)
    refine lv_icmp_ne (tgt := 64) hx hb dX11_mirrors_27 (by decide) (fun c2 => ?_) (fun c2 => ?_)
    · skip
      refine lv_iconst (v := nI 0) hx hb dX11_mirrors_64 (by decide) ?_
      exact ret_z hx hb hr (by first | rfl | decide | exact narB _) hlocks hK hw dX11_mirrors_65 (by first | (simp only [rMir, if_neg c1, if_pos c1, decide_eq_false c1, if_neg c2, if_pos c2, decide_eq_false c2, if_true, if_false, eq_self, Bool.false_eq_true, not_true_eq_false, not_false_eq_true, decide_true, decide_false, Bool.and_true, Bool.true_and, Bool.and_false, Bool.false_and, Bool.not_true, Bool.not_false, Bool.or_true, Bool.true_or, Bool.or_false, Bool.false_or, reduceIte, b2i_t, b2i_f]; done) | rfl | (simp [rMir, if_neg c1, if_pos c1, decide_eq_false c1, if_neg c2, if_pos c2, decide_eq_false c2, b2i, nI_0, nI_one]; done)) rfl
    · skip
      refine lv_aload_n hx hb dX11_mirrors_30 rfl (lv_at hl 0 rfl) ?_
      refine lv_iload_n hx hb dX11_mirrors_31 rfl (lv_at hl 1 rfl) ?_
      refine lv_iconst (v := nI 1) hx hb dX11_mirrors_32 (by decide) ?_
      refine x_callVIr (q := 30) (C := RX11) (As := [.int (nI i), .int (nI 1)]) (rest := []) ⟨hx, hb, hml, hown, hts⟩ (ct_X11_of l D cA α n _ hn S i 1 (by omega)) (cwV 2 hts gX11_mirrors_X11_of rfl rfl rfl (by decide +kernel) ⟨Nat.le_of_ble_eq_true rfl, Nat.le_of_ble_eq_true rfl⟩) hK hw hAw (ws_recv hK hw (q := 30) (Nat.lt_of_lt_of_le (Nat.le_of_ble_eq_true rfl : 30 < 191) hn) (mk_30 cA α) rfl) rfl hl.1 rfl (Nat.le_of_ble_eq_true rfl) dX11_mirrors_33 ⟨Nat.zero_le _, Nat.zero_le _⟩ (fun H locs hw => ?_)
      refine lv_aload_n hx hb dX11_mirrors_36 rfl (lv_at hl 0 rfl) ?_
      refine lv_iload_n hx hb dX11_mirrors_37 rfl (lv_at hl 2 rfl) ?_
      refine lv_iconst (v := nI 0) hx hb dX11_mirrors_38 (by decide) ?_
      refine x_callVIr (q := 30) (C := RX11) (As := [.int (nI j), .int (nI 0)]) (rest := [.int (S.1 34 (8 + 6 * i + 1))]) ⟨hx, hb, hml, hown, hts⟩ (ct_X11_of l D cA α n _ hn S j 0 (by omega)) (cwV 2 hts gX11_mirrors_X11_of rfl rfl rfl (by decide +kernel) ⟨Nat.le_of_ble_eq_true rfl, Nat.le_of_ble_eq_true rfl⟩) hK hw hAw (ws_recv hK hw (q := 30) (Nat.lt_of_lt_of_le (Nat.le_of_ble_eq_true rfl : 30 < 191) hn) (mk_30 cA α) rfl) rfl hl.1 rfl (Nat.le_of_ble_eq_true rfl) dX11_mirrors_39 ⟨Nat.zero_le _, Nat.zero_le _⟩ (fun H locs hw => ?_)
      refine lv_icmp_ne (tgt := 64) hx hb dX11_mirrors_42 (by decide) (fun c3 => ?_) (fun c3 => ?_)
      · skip
        refine lv_iconst (v := nI 0) hx hb dX11_mirrors_64 (by decide) ?_
        exact ret_z hx hb hr (by first | rfl | decide | exact narB _) hlocks hK hw dX11_mirrors_65 (by first | (simp only [rMir, if_neg c1, if_pos c1, decide_eq_false c1, if_pos c2, if_neg (not_not_intro c2), decide_eq_true c2, if_neg c3, if_pos c3, decide_eq_false c3, if_true, if_false, eq_self, Bool.false_eq_true, not_true_eq_false, not_false_eq_true, decide_true, decide_false, Bool.and_true, Bool.true_and, Bool.and_false, Bool.false_and, Bool.not_true, Bool.not_false, Bool.or_true, Bool.true_or, Bool.or_false, Bool.false_or, reduceIte, b2i_t, b2i_f]; done) | rfl | (simp [rMir, if_neg c1, if_pos c1, decide_eq_false c1, if_pos c2, if_neg (not_not_intro c2), decide_eq_true c2, if_neg c3, if_pos c3, decide_eq_false c3, b2i, nI_0, nI_one]; done)) rfl
      · skip
        refine lv_aload_n hx hb dX11_mirrors_45 rfl (lv_at hl 0 rfl) ?_
        refine lv_iload_n hx hb dX11_mirrors_46 rfl (lv_at hl 1 rfl) ?_
        refine lv_iconst (v := nI 3) hx hb dX11_mirrors_47 (by decide) ?_
        refine x_callVIr (q := 30) (C := RX11) (As := [.int (nI i), .int (nI 3)]) (rest := []) ⟨hx, hb, hml, hown, hts⟩ (ct_X11_of l D cA α n _ hn S i 3 (by omega)) (cwV 2 hts gX11_mirrors_X11_of rfl rfl rfl (by decide +kernel) ⟨Nat.le_of_ble_eq_true rfl, Nat.le_of_ble_eq_true rfl⟩) hK hw hAw (ws_recv hK hw (q := 30) (Nat.lt_of_lt_of_le (Nat.le_of_ble_eq_true rfl : 30 < 191) hn) (mk_30 cA α) rfl) rfl hl.1 rfl (Nat.le_of_ble_eq_true rfl) dX11_mirrors_48 ⟨Nat.zero_le _, Nat.zero_le _⟩ (fun H locs hw => ?_)
        refine lv_aload_n hx hb dX11_mirrors_51 rfl (lv_at hl 0 rfl) ?_
        refine lv_iload_n hx hb dX11_mirrors_52 rfl (lv_at hl 2 rfl) ?_
        refine lv_iconst (v := nI 3) hx hb dX11_mirrors_53 (by decide) ?_
        refine x_callVIr (q := 30) (C := RX11) (As := [.int (nI j), .int (nI 3)]) (rest := [.int (S.1 34 (8 + 6 * i + 3))]) ⟨hx, hb, hml, hown, hts⟩ (ct_X11_of l D cA α n _ hn S j 3 (by omega)) (cwV 2 hts gX11_mirrors_X11_of rfl rfl rfl (by decide +kernel) ⟨Nat.le_of_ble_eq_true rfl, Nat.le_of_ble_eq_true rfl⟩) hK hw hAw (ws_recv hK hw (q := 30) (Nat.lt_of_lt_of_le (Nat.le_of_ble_eq_true rfl : 30 < 191) hn) (mk_30 cA α) rfl) rfl hl.1 rfl (Nat.le_of_ble_eq_true rfl) dX11_mirrors_54 ⟨Nat.zero_le _, Nat.zero_le _⟩ (fun H locs hw => ?_)
        refine lv_icmp_ne (tgt := 64) hx hb dX11_mirrors_57 (by decide) (fun c4 => ?_) (fun c4 => ?_)
        · skip
          refine lv_iconst (v := nI 0) hx hb dX11_mirrors_64 (by decide) ?_
          exact ret_z hx hb hr (by first | rfl | decide | exact narB _) hlocks hK hw dX11_mirrors_65 (by first | (simp only [rMir, if_neg c1, if_pos c1, decide_eq_false c1, if_pos c2, if_neg (not_not_intro c2), decide_eq_true c2, if_pos c3, if_neg (not_not_intro c3), decide_eq_true c3, if_neg c4, if_pos c4, decide_eq_false c4, if_true, if_false, eq_self, Bool.false_eq_true, not_true_eq_false, not_false_eq_true, decide_true, decide_false, Bool.and_true, Bool.true_and, Bool.and_false, Bool.false_and, Bool.not_true, Bool.not_false, Bool.or_true, Bool.true_or, Bool.or_false, Bool.false_or, reduceIte, b2i_t, b2i_f]; done) | rfl | (simp [rMir, if_neg c1, if_pos c1, decide_eq_false c1, if_pos c2, if_neg (not_not_intro c2), decide_eq_true c2, if_pos c3, if_neg (not_not_intro c3), decide_eq_true c3, if_neg c4, if_pos c4, decide_eq_false c4, b2i, nI_0, nI_one]; done)) rfl
        · skip
          refine lv_iconst (v := nI 1) hx hb dX11_mirrors_60 (by decide) ?_
          refine lv_goto (tgt := 65) hx hb dX11_mirrors_61 (by decide) ?_
          exact ret_z hx hb hr (by first | rfl | decide | exact narB _) hlocks hK hw dX11_mirrors_65 (by first | (simp only [rMir, if_neg c1, if_pos c1, decide_eq_false c1, if_pos c2, if_neg (not_not_intro c2), decide_eq_true c2, if_pos c3, if_neg (not_not_intro c3), decide_eq_true c3, if_pos c4, if_neg (not_not_intro c4), decide_eq_true c4, if_true, if_false, eq_self, Bool.false_eq_true, not_true_eq_false, not_false_eq_true, decide_true, decide_false, Bool.and_true, Bool.true_and, Bool.and_false, Bool.false_and, Bool.not_true, Bool.not_false, Bool.or_true, Bool.true_or, Bool.or_false, Bool.false_or, reduceIte, b2i_t, b2i_f]; done) | rfl | (simp [rMir, if_neg c1, if_pos c1, decide_eq_false c1, if_pos c2, if_neg (not_not_intro c2), decide_eq_true c2, if_pos c3, if_neg (not_not_intro c3), decide_eq_true c3, if_pos c4, if_neg (not_not_intro c4), decide_eq_true c4, b2i, nI_0, nI_one]; done)) rfl

set_option maxRecDepth 100000 in
set_option maxHeartbeats 1000000 in
theorem ct_X11_counts (l : Launch) (D : va_G) (cA : Nat → ClassId) (α : Nat → Nat) (n sz : Nat) (hn : 191 ≤ n) (S : Mem) (j : Nat) (hj : j < 100) : CtI l yX11_counts wsX11_counts ({ frames := 1, cells := 0, slots := 0, locals := 22 }) D cA α n sz [.ref (α 30), .int (nI j)] S (b2i (rCnt S j)) S := by
  refine ct_enter cX11_counts 2 (some .boolean) (by decide) rfl (Nat.le_of_ble_eq_true rfl) ?_
  intro p e s m below meth c hx hb hr hml hlocks hown hts hK hsz hw ls hl
  have hown : s.vm.findClass RX11 = some m.cls := hown
  have hAw : ∀ z, Aw α n s.heap.size z → Aw α n sz z := by rw [hsz]; exact fun _ h => h
  have hl : lv_has ls 2 [(0, .ref (α 30)), (1, .int (nI j))] := hl
  refine lv_aload_n hx hb dX11_counts_0 rfl (lv_at hl 0 rfl) ?_
  refine lv_iload_n hx hb dX11_counts_1 rfl (lv_at hl 1 rfl) ?_
  refine lv_iconst (v := nI 4) hx hb dX11_counts_2 (by decide) ?_
  refine x_callVIr (q := 30) (C := RX11) (As := [.int (nI j), .int (nI 4)]) (rest := []) ⟨hx, hb, hml, hown, hts⟩ (ct_X11_of l D cA α n _ hn S j 4 (by omega)) (cwV 2 hts gX11_counts_X11_of rfl rfl rfl (by decide +kernel) ⟨Nat.le_of_ble_eq_true rfl, Nat.le_of_ble_eq_true rfl⟩) hK hw hAw (ws_recv hK hw (q := 30) (Nat.lt_of_lt_of_le (Nat.le_of_ble_eq_true rfl : 30 < 191) hn) (mk_30 cA α) rfl) rfl hl.1 rfl (Nat.le_of_ble_eq_true rfl) dX11_counts_3 ⟨Nat.zero_le _, Nat.zero_le _⟩ (fun H locs hw => ?_)
  refine lv_if_eq (tgt := 29) hx hb dX11_counts_6 (by decide) (fun c1 => ?_) (fun c1 => ?_)
  · skip
    refine lv_iconst (v := nI 1) hx hb dX11_counts_29 (by decide) ?_
    refine lv_goto (tgt := 34) hx hb dX11_counts_30 (by decide) ?_
    exact ret_z hx hb hr (by first | rfl | decide | exact narB _) hlocks hK hw dX11_counts_34 (by first | (simp only [rCnt, if_pos c1, if_neg (not_not_intro c1), decide_eq_true c1, if_true, if_false, eq_self, Bool.false_eq_true, not_true_eq_false, not_false_eq_true, decide_true, decide_false, Bool.and_true, Bool.true_and, Bool.and_false, Bool.false_and, Bool.not_true, Bool.not_false, Bool.or_true, Bool.true_or, Bool.or_false, Bool.false_or, reduceIte, b2i_t, b2i_f]; done) | rfl | (simp [rCnt, if_pos c1, if_neg (not_not_intro c1), decide_eq_true c1, b2i, nI_0, nI_one]; done)) rfl
  · skip
    refine lv_aload_n hx hb dX11_counts_9 rfl (lv_at hl 0 rfl) ?_
    refine lv_iload_n hx hb dX11_counts_10 rfl (lv_at hl 1 rfl) ?_
    refine lv_iconst (v := nI 4) hx hb dX11_counts_11 (by decide) ?_
    refine x_callVIr (q := 30) (C := RX11) (As := [.int (nI j), .int (nI 4)]) (rest := []) ⟨hx, hb, hml, hown, hts⟩ (ct_X11_of l D cA α n _ hn S j 4 (by omega)) (cwV 2 hts gX11_counts_X11_of rfl rfl rfl (by decide +kernel) ⟨Nat.le_of_ble_eq_true rfl, Nat.le_of_ble_eq_true rfl⟩) hK hw hAw (ws_recv hK hw (q := 30) (Nat.lt_of_lt_of_le (Nat.le_of_ble_eq_true rfl : 30 < 191) hn) (mk_30 cA α) rfl) rfl hl.1 rfl (Nat.le_of_ble_eq_true rfl) dX11_counts_12 ⟨Nat.zero_le _, Nat.zero_le _⟩ (fun H locs hw => ?_)
    refine lv_iconst (v := nI 1) hx hb dX11_counts_15 (by decide) ?_
    refine lv_icmp_eq (tgt := 29) hx hb dX11_counts_16 (by decide) (fun c2 => ?_) (fun c2 => ?_)
    · skip
      refine lv_iconst (v := nI 1) hx hb dX11_counts_29 (by decide) ?_
      refine lv_goto (tgt := 34) hx hb dX11_counts_30 (by decide) ?_
      exact ret_z hx hb hr (by first | rfl | decide | exact narB _) hlocks hK hw dX11_counts_34 (by first | (simp only [rCnt, if_neg c1, if_pos c1, decide_eq_false c1, if_pos c2, if_neg (not_not_intro c2), decide_eq_true c2, if_true, if_false, eq_self, Bool.false_eq_true, not_true_eq_false, not_false_eq_true, decide_true, decide_false, Bool.and_true, Bool.true_and, Bool.and_false, Bool.false_and, Bool.not_true, Bool.not_false, Bool.or_true, Bool.true_or, Bool.or_false, Bool.false_or, reduceIte, b2i_t, b2i_f]; done) | rfl | (simp [rCnt, if_neg c1, if_pos c1, decide_eq_false c1, if_pos c2, if_neg (not_not_intro c2), decide_eq_true c2, b2i, nI_0, nI_one]; done)) rfl
    · skip
      refine lv_aload_n hx hb dX11_counts_19 rfl (lv_at hl 0 rfl) ?_
      refine lv_iload_n hx hb dX11_counts_20 rfl (lv_at hl 1 rfl) ?_
      refine lv_iconst (v := nI 4) hx hb dX11_counts_21 (by decide) ?_
      refine x_callVIr (q := 30) (C := RX11) (As := [.int (nI j), .int (nI 4)]) (rest := []) ⟨hx, hb, hml, hown, hts⟩ (ct_X11_of l D cA α n _ hn S j 4 (by omega)) (cwV 2 hts gX11_counts_X11_of rfl rfl rfl (by decide +kernel) ⟨Nat.le_of_ble_eq_true rfl, Nat.le_of_ble_eq_true rfl⟩) hK hw hAw (ws_recv hK hw (q := 30) (Nat.lt_of_lt_of_le (Nat.le_of_ble_eq_true rfl : 30 < 191) hn) (mk_30 cA α) rfl) rfl hl.1 rfl (Nat.le_of_ble_eq_true rfl) dX11_counts_22 ⟨Nat.zero_le _, Nat.zero_le _⟩ (fun H locs hw => ?_)
      refine lv_iconst (v := nI 2) hx hb dX11_counts_25 (by decide) ?_
      refine lv_icmp_ne (tgt := 33) hx hb dX11_counts_26 (by decide) (fun c3 => ?_) (fun c3 => ?_)
      · skip
        refine lv_iconst (v := nI 0) hx hb dX11_counts_33 (by decide) ?_
        exact ret_z hx hb hr (by first | rfl | decide | exact narB _) hlocks hK hw dX11_counts_34 (by first | (simp only [rCnt, if_neg c1, if_pos c1, decide_eq_false c1, if_neg c2, if_pos c2, decide_eq_false c2, if_neg c3, if_pos c3, decide_eq_false c3, if_true, if_false, eq_self, Bool.false_eq_true, not_true_eq_false, not_false_eq_true, decide_true, decide_false, Bool.and_true, Bool.true_and, Bool.and_false, Bool.false_and, Bool.not_true, Bool.not_false, Bool.or_true, Bool.true_or, Bool.or_false, Bool.false_or, reduceIte, b2i_t, b2i_f]; done) | rfl | (simp [rCnt, if_neg c1, if_pos c1, decide_eq_false c1, if_neg c2, if_pos c2, decide_eq_false c2, if_neg c3, if_pos c3, decide_eq_false c3, b2i, nI_0, nI_one]; done)) rfl
      · skip
        refine lv_iconst (v := nI 1) hx hb dX11_counts_29 (by decide) ?_
        refine lv_goto (tgt := 34) hx hb dX11_counts_30 (by decide) ?_
        exact ret_z hx hb hr (by first | rfl | decide | exact narB _) hlocks hK hw dX11_counts_34 (by first | (simp only [rCnt, if_neg c1, if_pos c1, decide_eq_false c1, if_neg c2, if_pos c2, decide_eq_false c2, if_pos c3, if_neg (not_not_intro c3), decide_eq_true c3, if_true, if_false, eq_self, Bool.false_eq_true, not_true_eq_false, not_false_eq_true, decide_true, decide_false, Bool.and_true, Bool.true_and, Bool.and_false, Bool.false_and, Bool.not_true, Bool.not_false, Bool.or_true, Bool.true_or, Bool.or_false, Bool.false_or, reduceIte, b2i_t, b2i_f]; done) | rfl | (simp [rCnt, if_neg c1, if_pos c1, decide_eq_false c1, if_neg c2, if_pos c2, decide_eq_false c2, if_pos c3, if_neg (not_not_intro c3), decide_eq_true c3, b2i, nI_0, nI_one]; done)) rfl
