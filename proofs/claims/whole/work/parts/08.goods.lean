/-! goods -/
def cLot (S : Mem) (d : Nat) (a b : Int32) : Bool := !decide (S.1 80 d ≤ 0) && decide (S.1 51 d = a) && decide (S.1 49 d = b)
def cCost (S : Mem) (d : Nat) : Int32 := S.1 27 (gN (S.1 49 d))
def cOn (S : Mem) (d : Nat) (x : Int32) : Int64 := x.toInt64 * (S.1 53 d - cCost S d).toInt64

set_option maxRecDepth 100000 in
set_option maxHeartbeats 1000000 in
theorem ct_X1_isLot (l : Launch) (D : va_G) (cA : Nat → ClassId) (α : Nat → Nat) (n sz : Nat) (hn : 191 ≤ n) (S : Mem) (d : Nat) (a b : Int32) (hd : d < 100) : CtI l yX1_isLot wsX1_isLot ({ frames := 0, cells := 0, slots := 0, locals := 0 }) D cA α n sz [.ref (α 3), .int (nI d), .int a, .int b] S (b2i (cLot S d a b)) S := by
  refine ct_enter cX1_isLot 4 (some .boolean) (by decide) rfl (Nat.le_of_ble_eq_true rfl) ?_
  intro p e s m below meth c hx hb hr hml hlocks hown hts hK hsz hw ls hl
  have hown : s.vm.findClass RX1 = some m.cls := hown
  have hAw : ∀ z, Aw α n s.heap.size z → Aw α n sz z := by rw [hsz]; exact fun _ h => h
  have hl : lv_has ls 4 [(0, .ref (α 3)), (1, .int (nI d)), (2, .int a), (3, .int b)] := hl
  refine lv_aload_n hx hb dX1_isLot_0 rfl (lv_at hl 0 rfl) ?_
  refine x_get (v := .ref (α 74)) (C := RX0) (T := TX0) (N := 3) hx hb hts (fun _ h => List.mem_cons_of_mem _ (List.mem_append_left _ (List.mem_append_left _ (List.mem_append_right _ h)))) hown hK hw 3 (Nat.lt_of_lt_of_le (Nat.le_of_ble_eq_true rfl : 3 < 191) hn) (mk_3 cA α) rfl 2 (by decide) (hts _ (List.mem_of_getElem? (i := 1) rfl)) (fun _ h9 => h9) rfl dX1_isLot_1 ?_
  refine x_get (v := .ref (α 80)) (C := RX9) (T := TX9) (N := 14) hx hb hts (fun _ h => List.mem_cons_of_mem _ (List.mem_append_left _ (List.mem_append_right _ h))) hown hK hw 74 (Nat.lt_of_lt_of_le (Nat.le_of_ble_eq_true rfl : 74 < 191) hn) (mk_74 cA α) rfl 11 (by decide) (hts _ (List.mem_of_getElem? (i := 2) rfl)) (fun _ h9 => h9) rfl dX1_isLot_4 ?_
  refine lv_iload_n hx hb dX1_isLot_7 rfl (lv_at hl 1 rfl) ?_
  refine x_iald hx hb hK hw 80 100 (Nat.lt_of_lt_of_le (Nat.le_of_ble_eq_true rfl : 80 < 191) hn) (mk_80 cA α) d rfl (by omega) (by decide) dX1_isLot_8 ?_
  refine lv_if_le (tgt := 42) hx hb dX1_isLot_9 (by decide) (fun c1 => ?_) (fun c1 => ?_)
  · skip
    refine lv_iconst (v := nI 0) hx hb dX1_isLot_42 (by decide) ?_
    exact ret_z hx hb hr (by first | rfl | decide | exact narB _) hlocks hK hw dX1_isLot_43 (by first | (simp only [cLot, if_pos c1, if_neg (not_not_intro c1), decide_eq_true c1, if_true, if_false, eq_self, Bool.false_eq_true, not_true_eq_false, not_false_eq_true, decide_true, decide_false, Bool.and_true, Bool.true_and, Bool.and_false, Bool.false_and, Bool.not_true, Bool.not_false, Bool.or_true, Bool.true_or, Bool.or_false, Bool.false_or, reduceIte, b2i_t, b2i_f]; done) | rfl | (simp [cLot, if_pos c1, if_neg (not_not_intro c1), decide_eq_true c1, b2i, nI_0, nI_one]; done)) rfl
  · skip
    refine lv_aload_n hx hb dX1_isLot_12 rfl (lv_at hl 0 rfl) ?_
    refine x_get (v := .ref (α 44)) (C := RX0) (T := TX0) (N := 3) hx hb hts (fun _ h => List.mem_cons_of_mem _ (List.mem_append_left _ (List.mem_append_left _ (List.mem_append_right _ h)))) hown hK hw 3 (Nat.lt_of_lt_of_le (Nat.le_of_ble_eq_true rfl : 3 < 191) hn) (mk_3 cA α) rfl 1 (by decide) (hts _ (List.mem_of_getElem? (i := 3) rfl)) (fun _ h9 => h9) rfl dX1_isLot_13 ?_
    refine x_get (v := .ref (α 51)) (C := RX7) (T := TX7) (N := 9) hx hb hts (fun _ h => List.mem_cons_of_mem _ (List.mem_append_right _ h)) hown hK hw 44 (Nat.lt_of_lt_of_le (Nat.le_of_ble_eq_true rfl : 44 < 191) hn) (mk_44 cA α) rfl 6 (by decide) (hts _ (List.mem_of_getElem? (i := 4) rfl)) (fun _ h9 => h9) rfl dX1_isLot_16 ?_
    refine lv_iload_n hx hb dX1_isLot_19 rfl (lv_at hl 1 rfl) ?_
    refine x_iald hx hb hK hw 51 100 (Nat.lt_of_lt_of_le (Nat.le_of_ble_eq_true rfl : 51 < 191) hn) (mk_51 cA α) d rfl (by omega) (by decide) dX1_isLot_20 ?_
    refine lv_iload_n hx hb dX1_isLot_21 rfl (lv_at hl 2 rfl) ?_
    refine lv_icmp_ne (tgt := 42) hx hb dX1_isLot_22 (by decide) (fun c2 => ?_) (fun c2 => ?_)
    · skip
      refine lv_iconst (v := nI 0) hx hb dX1_isLot_42 (by decide) ?_
      exact ret_z hx hb hr (by first | rfl | decide | exact narB _) hlocks hK hw dX1_isLot_43 (by first | (simp only [cLot, if_neg c1, if_pos c1, decide_eq_false c1, if_neg c2, if_pos c2, decide_eq_false c2, if_true, if_false, eq_self, Bool.false_eq_true, not_true_eq_false, not_false_eq_true, decide_true, decide_false, Bool.and_true, Bool.true_and, Bool.and_false, Bool.false_and, Bool.not_true, Bool.not_false, Bool.or_true, Bool.true_or, Bool.or_false, Bool.false_or, reduceIte, b2i_t, b2i_f]; done) | rfl | (simp [cLot, if_neg c1, if_pos c1, decide_eq_false c1, if_neg c2, if_pos c2, decide_eq_false c2, b2i, nI_0, nI_one]; done)) rfl
    · skip
      refine lv_aload_n hx hb dX1_isLot_25 rfl (lv_at hl 0 rfl) ?_
      refine x_get (v := .ref (α 44)) (C := RX0) (T := TX0) (N := 3) hx hb hts (fun _ h => List.mem_cons_of_mem _ (List.mem_append_left _ (List.mem_append_left _ (List.mem_append_right _ h)))) hown hK hw 3 (Nat.lt_of_lt_of_le (Nat.le_of_ble_eq_true rfl : 3 < 191) hn) (mk_3 cA α) rfl 1 (by decide) (hts _ (List.mem_of_getElem? (i := 3) rfl)) (fun _ h9 => h9) rfl dX1_isLot_26 ?_
      refine x_get (v := .ref (α 49)) (C := RX7) (T := TX7) (N := 9) hx hb hts (fun _ h => List.mem_cons_of_mem _ (List.mem_append_right _ h)) hown hK hw 44 (Nat.lt_of_lt_of_le (Nat.le_of_ble_eq_true rfl : 44 < 191) hn) (mk_44 cA α) rfl 4 (by decide) (hts _ (List.mem_of_getElem? (i := 5) rfl)) (fun _ h9 => h9) rfl dX1_isLot_29 ?_
      refine lv_iload_n hx hb dX1_isLot_32 rfl (lv_at hl 1 rfl) ?_
      refine x_iald hx hb hK hw 49 100 (Nat.lt_of_lt_of_le (Nat.le_of_ble_eq_true rfl : 49 < 191) hn) (mk_49 cA α) d rfl (by omega) (by decide) dX1_isLot_33 ?_
      refine lv_iload_n hx hb dX1_isLot_34 rfl (lv_at hl 3 rfl) ?_
      refine lv_icmp_ne (tgt := 42) hx hb dX1_isLot_35 (by decide) (fun c3 => ?_) (fun c3 => ?_)
      · skip
        refine lv_iconst (v := nI 0) hx hb dX1_isLot_42 (by decide) ?_
        exact ret_z hx hb hr (by first | rfl | decide | exact narB _) hlocks hK hw dX1_isLot_43 (by first | (simp only [cLot, if_neg c1, if_pos c1, decide_eq_false c1, if_pos c2, if_neg (not_not_intro c2), decide_eq_true c2, if_neg c3, if_pos c3, decide_eq_false c3, if_true, if_false, eq_self, Bool.false_eq_true, not_true_eq_false, not_false_eq_true, decide_true, decide_false, Bool.and_true, Bool.true_and, Bool.and_false, Bool.false_and, Bool.not_true, Bool.not_false, Bool.or_true, Bool.true_or, Bool.or_false, Bool.false_or, reduceIte, b2i_t, b2i_f]; done) | rfl | (simp [cLot, if_neg c1, if_pos c1, decide_eq_false c1, if_pos c2, if_neg (not_not_intro c2), decide_eq_true c2, if_neg c3, if_pos c3, decide_eq_false c3, b2i, nI_0, nI_one]; done)) rfl
      · skip
        refine lv_iconst (v := nI 1) hx hb dX1_isLot_38 (by decide) ?_
        refine lv_goto (tgt := 43) hx hb dX1_isLot_39 (by decide) ?_
        exact ret_z hx hb hr (by first | rfl | decide | exact narB _) hlocks hK hw dX1_isLot_43 (by first | (simp only [cLot, if_neg c1, if_pos c1, decide_eq_false c1, if_pos c2, if_neg (not_not_intro c2), decide_eq_true c2, if_pos c3, if_neg (not_not_intro c3), decide_eq_true c3, if_true, if_false, eq_self, Bool.false_eq_true, not_true_eq_false, not_false_eq_true, decide_true, decide_false, Bool.and_true, Bool.true_and, Bool.and_false, Bool.false_and, Bool.not_true, Bool.not_false, Bool.or_true, Bool.true_or, Bool.or_false, Bool.false_or, reduceIte, b2i_t, b2i_f]; done) | rfl | (simp [cLot, if_neg c1, if_pos c1, decide_eq_false c1, if_pos c2, if_neg (not_not_intro c2), decide_eq_true c2, if_pos c3, if_neg (not_not_intro c3), decide_eq_true c3, b2i, nI_0, nI_one]; done)) rfl

set_option maxRecDepth 100000 in
set_option maxHeartbeats 1000000 in
theorem ct_X1_costOf (l : Launch) (D : va_G) (cA : Nat → ClassId) (α : Nat → Nat) (n sz : Nat) (hn : 191 ≤ n) (S : Mem) (d : Nat) (hd : d < 100) (h : okI (S.1 49 d) 6) : CtI l yX1_costOf wsX1_costOf ({ frames := 0, cells := 0, slots := 0, locals := 0 }) D cA α n sz [.ref (α 3), .int (nI d)] S (cCost S d) S := by
  refine ct_enter cX1_costOf 2 (some .int) (by decide) rfl (Nat.le_of_ble_eq_true rfl) ?_
  intro p e s m below meth c hx hb hr hml hlocks hown hts hK hsz hw ls hl
  have hown : s.vm.findClass RX1 = some m.cls := hown
  have hAw : ∀ z, Aw α n s.heap.size z → Aw α n sz z := by rw [hsz]; exact fun _ h => h
  have hl : lv_has ls 2 [(0, .ref (α 3)), (1, .int (nI d))] := hl
  refine lv_aload_n hx hb dX1_costOf_0 rfl (lv_at hl 0 rfl) ?_
  refine x_get (v := .ref (α 23)) (C := RX0) (T := TX0) (N := 3) hx hb hts (fun _ h => List.mem_cons_of_mem _ (List.mem_append_left _ (List.mem_append_left _ (List.mem_append_right _ h)))) hown hK hw 3 (Nat.lt_of_lt_of_le (Nat.le_of_ble_eq_true rfl : 3 < 191) hn) (mk_3 cA α) rfl 0 (by decide) (hts _ (List.mem_of_getElem? (i := 1) rfl)) (fun _ h9 => h9) rfl dX1_costOf_1 ?_
  refine x_get (v := .ref (α 27)) (C := RX2) (T := TX2) (N := 12) hx hb hts (fun _ h => List.mem_cons_of_mem _ (List.mem_append_left _ (List.mem_append_right _ h))) hown hK hw 23 (Nat.lt_of_lt_of_le (Nat.le_of_ble_eq_true rfl : 23 < 191) hn) (mk_23 cA α) rfl 9 (by decide) (hts _ (List.mem_of_getElem? (i := 2) rfl)) (fun _ h9 => h9) rfl dX1_costOf_4 ?_
  refine lv_aload_n hx hb dX1_costOf_7 rfl (lv_at hl 0 rfl) ?_
  refine x_get (v := .ref (α 44)) (C := RX0) (T := TX0) (N := 3) hx hb hts (fun _ h => List.mem_cons_of_mem _ (List.mem_append_left _ (List.mem_append_left _ (List.mem_append_right _ h)))) hown hK hw 3 (Nat.lt_of_lt_of_le (Nat.le_of_ble_eq_true rfl : 3 < 191) hn) (mk_3 cA α) rfl 1 (by decide) (hts _ (List.mem_of_getElem? (i := 3) rfl)) (fun _ h9 => h9) rfl dX1_costOf_8 ?_
  refine x_get (v := .ref (α 49)) (C := RX7) (T := TX7) (N := 9) hx hb hts (fun _ h => List.mem_cons_of_mem _ (List.mem_append_right _ h)) hown hK hw 44 (Nat.lt_of_lt_of_le (Nat.le_of_ble_eq_true rfl : 44 < 191) hn) (mk_44 cA α) rfl 4 (by decide) (hts _ (List.mem_of_getElem? (i := 4) rfl)) (fun _ h9 => h9) rfl dX1_costOf_11 ?_
  refine lv_iload_n hx hb dX1_costOf_14 rfl (lv_at hl 1 rfl) ?_
  refine x_iald hx hb hK hw 49 100 (Nat.lt_of_lt_of_le (Nat.le_of_ble_eq_true rfl : 49 < 191) hn) (mk_49 cA α) d rfl (by omega) (by decide) dX1_costOf_15 ?_
  refine x_topN (k := gN (S.1 49 d)) h.1 ?_
  refine x_iald hx hb hK hw 27 6 (Nat.lt_of_lt_of_le (Nat.le_of_ble_eq_true rfl : 27 < 191) hn) (mk_27 cA α) (gN (S.1 49 d)) rfl h.2 (by decide) dX1_costOf_16 ?_
  exact ret_i hx hb hr hlocks hK hw dX1_costOf_17 rfl rfl

set_option maxRecDepth 100000 in
set_option maxHeartbeats 1000000 in
theorem ct_X1_profitOn (l : Launch) (D : va_G) (cA : Nat → ClassId) (α : Nat → Nat) (n sz : Nat) (hn : 191 ≤ n) (S : Mem) (d : Nat) (x : Int32) (hd : d < 100) (h : okI (S.1 49 d) 6) : CtL l yX1_profitOn wsX1_profitOn ({ frames := 1, cells := 0, slots := 0, locals := 21 }) D cA α n sz [.ref (α 3), .int (nI d), .int x] S (cOn S d x) S := by
  refine ct_enter cX1_profitOn 3 (some .long) (by decide) rfl (Nat.le_of_ble_eq_true rfl) ?_
  intro p e s m below meth c hx hb hr hml hlocks hown hts hK hsz hw ls hl
  have hown : s.vm.findClass RX1 = some m.cls := hown
  have hAw : ∀ z, Aw α n s.heap.size z → Aw α n sz z := by rw [hsz]; exact fun _ h => h
  have hl : lv_has ls 3 [(0, .ref (α 3)), (1, .int (nI d)), (2, .int x)] := hl
  refine lv_iload_n hx hb dX1_profitOn_0 rfl (lv_at hl 2 rfl) ?_
  refine lv_i2l hx hb dX1_profitOn_1 rfl ?_
  refine lv_aload_n hx hb dX1_profitOn_2 rfl (lv_at hl 0 rfl) ?_
  refine x_get (v := .ref (α 44)) (C := RX0) (T := TX0) (N := 3) hx hb hts (fun _ h => List.mem_cons_of_mem _ (List.mem_append_left _ (List.mem_append_left _ (List.mem_append_right _ h)))) hown hK hw 3 (Nat.lt_of_lt_of_le (Nat.le_of_ble_eq_true rfl : 3 < 191) hn) (mk_3 cA α) rfl 1 (by decide) (hts _ (List.mem_of_getElem? (i := 1) rfl)) (fun _ h9 => h9) rfl dX1_profitOn_3 ?_
  refine x_get (v := .ref (α 53)) (C := RX7) (T := TX7) (N := 9) hx hb hts (fun _ h => List.mem_cons_of_mem _ (List.mem_append_left _ (List.mem_append_right _ h))) hown hK hw 44 (Nat.lt_of_lt_of_le (Nat.le_of_ble_eq_true rfl : 44 < 191) hn) (mk_44 cA α) rfl 8 (by decide) (hts _ (List.mem_of_getElem? (i := 2) rfl)) (fun _ h9 => h9) rfl dX1_profitOn_6 ?_
  refine lv_iload_n hx hb dX1_profitOn_9 rfl (lv_at hl 1 rfl) ?_
  refine x_iald hx hb hK hw 53 100 (Nat.lt_of_lt_of_le (Nat.le_of_ble_eq_true rfl : 53 < 191) hn) (mk_53 cA α) d rfl (by omega) (by decide) dX1_profitOn_10 ?_
  refine lv_aload_n hx hb dX1_profitOn_11 rfl (lv_at hl 0 rfl) ?_
  refine lv_iload_n hx hb dX1_profitOn_12 rfl (lv_at hl 1 rfl) ?_
  refine x_callSIr (q := 0) (C := RX0) (As := [.ref (α 3), .int (nI d)]) (rest := [.int (S.1 53 d), .long x.toInt64]) ⟨hx, hb, hml, hown, hts⟩ (ct_X1_costOf l D cA α n _ hn S d hd h) (va_cwS 2 hts gX1_profitOn_X1_costOf rfl rfl rfl (by decide +kernel) ⟨Nat.le_of_ble_eq_true rfl, Nat.le_of_ble_eq_true rfl⟩) hK hw hAw rfl hl.1 rfl (Nat.le_of_ble_eq_true rfl) dX1_profitOn_13 ⟨Nat.zero_le _, Nat.zero_le _⟩ (fun H locs hw => ?_)
  refine lv_isub hx hb dX1_profitOn_16 ?_
  refine lv_i2l hx hb dX1_profitOn_17 rfl ?_
  refine lv_lmul hx hb dX1_profitOn_18 ?_
  exact ret_l hx hb hr hlocks hK hw dX1_profitOn_19 rfl rfl

def cPcs (S : Mem) (a b : Int32) (d : Nat) : Int32 := if cLot S d a b then S.1 80 d else 0
/-- the first of the n from d on that is so -/
def fstP (p : Nat → Bool) (v : Nat → Int32) : Nat → Nat → Int32
  | 0, _ => -1
  | n + 1, d => if p d then v d else fstP p v n (d + 1)
def fAll (S : Mem) (d : Nat) : Int64 := cOn S d (S.1 80 d)
def fCst (S : Mem) (a : Int32) (d : Nat) : Int64 := if S.1 51 d = a then (S.1 80 d).toInt64 * (cCost S d).toInt64 else 0
def cGap (S : Mem) (d : Nat) : Int64 := if S.1 28 (gN (S.1 49 d)) ≤ S.1 53 d then (if S.1 53 d ≤ S.1 29 (gN (S.1 49 d)) then 0 else (S.1 52 d).toInt64 * (S.1 53 d - S.1 29 (gN (S.1 49 d))).toInt64) else (S.1 52 d).toInt64 * (S.1 53 d - S.1 28 (gN (S.1 49 d))).toInt64
def fGap (S : Mem) (a : Int32) (d : Nat) : Int64 := (if S.1 50 d = a then cGap S d else 0) + (if S.1 51 d = a then -(cGap S d) else 0)

set_option maxRecDepth 100000 in
set_option maxHeartbeats 1000000 in
theorem ct_X1_piecesOf (l : Launch) (D : va_G) (cA : Nat → ClassId) (α : Nat → Nat) (n sz : Nat) (hn : 191 ≤ n) (S : Mem) (a b : Int32) (M : Nat) (hM : S.1 74 1 = nI M) (hM2 : M ≤ 100) : CtI l yX1_piecesOf wsX1_piecesOf ({ frames := 1, cells := 0, slots := 0, locals := 23 }) D cA α n sz [.ref (α 10), .ref (α 3), .int a, .int b] S (sumI (cPcs S a b) M) S := by
  refine ct_enter cX1_piecesOf 6 (some .int) (by decide) rfl (Nat.le_of_ble_eq_true rfl) ?_
  intro p e s m below meth c hx hb hr hml hlocks hown hts hK hsz hw ls hl
  have hown : s.vm.findClass RX1 = some m.cls := hown
  have hAw : ∀ z, Aw α n s.heap.size z → Aw α n sz z := by rw [hsz]; exact fun _ h => h
  have hl : lv_has ls 6 [(0, .ref (α 10)), (1, .ref (α 3)), (2, .int a), (3, .int b)] := hl
  refine lv_iconst (v := nI 0) hx hb dX1_piecesOf_0 (by decide) ?_
  refine lv_istore (lv' := [(4, .int (nI 0)), (0, .ref (α 10)), (1, .ref (α 3)), (2, .int a), (3, .int b)]) hx hb dX1_piecesOf_1 hl (by decide) rfl (fun ls hl => ?_)
  refine lv_iconst (v := nI 0) hx hb dX1_piecesOf_3 (by decide) ?_
  refine lv_istore (lv' := [(5, .int (nI 0)), (4, .int (nI 0)), (0, .ref (α 10)), (1, .ref (α 3)), (2, .int a), (3, .int b)]) hx hb dX1_piecesOf_4 hl (by decide) rfl (fun ls hl => ?_)
  have lp6 : ∀ (t : Nat) (d : Nat) (acc : Int32) (H : Heap) (locs : List Loc) (ls : Array Slot), M - d < t → d ≤ M → acc = sumI (cPcs S a b) d → Ws D cA α n (Aw α n sz) s.heap S H locs → lv_has ls 6 [(0, .ref (α 10)), (1, .ref (α 3)), (2, .int a), (3, .int b), (5, .int (nI d)), (4, .int acc)] → W p l e ({ frames := 1, cells := 0, slots := 0, locals := 23 } : Room) s m (List.toArray ([.ref (α 10), .ref (α 3), .int a, .int b] : List Value)) below meth c H locs 0 0 (MQ below (va_Qi (fun r u => r = (sumI (cPcs S a b) M) ∧ u = S) (Pw D cA α n) (Aw α n sz)) (List.toArray ([.ref (α 10), .ref (α 3), .int a, .int b] : List Value)) s 0 0 (Aw α n sz)) (F0 m 6 ls []) := by
    intro t
    induction t with
    | zero => intro d acc H locs ls ht; exact absurd ht (Nat.not_lt_zero _)
    | succ t ih6 =>
      intro d acc H locs ls ht hj hk hw hl
      refine lv_iload hx hb dX1_piecesOf_6 (lv_at hl 4 rfl) ?_
      refine lv_aload_n hx hb dX1_piecesOf_8 rfl (lv_at hl 1 rfl) ?_
      refine x_get (v := .ref (α 74)) (C := RX0) (T := TX0) (N := 3) hx hb hts (fun _ h => List.mem_cons_of_mem _ (List.mem_append_left _ (List.mem_append_left _ (List.mem_append_right _ h)))) hown hK hw 3 (Nat.lt_of_lt_of_le (Nat.le_of_ble_eq_true rfl : 3 < 191) hn) (mk_3 cA α) rfl 2 (by decide) (hts _ (List.mem_of_getElem? (i := 1) rfl)) (fun _ h9 => h9) rfl dX1_piecesOf_9 ?_
      refine x_get (v := .int (S.1 74 1)) (C := RX9) (T := TX9) (N := 14) hx hb hts (fun _ h => List.mem_cons_of_mem _ (List.mem_append_left _ (List.mem_append_right _ h))) hown hK hw 74 (Nat.lt_of_lt_of_le (Nat.le_of_ble_eq_true rfl : 74 < 191) hn) (mk_74 cA α) rfl 1 (by decide) (hts _ (List.mem_of_getElem? (i := 2) rfl)) (fun _ h9 => h9) rfl dX1_piecesOf_12 ?_
      refine x_topN (k := M) hM ?_
      refine xn_icmp_ge (tgt := 50) hx hb (by omega) (by omega) dX1_piecesOf_15 (by decide) (fun c1 => ?_) (fun c1 => ?_)
      · skip
        refine lv_iload hx hb dX1_piecesOf_50 (lv_at hl 5 rfl) ?_
        exact ret_i hx hb hr hlocks hK hw dX1_piecesOf_52 (by rw [hk, show d = M by omega]) rfl
      · skip
        refine lv_aload_n hx hb dX1_piecesOf_18 rfl (lv_at hl 1 rfl) ?_
        refine lv_iload hx hb dX1_piecesOf_19 (lv_at hl 4 rfl) ?_
        refine lv_iload_n hx hb dX1_piecesOf_21 rfl (lv_at hl 2 rfl) ?_
        refine lv_iload_n hx hb dX1_piecesOf_22 rfl (lv_at hl 3 rfl) ?_
        refine x_callSIr (q := 0) (C := RX0) (As := [.ref (α 3), .int (nI d), .int a, .int b]) (rest := []) ⟨hx, hb, hml, hown, hts⟩ (ct_X1_isLot l D cA α n _ hn S d a b (by omega)) (va_cwS 4 hts gX1_piecesOf_X1_isLot rfl rfl rfl (by decide +kernel) ⟨Nat.le_of_ble_eq_true rfl, Nat.le_of_ble_eq_true rfl⟩) hK hw hAw rfl hl.1 rfl (Nat.le_of_ble_eq_true rfl) dX1_piecesOf_23 ⟨Nat.zero_le _, Nat.zero_le _⟩ (fun H locs hw => ?_)
        refine xb_eq (b := (cLot S d a b)) (tgt := 44) hx hb dX1_piecesOf_26 (by decide) (fun c2 => ?_) (fun c2 => ?_)
        · skip
          refine lv_iinc (v := nI (d + 1)) (lv' := [(5, .int (nI (d + 1))), (0, .ref (α 10)), (1, .ref (α 3)), (2, .int a), (3, .int b), (4, .int acc)]) hx hb dX1_piecesOf_44 hl (k := 4) rfl (nI_1 _) (by decide) rfl (fun ls hl => ?_)
          refine lv_goto (tgt := 6) hx hb dX1_piecesOf_47 (by decide) ?_
          exact ih6 (d + 1) acc _ _ _ (by omega) (by omega) (by rw [sumI, ← hk]; first | (simp only [cPcs, if_pos c1, if_neg (not_not_intro c1), decide_eq_true c1, c2, if_true, if_false, eq_self, Bool.false_eq_true, not_true_eq_false, not_false_eq_true, decide_true, decide_false, Bool.and_true, Bool.true_and, Bool.and_false, Bool.false_and, Bool.not_true, Bool.not_false, Bool.or_true, Bool.true_or, Bool.or_false, Bool.false_or, reduceIte, b2i_t, b2i_f, Int32.add_zero]; done) | (simp [cPcs, if_pos c1, if_neg (not_not_intro c1), decide_eq_true c1, c2]; done)) hw (lv_sub hl [1, 2, 3, 4, 0, 5] rfl)
        · skip
          refine lv_iload hx hb dX1_piecesOf_29 (lv_at hl 5 rfl) ?_
          refine lv_aload_n hx hb dX1_piecesOf_31 rfl (lv_at hl 1 rfl) ?_
          refine x_get (v := .ref (α 74)) (C := RX0) (T := TX0) (N := 3) hx hb hts (fun _ h => List.mem_cons_of_mem _ (List.mem_append_left _ (List.mem_append_left _ (List.mem_append_right _ h)))) hown hK hw 3 (Nat.lt_of_lt_of_le (Nat.le_of_ble_eq_true rfl : 3 < 191) hn) (mk_3 cA α) rfl 2 (by decide) (hts _ (List.mem_of_getElem? (i := 1) rfl)) (fun _ h9 => h9) rfl dX1_piecesOf_32 ?_
          refine x_get (v := .ref (α 80)) (C := RX9) (T := TX9) (N := 14) hx hb hts (fun _ h => List.mem_cons_of_mem _ (List.mem_append_left _ (List.mem_append_right _ h))) hown hK hw 74 (Nat.lt_of_lt_of_le (Nat.le_of_ble_eq_true rfl : 74 < 191) hn) (mk_74 cA α) rfl 11 (by decide) (hts _ (List.mem_of_getElem? (i := 3) rfl)) (fun _ h9 => h9) rfl dX1_piecesOf_35 ?_
          refine lv_iload hx hb dX1_piecesOf_38 (lv_at hl 4 rfl) ?_
          refine x_iald hx hb hK hw 80 100 (Nat.lt_of_lt_of_le (Nat.le_of_ble_eq_true rfl : 80 < 191) hn) (mk_80 cA α) d rfl (by omega) (by decide) dX1_piecesOf_40 ?_
          refine lv_iadd hx hb dX1_piecesOf_41 ?_
          refine lv_istore (lv' := [(4, .int (acc + (S.1 80 d))), (0, .ref (α 10)), (1, .ref (α 3)), (2, .int a), (3, .int b), (5, .int (nI d))]) hx hb dX1_piecesOf_42 hl (by decide) rfl (fun ls hl => ?_)
          refine lv_iinc (v := nI (d + 1)) (lv' := [(5, .int (nI (d + 1))), (4, .int (acc + (S.1 80 d))), (0, .ref (α 10)), (1, .ref (α 3)), (2, .int a), (3, .int b)]) hx hb dX1_piecesOf_44 hl (k := 5) rfl (nI_1 _) (by decide) rfl (fun ls hl => ?_)
          refine lv_goto (tgt := 6) hx hb dX1_piecesOf_47 (by decide) ?_
          exact ih6 (d + 1) (acc + (S.1 80 d)) _ _ _ (by omega) (by omega) (by rw [sumI, ← hk]; first | (simp only [cPcs, if_pos c1, if_neg (not_not_intro c1), decide_eq_true c1, c2, if_true, if_false, eq_self, Bool.false_eq_true, not_true_eq_false, not_false_eq_true, decide_true, decide_false, Bool.and_true, Bool.true_and, Bool.and_false, Bool.false_and, Bool.not_true, Bool.not_false, Bool.or_true, Bool.true_or, Bool.or_false, Bool.false_or, reduceIte, b2i_t, b2i_f, Int32.add_zero]; done) | (simp [cPcs, if_pos c1, if_neg (not_not_intro c1), decide_eq_true c1, c2]; done)) hw (lv_sub hl [2, 3, 4, 5, 0, 1] rfl)
  exact lp6 _ 0 0 _ _ _ (Nat.lt_succ_self _) (Nat.zero_le _) rfl hw (lv_sub hl [2, 3, 4, 5, 0, 1] rfl)

set_option maxRecDepth 100000 in
set_option maxHeartbeats 1000000 in
theorem ct_X1_firstPrice (l : Launch) (D : va_G) (cA : Nat → ClassId) (α : Nat → Nat) (n sz : Nat) (hn : 191 ≤ n) (S : Mem) (a b : Int32) (M : Nat) (hM : S.1 74 1 = nI M) (hM2 : M ≤ 100) : CtI l yX1_firstPrice wsX1_firstPrice ({ frames := 1, cells := 0, slots := 0, locals := 23 }) D cA α n sz [.ref (α 10), .ref (α 3), .int a, .int b] S (fstP (fun d => cLot S d a b) (fun d => S.1 53 d) M 0) S := by
  refine ct_enter cX1_firstPrice 5 (some .int) (by decide) rfl (Nat.le_of_ble_eq_true rfl) ?_
  intro p e s m below meth c hx hb hr hml hlocks hown hts hK hsz hw ls hl
  have hown : s.vm.findClass RX1 = some m.cls := hown
  have hAw : ∀ z, Aw α n s.heap.size z → Aw α n sz z := by rw [hsz]; exact fun _ h => h
  have hl : lv_has ls 5 [(0, .ref (α 10)), (1, .ref (α 3)), (2, .int a), (3, .int b)] := hl
  refine lv_iconst (v := nI 0) hx hb dX1_firstPrice_0 (by decide) ?_
  refine lv_istore (lv' := [(4, .int (nI 0)), (0, .ref (α 10)), (1, .ref (α 3)), (2, .int a), (3, .int b)]) hx hb dX1_firstPrice_1 hl (by decide) rfl (fun ls hl => ?_)
  have lp3 : ∀ (t : Nat) (d : Nat) (H : Heap) (locs : List Loc) (ls : Array Slot), M - d < t → d ≤ M → fstP (fun d => cLot S d a b) (fun d => S.1 53 d) M 0 = fstP (fun d => cLot S d a b) (fun d => S.1 53 d) (M - d) d → Ws D cA α n (Aw α n sz) s.heap S H locs → lv_has ls 5 [(0, .ref (α 10)), (1, .ref (α 3)), (2, .int a), (3, .int b), (4, .int (nI d))] → W p l e ({ frames := 1, cells := 0, slots := 0, locals := 23 } : Room) s m (List.toArray ([.ref (α 10), .ref (α 3), .int a, .int b] : List Value)) below meth c H locs 0 0 (MQ below (va_Qi (fun r u => r = (fstP (fun d => cLot S d a b) (fun d => S.1 53 d) M 0) ∧ u = S) (Pw D cA α n) (Aw α n sz)) (List.toArray ([.ref (α 10), .ref (α 3), .int a, .int b] : List Value)) s 0 0 (Aw α n sz)) (F0 m 3 ls []) := by
    intro t
    induction t with
    | zero => intro d H locs ls ht; exact absurd ht (Nat.not_lt_zero _)
    | succ t ih3 =>
      intro d H locs ls ht hj hk hw hl
      refine lv_iload hx hb dX1_firstPrice_3 (lv_at hl 4 rfl) ?_
      refine lv_aload_n hx hb dX1_firstPrice_5 rfl (lv_at hl 1 rfl) ?_
      refine x_get (v := .ref (α 74)) (C := RX0) (T := TX0) (N := 3) hx hb hts (fun _ h => List.mem_cons_of_mem _ (List.mem_append_left _ (List.mem_append_left _ (List.mem_append_right _ h)))) hown hK hw 3 (Nat.lt_of_lt_of_le (Nat.le_of_ble_eq_true rfl : 3 < 191) hn) (mk_3 cA α) rfl 2 (by decide) (hts _ (List.mem_of_getElem? (i := 1) rfl)) (fun _ h9 => h9) rfl dX1_firstPrice_6 ?_
      refine x_get (v := .int (S.1 74 1)) (C := RX9) (T := TX9) (N := 14) hx hb hts (fun _ h => List.mem_cons_of_mem _ (List.mem_append_left _ (List.mem_append_right _ h))) hown hK hw 74 (Nat.lt_of_lt_of_le (Nat.le_of_ble_eq_true rfl : 74 < 191) hn) (mk_74 cA α) rfl 1 (by decide) (hts _ (List.mem_of_getElem? (i := 2) rfl)) (fun _ h9 => h9) rfl dX1_firstPrice_9 ?_
      refine x_topN (k := M) hM ?_
      refine xn_icmp_ge (tgt := 43) hx hb (by omega) (by omega) dX1_firstPrice_12 (by decide) (fun c1 => ?_) (fun c1 => ?_)
      · skip
        refine lv_iconst (v := (-1)) hx hb dX1_firstPrice_43 (by decide) ?_
        exact ret_i hx hb hr hlocks hK hw dX1_firstPrice_44 (by rw [hk, show M - d = 0 by omega]; rfl) rfl
      · skip
        refine lv_aload_n hx hb dX1_firstPrice_15 rfl (lv_at hl 1 rfl) ?_
        refine lv_iload hx hb dX1_firstPrice_16 (lv_at hl 4 rfl) ?_
        refine lv_iload_n hx hb dX1_firstPrice_18 rfl (lv_at hl 2 rfl) ?_
        refine lv_iload_n hx hb dX1_firstPrice_19 rfl (lv_at hl 3 rfl) ?_
        refine x_callSIr (q := 0) (C := RX0) (As := [.ref (α 3), .int (nI d), .int a, .int b]) (rest := []) ⟨hx, hb, hml, hown, hts⟩ (ct_X1_isLot l D cA α n _ hn S d a b (by omega)) (va_cwS 4 hts gX1_firstPrice_X1_isLot rfl rfl rfl (by decide +kernel) ⟨Nat.le_of_ble_eq_true rfl, Nat.le_of_ble_eq_true rfl⟩) hK hw hAw rfl hl.1 rfl (Nat.le_of_ble_eq_true rfl) dX1_firstPrice_20 ⟨Nat.zero_le _, Nat.zero_le _⟩ (fun H locs hw => ?_)
        refine xb_eq (b := (cLot S d a b)) (tgt := 37) hx hb dX1_firstPrice_23 (by decide) (fun c2 => ?_) (fun c2 => ?_)
        · skip
          refine lv_iinc (v := nI (d + 1)) (lv' := [(4, .int (nI (d + 1))), (0, .ref (α 10)), (1, .ref (α 3)), (2, .int a), (3, .int b)]) hx hb dX1_firstPrice_37 hl (k := 4) rfl (nI_1 _) (by decide) rfl (fun ls hl => ?_)
          refine lv_goto (tgt := 3) hx hb dX1_firstPrice_40 (by decide) ?_
          exact ih3 (d + 1) _ _ _ (by omega) (by omega) (by rw [hk, show M - d = (M - (d + 1)) + 1 by omega, fstP]; simp only [if_pos c1, if_neg (not_not_intro c1), decide_eq_true c1, c2, if_true, if_false, eq_self, Bool.false_eq_true, not_true_eq_false, not_false_eq_true, decide_true, decide_false, Bool.and_true, Bool.true_and, Bool.and_false, Bool.false_and, Bool.not_true, Bool.not_false, Bool.or_true, Bool.true_or, Bool.or_false, Bool.false_or, reduceIte, b2i_t, b2i_f]) hw (lv_sub hl [1, 2, 3, 4, 0] rfl)
        · skip
          refine lv_aload_n hx hb dX1_firstPrice_26 rfl (lv_at hl 1 rfl) ?_
          refine x_get (v := .ref (α 44)) (C := RX0) (T := TX0) (N := 3) hx hb hts (fun _ h => List.mem_cons_of_mem _ (List.mem_append_left _ (List.mem_append_left _ (List.mem_append_right _ h)))) hown hK hw 3 (Nat.lt_of_lt_of_le (Nat.le_of_ble_eq_true rfl : 3 < 191) hn) (mk_3 cA α) rfl 1 (by decide) (hts _ (List.mem_of_getElem? (i := 3) rfl)) (fun _ h9 => h9) rfl dX1_firstPrice_27 ?_
          refine x_get (v := .ref (α 53)) (C := RX7) (T := TX7) (N := 9) hx hb hts (fun _ h => List.mem_cons_of_mem _ (List.mem_append_right _ h)) hown hK hw 44 (Nat.lt_of_lt_of_le (Nat.le_of_ble_eq_true rfl : 44 < 191) hn) (mk_44 cA α) rfl 8 (by decide) (hts _ (List.mem_of_getElem? (i := 4) rfl)) (fun _ h9 => h9) rfl dX1_firstPrice_30 ?_
          refine lv_iload hx hb dX1_firstPrice_33 (lv_at hl 4 rfl) ?_
          refine x_iald hx hb hK hw 53 100 (Nat.lt_of_lt_of_le (Nat.le_of_ble_eq_true rfl : 53 < 191) hn) (mk_53 cA α) d rfl (by omega) (by decide) dX1_firstPrice_35 ?_
          exact ret_i hx hb hr hlocks hK hw dX1_firstPrice_36 (by rw [hk, show M - d = (M - (d + 1)) + 1 by omega, fstP]; simp only [if_pos c1, if_neg (not_not_intro c1), decide_eq_true c1, c2, if_true, if_false, eq_self, Bool.false_eq_true, not_true_eq_false, not_false_eq_true, decide_true, decide_false, Bool.and_true, Bool.true_and, Bool.and_false, Bool.false_and, Bool.not_true, Bool.not_false, Bool.or_true, Bool.true_or, Bool.or_false, Bool.false_or, reduceIte, b2i_t, b2i_f]) rfl
  exact lp3 _ 0 _ _ _ (Nat.lt_succ_self _) (Nat.zero_le _) rfl hw (lv_sub hl [1, 2, 3, 4, 0] rfl)

set_option maxRecDepth 100000 in
set_option maxHeartbeats 1000000 in
theorem ct_X1_profitOfAll (l : Launch) (D : va_G) (cA : Nat → ClassId) (α : Nat → Nat) (n sz : Nat) (hn : 191 ≤ n) (S : Mem) (M : Nat) (hM : S.1 74 1 = nI M) (hM2 : M ≤ 100) (ho : ∀ d, d < M → okI (S.1 49 d) 6) : CtL l yX1_profitOfAll wsX1_profitOfAll ({ frames := 2, cells := 0, slots := 0, locals := 43 }) D cA α n sz [.ref (α 10), .ref (α 3)] S (sumL (fAll S) M) S := by
  refine ct_enter cX1_profitOfAll 5 (some .long) (by decide) rfl (Nat.le_of_ble_eq_true rfl) ?_
  intro p e s m below meth c hx hb hr hml hlocks hown hts hK hsz hw ls hl
  have hown : s.vm.findClass RX1 = some m.cls := hown
  have hAw : ∀ z, Aw α n s.heap.size z → Aw α n sz z := by rw [hsz]; exact fun _ h => h
  have hl : lv_has ls 5 [(0, .ref (α 10)), (1, .ref (α 3))] := hl
  refine lv_lconst (v := 0) hx hb dX1_profitOfAll_0 (by decide) ?_
  refine lv_lstore_n (lv' := [(2, .long 0), (0, .ref (α 10)), (1, .ref (α 3))]) hx hb dX1_profitOfAll_1 rfl hl (by decide) rfl (fun ls hl => ?_)
  refine lv_iconst (v := nI 0) hx hb dX1_profitOfAll_2 (by decide) ?_
  refine lv_istore (lv' := [(4, .int (nI 0)), (2, .long 0), (0, .ref (α 10)), (1, .ref (α 3))]) hx hb dX1_profitOfAll_3 hl (by decide) rfl (fun ls hl => ?_)
  have lp5 : ∀ (t : Nat) (d : Nat) (acc : Int64) (H : Heap) (locs : List Loc) (ls : Array Slot), M - d < t → d ≤ M → acc = sumL (fAll S) d → Ws D cA α n (Aw α n sz) s.heap S H locs → lv_has ls 5 [(0, .ref (α 10)), (1, .ref (α 3)), (4, .int (nI d)), (2, .long acc)] → W p l e ({ frames := 2, cells := 0, slots := 0, locals := 43 } : Room) s m (List.toArray ([.ref (α 10), .ref (α 3)] : List Value)) below meth c H locs 0 0 (MQ below (va_Ql (fun r u => r = (sumL (fAll S) M) ∧ u = S) (Pw D cA α n) (Aw α n sz)) (List.toArray ([.ref (α 10), .ref (α 3)] : List Value)) s 0 0 (Aw α n sz)) (F0 m 5 ls []) := by
    intro t
    induction t with
    | zero => intro d acc H locs ls ht; exact absurd ht (Nat.not_lt_zero _)
    | succ t ih5 =>
      intro d acc H locs ls ht hj hk hw hl
      refine lv_iload hx hb dX1_profitOfAll_5 (lv_at hl 2 rfl) ?_
      refine lv_aload_n hx hb dX1_profitOfAll_7 rfl (lv_at hl 1 rfl) ?_
      refine x_get (v := .ref (α 74)) (C := RX0) (T := TX0) (N := 3) hx hb hts (fun _ h => List.mem_cons_of_mem _ (List.mem_append_left _ (List.mem_append_left _ (List.mem_append_left _ (List.mem_append_right _ h))))) hown hK hw 3 (Nat.lt_of_lt_of_le (Nat.le_of_ble_eq_true rfl : 3 < 191) hn) (mk_3 cA α) rfl 2 (by decide) (hts _ (List.mem_of_getElem? (i := 1) rfl)) (fun _ h9 => h9) rfl dX1_profitOfAll_8 ?_
      refine x_get (v := .int (S.1 74 1)) (C := RX9) (T := TX9) (N := 14) hx hb hts (fun _ h => List.mem_cons_of_mem _ (List.mem_append_left _ (List.mem_append_left _ (List.mem_append_right _ h)))) hown hK hw 74 (Nat.lt_of_lt_of_le (Nat.le_of_ble_eq_true rfl : 74 < 191) hn) (mk_74 cA α) rfl 1 (by decide) (hts _ (List.mem_of_getElem? (i := 2) rfl)) (fun _ h9 => h9) rfl dX1_profitOfAll_11 ?_
      refine x_topN (k := M) hM ?_
      refine xn_icmp_ge (tgt := 42) hx hb (by omega) (by omega) dX1_profitOfAll_14 (by decide) (fun c1 => ?_) (fun c1 => ?_)
      · skip
        refine lv_lload_n hx hb dX1_profitOfAll_42 rfl (lv_at hl 3 rfl) ?_
        exact ret_l hx hb hr hlocks hK hw dX1_profitOfAll_43 (by rw [hk, show d = M by omega]) rfl
      · skip
        refine lv_lload_n hx hb dX1_profitOfAll_17 rfl (lv_at hl 3 rfl) ?_
        refine lv_aload_n hx hb dX1_profitOfAll_18 rfl (lv_at hl 1 rfl) ?_
        refine lv_iload hx hb dX1_profitOfAll_19 (lv_at hl 2 rfl) ?_
        refine lv_aload_n hx hb dX1_profitOfAll_21 rfl (lv_at hl 1 rfl) ?_
        refine x_get (v := .ref (α 74)) (C := RX0) (T := TX0) (N := 3) hx hb hts (fun _ h => List.mem_cons_of_mem _ (List.mem_append_left _ (List.mem_append_left _ (List.mem_append_left _ (List.mem_append_right _ h))))) hown hK hw 3 (Nat.lt_of_lt_of_le (Nat.le_of_ble_eq_true rfl : 3 < 191) hn) (mk_3 cA α) rfl 2 (by decide) (hts _ (List.mem_of_getElem? (i := 1) rfl)) (fun _ h9 => h9) rfl dX1_profitOfAll_22 ?_
        refine x_get (v := .ref (α 80)) (C := RX9) (T := TX9) (N := 14) hx hb hts (fun _ h => List.mem_cons_of_mem _ (List.mem_append_left _ (List.mem_append_left _ (List.mem_append_right _ h)))) hown hK hw 74 (Nat.lt_of_lt_of_le (Nat.le_of_ble_eq_true rfl : 74 < 191) hn) (mk_74 cA α) rfl 11 (by decide) (hts _ (List.mem_of_getElem? (i := 3) rfl)) (fun _ h9 => h9) rfl dX1_profitOfAll_25 ?_
        refine lv_iload hx hb dX1_profitOfAll_28 (lv_at hl 2 rfl) ?_
        refine x_iald hx hb hK hw 80 100 (Nat.lt_of_lt_of_le (Nat.le_of_ble_eq_true rfl : 80 < 191) hn) (mk_80 cA α) d rfl (by omega) (by decide) dX1_profitOfAll_30 ?_
        refine x_callSLr (q := 0) (C := RX0) (As := [.ref (α 3), .int (nI d), .int (S.1 80 d)]) (rest := [.long acc]) ⟨hx, hb, hml, hown, hts⟩ (ct_X1_profitOn l D cA α n _ hn S d (S.1 80 d) (by omega) (ho d (by omega))) (va_cwS 3 hts gX1_profitOfAll_X1_profitOn rfl rfl rfl (by decide +kernel) ⟨Nat.le_of_ble_eq_true rfl, Nat.le_of_ble_eq_true rfl⟩) hK hw hAw rfl hl.1 rfl (Nat.le_of_ble_eq_true rfl) dX1_profitOfAll_31 ⟨Nat.zero_le _, Nat.zero_le _⟩ (fun H locs hw => ?_)
        refine lv_ladd hx hb dX1_profitOfAll_34 ?_
        refine lv_lstore_n (lv' := [(2, .long (acc + (cOn S d (S.1 80 d)))), (0, .ref (α 10)), (1, .ref (α 3)), (4, .int (nI d))]) hx hb dX1_profitOfAll_35 rfl hl (by decide) rfl (fun ls hl => ?_)
        refine lv_iinc (v := nI (d + 1)) (lv' := [(4, .int (nI (d + 1))), (2, .long (acc + (cOn S d (S.1 80 d)))), (0, .ref (α 10)), (1, .ref (α 3))]) hx hb dX1_profitOfAll_36 hl (k := 3) rfl (nI_1 _) (by decide) rfl (fun ls hl => ?_)
        refine lv_goto (tgt := 5) hx hb dX1_profitOfAll_39 (by decide) ?_
        exact ih5 (d + 1) (acc + (cOn S d (S.1 80 d))) _ _ _ (by omega) (by omega) (by rw [sumL, ← hk]; first | (simp only [fAll, if_pos c1, if_neg (not_not_intro c1), decide_eq_true c1, if_true, if_false, eq_self, Bool.false_eq_true, not_true_eq_false, not_false_eq_true, decide_true, decide_false, Bool.and_true, Bool.true_and, Bool.and_false, Bool.false_and, Bool.not_true, Bool.not_false, Bool.or_true, Bool.true_or, Bool.or_false, Bool.false_or, reduceIte, b2i_t, b2i_f, Int64.add_zero, Int64.zero_add, Int64.sub_eq_add_neg, Int64.add_assoc]; done) | (simp [fAll, if_pos c1, if_neg (not_not_intro c1), decide_eq_true c1, Int64.sub_eq_add_neg, Int64.add_assoc]; done)) hw (lv_sub hl [2, 3, 0, 1] rfl)
  exact lp5 _ 0 0 _ _ _ (Nat.lt_succ_self _) (Nat.zero_le _) rfl hw (lv_sub hl [2, 3, 0, 1] rfl)

set_option maxRecDepth 100000 in
set_option maxHeartbeats 1000000 in
theorem ct_X1_costOfLots (l : Launch) (D : va_G) (cA : Nat → ClassId) (α : Nat → Nat) (n sz : Nat) (hn : 191 ≤ n) (S : Mem) (a : Int32) (M : Nat) (hM : S.1 74 1 = nI M) (hM2 : M ≤ 100) (ho : ∀ d, d < M → okI (S.1 49 d) 6) : CtL l yX1_costOfLots wsX1_costOfLots ({ frames := 1, cells := 0, slots := 0, locals := 21 }) D cA α n sz [.ref (α 10), .ref (α 3), .int a] S (sumL (fCst S a) M) S := by
  refine ct_enter cX1_costOfLots 6 (some .long) (by decide) rfl (Nat.le_of_ble_eq_true rfl) ?_
  intro p e s m below meth c hx hb hr hml hlocks hown hts hK hsz hw ls hl
  have hown : s.vm.findClass RX1 = some m.cls := hown
  have hAw : ∀ z, Aw α n s.heap.size z → Aw α n sz z := by rw [hsz]; exact fun _ h => h
  have hl : lv_has ls 6 [(0, .ref (α 10)), (1, .ref (α 3)), (2, .int a)] := hl
  refine lv_lconst (v := 0) hx hb dX1_costOfLots_0 (by decide) ?_
  refine lv_lstore_n (lv' := [(3, .long 0), (0, .ref (α 10)), (1, .ref (α 3)), (2, .int a)]) hx hb dX1_costOfLots_1 rfl hl (by decide) rfl (fun ls hl => ?_)
  refine lv_iconst (v := nI 0) hx hb dX1_costOfLots_2 (by decide) ?_
  refine lv_istore (lv' := [(5, .int (nI 0)), (3, .long 0), (0, .ref (α 10)), (1, .ref (α 3)), (2, .int a)]) hx hb dX1_costOfLots_3 hl (by decide) rfl (fun ls hl => ?_)
  have lp5 : ∀ (t : Nat) (d : Nat) (acc : Int64) (H : Heap) (locs : List Loc) (ls : Array Slot), M - d < t → d ≤ M → acc = sumL (fCst S a) d → Ws D cA α n (Aw α n sz) s.heap S H locs → lv_has ls 6 [(0, .ref (α 10)), (1, .ref (α 3)), (2, .int a), (5, .int (nI d)), (3, .long acc)] → W p l e ({ frames := 1, cells := 0, slots := 0, locals := 21 } : Room) s m (List.toArray ([.ref (α 10), .ref (α 3), .int a] : List Value)) below meth c H locs 0 0 (MQ below (va_Ql (fun r u => r = (sumL (fCst S a) M) ∧ u = S) (Pw D cA α n) (Aw α n sz)) (List.toArray ([.ref (α 10), .ref (α 3), .int a] : List Value)) s 0 0 (Aw α n sz)) (F0 m 5 ls []) := by
    intro t
    induction t with
    | zero => intro d acc H locs ls ht; exact absurd ht (Nat.not_lt_zero _)
    | succ t ih5 =>
      intro d acc H locs ls ht hj hk hw hl
      refine lv_iload hx hb dX1_costOfLots_5 (lv_at hl 3 rfl) ?_
      refine lv_aload_n hx hb dX1_costOfLots_7 rfl (lv_at hl 1 rfl) ?_
      refine x_get (v := .ref (α 74)) (C := RX0) (T := TX0) (N := 3) hx hb hts (fun _ h => List.mem_cons_of_mem _ (List.mem_append_left _ (List.mem_append_left _ (List.mem_append_left _ (List.mem_append_right _ h))))) hown hK hw 3 (Nat.lt_of_lt_of_le (Nat.le_of_ble_eq_true rfl : 3 < 191) hn) (mk_3 cA α) rfl 2 (by decide) (hts _ (List.mem_of_getElem? (i := 1) rfl)) (fun _ h9 => h9) rfl dX1_costOfLots_8 ?_
      refine x_get (v := .int (S.1 74 1)) (C := RX9) (T := TX9) (N := 14) hx hb hts (fun _ h => List.mem_cons_of_mem _ (List.mem_append_left _ (List.mem_append_left _ (List.mem_append_right _ h)))) hown hK hw 74 (Nat.lt_of_lt_of_le (Nat.le_of_ble_eq_true rfl : 74 < 191) hn) (mk_74 cA α) rfl 1 (by decide) (hts _ (List.mem_of_getElem? (i := 2) rfl)) (fun _ h9 => h9) rfl dX1_costOfLots_11 ?_
      refine x_topN (k := M) hM ?_
      refine xn_icmp_ge (tgt := 59) hx hb (by omega) (by omega) dX1_costOfLots_14 (by decide) (fun c1 => ?_) (fun c1 => ?_)
      · skip
        refine lv_lload_n hx hb dX1_costOfLots_59 rfl (lv_at hl 4 rfl) ?_
        exact ret_l hx hb hr hlocks hK hw dX1_costOfLots_60 (by rw [hk, show d = M by omega]) rfl
      · skip
        refine lv_aload_n hx hb dX1_costOfLots_17 rfl (lv_at hl 1 rfl) ?_
        refine x_get (v := .ref (α 44)) (C := RX0) (T := TX0) (N := 3) hx hb hts (fun _ h => List.mem_cons_of_mem _ (List.mem_append_left _ (List.mem_append_left _ (List.mem_append_left _ (List.mem_append_right _ h))))) hown hK hw 3 (Nat.lt_of_lt_of_le (Nat.le_of_ble_eq_true rfl : 3 < 191) hn) (mk_3 cA α) rfl 1 (by decide) (hts _ (List.mem_of_getElem? (i := 3) rfl)) (fun _ h9 => h9) rfl dX1_costOfLots_18 ?_
        refine x_get (v := .ref (α 51)) (C := RX7) (T := TX7) (N := 9) hx hb hts (fun _ h => List.mem_cons_of_mem _ (List.mem_append_left _ (List.mem_append_right _ h))) hown hK hw 44 (Nat.lt_of_lt_of_le (Nat.le_of_ble_eq_true rfl : 44 < 191) hn) (mk_44 cA α) rfl 6 (by decide) (hts _ (List.mem_of_getElem? (i := 4) rfl)) (fun _ h9 => h9) rfl dX1_costOfLots_21 ?_
        refine lv_iload hx hb dX1_costOfLots_24 (lv_at hl 3 rfl) ?_
        refine x_iald hx hb hK hw 51 100 (Nat.lt_of_lt_of_le (Nat.le_of_ble_eq_true rfl : 51 < 191) hn) (mk_51 cA α) d rfl (by omega) (by decide) dX1_costOfLots_26 ?_
        refine lv_iload_n hx hb dX1_costOfLots_27 rfl (lv_at hl 2 rfl) ?_
        refine lv_icmp_ne (tgt := 53) hx hb dX1_costOfLots_28 (by decide) (fun c2 => ?_) (fun c2 => ?_)
        · skip
          refine lv_iinc (v := nI (d + 1)) (lv' := [(5, .int (nI (d + 1))), (0, .ref (α 10)), (1, .ref (α 3)), (2, .int a), (3, .long acc)]) hx hb dX1_costOfLots_53 hl (k := 3) rfl (nI_1 _) (by decide) rfl (fun ls hl => ?_)
          refine lv_goto (tgt := 5) hx hb dX1_costOfLots_56 (by decide) ?_
          exact ih5 (d + 1) acc _ _ _ (by omega) (by omega) (by rw [sumL, ← hk]; first | (simp only [fCst, if_pos c1, if_neg (not_not_intro c1), decide_eq_true c1, if_neg c2, if_pos c2, decide_eq_false c2, if_true, if_false, eq_self, Bool.false_eq_true, not_true_eq_false, not_false_eq_true, decide_true, decide_false, Bool.and_true, Bool.true_and, Bool.and_false, Bool.false_and, Bool.not_true, Bool.not_false, Bool.or_true, Bool.true_or, Bool.or_false, Bool.false_or, reduceIte, b2i_t, b2i_f, Int64.add_zero, Int64.zero_add, Int64.sub_eq_add_neg, Int64.add_assoc]; done) | (simp [fCst, if_pos c1, if_neg (not_not_intro c1), decide_eq_true c1, if_neg c2, if_pos c2, decide_eq_false c2, Int64.sub_eq_add_neg, Int64.add_assoc]; done)) hw (lv_sub hl [1, 2, 3, 0, 4] rfl)
        · skip
          refine lv_lload_n hx hb dX1_costOfLots_31 rfl (lv_at hl 4 rfl) ?_
          refine lv_aload_n hx hb dX1_costOfLots_32 rfl (lv_at hl 1 rfl) ?_
          refine x_get (v := .ref (α 74)) (C := RX0) (T := TX0) (N := 3) hx hb hts (fun _ h => List.mem_cons_of_mem _ (List.mem_append_left _ (List.mem_append_left _ (List.mem_append_left _ (List.mem_append_right _ h))))) hown hK hw 3 (Nat.lt_of_lt_of_le (Nat.le_of_ble_eq_true rfl : 3 < 191) hn) (mk_3 cA α) rfl 2 (by decide) (hts _ (List.mem_of_getElem? (i := 1) rfl)) (fun _ h9 => h9) rfl dX1_costOfLots_33 ?_
          refine x_get (v := .ref (α 80)) (C := RX9) (T := TX9) (N := 14) hx hb hts (fun _ h => List.mem_cons_of_mem _ (List.mem_append_left _ (List.mem_append_left _ (List.mem_append_right _ h)))) hown hK hw 74 (Nat.lt_of_lt_of_le (Nat.le_of_ble_eq_true rfl : 74 < 191) hn) (mk_74 cA α) rfl 11 (by decide) (hts _ (List.mem_of_getElem? (i := 5) rfl)) (fun _ h9 => h9) rfl dX1_costOfLots_36 ?_
          refine lv_iload hx hb dX1_costOfLots_39 (lv_at hl 3 rfl) ?_
          refine x_iald hx hb hK hw 80 100 (Nat.lt_of_lt_of_le (Nat.le_of_ble_eq_true rfl : 80 < 191) hn) (mk_80 cA α) d rfl (by omega) (by decide) dX1_costOfLots_41 ?_
          refine lv_i2l hx hb dX1_costOfLots_42 rfl ?_
          refine lv_aload_n hx hb dX1_costOfLots_43 rfl (lv_at hl 1 rfl) ?_
          refine lv_iload hx hb dX1_costOfLots_44 (lv_at hl 3 rfl) ?_
          refine x_callSIr (q := 0) (C := RX0) (As := [.ref (α 3), .int (nI d)]) (rest := [.long ((S.1 80 d).toInt64), .long acc]) ⟨hx, hb, hml, hown, hts⟩ (ct_X1_costOf l D cA α n _ hn S d (by omega) (ho d (by omega))) (va_cwS 2 hts gX1_costOfLots_X1_costOf rfl rfl rfl (by decide +kernel) ⟨Nat.le_of_ble_eq_true rfl, Nat.le_of_ble_eq_true rfl⟩) hK hw hAw rfl hl.1 rfl (Nat.le_of_ble_eq_true rfl) dX1_costOfLots_46 ⟨Nat.zero_le _, Nat.zero_le _⟩ (fun H locs hw => ?_)
          refine lv_i2l hx hb dX1_costOfLots_49 rfl ?_
          refine lv_lmul hx hb dX1_costOfLots_50 ?_
          refine lv_ladd hx hb dX1_costOfLots_51 ?_
          refine lv_lstore_n (lv' := [(3, .long (acc + (((S.1 80 d).toInt64) * ((cCost S d).toInt64)))), (0, .ref (α 10)), (1, .ref (α 3)), (2, .int a), (5, .int (nI d))]) hx hb dX1_costOfLots_52 rfl hl (by decide) rfl (fun ls hl => ?_)
          refine lv_iinc (v := nI (d + 1)) (lv' := [(5, .int (nI (d + 1))), (3, .long (acc + (((S.1 80 d).toInt64) * ((cCost S d).toInt64)))), (0, .ref (α 10)), (1, .ref (α 3)), (2, .int a)]) hx hb dX1_costOfLots_53 hl (k := 4) rfl (nI_1 _) (by decide) rfl (fun ls hl => ?_)
          refine lv_goto (tgt := 5) hx hb dX1_costOfLots_56 (by decide) ?_
          exact ih5 (d + 1) (acc + (((S.1 80 d).toInt64) * ((cCost S d).toInt64))) _ _ _ (by omega) (by omega) (by rw [sumL, ← hk]; first | (simp only [fCst, if_pos c1, if_neg (not_not_intro c1), decide_eq_true c1, if_pos c2, if_neg (not_not_intro c2), decide_eq_true c2, if_true, if_false, eq_self, Bool.false_eq_true, not_true_eq_false, not_false_eq_true, decide_true, decide_false, Bool.and_true, Bool.true_and, Bool.and_false, Bool.false_and, Bool.not_true, Bool.not_false, Bool.or_true, Bool.true_or, Bool.or_false, Bool.false_or, reduceIte, b2i_t, b2i_f, Int64.add_zero, Int64.zero_add, Int64.sub_eq_add_neg, Int64.add_assoc]; done) | (simp [fCst, if_pos c1, if_neg (not_not_intro c1), decide_eq_true c1, if_pos c2, if_neg (not_not_intro c2), decide_eq_true c2, Int64.sub_eq_add_neg, Int64.add_assoc]; done)) hw (lv_sub hl [2, 3, 4, 0, 1] rfl)
  exact lp5 _ 0 0 _ _ _ (Nat.lt_succ_self _) (Nat.zero_le _) rfl hw (lv_sub hl [2, 3, 4, 0, 1] rfl)

set_option maxRecDepth 100000 in
set_option maxHeartbeats 1000000 in
theorem ct_X1_gapOf (l : Launch) (D : va_G) (cA : Nat → ClassId) (α : Nat → Nat) (n sz : Nat) (hn : 191 ≤ n) (S : Mem) (d : Nat) (hd : d < 100) (h : okI (S.1 49 d) 6) : CtL l yX1_gapOf wsX1_gapOf ({ frames := 0, cells := 0, slots := 0, locals := 0 }) D cA α n sz [.ref (α 10), .ref (α 3), .int (nI d)] S (cGap S d) S := by
  refine ct_enter cX1_gapOf 7 (some .long) (by decide) rfl (Nat.le_of_ble_eq_true rfl) ?_
  intro p e s m below meth c hx hb hr hml hlocks hown hts hK hsz hw ls hl
  have hown : s.vm.findClass RX1 = some m.cls := hown
  have hAw : ∀ z, Aw α n s.heap.size z → Aw α n sz z := by rw [hsz]; exact fun _ h => h
  have hl : lv_has ls 7 [(0, .ref (α 10)), (1, .ref (α 3)), (2, .int (nI d))] := hl
  refine lv_aload_n hx hb dX1_gapOf_0 rfl (lv_at hl 1 rfl) ?_
  refine x_get (v := .ref (α 44)) (C := RX0) (T := TX0) (N := 3) hx hb hts (fun _ h => List.mem_cons_of_mem _ (List.mem_append_left _ (List.mem_append_left _ (List.mem_append_right _ h)))) hown hK hw 3 (Nat.lt_of_lt_of_le (Nat.le_of_ble_eq_true rfl : 3 < 191) hn) (mk_3 cA α) rfl 1 (by decide) (hts _ (List.mem_of_getElem? (i := 1) rfl)) (fun _ h9 => h9) rfl dX1_gapOf_1 ?_
  refine x_get (v := .ref (α 49)) (C := RX7) (T := TX7) (N := 9) hx hb hts (fun _ h => List.mem_cons_of_mem _ (List.mem_append_left _ (List.mem_append_right _ h))) hown hK hw 44 (Nat.lt_of_lt_of_le (Nat.le_of_ble_eq_true rfl : 44 < 191) hn) (mk_44 cA α) rfl 4 (by decide) (hts _ (List.mem_of_getElem? (i := 2) rfl)) (fun _ h9 => h9) rfl dX1_gapOf_4 ?_
  refine lv_iload_n hx hb dX1_gapOf_7 rfl (lv_at hl 2 rfl) ?_
  refine x_iald hx hb hK hw 49 100 (Nat.lt_of_lt_of_le (Nat.le_of_ble_eq_true rfl : 49 < 191) hn) (mk_49 cA α) d rfl (by omega) (by decide) dX1_gapOf_8 ?_
  refine x_topN (k := gN (S.1 49 d)) h.1 ?_
  refine lv_istore_n (lv' := [(3, .int (nI (gN (S.1 49 d)))), (0, .ref (α 10)), (1, .ref (α 3)), (2, .int (nI d))]) hx hb dX1_gapOf_9 rfl hl (by decide) rfl (fun ls hl => ?_)
  refine lv_aload_n hx hb dX1_gapOf_10 rfl (lv_at hl 2 rfl) ?_
  refine x_get (v := .ref (α 44)) (C := RX0) (T := TX0) (N := 3) hx hb hts (fun _ h => List.mem_cons_of_mem _ (List.mem_append_left _ (List.mem_append_left _ (List.mem_append_right _ h)))) hown hK hw 3 (Nat.lt_of_lt_of_le (Nat.le_of_ble_eq_true rfl : 3 < 191) hn) (mk_3 cA α) rfl 1 (by decide) (hts _ (List.mem_of_getElem? (i := 1) rfl)) (fun _ h9 => h9) rfl dX1_gapOf_11 ?_
  refine x_get (v := .ref (α 53)) (C := RX7) (T := TX7) (N := 9) hx hb hts (fun _ h => List.mem_cons_of_mem _ (List.mem_append_left _ (List.mem_append_right _ h))) hown hK hw 44 (Nat.lt_of_lt_of_le (Nat.le_of_ble_eq_true rfl : 44 < 191) hn) (mk_44 cA α) rfl 8 (by decide) (hts _ (List.mem_of_getElem? (i := 3) rfl)) (fun _ h9 => h9) rfl dX1_gapOf_14 ?_
  refine lv_iload_n hx hb dX1_gapOf_17 rfl (lv_at hl 3 rfl) ?_
  refine x_iald hx hb hK hw 53 100 (Nat.lt_of_lt_of_le (Nat.le_of_ble_eq_true rfl : 53 < 191) hn) (mk_53 cA α) d rfl (by omega) (by decide) dX1_gapOf_18 ?_
  refine lv_istore (lv' := [(4, .int (S.1 53 d)), (3, .int (nI (gN (S.1 49 d)))), (0, .ref (α 10)), (1, .ref (α 3)), (2, .int (nI d))]) hx hb dX1_gapOf_19 hl (by decide) rfl (fun ls hl => ?_)
  refine lv_aload_n hx hb dX1_gapOf_21 rfl (lv_at hl 3 rfl) ?_
  refine x_get (v := .ref (α 44)) (C := RX0) (T := TX0) (N := 3) hx hb hts (fun _ h => List.mem_cons_of_mem _ (List.mem_append_left _ (List.mem_append_left _ (List.mem_append_right _ h)))) hown hK hw 3 (Nat.lt_of_lt_of_le (Nat.le_of_ble_eq_true rfl : 3 < 191) hn) (mk_3 cA α) rfl 1 (by decide) (hts _ (List.mem_of_getElem? (i := 1) rfl)) (fun _ h9 => h9) rfl dX1_gapOf_22 ?_
  refine x_get (v := .ref (α 52)) (C := RX7) (T := TX7) (N := 9) hx hb hts (fun _ h => List.mem_cons_of_mem _ (List.mem_append_left _ (List.mem_append_right _ h))) hown hK hw 44 (Nat.lt_of_lt_of_le (Nat.le_of_ble_eq_true rfl : 44 < 191) hn) (mk_44 cA α) rfl 7 (by decide) (hts _ (List.mem_of_getElem? (i := 4) rfl)) (fun _ h9 => h9) rfl dX1_gapOf_25 ?_
  refine lv_iload_n hx hb dX1_gapOf_28 rfl (lv_at hl 4 rfl) ?_
  refine x_iald hx hb hK hw 52 100 (Nat.lt_of_lt_of_le (Nat.le_of_ble_eq_true rfl : 52 < 191) hn) (mk_52 cA α) d rfl (by omega) (by decide) dX1_gapOf_29 ?_
  refine lv_i2l hx hb dX1_gapOf_30 rfl ?_
  refine lv_lstore (lv' := [(5, .long ((S.1 52 d).toInt64)), (4, .int (S.1 53 d)), (3, .int (nI (gN (S.1 49 d)))), (0, .ref (α 10)), (1, .ref (α 3)), (2, .int (nI d))]) hx hb dX1_gapOf_31 hl (by decide) rfl (fun ls hl => ?_)
  refine lv_iload hx hb dX1_gapOf_33 (lv_at hl 1 rfl) ?_
  refine lv_aload_n hx hb dX1_gapOf_35 rfl (lv_at hl 4 rfl) ?_
  refine x_get (v := .ref (α 23)) (C := RX0) (T := TX0) (N := 3) hx hb hts (fun _ h => List.mem_cons_of_mem _ (List.mem_append_left _ (List.mem_append_left _ (List.mem_append_right _ h)))) hown hK hw 3 (Nat.lt_of_lt_of_le (Nat.le_of_ble_eq_true rfl : 3 < 191) hn) (mk_3 cA α) rfl 0 (by decide) (hts _ (List.mem_of_getElem? (i := 5) rfl)) (fun _ h9 => h9) rfl dX1_gapOf_36 ?_
  refine x_get (v := .ref (α 28)) (C := RX2) (T := TX2) (N := 12) hx hb hts (fun _ h => List.mem_cons_of_mem _ (List.mem_append_right _ h)) hown hK hw 23 (Nat.lt_of_lt_of_le (Nat.le_of_ble_eq_true rfl : 23 < 191) hn) (mk_23 cA α) rfl 10 (by decide) (hts _ (List.mem_of_getElem? (i := 6) rfl)) (fun _ h9 => h9) rfl dX1_gapOf_39 ?_
  refine lv_iload_n hx hb dX1_gapOf_42 rfl (lv_at hl 2 rfl) ?_
  refine x_iald hx hb hK hw 28 6 (Nat.lt_of_lt_of_le (Nat.le_of_ble_eq_true rfl : 28 < 191) hn) (mk_28 cA α) (gN (S.1 49 d)) rfl h.2 (by decide) dX1_gapOf_43 ?_
  refine lv_icmp_ge (tgt := 64) hx hb dX1_gapOf_44 (by decide) (fun c1 => ?_) (fun c1 => ?_)
  · skip
    refine lv_iload hx hb dX1_gapOf_64 (lv_at hl 1 rfl) ?_
    refine lv_aload_n hx hb dX1_gapOf_66 rfl (lv_at hl 4 rfl) ?_
    refine x_get (v := .ref (α 23)) (C := RX0) (T := TX0) (N := 3) hx hb hts (fun _ h => List.mem_cons_of_mem _ (List.mem_append_left _ (List.mem_append_left _ (List.mem_append_right _ h)))) hown hK hw 3 (Nat.lt_of_lt_of_le (Nat.le_of_ble_eq_true rfl : 3 < 191) hn) (mk_3 cA α) rfl 0 (by decide) (hts _ (List.mem_of_getElem? (i := 5) rfl)) (fun _ h9 => h9) rfl dX1_gapOf_67 ?_
    refine x_get (v := .ref (α 29)) (C := RX2) (T := TX2) (N := 12) hx hb hts (fun _ h => List.mem_cons_of_mem _ (List.mem_append_right _ h)) hown hK hw 23 (Nat.lt_of_lt_of_le (Nat.le_of_ble_eq_true rfl : 23 < 191) hn) (mk_23 cA α) rfl 11 (by decide) (hts _ (List.mem_of_getElem? (i := 7) rfl)) (fun _ h9 => h9) rfl dX1_gapOf_70 ?_
    refine lv_iload_n hx hb dX1_gapOf_73 rfl (lv_at hl 2 rfl) ?_
    refine x_iald hx hb hK hw 29 6 (Nat.lt_of_lt_of_le (Nat.le_of_ble_eq_true rfl : 29 < 191) hn) (mk_29 cA α) (gN (S.1 49 d)) rfl h.2 (by decide) dX1_gapOf_74 ?_
    refine lv_icmp_le (tgt := 95) hx hb dX1_gapOf_75 (by decide) (fun c2 => ?_) (fun c2 => ?_)
    · skip
      refine lv_lconst (v := 0) hx hb dX1_gapOf_95 (by decide) ?_
      exact ret_l hx hb hr hlocks hK hw dX1_gapOf_96 (by first | (simp only [cGap, if_pos c1, if_neg (not_not_intro c1), decide_eq_true c1, if_pos c2, if_neg (not_not_intro c2), decide_eq_true c2, if_true, if_false, eq_self, Bool.false_eq_true, not_true_eq_false, not_false_eq_true, decide_true, decide_false, Bool.and_true, Bool.true_and, Bool.and_false, Bool.false_and, Bool.not_true, Bool.not_false, Bool.or_true, Bool.true_or, Bool.or_false, Bool.false_or, reduceIte, b2i_t, b2i_f]; done) | rfl | (simp [cGap, if_pos c1, if_neg (not_not_intro c1), decide_eq_true c1, if_pos c2, if_neg (not_not_intro c2), decide_eq_true c2, b2i, nI_0, nI_one]; done)) rfl
    · skip
      refine lv_lload hx hb dX1_gapOf_78 (lv_at hl 0 rfl) ?_
      refine lv_iload hx hb dX1_gapOf_80 (lv_at hl 1 rfl) ?_
      refine lv_aload_n hx hb dX1_gapOf_82 rfl (lv_at hl 4 rfl) ?_
      refine x_get (v := .ref (α 23)) (C := RX0) (T := TX0) (N := 3) hx hb hts (fun _ h => List.mem_cons_of_mem _ (List.mem_append_left _ (List.mem_append_left _ (List.mem_append_right _ h)))) hown hK hw 3 (Nat.lt_of_lt_of_le (Nat.le_of_ble_eq_true rfl : 3 < 191) hn) (mk_3 cA α) rfl 0 (by decide) (hts _ (List.mem_of_getElem? (i := 5) rfl)) (fun _ h9 => h9) rfl dX1_gapOf_83 ?_
      refine x_get (v := .ref (α 29)) (C := RX2) (T := TX2) (N := 12) hx hb hts (fun _ h => List.mem_cons_of_mem _ (List.mem_append_right _ h)) hown hK hw 23 (Nat.lt_of_lt_of_le (Nat.le_of_ble_eq_true rfl : 23 < 191) hn) (mk_23 cA α) rfl 11 (by decide) (hts _ (List.mem_of_getElem? (i := 7) rfl)) (fun _ h9 => h9) rfl dX1_gapOf_86 ?_
      refine lv_iload_n hx hb dX1_gapOf_89 rfl (lv_at hl 2 rfl) ?_
      refine x_iald hx hb hK hw 29 6 (Nat.lt_of_lt_of_le (Nat.le_of_ble_eq_true rfl : 29 < 191) hn) (mk_29 cA α) (gN (S.1 49 d)) rfl h.2 (by decide) dX1_gapOf_90 ?_
      refine lv_isub hx hb dX1_gapOf_91 ?_
      refine lv_i2l hx hb dX1_gapOf_92 rfl ?_
      refine lv_lmul hx hb dX1_gapOf_93 ?_
      exact ret_l hx hb hr hlocks hK hw dX1_gapOf_94 (by first | (simp only [cGap, if_pos c1, if_neg (not_not_intro c1), decide_eq_true c1, if_neg c2, if_pos c2, decide_eq_false c2, if_true, if_false, eq_self, Bool.false_eq_true, not_true_eq_false, not_false_eq_true, decide_true, decide_false, Bool.and_true, Bool.true_and, Bool.and_false, Bool.false_and, Bool.not_true, Bool.not_false, Bool.or_true, Bool.true_or, Bool.or_false, Bool.false_or, reduceIte, b2i_t, b2i_f]; done) | rfl | (simp [cGap, if_pos c1, if_neg (not_not_intro c1), decide_eq_true c1, if_neg c2, if_pos c2, decide_eq_false c2, b2i, nI_0, nI_one]; done)) rfl
  · skip
    refine lv_lload hx hb dX1_gapOf_47 (lv_at hl 0 rfl) ?_
    refine lv_iload hx hb dX1_gapOf_49 (lv_at hl 1 rfl) ?_
    refine lv_aload_n hx hb dX1_gapOf_51 rfl (lv_at hl 4 rfl) ?_
    refine x_get (v := .ref (α 23)) (C := RX0) (T := TX0) (N := 3) hx hb hts (fun _ h => List.mem_cons_of_mem _ (List.mem_append_left _ (List.mem_append_left _ (List.mem_append_right _ h)))) hown hK hw 3 (Nat.lt_of_lt_of_le (Nat.le_of_ble_eq_true rfl : 3 < 191) hn) (mk_3 cA α) rfl 0 (by decide) (hts _ (List.mem_of_getElem? (i := 5) rfl)) (fun _ h9 => h9) rfl dX1_gapOf_52 ?_
    refine x_get (v := .ref (α 28)) (C := RX2) (T := TX2) (N := 12) hx hb hts (fun _ h => List.mem_cons_of_mem _ (List.mem_append_right _ h)) hown hK hw 23 (Nat.lt_of_lt_of_le (Nat.le_of_ble_eq_true rfl : 23 < 191) hn) (mk_23 cA α) rfl 10 (by decide) (hts _ (List.mem_of_getElem? (i := 6) rfl)) (fun _ h9 => h9) rfl dX1_gapOf_55 ?_
    refine lv_iload_n hx hb dX1_gapOf_58 rfl (lv_at hl 2 rfl) ?_
    refine x_iald hx hb hK hw 28 6 (Nat.lt_of_lt_of_le (Nat.le_of_ble_eq_true rfl : 28 < 191) hn) (mk_28 cA α) (gN (S.1 49 d)) rfl h.2 (by decide) dX1_gapOf_59 ?_
    refine lv_isub hx hb dX1_gapOf_60 ?_
    refine lv_i2l hx hb dX1_gapOf_61 rfl ?_
    refine lv_lmul hx hb dX1_gapOf_62 ?_
    exact ret_l hx hb hr hlocks hK hw dX1_gapOf_63 (by first | (simp only [cGap, if_neg c1, if_pos c1, decide_eq_false c1, if_true, if_false, eq_self, Bool.false_eq_true, not_true_eq_false, not_false_eq_true, decide_true, decide_false, Bool.and_true, Bool.true_and, Bool.and_false, Bool.false_and, Bool.not_true, Bool.not_false, Bool.or_true, Bool.true_or, Bool.or_false, Bool.false_or, reduceIte, b2i_t, b2i_f]; done) | rfl | (simp [cGap, if_neg c1, if_pos c1, decide_eq_false c1, b2i, nI_0, nI_one]; done)) rfl

set_option maxRecDepth 100000 in
set_option maxHeartbeats 1000000 in
theorem ct_X1_netGaps (l : Launch) (D : va_G) (cA : Nat → ClassId) (α : Nat → Nat) (n sz : Nat) (hn : 191 ≤ n) (S : Mem) (a : Int32) (M : Nat) (hM : S.1 74 1 = nI M) (hM2 : M ≤ 100) (ho : ∀ d, d < M → okI (S.1 49 d) 6) : CtL l yX1_netGaps wsX1_netGaps ({ frames := 1, cells := 0, slots := 0, locals := 26 }) D cA α n sz [.ref (α 10), .ref (α 3), .int a] S (sumL (fGap S a) M) S := by
  refine ct_enter cX1_netGaps 6 (some .long) (by decide) rfl (Nat.le_of_ble_eq_true rfl) ?_
  intro p e s m below meth c hx hb hr hml hlocks hown hts hK hsz hw ls hl
  have hown : s.vm.findClass RX1 = some m.cls := hown
  have hAw : ∀ z, Aw α n s.heap.size z → Aw α n sz z := by rw [hsz]; exact fun _ h => h
  have hl : lv_has ls 6 [(0, .ref (α 10)), (1, .ref (α 3)), (2, .int a)] := hl
  refine lv_lconst (v := 0) hx hb dX1_netGaps_0 (by decide) ?_
  refine lv_lstore_n (lv' := [(3, .long 0), (0, .ref (α 10)), (1, .ref (α 3)), (2, .int a)]) hx hb dX1_netGaps_1 rfl hl (by decide) rfl (fun ls hl => ?_)
  refine lv_iconst (v := nI 0) hx hb dX1_netGaps_2 (by decide) ?_
  refine lv_istore (lv' := [(5, .int (nI 0)), (3, .long 0), (0, .ref (α 10)), (1, .ref (α 3)), (2, .int a)]) hx hb dX1_netGaps_3 hl (by decide) rfl (fun ls hl => ?_)
  have lp5 : ∀ (t : Nat) (d : Nat) (acc : Int64) (H : Heap) (locs : List Loc) (ls : Array Slot), M - d < t → d ≤ M → acc = sumL (fGap S a) d → Ws D cA α n (Aw α n sz) s.heap S H locs → lv_has ls 6 [(0, .ref (α 10)), (1, .ref (α 3)), (2, .int a), (5, .int (nI d)), (3, .long acc)] → W p l e ({ frames := 1, cells := 0, slots := 0, locals := 26 } : Room) s m (List.toArray ([.ref (α 10), .ref (α 3), .int a] : List Value)) below meth c H locs 0 0 (MQ below (va_Ql (fun r u => r = (sumL (fGap S a) M) ∧ u = S) (Pw D cA α n) (Aw α n sz)) (List.toArray ([.ref (α 10), .ref (α 3), .int a] : List Value)) s 0 0 (Aw α n sz)) (F0 m 5 ls []) := by
    intro t
    induction t with
    | zero => intro d acc H locs ls ht; exact absurd ht (Nat.not_lt_zero _)
    | succ t ih5 =>
      intro d acc H locs ls ht hj hk hw hl
      refine lv_iload hx hb dX1_netGaps_5 (lv_at hl 3 rfl) ?_
      refine lv_aload_n hx hb dX1_netGaps_7 rfl (lv_at hl 1 rfl) ?_
      refine x_get (v := .ref (α 74)) (C := RX0) (T := TX0) (N := 3) hx hb hts (fun _ h => List.mem_cons_of_mem _ (List.mem_append_left _ (List.mem_append_left _ (List.mem_append_left _ (List.mem_append_right _ h))))) hown hK hw 3 (Nat.lt_of_lt_of_le (Nat.le_of_ble_eq_true rfl : 3 < 191) hn) (mk_3 cA α) rfl 2 (by decide) (hts _ (List.mem_of_getElem? (i := 1) rfl)) (fun _ h9 => h9) rfl dX1_netGaps_8 ?_
      refine x_get (v := .int (S.1 74 1)) (C := RX9) (T := TX9) (N := 14) hx hb hts (fun _ h => List.mem_cons_of_mem _ (List.mem_append_left _ (List.mem_append_left _ (List.mem_append_right _ h)))) hown hK hw 74 (Nat.lt_of_lt_of_le (Nat.le_of_ble_eq_true rfl : 74 < 191) hn) (mk_74 cA α) rfl 1 (by decide) (hts _ (List.mem_of_getElem? (i := 2) rfl)) (fun _ h9 => h9) rfl dX1_netGaps_11 ?_
      refine x_topN (k := M) hM ?_
      refine xn_icmp_ge (tgt := 71) hx hb (by omega) (by omega) dX1_netGaps_14 (by decide) (fun c1 => ?_) (fun c1 => ?_)
      · skip
        refine lv_lload_n hx hb dX1_netGaps_71 rfl (lv_at hl 4 rfl) ?_
        exact ret_l hx hb hr hlocks hK hw dX1_netGaps_72 (by rw [hk, show d = M by omega]) rfl
      · skip
        refine lv_aload_n hx hb dX1_netGaps_17 rfl (lv_at hl 1 rfl) ?_
        refine x_get (v := .ref (α 44)) (C := RX0) (T := TX0) (N := 3) hx hb hts (fun _ h => List.mem_cons_of_mem _ (List.mem_append_left _ (List.mem_append_left _ (List.mem_append_left _ (List.mem_append_right _ h))))) hown hK hw 3 (Nat.lt_of_lt_of_le (Nat.le_of_ble_eq_true rfl : 3 < 191) hn) (mk_3 cA α) rfl 1 (by decide) (hts _ (List.mem_of_getElem? (i := 3) rfl)) (fun _ h9 => h9) rfl dX1_netGaps_18 ?_
        refine x_get (v := .ref (α 50)) (C := RX7) (T := TX7) (N := 9) hx hb hts (fun _ h => List.mem_cons_of_mem _ (List.mem_append_left _ (List.mem_append_right _ h))) hown hK hw 44 (Nat.lt_of_lt_of_le (Nat.le_of_ble_eq_true rfl : 44 < 191) hn) (mk_44 cA α) rfl 5 (by decide) (hts _ (List.mem_of_getElem? (i := 4) rfl)) (fun _ h9 => h9) rfl dX1_netGaps_21 ?_
        refine lv_iload hx hb dX1_netGaps_24 (lv_at hl 3 rfl) ?_
        refine x_iald hx hb hK hw 50 100 (Nat.lt_of_lt_of_le (Nat.le_of_ble_eq_true rfl : 50 < 191) hn) (mk_50 cA α) d rfl (by omega) (by decide) dX1_netGaps_26 ?_
        refine lv_iload_n hx hb dX1_netGaps_27 rfl (lv_at hl 2 rfl) ?_
        refine lv_icmp_ne (tgt := 41) hx hb dX1_netGaps_28 (by decide) (fun c2 => ?_) (fun c2 => ?_)
        · skip
          refine lv_aload_n hx hb dX1_netGaps_41 rfl (lv_at hl 1 rfl) ?_
          refine x_get (v := .ref (α 44)) (C := RX0) (T := TX0) (N := 3) hx hb hts (fun _ h => List.mem_cons_of_mem _ (List.mem_append_left _ (List.mem_append_left _ (List.mem_append_left _ (List.mem_append_right _ h))))) hown hK hw 3 (Nat.lt_of_lt_of_le (Nat.le_of_ble_eq_true rfl : 3 < 191) hn) (mk_3 cA α) rfl 1 (by decide) (hts _ (List.mem_of_getElem? (i := 3) rfl)) (fun _ h9 => h9) rfl dX1_netGaps_42 ?_
          refine x_get (v := .ref (α 51)) (C := RX7) (T := TX7) (N := 9) hx hb hts (fun _ h => List.mem_cons_of_mem _ (List.mem_append_left _ (List.mem_append_right _ h))) hown hK hw 44 (Nat.lt_of_lt_of_le (Nat.le_of_ble_eq_true rfl : 44 < 191) hn) (mk_44 cA α) rfl 6 (by decide) (hts _ (List.mem_of_getElem? (i := 5) rfl)) (fun _ h9 => h9) rfl dX1_netGaps_45 ?_
          refine lv_iload hx hb dX1_netGaps_48 (lv_at hl 3 rfl) ?_
          refine x_iald hx hb hK hw 51 100 (Nat.lt_of_lt_of_le (Nat.le_of_ble_eq_true rfl : 51 < 191) hn) (mk_51 cA α) d rfl (by omega) (by decide) dX1_netGaps_50 ?_
          refine lv_iload_n hx hb dX1_netGaps_51 rfl (lv_at hl 2 rfl) ?_
          refine lv_icmp_ne (tgt := 65) hx hb dX1_netGaps_52 (by decide) (fun c3 => ?_) (fun c3 => ?_)
          · skip
            refine lv_iinc (v := nI (d + 1)) (lv' := [(5, .int (nI (d + 1))), (0, .ref (α 10)), (1, .ref (α 3)), (2, .int a), (3, .long acc)]) hx hb dX1_netGaps_65 hl (k := 3) rfl (nI_1 _) (by decide) rfl (fun ls hl => ?_)
            refine lv_goto (tgt := 5) hx hb dX1_netGaps_68 (by decide) ?_
            exact ih5 (d + 1) acc _ _ _ (by omega) (by omega) (by rw [sumL, ← hk]; first | (simp only [fGap, if_pos c1, if_neg (not_not_intro c1), decide_eq_true c1, if_neg c2, if_pos c2, decide_eq_false c2, if_neg c3, if_pos c3, decide_eq_false c3, if_true, if_false, eq_self, Bool.false_eq_true, not_true_eq_false, not_false_eq_true, decide_true, decide_false, Bool.and_true, Bool.true_and, Bool.and_false, Bool.false_and, Bool.not_true, Bool.not_false, Bool.or_true, Bool.true_or, Bool.or_false, Bool.false_or, reduceIte, b2i_t, b2i_f, Int64.add_zero, Int64.zero_add, Int64.sub_eq_add_neg, Int64.add_assoc]; done) | (simp [fGap, if_pos c1, if_neg (not_not_intro c1), decide_eq_true c1, if_neg c2, if_pos c2, decide_eq_false c2, if_neg c3, if_pos c3, decide_eq_false c3, Int64.sub_eq_add_neg, Int64.add_assoc]; done)) hw (lv_sub hl [1, 2, 3, 0, 4] rfl)
          · skip
            refine lv_lload_n hx hb dX1_netGaps_55 rfl (lv_at hl 4 rfl) ?_
            refine lv_aload_n hx hb dX1_netGaps_56 rfl (lv_at hl 0 rfl) ?_
            refine lv_aload_n hx hb dX1_netGaps_57 rfl (lv_at hl 1 rfl) ?_
            refine lv_iload hx hb dX1_netGaps_58 (lv_at hl 3 rfl) ?_
            refine x_callVLr (q := 10) (C := RX1) (As := [.ref (α 3), .int (nI d)]) (rest := [.long acc]) ⟨hx, hb, hml, hown, hts⟩ (ct_X1_gapOf l D cA α n _ hn S d (by omega) (ho d (by omega))) (cwV 2 hts gX1_netGaps_X1_gapOf rfl rfl rfl (by decide +kernel) ⟨Nat.le_of_ble_eq_true rfl, Nat.le_of_ble_eq_true rfl⟩) hK hw hAw (ws_recv hK hw (q := 10) (Nat.lt_of_lt_of_le (Nat.le_of_ble_eq_true rfl : 10 < 191) hn) (mk_10 cA α) rfl) rfl hl.1 rfl (Nat.le_of_ble_eq_true rfl) dX1_netGaps_60 ⟨Nat.zero_le _, Nat.zero_le _⟩ (fun H locs hw => ?_)
            refine lv_lsub hx hb dX1_netGaps_63 ?_
            refine lv_lstore_n (lv' := [(3, .long (acc - (cGap S d))), (0, .ref (α 10)), (1, .ref (α 3)), (2, .int a), (5, .int (nI d))]) hx hb dX1_netGaps_64 rfl hl (by decide) rfl (fun ls hl => ?_)
            refine lv_iinc (v := nI (d + 1)) (lv' := [(5, .int (nI (d + 1))), (3, .long (acc - (cGap S d))), (0, .ref (α 10)), (1, .ref (α 3)), (2, .int a)]) hx hb dX1_netGaps_65 hl (k := 4) rfl (nI_1 _) (by decide) rfl (fun ls hl => ?_)
            refine lv_goto (tgt := 5) hx hb dX1_netGaps_68 (by decide) ?_
            exact ih5 (d + 1) (acc - (cGap S d)) _ _ _ (by omega) (by omega) (by rw [sumL, ← hk]; first | (simp only [fGap, if_pos c1, if_neg (not_not_intro c1), decide_eq_true c1, if_neg c2, if_pos c2, decide_eq_false c2, if_pos c3, if_neg (not_not_intro c3), decide_eq_true c3, if_true, if_false, eq_self, Bool.false_eq_true, not_true_eq_false, not_false_eq_true, decide_true, decide_false, Bool.and_true, Bool.true_and, Bool.and_false, Bool.false_and, Bool.not_true, Bool.not_false, Bool.or_true, Bool.true_or, Bool.or_false, Bool.false_or, reduceIte, b2i_t, b2i_f, Int64.add_zero, Int64.zero_add, Int64.sub_eq_add_neg, Int64.add_assoc]; done) | (simp [fGap, if_pos c1, if_neg (not_not_intro c1), decide_eq_true c1, if_neg c2, if_pos c2, decide_eq_false c2, if_pos c3, if_neg (not_not_intro c3), decide_eq_true c3, Int64.sub_eq_add_neg, Int64.add_assoc]; done)) hw (lv_sub hl [2, 3, 4, 0, 1] rfl)
        · skip
          refine lv_lload_n hx hb dX1_netGaps_31 rfl (lv_at hl 4 rfl) ?_
          refine lv_aload_n hx hb dX1_netGaps_32 rfl (lv_at hl 0 rfl) ?_
          refine lv_aload_n hx hb dX1_netGaps_33 rfl (lv_at hl 1 rfl) ?_
          refine lv_iload hx hb dX1_netGaps_34 (lv_at hl 3 rfl) ?_
          refine x_callVLr (q := 10) (C := RX1) (As := [.ref (α 3), .int (nI d)]) (rest := [.long acc]) ⟨hx, hb, hml, hown, hts⟩ (ct_X1_gapOf l D cA α n _ hn S d (by omega) (ho d (by omega))) (cwV 2 hts gX1_netGaps_X1_gapOf rfl rfl rfl (by decide +kernel) ⟨Nat.le_of_ble_eq_true rfl, Nat.le_of_ble_eq_true rfl⟩) hK hw hAw (ws_recv hK hw (q := 10) (Nat.lt_of_lt_of_le (Nat.le_of_ble_eq_true rfl : 10 < 191) hn) (mk_10 cA α) rfl) rfl hl.1 rfl (Nat.le_of_ble_eq_true rfl) dX1_netGaps_36 ⟨Nat.zero_le _, Nat.zero_le _⟩ (fun H locs hw => ?_)
          refine lv_ladd hx hb dX1_netGaps_39 ?_
          refine lv_lstore_n (lv' := [(3, .long (acc + (cGap S d))), (0, .ref (α 10)), (1, .ref (α 3)), (2, .int a), (5, .int (nI d))]) hx hb dX1_netGaps_40 rfl hl (by decide) rfl (fun ls hl => ?_)
          refine lv_aload_n hx hb dX1_netGaps_41 rfl (lv_at hl 2 rfl) ?_
          refine x_get (v := .ref (α 44)) (C := RX0) (T := TX0) (N := 3) hx hb hts (fun _ h => List.mem_cons_of_mem _ (List.mem_append_left _ (List.mem_append_left _ (List.mem_append_left _ (List.mem_append_right _ h))))) hown hK hw 3 (Nat.lt_of_lt_of_le (Nat.le_of_ble_eq_true rfl : 3 < 191) hn) (mk_3 cA α) rfl 1 (by decide) (hts _ (List.mem_of_getElem? (i := 3) rfl)) (fun _ h9 => h9) rfl dX1_netGaps_42 ?_
          refine x_get (v := .ref (α 51)) (C := RX7) (T := TX7) (N := 9) hx hb hts (fun _ h => List.mem_cons_of_mem _ (List.mem_append_left _ (List.mem_append_right _ h))) hown hK hw 44 (Nat.lt_of_lt_of_le (Nat.le_of_ble_eq_true rfl : 44 < 191) hn) (mk_44 cA α) rfl 6 (by decide) (hts _ (List.mem_of_getElem? (i := 5) rfl)) (fun _ h9 => h9) rfl dX1_netGaps_45 ?_
          refine lv_iload hx hb dX1_netGaps_48 (lv_at hl 4 rfl) ?_
          refine x_iald hx hb hK hw 51 100 (Nat.lt_of_lt_of_le (Nat.le_of_ble_eq_true rfl : 51 < 191) hn) (mk_51 cA α) d rfl (by omega) (by decide) dX1_netGaps_50 ?_
          refine lv_iload_n hx hb dX1_netGaps_51 rfl (lv_at hl 3 rfl) ?_
          refine lv_icmp_ne (tgt := 65) hx hb dX1_netGaps_52 (by decide) (fun c4 => ?_) (fun c4 => ?_)
          · skip
            refine lv_iinc (v := nI (d + 1)) (lv' := [(5, .int (nI (d + 1))), (3, .long (acc + (cGap S d))), (0, .ref (α 10)), (1, .ref (α 3)), (2, .int a)]) hx hb dX1_netGaps_65 hl (k := 4) rfl (nI_1 _) (by decide) rfl (fun ls hl => ?_)
            refine lv_goto (tgt := 5) hx hb dX1_netGaps_68 (by decide) ?_
            exact ih5 (d + 1) (acc + (cGap S d)) _ _ _ (by omega) (by omega) (by rw [sumL, ← hk]; first | (simp only [fGap, if_pos c1, if_neg (not_not_intro c1), decide_eq_true c1, if_pos c2, if_neg (not_not_intro c2), decide_eq_true c2, if_neg c4, if_pos c4, decide_eq_false c4, if_true, if_false, eq_self, Bool.false_eq_true, not_true_eq_false, not_false_eq_true, decide_true, decide_false, Bool.and_true, Bool.true_and, Bool.and_false, Bool.false_and, Bool.not_true, Bool.not_false, Bool.or_true, Bool.true_or, Bool.or_false, Bool.false_or, reduceIte, b2i_t, b2i_f, Int64.add_zero, Int64.zero_add, Int64.sub_eq_add_neg, Int64.add_assoc]; done) | (simp [fGap, if_pos c1, if_neg (not_not_intro c1), decide_eq_true c1, if_pos c2, if_neg (not_not_intro c2), decide_eq_true c2, if_neg c4, if_pos c4, decide_eq_false c4, Int64.sub_eq_add_neg, Int64.add_assoc]; done)) hw (lv_sub hl [2, 3, 4, 0, 1] rfl)
          · skip
            refine lv_lload_n hx hb dX1_netGaps_55 rfl (lv_at hl 0 rfl) ?_
            refine lv_aload_n hx hb dX1_netGaps_56 rfl (lv_at hl 1 rfl) ?_
            refine lv_aload_n hx hb dX1_netGaps_57 rfl (lv_at hl 2 rfl) ?_
            refine lv_iload hx hb dX1_netGaps_58 (lv_at hl 4 rfl) ?_
            refine x_callVLr (q := 10) (C := RX1) (As := [.ref (α 3), .int (nI d)]) (rest := [.long (acc + (cGap S d))]) ⟨hx, hb, hml, hown, hts⟩ (ct_X1_gapOf l D cA α n _ hn S d (by omega) (ho d (by omega))) (cwV 2 hts gX1_netGaps_X1_gapOf rfl rfl rfl (by decide +kernel) ⟨Nat.le_of_ble_eq_true rfl, Nat.le_of_ble_eq_true rfl⟩) hK hw hAw (ws_recv hK hw (q := 10) (Nat.lt_of_lt_of_le (Nat.le_of_ble_eq_true rfl : 10 < 191) hn) (mk_10 cA α) rfl) rfl hl.1 rfl (Nat.le_of_ble_eq_true rfl) dX1_netGaps_60 ⟨Nat.zero_le _, Nat.zero_le _⟩ (fun H locs hw => ?_)
            refine lv_lsub hx hb dX1_netGaps_63 ?_
            refine lv_lstore_n (lv' := [(3, .long ((acc + (cGap S d)) - (cGap S d))), (0, .ref (α 10)), (1, .ref (α 3)), (2, .int a), (5, .int (nI d))]) hx hb dX1_netGaps_64 rfl hl (by decide) rfl (fun ls hl => ?_)
            refine lv_iinc (v := nI (d + 1)) (lv' := [(5, .int (nI (d + 1))), (3, .long ((acc + (cGap S d)) - (cGap S d))), (0, .ref (α 10)), (1, .ref (α 3)), (2, .int a)]) hx hb dX1_netGaps_65 hl (k := 4) rfl (nI_1 _) (by decide) rfl (fun ls hl => ?_)
            refine lv_goto (tgt := 5) hx hb dX1_netGaps_68 (by decide) ?_
            exact ih5 (d + 1) ((acc + (cGap S d)) - (cGap S d)) _ _ _ (by omega) (by omega) (by rw [sumL, ← hk]; first | (simp only [fGap, if_pos c1, if_neg (not_not_intro c1), decide_eq_true c1, if_pos c2, if_neg (not_not_intro c2), decide_eq_true c2, if_pos c4, if_neg (not_not_intro c4), decide_eq_true c4, if_true, if_false, eq_self, Bool.false_eq_true, not_true_eq_false, not_false_eq_true, decide_true, decide_false, Bool.and_true, Bool.true_and, Bool.and_false, Bool.false_and, Bool.not_true, Bool.not_false, Bool.or_true, Bool.true_or, Bool.or_false, Bool.false_or, reduceIte, b2i_t, b2i_f, Int64.add_zero, Int64.zero_add, Int64.sub_eq_add_neg, Int64.add_assoc]; done) | (simp [fGap, if_pos c1, if_neg (not_not_intro c1), decide_eq_true c1, if_pos c2, if_neg (not_not_intro c2), decide_eq_true c2, if_pos c4, if_neg (not_not_intro c4), decide_eq_true c4, Int64.sub_eq_add_neg, Int64.add_assoc]; done)) hw (lv_sub hl [2, 3, 4, 0, 1] rfl)
  exact lp5 _ 0 0 _ _ _ (Nat.lt_succ_self _) (Nat.zero_le _) rfl hw (lv_sub hl [2, 3, 4, 0, 1] rfl)

/-- what is left of the lots when q pieces are taken: the world and what is still missing, behind d deliveries -/
def cTk (S : Mem) (a b q : Int32) : Nat → Mem × Int32
  | 0 => (S, q)
  | d + 1 => if cLot (cTk S a b q d).1 d a b then (setI (cTk S a b q d).1 80 d ((cTk S a b q d).1.1 80 d - mnI (cTk S a b q d).2 ((cTk S a b q d).1.1 80 d)), (cTk S a b q d).2 - mnI (cTk S a b q d).2 ((cTk S a b q d).1.1 80 d)) else cTk S a b q d
theorem cTk_k (S : Mem) (a b q : Int32) {z : Nat} (hz : z ≠ 80) : ∀ d, (cTk S a b q d).1.1 z = S.1 z
  | 0 => rfl
  | d + 1 => by
    rw [cTk]
    split
    · rw [sI_1 hz]; exact cTk_k S a b q hz d
    · exact cTk_k S a b q hz d
theorem cTk_2 (S : Mem) (a b q : Int32) : ∀ d, (cTk S a b q d).1.2 = S.2
  | 0 => rfl
  | d + 1 => by
    rw [cTk]
    split
    · rw [sI_2]; exact cTk_2 S a b q d
    · exact cTk_2 S a b q d
/-- the profit of the lots of a behind d deliveries, q pieces of b taken: what is missing, the profit -/
def cPA (S : Mem) (a b q : Int32) : Nat → Int32 × Int64
  | 0 => (q, 0)
  | d + 1 => if S.1 51 d = a then (if S.1 49 d = b then ((cPA S a b q d).1 - mnI (cPA S a b q d).1 (S.1 80 d), (cPA S a b q d).2 + cOn S d (S.1 80 d - mnI (cPA S a b q d).1 (S.1 80 d))) else ((cPA S a b q d).1, (cPA S a b q d).2 + cOn S d (S.1 80 d))) else cPA S a b q d

set_option maxRecDepth 100000 in
set_option maxHeartbeats 1000000 in
theorem ct_X1_take (l : Launch) (D : va_G) (cA : Nat → ClassId) (α : Nat → Nat) (n sz : Nat) (hn : 191 ≤ n) (S : Mem) (a b q : Int32) (M : Nat) (hM : S.1 74 1 = nI M) (hM2 : M ≤ 100) : CtV l yX1_take wsX1_take ({ frames := 1, cells := 0, slots := 0, locals := 60 }) D cA α n sz [.ref (α 10), .ref (α 3), .int a, .int b, .int q] S ((cTk S a b q M).1) := by
  refine ct_enter cX1_take 8 none (by decide) rfl (Nat.le_of_ble_eq_true rfl) ?_
  intro p e s m below meth c hx hb hr hml hlocks hown hts hK hsz hw ls hl
  have hown : s.vm.findClass RX1 = some m.cls := hown
  have hAw : ∀ z, Aw α n s.heap.size z → Aw α n sz z := by rw [hsz]; exact fun _ h => h
  have hl : lv_has ls 8 [(0, .ref (α 10)), (1, .ref (α 3)), (2, .int a), (3, .int b), (4, .int q)] := hl
  refine lv_iload hx hb dX1_take_0 (lv_at hl 4 rfl) ?_
  refine lv_istore (lv' := [(5, .int q), (0, .ref (α 10)), (1, .ref (α 3)), (2, .int a), (3, .int b), (4, .int q)]) hx hb dX1_take_2 hl (by decide) rfl (fun ls hl => ?_)
  refine lv_iconst (v := nI 0) hx hb dX1_take_4 (by decide) ?_
  refine lv_istore (lv' := [(6, .int (nI 0)), (5, .int q), (0, .ref (α 10)), (1, .ref (α 3)), (2, .int a), (3, .int b), (4, .int q)]) hx hb dX1_take_5 hl (by decide) rfl (fun ls hl => ?_)
  have lp7 : ∀ (t : Nat) (d : Nat) (ms : Int32) (T : Mem) (H : Heap) (locs : List Loc) (ls : Array Slot), M - d < t → d ≤ M → ms = (cTk S a b q d).2 → T = (cTk S a b q d).1 → Ws D cA α n (Aw α n sz) s.heap T H locs → lv_has ls 8 [(0, .ref (α 10)), (1, .ref (α 3)), (2, .int a), (3, .int b), (6, .int (nI d)), (5, .int ms)] → W p l e ({ frames := 1, cells := 0, slots := 0, locals := 60 } : Room) s m (List.toArray ([.ref (α 10), .ref (α 3), .int a, .int b, .int q] : List Value)) below meth c H locs 0 0 (MQ below (va_Qv (fun u => u = ((cTk S a b q M).1)) (Pw D cA α n) (Aw α n sz)) (List.toArray ([.ref (α 10), .ref (α 3), .int a, .int b, .int q] : List Value)) s 0 0 (Aw α n sz)) (F0 m 7 ls []) := by
    intro t
    induction t with
    | zero => intro d ms T H locs ls ht; exact absurd ht (Nat.not_lt_zero _)
    | succ t ih7 =>
      intro d ms T H locs ls ht hj hm hS9 hw hl
      refine lv_iload hx hb dX1_take_7 (lv_at hl 4 rfl) ?_
      refine lv_aload_n hx hb dX1_take_9 rfl (lv_at hl 1 rfl) ?_
      refine x_get (v := .ref (α 74)) (C := RX0) (T := TX0) (N := 3) hx hb hts (fun _ h => List.mem_cons_of_mem _ (List.mem_append_left _ (List.mem_append_left _ (List.mem_append_right _ h)))) hown hK hw 3 (Nat.lt_of_lt_of_le (Nat.le_of_ble_eq_true rfl : 3 < 191) hn) (mk_3 cA α) rfl 2 (by decide) (hts _ (List.mem_of_getElem? (i := 1) rfl)) (fun _ h9 => h9) rfl dX1_take_10 ?_
      refine x_get (v := .int (T.1 74 1)) (C := RX9) (T := TX9) (N := 14) hx hb hts (fun _ h => List.mem_cons_of_mem _ (List.mem_append_left _ (List.mem_append_right _ h))) hown hK hw 74 (Nat.lt_of_lt_of_le (Nat.le_of_ble_eq_true rfl : 74 < 191) hn) (mk_74 cA α) rfl 1 (by decide) (hts _ (List.mem_of_getElem? (i := 2) rfl)) (fun _ h9 => h9) rfl dX1_take_13 ?_
      refine x_topN (k := M) (by rw [hS9]; exact (congrFun (cTk_k S a b q (by decide) d) 1).trans hM) ?_
      refine xn_icmp_ge (tgt := 75) hx hb (by omega) (by omega) dX1_take_16 (by decide) (fun c1 => ?_) (fun c1 => ?_)
      · skip
        exact ret_v hx hb hr hlocks hK hw dX1_take_75 (by rw [hS9, show d = M by omega])
      · skip
        refine lv_aload_n hx hb dX1_take_19 rfl (lv_at hl 1 rfl) ?_
        refine lv_iload hx hb dX1_take_20 (lv_at hl 4 rfl) ?_
        refine lv_iload_n hx hb dX1_take_22 rfl (lv_at hl 2 rfl) ?_
        refine lv_iload_n hx hb dX1_take_23 rfl (lv_at hl 3 rfl) ?_
        refine x_callSIr (q := 0) (C := RX0) (As := [.ref (α 3), .int (nI d), .int a, .int b]) (rest := []) ⟨hx, hb, hml, hown, hts⟩ (ct_X1_isLot l D cA α n _ hn T d a b (by omega)) (va_cwS 4 hts gX1_take_X1_isLot rfl rfl rfl (by decide +kernel) ⟨Nat.le_of_ble_eq_true rfl, Nat.le_of_ble_eq_true rfl⟩) hK hw hAw rfl hl.1 rfl (Nat.le_of_ble_eq_true rfl) dX1_take_24 ⟨Nat.zero_le _, Nat.zero_le _⟩ (fun H locs hw => ?_)
        refine xb_eq (b := (cLot T d a b)) (tgt := 69) hx hb dX1_take_27 (by decide) (fun c2 => ?_) (fun c2 => ?_)
        · skip
          refine lv_iinc (v := nI (d + 1)) (lv' := [(6, .int (nI (d + 1))), (0, .ref (α 10)), (1, .ref (α 3)), (2, .int a), (3, .int b), (5, .int ms)]) hx hb dX1_take_69 hl (k := 4) rfl (nI_1 _) (by decide) rfl (fun ls hl => ?_)
          refine lv_goto (tgt := 7) hx hb dX1_take_72 (by decide) ?_
          exact ih7 (d + 1) ms T _ _ _ (by omega) (by omega) (by rw [cTk]; subst_vars; simp only [if_pos c1, if_neg (not_not_intro c1), decide_eq_true c1, c2, if_true, if_false, eq_self, Bool.false_eq_true, not_true_eq_false, not_false_eq_true, decide_true, decide_false, Bool.and_true, Bool.true_and, Bool.and_false, Bool.false_and, Bool.not_true, Bool.not_false, Bool.or_true, Bool.true_or, Bool.or_false, Bool.false_or, reduceIte, b2i_t, b2i_f]) (by rw [cTk]; subst_vars; simp only [if_pos c1, if_neg (not_not_intro c1), decide_eq_true c1, c2, if_true, if_false, eq_self, Bool.false_eq_true, not_true_eq_false, not_false_eq_true, decide_true, decide_false, Bool.and_true, Bool.true_and, Bool.and_false, Bool.false_and, Bool.not_true, Bool.not_false, Bool.or_true, Bool.true_or, Bool.or_false, Bool.false_or, reduceIte, b2i_t, b2i_f]) hw (lv_sub hl [1, 2, 3, 4, 0, 5] rfl)
        · skip
          refine lv_iload hx hb dX1_take_30 (lv_at hl 5 rfl) ?_
          refine lv_aload_n hx hb dX1_take_32 rfl (lv_at hl 1 rfl) ?_
          refine x_get (v := .ref (α 74)) (C := RX0) (T := TX0) (N := 3) hx hb hts (fun _ h => List.mem_cons_of_mem _ (List.mem_append_left _ (List.mem_append_left _ (List.mem_append_right _ h)))) hown hK hw 3 (Nat.lt_of_lt_of_le (Nat.le_of_ble_eq_true rfl : 3 < 191) hn) (mk_3 cA α) rfl 2 (by decide) (hts _ (List.mem_of_getElem? (i := 1) rfl)) (fun _ h9 => h9) rfl dX1_take_33 ?_
          refine x_get (v := .ref (α 80)) (C := RX9) (T := TX9) (N := 14) hx hb hts (fun _ h => List.mem_cons_of_mem _ (List.mem_append_left _ (List.mem_append_right _ h))) hown hK hw 74 (Nat.lt_of_lt_of_le (Nat.le_of_ble_eq_true rfl : 74 < 191) hn) (mk_74 cA α) rfl 11 (by decide) (hts _ (List.mem_of_getElem? (i := 3) rfl)) (fun _ h9 => h9) rfl dX1_take_36 ?_
          refine lv_iload hx hb dX1_take_39 (lv_at hl 4 rfl) ?_
          refine x_iald hx hb hK hw 80 100 (Nat.lt_of_lt_of_le (Nat.le_of_ble_eq_true rfl : 80 < 191) hn) (mk_80 cA α) d rfl (by omega) (by decide) dX1_take_41 ?_
          refine va_mmin hx hb (hml.trans hl.1.symm) hown (hts _ (List.mem_of_getElem? (i := 4) rfl)) (hts _ (List.mem_of_getElem? (i := 5) rfl)) (hts _ (List.mem_of_getElem? (i := 6) rfl)) (hts _ (List.mem_of_getElem? (i := 7) rfl)) (by decide) (Nat.le_of_ble_eq_true rfl) (Nat.zero_le _) (Nat.zero_le _) dX1_take_42 ?_
          refine lv_istore (lv' := [(7, .int (mnI ms (T.1 80 d))), (0, .ref (α 10)), (1, .ref (α 3)), (2, .int a), (3, .int b), (6, .int (nI d)), (5, .int ms)]) hx hb dX1_take_45 hl (by decide) rfl (fun ls hl => ?_)
          refine lv_aload_n hx hb dX1_take_47 rfl (lv_at hl 2 rfl) ?_
          refine x_get (v := .ref (α 74)) (C := RX0) (T := TX0) (N := 3) hx hb hts (fun _ h => List.mem_cons_of_mem _ (List.mem_append_left _ (List.mem_append_left _ (List.mem_append_right _ h)))) hown hK hw 3 (Nat.lt_of_lt_of_le (Nat.le_of_ble_eq_true rfl : 3 < 191) hn) (mk_3 cA α) rfl 2 (by decide) (hts _ (List.mem_of_getElem? (i := 1) rfl)) (fun _ h9 => h9) rfl dX1_take_48 ?_
          refine x_get (v := .ref (α 80)) (C := RX9) (T := TX9) (N := 14) hx hb hts (fun _ h => List.mem_cons_of_mem _ (List.mem_append_left _ (List.mem_append_right _ h))) hown hK hw 74 (Nat.lt_of_lt_of_le (Nat.le_of_ble_eq_true rfl : 74 < 191) hn) (mk_74 cA α) rfl 11 (by decide) (hts _ (List.mem_of_getElem? (i := 3) rfl)) (fun _ h9 => h9) rfl dX1_take_51 ?_
          refine lv_iload hx hb dX1_take_54 (lv_at hl 5 rfl) ?_
          refine lv_dup2_11 hx hb dX1_take_56 rfl rfl ?_
          refine x_iald hx hb hK hw 80 100 (Nat.lt_of_lt_of_le (Nat.le_of_ble_eq_true rfl : 80 < 191) hn) (mk_80 cA α) d rfl (by omega) (by decide) dX1_take_57 ?_
          refine lv_iload hx hb dX1_take_58 (lv_at hl 0 rfl) ?_
          refine lv_isub hx hb dX1_take_60 ?_
          refine x_iast (x := (T.1 80 d) - (mnI ms (T.1 80 d))) hx hb hK hw 80 100 (Nat.lt_of_lt_of_le (Nat.le_of_ble_eq_true rfl : 80 < 191) hn) (mk_80 cA α) d rfl (by omega) (by decide) dX1_take_61 (fun S1 eS1 H locs hw => ?_)
          refine lv_iload hx hb dX1_take_62 (lv_at hl 6 rfl) ?_
          refine lv_iload hx hb dX1_take_64 (lv_at hl 0 rfl) ?_
          refine lv_isub hx hb dX1_take_66 ?_
          refine lv_istore (lv' := [(5, .int (ms - (mnI ms (T.1 80 d)))), (7, .int (mnI ms (T.1 80 d))), (0, .ref (α 10)), (1, .ref (α 3)), (2, .int a), (3, .int b), (6, .int (nI d))]) hx hb dX1_take_67 hl (by decide) rfl (fun ls hl => ?_)
          refine lv_iinc (v := nI (d + 1)) (lv' := [(6, .int (nI (d + 1))), (5, .int (ms - (mnI ms (T.1 80 d)))), (7, .int (mnI ms (T.1 80 d))), (0, .ref (α 10)), (1, .ref (α 3)), (2, .int a), (3, .int b)]) hx hb dX1_take_69 hl (k := 6) rfl (nI_1 _) (by decide) rfl (fun ls hl => ?_)
          refine lv_goto (tgt := 7) hx hb dX1_take_72 (by decide) ?_
          exact ih7 (d + 1) (ms - (mnI ms (T.1 80 d))) S1 _ _ _ (by omega) (by omega) (by rw [cTk]; subst_vars; simp only [if_pos c1, if_neg (not_not_intro c1), decide_eq_true c1, c2, if_true, if_false, eq_self, Bool.false_eq_true, not_true_eq_false, not_false_eq_true, decide_true, decide_false, Bool.and_true, Bool.true_and, Bool.and_false, Bool.false_and, Bool.not_true, Bool.not_false, Bool.or_true, Bool.true_or, Bool.or_false, Bool.false_or, reduceIte, b2i_t, b2i_f]) (by rw [cTk]; subst_vars; simp only [if_pos c1, if_neg (not_not_intro c1), decide_eq_true c1, c2, if_true, if_false, eq_self, Bool.false_eq_true, not_true_eq_false, not_false_eq_true, decide_true, decide_false, Bool.and_true, Bool.true_and, Bool.and_false, Bool.false_and, Bool.not_true, Bool.not_false, Bool.or_true, Bool.true_or, Bool.or_false, Bool.false_or, reduceIte, b2i_t, b2i_f]) hw (lv_sub hl [3, 4, 5, 6, 0, 1] rfl)
  exact lp7 _ 0 q S _ _ _ (Nat.lt_succ_self _) (Nat.zero_le _) rfl rfl hw (lv_sub hl [2, 3, 4, 5, 0, 1] rfl)

set_option maxRecDepth 100000 in
set_option maxHeartbeats 1000000 in
theorem ct_X1_profitAfter (l : Launch) (D : va_G) (cA : Nat → ClassId) (α : Nat → Nat) (n sz : Nat) (hn : 191 ≤ n) (S : Mem) (a b q : Int32) (M : Nat) (hM : S.1 74 1 = nI M) (hM2 : M ≤ 100) (ho : ∀ d, d < M → okI (S.1 49 d) 6) : CtL l yX1_profitAfter wsX1_profitAfter ({ frames := 2, cells := 0, slots := 0, locals := 60 }) D cA α n sz [.ref (α 10), .ref (α 3), .int a, .int b, .int q] S ((cPA S a b q M).2) S := by
  refine ct_enter cX1_profitAfter 11 (some .long) (by decide) rfl (Nat.le_of_ble_eq_true rfl) ?_
  intro p e s m below meth c hx hb hr hml hlocks hown hts hK hsz hw ls hl
  have hown : s.vm.findClass RX1 = some m.cls := hown
  have hAw : ∀ z, Aw α n s.heap.size z → Aw α n sz z := by rw [hsz]; exact fun _ h => h
  have hl : lv_has ls 11 [(0, .ref (α 10)), (1, .ref (α 3)), (2, .int a), (3, .int b), (4, .int q)] := hl
  refine lv_iload hx hb dX1_profitAfter_0 (lv_at hl 4 rfl) ?_
  refine lv_istore (lv' := [(5, .int q), (0, .ref (α 10)), (1, .ref (α 3)), (2, .int a), (3, .int b), (4, .int q)]) hx hb dX1_profitAfter_2 hl (by decide) rfl (fun ls hl => ?_)
  refine lv_lconst (v := 0) hx hb dX1_profitAfter_4 (by decide) ?_
  refine lv_lstore (lv' := [(6, .long 0), (5, .int q), (0, .ref (α 10)), (1, .ref (α 3)), (2, .int a), (3, .int b), (4, .int q)]) hx hb dX1_profitAfter_5 hl (by decide) rfl (fun ls hl => ?_)
  refine lv_iconst (v := nI 0) hx hb dX1_profitAfter_7 (by decide) ?_
  refine lv_istore (lv' := [(8, .int (nI 0)), (6, .long 0), (5, .int q), (0, .ref (α 10)), (1, .ref (α 3)), (2, .int a), (3, .int b), (4, .int q)]) hx hb dX1_profitAfter_8 hl (by decide) rfl (fun ls hl => ?_)
  have lp10 : ∀ (t : Nat) (d : Nat) (ms : Int32) (acc : Int64) (H : Heap) (locs : List Loc) (ls : Array Slot), M - d < t → d ≤ M → ms = (cPA S a b q d).1 → acc = (cPA S a b q d).2 → Ws D cA α n (Aw α n sz) s.heap S H locs → lv_has ls 11 [(0, .ref (α 10)), (1, .ref (α 3)), (2, .int a), (3, .int b), (8, .int (nI d)), (5, .int ms), (6, .long acc)] → W p l e ({ frames := 2, cells := 0, slots := 0, locals := 60 } : Room) s m (List.toArray ([.ref (α 10), .ref (α 3), .int a, .int b, .int q] : List Value)) below meth c H locs 0 0 (MQ below (va_Ql (fun r u => r = ((cPA S a b q M).2) ∧ u = S) (Pw D cA α n) (Aw α n sz)) (List.toArray ([.ref (α 10), .ref (α 3), .int a, .int b, .int q] : List Value)) s 0 0 (Aw α n sz)) (F0 m 10 ls []) := by
    intro t
    induction t with
    | zero => intro d ms acc H locs ls ht; exact absurd ht (Nat.not_lt_zero _)
    | succ t ih10 =>
      intro d ms acc H locs ls ht hj hm hk hw hl
      refine lv_iload hx hb dX1_profitAfter_10 (lv_at hl 4 rfl) ?_
      refine lv_aload_n hx hb dX1_profitAfter_12 rfl (lv_at hl 1 rfl) ?_
      refine x_get (v := .ref (α 74)) (C := RX0) (T := TX0) (N := 3) hx hb hts (fun _ h => List.mem_cons_of_mem _ (List.mem_append_left _ (List.mem_append_left _ (List.mem_append_left _ (List.mem_append_right _ h))))) hown hK hw 3 (Nat.lt_of_lt_of_le (Nat.le_of_ble_eq_true rfl : 3 < 191) hn) (mk_3 cA α) rfl 2 (by decide) (hts _ (List.mem_of_getElem? (i := 1) rfl)) (fun _ h9 => h9) rfl dX1_profitAfter_13 ?_
      refine x_get (v := .int (S.1 74 1)) (C := RX9) (T := TX9) (N := 14) hx hb hts (fun _ h => List.mem_cons_of_mem _ (List.mem_append_left _ (List.mem_append_left _ (List.mem_append_right _ h)))) hown hK hw 74 (Nat.lt_of_lt_of_le (Nat.le_of_ble_eq_true rfl : 74 < 191) hn) (mk_74 cA α) rfl 1 (by decide) (hts _ (List.mem_of_getElem? (i := 2) rfl)) (fun _ h9 => h9) rfl dX1_profitAfter_16 ?_
      refine x_topN (k := M) hM ?_
      refine xn_icmp_ge (tgt := 107) hx hb (by omega) (by omega) dX1_profitAfter_19 (by decide) (fun c1 => ?_) (fun c1 => ?_)
      · skip
        refine lv_lload hx hb dX1_profitAfter_107 (lv_at hl 6 rfl) ?_
        exact ret_l hx hb hr hlocks hK hw dX1_profitAfter_109 (by rw [hk, show d = M by omega]) rfl
      · skip
        refine lv_aload_n hx hb dX1_profitAfter_22 rfl (lv_at hl 1 rfl) ?_
        refine x_get (v := .ref (α 44)) (C := RX0) (T := TX0) (N := 3) hx hb hts (fun _ h => List.mem_cons_of_mem _ (List.mem_append_left _ (List.mem_append_left _ (List.mem_append_left _ (List.mem_append_right _ h))))) hown hK hw 3 (Nat.lt_of_lt_of_le (Nat.le_of_ble_eq_true rfl : 3 < 191) hn) (mk_3 cA α) rfl 1 (by decide) (hts _ (List.mem_of_getElem? (i := 3) rfl)) (fun _ h9 => h9) rfl dX1_profitAfter_23 ?_
        refine x_get (v := .ref (α 51)) (C := RX7) (T := TX7) (N := 9) hx hb hts (fun _ h => List.mem_cons_of_mem _ (List.mem_append_left _ (List.mem_append_right _ h))) hown hK hw 44 (Nat.lt_of_lt_of_le (Nat.le_of_ble_eq_true rfl : 44 < 191) hn) (mk_44 cA α) rfl 6 (by decide) (hts _ (List.mem_of_getElem? (i := 4) rfl)) (fun _ h9 => h9) rfl dX1_profitAfter_26 ?_
        refine lv_iload hx hb dX1_profitAfter_29 (lv_at hl 4 rfl) ?_
        refine x_iald hx hb hK hw 51 100 (Nat.lt_of_lt_of_le (Nat.le_of_ble_eq_true rfl : 51 < 191) hn) (mk_51 cA α) d rfl (by omega) (by decide) dX1_profitAfter_31 ?_
        refine lv_iload_n hx hb dX1_profitAfter_32 rfl (lv_at hl 2 rfl) ?_
        refine lv_icmp_eq (tgt := 39) hx hb dX1_profitAfter_33 (by decide) (fun c2 => ?_) (fun c2 => ?_)
        · skip
          refine lv_aload_n hx hb dX1_profitAfter_39 rfl (lv_at hl 1 rfl) ?_
          refine x_get (v := .ref (α 74)) (C := RX0) (T := TX0) (N := 3) hx hb hts (fun _ h => List.mem_cons_of_mem _ (List.mem_append_left _ (List.mem_append_left _ (List.mem_append_left _ (List.mem_append_right _ h))))) hown hK hw 3 (Nat.lt_of_lt_of_le (Nat.le_of_ble_eq_true rfl : 3 < 191) hn) (mk_3 cA α) rfl 2 (by decide) (hts _ (List.mem_of_getElem? (i := 1) rfl)) (fun _ h9 => h9) rfl dX1_profitAfter_40 ?_
          refine x_get (v := .ref (α 80)) (C := RX9) (T := TX9) (N := 14) hx hb hts (fun _ h => List.mem_cons_of_mem _ (List.mem_append_left _ (List.mem_append_left _ (List.mem_append_right _ h)))) hown hK hw 74 (Nat.lt_of_lt_of_le (Nat.le_of_ble_eq_true rfl : 74 < 191) hn) (mk_74 cA α) rfl 11 (by decide) (hts _ (List.mem_of_getElem? (i := 5) rfl)) (fun _ h9 => h9) rfl dX1_profitAfter_43 ?_
          refine lv_iload hx hb dX1_profitAfter_46 (lv_at hl 4 rfl) ?_
          refine x_iald hx hb hK hw 80 100 (Nat.lt_of_lt_of_le (Nat.le_of_ble_eq_true rfl : 80 < 191) hn) (mk_80 cA α) d rfl (by omega) (by decide) dX1_profitAfter_48 ?_
          refine lv_istore (lv' := [(9, .int (S.1 80 d)), (0, .ref (α 10)), (1, .ref (α 3)), (2, .int a), (3, .int b), (8, .int (nI d)), (5, .int ms), (6, .long acc)]) hx hb dX1_profitAfter_49 hl (by decide) rfl (fun ls hl => ?_)
          refine lv_aload_n hx hb dX1_profitAfter_51 rfl (lv_at hl 2 rfl) ?_
          refine x_get (v := .ref (α 44)) (C := RX0) (T := TX0) (N := 3) hx hb hts (fun _ h => List.mem_cons_of_mem _ (List.mem_append_left _ (List.mem_append_left _ (List.mem_append_left _ (List.mem_append_right _ h))))) hown hK hw 3 (Nat.lt_of_lt_of_le (Nat.le_of_ble_eq_true rfl : 3 < 191) hn) (mk_3 cA α) rfl 1 (by decide) (hts _ (List.mem_of_getElem? (i := 3) rfl)) (fun _ h9 => h9) rfl dX1_profitAfter_52 ?_
          refine x_get (v := .ref (α 49)) (C := RX7) (T := TX7) (N := 9) hx hb hts (fun _ h => List.mem_cons_of_mem _ (List.mem_append_left _ (List.mem_append_right _ h))) hown hK hw 44 (Nat.lt_of_lt_of_le (Nat.le_of_ble_eq_true rfl : 44 < 191) hn) (mk_44 cA α) rfl 4 (by decide) (hts _ (List.mem_of_getElem? (i := 6) rfl)) (fun _ h9 => h9) rfl dX1_profitAfter_55 ?_
          refine lv_iload hx hb dX1_profitAfter_58 (lv_at hl 5 rfl) ?_
          refine x_iald hx hb hK hw 49 100 (Nat.lt_of_lt_of_le (Nat.le_of_ble_eq_true rfl : 49 < 191) hn) (mk_49 cA α) d rfl (by omega) (by decide) dX1_profitAfter_60 ?_
          refine lv_iload_n hx hb dX1_profitAfter_61 rfl (lv_at hl 4 rfl) ?_
          refine lv_icmp_ne (tgt := 88) hx hb dX1_profitAfter_62 (by decide) (fun c3 => ?_) (fun c3 => ?_)
          · skip
            refine lv_lload hx hb dX1_profitAfter_88 (lv_at hl 7 rfl) ?_
            refine lv_aload_n hx hb dX1_profitAfter_90 rfl (lv_at hl 2 rfl) ?_
            refine lv_iload hx hb dX1_profitAfter_91 (lv_at hl 5 rfl) ?_
            refine lv_iload hx hb dX1_profitAfter_93 (lv_at hl 0 rfl) ?_
            refine x_callSLr (q := 0) (C := RX0) (As := [.ref (α 3), .int (nI d), .int (S.1 80 d)]) (rest := [.long acc]) ⟨hx, hb, hml, hown, hts⟩ (ct_X1_profitOn l D cA α n _ hn S d (S.1 80 d) (by omega) (ho d (by omega))) (va_cwS 3 hts gX1_profitAfter_X1_profitOn rfl rfl rfl (by decide +kernel) ⟨Nat.le_of_ble_eq_true rfl, Nat.le_of_ble_eq_true rfl⟩) hK hw hAw rfl hl.1 rfl (Nat.le_of_ble_eq_true rfl) dX1_profitAfter_95 ⟨Nat.zero_le _, Nat.zero_le _⟩ (fun H locs hw => ?_)
            refine lv_ladd hx hb dX1_profitAfter_98 ?_
            refine lv_lstore (lv' := [(6, .long (acc + (cOn S d (S.1 80 d)))), (9, .int (S.1 80 d)), (0, .ref (α 10)), (1, .ref (α 3)), (2, .int a), (3, .int b), (8, .int (nI d)), (5, .int ms)]) hx hb dX1_profitAfter_99 hl (by decide) rfl (fun ls hl => ?_)
            refine lv_iinc (v := nI (d + 1)) (lv' := [(8, .int (nI (d + 1))), (6, .long (acc + (cOn S d (S.1 80 d)))), (9, .int (S.1 80 d)), (0, .ref (α 10)), (1, .ref (α 3)), (2, .int a), (3, .int b), (5, .int ms)]) hx hb dX1_profitAfter_101 hl (k := 6) rfl (nI_1 _) (by decide) rfl (fun ls hl => ?_)
            refine lv_goto (tgt := 10) hx hb dX1_profitAfter_104 (by decide) ?_
            exact ih10 (d + 1) ms (acc + (cOn S d (S.1 80 d))) _ _ _ (by omega) (by omega) (by rw [cPA, ← hm, ← hk]; simp only [if_pos c1, if_neg (not_not_intro c1), decide_eq_true c1, if_pos c2, if_neg (not_not_intro c2), decide_eq_true c2, if_neg c3, if_pos c3, decide_eq_false c3, if_true, if_false, eq_self, Bool.false_eq_true, not_true_eq_false, not_false_eq_true, decide_true, decide_false, Bool.and_true, Bool.true_and, Bool.and_false, Bool.false_and, Bool.not_true, Bool.not_false, Bool.or_true, Bool.true_or, Bool.or_false, Bool.false_or, reduceIte, b2i_t, b2i_f]; try assumption) (by rw [cPA, ← hm, ← hk]; simp only [if_pos c1, if_neg (not_not_intro c1), decide_eq_true c1, if_pos c2, if_neg (not_not_intro c2), decide_eq_true c2, if_neg c3, if_pos c3, decide_eq_false c3, if_true, if_false, eq_self, Bool.false_eq_true, not_true_eq_false, not_false_eq_true, decide_true, decide_false, Bool.and_true, Bool.true_and, Bool.and_false, Bool.false_and, Bool.not_true, Bool.not_false, Bool.or_true, Bool.true_or, Bool.or_false, Bool.false_or, reduceIte, b2i_t, b2i_f]; try assumption) hw (lv_sub hl [3, 4, 5, 6, 0, 7, 1] rfl)
          · skip
            refine lv_iload hx hb dX1_profitAfter_65 (lv_at hl 6 rfl) ?_
            refine lv_iload hx hb dX1_profitAfter_67 (lv_at hl 0 rfl) ?_
            refine va_mmin hx hb (hml.trans hl.1.symm) hown (hts _ (List.mem_of_getElem? (i := 7) rfl)) (hts _ (List.mem_of_getElem? (i := 8) rfl)) (hts _ (List.mem_of_getElem? (i := 9) rfl)) (hts _ (List.mem_of_getElem? (i := 10) rfl)) (by decide) (Nat.le_of_ble_eq_true rfl) (Nat.zero_le _) (Nat.zero_le _) dX1_profitAfter_69 ?_
            refine lv_istore (lv' := [(10, .int (mnI ms (S.1 80 d))), (9, .int (S.1 80 d)), (0, .ref (α 10)), (1, .ref (α 3)), (2, .int a), (3, .int b), (8, .int (nI d)), (5, .int ms), (6, .long acc)]) hx hb dX1_profitAfter_72 hl (by decide) rfl (fun ls hl => ?_)
            refine lv_iload hx hb dX1_profitAfter_74 (lv_at hl 1 rfl) ?_
            refine lv_iload hx hb dX1_profitAfter_76 (lv_at hl 0 rfl) ?_
            refine lv_isub hx hb dX1_profitAfter_78 ?_
            refine lv_istore (lv' := [(9, .int ((S.1 80 d) - (mnI ms (S.1 80 d)))), (10, .int (mnI ms (S.1 80 d))), (0, .ref (α 10)), (1, .ref (α 3)), (2, .int a), (3, .int b), (8, .int (nI d)), (5, .int ms), (6, .long acc)]) hx hb dX1_profitAfter_79 hl (by decide) rfl (fun ls hl => ?_)
            refine lv_iload hx hb dX1_profitAfter_81 (lv_at hl 7 rfl) ?_
            refine lv_iload hx hb dX1_profitAfter_83 (lv_at hl 1 rfl) ?_
            refine lv_isub hx hb dX1_profitAfter_85 ?_
            refine lv_istore (lv' := [(5, .int (ms - (mnI ms (S.1 80 d)))), (9, .int ((S.1 80 d) - (mnI ms (S.1 80 d)))), (10, .int (mnI ms (S.1 80 d))), (0, .ref (α 10)), (1, .ref (α 3)), (2, .int a), (3, .int b), (8, .int (nI d)), (6, .long acc)]) hx hb dX1_profitAfter_86 hl (by decide) rfl (fun ls hl => ?_)
            refine lv_lload hx hb dX1_profitAfter_88 (lv_at hl 8 rfl) ?_
            refine lv_aload_n hx hb dX1_profitAfter_90 rfl (lv_at hl 4 rfl) ?_
            refine lv_iload hx hb dX1_profitAfter_91 (lv_at hl 7 rfl) ?_
            refine lv_iload hx hb dX1_profitAfter_93 (lv_at hl 1 rfl) ?_
            refine x_callSLr (q := 0) (C := RX0) (As := [.ref (α 3), .int (nI d), .int ((S.1 80 d) - (mnI ms (S.1 80 d)))]) (rest := [.long acc]) ⟨hx, hb, hml, hown, hts⟩ (ct_X1_profitOn l D cA α n _ hn S d ((S.1 80 d) - (mnI ms (S.1 80 d))) (by omega) (ho d (by omega))) (va_cwS 3 hts gX1_profitAfter_X1_profitOn rfl rfl rfl (by decide +kernel) ⟨Nat.le_of_ble_eq_true rfl, Nat.le_of_ble_eq_true rfl⟩) hK hw hAw rfl hl.1 rfl (Nat.le_of_ble_eq_true rfl) dX1_profitAfter_95 ⟨Nat.zero_le _, Nat.zero_le _⟩ (fun H locs hw => ?_)
            refine lv_ladd hx hb dX1_profitAfter_98 ?_
            refine lv_lstore (lv' := [(6, .long (acc + (cOn S d ((S.1 80 d) - (mnI ms (S.1 80 d)))))), (5, .int (ms - (mnI ms (S.1 80 d)))), (9, .int ((S.1 80 d) - (mnI ms (S.1 80 d)))), (10, .int (mnI ms (S.1 80 d))), (0, .ref (α 10)), (1, .ref (α 3)), (2, .int a), (3, .int b), (8, .int (nI d))]) hx hb dX1_profitAfter_99 hl (by decide) rfl (fun ls hl => ?_)
            refine lv_iinc (v := nI (d + 1)) (lv' := [(8, .int (nI (d + 1))), (6, .long (acc + (cOn S d ((S.1 80 d) - (mnI ms (S.1 80 d)))))), (5, .int (ms - (mnI ms (S.1 80 d)))), (9, .int ((S.1 80 d) - (mnI ms (S.1 80 d)))), (10, .int (mnI ms (S.1 80 d))), (0, .ref (α 10)), (1, .ref (α 3)), (2, .int a), (3, .int b)]) hx hb dX1_profitAfter_101 hl (k := 8) rfl (nI_1 _) (by decide) rfl (fun ls hl => ?_)
            refine lv_goto (tgt := 10) hx hb dX1_profitAfter_104 (by decide) ?_
            exact ih10 (d + 1) (ms - (mnI ms (S.1 80 d))) (acc + (cOn S d ((S.1 80 d) - (mnI ms (S.1 80 d))))) _ _ _ (by omega) (by omega) (by rw [cPA, ← hm, ← hk]; simp only [if_pos c1, if_neg (not_not_intro c1), decide_eq_true c1, if_pos c2, if_neg (not_not_intro c2), decide_eq_true c2, if_pos c3, if_neg (not_not_intro c3), decide_eq_true c3, if_true, if_false, eq_self, Bool.false_eq_true, not_true_eq_false, not_false_eq_true, decide_true, decide_false, Bool.and_true, Bool.true_and, Bool.and_false, Bool.false_and, Bool.not_true, Bool.not_false, Bool.or_true, Bool.true_or, Bool.or_false, Bool.false_or, reduceIte, b2i_t, b2i_f]; try assumption) (by rw [cPA, ← hm, ← hk]; simp only [if_pos c1, if_neg (not_not_intro c1), decide_eq_true c1, if_pos c2, if_neg (not_not_intro c2), decide_eq_true c2, if_pos c3, if_neg (not_not_intro c3), decide_eq_true c3, if_true, if_false, eq_self, Bool.false_eq_true, not_true_eq_false, not_false_eq_true, decide_true, decide_false, Bool.and_true, Bool.true_and, Bool.and_false, Bool.false_and, Bool.not_true, Bool.not_false, Bool.or_true, Bool.true_or, Bool.or_false, Bool.false_or, reduceIte, b2i_t, b2i_f]; try assumption) hw (lv_sub hl [5, 6, 7, 8, 0, 2, 1] rfl)
        · skip
          refine lv_goto (tgt := 101) hx hb dX1_profitAfter_36 (by decide) ?_
          refine lv_iinc (v := nI (d + 1)) (lv' := [(8, .int (nI (d + 1))), (0, .ref (α 10)), (1, .ref (α 3)), (2, .int a), (3, .int b), (5, .int ms), (6, .long acc)]) hx hb dX1_profitAfter_101 hl (k := 4) rfl (nI_1 _) (by decide) rfl (fun ls hl => ?_)
          refine lv_goto (tgt := 10) hx hb dX1_profitAfter_104 (by decide) ?_
          exact ih10 (d + 1) ms acc _ _ _ (by omega) (by omega) (by rw [cPA, ← hm, ← hk]; simp only [if_pos c1, if_neg (not_not_intro c1), decide_eq_true c1, if_neg c2, if_pos c2, decide_eq_false c2, if_true, if_false, eq_self, Bool.false_eq_true, not_true_eq_false, not_false_eq_true, decide_true, decide_false, Bool.and_true, Bool.true_and, Bool.and_false, Bool.false_and, Bool.not_true, Bool.not_false, Bool.or_true, Bool.true_or, Bool.or_false, Bool.false_or, reduceIte, b2i_t, b2i_f]; try assumption) (by rw [cPA, ← hm, ← hk]; simp only [if_pos c1, if_neg (not_not_intro c1), decide_eq_true c1, if_neg c2, if_pos c2, decide_eq_false c2, if_true, if_false, eq_self, Bool.false_eq_true, not_true_eq_false, not_false_eq_true, decide_true, decide_false, Bool.and_true, Bool.true_and, Bool.and_false, Bool.false_and, Bool.not_true, Bool.not_false, Bool.or_true, Bool.true_or, Bool.or_false, Bool.false_or, reduceIte, b2i_t, b2i_f]; try assumption) hw (lv_sub hl [1, 2, 3, 4, 0, 5, 6] rfl)
  exact lp10 _ 0 q 0 _ _ _ (Nat.lt_succ_self _) (Nat.zero_le _) rfl rfl hw (lv_sub hl [3, 4, 5, 6, 0, 2, 1] rfl)
