/-! the reference: goods, match, books -/
theorem isPl_t {S : Mem} {a b Cn Pn : Nat} (hC : S.1 33 1 = nI Cn) (hC2 : Cn ≤ 6) (hP : S.1 33 2 = nI Pn) (hP2 : Pn ≤ 6) (ha : a < Cn) (hb : b < Pn) : (isCoR S (nI a) && isPrR S (nI b)) = true := by
  rw [isCo_t hC hC2 ha, isPr_t hP hP2 hb]; rfl
theorem isPl_f {S : Mem} {x y : Int32} {Cn Pn : Nat} (hC : S.1 33 1 = nI Cn) (hC2 : Cn ≤ 6) (hP : S.1 33 2 = nI Pn) (hP2 : Pn ≤ 6) (h : (¬ ∃ i, i < Cn ∧ x = nI i) ∨ ¬ ∃ i, i < Pn ∧ y = nI i) : (isCoR S x && isPrR S y) = false := by
  rcases h with h | h
  · rw [isCo_f hC hC2 h]; rfl
  · rw [isPr_f hP hP2 h, Bool.and_false]

theorem rStk_30 (S : Mem) (x : Int32) : rStk (setI S 30 0 x) = rStk S := rfl
theorem rLot_30 (S : Mem) (x : Int32) : rLot (setI S 30 0 x) = rLot S := rfl
theorem rGap_30 (S : Mem) (x : Int32) : rGap (setI S 30 0 x) = rGap S := rfl
theorem gPro_30 (S : Mem) (x : Int32) : gPro (setI S 30 0 x) = gPro S := rfl
theorem rPer_30 (S : Mem) (x : Int32) : rPer (setI S 30 0 x) = rPer S := rfl

set_option maxRecDepth 100000 in
set_option maxHeartbeats 1000000 in
theorem ct_X11_stock (l : Launch) (D : va_G) (cA : Nat → ClassId) (α : Nat → Nat) (n sz : Nat) (hn : 191 ≤ n) (S : Mem) (Cn : Nat) (hC : S.1 33 1 = nI Cn) (hC2 : Cn ≤ 6) (Pn : Nat) (hP9 : S.1 33 2 = nI Pn) (hP2 : Pn ≤ 6) (a b : Nat) (ha : a < Cn) (hb0 : b < Pn) (L : Nat) (hL : S.1 34 1 = nI L) (hL2 : L ≤ 100) : CtI l yX11_stock wsX11_stock ({ frames := 3, cells := 0, slots := 0, locals := 69 }) D cA α n sz [.ref (α 30), .int (nI a), .int (nI b)] S (sumI (rStk S (nI a) (nI b)) L) (setI S 30 0 (nI 0)) := by
  refine ct_enter cX11_stock 3 (some .int) (by decide) rfl (Nat.le_of_ble_eq_true rfl) ?_
  intro p e s m below meth c hx hb hr hml hlocks hown hts hK hsz hw ls hl
  have hown : s.vm.findClass RX11 = some m.cls := hown
  have hAw : ∀ z, Aw α n s.heap.size z → Aw α n sz z := by rw [hsz]; exact fun _ h => h
  have hl : lv_has ls 3 [(0, .ref (α 30)), (1, .int (nI a)), (2, .int (nI b))] := hl
  refine lv_aload_n hx hb dX11_stock_0 rfl (lv_at hl 0 rfl) ?_
  refine lv_iconst (v := nI 0) hx hb dX11_stock_1 (by decide) ?_
  refine x_putI (x := nI 0) (ty := .int) (C := RX11) (T := TX11) (N := 24) hx hb hts (fun _ h => List.mem_cons_of_mem _ (List.mem_append_right _ h)) tyX11 tyX11_ok nmX11 hown hK hw 30 (Nat.lt_of_lt_of_le (Nat.le_of_ble_eq_true rfl : 30 < 191) hn) (mk_30 cA α) rfl 0 (by decide) (hts _ (List.mem_of_getElem? (i := 1) rfl)) (fun _ h9 => h9) rfl rfl rfl rfl (Nat.le_of_ble_eq_true rfl) rfl dX11_stock_2 (fun S1 eS1 H locs hw => ?_)
  refine lv_aload_n hx hb dX11_stock_5 rfl (lv_at hl 0 rfl) ?_
  refine lv_iload_n hx hb dX11_stock_6 rfl (lv_at hl 1 rfl) ?_
  refine lv_iload_n hx hb dX11_stock_7 rfl (lv_at hl 2 rfl) ?_
  refine x_callVIr (q := 30) (C := RX11) (As := [.int (nI a), .int (nI b)]) (rest := []) ⟨hx, hb, hml, hown, hts⟩ (ct_X11_isPlace l D cA α n _ hn S1 (nI a) (nI b)) (cwV 2 hts gX11_stock_X11_isPlace rfl rfl rfl (by decide +kernel) ⟨Nat.le_of_ble_eq_true rfl, Nat.le_of_ble_eq_true rfl⟩) hK hw hAw (ws_recv hK hw (q := 30) (Nat.lt_of_lt_of_le (Nat.le_of_ble_eq_true rfl : 30 < 191) hn) (mk_30 cA α) rfl) rfl hl.1 rfl (Nat.le_of_ble_eq_true rfl) dX11_stock_8 ⟨Nat.zero_le _, Nat.zero_le _⟩ (fun H locs hw => ?_)
  refine xb_eq (b := (isCoR S1 (nI a) && isPrR S1 (nI b))) (tgt := 23) hx hb dX11_stock_11 (by decide) (fun c1 => ?_) (fun c1 => ?_)
  · exact absurd (isPl_t (S := S1) (by subst eS1; exact hC) hC2 (by subst eS1; exact hP9) hP2 ha hb0) (by rw [c1]; decide)
  · skip
    refine lv_aload_n hx hb dX11_stock_14 rfl (lv_at hl 0 rfl) ?_
    refine lv_iload_n hx hb dX11_stock_15 rfl (lv_at hl 1 rfl) ?_
    refine lv_iload_n hx hb dX11_stock_16 rfl (lv_at hl 2 rfl) ?_
    refine x_callVIr (q := 30) (C := RX11) (As := [.int (nI a), .int (nI b)]) (rest := []) ⟨hx, hb, hml, hown, hts⟩ (ct_X11_stockOf l D cA α n _ hn S1 (nI a) (nI b) L (by subst eS1; exact hL) hL2) (cwV 2 hts gX11_stock_X11_stockOf rfl rfl rfl (by decide +kernel) ⟨Nat.le_of_ble_eq_true rfl, Nat.le_of_ble_eq_true rfl⟩) hK hw hAw (ws_recv hK hw (q := 30) (Nat.lt_of_lt_of_le (Nat.le_of_ble_eq_true rfl : 30 < 191) hn) (mk_30 cA α) rfl) rfl hl.1 rfl (Nat.le_of_ble_eq_true rfl) dX11_stock_17 ⟨Nat.zero_le _, Nat.zero_le _⟩ (fun H locs hw => ?_)
    refine lv_goto (tgt := 28) hx hb dX11_stock_20 (by decide) ?_
    exact ret_i hx hb hr hlocks hK hw dX11_stock_28 (by subst eS1; rw [rStk_30]) (by subst_vars; rfl)

set_option maxRecDepth 100000 in
set_option maxHeartbeats 1000000 in
theorem ct_X11_stockX (l : Launch) (D : va_G) (cA : Nat → ClassId) (α : Nat → Nat) (n sz : Nat) (hn : 191 ≤ n) (S : Mem) (Cn : Nat) (hC : S.1 33 1 = nI Cn) (hC2 : Cn ≤ 6) (Pn : Nat) (hP9 : S.1 33 2 = nI Pn) (hP2 : Pn ≤ 6) (x y : Int32) (hx9 : (¬ ∃ i, i < Cn ∧ x = nI i) ∨ ¬ ∃ i, i < Pn ∧ y = nI i) : CtI l yX11_stock wsX11_stock ({ frames := 3, cells := 0, slots := 0, locals := 69 }) D cA α n sz [.ref (α 30), .int x, .int y] S (nI 0) (setI (setI S 30 0 (nI 0)) 30 0 (nI 1)) := by
  refine ct_enter cX11_stock 3 (some .int) (by decide) rfl (Nat.le_of_ble_eq_true rfl) ?_
  intro p e s m below meth c hx hb hr hml hlocks hown hts hK hsz hw ls hl
  have hown : s.vm.findClass RX11 = some m.cls := hown
  have hAw : ∀ z, Aw α n s.heap.size z → Aw α n sz z := by rw [hsz]; exact fun _ h => h
  have hl : lv_has ls 3 [(0, .ref (α 30)), (1, .int x), (2, .int y)] := hl
  refine lv_aload_n hx hb dX11_stock_0 rfl (lv_at hl 0 rfl) ?_
  refine lv_iconst (v := nI 0) hx hb dX11_stock_1 (by decide) ?_
  refine x_putI (x := nI 0) (ty := .int) (C := RX11) (T := TX11) (N := 24) hx hb hts (fun _ h => List.mem_cons_of_mem _ (List.mem_append_right _ h)) tyX11 tyX11_ok nmX11 hown hK hw 30 (Nat.lt_of_lt_of_le (Nat.le_of_ble_eq_true rfl : 30 < 191) hn) (mk_30 cA α) rfl 0 (by decide) (hts _ (List.mem_of_getElem? (i := 1) rfl)) (fun _ h9 => h9) rfl rfl rfl rfl (Nat.le_of_ble_eq_true rfl) rfl dX11_stock_2 (fun S1 eS1 H locs hw => ?_)
  refine lv_aload_n hx hb dX11_stock_5 rfl (lv_at hl 0 rfl) ?_
  refine lv_iload_n hx hb dX11_stock_6 rfl (lv_at hl 1 rfl) ?_
  refine lv_iload_n hx hb dX11_stock_7 rfl (lv_at hl 2 rfl) ?_
  refine x_callVIr (q := 30) (C := RX11) (As := [.int x, .int y]) (rest := []) ⟨hx, hb, hml, hown, hts⟩ (ct_X11_isPlace l D cA α n _ hn S1 x y) (cwV 2 hts gX11_stock_X11_isPlace rfl rfl rfl (by decide +kernel) ⟨Nat.le_of_ble_eq_true rfl, Nat.le_of_ble_eq_true rfl⟩) hK hw hAw (ws_recv hK hw (q := 30) (Nat.lt_of_lt_of_le (Nat.le_of_ble_eq_true rfl : 30 < 191) hn) (mk_30 cA α) rfl) rfl hl.1 rfl (Nat.le_of_ble_eq_true rfl) dX11_stock_8 ⟨Nat.zero_le _, Nat.zero_le _⟩ (fun H locs hw => ?_)
  refine xb_eq (b := (isCoR S1 x && isPrR S1 y)) (tgt := 23) hx hb dX11_stock_11 (by decide) (fun c1 => ?_) (fun c1 => ?_)
  · skip
    refine lv_aload_n hx hb dX11_stock_23 rfl (lv_at hl 0 rfl) ?_
    refine lv_iconst (v := nI 1) hx hb dX11_stock_24 (by decide) ?_
    refine x_callVI (q := 30) (C := RX11) (As := [.int (nI 1)]) (rest := []) ⟨hx, hb, hml, hown, hts⟩ (ct_X11_fail l D cA α n _ hn S1 (nI 1)) (cwV 1 hts gX11_stock_X11_fail rfl rfl rfl (by decide +kernel) ⟨Nat.le_of_ble_eq_true rfl, Nat.le_of_ble_eq_true rfl⟩) hK hw hAw (ws_recv hK hw (q := 30) (Nat.lt_of_lt_of_le (Nat.le_of_ble_eq_true rfl : 30 < 191) hn) (mk_30 cA α) rfl) rfl hl.1 rfl (Nat.le_of_ble_eq_true rfl) dX11_stock_25 ⟨Nat.zero_le _, Nat.zero_le _⟩ (fun S2 eS2 H locs hw => ?_)
    exact ret_i hx hb hr hlocks hK hw dX11_stock_28 rfl (by subst_vars; rfl)
  · exact absurd (isPl_f (S := S1) (by subst eS1; exact hC) hC2 (by subst eS1; exact hP9) hP2 hx9) (by rw [c1]; decide)

set_option maxRecDepth 100000 in
set_option maxHeartbeats 1000000 in
theorem ct_X11_oldestPrice (l : Launch) (D : va_G) (cA : Nat → ClassId) (α : Nat → Nat) (n sz : Nat) (hn : 191 ≤ n) (S : Mem) (Cn : Nat) (hC : S.1 33 1 = nI Cn) (hC2 : Cn ≤ 6) (Pn : Nat) (hP9 : S.1 33 2 = nI Pn) (hP2 : Pn ≤ 6) (a b : Nat) (ha : a < Cn) (hb0 : b < Pn) (L : Nat) (hL : S.1 34 1 = nI L) (hL2 : L ≤ 100) : CtI l yX11_oldestPrice wsX11_oldestPrice ({ frames := 3, cells := 0, slots := 0, locals := 68 }) D cA α n sz [.ref (α 30), .int (nI a), .int (nI b)] S (fstP (fun j => rLot S j (nI a) (nI b)) (fun j => S.1 34 (608 + 4 * j + 3)) L 0) (setI S 30 0 (nI 0)) := by
  refine ct_enter cX11_oldestPrice 4 (some .int) (by decide) rfl (Nat.le_of_ble_eq_true rfl) ?_
  intro p e s m below meth c hx hb hr hml hlocks hown hts hK hsz hw ls hl
  have hown : s.vm.findClass RX11 = some m.cls := hown
  have hAw : ∀ z, Aw α n s.heap.size z → Aw α n sz z := by rw [hsz]; exact fun _ h => h
  have hl : lv_has ls 4 [(0, .ref (α 30)), (1, .int (nI a)), (2, .int (nI b))] := hl
  refine lv_aload_n hx hb dX11_oldestPrice_0 rfl (lv_at hl 0 rfl) ?_
  refine lv_iconst (v := nI 0) hx hb dX11_oldestPrice_1 (by decide) ?_
  refine x_putI (x := nI 0) (ty := .int) (C := RX11) (T := TX11) (N := 24) hx hb hts (fun _ h => List.mem_cons_of_mem _ (List.mem_append_right _ h)) tyX11 tyX11_ok nmX11 hown hK hw 30 (Nat.lt_of_lt_of_le (Nat.le_of_ble_eq_true rfl : 30 < 191) hn) (mk_30 cA α) rfl 0 (by decide) (hts _ (List.mem_of_getElem? (i := 1) rfl)) (fun _ h9 => h9) rfl rfl rfl rfl (Nat.le_of_ble_eq_true rfl) rfl dX11_oldestPrice_2 (fun S1 eS1 H locs hw => ?_)
  refine lv_aload_n hx hb dX11_oldestPrice_5 rfl (lv_at hl 0 rfl) ?_
  refine lv_iload_n hx hb dX11_oldestPrice_6 rfl (lv_at hl 1 rfl) ?_
  refine lv_iload_n hx hb dX11_oldestPrice_7 rfl (lv_at hl 2 rfl) ?_
  refine x_callVIr (q := 30) (C := RX11) (As := [.int (nI a), .int (nI b)]) (rest := []) ⟨hx, hb, hml, hown, hts⟩ (ct_X11_isPlace l D cA α n _ hn S1 (nI a) (nI b)) (cwV 2 hts gX11_oldestPrice_X11_isPlace rfl rfl rfl (by decide +kernel) ⟨Nat.le_of_ble_eq_true rfl, Nat.le_of_ble_eq_true rfl⟩) hK hw hAw (ws_recv hK hw (q := 30) (Nat.lt_of_lt_of_le (Nat.le_of_ble_eq_true rfl : 30 < 191) hn) (mk_30 cA α) rfl) rfl hl.1 rfl (Nat.le_of_ble_eq_true rfl) dX11_oldestPrice_8 ⟨Nat.zero_le _, Nat.zero_le _⟩ (fun H locs hw => ?_)
  refine xb_ne (b := (isCoR S1 (nI a) && isPrR S1 (nI b))) (tgt := 20) hx hb dX11_oldestPrice_11 (by decide) (fun c1 => ?_) (fun c1 => ?_)
  · skip
    refine lv_iconst (v := nI 0) hx hb dX11_oldestPrice_20 (by decide) ?_
    refine lv_istore_n (lv' := [(3, .int (nI 0)), (0, .ref (α 30)), (1, .int (nI a)), (2, .int (nI b))]) hx hb dX11_oldestPrice_21 rfl hl (by decide) rfl (fun ls hl => ?_)
    have lp22 : ∀ (t : Nat) (j : Nat) (H : Heap) (locs : List Loc) (ls : Array Slot), L - j < t → j ≤ L → fstP (fun j => rLot S j (nI a) (nI b)) (fun j => S.1 34 (608 + 4 * j + 3)) L 0 = fstP (fun j => rLot S j (nI a) (nI b)) (fun j => S.1 34 (608 + 4 * j + 3)) (L - j) j → Ws D cA α n (Aw α n sz) s.heap S1 H locs → lv_has ls 4 [(0, .ref (α 30)), (1, .int (nI a)), (2, .int (nI b)), (3, .int (nI j))] → W p l e ({ frames := 3, cells := 0, slots := 0, locals := 68 } : Room) s m (List.toArray ([.ref (α 30), .int (nI a), .int (nI b)] : List Value)) below meth c H locs 0 0 (MQ below (va_Qi (fun r u => r = (fstP (fun j => rLot S j (nI a) (nI b)) (fun j => S.1 34 (608 + 4 * j + 3)) L 0) ∧ u = (setI S 30 0 (nI 0))) (Pw D cA α n) (Aw α n sz)) (List.toArray ([.ref (α 30), .int (nI a), .int (nI b)] : List Value)) s 0 0 (Aw α n sz)) (F0 m 22 ls []) := by
      intro t
      induction t with
      | zero => intro j H locs ls ht; exact absurd ht (Nat.not_lt_zero _)
      | succ t ih22 =>
        intro j H locs ls ht hj hk hw hl
        refine lv_iload_n hx hb dX11_oldestPrice_22 rfl (lv_at hl 3 rfl) ?_
        refine lv_aload_n hx hb dX11_oldestPrice_23 rfl (lv_at hl 0 rfl) ?_
        refine x_get (v := .ref (α 34)) (C := RX11) (T := TX11) (N := 24) hx hb hts (fun _ h => List.mem_cons_of_mem _ (List.mem_append_right _ h)) hown hK hw 30 (Nat.lt_of_lt_of_le (Nat.le_of_ble_eq_true rfl : 30 < 191) hn) (mk_30 cA α) rfl 13 (by decide) (hts _ (List.mem_of_getElem? (i := 2) rfl)) (fun _ h9 => h9) rfl dX11_oldestPrice_24 ?_
        refine lv_iconst (v := nI 1) hx hb dX11_oldestPrice_27 (by decide) ?_
        refine x_iald hx hb hK hw 34 1508 (Nat.lt_of_lt_of_le (Nat.le_of_ble_eq_true rfl : 34 < 191) hn) (mk_34 cA α) 1 rfl (by decide) (by decide) dX11_oldestPrice_28 ?_
        refine x_topN (k := L) (by subst eS1; exact hL) ?_
        refine xn_icmp_ge (tgt := 55) hx hb (by omega) (by omega) dX11_oldestPrice_29 (by decide) (fun c2 => ?_) (fun c2 => ?_)
        · skip
          refine lv_iconst (v := (-1)) hx hb dX11_oldestPrice_55 (by decide) ?_
          exact ret_i hx hb hr hlocks hK hw dX11_oldestPrice_56 (by rw [hk, show L - j = 0 by omega]; rfl) (by subst_vars; rfl)
        · skip
          refine lv_aload_n hx hb dX11_oldestPrice_32 rfl (lv_at hl 0 rfl) ?_
          refine lv_iload_n hx hb dX11_oldestPrice_33 rfl (lv_at hl 3 rfl) ?_
          refine lv_iload_n hx hb dX11_oldestPrice_34 rfl (lv_at hl 1 rfl) ?_
          refine lv_iload_n hx hb dX11_oldestPrice_35 rfl (lv_at hl 2 rfl) ?_
          refine x_callVIr (q := 30) (C := RX11) (As := [.int (nI j), .int (nI a), .int (nI b)]) (rest := []) ⟨hx, hb, hml, hown, hts⟩ (ct_X11_isLotOf l D cA α n _ hn S1 j (nI a) (nI b) (by omega)) (cwV 3 hts gX11_oldestPrice_X11_isLotOf rfl rfl rfl (by decide +kernel) ⟨Nat.le_of_ble_eq_true rfl, Nat.le_of_ble_eq_true rfl⟩) hK hw hAw (ws_recv hK hw (q := 30) (Nat.lt_of_lt_of_le (Nat.le_of_ble_eq_true rfl : 30 < 191) hn) (mk_30 cA α) rfl) rfl hl.1 rfl (Nat.le_of_ble_eq_true rfl) dX11_oldestPrice_36 ⟨Nat.zero_le _, Nat.zero_le _⟩ (fun H locs hw => ?_)
          refine x_topE (y := b2i (rLot S j (nI a) (nI b))) (by rw [eS1, rLot_30]) ?_
          refine xb_eq (b := (rLot S j (nI a) (nI b))) (tgt := 49) hx hb dX11_oldestPrice_39 (by decide) (fun c3 => ?_) (fun c3 => ?_)
          · skip
            refine lv_iinc (v := nI (j + 1)) (lv' := [(3, .int (nI (j + 1))), (0, .ref (α 30)), (1, .int (nI a)), (2, .int (nI b))]) hx hb dX11_oldestPrice_49 hl (k := 3) rfl (nI_1 _) (by decide) rfl (fun ls hl => ?_)
            refine lv_goto (tgt := 22) hx hb dX11_oldestPrice_52 (by decide) ?_
            exact ih22 (j + 1) _ _ _ (by omega) (by omega) (by rw [hk, show L - j = (L - (j + 1)) + 1 by omega, fstP]; simp only [c1, if_pos c2, if_neg (not_not_intro c2), decide_eq_true c2, c3, if_true, if_false, eq_self, Bool.false_eq_true, not_true_eq_false, not_false_eq_true, decide_true, decide_false, Bool.and_true, Bool.true_and, Bool.and_false, Bool.false_and, Bool.not_true, Bool.not_false, Bool.or_true, Bool.true_or, Bool.or_false, Bool.false_or, reduceIte, b2i_t, b2i_f]) hw (lv_sub hl [1, 2, 3, 0] rfl)
          · skip
            refine lv_aload_n hx hb dX11_oldestPrice_42 rfl (lv_at hl 0 rfl) ?_
            refine lv_iload_n hx hb dX11_oldestPrice_43 rfl (lv_at hl 3 rfl) ?_
            refine lv_iconst (v := nI 3) hx hb dX11_oldestPrice_44 (by decide) ?_
            refine x_callVIr (q := 30) (C := RX11) (As := [.int (nI j), .int (nI 3)]) (rest := []) ⟨hx, hb, hml, hown, hts⟩ (ct_X11_lot l D cA α n _ hn S1 j 3 (by omega)) (cwV 2 hts gX11_oldestPrice_X11_lot rfl rfl rfl (by decide +kernel) ⟨Nat.le_of_ble_eq_true rfl, Nat.le_of_ble_eq_true rfl⟩) hK hw hAw (ws_recv hK hw (q := 30) (Nat.lt_of_lt_of_le (Nat.le_of_ble_eq_true rfl : 30 < 191) hn) (mk_30 cA α) rfl) rfl hl.1 rfl (Nat.le_of_ble_eq_true rfl) dX11_oldestPrice_45 ⟨Nat.zero_le _, Nat.zero_le _⟩ (fun H locs hw => ?_)
            refine x_topE (y := S.1 34 (608 + 4 * j + 3)) (by subst_vars; rfl) ?_
            exact ret_i hx hb hr hlocks hK hw dX11_oldestPrice_48 (by rw [hk, show L - j = (L - (j + 1)) + 1 by omega, fstP]; simp only [c1, if_pos c2, if_neg (not_not_intro c2), decide_eq_true c2, c3, if_true, if_false, eq_self, Bool.false_eq_true, not_true_eq_false, not_false_eq_true, decide_true, decide_false, Bool.and_true, Bool.true_and, Bool.and_false, Bool.false_and, Bool.not_true, Bool.not_false, Bool.or_true, Bool.true_or, Bool.or_false, Bool.false_or, reduceIte, b2i_t, b2i_f]) (by subst_vars; rfl)
    exact lp22 _ 0 _ _ _ (Nat.lt_succ_self _) (Nat.zero_le _) rfl hw (lv_sub hl [1, 2, 3, 0] rfl)
  · exact absurd (isPl_t (S := S1) (by subst eS1; exact hC) hC2 (by subst eS1; exact hP9) hP2 ha hb0) (by rw [c1]; decide)

set_option maxRecDepth 100000 in
set_option maxHeartbeats 1000000 in
theorem ct_X11_oldestPriceX (l : Launch) (D : va_G) (cA : Nat → ClassId) (α : Nat → Nat) (n sz : Nat) (hn : 191 ≤ n) (S : Mem) (Cn : Nat) (hC : S.1 33 1 = nI Cn) (hC2 : Cn ≤ 6) (Pn : Nat) (hP9 : S.1 33 2 = nI Pn) (hP2 : Pn ≤ 6) (x y : Int32) (hx9 : (¬ ∃ i, i < Cn ∧ x = nI i) ∨ ¬ ∃ i, i < Pn ∧ y = nI i) : CtI l yX11_oldestPrice wsX11_oldestPrice ({ frames := 3, cells := 0, slots := 0, locals := 68 }) D cA α n sz [.ref (α 30), .int x, .int y] S (nI 0) (setI (setI S 30 0 (nI 0)) 30 0 (nI 1)) := by
  refine ct_enter cX11_oldestPrice 4 (some .int) (by decide) rfl (Nat.le_of_ble_eq_true rfl) ?_
  intro p e s m below meth c hx hb hr hml hlocks hown hts hK hsz hw ls hl
  have hown : s.vm.findClass RX11 = some m.cls := hown
  have hAw : ∀ z, Aw α n s.heap.size z → Aw α n sz z := by rw [hsz]; exact fun _ h => h
  have hl : lv_has ls 4 [(0, .ref (α 30)), (1, .int x), (2, .int y)] := hl
  refine lv_aload_n hx hb dX11_oldestPrice_0 rfl (lv_at hl 0 rfl) ?_
  refine lv_iconst (v := nI 0) hx hb dX11_oldestPrice_1 (by decide) ?_
  refine x_putI (x := nI 0) (ty := .int) (C := RX11) (T := TX11) (N := 24) hx hb hts (fun _ h => List.mem_cons_of_mem _ (List.mem_append_right _ h)) tyX11 tyX11_ok nmX11 hown hK hw 30 (Nat.lt_of_lt_of_le (Nat.le_of_ble_eq_true rfl : 30 < 191) hn) (mk_30 cA α) rfl 0 (by decide) (hts _ (List.mem_of_getElem? (i := 1) rfl)) (fun _ h9 => h9) rfl rfl rfl rfl (Nat.le_of_ble_eq_true rfl) rfl dX11_oldestPrice_2 (fun S1 eS1 H locs hw => ?_)
  refine lv_aload_n hx hb dX11_oldestPrice_5 rfl (lv_at hl 0 rfl) ?_
  refine lv_iload_n hx hb dX11_oldestPrice_6 rfl (lv_at hl 1 rfl) ?_
  refine lv_iload_n hx hb dX11_oldestPrice_7 rfl (lv_at hl 2 rfl) ?_
  refine x_callVIr (q := 30) (C := RX11) (As := [.int x, .int y]) (rest := []) ⟨hx, hb, hml, hown, hts⟩ (ct_X11_isPlace l D cA α n _ hn S1 x y) (cwV 2 hts gX11_oldestPrice_X11_isPlace rfl rfl rfl (by decide +kernel) ⟨Nat.le_of_ble_eq_true rfl, Nat.le_of_ble_eq_true rfl⟩) hK hw hAw (ws_recv hK hw (q := 30) (Nat.lt_of_lt_of_le (Nat.le_of_ble_eq_true rfl : 30 < 191) hn) (mk_30 cA α) rfl) rfl hl.1 rfl (Nat.le_of_ble_eq_true rfl) dX11_oldestPrice_8 ⟨Nat.zero_le _, Nat.zero_le _⟩ (fun H locs hw => ?_)
  refine xb_ne (b := (isCoR S1 x && isPrR S1 y)) (tgt := 20) hx hb dX11_oldestPrice_11 (by decide) (fun c1 => ?_) (fun c1 => ?_)
  · exact absurd (isPl_f (S := S1) (by subst eS1; exact hC) hC2 (by subst eS1; exact hP9) hP2 hx9) (by rw [c1]; decide)
  · skip
    refine lv_aload_n hx hb dX11_oldestPrice_14 rfl (lv_at hl 0 rfl) ?_
    refine lv_iconst (v := nI 1) hx hb dX11_oldestPrice_15 (by decide) ?_
    refine x_callVI (q := 30) (C := RX11) (As := [.int (nI 1)]) (rest := []) ⟨hx, hb, hml, hown, hts⟩ (ct_X11_fail l D cA α n _ hn S1 (nI 1)) (cwV 1 hts gX11_oldestPrice_X11_fail rfl rfl rfl (by decide +kernel) ⟨Nat.le_of_ble_eq_true rfl, Nat.le_of_ble_eq_true rfl⟩) hK hw hAw (ws_recv hK hw (q := 30) (Nat.lt_of_lt_of_le (Nat.le_of_ble_eq_true rfl : 30 < 191) hn) (mk_30 cA α) rfl) rfl hl.1 rfl (Nat.le_of_ble_eq_true rfl) dX11_oldestPrice_16 ⟨Nat.zero_le _, Nat.zero_le _⟩ (fun S2 eS2 H locs hw => ?_)
    exact ret_i hx hb hr hlocks hK hw dX11_oldestPrice_19 rfl (by subst_vars; rfl)

set_option maxRecDepth 100000 in
set_option maxHeartbeats 1000000 in
theorem ct_X11_gap (l : Launch) (D : va_G) (cA : Nat → ClassId) (α : Nat → Nat) (n sz : Nat) (hn : 191 ≤ n) (S : Mem) (M : Nat) (hM : S.1 34 2 = nI M) (hM2 : M ≤ 100) (d : Nat) (hd : d < M) (hdo : okI (S.1 34 (1008 + 5 * d + 0)) 6) : CtL l yX11_gap wsX11_gap ({ frames := 2, cells := 0, slots := 0, locals := 48 }) D cA α n sz [.ref (α 30), .int (nI d)] S (rGap S d) (setI S 30 0 (nI 0)) := by
  refine ct_enter cX11_gap 2 (some .long) (by decide) rfl (Nat.le_of_ble_eq_true rfl) ?_
  intro p e s m below meth c hx hb hr hml hlocks hown hts hK hsz hw ls hl
  have hown : s.vm.findClass RX11 = some m.cls := hown
  have hAw : ∀ z, Aw α n s.heap.size z → Aw α n sz z := by rw [hsz]; exact fun _ h => h
  have hl : lv_has ls 2 [(0, .ref (α 30)), (1, .int (nI d))] := hl
  refine lv_aload_n hx hb dX11_gap_0 rfl (lv_at hl 0 rfl) ?_
  refine lv_iload_n hx hb dX11_gap_1 rfl (lv_at hl 1 rfl) ?_
  refine lv_i2l hx hb dX11_gap_2 rfl ?_
  refine lv_lconst (v := 0) hx hb dX11_gap_3 (by decide) ?_
  refine lv_aload_n hx hb dX11_gap_4 rfl (lv_at hl 0 rfl) ?_
  refine x_get (v := .ref (α 34)) (C := RX11) (T := TX11) (N := 24) hx hb hts (fun _ h => List.mem_cons_of_mem _ (List.mem_append_right _ h)) hown hK hw 30 (Nat.lt_of_lt_of_le (Nat.le_of_ble_eq_true rfl : 30 < 191) hn) (mk_30 cA α) rfl 13 (by decide) (hts _ (List.mem_of_getElem? (i := 1) rfl)) (fun _ h9 => h9) rfl dX11_gap_5 ?_
  refine lv_iconst (v := nI 2) hx hb dX11_gap_8 (by decide) ?_
  refine x_iald hx hb hK hw 34 1508 (Nat.lt_of_lt_of_le (Nat.le_of_ble_eq_true rfl : 34 < 191) hn) (mk_34 cA α) 2 rfl (by decide) (by decide) dX11_gap_9 ?_
  refine lv_iconst (v := nI 1) hx hb dX11_gap_10 (by decide) ?_
  refine lv_isub hx hb dX11_gap_11 ?_
  refine lv_i2l hx hb dX11_gap_12 rfl ?_
  refine x_callSIr (q := 0) (C := RX0) (As := [.long ((nI d).toInt64), .long (0), .long (((S.1 34 2) - (nI 1)).toInt64)]) (rest := [.ref (α 30)]) ⟨hx, hb, hml, hown, hts⟩ (ct_X11_within l D cA α n _ hn S ((nI d).toInt64) (0) (((S.1 34 2) - (nI 1)).toInt64)) (va_cwS 3 hts gX11_gap_X11_within rfl rfl rfl (by decide +kernel) ⟨Nat.le_of_ble_eq_true rfl, Nat.le_of_ble_eq_true rfl⟩) hK hw hAw rfl hl.1 rfl (Nat.le_of_ble_eq_true rfl) dX11_gap_13 ⟨Nat.zero_le _, Nat.zero_le _⟩ (fun H locs hw => ?_)
  refine xb_eq (b := (wiL ((nI d).toInt64) (0) (((S.1 34 2) - (nI 1)).toInt64))) (tgt := 23) hx hb dX11_gap_16 (by decide) (fun c1 => ?_) (fun c1 => ?_)
  · exact absurd (show wiL (nI d).toInt64 0 (S.1 34 2 - nI 1).toInt64 = true by rw [show S.1 34 2 = nI M by skip; exact hM]; exact wi_t hd (by omega)) (by rw [c1]; decide)
  · skip
    refine lv_iconst (v := nI 0) hx hb dX11_gap_19 (by decide) ?_
    refine lv_goto (tgt := 24) hx hb dX11_gap_20 (by decide) ?_
    refine x_putI (x := nI 0) (ty := .int) (C := RX11) (T := TX11) (N := 24) hx hb hts (fun _ h => List.mem_cons_of_mem _ (List.mem_append_right _ h)) tyX11 tyX11_ok nmX11 hown hK hw 30 (Nat.lt_of_lt_of_le (Nat.le_of_ble_eq_true rfl : 30 < 191) hn) (mk_30 cA α) rfl 0 (by decide) (hts _ (List.mem_of_getElem? (i := 2) rfl)) (fun _ h9 => h9) rfl rfl rfl rfl (Nat.le_of_ble_eq_true rfl) rfl dX11_gap_24 (fun S1 eS1 H locs hw => ?_)
    refine lv_aload_n hx hb dX11_gap_27 rfl (lv_at hl 0 rfl) ?_
    refine x_get (v := .int (S1.1 30 0)) (C := RX11) (T := TX11) (N := 24) hx hb hts (fun _ h => List.mem_cons_of_mem _ (List.mem_append_right _ h)) hown hK hw 30 (Nat.lt_of_lt_of_le (Nat.le_of_ble_eq_true rfl : 30 < 191) hn) (mk_30 cA α) rfl 0 (by decide) (hts _ (List.mem_of_getElem? (i := 2) rfl)) (fun _ h9 => h9) rfl dX11_gap_28 ?_
    refine x_topN (k := 0) (by subst eS1; simp [sI_e, upd]) ?_
    refine xn_if_ne (tgt := 42) hx hb (by omega) dX11_gap_31 (by decide) (fun c2 => ?_) (fun c2 => ?_)
    · exact absurd rfl c2
    · skip
      refine lv_aload_n hx hb dX11_gap_34 rfl (lv_at hl 0 rfl) ?_
      refine lv_iload_n hx hb dX11_gap_35 rfl (lv_at hl 1 rfl) ?_
      refine x_callVLr (q := 30) (C := RX11) (As := [.int (nI d)]) (rest := []) ⟨hx, hb, hml, hown, hts⟩ (ct_X11_gapBy l D cA α n _ hn S1 d (by omega) (by subst eS1; exact hdo)) (cwV 1 hts gX11_gap_X11_gapBy rfl rfl rfl (by decide +kernel) ⟨Nat.le_of_ble_eq_true rfl, Nat.le_of_ble_eq_true rfl⟩) hK hw hAw (ws_recv hK hw (q := 30) (Nat.lt_of_lt_of_le (Nat.le_of_ble_eq_true rfl : 30 < 191) hn) (mk_30 cA α) rfl) rfl hl.1 rfl (Nat.le_of_ble_eq_true rfl) dX11_gap_36 ⟨Nat.zero_le _, Nat.zero_le _⟩ (fun H locs hw => ?_)
      refine lv_goto (tgt := 43) hx hb dX11_gap_39 (by decide) ?_
      exact ret_l hx hb hr hlocks hK hw dX11_gap_43 (by subst eS1; rw [rGap_30]) (by subst_vars; rfl)

set_option maxRecDepth 100000 in
set_option maxHeartbeats 1000000 in
theorem ct_X11_gapX (l : Launch) (D : va_G) (cA : Nat → ClassId) (α : Nat → Nat) (n sz : Nat) (hn : 191 ≤ n) (S : Mem) (M : Nat) (hM : S.1 34 2 = nI M) (hM2 : M ≤ 100) (x : Int32) (hx9 : ¬ ∃ i, i < M ∧ x = nI i) : CtL l yX11_gap wsX11_gap ({ frames := 2, cells := 0, slots := 0, locals := 48 }) D cA α n sz [.ref (α 30), .int x] S 0 (setI S 30 0 (nI 1)) := by
  refine ct_enter cX11_gap 2 (some .long) (by decide) rfl (Nat.le_of_ble_eq_true rfl) ?_
  intro p e s m below meth c hx hb hr hml hlocks hown hts hK hsz hw ls hl
  have hown : s.vm.findClass RX11 = some m.cls := hown
  have hAw : ∀ z, Aw α n s.heap.size z → Aw α n sz z := by rw [hsz]; exact fun _ h => h
  have hl : lv_has ls 2 [(0, .ref (α 30)), (1, .int x)] := hl
  refine lv_aload_n hx hb dX11_gap_0 rfl (lv_at hl 0 rfl) ?_
  refine lv_iload_n hx hb dX11_gap_1 rfl (lv_at hl 1 rfl) ?_
  refine lv_i2l hx hb dX11_gap_2 rfl ?_
  refine lv_lconst (v := 0) hx hb dX11_gap_3 (by decide) ?_
  refine lv_aload_n hx hb dX11_gap_4 rfl (lv_at hl 0 rfl) ?_
  refine x_get (v := .ref (α 34)) (C := RX11) (T := TX11) (N := 24) hx hb hts (fun _ h => List.mem_cons_of_mem _ (List.mem_append_right _ h)) hown hK hw 30 (Nat.lt_of_lt_of_le (Nat.le_of_ble_eq_true rfl : 30 < 191) hn) (mk_30 cA α) rfl 13 (by decide) (hts _ (List.mem_of_getElem? (i := 1) rfl)) (fun _ h9 => h9) rfl dX11_gap_5 ?_
  refine lv_iconst (v := nI 2) hx hb dX11_gap_8 (by decide) ?_
  refine x_iald hx hb hK hw 34 1508 (Nat.lt_of_lt_of_le (Nat.le_of_ble_eq_true rfl : 34 < 191) hn) (mk_34 cA α) 2 rfl (by decide) (by decide) dX11_gap_9 ?_
  refine lv_iconst (v := nI 1) hx hb dX11_gap_10 (by decide) ?_
  refine lv_isub hx hb dX11_gap_11 ?_
  refine lv_i2l hx hb dX11_gap_12 rfl ?_
  refine x_callSIr (q := 0) (C := RX0) (As := [.long (x.toInt64), .long (0), .long (((S.1 34 2) - (nI 1)).toInt64)]) (rest := [.ref (α 30)]) ⟨hx, hb, hml, hown, hts⟩ (ct_X11_within l D cA α n _ hn S (x.toInt64) (0) (((S.1 34 2) - (nI 1)).toInt64)) (va_cwS 3 hts gX11_gap_X11_within rfl rfl rfl (by decide +kernel) ⟨Nat.le_of_ble_eq_true rfl, Nat.le_of_ble_eq_true rfl⟩) hK hw hAw rfl hl.1 rfl (Nat.le_of_ble_eq_true rfl) dX11_gap_13 ⟨Nat.zero_le _, Nat.zero_le _⟩ (fun H locs hw => ?_)
  refine xb_eq (b := (wiL (x.toInt64) (0) (((S.1 34 2) - (nI 1)).toInt64))) (tgt := 23) hx hb dX11_gap_16 (by decide) (fun c1 => ?_) (fun c1 => ?_)
  · skip
    refine lv_iconst (v := nI 1) hx hb dX11_gap_23 (by decide) ?_
    refine x_putI (x := nI 1) (ty := .int) (C := RX11) (T := TX11) (N := 24) hx hb hts (fun _ h => List.mem_cons_of_mem _ (List.mem_append_right _ h)) tyX11 tyX11_ok nmX11 hown hK hw 30 (Nat.lt_of_lt_of_le (Nat.le_of_ble_eq_true rfl : 30 < 191) hn) (mk_30 cA α) rfl 0 (by decide) (hts _ (List.mem_of_getElem? (i := 2) rfl)) (fun _ h9 => h9) rfl rfl rfl rfl (Nat.le_of_ble_eq_true rfl) rfl dX11_gap_24 (fun S1 eS1 H locs hw => ?_)
    refine lv_aload_n hx hb dX11_gap_27 rfl (lv_at hl 0 rfl) ?_
    refine x_get (v := .int (S1.1 30 0)) (C := RX11) (T := TX11) (N := 24) hx hb hts (fun _ h => List.mem_cons_of_mem _ (List.mem_append_right _ h)) hown hK hw 30 (Nat.lt_of_lt_of_le (Nat.le_of_ble_eq_true rfl : 30 < 191) hn) (mk_30 cA α) rfl 0 (by decide) (hts _ (List.mem_of_getElem? (i := 2) rfl)) (fun _ h9 => h9) rfl dX11_gap_28 ?_
    refine x_topN (k := 1) (by subst eS1; simp [sI_e, upd]) ?_
    refine xn_if_ne (tgt := 42) hx hb (by omega) dX11_gap_31 (by decide) (fun c2 => ?_) (fun c2 => ?_)
    · skip
      refine lv_lconst (v := 0) hx hb dX11_gap_42 (by decide) ?_
      exact ret_l hx hb hr hlocks hK hw dX11_gap_43 rfl (by subst_vars; rfl)
    · exact absurd c2 (by decide)
  · exact absurd (show wiL x.toInt64 0 (S.1 34 2 - nI 1).toInt64 = false by rw [show S.1 34 2 = nI M by skip; exact hM]; exact wi_f hx9 (by omega)) (by rw [c1]; decide)

def gGap (S : Mem) (x : Int32) (d : Nat) : Int64 := (if S.1 34 (1008 + 5 * d + 1) = x then rGap S d else 0) + (if S.1 34 (1008 + 5 * d + 2) = x then -(rGap S d) else 0)

set_option maxRecDepth 100000 in
set_option maxHeartbeats 1000000 in
theorem ct_X11_gapsOf (l : Launch) (D : va_G) (cA : Nat → ClassId) (α : Nat → Nat) (n sz : Nat) (hn : 191 ≤ n) (S : Mem) (Cn : Nat) (hC : S.1 33 1 = nI Cn) (hC2 : Cn ≤ 6) (i : Nat) (hi : i < Cn) (M : Nat) (hM : S.1 34 2 = nI M) (hM2 : M ≤ 100) (hdo : ∀ d, d < M → okI (S.1 34 (1008 + 5 * d + 0)) 6) : CtL l yX11_gapsOf wsX11_gapsOf ({ frames := 2, cells := 0, slots := 0, locals := 48 }) D cA α n sz [.ref (α 30), .int (nI i)] S (sumL (gGap S (nI i)) M) (setI S 30 0 (nI 0)) := by
  refine ct_enter cX11_gapsOf 5 (some .long) (by decide) rfl (Nat.le_of_ble_eq_true rfl) ?_
  intro p e s m below meth c hx hb hr hml hlocks hown hts hK hsz hw ls hl
  have hown : s.vm.findClass RX11 = some m.cls := hown
  have hAw : ∀ z, Aw α n s.heap.size z → Aw α n sz z := by rw [hsz]; exact fun _ h => h
  have hl : lv_has ls 5 [(0, .ref (α 30)), (1, .int (nI i))] := hl
  refine lv_aload_n hx hb dX11_gapsOf_0 rfl (lv_at hl 0 rfl) ?_
  refine lv_aload_n hx hb dX11_gapsOf_1 rfl (lv_at hl 0 rfl) ?_
  refine lv_iload_n hx hb dX11_gapsOf_2 rfl (lv_at hl 1 rfl) ?_
  refine x_callVIr (q := 30) (C := RX11) (As := [.int (nI i)]) (rest := [.ref (α 30)]) ⟨hx, hb, hml, hown, hts⟩ (ct_X11_isCompany l D cA α n _ hn S (nI i)) (cwV 1 hts gX11_gapsOf_X11_isCompany rfl rfl rfl (by decide +kernel) ⟨Nat.le_of_ble_eq_true rfl, Nat.le_of_ble_eq_true rfl⟩) hK hw hAw (ws_recv hK hw (q := 30) (Nat.lt_of_lt_of_le (Nat.le_of_ble_eq_true rfl : 30 < 191) hn) (mk_30 cA α) rfl) rfl hl.1 rfl (Nat.le_of_ble_eq_true rfl) dX11_gapsOf_3 ⟨Nat.zero_le _, Nat.zero_le _⟩ (fun H locs hw => ?_)
  refine xb_eq (b := (isCoR S (nI i))) (tgt := 13) hx hb dX11_gapsOf_6 (by decide) (fun c1 => ?_) (fun c1 => ?_)
  · exact absurd (isCo_t (S := S) (by skip; exact hC) hC2 hi) (by rw [c1]; decide)
  · skip
    refine lv_iconst (v := nI 0) hx hb dX11_gapsOf_9 (by decide) ?_
    refine lv_goto (tgt := 14) hx hb dX11_gapsOf_10 (by decide) ?_
    refine x_putI (x := nI 0) (ty := .int) (C := RX11) (T := TX11) (N := 24) hx hb hts (fun _ h => List.mem_cons_of_mem _ (List.mem_append_right _ h)) tyX11 tyX11_ok nmX11 hown hK hw 30 (Nat.lt_of_lt_of_le (Nat.le_of_ble_eq_true rfl : 30 < 191) hn) (mk_30 cA α) rfl 0 (by decide) (hts _ (List.mem_of_getElem? (i := 1) rfl)) (fun _ h9 => h9) rfl rfl rfl rfl (Nat.le_of_ble_eq_true rfl) rfl dX11_gapsOf_14 (fun S1 eS1 H locs hw => ?_)
    refine lv_lconst (v := 0) hx hb dX11_gapsOf_17 (by decide) ?_
    refine lv_lstore_n (lv' := [(2, .long 0), (0, .ref (α 30)), (1, .int (nI i))]) hx hb dX11_gapsOf_18 rfl hl (by decide) rfl (fun ls hl => ?_)
    refine lv_iconst (v := nI 0) hx hb dX11_gapsOf_19 (by decide) ?_
    refine lv_istore (lv' := [(4, .int (nI 0)), (2, .long 0), (0, .ref (α 30)), (1, .int (nI i))]) hx hb dX11_gapsOf_20 hl (by decide) rfl (fun ls hl => ?_)
    have lp22 : ∀ (t : Nat) (d : Nat) (acc : Int64) (H : Heap) (locs : List Loc) (ls : Array Slot), M - d < t → d ≤ M → acc = sumL (gGap S (nI i)) d → Ws D cA α n (Aw α n sz) s.heap S1 H locs → lv_has ls 5 [(0, .ref (α 30)), (1, .int (nI i)), (4, .int (nI d)), (2, .long acc)] → W p l e ({ frames := 2, cells := 0, slots := 0, locals := 48 } : Room) s m (List.toArray ([.ref (α 30), .int (nI i)] : List Value)) below meth c H locs 0 0 (MQ below (va_Ql (fun r u => r = (sumL (gGap S (nI i)) M) ∧ u = (setI S 30 0 (nI 0))) (Pw D cA α n) (Aw α n sz)) (List.toArray ([.ref (α 30), .int (nI i)] : List Value)) s 0 0 (Aw α n sz)) (F0 m 22 ls []) := by
      intro t
      induction t with
      | zero => intro d acc H locs ls ht; exact absurd ht (Nat.not_lt_zero _)
      | succ t ih22 =>
        intro d acc H locs ls ht hj hk hw hl
        refine lv_iload hx hb dX11_gapsOf_22 (lv_at hl 2 rfl) ?_
        refine lv_aload_n hx hb dX11_gapsOf_24 rfl (lv_at hl 0 rfl) ?_
        refine x_get (v := .ref (α 34)) (C := RX11) (T := TX11) (N := 24) hx hb hts (fun _ h => List.mem_cons_of_mem _ (List.mem_append_right _ h)) hown hK hw 30 (Nat.lt_of_lt_of_le (Nat.le_of_ble_eq_true rfl : 30 < 191) hn) (mk_30 cA α) rfl 13 (by decide) (hts _ (List.mem_of_getElem? (i := 2) rfl)) (fun _ h9 => h9) rfl dX11_gapsOf_25 ?_
        refine lv_iconst (v := nI 2) hx hb dX11_gapsOf_28 (by decide) ?_
        refine x_iald hx hb hK hw 34 1508 (Nat.lt_of_lt_of_le (Nat.le_of_ble_eq_true rfl : 34 < 191) hn) (mk_34 cA α) 2 rfl (by decide) (by decide) dX11_gapsOf_29 ?_
        refine x_topN (k := M) (by subst eS1; exact hM) ?_
        refine xn_icmp_ge (tgt := 86) hx hb (by omega) (by omega) dX11_gapsOf_30 (by decide) (fun c2 => ?_) (fun c2 => ?_)
        · skip
          refine lv_lload_n hx hb dX11_gapsOf_86 rfl (lv_at hl 3 rfl) ?_
          exact ret_l hx hb hr hlocks hK hw dX11_gapsOf_87 (by rw [hk, show d = M by omega]) (by subst_vars; rfl)
        · skip
          refine lv_aload_n hx hb dX11_gapsOf_33 rfl (lv_at hl 0 rfl) ?_
          refine x_get (v := .int (S1.1 30 0)) (C := RX11) (T := TX11) (N := 24) hx hb hts (fun _ h => List.mem_cons_of_mem _ (List.mem_append_right _ h)) hown hK hw 30 (Nat.lt_of_lt_of_le (Nat.le_of_ble_eq_true rfl : 30 < 191) hn) (mk_30 cA α) rfl 0 (by decide) (hts _ (List.mem_of_getElem? (i := 1) rfl)) (fun _ h9 => h9) rfl dX11_gapsOf_34 ?_
          refine x_topN (k := 0) (by subst eS1; simp [sI_e, upd]) ?_
          refine xn_if_ne (tgt := 86) hx hb (by omega) dX11_gapsOf_37 (by decide) (fun c3 => ?_) (fun c3 => ?_)
          · exact absurd rfl c3
          · skip
            refine lv_aload_n hx hb dX11_gapsOf_40 rfl (lv_at hl 0 rfl) ?_
            refine lv_iload hx hb dX11_gapsOf_41 (lv_at hl 2 rfl) ?_
            refine lv_iconst (v := nI 1) hx hb dX11_gapsOf_43 (by decide) ?_
            refine x_callVIr (q := 30) (C := RX11) (As := [.int (nI d), .int (nI 1)]) (rest := []) ⟨hx, hb, hml, hown, hts⟩ (ct_X11_delivery l D cA α n _ hn S1 d 1 (by omega)) (cwV 2 hts gX11_gapsOf_X11_delivery rfl rfl rfl (by decide +kernel) ⟨Nat.le_of_ble_eq_true rfl, Nat.le_of_ble_eq_true rfl⟩) hK hw hAw (ws_recv hK hw (q := 30) (Nat.lt_of_lt_of_le (Nat.le_of_ble_eq_true rfl : 30 < 191) hn) (mk_30 cA α) rfl) rfl hl.1 rfl (Nat.le_of_ble_eq_true rfl) dX11_gapsOf_44 ⟨Nat.zero_le _, Nat.zero_le _⟩ (fun H locs hw => ?_)
            refine x_topE (y := S.1 34 (1008 + 5 * d + 1)) (by subst_vars; rfl) ?_
            refine lv_iload_n hx hb dX11_gapsOf_47 rfl (lv_at hl 1 rfl) ?_
            refine lv_icmp_ne (tgt := 60) hx hb dX11_gapsOf_48 (by decide) (fun c4 => ?_) (fun c4 => ?_)
            · skip
              refine lv_aload_n hx hb dX11_gapsOf_60 rfl (lv_at hl 0 rfl) ?_
              refine lv_iload hx hb dX11_gapsOf_61 (lv_at hl 2 rfl) ?_
              refine lv_iconst (v := nI 2) hx hb dX11_gapsOf_63 (by decide) ?_
              refine x_callVIr (q := 30) (C := RX11) (As := [.int (nI d), .int (nI 2)]) (rest := []) ⟨hx, hb, hml, hown, hts⟩ (ct_X11_delivery l D cA α n _ hn S1 d 2 (by omega)) (cwV 2 hts gX11_gapsOf_X11_delivery rfl rfl rfl (by decide +kernel) ⟨Nat.le_of_ble_eq_true rfl, Nat.le_of_ble_eq_true rfl⟩) hK hw hAw (ws_recv hK hw (q := 30) (Nat.lt_of_lt_of_le (Nat.le_of_ble_eq_true rfl : 30 < 191) hn) (mk_30 cA α) rfl) rfl hl.1 rfl (Nat.le_of_ble_eq_true rfl) dX11_gapsOf_64 ⟨Nat.zero_le _, Nat.zero_le _⟩ (fun H locs hw => ?_)
              refine x_topE (y := S.1 34 (1008 + 5 * d + 2)) (by subst_vars; rfl) ?_
              refine lv_iload_n hx hb dX11_gapsOf_67 rfl (lv_at hl 1 rfl) ?_
              refine lv_icmp_ne (tgt := 80) hx hb dX11_gapsOf_68 (by decide) (fun c5 => ?_) (fun c5 => ?_)
              · skip
                refine lv_iinc (v := nI (d + 1)) (lv' := [(4, .int (nI (d + 1))), (0, .ref (α 30)), (1, .int (nI i)), (2, .long acc)]) hx hb dX11_gapsOf_80 hl (k := 2) rfl (nI_1 _) (by decide) rfl (fun ls hl => ?_)
                refine lv_goto (tgt := 22) hx hb dX11_gapsOf_83 (by decide) ?_
                exact ih22 (d + 1) acc _ _ _ (by omega) (by omega) (by rw [sumL, ← hk]; unfold gGap; simp only [c1, if_pos c2, if_neg (not_not_intro c2), decide_eq_true c2, if_pos c3, if_neg (not_not_intro c3), decide_eq_true c3, if_neg c4, if_pos c4, decide_eq_false c4, if_neg c5, if_pos c5, decide_eq_false c5, if_true, if_false, eq_self, Bool.false_eq_true, not_true_eq_false, not_false_eq_true, decide_true, decide_false, Bool.and_true, Bool.true_and, Bool.and_false, Bool.false_and, Bool.not_true, Bool.not_false, Bool.or_true, Bool.true_or, Bool.or_false, Bool.false_or, reduceIte, b2i_t, b2i_f, Int64.add_zero, Int64.zero_add, Int64.sub_eq_add_neg, Int64.add_assoc]) hw (lv_sub hl [1, 2, 0, 3] rfl)
              · skip
                refine lv_lload_n hx hb dX11_gapsOf_71 rfl (lv_at hl 3 rfl) ?_
                refine lv_aload_n hx hb dX11_gapsOf_72 rfl (lv_at hl 0 rfl) ?_
                refine lv_iload hx hb dX11_gapsOf_73 (lv_at hl 2 rfl) ?_
                refine x_callVLr (q := 30) (C := RX11) (As := [.int (nI d)]) (rest := [.long acc]) ⟨hx, hb, hml, hown, hts⟩ (ct_X11_gapBy l D cA α n _ hn S1 d (by omega) (by subst eS1; exact hdo d (by omega))) (cwV 1 hts gX11_gapsOf_X11_gapBy rfl rfl rfl (by decide +kernel) ⟨Nat.le_of_ble_eq_true rfl, Nat.le_of_ble_eq_true rfl⟩) hK hw hAw (ws_recv hK hw (q := 30) (Nat.lt_of_lt_of_le (Nat.le_of_ble_eq_true rfl : 30 < 191) hn) (mk_30 cA α) rfl) rfl hl.1 rfl (Nat.le_of_ble_eq_true rfl) dX11_gapsOf_75 ⟨Nat.zero_le _, Nat.zero_le _⟩ (fun H locs hw => ?_)
                refine x_topEL (y := rGap S d) (by rw [eS1, rGap_30]) ?_
                refine lv_lsub hx hb dX11_gapsOf_78 ?_
                refine lv_lstore_n (lv' := [(2, .long (acc - (rGap S d))), (0, .ref (α 30)), (1, .int (nI i)), (4, .int (nI d))]) hx hb dX11_gapsOf_79 rfl hl (by decide) rfl (fun ls hl => ?_)
                refine lv_iinc (v := nI (d + 1)) (lv' := [(4, .int (nI (d + 1))), (2, .long (acc - (rGap S d))), (0, .ref (α 30)), (1, .int (nI i))]) hx hb dX11_gapsOf_80 hl (k := 3) rfl (nI_1 _) (by decide) rfl (fun ls hl => ?_)
                refine lv_goto (tgt := 22) hx hb dX11_gapsOf_83 (by decide) ?_
                exact ih22 (d + 1) (acc - (rGap S d)) _ _ _ (by omega) (by omega) (by rw [sumL, ← hk]; unfold gGap; simp only [c1, if_pos c2, if_neg (not_not_intro c2), decide_eq_true c2, if_pos c3, if_neg (not_not_intro c3), decide_eq_true c3, if_neg c4, if_pos c4, decide_eq_false c4, if_pos c5, if_neg (not_not_intro c5), decide_eq_true c5, if_true, if_false, eq_self, Bool.false_eq_true, not_true_eq_false, not_false_eq_true, decide_true, decide_false, Bool.and_true, Bool.true_and, Bool.and_false, Bool.false_and, Bool.not_true, Bool.not_false, Bool.or_true, Bool.true_or, Bool.or_false, Bool.false_or, reduceIte, b2i_t, b2i_f, Int64.add_zero, Int64.zero_add, Int64.sub_eq_add_neg, Int64.add_assoc]) hw (lv_sub hl [2, 3, 0, 1] rfl)
            · skip
              refine lv_lload_n hx hb dX11_gapsOf_51 rfl (lv_at hl 3 rfl) ?_
              refine lv_aload_n hx hb dX11_gapsOf_52 rfl (lv_at hl 0 rfl) ?_
              refine lv_iload hx hb dX11_gapsOf_53 (lv_at hl 2 rfl) ?_
              refine x_callVLr (q := 30) (C := RX11) (As := [.int (nI d)]) (rest := [.long acc]) ⟨hx, hb, hml, hown, hts⟩ (ct_X11_gapBy l D cA α n _ hn S1 d (by omega) (by subst eS1; exact hdo d (by omega))) (cwV 1 hts gX11_gapsOf_X11_gapBy rfl rfl rfl (by decide +kernel) ⟨Nat.le_of_ble_eq_true rfl, Nat.le_of_ble_eq_true rfl⟩) hK hw hAw (ws_recv hK hw (q := 30) (Nat.lt_of_lt_of_le (Nat.le_of_ble_eq_true rfl : 30 < 191) hn) (mk_30 cA α) rfl) rfl hl.1 rfl (Nat.le_of_ble_eq_true rfl) dX11_gapsOf_55 ⟨Nat.zero_le _, Nat.zero_le _⟩ (fun H locs hw => ?_)
              refine x_topEL (y := rGap S d) (by rw [eS1, rGap_30]) ?_
              refine lv_ladd hx hb dX11_gapsOf_58 ?_
              refine lv_lstore_n (lv' := [(2, .long (acc + (rGap S d))), (0, .ref (α 30)), (1, .int (nI i)), (4, .int (nI d))]) hx hb dX11_gapsOf_59 rfl hl (by decide) rfl (fun ls hl => ?_)
              refine lv_aload_n hx hb dX11_gapsOf_60 rfl (lv_at hl 1 rfl) ?_
              refine lv_iload hx hb dX11_gapsOf_61 (lv_at hl 3 rfl) ?_
              refine lv_iconst (v := nI 2) hx hb dX11_gapsOf_63 (by decide) ?_
              refine x_callVIr (q := 30) (C := RX11) (As := [.int (nI d), .int (nI 2)]) (rest := []) ⟨hx, hb, hml, hown, hts⟩ (ct_X11_delivery l D cA α n _ hn S1 d 2 (by omega)) (cwV 2 hts gX11_gapsOf_X11_delivery rfl rfl rfl (by decide +kernel) ⟨Nat.le_of_ble_eq_true rfl, Nat.le_of_ble_eq_true rfl⟩) hK hw hAw (ws_recv hK hw (q := 30) (Nat.lt_of_lt_of_le (Nat.le_of_ble_eq_true rfl : 30 < 191) hn) (mk_30 cA α) rfl) rfl hl.1 rfl (Nat.le_of_ble_eq_true rfl) dX11_gapsOf_64 ⟨Nat.zero_le _, Nat.zero_le _⟩ (fun H locs hw => ?_)
              refine x_topE (y := S.1 34 (1008 + 5 * d + 2)) (by subst_vars; rfl) ?_
              refine lv_iload_n hx hb dX11_gapsOf_67 rfl (lv_at hl 2 rfl) ?_
              refine lv_icmp_ne (tgt := 80) hx hb dX11_gapsOf_68 (by decide) (fun c6 => ?_) (fun c6 => ?_)
              · skip
                refine lv_iinc (v := nI (d + 1)) (lv' := [(4, .int (nI (d + 1))), (2, .long (acc + (rGap S d))), (0, .ref (α 30)), (1, .int (nI i))]) hx hb dX11_gapsOf_80 hl (k := 3) rfl (nI_1 _) (by decide) rfl (fun ls hl => ?_)
                refine lv_goto (tgt := 22) hx hb dX11_gapsOf_83 (by decide) ?_
                exact ih22 (d + 1) (acc + (rGap S d)) _ _ _ (by omega) (by omega) (by rw [sumL, ← hk]; unfold gGap; simp only [c1, if_pos c2, if_neg (not_not_intro c2), decide_eq_true c2, if_pos c3, if_neg (not_not_intro c3), decide_eq_true c3, if_pos c4, if_neg (not_not_intro c4), decide_eq_true c4, if_neg c6, if_pos c6, decide_eq_false c6, if_true, if_false, eq_self, Bool.false_eq_true, not_true_eq_false, not_false_eq_true, decide_true, decide_false, Bool.and_true, Bool.true_and, Bool.and_false, Bool.false_and, Bool.not_true, Bool.not_false, Bool.or_true, Bool.true_or, Bool.or_false, Bool.false_or, reduceIte, b2i_t, b2i_f, Int64.add_zero, Int64.zero_add, Int64.sub_eq_add_neg, Int64.add_assoc]) hw (lv_sub hl [2, 3, 0, 1] rfl)
              · skip
                refine lv_lload_n hx hb dX11_gapsOf_71 rfl (lv_at hl 0 rfl) ?_
                refine lv_aload_n hx hb dX11_gapsOf_72 rfl (lv_at hl 1 rfl) ?_
                refine lv_iload hx hb dX11_gapsOf_73 (lv_at hl 3 rfl) ?_
                refine x_callVLr (q := 30) (C := RX11) (As := [.int (nI d)]) (rest := [.long (acc + (rGap S d))]) ⟨hx, hb, hml, hown, hts⟩ (ct_X11_gapBy l D cA α n _ hn S1 d (by omega) (by subst eS1; exact hdo d (by omega))) (cwV 1 hts gX11_gapsOf_X11_gapBy rfl rfl rfl (by decide +kernel) ⟨Nat.le_of_ble_eq_true rfl, Nat.le_of_ble_eq_true rfl⟩) hK hw hAw (ws_recv hK hw (q := 30) (Nat.lt_of_lt_of_le (Nat.le_of_ble_eq_true rfl : 30 < 191) hn) (mk_30 cA α) rfl) rfl hl.1 rfl (Nat.le_of_ble_eq_true rfl) dX11_gapsOf_75 ⟨Nat.zero_le _, Nat.zero_le _⟩ (fun H locs hw => ?_)
                refine x_topEL (y := rGap S d) (by rw [eS1, rGap_30]) ?_
                refine lv_lsub hx hb dX11_gapsOf_78 ?_
                refine lv_lstore_n (lv' := [(2, .long ((acc + (rGap S d)) - (rGap S d))), (0, .ref (α 30)), (1, .int (nI i)), (4, .int (nI d))]) hx hb dX11_gapsOf_79 rfl hl (by decide) rfl (fun ls hl => ?_)
                refine lv_iinc (v := nI (d + 1)) (lv' := [(4, .int (nI (d + 1))), (2, .long ((acc + (rGap S d)) - (rGap S d))), (0, .ref (α 30)), (1, .int (nI i))]) hx hb dX11_gapsOf_80 hl (k := 3) rfl (nI_1 _) (by decide) rfl (fun ls hl => ?_)
                refine lv_goto (tgt := 22) hx hb dX11_gapsOf_83 (by decide) ?_
                exact ih22 (d + 1) ((acc + (rGap S d)) - (rGap S d)) _ _ _ (by omega) (by omega) (by rw [sumL, ← hk]; unfold gGap; simp only [c1, if_pos c2, if_neg (not_not_intro c2), decide_eq_true c2, if_pos c3, if_neg (not_not_intro c3), decide_eq_true c3, if_pos c4, if_neg (not_not_intro c4), decide_eq_true c4, if_pos c6, if_neg (not_not_intro c6), decide_eq_true c6, if_true, if_false, eq_self, Bool.false_eq_true, not_true_eq_false, not_false_eq_true, decide_true, decide_false, Bool.and_true, Bool.true_and, Bool.and_false, Bool.false_and, Bool.not_true, Bool.not_false, Bool.or_true, Bool.true_or, Bool.or_false, Bool.false_or, reduceIte, b2i_t, b2i_f, Int64.add_zero, Int64.zero_add, Int64.sub_eq_add_neg, Int64.add_assoc]) hw (lv_sub hl [2, 3, 0, 1] rfl)
    exact lp22 _ 0 0 _ _ _ (Nat.lt_succ_self _) (Nat.zero_le _) rfl hw (lv_sub hl [2, 3, 0, 1] rfl)

set_option maxRecDepth 100000 in
set_option maxHeartbeats 1000000 in
theorem ct_X11_gapsOfX (l : Launch) (D : va_G) (cA : Nat → ClassId) (α : Nat → Nat) (n sz : Nat) (hn : 191 ≤ n) (S : Mem) (Cn : Nat) (hC : S.1 33 1 = nI Cn) (hC2 : Cn ≤ 6) (x : Int32) (hx9 : ¬ ∃ i, i < Cn ∧ x = nI i) (M : Nat) (hM : S.1 34 2 = nI M) (hM2 : M ≤ 100) : CtL l yX11_gapsOf wsX11_gapsOf ({ frames := 2, cells := 0, slots := 0, locals := 48 }) D cA α n sz [.ref (α 30), .int x] S 0 (setI S 30 0 (nI 1)) := by
  refine ct_enter cX11_gapsOf 5 (some .long) (by decide) rfl (Nat.le_of_ble_eq_true rfl) ?_
  intro p e s m below meth c hx hb hr hml hlocks hown hts hK hsz hw ls hl
  have hown : s.vm.findClass RX11 = some m.cls := hown
  have hAw : ∀ z, Aw α n s.heap.size z → Aw α n sz z := by rw [hsz]; exact fun _ h => h
  have hl : lv_has ls 5 [(0, .ref (α 30)), (1, .int x)] := hl
  refine lv_aload_n hx hb dX11_gapsOf_0 rfl (lv_at hl 0 rfl) ?_
  refine lv_aload_n hx hb dX11_gapsOf_1 rfl (lv_at hl 0 rfl) ?_
  refine lv_iload_n hx hb dX11_gapsOf_2 rfl (lv_at hl 1 rfl) ?_
  refine x_callVIr (q := 30) (C := RX11) (As := [.int x]) (rest := [.ref (α 30)]) ⟨hx, hb, hml, hown, hts⟩ (ct_X11_isCompany l D cA α n _ hn S x) (cwV 1 hts gX11_gapsOf_X11_isCompany rfl rfl rfl (by decide +kernel) ⟨Nat.le_of_ble_eq_true rfl, Nat.le_of_ble_eq_true rfl⟩) hK hw hAw (ws_recv hK hw (q := 30) (Nat.lt_of_lt_of_le (Nat.le_of_ble_eq_true rfl : 30 < 191) hn) (mk_30 cA α) rfl) rfl hl.1 rfl (Nat.le_of_ble_eq_true rfl) dX11_gapsOf_3 ⟨Nat.zero_le _, Nat.zero_le _⟩ (fun H locs hw => ?_)
  refine xb_eq (b := (isCoR S x)) (tgt := 13) hx hb dX11_gapsOf_6 (by decide) (fun c1 => ?_) (fun c1 => ?_)
  · skip
    refine lv_iconst (v := nI 1) hx hb dX11_gapsOf_13 (by decide) ?_
    refine x_putI (x := nI 1) (ty := .int) (C := RX11) (T := TX11) (N := 24) hx hb hts (fun _ h => List.mem_cons_of_mem _ (List.mem_append_right _ h)) tyX11 tyX11_ok nmX11 hown hK hw 30 (Nat.lt_of_lt_of_le (Nat.le_of_ble_eq_true rfl : 30 < 191) hn) (mk_30 cA α) rfl 0 (by decide) (hts _ (List.mem_of_getElem? (i := 1) rfl)) (fun _ h9 => h9) rfl rfl rfl rfl (Nat.le_of_ble_eq_true rfl) rfl dX11_gapsOf_14 (fun S1 eS1 H locs hw => ?_)
    refine lv_lconst (v := 0) hx hb dX11_gapsOf_17 (by decide) ?_
    refine lv_lstore_n (lv' := [(2, .long 0), (0, .ref (α 30)), (1, .int x)]) hx hb dX11_gapsOf_18 rfl hl (by decide) rfl (fun ls hl => ?_)
    refine lv_iconst (v := nI 0) hx hb dX11_gapsOf_19 (by decide) ?_
    refine lv_istore (lv' := [(4, .int (nI 0)), (2, .long 0), (0, .ref (α 30)), (1, .int x)]) hx hb dX11_gapsOf_20 hl (by decide) rfl (fun ls hl => ?_)
    refine lv_iload hx hb dX11_gapsOf_22 (lv_at hl 0 rfl) ?_
    refine lv_aload_n hx hb dX11_gapsOf_24 rfl (lv_at hl 2 rfl) ?_
    refine x_get (v := .ref (α 34)) (C := RX11) (T := TX11) (N := 24) hx hb hts (fun _ h => List.mem_cons_of_mem _ (List.mem_append_right _ h)) hown hK hw 30 (Nat.lt_of_lt_of_le (Nat.le_of_ble_eq_true rfl : 30 < 191) hn) (mk_30 cA α) rfl 13 (by decide) (hts _ (List.mem_of_getElem? (i := 2) rfl)) (fun _ h9 => h9) rfl dX11_gapsOf_25 ?_
    refine lv_iconst (v := nI 2) hx hb dX11_gapsOf_28 (by decide) ?_
    refine x_iald hx hb hK hw 34 1508 (Nat.lt_of_lt_of_le (Nat.le_of_ble_eq_true rfl : 34 < 191) hn) (mk_34 cA α) 2 rfl (by decide) (by decide) dX11_gapsOf_29 ?_
    refine x_topN (k := M) (by subst eS1; exact hM) ?_
    refine xn_icmp_ge (tgt := 86) hx hb (by decide) (by omega) dX11_gapsOf_30 (by decide) (fun c2 => ?_) (fun c2 => ?_)
    · skip
      refine lv_lload_n hx hb dX11_gapsOf_86 rfl (lv_at hl 1 rfl) ?_
      exact ret_l hx hb hr hlocks hK hw dX11_gapsOf_87 rfl (by subst_vars; rfl)
    · skip
      refine lv_aload_n hx hb dX11_gapsOf_33 rfl (lv_at hl 2 rfl) ?_
      refine x_get (v := .int (S1.1 30 0)) (C := RX11) (T := TX11) (N := 24) hx hb hts (fun _ h => List.mem_cons_of_mem _ (List.mem_append_right _ h)) hown hK hw 30 (Nat.lt_of_lt_of_le (Nat.le_of_ble_eq_true rfl : 30 < 191) hn) (mk_30 cA α) rfl 0 (by decide) (hts _ (List.mem_of_getElem? (i := 1) rfl)) (fun _ h9 => h9) rfl dX11_gapsOf_34 ?_
      refine x_topN (k := 1) (by subst eS1; simp [sI_e, upd]) ?_
      refine xn_if_ne (tgt := 86) hx hb (by omega) dX11_gapsOf_37 (by decide) (fun c3 => ?_) (fun c3 => ?_)
      · skip
        refine lv_lload_n hx hb dX11_gapsOf_86 rfl (lv_at hl 1 rfl) ?_
        exact ret_l hx hb hr hlocks hK hw dX11_gapsOf_87 rfl (by subst_vars; rfl)
      · exact absurd c3 (by decide)
  · exact absurd (isCo_f (S := S) (by skip; exact hC) hC2 hx9) (by rw [c1]; decide)

def rBt (S : Mem) (N a b : Nat) : Bool := !decide (sumL (gBet S (nI a) (nI b)) N = 0)
def rBr (S : Mem) (N a b : Nat) : Bool := decide (a < b) && rBt S N a b
theorem rBr_lo (S : Mem) (N a : Nat) : ∀ n, n ≤ a + 1 → cnt (rBr S N a) n = 0
  | 0, _ => rfl
  | n + 1, h => by
    rw [cnt, rBr_lo S N a n (by omega)]
    have : rBr S N a n = false := by unfold rBr; rw [decide_eq_false (by omega)]; rfl
    rw [this]; rfl

set_option maxRecDepth 100000 in
set_option maxHeartbeats 1000000 in
theorem ct_X11_directPayments (l : Launch) (D : va_G) (cA : Nat → ClassId) (α : Nat → Nat) (n sz : Nat) (hn : 191 ≤ n) (S : Mem) (Cn : Nat) (hC : S.1 33 1 = nI Cn) (hC2 : Cn ≤ 6) (N : Nat) (hN : S.1 34 0 = nI N) (hN2 : N ≤ 100) (ho : ∀ j, j < N → okR S j) : CtI l yX11_directPayments wsX11_directPayments ({ frames := 4, cells := 0, slots := 0, locals := 89 }) D cA α n sz [.ref (α 30)] S (nI (sumN (fun a => cnt (rBr S N a) Cn) Cn)) (setI S 30 0 (nI 0)) := by
  refine ct_enter cX11_directPayments 4 (some .int) (by decide) rfl (Nat.le_of_ble_eq_true rfl) ?_
  intro p e s m below meth c hx hb hr hml hlocks hown hts hK hsz hw ls hl
  have hown : s.vm.findClass RX11 = some m.cls := hown
  have hAw : ∀ z, Aw α n s.heap.size z → Aw α n sz z := by rw [hsz]; exact fun _ h => h
  have hl : lv_has ls 4 [(0, .ref (α 30))] := hl
  refine lv_iconst (v := nI 0) hx hb dX11_directPayments_0 (by decide) ?_
  refine lv_istore_n (lv' := [(1, .int (nI 0)), (0, .ref (α 30))]) hx hb dX11_directPayments_1 rfl hl (by decide) rfl (fun ls hl => ?_)
  refine lv_iconst (v := nI 0) hx hb dX11_directPayments_2 (by decide) ?_
  refine lv_istore_n (lv' := [(2, .int (nI 0)), (1, .int (nI 0)), (0, .ref (α 30))]) hx hb dX11_directPayments_3 rfl hl (by decide) rfl (fun ls hl => ?_)
  have lp4 : ∀ (t : Nat) (a : Nat) (k : Nat) (H : Heap) (locs : List Loc) (ls : Array Slot), Cn - a < t → a ≤ Cn → k = sumN (fun a => cnt (rBr S N a) Cn) a → Ws D cA α n (Aw α n sz) s.heap S H locs → lv_has ls 4 [(0, .ref (α 30)), (2, .int (nI a)), (1, .int (nI k))] → W p l e ({ frames := 4, cells := 0, slots := 0, locals := 89 } : Room) s m (List.toArray ([.ref (α 30)] : List Value)) below meth c H locs 0 0 (MQ below (va_Qi (fun r u => r = (nI (sumN (fun a => cnt (rBr S N a) Cn) Cn)) ∧ u = (setI S 30 0 (nI 0))) (Pw D cA α n) (Aw α n sz)) (List.toArray ([.ref (α 30)] : List Value)) s 0 0 (Aw α n sz)) (F0 m 4 ls []) := by
    intro t
    induction t with
    | zero => intro a k H locs ls ht; exact absurd ht (Nat.not_lt_zero _)
    | succ t ih4 =>
      intro a k H locs ls ht ha hk hw hl
      refine lv_iload_n hx hb dX11_directPayments_4 rfl (lv_at hl 1 rfl) ?_
      refine lv_aload_n hx hb dX11_directPayments_5 rfl (lv_at hl 0 rfl) ?_
      refine x_get (v := .ref (α 33)) (C := RX11) (T := TX11) (N := 24) hx hb hts (fun _ h => List.mem_cons_of_mem _ (List.mem_append_right _ h)) hown hK hw 30 (Nat.lt_of_lt_of_le (Nat.le_of_ble_eq_true rfl : 30 < 191) hn) (mk_30 cA α) rfl 11 (by decide) (hts _ (List.mem_of_getElem? (i := 1) rfl)) (fun _ h9 => h9) rfl dX11_directPayments_6 ?_
      refine lv_iconst (v := nI 1) hx hb dX11_directPayments_9 (by decide) ?_
      refine x_iald hx hb hK hw 33 40 (Nat.lt_of_lt_of_le (Nat.le_of_ble_eq_true rfl : 33 < 191) hn) (mk_33 cA α) 1 rfl (by decide) (by decide) dX11_directPayments_10 ?_
      refine x_topN (k := Cn) hC ?_
      refine xn_icmp_ge (tgt := 54) hx hb (by omega) (by omega) dX11_directPayments_11 (by decide) (fun c1 => ?_) (fun c1 => ?_)
      · skip
        refine lv_aload_n hx hb dX11_directPayments_54 rfl (lv_at hl 0 rfl) ?_
        refine lv_iload_n hx hb dX11_directPayments_55 rfl (lv_at hl 2 rfl) ?_
        refine x_callVI (q := 30) (C := RX11) (As := [.int (nI k)]) (rest := []) ⟨hx, hb, hml, hown, hts⟩ (ct_X11_told l D cA α n _ hn S (nI k)) (cwV 1 hts gX11_directPayments_X11_told rfl rfl rfl (by decide +kernel) ⟨Nat.le_of_ble_eq_true rfl, Nat.le_of_ble_eq_true rfl⟩) hK hw hAw (ws_recv hK hw (q := 30) (Nat.lt_of_lt_of_le (Nat.le_of_ble_eq_true rfl : 30 < 191) hn) (mk_30 cA α) rfl) rfl hl.1 rfl (Nat.le_of_ble_eq_true rfl) dX11_directPayments_56 ⟨Nat.zero_le _, Nat.zero_le _⟩ (fun S1 eS1 H locs hw => ?_)
        exact ret_i hx hb hr hlocks hK hw dX11_directPayments_59 (by rw [hk, show a = Cn by omega]) (by subst eS1; rfl)
      · skip
        refine lv_iload_n hx hb dX11_directPayments_14 rfl (lv_at hl 1 rfl) ?_
        refine lv_iconst (v := nI 1) hx hb dX11_directPayments_15 (by decide) ?_
        refine xn_iadd hx hb dX11_directPayments_16 ?_
        refine lv_istore_n (lv' := [(3, .int (nI (a + 1))), (0, .ref (α 30)), (2, .int (nI a)), (1, .int (nI k))]) hx hb dX11_directPayments_17 rfl hl (by decide) rfl (fun ls hl => ?_)
        have lp18 : ∀ (t : Nat) (b : Nat) (k2 : Nat) (H : Heap) (locs : List Loc) (ls : Array Slot), Cn - b < t → a + 1 ≤ b → b ≤ Cn → k2 = k + cnt (rBr S N a) b → Ws D cA α n (Aw α n sz) s.heap S H locs → lv_has ls 4 [(0, .ref (α 30)), (2, .int (nI a)), (3, .int (nI b)), (1, .int (nI k2))] → W p l e ({ frames := 4, cells := 0, slots := 0, locals := 89 } : Room) s m (List.toArray ([.ref (α 30)] : List Value)) below meth c H locs 0 0 (MQ below (va_Qi (fun r u => r = (nI (sumN (fun a => cnt (rBr S N a) Cn) Cn)) ∧ u = (setI S 30 0 (nI 0))) (Pw D cA α n) (Aw α n sz)) (List.toArray ([.ref (α 30)] : List Value)) s 0 0 (Aw α n sz)) (F0 m 18 ls []) := by
          intro t
          induction t with
          | zero => intro b k2 H locs ls ht; exact absurd ht (Nat.not_lt_zero _)
          | succ t ih18 =>
            intro b k2 H locs ls ht hb0 hb2 hk2 hw hl
            refine lv_iload_n hx hb dX11_directPayments_18 rfl (lv_at hl 2 rfl) ?_
            refine lv_aload_n hx hb dX11_directPayments_19 rfl (lv_at hl 0 rfl) ?_
            refine x_get (v := .ref (α 33)) (C := RX11) (T := TX11) (N := 24) hx hb hts (fun _ h => List.mem_cons_of_mem _ (List.mem_append_right _ h)) hown hK hw 30 (Nat.lt_of_lt_of_le (Nat.le_of_ble_eq_true rfl : 30 < 191) hn) (mk_30 cA α) rfl 11 (by decide) (hts _ (List.mem_of_getElem? (i := 1) rfl)) (fun _ h9 => h9) rfl dX11_directPayments_20 ?_
            refine lv_iconst (v := nI 1) hx hb dX11_directPayments_23 (by decide) ?_
            refine x_iald hx hb hK hw 33 40 (Nat.lt_of_lt_of_le (Nat.le_of_ble_eq_true rfl : 33 < 191) hn) (mk_33 cA α) 1 rfl (by decide) (by decide) dX11_directPayments_24 ?_
            refine x_topN (k := Cn) hC ?_
            refine xn_icmp_ge (tgt := 48) hx hb (by omega) (by omega) dX11_directPayments_25 (by decide) (fun c2 => ?_) (fun c2 => ?_)
            · skip
              refine lv_iinc (v := nI (a + 1)) (lv' := [(2, .int (nI (a + 1))), (0, .ref (α 30)), (3, .int (nI b)), (1, .int (nI k2))]) hx hb dX11_directPayments_48 hl (k := 1) rfl (nI_1 _) (by decide) rfl (fun ls hl => ?_)
              refine lv_goto (tgt := 4) hx hb dX11_directPayments_51 (by decide) ?_
              exact ih4 (a + 1) k2 _ _ _ (by omega) (by omega) (by rw [sumN, ← hk, hk2, show b = Cn by omega]) hw (lv_sub hl [1, 0, 3] rfl)
            · skip
              refine lv_aload_n hx hb dX11_directPayments_28 rfl (lv_at hl 0 rfl) ?_
              refine lv_iload_n hx hb dX11_directPayments_29 rfl (lv_at hl 1 rfl) ?_
              refine lv_iload_n hx hb dX11_directPayments_30 rfl (lv_at hl 2 rfl) ?_
              refine x_callVLr (q := 30) (C := RX11) (As := [.int (nI a), .int (nI b)]) (rest := []) ⟨hx, hb, hml, hown, hts⟩ (ct_X11_between l D cA α n _ hn S (nI a) (nI b) N hN hN2 ho) (cwV 2 hts gX11_directPayments_X11_between rfl rfl rfl (by decide +kernel) ⟨Nat.le_of_ble_eq_true rfl, Nat.le_of_ble_eq_true rfl⟩) hK hw hAw (ws_recv hK hw (q := 30) (Nat.lt_of_lt_of_le (Nat.le_of_ble_eq_true rfl : 30 < 191) hn) (mk_30 cA α) rfl) rfl hl.1 rfl (Nat.le_of_ble_eq_true rfl) dX11_directPayments_31 ⟨Nat.zero_le _, Nat.zero_le _⟩ (fun H locs hw => ?_)
              refine lv_lconst (v := 0) hx hb dX11_directPayments_34 (by decide) ?_
              refine x_lcmp_eq (tgt := 42) hx hb dX11_directPayments_35 dX11_directPayments_36 (by decide) (fun c3 => ?_) (fun c3 => ?_)
              · skip
                refine lv_iinc (v := nI (b + 1)) (lv' := [(3, .int (nI (b + 1))), (0, .ref (α 30)), (2, .int (nI a)), (1, .int (nI k2))]) hx hb dX11_directPayments_42 hl (k := 2) rfl (nI_1 _) (by decide) rfl (fun ls hl => ?_)
                refine lv_goto (tgt := 18) hx hb dX11_directPayments_45 (by decide) ?_
                exact ih18 (b + 1) k2 _ _ _ (by omega) (by omega) (by omega) (by rw [cnt]; unfold rBr at hk2 ⊢; unfold rBt at hk2 ⊢; rw [hk2, decide_eq_true (show a < b by omega)]; simp only [if_pos c1, if_neg (not_not_intro c1), decide_eq_true c1, if_pos c2, if_neg (not_not_intro c2), decide_eq_true c2, if_pos c3, if_neg (not_not_intro c3), decide_eq_true c3, if_true, if_false, eq_self, Bool.false_eq_true, not_true_eq_false, not_false_eq_true, decide_true, decide_false, Bool.and_true, Bool.true_and, Bool.and_false, Bool.false_and, Bool.not_true, Bool.not_false, Bool.or_true, Bool.true_or, Bool.or_false, Bool.false_or, reduceIte, b2i_t, b2i_f, Nat.add_zero, Nat.add_assoc]) hw (lv_sub hl [1, 2, 0, 3] rfl)
              · skip
                refine lv_iinc (v := nI (k2 + 1)) (lv' := [(1, .int (nI (k2 + 1))), (0, .ref (α 30)), (2, .int (nI a)), (3, .int (nI b))]) hx hb dX11_directPayments_39 hl (k := 3) rfl (nI_1 _) (by decide) rfl (fun ls hl => ?_)
                refine lv_iinc (v := nI (b + 1)) (lv' := [(3, .int (nI (b + 1))), (1, .int (nI (k2 + 1))), (0, .ref (α 30)), (2, .int (nI a))]) hx hb dX11_directPayments_42 hl (k := 3) rfl (nI_1 _) (by decide) rfl (fun ls hl => ?_)
                refine lv_goto (tgt := 18) hx hb dX11_directPayments_45 (by decide) ?_
                exact ih18 (b + 1) (k2 + 1) _ _ _ (by omega) (by omega) (by omega) (by rw [cnt]; unfold rBr at hk2 ⊢; unfold rBt at hk2 ⊢; rw [hk2, decide_eq_true (show a < b by omega)]; simp only [if_pos c1, if_neg (not_not_intro c1), decide_eq_true c1, if_pos c2, if_neg (not_not_intro c2), decide_eq_true c2, if_neg c3, if_pos c3, decide_eq_false c3, if_true, if_false, eq_self, Bool.false_eq_true, not_true_eq_false, not_false_eq_true, decide_true, decide_false, Bool.and_true, Bool.true_and, Bool.and_false, Bool.false_and, Bool.not_true, Bool.not_false, Bool.or_true, Bool.true_or, Bool.or_false, Bool.false_or, reduceIte, b2i_t, b2i_f, Nat.add_zero, Nat.add_assoc]) hw (lv_sub hl [2, 3, 0, 1] rfl)
        exact lp18 _ (a + 1) k _ _ _ (Nat.lt_succ_self _) (Nat.le_refl _) (by omega) (by rw [rBr_lo S N a (a + 1) (Nat.le_refl _)]; rfl) hw (lv_sub hl [1, 2, 0, 3] rfl)
  exact lp4 _ 0 0 _ _ _ (Nat.lt_succ_self _) (Nat.zero_le _) rfl hw (lv_sub hl [2, 0, 1] rfl)

/-- lot k moved to place r, less q pieces: behind w of its four numbers -/
def mvW (T : Mem) (k r : Nat) (q : Int32) : Nat → Mem
  | 0 => T
  | w + 1 => setI (mvW T k r q w) 34 (608 + 4 * r + w) ((mvW T k r q w).1 34 (608 + 4 * k + w) - (if ¬ w = 2 then nI 0 else q))
theorem mvW_k (T : Mem) (k r : Nat) (q : Int32) {z : Nat} (h : z ≠ 34) : ∀ w, (mvW T k r q w).1 z = T.1 z
  | 0 => rfl
  | w + 1 => by rw [mvW, sI_1 h]; exact mvW_k T k r q h w
theorem mvW_2 (T : Mem) (k r : Nat) (q : Int32) : ∀ w, (mvW T k r q w).2 = T.2
  | 0 => rfl
  | w + 1 => by rw [mvW, sI_2]; exact mvW_2 T k r q w
theorem mvW_lo (T : Mem) (k r : Nat) (q : Int32) {z : Nat} (h : z < 608) : ∀ w, (mvW T k r q w).1 34 z = T.1 34 z
  | 0 => rfl
  | w + 1 => by rw [mvW, sI_e, pk_un (by omega)]; exact mvW_lo T k r q h w
/-- what is taken from lot k -/
def tkn (T : Mem) (a b left : Int32) (k : Nat) : Int32 := if rLot T k a b then (if left ≤ T.1 34 (608 + 4 * k + 2) then left else T.1 34 (608 + 4 * k + 2)) else nI 0
/-- taking: the world, the lots kept, what is still to be taken, behind k lots -/
def rTk (S : Mem) (a b q : Int32) : Nat → Mem × Nat × Int32
  | 0 => (S, 0, q)
  | k + 1 => if ¬ (rTk S a b q k).1.1 34 (608 + 4 * k + 2) = tkn (rTk S a b q k).1 a b (rTk S a b q k).2.2 k then (mvW (rTk S a b q k).1 k (rTk S a b q k).2.1 (tkn (rTk S a b q k).1 a b (rTk S a b q k).2.2 k) 4, (rTk S a b q k).2.1 + 1, (rTk S a b q k).2.2 - tkn (rTk S a b q k).1 a b (rTk S a b q k).2.2 k) else ((rTk S a b q k).1, (rTk S a b q k).2.1, (rTk S a b q k).2.2 - tkn (rTk S a b q k).1 a b (rTk S a b q k).2.2 k)
theorem rTk_k (S : Mem) (a b q : Int32) {z : Nat} (h : z ≠ 34) : ∀ k, (rTk S a b q k).1.1 z = S.1 z
  | 0 => rfl
  | k + 1 => by
    rw [rTk]
    split
    · rw [mvW_k _ _ _ _ h]; exact rTk_k S a b q h k
    · exact rTk_k S a b q h k
theorem rTk_2 (S : Mem) (a b q : Int32) : ∀ k, (rTk S a b q k).1.2 = S.2
  | 0 => rfl
  | k + 1 => by
    rw [rTk]
    split
    · rw [mvW_2]; exact rTk_2 S a b q k
    · exact rTk_2 S a b q k
theorem rTk_lo (S : Mem) (a b q : Int32) {z : Nat} (h : z < 608) : ∀ k, (rTk S a b q k).1.1 34 z = S.1 34 z
  | 0 => rfl
  | k + 1 => by
    rw [rTk]
    split
    · rw [mvW_lo _ _ _ _ h]; exact rTk_lo S a b q h k
    · exact rTk_lo S a b q h k
theorem rTk_in (S : Mem) (a b q : Int32) : ∀ k, (rTk S a b q k).2.1 ≤ k
  | 0 => Nat.le_refl _
  | k + 1 => by
    have := rTk_in S a b q k
    rw [rTk]
    split <;> dsimp only <;> omega
def q0R (S : Mem) (a : Int32) (b : Nat) (q : Int32) : Int32 := if ¬ S.1 33 (16 + b) = a then q else nI 0
def rTak (S : Mem) (a : Int32) (b : Nat) (q : Int32) (L : Nat) : Mem := setI (rTk S a (nI b) (q0R S a b q) L).1 34 1 (nI (rTk S a (nI b) (q0R S a b q) L).2.1)

set_option maxRecDepth 100000 in
set_option maxHeartbeats 1000000 in
theorem ct_X11_takes (l : Launch) (D : va_G) (cA : Nat → ClassId) (α : Nat → Nat) (n sz : Nat) (hn : 191 ≤ n) (S : Mem) (a : Int32) (b : Nat) (hb6 : b < 6) (q : Int32) (L : Nat) (hL : S.1 34 1 = nI L) (hL2 : L ≤ 100) : CtV l yX11_takes wsX11_takes ({ frames := 2, cells := 0, slots := 0, locals := 45 }) D cA α n sz [.ref (α 30), .int a, .int (nI b), .int q] S (rTak S a b q L) := by
  refine ct_enter cX11_takes 9 none (by decide) rfl (Nat.le_of_ble_eq_true rfl) ?_
  intro p e s m below meth c hx hb hr hml hlocks hown hts hK hsz hw ls hl
  have hown : s.vm.findClass RX11 = some m.cls := hown
  have hAw : ∀ z, Aw α n s.heap.size z → Aw α n sz z := by rw [hsz]; exact fun _ h => h
  have hl : lv_has ls 9 [(0, .ref (α 30)), (1, .int a), (2, .int (nI b)), (3, .int q)] := hl
  refine lv_aload_n hx hb dX11_takes_0 rfl (lv_at hl 0 rfl) ?_
  refine x_get (v := .ref (α 33)) (C := RX11) (T := TX11) (N := 24) hx hb hts (fun _ h => List.mem_cons_of_mem _ (List.mem_append_right _ h)) hown hK hw 30 (Nat.lt_of_lt_of_le (Nat.le_of_ble_eq_true rfl : 30 < 191) hn) (mk_30 cA α) rfl 11 (by decide) (hts _ (List.mem_of_getElem? (i := 1) rfl)) (fun _ h9 => h9) rfl dX11_takes_1 ?_
  refine lv_bipush (v := nI 16) hx hb dX11_takes_4 (by decide) ?_
  refine lv_iload_n hx hb dX11_takes_6 rfl (lv_at hl 2 rfl) ?_
  refine xn_iadd hx hb dX11_takes_7 ?_
  refine x_iald hx hb hK hw 33 40 (Nat.lt_of_lt_of_le (Nat.le_of_ble_eq_true rfl : 33 < 191) hn) (mk_33 cA α) (16 + b) rfl (by omega) (by decide) dX11_takes_8 ?_
  refine lv_iload_n hx hb dX11_takes_9 rfl (lv_at hl 1 rfl) ?_
  refine lv_icmp_ne (tgt := 17) hx hb dX11_takes_10 (by decide) (fun c1 => ?_) (fun c1 => ?_)
  · skip
    refine lv_iload_n hx hb dX11_takes_17 rfl (lv_at hl 3 rfl) ?_
    refine lv_istore (lv' := [(4, .int q), (0, .ref (α 30)), (1, .int a), (2, .int (nI b)), (3, .int q)]) hx hb dX11_takes_18 hl (by decide) rfl (fun ls hl => ?_)
    refine lv_iconst (v := nI 0) hx hb dX11_takes_20 (by decide) ?_
    refine lv_istore (lv' := [(5, .int (nI 0)), (4, .int q), (0, .ref (α 30)), (1, .int a), (2, .int (nI b)), (3, .int q)]) hx hb dX11_takes_21 hl (by decide) rfl (fun ls hl => ?_)
    refine lv_iconst (v := nI 0) hx hb dX11_takes_23 (by decide) ?_
    refine lv_istore (lv' := [(6, .int (nI 0)), (5, .int (nI 0)), (4, .int q), (0, .ref (α 30)), (1, .int a), (2, .int (nI b)), (3, .int q)]) hx hb dX11_takes_24 hl (by decide) rfl (fun ls hl => ?_)
    have lp26 : ∀ (t : Nat) (k : Nat) (r : Nat) (left : Int32) (T : Mem) (H : Heap) (locs : List Loc) (ls : Array Slot), L - k < t → k ≤ L → r ≤ k → T = (rTk S a (nI b) (q0R S a b q) k).1 → r = (rTk S a (nI b) (q0R S a b q) k).2.1 → left = (rTk S a (nI b) (q0R S a b q) k).2.2 → Ws D cA α n (Aw α n sz) s.heap T H locs → lv_has ls 9 [(0, .ref (α 30)), (1, .int a), (2, .int (nI b)), (3, .int q), (6, .int (nI k)), (5, .int (nI r)), (4, .int left)] → W p l e ({ frames := 2, cells := 0, slots := 0, locals := 45 } : Room) s m (List.toArray ([.ref (α 30), .int a, .int (nI b), .int q] : List Value)) below meth c H locs 0 0 (MQ below (va_Qv (fun u => u = (rTak S a b q L)) (Pw D cA α n) (Aw α n sz)) (List.toArray ([.ref (α 30), .int a, .int (nI b), .int q] : List Value)) s 0 0 (Aw α n sz)) (F0 m 26 ls []) := by
      intro t
      induction t with
      | zero => intro k r left T H locs ls ht; exact absurd ht (Nat.not_lt_zero _)
      | succ t ih26 =>
        intro k r left T H locs ls ht hj hrk hT hr9 hl9 hw hl
        refine lv_iload hx hb dX11_takes_26 (lv_at hl 4 rfl) ?_
        refine lv_aload_n hx hb dX11_takes_28 rfl (lv_at hl 0 rfl) ?_
        refine x_get (v := .ref (α 34)) (C := RX11) (T := TX11) (N := 24) hx hb hts (fun _ h => List.mem_cons_of_mem _ (List.mem_append_right _ h)) hown hK hw 30 (Nat.lt_of_lt_of_le (Nat.le_of_ble_eq_true rfl : 30 < 191) hn) (mk_30 cA α) rfl 13 (by decide) (hts _ (List.mem_of_getElem? (i := 2) rfl)) (fun _ h9 => h9) rfl dX11_takes_29 ?_
        refine lv_iconst (v := nI 1) hx hb dX11_takes_32 (by decide) ?_
        refine x_iald hx hb hK hw 34 1508 (Nat.lt_of_lt_of_le (Nat.le_of_ble_eq_true rfl : 34 < 191) hn) (mk_34 cA α) 1 rfl (by decide) (by decide) dX11_takes_33 ?_
        refine x_topN (k := L) (by rw [hT]; exact (rTk_lo S a (nI b) _ (by decide) k).trans hL) ?_
        refine xn_icmp_ge (tgt := 161) hx hb (by omega) (by omega) dX11_takes_34 (by decide) (fun c2 => ?_) (fun c2 => ?_)
        · skip
          refine lv_aload_n hx hb dX11_takes_161 rfl (lv_at hl 0 rfl) ?_
          refine x_get (v := .ref (α 34)) (C := RX11) (T := TX11) (N := 24) hx hb hts (fun _ h => List.mem_cons_of_mem _ (List.mem_append_right _ h)) hown hK hw 30 (Nat.lt_of_lt_of_le (Nat.le_of_ble_eq_true rfl : 30 < 191) hn) (mk_30 cA α) rfl 13 (by decide) (hts _ (List.mem_of_getElem? (i := 2) rfl)) (fun _ h9 => h9) rfl dX11_takes_162 ?_
          refine lv_iconst (v := nI 1) hx hb dX11_takes_165 (by decide) ?_
          refine lv_iload hx hb dX11_takes_166 (lv_at hl 5 rfl) ?_
          refine x_iast (x := nI r) hx hb hK hw 34 1508 (Nat.lt_of_lt_of_le (Nat.le_of_ble_eq_true rfl : 34 < 191) hn) (mk_34 cA α) 1 rfl (by decide) (by decide) dX11_takes_168 (fun S1 eS1 H locs hw => ?_)
          exact ret_v hx hb hr hlocks hK hw dX11_takes_169 (by subst eS1; unfold rTak; rw [hT, hr9, show k = L by omega])
        · skip
          refine lv_aload_n hx hb dX11_takes_37 rfl (lv_at hl 0 rfl) ?_
          refine lv_iload hx hb dX11_takes_38 (lv_at hl 4 rfl) ?_
          refine lv_iload_n hx hb dX11_takes_40 rfl (lv_at hl 1 rfl) ?_
          refine lv_iload_n hx hb dX11_takes_41 rfl (lv_at hl 2 rfl) ?_
          refine x_callVIr (q := 30) (C := RX11) (As := [.int (nI k), .int a, .int (nI b)]) (rest := []) ⟨hx, hb, hml, hown, hts⟩ (ct_X11_isLotOf l D cA α n _ hn T k a (nI b) (by omega)) (cwV 3 hts gX11_takes_X11_isLotOf rfl rfl rfl (by decide +kernel) ⟨Nat.le_of_ble_eq_true rfl, Nat.le_of_ble_eq_true rfl⟩) hK hw hAw (ws_recv hK hw (q := 30) (Nat.lt_of_lt_of_le (Nat.le_of_ble_eq_true rfl : 30 < 191) hn) (mk_30 cA α) rfl) rfl hl.1 rfl (Nat.le_of_ble_eq_true rfl) dX11_takes_42 ⟨Nat.zero_le _, Nat.zero_le _⟩ (fun H locs hw => ?_)
          refine xb_ne (b := (rLot T k a (nI b))) (tgt := 52) hx hb dX11_takes_45 (by decide) (fun c3 => ?_) (fun c3 => ?_)
          · skip
            refine lv_aload_n hx hb dX11_takes_52 rfl (lv_at hl 0 rfl) ?_
            refine lv_iload hx hb dX11_takes_53 (lv_at hl 4 rfl) ?_
            refine lv_iconst (v := nI 2) hx hb dX11_takes_55 (by decide) ?_
            refine x_callVIr (q := 30) (C := RX11) (As := [.int (nI k), .int (nI 2)]) (rest := []) ⟨hx, hb, hml, hown, hts⟩ (ct_X11_lot l D cA α n _ hn T k 2 (by omega)) (cwV 2 hts gX11_takes_X11_lot rfl rfl rfl (by decide +kernel) ⟨Nat.le_of_ble_eq_true rfl, Nat.le_of_ble_eq_true rfl⟩) hK hw hAw (ws_recv hK hw (q := 30) (Nat.lt_of_lt_of_le (Nat.le_of_ble_eq_true rfl : 30 < 191) hn) (mk_30 cA α) rfl) rfl hl.1 rfl (Nat.le_of_ble_eq_true rfl) dX11_takes_56 ⟨Nat.zero_le _, Nat.zero_le _⟩ (fun H locs hw => ?_)
            refine lv_iload hx hb dX11_takes_59 (lv_at hl 6 rfl) ?_
            refine lv_icmp_ge (tgt := 74) hx hb dX11_takes_61 (by decide) (fun c4 => ?_) (fun c4 => ?_)
            · skip
              refine lv_iload hx hb dX11_takes_74 (lv_at hl 6 rfl) ?_
              refine lv_istore (lv' := [(7, .int left), (0, .ref (α 30)), (1, .int a), (2, .int (nI b)), (3, .int q), (6, .int (nI k)), (5, .int (nI r)), (4, .int left)]) hx hb dX11_takes_76 hl (by decide) rfl (fun ls hl => ?_)
              refine lv_iload hx hb dX11_takes_78 (lv_at hl 7 rfl) ?_
              refine lv_iload hx hb dX11_takes_80 (lv_at hl 0 rfl) ?_
              refine lv_isub hx hb dX11_takes_82 ?_
              refine lv_istore (lv' := [(4, .int (left - left)), (7, .int left), (0, .ref (α 30)), (1, .int a), (2, .int (nI b)), (3, .int q), (6, .int (nI k)), (5, .int (nI r))]) hx hb dX11_takes_83 hl (by decide) rfl (fun ls hl => ?_)
              refine lv_aload_n hx hb dX11_takes_85 rfl (lv_at hl 2 rfl) ?_
              refine lv_iload hx hb dX11_takes_86 (lv_at hl 6 rfl) ?_
              refine lv_iconst (v := nI 2) hx hb dX11_takes_88 (by decide) ?_
              refine x_callVIr (q := 30) (C := RX11) (As := [.int (nI k), .int (nI 2)]) (rest := []) ⟨hx, hb, hml, hown, hts⟩ (ct_X11_lot l D cA α n _ hn T k 2 (by omega)) (cwV 2 hts gX11_takes_X11_lot rfl rfl rfl (by decide +kernel) ⟨Nat.le_of_ble_eq_true rfl, Nat.le_of_ble_eq_true rfl⟩) hK hw hAw (ws_recv hK hw (q := 30) (Nat.lt_of_lt_of_le (Nat.le_of_ble_eq_true rfl : 30 < 191) hn) (mk_30 cA α) rfl) rfl hl.1 rfl (Nat.le_of_ble_eq_true rfl) dX11_takes_89 ⟨Nat.zero_le _, Nat.zero_le _⟩ (fun H locs hw => ?_)
              refine lv_iload hx hb dX11_takes_92 (lv_at hl 1 rfl) ?_
              refine lv_icmp_ne (tgt := 100) hx hb dX11_takes_94 (by decide) (fun c5 => ?_) (fun c5 => ?_)
              · skip
                refine lv_iconst (v := nI 0) hx hb dX11_takes_100 (by decide) ?_
                refine lv_istore (lv' := [(8, .int (nI 0)), (4, .int (left - left)), (7, .int left), (0, .ref (α 30)), (1, .int a), (2, .int (nI b)), (3, .int q), (6, .int (nI k)), (5, .int (nI r))]) hx hb dX11_takes_101 hl (by decide) rfl (fun ls hl => ?_)
                have lp103 : ∀ (t : Nat) (w : Nat) (T2 : Mem) (H : Heap) (locs : List Loc) (ls : Array Slot), 4 - w < t → w ≤ 4 → T2 = mvW T k r (left) w → Ws D cA α n (Aw α n sz) s.heap T2 H locs → lv_has ls 9 [(0, .ref (α 30)), (1, .int a), (2, .int (nI b)), (3, .int q), (4, .int (left - left)), (5, .int (nI r)), (6, .int (nI k)), (7, .int left), (8, .int (nI w))] → W p l e ({ frames := 2, cells := 0, slots := 0, locals := 45 } : Room) s m (List.toArray ([.ref (α 30), .int a, .int (nI b), .int q] : List Value)) below meth c H locs 0 0 (MQ below (va_Qv (fun u => u = (rTak S a b q L)) (Pw D cA α n) (Aw α n sz)) (List.toArray ([.ref (α 30), .int a, .int (nI b), .int q] : List Value)) s 0 0 (Aw α n sz)) (F0 m 103 ls []) := by
                  intro t
                  induction t with
                  | zero => intro w T2 H locs ls ht; exact absurd ht (Nat.not_lt_zero _)
                  | succ t ih103 =>
                    intro w T2 H locs ls ht hw4 hT2 hw hl
                    refine lv_iload hx hb dX11_takes_103 (lv_at hl 8 rfl) ?_
                    refine lv_iconst (v := nI 4) hx hb dX11_takes_105 (by decide) ?_
                    refine xn_icmp_ge (tgt := 152) hx hb (by omega) (by decide) dX11_takes_106 (by decide) (fun c6 => ?_) (fun c6 => ?_)
                    · skip
                      refine lv_iinc (v := nI (r + 1)) (lv' := [(5, .int (nI (r + 1))), (0, .ref (α 30)), (1, .int a), (2, .int (nI b)), (3, .int q), (4, .int (left - left)), (6, .int (nI k)), (7, .int left), (8, .int (nI w))]) hx hb dX11_takes_152 hl (k := 5) rfl (nI_1 _) (by decide) rfl (fun ls hl => ?_)
                      refine lv_iinc (v := nI (k + 1)) (lv' := [(6, .int (nI (k + 1))), (5, .int (nI (r + 1))), (0, .ref (α 30)), (1, .int a), (2, .int (nI b)), (3, .int q), (4, .int (left - left)), (7, .int left), (8, .int (nI w))]) hx hb dX11_takes_155 hl (k := 6) rfl (nI_1 _) (by decide) rfl (fun ls hl => ?_)
                      refine lv_goto (tgt := 26) hx hb dX11_takes_158 (by decide) ?_
                      exact ih26 (k + 1) (r + 1) (left - left) T2 _ _ _ (by omega) (by omega) (by have := rTk_in S a (nI b) (q0R S a b q) k; omega) (by rw [rTk, ← hT, ← hr9, ← hl9, show tkn T a (nI b) left k = left from (by unfold tkn; simp only [if_neg c1, if_pos c1, decide_eq_false c1, if_pos c2, if_neg (not_not_intro c2), decide_eq_true c2, c3, if_pos c4, if_neg (not_not_intro c4), decide_eq_true c4, if_neg c5, if_pos c5, decide_eq_false c5, if_pos c6, if_neg (not_not_intro c6), decide_eq_true c6, if_true, if_false, eq_self, Bool.false_eq_true, not_true_eq_false, not_false_eq_true, decide_true, decide_false, Bool.and_true, Bool.true_and, Bool.and_false, Bool.false_and, Bool.not_true, Bool.not_false, Bool.or_true, Bool.true_or, Bool.or_false, Bool.false_or, reduceIte, b2i_t, b2i_f])]; simp only [if_neg c1, if_pos c1, decide_eq_false c1, if_pos c2, if_neg (not_not_intro c2), decide_eq_true c2, c3, if_pos c4, if_neg (not_not_intro c4), decide_eq_true c4, if_neg c5, if_pos c5, decide_eq_false c5, if_pos c6, if_neg (not_not_intro c6), decide_eq_true c6, if_true, if_false, eq_self, Bool.false_eq_true, not_true_eq_false, not_false_eq_true, decide_true, decide_false, Bool.and_true, Bool.true_and, Bool.and_false, Bool.false_and, Bool.not_true, Bool.not_false, Bool.or_true, Bool.true_or, Bool.or_false, Bool.false_or, reduceIte, b2i_t, b2i_f]; rw [hT2, show w = 4 by omega]) (by rw [rTk, ← hT, ← hr9, ← hl9, show tkn T a (nI b) left k = left from (by unfold tkn; simp only [if_neg c1, if_pos c1, decide_eq_false c1, if_pos c2, if_neg (not_not_intro c2), decide_eq_true c2, c3, if_pos c4, if_neg (not_not_intro c4), decide_eq_true c4, if_neg c5, if_pos c5, decide_eq_false c5, if_pos c6, if_neg (not_not_intro c6), decide_eq_true c6, if_true, if_false, eq_self, Bool.false_eq_true, not_true_eq_false, not_false_eq_true, decide_true, decide_false, Bool.and_true, Bool.true_and, Bool.and_false, Bool.false_and, Bool.not_true, Bool.not_false, Bool.or_true, Bool.true_or, Bool.or_false, Bool.false_or, reduceIte, b2i_t, b2i_f])]; simp only [if_neg c1, if_pos c1, decide_eq_false c1, if_pos c2, if_neg (not_not_intro c2), decide_eq_true c2, c3, if_pos c4, if_neg (not_not_intro c4), decide_eq_true c4, if_neg c5, if_pos c5, decide_eq_false c5, if_pos c6, if_neg (not_not_intro c6), decide_eq_true c6, if_true, if_false, eq_self, Bool.false_eq_true, not_true_eq_false, not_false_eq_true, decide_true, decide_false, Bool.and_true, Bool.true_and, Bool.and_false, Bool.false_and, Bool.not_true, Bool.not_false, Bool.or_true, Bool.true_or, Bool.or_false, Bool.false_or, reduceIte, b2i_t, b2i_f]) (by rw [rTk, ← hT, ← hr9, ← hl9, show tkn T a (nI b) left k = left from (by unfold tkn; simp only [if_neg c1, if_pos c1, decide_eq_false c1, if_pos c2, if_neg (not_not_intro c2), decide_eq_true c2, c3, if_pos c4, if_neg (not_not_intro c4), decide_eq_true c4, if_neg c5, if_pos c5, decide_eq_false c5, if_pos c6, if_neg (not_not_intro c6), decide_eq_true c6, if_true, if_false, eq_self, Bool.false_eq_true, not_true_eq_false, not_false_eq_true, decide_true, decide_false, Bool.and_true, Bool.true_and, Bool.and_false, Bool.false_and, Bool.not_true, Bool.not_false, Bool.or_true, Bool.true_or, Bool.or_false, Bool.false_or, reduceIte, b2i_t, b2i_f])]; simp only [if_neg c1, if_pos c1, decide_eq_false c1, if_pos c2, if_neg (not_not_intro c2), decide_eq_true c2, c3, if_pos c4, if_neg (not_not_intro c4), decide_eq_true c4, if_neg c5, if_pos c5, decide_eq_false c5, if_pos c6, if_neg (not_not_intro c6), decide_eq_true c6, if_true, if_false, eq_self, Bool.false_eq_true, not_true_eq_false, not_false_eq_true, decide_true, decide_false, Bool.and_true, Bool.true_and, Bool.and_false, Bool.false_and, Bool.not_true, Bool.not_false, Bool.or_true, Bool.true_or, Bool.or_false, Bool.false_or, reduceIte, b2i_t, b2i_f]) hw (lv_sub hl [2, 3, 4, 5, 0, 1, 6] rfl)
                    · skip
                      refine lv_aload_n hx hb dX11_takes_109 rfl (lv_at hl 0 rfl) ?_
                      refine x_get (v := .ref (α 34)) (C := RX11) (T := TX11) (N := 24) hx hb hts (fun _ h => List.mem_cons_of_mem _ (List.mem_append_right _ h)) hown hK hw 30 (Nat.lt_of_lt_of_le (Nat.le_of_ble_eq_true rfl : 30 < 191) hn) (mk_30 cA α) rfl 13 (by decide) (hts _ (List.mem_of_getElem? (i := 2) rfl)) (fun _ h9 => h9) rfl dX11_takes_110 ?_
                      refine lv_sipush (v := nI 608) hx hb dX11_takes_113 (by decide) ?_
                      refine lv_iconst (v := nI 4) hx hb dX11_takes_116 (by decide) ?_
                      refine lv_iload hx hb dX11_takes_117 (lv_at hl 5 rfl) ?_
                      refine xn_imul hx hb dX11_takes_119 ?_
                      refine xn_iadd hx hb dX11_takes_120 ?_
                      refine lv_iload hx hb dX11_takes_121 (lv_at hl 8 rfl) ?_
                      refine xn_iadd hx hb dX11_takes_123 ?_
                      refine lv_aload_n hx hb dX11_takes_124 rfl (lv_at hl 0 rfl) ?_
                      refine lv_iload hx hb dX11_takes_125 (lv_at hl 6 rfl) ?_
                      refine lv_iload hx hb dX11_takes_127 (lv_at hl 8 rfl) ?_
                      refine x_callVIr (q := 30) (C := RX11) (As := [.int (nI k), .int (nI w)]) (rest := [.int (nI ((608 + (4 * r)) + w)), .ref (α 34)]) ⟨hx, hb, hml, hown, hts⟩ (ct_X11_lot l D cA α n _ hn T2 k w (by omega)) (cwV 2 hts gX11_takes_X11_lot rfl rfl rfl (by decide +kernel) ⟨Nat.le_of_ble_eq_true rfl, Nat.le_of_ble_eq_true rfl⟩) hK hw hAw (ws_recv hK hw (q := 30) (Nat.lt_of_lt_of_le (Nat.le_of_ble_eq_true rfl : 30 < 191) hn) (mk_30 cA α) rfl) rfl hl.1 rfl (Nat.le_of_ble_eq_true rfl) dX11_takes_129 ⟨Nat.zero_le _, Nat.zero_le _⟩ (fun H locs hw => ?_)
                      refine lv_iload hx hb dX11_takes_132 (lv_at hl 8 rfl) ?_
                      refine lv_iconst (v := nI 2) hx hb dX11_takes_134 (by decide) ?_
                      refine xn_icmp_ne (tgt := 143) hx hb (by omega) (by decide) dX11_takes_135 (by decide) (fun c7 => ?_) (fun c7 => ?_)
                      · skip
                        refine lv_iconst (v := nI 0) hx hb dX11_takes_143 (by decide) ?_
                        refine lv_isub hx hb dX11_takes_144 ?_
                        refine x_iast (x := (T2.1 34 (608 + 4 * k + w)) - (nI 0)) hx hb hK hw 34 1508 (Nat.lt_of_lt_of_le (Nat.le_of_ble_eq_true rfl : 34 < 191) hn) (mk_34 cA α) ((608 + (4 * r)) + w) rfl (by omega) (by decide) dX11_takes_145 (fun S2 eS2 H locs hw => ?_)
                        refine lv_iinc (v := nI (w + 1)) (lv' := [(8, .int (nI (w + 1))), (0, .ref (α 30)), (1, .int a), (2, .int (nI b)), (3, .int q), (4, .int (left - left)), (5, .int (nI r)), (6, .int (nI k)), (7, .int left)]) hx hb dX11_takes_146 hl (k := 8) rfl (nI_1 _) (by decide) rfl (fun ls hl => ?_)
                        refine lv_goto (tgt := 103) hx hb dX11_takes_149 (by decide) ?_
                        exact ih103 (w + 1) S2 _ _ _ (by omega) (by omega) (by subst eS2; rw [hT2, mvW]; simp only [if_neg c1, if_pos c1, decide_eq_false c1, if_pos c2, if_neg (not_not_intro c2), decide_eq_true c2, c3, if_pos c4, if_neg (not_not_intro c4), decide_eq_true c4, if_neg c5, if_pos c5, decide_eq_false c5, if_pos c6, if_neg (not_not_intro c6), decide_eq_true c6, if_neg c7, if_pos c7, decide_eq_false c7, if_true, if_false, eq_self, Bool.false_eq_true, not_true_eq_false, not_false_eq_true, decide_true, decide_false, Bool.and_true, Bool.true_and, Bool.and_false, Bool.false_and, Bool.not_true, Bool.not_false, Bool.or_true, Bool.true_or, Bool.or_false, Bool.false_or, reduceIte, b2i_t, b2i_f]) hw (lv_sub hl [1, 2, 3, 4, 5, 6, 7, 8, 0] rfl)
                      · skip
                        refine lv_iload hx hb dX11_takes_138 (lv_at hl 7 rfl) ?_
                        refine lv_goto (tgt := 144) hx hb dX11_takes_140 (by decide) ?_
                        refine lv_isub hx hb dX11_takes_144 ?_
                        refine x_iast (x := (T2.1 34 (608 + 4 * k + w)) - left) hx hb hK hw 34 1508 (Nat.lt_of_lt_of_le (Nat.le_of_ble_eq_true rfl : 34 < 191) hn) (mk_34 cA α) ((608 + (4 * r)) + w) rfl (by omega) (by decide) dX11_takes_145 (fun S3 eS3 H locs hw => ?_)
                        refine lv_iinc (v := nI (w + 1)) (lv' := [(8, .int (nI (w + 1))), (0, .ref (α 30)), (1, .int a), (2, .int (nI b)), (3, .int q), (4, .int (left - left)), (5, .int (nI r)), (6, .int (nI k)), (7, .int left)]) hx hb dX11_takes_146 hl (k := 8) rfl (nI_1 _) (by decide) rfl (fun ls hl => ?_)
                        refine lv_goto (tgt := 103) hx hb dX11_takes_149 (by decide) ?_
                        exact ih103 (w + 1) S3 _ _ _ (by omega) (by omega) (by subst eS3; rw [hT2, mvW]; simp only [if_neg c1, if_pos c1, decide_eq_false c1, if_pos c2, if_neg (not_not_intro c2), decide_eq_true c2, c3, if_pos c4, if_neg (not_not_intro c4), decide_eq_true c4, if_neg c5, if_pos c5, decide_eq_false c5, if_pos c6, if_neg (not_not_intro c6), decide_eq_true c6, if_pos c7, if_neg (not_not_intro c7), decide_eq_true c7, if_true, if_false, eq_self, Bool.false_eq_true, not_true_eq_false, not_false_eq_true, decide_true, decide_false, Bool.and_true, Bool.true_and, Bool.and_false, Bool.false_and, Bool.not_true, Bool.not_false, Bool.or_true, Bool.true_or, Bool.or_false, Bool.false_or, reduceIte, b2i_t, b2i_f]) hw (lv_sub hl [1, 2, 3, 4, 5, 6, 7, 8, 0] rfl)
                exact lp103 _ 0 T _ _ _ (Nat.lt_succ_self _) (Nat.zero_le _) rfl hw (lv_sub hl [3, 4, 5, 6, 1, 8, 7, 2, 0] rfl)
              · skip
                refine lv_goto (tgt := 155) hx hb dX11_takes_97 (by decide) ?_
                refine lv_iinc (v := nI (k + 1)) (lv' := [(6, .int (nI (k + 1))), (4, .int (left - left)), (7, .int left), (0, .ref (α 30)), (1, .int a), (2, .int (nI b)), (3, .int q), (5, .int (nI r))]) hx hb dX11_takes_155 hl (k := 6) rfl (nI_1 _) (by decide) rfl (fun ls hl => ?_)
                refine lv_goto (tgt := 26) hx hb dX11_takes_158 (by decide) ?_
                exact ih26 (k + 1) r (left - left) T _ _ _ (by omega) (by omega) (by omega) (by rw [rTk, ← hT, ← hr9, ← hl9, show tkn T a (nI b) left k = left from (by unfold tkn; simp only [if_neg c1, if_pos c1, decide_eq_false c1, if_pos c2, if_neg (not_not_intro c2), decide_eq_true c2, c3, if_pos c4, if_neg (not_not_intro c4), decide_eq_true c4, if_pos c5, if_neg (not_not_intro c5), decide_eq_true c5, if_true, if_false, eq_self, Bool.false_eq_true, not_true_eq_false, not_false_eq_true, decide_true, decide_false, Bool.and_true, Bool.true_and, Bool.and_false, Bool.false_and, Bool.not_true, Bool.not_false, Bool.or_true, Bool.true_or, Bool.or_false, Bool.false_or, reduceIte, b2i_t, b2i_f])]; simp only [if_neg c1, if_pos c1, decide_eq_false c1, if_pos c2, if_neg (not_not_intro c2), decide_eq_true c2, c3, if_pos c4, if_neg (not_not_intro c4), decide_eq_true c4, if_pos c5, if_neg (not_not_intro c5), decide_eq_true c5, if_true, if_false, eq_self, Bool.false_eq_true, not_true_eq_false, not_false_eq_true, decide_true, decide_false, Bool.and_true, Bool.true_and, Bool.and_false, Bool.false_and, Bool.not_true, Bool.not_false, Bool.or_true, Bool.true_or, Bool.or_false, Bool.false_or, reduceIte, b2i_t, b2i_f]) (by rw [rTk, ← hT, ← hr9, ← hl9, show tkn T a (nI b) left k = left from (by unfold tkn; simp only [if_neg c1, if_pos c1, decide_eq_false c1, if_pos c2, if_neg (not_not_intro c2), decide_eq_true c2, c3, if_pos c4, if_neg (not_not_intro c4), decide_eq_true c4, if_pos c5, if_neg (not_not_intro c5), decide_eq_true c5, if_true, if_false, eq_self, Bool.false_eq_true, not_true_eq_false, not_false_eq_true, decide_true, decide_false, Bool.and_true, Bool.true_and, Bool.and_false, Bool.false_and, Bool.not_true, Bool.not_false, Bool.or_true, Bool.true_or, Bool.or_false, Bool.false_or, reduceIte, b2i_t, b2i_f])]; simp only [if_neg c1, if_pos c1, decide_eq_false c1, if_pos c2, if_neg (not_not_intro c2), decide_eq_true c2, c3, if_pos c4, if_neg (not_not_intro c4), decide_eq_true c4, if_pos c5, if_neg (not_not_intro c5), decide_eq_true c5, if_true, if_false, eq_self, Bool.false_eq_true, not_true_eq_false, not_false_eq_true, decide_true, decide_false, Bool.and_true, Bool.true_and, Bool.and_false, Bool.false_and, Bool.not_true, Bool.not_false, Bool.or_true, Bool.true_or, Bool.or_false, Bool.false_or, reduceIte, b2i_t, b2i_f]) (by rw [rTk, ← hT, ← hr9, ← hl9, show tkn T a (nI b) left k = left from (by unfold tkn; simp only [if_neg c1, if_pos c1, decide_eq_false c1, if_pos c2, if_neg (not_not_intro c2), decide_eq_true c2, c3, if_pos c4, if_neg (not_not_intro c4), decide_eq_true c4, if_pos c5, if_neg (not_not_intro c5), decide_eq_true c5, if_true, if_false, eq_self, Bool.false_eq_true, not_true_eq_false, not_false_eq_true, decide_true, decide_false, Bool.and_true, Bool.true_and, Bool.and_false, Bool.false_and, Bool.not_true, Bool.not_false, Bool.or_true, Bool.true_or, Bool.or_false, Bool.false_or, reduceIte, b2i_t, b2i_f])]; simp only [if_neg c1, if_pos c1, decide_eq_false c1, if_pos c2, if_neg (not_not_intro c2), decide_eq_true c2, c3, if_pos c4, if_neg (not_not_intro c4), decide_eq_true c4, if_pos c5, if_neg (not_not_intro c5), decide_eq_true c5, if_true, if_false, eq_self, Bool.false_eq_true, not_true_eq_false, not_false_eq_true, decide_true, decide_false, Bool.and_true, Bool.true_and, Bool.and_false, Bool.false_and, Bool.not_true, Bool.not_false, Bool.or_true, Bool.true_or, Bool.or_false, Bool.false_or, reduceIte, b2i_t, b2i_f]) hw (lv_sub hl [3, 4, 5, 6, 0, 7, 1] rfl)
            · skip
              refine lv_aload_n hx hb dX11_takes_64 rfl (lv_at hl 0 rfl) ?_
              refine lv_iload hx hb dX11_takes_65 (lv_at hl 4 rfl) ?_
              refine lv_iconst (v := nI 2) hx hb dX11_takes_67 (by decide) ?_
              refine x_callVIr (q := 30) (C := RX11) (As := [.int (nI k), .int (nI 2)]) (rest := []) ⟨hx, hb, hml, hown, hts⟩ (ct_X11_lot l D cA α n _ hn T k 2 (by omega)) (cwV 2 hts gX11_takes_X11_lot rfl rfl rfl (by decide +kernel) ⟨Nat.le_of_ble_eq_true rfl, Nat.le_of_ble_eq_true rfl⟩) hK hw hAw (ws_recv hK hw (q := 30) (Nat.lt_of_lt_of_le (Nat.le_of_ble_eq_true rfl : 30 < 191) hn) (mk_30 cA α) rfl) rfl hl.1 rfl (Nat.le_of_ble_eq_true rfl) dX11_takes_68 ⟨Nat.zero_le _, Nat.zero_le _⟩ (fun H locs hw => ?_)
              refine lv_goto (tgt := 76) hx hb dX11_takes_71 (by decide) ?_
              refine lv_istore (lv' := [(7, .int (T.1 34 (608 + 4 * k + 2))), (0, .ref (α 30)), (1, .int a), (2, .int (nI b)), (3, .int q), (6, .int (nI k)), (5, .int (nI r)), (4, .int left)]) hx hb dX11_takes_76 hl (by decide) rfl (fun ls hl => ?_)
              refine lv_iload hx hb dX11_takes_78 (lv_at hl 7 rfl) ?_
              refine lv_iload hx hb dX11_takes_80 (lv_at hl 0 rfl) ?_
              refine lv_isub hx hb dX11_takes_82 ?_
              refine lv_istore (lv' := [(4, .int (left - (T.1 34 (608 + 4 * k + 2)))), (7, .int (T.1 34 (608 + 4 * k + 2))), (0, .ref (α 30)), (1, .int a), (2, .int (nI b)), (3, .int q), (6, .int (nI k)), (5, .int (nI r))]) hx hb dX11_takes_83 hl (by decide) rfl (fun ls hl => ?_)
              refine lv_aload_n hx hb dX11_takes_85 rfl (lv_at hl 2 rfl) ?_
              refine lv_iload hx hb dX11_takes_86 (lv_at hl 6 rfl) ?_
              refine lv_iconst (v := nI 2) hx hb dX11_takes_88 (by decide) ?_
              refine x_callVIr (q := 30) (C := RX11) (As := [.int (nI k), .int (nI 2)]) (rest := []) ⟨hx, hb, hml, hown, hts⟩ (ct_X11_lot l D cA α n _ hn T k 2 (by omega)) (cwV 2 hts gX11_takes_X11_lot rfl rfl rfl (by decide +kernel) ⟨Nat.le_of_ble_eq_true rfl, Nat.le_of_ble_eq_true rfl⟩) hK hw hAw (ws_recv hK hw (q := 30) (Nat.lt_of_lt_of_le (Nat.le_of_ble_eq_true rfl : 30 < 191) hn) (mk_30 cA α) rfl) rfl hl.1 rfl (Nat.le_of_ble_eq_true rfl) dX11_takes_89 ⟨Nat.zero_le _, Nat.zero_le _⟩ (fun H locs hw => ?_)
              refine lv_iload hx hb dX11_takes_92 (lv_at hl 1 rfl) ?_
              refine lv_icmp_ne (tgt := 100) hx hb dX11_takes_94 (by decide) (fun c8 => ?_) (fun c8 => ?_)
              · exact absurd rfl c8
              · skip
                refine lv_goto (tgt := 155) hx hb dX11_takes_97 (by decide) ?_
                refine lv_iinc (v := nI (k + 1)) (lv' := [(6, .int (nI (k + 1))), (4, .int (left - (T.1 34 (608 + 4 * k + 2)))), (7, .int (T.1 34 (608 + 4 * k + 2))), (0, .ref (α 30)), (1, .int a), (2, .int (nI b)), (3, .int q), (5, .int (nI r))]) hx hb dX11_takes_155 hl (k := 6) rfl (nI_1 _) (by decide) rfl (fun ls hl => ?_)
                refine lv_goto (tgt := 26) hx hb dX11_takes_158 (by decide) ?_
                exact ih26 (k + 1) r (left - (T.1 34 (608 + 4 * k + 2))) T _ _ _ (by omega) (by omega) (by omega) (by rw [rTk, ← hT, ← hr9, ← hl9, show tkn T a (nI b) left k = T.1 34 (608 + 4 * k + 2) from (by unfold tkn; simp only [if_neg c1, if_pos c1, decide_eq_false c1, if_pos c2, if_neg (not_not_intro c2), decide_eq_true c2, c3, if_neg c4, if_pos c4, decide_eq_false c4, if_pos c8, if_neg (not_not_intro c8), decide_eq_true c8, if_true, if_false, eq_self, Bool.false_eq_true, not_true_eq_false, not_false_eq_true, decide_true, decide_false, Bool.and_true, Bool.true_and, Bool.and_false, Bool.false_and, Bool.not_true, Bool.not_false, Bool.or_true, Bool.true_or, Bool.or_false, Bool.false_or, reduceIte, b2i_t, b2i_f])]; simp only [if_neg c1, if_pos c1, decide_eq_false c1, if_pos c2, if_neg (not_not_intro c2), decide_eq_true c2, c3, if_neg c4, if_pos c4, decide_eq_false c4, if_pos c8, if_neg (not_not_intro c8), decide_eq_true c8, if_true, if_false, eq_self, Bool.false_eq_true, not_true_eq_false, not_false_eq_true, decide_true, decide_false, Bool.and_true, Bool.true_and, Bool.and_false, Bool.false_and, Bool.not_true, Bool.not_false, Bool.or_true, Bool.true_or, Bool.or_false, Bool.false_or, reduceIte, b2i_t, b2i_f]) (by rw [rTk, ← hT, ← hr9, ← hl9, show tkn T a (nI b) left k = T.1 34 (608 + 4 * k + 2) from (by unfold tkn; simp only [if_neg c1, if_pos c1, decide_eq_false c1, if_pos c2, if_neg (not_not_intro c2), decide_eq_true c2, c3, if_neg c4, if_pos c4, decide_eq_false c4, if_pos c8, if_neg (not_not_intro c8), decide_eq_true c8, if_true, if_false, eq_self, Bool.false_eq_true, not_true_eq_false, not_false_eq_true, decide_true, decide_false, Bool.and_true, Bool.true_and, Bool.and_false, Bool.false_and, Bool.not_true, Bool.not_false, Bool.or_true, Bool.true_or, Bool.or_false, Bool.false_or, reduceIte, b2i_t, b2i_f])]; simp only [if_neg c1, if_pos c1, decide_eq_false c1, if_pos c2, if_neg (not_not_intro c2), decide_eq_true c2, c3, if_neg c4, if_pos c4, decide_eq_false c4, if_pos c8, if_neg (not_not_intro c8), decide_eq_true c8, if_true, if_false, eq_self, Bool.false_eq_true, not_true_eq_false, not_false_eq_true, decide_true, decide_false, Bool.and_true, Bool.true_and, Bool.and_false, Bool.false_and, Bool.not_true, Bool.not_false, Bool.or_true, Bool.true_or, Bool.or_false, Bool.false_or, reduceIte, b2i_t, b2i_f]) (by rw [rTk, ← hT, ← hr9, ← hl9, show tkn T a (nI b) left k = T.1 34 (608 + 4 * k + 2) from (by unfold tkn; simp only [if_neg c1, if_pos c1, decide_eq_false c1, if_pos c2, if_neg (not_not_intro c2), decide_eq_true c2, c3, if_neg c4, if_pos c4, decide_eq_false c4, if_pos c8, if_neg (not_not_intro c8), decide_eq_true c8, if_true, if_false, eq_self, Bool.false_eq_true, not_true_eq_false, not_false_eq_true, decide_true, decide_false, Bool.and_true, Bool.true_and, Bool.and_false, Bool.false_and, Bool.not_true, Bool.not_false, Bool.or_true, Bool.true_or, Bool.or_false, Bool.false_or, reduceIte, b2i_t, b2i_f])]; simp only [if_neg c1, if_pos c1, decide_eq_false c1, if_pos c2, if_neg (not_not_intro c2), decide_eq_true c2, c3, if_neg c4, if_pos c4, decide_eq_false c4, if_pos c8, if_neg (not_not_intro c8), decide_eq_true c8, if_true, if_false, eq_self, Bool.false_eq_true, not_true_eq_false, not_false_eq_true, decide_true, decide_false, Bool.and_true, Bool.true_and, Bool.and_false, Bool.false_and, Bool.not_true, Bool.not_false, Bool.or_true, Bool.true_or, Bool.or_false, Bool.false_or, reduceIte, b2i_t, b2i_f]) hw (lv_sub hl [3, 4, 5, 6, 0, 7, 1] rfl)
          · skip
            refine lv_iconst (v := nI 0) hx hb dX11_takes_48 (by decide) ?_
            refine lv_goto (tgt := 76) hx hb dX11_takes_49 (by decide) ?_
            refine lv_istore (lv' := [(7, .int (nI 0)), (0, .ref (α 30)), (1, .int a), (2, .int (nI b)), (3, .int q), (6, .int (nI k)), (5, .int (nI r)), (4, .int left)]) hx hb dX11_takes_76 hl (by decide) rfl (fun ls hl => ?_)
            refine lv_iload hx hb dX11_takes_78 (lv_at hl 7 rfl) ?_
            refine lv_iload hx hb dX11_takes_80 (lv_at hl 0 rfl) ?_
            refine lv_isub hx hb dX11_takes_82 ?_
            refine lv_istore (lv' := [(4, .int (left - (nI 0))), (7, .int (nI 0)), (0, .ref (α 30)), (1, .int a), (2, .int (nI b)), (3, .int q), (6, .int (nI k)), (5, .int (nI r))]) hx hb dX11_takes_83 hl (by decide) rfl (fun ls hl => ?_)
            refine lv_aload_n hx hb dX11_takes_85 rfl (lv_at hl 2 rfl) ?_
            refine lv_iload hx hb dX11_takes_86 (lv_at hl 6 rfl) ?_
            refine lv_iconst (v := nI 2) hx hb dX11_takes_88 (by decide) ?_
            refine x_callVIr (q := 30) (C := RX11) (As := [.int (nI k), .int (nI 2)]) (rest := []) ⟨hx, hb, hml, hown, hts⟩ (ct_X11_lot l D cA α n _ hn T k 2 (by omega)) (cwV 2 hts gX11_takes_X11_lot rfl rfl rfl (by decide +kernel) ⟨Nat.le_of_ble_eq_true rfl, Nat.le_of_ble_eq_true rfl⟩) hK hw hAw (ws_recv hK hw (q := 30) (Nat.lt_of_lt_of_le (Nat.le_of_ble_eq_true rfl : 30 < 191) hn) (mk_30 cA α) rfl) rfl hl.1 rfl (Nat.le_of_ble_eq_true rfl) dX11_takes_89 ⟨Nat.zero_le _, Nat.zero_le _⟩ (fun H locs hw => ?_)
            refine lv_iload hx hb dX11_takes_92 (lv_at hl 1 rfl) ?_
            refine lv_icmp_ne (tgt := 100) hx hb dX11_takes_94 (by decide) (fun c9 => ?_) (fun c9 => ?_)
            · skip
              refine lv_iconst (v := nI 0) hx hb dX11_takes_100 (by decide) ?_
              refine lv_istore (lv' := [(8, .int (nI 0)), (4, .int (left - (nI 0))), (7, .int (nI 0)), (0, .ref (α 30)), (1, .int a), (2, .int (nI b)), (3, .int q), (6, .int (nI k)), (5, .int (nI r))]) hx hb dX11_takes_101 hl (by decide) rfl (fun ls hl => ?_)
              have lp103 : ∀ (t : Nat) (w : Nat) (T2 : Mem) (H : Heap) (locs : List Loc) (ls : Array Slot), 4 - w < t → w ≤ 4 → T2 = mvW T k r (nI 0) w → Ws D cA α n (Aw α n sz) s.heap T2 H locs → lv_has ls 9 [(0, .ref (α 30)), (1, .int a), (2, .int (nI b)), (3, .int q), (4, .int (left - (nI 0))), (5, .int (nI r)), (6, .int (nI k)), (7, .int (nI 0)), (8, .int (nI w))] → W p l e ({ frames := 2, cells := 0, slots := 0, locals := 45 } : Room) s m (List.toArray ([.ref (α 30), .int a, .int (nI b), .int q] : List Value)) below meth c H locs 0 0 (MQ below (va_Qv (fun u => u = (rTak S a b q L)) (Pw D cA α n) (Aw α n sz)) (List.toArray ([.ref (α 30), .int a, .int (nI b), .int q] : List Value)) s 0 0 (Aw α n sz)) (F0 m 103 ls []) := by
                intro t
                induction t with
                | zero => intro w T2 H locs ls ht; exact absurd ht (Nat.not_lt_zero _)
                | succ t ih103 =>
                  intro w T2 H locs ls ht hw4 hT2 hw hl
                  refine lv_iload hx hb dX11_takes_103 (lv_at hl 8 rfl) ?_
                  refine lv_iconst (v := nI 4) hx hb dX11_takes_105 (by decide) ?_
                  refine xn_icmp_ge (tgt := 152) hx hb (by omega) (by decide) dX11_takes_106 (by decide) (fun c10 => ?_) (fun c10 => ?_)
                  · skip
                    refine lv_iinc (v := nI (r + 1)) (lv' := [(5, .int (nI (r + 1))), (0, .ref (α 30)), (1, .int a), (2, .int (nI b)), (3, .int q), (4, .int (left - (nI 0))), (6, .int (nI k)), (7, .int (nI 0)), (8, .int (nI w))]) hx hb dX11_takes_152 hl (k := 5) rfl (nI_1 _) (by decide) rfl (fun ls hl => ?_)
                    refine lv_iinc (v := nI (k + 1)) (lv' := [(6, .int (nI (k + 1))), (5, .int (nI (r + 1))), (0, .ref (α 30)), (1, .int a), (2, .int (nI b)), (3, .int q), (4, .int (left - (nI 0))), (7, .int (nI 0)), (8, .int (nI w))]) hx hb dX11_takes_155 hl (k := 6) rfl (nI_1 _) (by decide) rfl (fun ls hl => ?_)
                    refine lv_goto (tgt := 26) hx hb dX11_takes_158 (by decide) ?_
                    exact ih26 (k + 1) (r + 1) (left - (nI 0)) T2 _ _ _ (by omega) (by omega) (by have := rTk_in S a (nI b) (q0R S a b q) k; omega) (by rw [rTk, ← hT, ← hr9, ← hl9, show tkn T a (nI b) left k = nI 0 from (by unfold tkn; simp only [if_neg c1, if_pos c1, decide_eq_false c1, if_pos c2, if_neg (not_not_intro c2), decide_eq_true c2, c3, if_neg c9, if_pos c9, decide_eq_false c9, if_pos c10, if_neg (not_not_intro c10), decide_eq_true c10, if_true, if_false, eq_self, Bool.false_eq_true, not_true_eq_false, not_false_eq_true, decide_true, decide_false, Bool.and_true, Bool.true_and, Bool.and_false, Bool.false_and, Bool.not_true, Bool.not_false, Bool.or_true, Bool.true_or, Bool.or_false, Bool.false_or, reduceIte, b2i_t, b2i_f])]; simp only [if_neg c1, if_pos c1, decide_eq_false c1, if_pos c2, if_neg (not_not_intro c2), decide_eq_true c2, c3, if_neg c9, if_pos c9, decide_eq_false c9, if_pos c10, if_neg (not_not_intro c10), decide_eq_true c10, if_true, if_false, eq_self, Bool.false_eq_true, not_true_eq_false, not_false_eq_true, decide_true, decide_false, Bool.and_true, Bool.true_and, Bool.and_false, Bool.false_and, Bool.not_true, Bool.not_false, Bool.or_true, Bool.true_or, Bool.or_false, Bool.false_or, reduceIte, b2i_t, b2i_f]; rw [hT2, show w = 4 by omega]) (by rw [rTk, ← hT, ← hr9, ← hl9, show tkn T a (nI b) left k = nI 0 from (by unfold tkn; simp only [if_neg c1, if_pos c1, decide_eq_false c1, if_pos c2, if_neg (not_not_intro c2), decide_eq_true c2, c3, if_neg c9, if_pos c9, decide_eq_false c9, if_pos c10, if_neg (not_not_intro c10), decide_eq_true c10, if_true, if_false, eq_self, Bool.false_eq_true, not_true_eq_false, not_false_eq_true, decide_true, decide_false, Bool.and_true, Bool.true_and, Bool.and_false, Bool.false_and, Bool.not_true, Bool.not_false, Bool.or_true, Bool.true_or, Bool.or_false, Bool.false_or, reduceIte, b2i_t, b2i_f])]; simp only [if_neg c1, if_pos c1, decide_eq_false c1, if_pos c2, if_neg (not_not_intro c2), decide_eq_true c2, c3, if_neg c9, if_pos c9, decide_eq_false c9, if_pos c10, if_neg (not_not_intro c10), decide_eq_true c10, if_true, if_false, eq_self, Bool.false_eq_true, not_true_eq_false, not_false_eq_true, decide_true, decide_false, Bool.and_true, Bool.true_and, Bool.and_false, Bool.false_and, Bool.not_true, Bool.not_false, Bool.or_true, Bool.true_or, Bool.or_false, Bool.false_or, reduceIte, b2i_t, b2i_f]) (by rw [rTk, ← hT, ← hr9, ← hl9, show tkn T a (nI b) left k = nI 0 from (by unfold tkn; simp only [if_neg c1, if_pos c1, decide_eq_false c1, if_pos c2, if_neg (not_not_intro c2), decide_eq_true c2, c3, if_neg c9, if_pos c9, decide_eq_false c9, if_pos c10, if_neg (not_not_intro c10), decide_eq_true c10, if_true, if_false, eq_self, Bool.false_eq_true, not_true_eq_false, not_false_eq_true, decide_true, decide_false, Bool.and_true, Bool.true_and, Bool.and_false, Bool.false_and, Bool.not_true, Bool.not_false, Bool.or_true, Bool.true_or, Bool.or_false, Bool.false_or, reduceIte, b2i_t, b2i_f])]; simp only [if_neg c1, if_pos c1, decide_eq_false c1, if_pos c2, if_neg (not_not_intro c2), decide_eq_true c2, c3, if_neg c9, if_pos c9, decide_eq_false c9, if_pos c10, if_neg (not_not_intro c10), decide_eq_true c10, if_true, if_false, eq_self, Bool.false_eq_true, not_true_eq_false, not_false_eq_true, decide_true, decide_false, Bool.and_true, Bool.true_and, Bool.and_false, Bool.false_and, Bool.not_true, Bool.not_false, Bool.or_true, Bool.true_or, Bool.or_false, Bool.false_or, reduceIte, b2i_t, b2i_f]) hw (lv_sub hl [2, 3, 4, 5, 0, 1, 6] rfl)
                  · skip
                    refine lv_aload_n hx hb dX11_takes_109 rfl (lv_at hl 0 rfl) ?_
                    refine x_get (v := .ref (α 34)) (C := RX11) (T := TX11) (N := 24) hx hb hts (fun _ h => List.mem_cons_of_mem _ (List.mem_append_right _ h)) hown hK hw 30 (Nat.lt_of_lt_of_le (Nat.le_of_ble_eq_true rfl : 30 < 191) hn) (mk_30 cA α) rfl 13 (by decide) (hts _ (List.mem_of_getElem? (i := 2) rfl)) (fun _ h9 => h9) rfl dX11_takes_110 ?_
                    refine lv_sipush (v := nI 608) hx hb dX11_takes_113 (by decide) ?_
                    refine lv_iconst (v := nI 4) hx hb dX11_takes_116 (by decide) ?_
                    refine lv_iload hx hb dX11_takes_117 (lv_at hl 5 rfl) ?_
                    refine xn_imul hx hb dX11_takes_119 ?_
                    refine xn_iadd hx hb dX11_takes_120 ?_
                    refine lv_iload hx hb dX11_takes_121 (lv_at hl 8 rfl) ?_
                    refine xn_iadd hx hb dX11_takes_123 ?_
                    refine lv_aload_n hx hb dX11_takes_124 rfl (lv_at hl 0 rfl) ?_
                    refine lv_iload hx hb dX11_takes_125 (lv_at hl 6 rfl) ?_
                    refine lv_iload hx hb dX11_takes_127 (lv_at hl 8 rfl) ?_
                    refine x_callVIr (q := 30) (C := RX11) (As := [.int (nI k), .int (nI w)]) (rest := [.int (nI ((608 + (4 * r)) + w)), .ref (α 34)]) ⟨hx, hb, hml, hown, hts⟩ (ct_X11_lot l D cA α n _ hn T2 k w (by omega)) (cwV 2 hts gX11_takes_X11_lot rfl rfl rfl (by decide +kernel) ⟨Nat.le_of_ble_eq_true rfl, Nat.le_of_ble_eq_true rfl⟩) hK hw hAw (ws_recv hK hw (q := 30) (Nat.lt_of_lt_of_le (Nat.le_of_ble_eq_true rfl : 30 < 191) hn) (mk_30 cA α) rfl) rfl hl.1 rfl (Nat.le_of_ble_eq_true rfl) dX11_takes_129 ⟨Nat.zero_le _, Nat.zero_le _⟩ (fun H locs hw => ?_)
                    refine lv_iload hx hb dX11_takes_132 (lv_at hl 8 rfl) ?_
                    refine lv_iconst (v := nI 2) hx hb dX11_takes_134 (by decide) ?_
                    refine xn_icmp_ne (tgt := 143) hx hb (by omega) (by decide) dX11_takes_135 (by decide) (fun c11 => ?_) (fun c11 => ?_)
                    · skip
                      refine lv_iconst (v := nI 0) hx hb dX11_takes_143 (by decide) ?_
                      refine lv_isub hx hb dX11_takes_144 ?_
                      refine x_iast (x := (T2.1 34 (608 + 4 * k + w)) - (nI 0)) hx hb hK hw 34 1508 (Nat.lt_of_lt_of_le (Nat.le_of_ble_eq_true rfl : 34 < 191) hn) (mk_34 cA α) ((608 + (4 * r)) + w) rfl (by omega) (by decide) dX11_takes_145 (fun S4 eS4 H locs hw => ?_)
                      refine lv_iinc (v := nI (w + 1)) (lv' := [(8, .int (nI (w + 1))), (0, .ref (α 30)), (1, .int a), (2, .int (nI b)), (3, .int q), (4, .int (left - (nI 0))), (5, .int (nI r)), (6, .int (nI k)), (7, .int (nI 0))]) hx hb dX11_takes_146 hl (k := 8) rfl (nI_1 _) (by decide) rfl (fun ls hl => ?_)
                      refine lv_goto (tgt := 103) hx hb dX11_takes_149 (by decide) ?_
                      exact ih103 (w + 1) S4 _ _ _ (by omega) (by omega) (by subst eS4; rw [hT2, mvW]; simp only [if_neg c1, if_pos c1, decide_eq_false c1, if_pos c2, if_neg (not_not_intro c2), decide_eq_true c2, c3, if_neg c9, if_pos c9, decide_eq_false c9, if_pos c10, if_neg (not_not_intro c10), decide_eq_true c10, if_neg c11, if_pos c11, decide_eq_false c11, if_true, if_false, eq_self, Bool.false_eq_true, not_true_eq_false, not_false_eq_true, decide_true, decide_false, Bool.and_true, Bool.true_and, Bool.and_false, Bool.false_and, Bool.not_true, Bool.not_false, Bool.or_true, Bool.true_or, Bool.or_false, Bool.false_or, reduceIte, b2i_t, b2i_f]) hw (lv_sub hl [1, 2, 3, 4, 5, 6, 7, 8, 0] rfl)
                    · skip
                      refine lv_iload hx hb dX11_takes_138 (lv_at hl 7 rfl) ?_
                      refine lv_goto (tgt := 144) hx hb dX11_takes_140 (by decide) ?_
                      refine lv_isub hx hb dX11_takes_144 ?_
                      refine x_iast (x := (T2.1 34 (608 + 4 * k + w)) - (nI 0)) hx hb hK hw 34 1508 (Nat.lt_of_lt_of_le (Nat.le_of_ble_eq_true rfl : 34 < 191) hn) (mk_34 cA α) ((608 + (4 * r)) + w) rfl (by omega) (by decide) dX11_takes_145 (fun S5 eS5 H locs hw => ?_)
                      refine lv_iinc (v := nI (w + 1)) (lv' := [(8, .int (nI (w + 1))), (0, .ref (α 30)), (1, .int a), (2, .int (nI b)), (3, .int q), (4, .int (left - (nI 0))), (5, .int (nI r)), (6, .int (nI k)), (7, .int (nI 0))]) hx hb dX11_takes_146 hl (k := 8) rfl (nI_1 _) (by decide) rfl (fun ls hl => ?_)
                      refine lv_goto (tgt := 103) hx hb dX11_takes_149 (by decide) ?_
                      exact ih103 (w + 1) S5 _ _ _ (by omega) (by omega) (by subst eS5; rw [hT2, mvW]; simp only [if_neg c1, if_pos c1, decide_eq_false c1, if_pos c2, if_neg (not_not_intro c2), decide_eq_true c2, c3, if_neg c9, if_pos c9, decide_eq_false c9, if_pos c10, if_neg (not_not_intro c10), decide_eq_true c10, if_pos c11, if_neg (not_not_intro c11), decide_eq_true c11, if_true, if_false, eq_self, Bool.false_eq_true, not_true_eq_false, not_false_eq_true, decide_true, decide_false, Bool.and_true, Bool.true_and, Bool.and_false, Bool.false_and, Bool.not_true, Bool.not_false, Bool.or_true, Bool.true_or, Bool.or_false, Bool.false_or, reduceIte, b2i_t, b2i_f]) hw (lv_sub hl [1, 2, 3, 4, 5, 6, 7, 8, 0] rfl)
              exact lp103 _ 0 T _ _ _ (Nat.lt_succ_self _) (Nat.zero_le _) rfl hw (lv_sub hl [3, 4, 5, 6, 1, 8, 7, 2, 0] rfl)
            · skip
              refine lv_goto (tgt := 155) hx hb dX11_takes_97 (by decide) ?_
              refine lv_iinc (v := nI (k + 1)) (lv' := [(6, .int (nI (k + 1))), (4, .int (left - (nI 0))), (7, .int (nI 0)), (0, .ref (α 30)), (1, .int a), (2, .int (nI b)), (3, .int q), (5, .int (nI r))]) hx hb dX11_takes_155 hl (k := 6) rfl (nI_1 _) (by decide) rfl (fun ls hl => ?_)
              refine lv_goto (tgt := 26) hx hb dX11_takes_158 (by decide) ?_
              exact ih26 (k + 1) r (left - (nI 0)) T _ _ _ (by omega) (by omega) (by omega) (by rw [rTk, ← hT, ← hr9, ← hl9, show tkn T a (nI b) left k = nI 0 from (by unfold tkn; simp only [if_neg c1, if_pos c1, decide_eq_false c1, if_pos c2, if_neg (not_not_intro c2), decide_eq_true c2, c3, if_pos c9, if_neg (not_not_intro c9), decide_eq_true c9, if_true, if_false, eq_self, Bool.false_eq_true, not_true_eq_false, not_false_eq_true, decide_true, decide_false, Bool.and_true, Bool.true_and, Bool.and_false, Bool.false_and, Bool.not_true, Bool.not_false, Bool.or_true, Bool.true_or, Bool.or_false, Bool.false_or, reduceIte, b2i_t, b2i_f])]; simp only [if_neg c1, if_pos c1, decide_eq_false c1, if_pos c2, if_neg (not_not_intro c2), decide_eq_true c2, c3, if_pos c9, if_neg (not_not_intro c9), decide_eq_true c9, if_true, if_false, eq_self, Bool.false_eq_true, not_true_eq_false, not_false_eq_true, decide_true, decide_false, Bool.and_true, Bool.true_and, Bool.and_false, Bool.false_and, Bool.not_true, Bool.not_false, Bool.or_true, Bool.true_or, Bool.or_false, Bool.false_or, reduceIte, b2i_t, b2i_f]) (by rw [rTk, ← hT, ← hr9, ← hl9, show tkn T a (nI b) left k = nI 0 from (by unfold tkn; simp only [if_neg c1, if_pos c1, decide_eq_false c1, if_pos c2, if_neg (not_not_intro c2), decide_eq_true c2, c3, if_pos c9, if_neg (not_not_intro c9), decide_eq_true c9, if_true, if_false, eq_self, Bool.false_eq_true, not_true_eq_false, not_false_eq_true, decide_true, decide_false, Bool.and_true, Bool.true_and, Bool.and_false, Bool.false_and, Bool.not_true, Bool.not_false, Bool.or_true, Bool.true_or, Bool.or_false, Bool.false_or, reduceIte, b2i_t, b2i_f])]; simp only [if_neg c1, if_pos c1, decide_eq_false c1, if_pos c2, if_neg (not_not_intro c2), decide_eq_true c2, c3, if_pos c9, if_neg (not_not_intro c9), decide_eq_true c9, if_true, if_false, eq_self, Bool.false_eq_true, not_true_eq_false, not_false_eq_true, decide_true, decide_false, Bool.and_true, Bool.true_and, Bool.and_false, Bool.false_and, Bool.not_true, Bool.not_false, Bool.or_true, Bool.true_or, Bool.or_false, Bool.false_or, reduceIte, b2i_t, b2i_f]) (by rw [rTk, ← hT, ← hr9, ← hl9, show tkn T a (nI b) left k = nI 0 from (by unfold tkn; simp only [if_neg c1, if_pos c1, decide_eq_false c1, if_pos c2, if_neg (not_not_intro c2), decide_eq_true c2, c3, if_pos c9, if_neg (not_not_intro c9), decide_eq_true c9, if_true, if_false, eq_self, Bool.false_eq_true, not_true_eq_false, not_false_eq_true, decide_true, decide_false, Bool.and_true, Bool.true_and, Bool.and_false, Bool.false_and, Bool.not_true, Bool.not_false, Bool.or_true, Bool.true_or, Bool.or_false, Bool.false_or, reduceIte, b2i_t, b2i_f])]; simp only [if_neg c1, if_pos c1, decide_eq_false c1, if_pos c2, if_neg (not_not_intro c2), decide_eq_true c2, c3, if_pos c9, if_neg (not_not_intro c9), decide_eq_true c9, if_true, if_false, eq_self, Bool.false_eq_true, not_true_eq_false, not_false_eq_true, decide_true, decide_false, Bool.and_true, Bool.true_and, Bool.and_false, Bool.false_and, Bool.not_true, Bool.not_false, Bool.or_true, Bool.true_or, Bool.or_false, Bool.false_or, reduceIte, b2i_t, b2i_f]) hw (lv_sub hl [3, 4, 5, 6, 0, 7, 1] rfl)
    exact lp26 _ 0 0 q S _ _ _ (Nat.lt_succ_self _) (Nat.zero_le _) (Nat.le_refl _) rfl rfl (by show _ = q0R S a b q; unfold q0R; simp only [if_neg c1, if_pos c1, decide_eq_false c1, if_true, if_false, eq_self, Bool.false_eq_true, not_true_eq_false, not_false_eq_true, decide_true, decide_false, Bool.and_true, Bool.true_and, Bool.and_false, Bool.false_and, Bool.not_true, Bool.not_false, Bool.or_true, Bool.true_or, Bool.or_false, Bool.false_or, reduceIte, b2i_t, b2i_f]) hw (lv_sub hl [3, 4, 5, 6, 0, 1, 2] rfl)
  · skip
    refine lv_iconst (v := nI 0) hx hb dX11_takes_13 (by decide) ?_
    refine lv_goto (tgt := 18) hx hb dX11_takes_14 (by decide) ?_
    refine lv_istore (lv' := [(4, .int (nI 0)), (0, .ref (α 30)), (1, .int a), (2, .int (nI b)), (3, .int q)]) hx hb dX11_takes_18 hl (by decide) rfl (fun ls hl => ?_)
    refine lv_iconst (v := nI 0) hx hb dX11_takes_20 (by decide) ?_
    refine lv_istore (lv' := [(5, .int (nI 0)), (4, .int (nI 0)), (0, .ref (α 30)), (1, .int a), (2, .int (nI b)), (3, .int q)]) hx hb dX11_takes_21 hl (by decide) rfl (fun ls hl => ?_)
    refine lv_iconst (v := nI 0) hx hb dX11_takes_23 (by decide) ?_
    refine lv_istore (lv' := [(6, .int (nI 0)), (5, .int (nI 0)), (4, .int (nI 0)), (0, .ref (α 30)), (1, .int a), (2, .int (nI b)), (3, .int q)]) hx hb dX11_takes_24 hl (by decide) rfl (fun ls hl => ?_)
    have lp26 : ∀ (t : Nat) (k : Nat) (r : Nat) (left : Int32) (T : Mem) (H : Heap) (locs : List Loc) (ls : Array Slot), L - k < t → k ≤ L → r ≤ k → T = (rTk S a (nI b) (q0R S a b q) k).1 → r = (rTk S a (nI b) (q0R S a b q) k).2.1 → left = (rTk S a (nI b) (q0R S a b q) k).2.2 → Ws D cA α n (Aw α n sz) s.heap T H locs → lv_has ls 9 [(0, .ref (α 30)), (1, .int a), (2, .int (nI b)), (3, .int q), (6, .int (nI k)), (5, .int (nI r)), (4, .int left)] → W p l e ({ frames := 2, cells := 0, slots := 0, locals := 45 } : Room) s m (List.toArray ([.ref (α 30), .int a, .int (nI b), .int q] : List Value)) below meth c H locs 0 0 (MQ below (va_Qv (fun u => u = (rTak S a b q L)) (Pw D cA α n) (Aw α n sz)) (List.toArray ([.ref (α 30), .int a, .int (nI b), .int q] : List Value)) s 0 0 (Aw α n sz)) (F0 m 26 ls []) := by
      intro t
      induction t with
      | zero => intro k r left T H locs ls ht; exact absurd ht (Nat.not_lt_zero _)
      | succ t ih26 =>
        intro k r left T H locs ls ht hj hrk hT hr9 hl9 hw hl
        refine lv_iload hx hb dX11_takes_26 (lv_at hl 4 rfl) ?_
        refine lv_aload_n hx hb dX11_takes_28 rfl (lv_at hl 0 rfl) ?_
        refine x_get (v := .ref (α 34)) (C := RX11) (T := TX11) (N := 24) hx hb hts (fun _ h => List.mem_cons_of_mem _ (List.mem_append_right _ h)) hown hK hw 30 (Nat.lt_of_lt_of_le (Nat.le_of_ble_eq_true rfl : 30 < 191) hn) (mk_30 cA α) rfl 13 (by decide) (hts _ (List.mem_of_getElem? (i := 2) rfl)) (fun _ h9 => h9) rfl dX11_takes_29 ?_
        refine lv_iconst (v := nI 1) hx hb dX11_takes_32 (by decide) ?_
        refine x_iald hx hb hK hw 34 1508 (Nat.lt_of_lt_of_le (Nat.le_of_ble_eq_true rfl : 34 < 191) hn) (mk_34 cA α) 1 rfl (by decide) (by decide) dX11_takes_33 ?_
        refine x_topN (k := L) (by rw [hT]; exact (rTk_lo S a (nI b) _ (by decide) k).trans hL) ?_
        refine xn_icmp_ge (tgt := 161) hx hb (by omega) (by omega) dX11_takes_34 (by decide) (fun c12 => ?_) (fun c12 => ?_)
        · skip
          refine lv_aload_n hx hb dX11_takes_161 rfl (lv_at hl 0 rfl) ?_
          refine x_get (v := .ref (α 34)) (C := RX11) (T := TX11) (N := 24) hx hb hts (fun _ h => List.mem_cons_of_mem _ (List.mem_append_right _ h)) hown hK hw 30 (Nat.lt_of_lt_of_le (Nat.le_of_ble_eq_true rfl : 30 < 191) hn) (mk_30 cA α) rfl 13 (by decide) (hts _ (List.mem_of_getElem? (i := 2) rfl)) (fun _ h9 => h9) rfl dX11_takes_162 ?_
          refine lv_iconst (v := nI 1) hx hb dX11_takes_165 (by decide) ?_
          refine lv_iload hx hb dX11_takes_166 (lv_at hl 5 rfl) ?_
          refine x_iast (x := nI r) hx hb hK hw 34 1508 (Nat.lt_of_lt_of_le (Nat.le_of_ble_eq_true rfl : 34 < 191) hn) (mk_34 cA α) 1 rfl (by decide) (by decide) dX11_takes_168 (fun S6 eS6 H locs hw => ?_)
          exact ret_v hx hb hr hlocks hK hw dX11_takes_169 (by subst eS6; unfold rTak; rw [hT, hr9, show k = L by omega])
        · skip
          refine lv_aload_n hx hb dX11_takes_37 rfl (lv_at hl 0 rfl) ?_
          refine lv_iload hx hb dX11_takes_38 (lv_at hl 4 rfl) ?_
          refine lv_iload_n hx hb dX11_takes_40 rfl (lv_at hl 1 rfl) ?_
          refine lv_iload_n hx hb dX11_takes_41 rfl (lv_at hl 2 rfl) ?_
          refine x_callVIr (q := 30) (C := RX11) (As := [.int (nI k), .int a, .int (nI b)]) (rest := []) ⟨hx, hb, hml, hown, hts⟩ (ct_X11_isLotOf l D cA α n _ hn T k a (nI b) (by omega)) (cwV 3 hts gX11_takes_X11_isLotOf rfl rfl rfl (by decide +kernel) ⟨Nat.le_of_ble_eq_true rfl, Nat.le_of_ble_eq_true rfl⟩) hK hw hAw (ws_recv hK hw (q := 30) (Nat.lt_of_lt_of_le (Nat.le_of_ble_eq_true rfl : 30 < 191) hn) (mk_30 cA α) rfl) rfl hl.1 rfl (Nat.le_of_ble_eq_true rfl) dX11_takes_42 ⟨Nat.zero_le _, Nat.zero_le _⟩ (fun H locs hw => ?_)
          refine xb_ne (b := (rLot T k a (nI b))) (tgt := 52) hx hb dX11_takes_45 (by decide) (fun c13 => ?_) (fun c13 => ?_)
          · skip
            refine lv_aload_n hx hb dX11_takes_52 rfl (lv_at hl 0 rfl) ?_
            refine lv_iload hx hb dX11_takes_53 (lv_at hl 4 rfl) ?_
            refine lv_iconst (v := nI 2) hx hb dX11_takes_55 (by decide) ?_
            refine x_callVIr (q := 30) (C := RX11) (As := [.int (nI k), .int (nI 2)]) (rest := []) ⟨hx, hb, hml, hown, hts⟩ (ct_X11_lot l D cA α n _ hn T k 2 (by omega)) (cwV 2 hts gX11_takes_X11_lot rfl rfl rfl (by decide +kernel) ⟨Nat.le_of_ble_eq_true rfl, Nat.le_of_ble_eq_true rfl⟩) hK hw hAw (ws_recv hK hw (q := 30) (Nat.lt_of_lt_of_le (Nat.le_of_ble_eq_true rfl : 30 < 191) hn) (mk_30 cA α) rfl) rfl hl.1 rfl (Nat.le_of_ble_eq_true rfl) dX11_takes_56 ⟨Nat.zero_le _, Nat.zero_le _⟩ (fun H locs hw => ?_)
            refine lv_iload hx hb dX11_takes_59 (lv_at hl 6 rfl) ?_
            refine lv_icmp_ge (tgt := 74) hx hb dX11_takes_61 (by decide) (fun c14 => ?_) (fun c14 => ?_)
            · skip
              refine lv_iload hx hb dX11_takes_74 (lv_at hl 6 rfl) ?_
              refine lv_istore (lv' := [(7, .int left), (0, .ref (α 30)), (1, .int a), (2, .int (nI b)), (3, .int q), (6, .int (nI k)), (5, .int (nI r)), (4, .int left)]) hx hb dX11_takes_76 hl (by decide) rfl (fun ls hl => ?_)
              refine lv_iload hx hb dX11_takes_78 (lv_at hl 7 rfl) ?_
              refine lv_iload hx hb dX11_takes_80 (lv_at hl 0 rfl) ?_
              refine lv_isub hx hb dX11_takes_82 ?_
              refine lv_istore (lv' := [(4, .int (left - left)), (7, .int left), (0, .ref (α 30)), (1, .int a), (2, .int (nI b)), (3, .int q), (6, .int (nI k)), (5, .int (nI r))]) hx hb dX11_takes_83 hl (by decide) rfl (fun ls hl => ?_)
              refine lv_aload_n hx hb dX11_takes_85 rfl (lv_at hl 2 rfl) ?_
              refine lv_iload hx hb dX11_takes_86 (lv_at hl 6 rfl) ?_
              refine lv_iconst (v := nI 2) hx hb dX11_takes_88 (by decide) ?_
              refine x_callVIr (q := 30) (C := RX11) (As := [.int (nI k), .int (nI 2)]) (rest := []) ⟨hx, hb, hml, hown, hts⟩ (ct_X11_lot l D cA α n _ hn T k 2 (by omega)) (cwV 2 hts gX11_takes_X11_lot rfl rfl rfl (by decide +kernel) ⟨Nat.le_of_ble_eq_true rfl, Nat.le_of_ble_eq_true rfl⟩) hK hw hAw (ws_recv hK hw (q := 30) (Nat.lt_of_lt_of_le (Nat.le_of_ble_eq_true rfl : 30 < 191) hn) (mk_30 cA α) rfl) rfl hl.1 rfl (Nat.le_of_ble_eq_true rfl) dX11_takes_89 ⟨Nat.zero_le _, Nat.zero_le _⟩ (fun H locs hw => ?_)
              refine lv_iload hx hb dX11_takes_92 (lv_at hl 1 rfl) ?_
              refine lv_icmp_ne (tgt := 100) hx hb dX11_takes_94 (by decide) (fun c15 => ?_) (fun c15 => ?_)
              · skip
                refine lv_iconst (v := nI 0) hx hb dX11_takes_100 (by decide) ?_
                refine lv_istore (lv' := [(8, .int (nI 0)), (4, .int (left - left)), (7, .int left), (0, .ref (α 30)), (1, .int a), (2, .int (nI b)), (3, .int q), (6, .int (nI k)), (5, .int (nI r))]) hx hb dX11_takes_101 hl (by decide) rfl (fun ls hl => ?_)
                have lp103 : ∀ (t : Nat) (w : Nat) (T2 : Mem) (H : Heap) (locs : List Loc) (ls : Array Slot), 4 - w < t → w ≤ 4 → T2 = mvW T k r (left) w → Ws D cA α n (Aw α n sz) s.heap T2 H locs → lv_has ls 9 [(0, .ref (α 30)), (1, .int a), (2, .int (nI b)), (3, .int q), (4, .int (left - left)), (5, .int (nI r)), (6, .int (nI k)), (7, .int left), (8, .int (nI w))] → W p l e ({ frames := 2, cells := 0, slots := 0, locals := 45 } : Room) s m (List.toArray ([.ref (α 30), .int a, .int (nI b), .int q] : List Value)) below meth c H locs 0 0 (MQ below (va_Qv (fun u => u = (rTak S a b q L)) (Pw D cA α n) (Aw α n sz)) (List.toArray ([.ref (α 30), .int a, .int (nI b), .int q] : List Value)) s 0 0 (Aw α n sz)) (F0 m 103 ls []) := by
                  intro t
                  induction t with
                  | zero => intro w T2 H locs ls ht; exact absurd ht (Nat.not_lt_zero _)
                  | succ t ih103 =>
                    intro w T2 H locs ls ht hw4 hT2 hw hl
                    refine lv_iload hx hb dX11_takes_103 (lv_at hl 8 rfl) ?_
                    refine lv_iconst (v := nI 4) hx hb dX11_takes_105 (by decide) ?_
                    refine xn_icmp_ge (tgt := 152) hx hb (by omega) (by decide) dX11_takes_106 (by decide) (fun c16 => ?_) (fun c16 => ?_)
                    · skip
                      refine lv_iinc (v := nI (r + 1)) (lv' := [(5, .int (nI (r + 1))), (0, .ref (α 30)), (1, .int a), (2, .int (nI b)), (3, .int q), (4, .int (left - left)), (6, .int (nI k)), (7, .int left), (8, .int (nI w))]) hx hb dX11_takes_152 hl (k := 5) rfl (nI_1 _) (by decide) rfl (fun ls hl => ?_)
                      refine lv_iinc (v := nI (k + 1)) (lv' := [(6, .int (nI (k + 1))), (5, .int (nI (r + 1))), (0, .ref (α 30)), (1, .int a), (2, .int (nI b)), (3, .int q), (4, .int (left - left)), (7, .int left), (8, .int (nI w))]) hx hb dX11_takes_155 hl (k := 6) rfl (nI_1 _) (by decide) rfl (fun ls hl => ?_)
                      refine lv_goto (tgt := 26) hx hb dX11_takes_158 (by decide) ?_
                      exact ih26 (k + 1) (r + 1) (left - left) T2 _ _ _ (by omega) (by omega) (by have := rTk_in S a (nI b) (q0R S a b q) k; omega) (by rw [rTk, ← hT, ← hr9, ← hl9, show tkn T a (nI b) left k = left from (by unfold tkn; simp only [if_pos c1, if_neg (not_not_intro c1), decide_eq_true c1, if_pos c12, if_neg (not_not_intro c12), decide_eq_true c12, c13, if_pos c14, if_neg (not_not_intro c14), decide_eq_true c14, if_neg c15, if_pos c15, decide_eq_false c15, if_pos c16, if_neg (not_not_intro c16), decide_eq_true c16, if_true, if_false, eq_self, Bool.false_eq_true, not_true_eq_false, not_false_eq_true, decide_true, decide_false, Bool.and_true, Bool.true_and, Bool.and_false, Bool.false_and, Bool.not_true, Bool.not_false, Bool.or_true, Bool.true_or, Bool.or_false, Bool.false_or, reduceIte, b2i_t, b2i_f])]; simp only [if_pos c1, if_neg (not_not_intro c1), decide_eq_true c1, if_pos c12, if_neg (not_not_intro c12), decide_eq_true c12, c13, if_pos c14, if_neg (not_not_intro c14), decide_eq_true c14, if_neg c15, if_pos c15, decide_eq_false c15, if_pos c16, if_neg (not_not_intro c16), decide_eq_true c16, if_true, if_false, eq_self, Bool.false_eq_true, not_true_eq_false, not_false_eq_true, decide_true, decide_false, Bool.and_true, Bool.true_and, Bool.and_false, Bool.false_and, Bool.not_true, Bool.not_false, Bool.or_true, Bool.true_or, Bool.or_false, Bool.false_or, reduceIte, b2i_t, b2i_f]; rw [hT2, show w = 4 by omega]) (by rw [rTk, ← hT, ← hr9, ← hl9, show tkn T a (nI b) left k = left from (by unfold tkn; simp only [if_pos c1, if_neg (not_not_intro c1), decide_eq_true c1, if_pos c12, if_neg (not_not_intro c12), decide_eq_true c12, c13, if_pos c14, if_neg (not_not_intro c14), decide_eq_true c14, if_neg c15, if_pos c15, decide_eq_false c15, if_pos c16, if_neg (not_not_intro c16), decide_eq_true c16, if_true, if_false, eq_self, Bool.false_eq_true, not_true_eq_false, not_false_eq_true, decide_true, decide_false, Bool.and_true, Bool.true_and, Bool.and_false, Bool.false_and, Bool.not_true, Bool.not_false, Bool.or_true, Bool.true_or, Bool.or_false, Bool.false_or, reduceIte, b2i_t, b2i_f])]; simp only [if_pos c1, if_neg (not_not_intro c1), decide_eq_true c1, if_pos c12, if_neg (not_not_intro c12), decide_eq_true c12, c13, if_pos c14, if_neg (not_not_intro c14), decide_eq_true c14, if_neg c15, if_pos c15, decide_eq_false c15, if_pos c16, if_neg (not_not_intro c16), decide_eq_true c16, if_true, if_false, eq_self, Bool.false_eq_true, not_true_eq_false, not_false_eq_true, decide_true, decide_false, Bool.and_true, Bool.true_and, Bool.and_false, Bool.false_and, Bool.not_true, Bool.not_false, Bool.or_true, Bool.true_or, Bool.or_false, Bool.false_or, reduceIte, b2i_t, b2i_f]) (by rw [rTk, ← hT, ← hr9, ← hl9, show tkn T a (nI b) left k = left from (by unfold tkn; simp only [if_pos c1, if_neg (not_not_intro c1), decide_eq_true c1, if_pos c12, if_neg (not_not_intro c12), decide_eq_true c12, c13, if_pos c14, if_neg (not_not_intro c14), decide_eq_true c14, if_neg c15, if_pos c15, decide_eq_false c15, if_pos c16, if_neg (not_not_intro c16), decide_eq_true c16, if_true, if_false, eq_self, Bool.false_eq_true, not_true_eq_false, not_false_eq_true, decide_true, decide_false, Bool.and_true, Bool.true_and, Bool.and_false, Bool.false_and, Bool.not_true, Bool.not_false, Bool.or_true, Bool.true_or, Bool.or_false, Bool.false_or, reduceIte, b2i_t, b2i_f])]; simp only [if_pos c1, if_neg (not_not_intro c1), decide_eq_true c1, if_pos c12, if_neg (not_not_intro c12), decide_eq_true c12, c13, if_pos c14, if_neg (not_not_intro c14), decide_eq_true c14, if_neg c15, if_pos c15, decide_eq_false c15, if_pos c16, if_neg (not_not_intro c16), decide_eq_true c16, if_true, if_false, eq_self, Bool.false_eq_true, not_true_eq_false, not_false_eq_true, decide_true, decide_false, Bool.and_true, Bool.true_and, Bool.and_false, Bool.false_and, Bool.not_true, Bool.not_false, Bool.or_true, Bool.true_or, Bool.or_false, Bool.false_or, reduceIte, b2i_t, b2i_f]) hw (lv_sub hl [2, 3, 4, 5, 0, 1, 6] rfl)
                    · skip
                      refine lv_aload_n hx hb dX11_takes_109 rfl (lv_at hl 0 rfl) ?_
                      refine x_get (v := .ref (α 34)) (C := RX11) (T := TX11) (N := 24) hx hb hts (fun _ h => List.mem_cons_of_mem _ (List.mem_append_right _ h)) hown hK hw 30 (Nat.lt_of_lt_of_le (Nat.le_of_ble_eq_true rfl : 30 < 191) hn) (mk_30 cA α) rfl 13 (by decide) (hts _ (List.mem_of_getElem? (i := 2) rfl)) (fun _ h9 => h9) rfl dX11_takes_110 ?_
                      refine lv_sipush (v := nI 608) hx hb dX11_takes_113 (by decide) ?_
                      refine lv_iconst (v := nI 4) hx hb dX11_takes_116 (by decide) ?_
                      refine lv_iload hx hb dX11_takes_117 (lv_at hl 5 rfl) ?_
                      refine xn_imul hx hb dX11_takes_119 ?_
                      refine xn_iadd hx hb dX11_takes_120 ?_
                      refine lv_iload hx hb dX11_takes_121 (lv_at hl 8 rfl) ?_
                      refine xn_iadd hx hb dX11_takes_123 ?_
                      refine lv_aload_n hx hb dX11_takes_124 rfl (lv_at hl 0 rfl) ?_
                      refine lv_iload hx hb dX11_takes_125 (lv_at hl 6 rfl) ?_
                      refine lv_iload hx hb dX11_takes_127 (lv_at hl 8 rfl) ?_
                      refine x_callVIr (q := 30) (C := RX11) (As := [.int (nI k), .int (nI w)]) (rest := [.int (nI ((608 + (4 * r)) + w)), .ref (α 34)]) ⟨hx, hb, hml, hown, hts⟩ (ct_X11_lot l D cA α n _ hn T2 k w (by omega)) (cwV 2 hts gX11_takes_X11_lot rfl rfl rfl (by decide +kernel) ⟨Nat.le_of_ble_eq_true rfl, Nat.le_of_ble_eq_true rfl⟩) hK hw hAw (ws_recv hK hw (q := 30) (Nat.lt_of_lt_of_le (Nat.le_of_ble_eq_true rfl : 30 < 191) hn) (mk_30 cA α) rfl) rfl hl.1 rfl (Nat.le_of_ble_eq_true rfl) dX11_takes_129 ⟨Nat.zero_le _, Nat.zero_le _⟩ (fun H locs hw => ?_)
                      refine lv_iload hx hb dX11_takes_132 (lv_at hl 8 rfl) ?_
                      refine lv_iconst (v := nI 2) hx hb dX11_takes_134 (by decide) ?_
                      refine xn_icmp_ne (tgt := 143) hx hb (by omega) (by decide) dX11_takes_135 (by decide) (fun c17 => ?_) (fun c17 => ?_)
                      · skip
                        refine lv_iconst (v := nI 0) hx hb dX11_takes_143 (by decide) ?_
                        refine lv_isub hx hb dX11_takes_144 ?_
                        refine x_iast (x := (T2.1 34 (608 + 4 * k + w)) - (nI 0)) hx hb hK hw 34 1508 (Nat.lt_of_lt_of_le (Nat.le_of_ble_eq_true rfl : 34 < 191) hn) (mk_34 cA α) ((608 + (4 * r)) + w) rfl (by omega) (by decide) dX11_takes_145 (fun S7 eS7 H locs hw => ?_)
                        refine lv_iinc (v := nI (w + 1)) (lv' := [(8, .int (nI (w + 1))), (0, .ref (α 30)), (1, .int a), (2, .int (nI b)), (3, .int q), (4, .int (left - left)), (5, .int (nI r)), (6, .int (nI k)), (7, .int left)]) hx hb dX11_takes_146 hl (k := 8) rfl (nI_1 _) (by decide) rfl (fun ls hl => ?_)
                        refine lv_goto (tgt := 103) hx hb dX11_takes_149 (by decide) ?_
                        exact ih103 (w + 1) S7 _ _ _ (by omega) (by omega) (by subst eS7; rw [hT2, mvW]; simp only [if_pos c1, if_neg (not_not_intro c1), decide_eq_true c1, if_pos c12, if_neg (not_not_intro c12), decide_eq_true c12, c13, if_pos c14, if_neg (not_not_intro c14), decide_eq_true c14, if_neg c15, if_pos c15, decide_eq_false c15, if_pos c16, if_neg (not_not_intro c16), decide_eq_true c16, if_neg c17, if_pos c17, decide_eq_false c17, if_true, if_false, eq_self, Bool.false_eq_true, not_true_eq_false, not_false_eq_true, decide_true, decide_false, Bool.and_true, Bool.true_and, Bool.and_false, Bool.false_and, Bool.not_true, Bool.not_false, Bool.or_true, Bool.true_or, Bool.or_false, Bool.false_or, reduceIte, b2i_t, b2i_f]) hw (lv_sub hl [1, 2, 3, 4, 5, 6, 7, 8, 0] rfl)
                      · skip
                        refine lv_iload hx hb dX11_takes_138 (lv_at hl 7 rfl) ?_
                        refine lv_goto (tgt := 144) hx hb dX11_takes_140 (by decide) ?_
                        refine lv_isub hx hb dX11_takes_144 ?_
                        refine x_iast (x := (T2.1 34 (608 + 4 * k + w)) - left) hx hb hK hw 34 1508 (Nat.lt_of_lt_of_le (Nat.le_of_ble_eq_true rfl : 34 < 191) hn) (mk_34 cA α) ((608 + (4 * r)) + w) rfl (by omega) (by decide) dX11_takes_145 (fun S8 eS8 H locs hw => ?_)
                        refine lv_iinc (v := nI (w + 1)) (lv' := [(8, .int (nI (w + 1))), (0, .ref (α 30)), (1, .int a), (2, .int (nI b)), (3, .int q), (4, .int (left - left)), (5, .int (nI r)), (6, .int (nI k)), (7, .int left)]) hx hb dX11_takes_146 hl (k := 8) rfl (nI_1 _) (by decide) rfl (fun ls hl => ?_)
                        refine lv_goto (tgt := 103) hx hb dX11_takes_149 (by decide) ?_
                        exact ih103 (w + 1) S8 _ _ _ (by omega) (by omega) (by subst eS8; rw [hT2, mvW]; simp only [if_pos c1, if_neg (not_not_intro c1), decide_eq_true c1, if_pos c12, if_neg (not_not_intro c12), decide_eq_true c12, c13, if_pos c14, if_neg (not_not_intro c14), decide_eq_true c14, if_neg c15, if_pos c15, decide_eq_false c15, if_pos c16, if_neg (not_not_intro c16), decide_eq_true c16, if_pos c17, if_neg (not_not_intro c17), decide_eq_true c17, if_true, if_false, eq_self, Bool.false_eq_true, not_true_eq_false, not_false_eq_true, decide_true, decide_false, Bool.and_true, Bool.true_and, Bool.and_false, Bool.false_and, Bool.not_true, Bool.not_false, Bool.or_true, Bool.true_or, Bool.or_false, Bool.false_or, reduceIte, b2i_t, b2i_f]) hw (lv_sub hl [1, 2, 3, 4, 5, 6, 7, 8, 0] rfl)
                exact lp103 _ 0 T _ _ _ (Nat.lt_succ_self _) (Nat.zero_le _) rfl hw (lv_sub hl [3, 4, 5, 6, 1, 8, 7, 2, 0] rfl)
              · skip
                refine lv_goto (tgt := 155) hx hb dX11_takes_97 (by decide) ?_
                refine lv_iinc (v := nI (k + 1)) (lv' := [(6, .int (nI (k + 1))), (4, .int (left - left)), (7, .int left), (0, .ref (α 30)), (1, .int a), (2, .int (nI b)), (3, .int q), (5, .int (nI r))]) hx hb dX11_takes_155 hl (k := 6) rfl (nI_1 _) (by decide) rfl (fun ls hl => ?_)
                refine lv_goto (tgt := 26) hx hb dX11_takes_158 (by decide) ?_
                exact ih26 (k + 1) r (left - left) T _ _ _ (by omega) (by omega) (by omega) (by rw [rTk, ← hT, ← hr9, ← hl9, show tkn T a (nI b) left k = left from (by unfold tkn; simp only [if_pos c1, if_neg (not_not_intro c1), decide_eq_true c1, if_pos c12, if_neg (not_not_intro c12), decide_eq_true c12, c13, if_pos c14, if_neg (not_not_intro c14), decide_eq_true c14, if_pos c15, if_neg (not_not_intro c15), decide_eq_true c15, if_true, if_false, eq_self, Bool.false_eq_true, not_true_eq_false, not_false_eq_true, decide_true, decide_false, Bool.and_true, Bool.true_and, Bool.and_false, Bool.false_and, Bool.not_true, Bool.not_false, Bool.or_true, Bool.true_or, Bool.or_false, Bool.false_or, reduceIte, b2i_t, b2i_f])]; simp only [if_pos c1, if_neg (not_not_intro c1), decide_eq_true c1, if_pos c12, if_neg (not_not_intro c12), decide_eq_true c12, c13, if_pos c14, if_neg (not_not_intro c14), decide_eq_true c14, if_pos c15, if_neg (not_not_intro c15), decide_eq_true c15, if_true, if_false, eq_self, Bool.false_eq_true, not_true_eq_false, not_false_eq_true, decide_true, decide_false, Bool.and_true, Bool.true_and, Bool.and_false, Bool.false_and, Bool.not_true, Bool.not_false, Bool.or_true, Bool.true_or, Bool.or_false, Bool.false_or, reduceIte, b2i_t, b2i_f]) (by rw [rTk, ← hT, ← hr9, ← hl9, show tkn T a (nI b) left k = left from (by unfold tkn; simp only [if_pos c1, if_neg (not_not_intro c1), decide_eq_true c1, if_pos c12, if_neg (not_not_intro c12), decide_eq_true c12, c13, if_pos c14, if_neg (not_not_intro c14), decide_eq_true c14, if_pos c15, if_neg (not_not_intro c15), decide_eq_true c15, if_true, if_false, eq_self, Bool.false_eq_true, not_true_eq_false, not_false_eq_true, decide_true, decide_false, Bool.and_true, Bool.true_and, Bool.and_false, Bool.false_and, Bool.not_true, Bool.not_false, Bool.or_true, Bool.true_or, Bool.or_false, Bool.false_or, reduceIte, b2i_t, b2i_f])]; simp only [if_pos c1, if_neg (not_not_intro c1), decide_eq_true c1, if_pos c12, if_neg (not_not_intro c12), decide_eq_true c12, c13, if_pos c14, if_neg (not_not_intro c14), decide_eq_true c14, if_pos c15, if_neg (not_not_intro c15), decide_eq_true c15, if_true, if_false, eq_self, Bool.false_eq_true, not_true_eq_false, not_false_eq_true, decide_true, decide_false, Bool.and_true, Bool.true_and, Bool.and_false, Bool.false_and, Bool.not_true, Bool.not_false, Bool.or_true, Bool.true_or, Bool.or_false, Bool.false_or, reduceIte, b2i_t, b2i_f]) (by rw [rTk, ← hT, ← hr9, ← hl9, show tkn T a (nI b) left k = left from (by unfold tkn; simp only [if_pos c1, if_neg (not_not_intro c1), decide_eq_true c1, if_pos c12, if_neg (not_not_intro c12), decide_eq_true c12, c13, if_pos c14, if_neg (not_not_intro c14), decide_eq_true c14, if_pos c15, if_neg (not_not_intro c15), decide_eq_true c15, if_true, if_false, eq_self, Bool.false_eq_true, not_true_eq_false, not_false_eq_true, decide_true, decide_false, Bool.and_true, Bool.true_and, Bool.and_false, Bool.false_and, Bool.not_true, Bool.not_false, Bool.or_true, Bool.true_or, Bool.or_false, Bool.false_or, reduceIte, b2i_t, b2i_f])]; simp only [if_pos c1, if_neg (not_not_intro c1), decide_eq_true c1, if_pos c12, if_neg (not_not_intro c12), decide_eq_true c12, c13, if_pos c14, if_neg (not_not_intro c14), decide_eq_true c14, if_pos c15, if_neg (not_not_intro c15), decide_eq_true c15, if_true, if_false, eq_self, Bool.false_eq_true, not_true_eq_false, not_false_eq_true, decide_true, decide_false, Bool.and_true, Bool.true_and, Bool.and_false, Bool.false_and, Bool.not_true, Bool.not_false, Bool.or_true, Bool.true_or, Bool.or_false, Bool.false_or, reduceIte, b2i_t, b2i_f]) hw (lv_sub hl [3, 4, 5, 6, 0, 7, 1] rfl)
            · skip
              refine lv_aload_n hx hb dX11_takes_64 rfl (lv_at hl 0 rfl) ?_
              refine lv_iload hx hb dX11_takes_65 (lv_at hl 4 rfl) ?_
              refine lv_iconst (v := nI 2) hx hb dX11_takes_67 (by decide) ?_
              refine x_callVIr (q := 30) (C := RX11) (As := [.int (nI k), .int (nI 2)]) (rest := []) ⟨hx, hb, hml, hown, hts⟩ (ct_X11_lot l D cA α n _ hn T k 2 (by omega)) (cwV 2 hts gX11_takes_X11_lot rfl rfl rfl (by decide +kernel) ⟨Nat.le_of_ble_eq_true rfl, Nat.le_of_ble_eq_true rfl⟩) hK hw hAw (ws_recv hK hw (q := 30) (Nat.lt_of_lt_of_le (Nat.le_of_ble_eq_true rfl : 30 < 191) hn) (mk_30 cA α) rfl) rfl hl.1 rfl (Nat.le_of_ble_eq_true rfl) dX11_takes_68 ⟨Nat.zero_le _, Nat.zero_le _⟩ (fun H locs hw => ?_)
              refine lv_goto (tgt := 76) hx hb dX11_takes_71 (by decide) ?_
              refine lv_istore (lv' := [(7, .int (T.1 34 (608 + 4 * k + 2))), (0, .ref (α 30)), (1, .int a), (2, .int (nI b)), (3, .int q), (6, .int (nI k)), (5, .int (nI r)), (4, .int left)]) hx hb dX11_takes_76 hl (by decide) rfl (fun ls hl => ?_)
              refine lv_iload hx hb dX11_takes_78 (lv_at hl 7 rfl) ?_
              refine lv_iload hx hb dX11_takes_80 (lv_at hl 0 rfl) ?_
              refine lv_isub hx hb dX11_takes_82 ?_
              refine lv_istore (lv' := [(4, .int (left - (T.1 34 (608 + 4 * k + 2)))), (7, .int (T.1 34 (608 + 4 * k + 2))), (0, .ref (α 30)), (1, .int a), (2, .int (nI b)), (3, .int q), (6, .int (nI k)), (5, .int (nI r))]) hx hb dX11_takes_83 hl (by decide) rfl (fun ls hl => ?_)
              refine lv_aload_n hx hb dX11_takes_85 rfl (lv_at hl 2 rfl) ?_
              refine lv_iload hx hb dX11_takes_86 (lv_at hl 6 rfl) ?_
              refine lv_iconst (v := nI 2) hx hb dX11_takes_88 (by decide) ?_
              refine x_callVIr (q := 30) (C := RX11) (As := [.int (nI k), .int (nI 2)]) (rest := []) ⟨hx, hb, hml, hown, hts⟩ (ct_X11_lot l D cA α n _ hn T k 2 (by omega)) (cwV 2 hts gX11_takes_X11_lot rfl rfl rfl (by decide +kernel) ⟨Nat.le_of_ble_eq_true rfl, Nat.le_of_ble_eq_true rfl⟩) hK hw hAw (ws_recv hK hw (q := 30) (Nat.lt_of_lt_of_le (Nat.le_of_ble_eq_true rfl : 30 < 191) hn) (mk_30 cA α) rfl) rfl hl.1 rfl (Nat.le_of_ble_eq_true rfl) dX11_takes_89 ⟨Nat.zero_le _, Nat.zero_le _⟩ (fun H locs hw => ?_)
              refine lv_iload hx hb dX11_takes_92 (lv_at hl 1 rfl) ?_
              refine lv_icmp_ne (tgt := 100) hx hb dX11_takes_94 (by decide) (fun c18 => ?_) (fun c18 => ?_)
              · exact absurd rfl c18
              · skip
                refine lv_goto (tgt := 155) hx hb dX11_takes_97 (by decide) ?_
                refine lv_iinc (v := nI (k + 1)) (lv' := [(6, .int (nI (k + 1))), (4, .int (left - (T.1 34 (608 + 4 * k + 2)))), (7, .int (T.1 34 (608 + 4 * k + 2))), (0, .ref (α 30)), (1, .int a), (2, .int (nI b)), (3, .int q), (5, .int (nI r))]) hx hb dX11_takes_155 hl (k := 6) rfl (nI_1 _) (by decide) rfl (fun ls hl => ?_)
                refine lv_goto (tgt := 26) hx hb dX11_takes_158 (by decide) ?_
                exact ih26 (k + 1) r (left - (T.1 34 (608 + 4 * k + 2))) T _ _ _ (by omega) (by omega) (by omega) (by rw [rTk, ← hT, ← hr9, ← hl9, show tkn T a (nI b) left k = T.1 34 (608 + 4 * k + 2) from (by unfold tkn; simp only [if_pos c1, if_neg (not_not_intro c1), decide_eq_true c1, if_pos c12, if_neg (not_not_intro c12), decide_eq_true c12, c13, if_neg c14, if_pos c14, decide_eq_false c14, if_pos c18, if_neg (not_not_intro c18), decide_eq_true c18, if_true, if_false, eq_self, Bool.false_eq_true, not_true_eq_false, not_false_eq_true, decide_true, decide_false, Bool.and_true, Bool.true_and, Bool.and_false, Bool.false_and, Bool.not_true, Bool.not_false, Bool.or_true, Bool.true_or, Bool.or_false, Bool.false_or, reduceIte, b2i_t, b2i_f])]; simp only [if_pos c1, if_neg (not_not_intro c1), decide_eq_true c1, if_pos c12, if_neg (not_not_intro c12), decide_eq_true c12, c13, if_neg c14, if_pos c14, decide_eq_false c14, if_pos c18, if_neg (not_not_intro c18), decide_eq_true c18, if_true, if_false, eq_self, Bool.false_eq_true, not_true_eq_false, not_false_eq_true, decide_true, decide_false, Bool.and_true, Bool.true_and, Bool.and_false, Bool.false_and, Bool.not_true, Bool.not_false, Bool.or_true, Bool.true_or, Bool.or_false, Bool.false_or, reduceIte, b2i_t, b2i_f]) (by rw [rTk, ← hT, ← hr9, ← hl9, show tkn T a (nI b) left k = T.1 34 (608 + 4 * k + 2) from (by unfold tkn; simp only [if_pos c1, if_neg (not_not_intro c1), decide_eq_true c1, if_pos c12, if_neg (not_not_intro c12), decide_eq_true c12, c13, if_neg c14, if_pos c14, decide_eq_false c14, if_pos c18, if_neg (not_not_intro c18), decide_eq_true c18, if_true, if_false, eq_self, Bool.false_eq_true, not_true_eq_false, not_false_eq_true, decide_true, decide_false, Bool.and_true, Bool.true_and, Bool.and_false, Bool.false_and, Bool.not_true, Bool.not_false, Bool.or_true, Bool.true_or, Bool.or_false, Bool.false_or, reduceIte, b2i_t, b2i_f])]; simp only [if_pos c1, if_neg (not_not_intro c1), decide_eq_true c1, if_pos c12, if_neg (not_not_intro c12), decide_eq_true c12, c13, if_neg c14, if_pos c14, decide_eq_false c14, if_pos c18, if_neg (not_not_intro c18), decide_eq_true c18, if_true, if_false, eq_self, Bool.false_eq_true, not_true_eq_false, not_false_eq_true, decide_true, decide_false, Bool.and_true, Bool.true_and, Bool.and_false, Bool.false_and, Bool.not_true, Bool.not_false, Bool.or_true, Bool.true_or, Bool.or_false, Bool.false_or, reduceIte, b2i_t, b2i_f]) (by rw [rTk, ← hT, ← hr9, ← hl9, show tkn T a (nI b) left k = T.1 34 (608 + 4 * k + 2) from (by unfold tkn; simp only [if_pos c1, if_neg (not_not_intro c1), decide_eq_true c1, if_pos c12, if_neg (not_not_intro c12), decide_eq_true c12, c13, if_neg c14, if_pos c14, decide_eq_false c14, if_pos c18, if_neg (not_not_intro c18), decide_eq_true c18, if_true, if_false, eq_self, Bool.false_eq_true, not_true_eq_false, not_false_eq_true, decide_true, decide_false, Bool.and_true, Bool.true_and, Bool.and_false, Bool.false_and, Bool.not_true, Bool.not_false, Bool.or_true, Bool.true_or, Bool.or_false, Bool.false_or, reduceIte, b2i_t, b2i_f])]; simp only [if_pos c1, if_neg (not_not_intro c1), decide_eq_true c1, if_pos c12, if_neg (not_not_intro c12), decide_eq_true c12, c13, if_neg c14, if_pos c14, decide_eq_false c14, if_pos c18, if_neg (not_not_intro c18), decide_eq_true c18, if_true, if_false, eq_self, Bool.false_eq_true, not_true_eq_false, not_false_eq_true, decide_true, decide_false, Bool.and_true, Bool.true_and, Bool.and_false, Bool.false_and, Bool.not_true, Bool.not_false, Bool.or_true, Bool.true_or, Bool.or_false, Bool.false_or, reduceIte, b2i_t, b2i_f]) hw (lv_sub hl [3, 4, 5, 6, 0, 7, 1] rfl)
          · skip
            refine lv_iconst (v := nI 0) hx hb dX11_takes_48 (by decide) ?_
            refine lv_goto (tgt := 76) hx hb dX11_takes_49 (by decide) ?_
            refine lv_istore (lv' := [(7, .int (nI 0)), (0, .ref (α 30)), (1, .int a), (2, .int (nI b)), (3, .int q), (6, .int (nI k)), (5, .int (nI r)), (4, .int left)]) hx hb dX11_takes_76 hl (by decide) rfl (fun ls hl => ?_)
            refine lv_iload hx hb dX11_takes_78 (lv_at hl 7 rfl) ?_
            refine lv_iload hx hb dX11_takes_80 (lv_at hl 0 rfl) ?_
            refine lv_isub hx hb dX11_takes_82 ?_
            refine lv_istore (lv' := [(4, .int (left - (nI 0))), (7, .int (nI 0)), (0, .ref (α 30)), (1, .int a), (2, .int (nI b)), (3, .int q), (6, .int (nI k)), (5, .int (nI r))]) hx hb dX11_takes_83 hl (by decide) rfl (fun ls hl => ?_)
            refine lv_aload_n hx hb dX11_takes_85 rfl (lv_at hl 2 rfl) ?_
            refine lv_iload hx hb dX11_takes_86 (lv_at hl 6 rfl) ?_
            refine lv_iconst (v := nI 2) hx hb dX11_takes_88 (by decide) ?_
            refine x_callVIr (q := 30) (C := RX11) (As := [.int (nI k), .int (nI 2)]) (rest := []) ⟨hx, hb, hml, hown, hts⟩ (ct_X11_lot l D cA α n _ hn T k 2 (by omega)) (cwV 2 hts gX11_takes_X11_lot rfl rfl rfl (by decide +kernel) ⟨Nat.le_of_ble_eq_true rfl, Nat.le_of_ble_eq_true rfl⟩) hK hw hAw (ws_recv hK hw (q := 30) (Nat.lt_of_lt_of_le (Nat.le_of_ble_eq_true rfl : 30 < 191) hn) (mk_30 cA α) rfl) rfl hl.1 rfl (Nat.le_of_ble_eq_true rfl) dX11_takes_89 ⟨Nat.zero_le _, Nat.zero_le _⟩ (fun H locs hw => ?_)
            refine lv_iload hx hb dX11_takes_92 (lv_at hl 1 rfl) ?_
            refine lv_icmp_ne (tgt := 100) hx hb dX11_takes_94 (by decide) (fun c19 => ?_) (fun c19 => ?_)
            · skip
              refine lv_iconst (v := nI 0) hx hb dX11_takes_100 (by decide) ?_
              refine lv_istore (lv' := [(8, .int (nI 0)), (4, .int (left - (nI 0))), (7, .int (nI 0)), (0, .ref (α 30)), (1, .int a), (2, .int (nI b)), (3, .int q), (6, .int (nI k)), (5, .int (nI r))]) hx hb dX11_takes_101 hl (by decide) rfl (fun ls hl => ?_)
              have lp103 : ∀ (t : Nat) (w : Nat) (T2 : Mem) (H : Heap) (locs : List Loc) (ls : Array Slot), 4 - w < t → w ≤ 4 → T2 = mvW T k r (nI 0) w → Ws D cA α n (Aw α n sz) s.heap T2 H locs → lv_has ls 9 [(0, .ref (α 30)), (1, .int a), (2, .int (nI b)), (3, .int q), (4, .int (left - (nI 0))), (5, .int (nI r)), (6, .int (nI k)), (7, .int (nI 0)), (8, .int (nI w))] → W p l e ({ frames := 2, cells := 0, slots := 0, locals := 45 } : Room) s m (List.toArray ([.ref (α 30), .int a, .int (nI b), .int q] : List Value)) below meth c H locs 0 0 (MQ below (va_Qv (fun u => u = (rTak S a b q L)) (Pw D cA α n) (Aw α n sz)) (List.toArray ([.ref (α 30), .int a, .int (nI b), .int q] : List Value)) s 0 0 (Aw α n sz)) (F0 m 103 ls []) := by
                intro t
                induction t with
                | zero => intro w T2 H locs ls ht; exact absurd ht (Nat.not_lt_zero _)
                | succ t ih103 =>
                  intro w T2 H locs ls ht hw4 hT2 hw hl
                  refine lv_iload hx hb dX11_takes_103 (lv_at hl 8 rfl) ?_
                  refine lv_iconst (v := nI 4) hx hb dX11_takes_105 (by decide) ?_
                  refine xn_icmp_ge (tgt := 152) hx hb (by omega) (by decide) dX11_takes_106 (by decide) (fun c20 => ?_) (fun c20 => ?_)
                  · skip
                    refine lv_iinc (v := nI (r + 1)) (lv' := [(5, .int (nI (r + 1))), (0, .ref (α 30)), (1, .int a), (2, .int (nI b)), (3, .int q), (4, .int (left - (nI 0))), (6, .int (nI k)), (7, .int (nI 0)), (8, .int (nI w))]) hx hb dX11_takes_152 hl (k := 5) rfl (nI_1 _) (by decide) rfl (fun ls hl => ?_)
                    refine lv_iinc (v := nI (k + 1)) (lv' := [(6, .int (nI (k + 1))), (5, .int (nI (r + 1))), (0, .ref (α 30)), (1, .int a), (2, .int (nI b)), (3, .int q), (4, .int (left - (nI 0))), (7, .int (nI 0)), (8, .int (nI w))]) hx hb dX11_takes_155 hl (k := 6) rfl (nI_1 _) (by decide) rfl (fun ls hl => ?_)
                    refine lv_goto (tgt := 26) hx hb dX11_takes_158 (by decide) ?_
                    exact ih26 (k + 1) (r + 1) (left - (nI 0)) T2 _ _ _ (by omega) (by omega) (by have := rTk_in S a (nI b) (q0R S a b q) k; omega) (by rw [rTk, ← hT, ← hr9, ← hl9, show tkn T a (nI b) left k = nI 0 from (by unfold tkn; simp only [if_pos c1, if_neg (not_not_intro c1), decide_eq_true c1, if_pos c12, if_neg (not_not_intro c12), decide_eq_true c12, c13, if_neg c19, if_pos c19, decide_eq_false c19, if_pos c20, if_neg (not_not_intro c20), decide_eq_true c20, if_true, if_false, eq_self, Bool.false_eq_true, not_true_eq_false, not_false_eq_true, decide_true, decide_false, Bool.and_true, Bool.true_and, Bool.and_false, Bool.false_and, Bool.not_true, Bool.not_false, Bool.or_true, Bool.true_or, Bool.or_false, Bool.false_or, reduceIte, b2i_t, b2i_f])]; simp only [if_pos c1, if_neg (not_not_intro c1), decide_eq_true c1, if_pos c12, if_neg (not_not_intro c12), decide_eq_true c12, c13, if_neg c19, if_pos c19, decide_eq_false c19, if_pos c20, if_neg (not_not_intro c20), decide_eq_true c20, if_true, if_false, eq_self, Bool.false_eq_true, not_true_eq_false, not_false_eq_true, decide_true, decide_false, Bool.and_true, Bool.true_and, Bool.and_false, Bool.false_and, Bool.not_true, Bool.not_false, Bool.or_true, Bool.true_or, Bool.or_false, Bool.false_or, reduceIte, b2i_t, b2i_f]; rw [hT2, show w = 4 by omega]) (by rw [rTk, ← hT, ← hr9, ← hl9, show tkn T a (nI b) left k = nI 0 from (by unfold tkn; simp only [if_pos c1, if_neg (not_not_intro c1), decide_eq_true c1, if_pos c12, if_neg (not_not_intro c12), decide_eq_true c12, c13, if_neg c19, if_pos c19, decide_eq_false c19, if_pos c20, if_neg (not_not_intro c20), decide_eq_true c20, if_true, if_false, eq_self, Bool.false_eq_true, not_true_eq_false, not_false_eq_true, decide_true, decide_false, Bool.and_true, Bool.true_and, Bool.and_false, Bool.false_and, Bool.not_true, Bool.not_false, Bool.or_true, Bool.true_or, Bool.or_false, Bool.false_or, reduceIte, b2i_t, b2i_f])]; simp only [if_pos c1, if_neg (not_not_intro c1), decide_eq_true c1, if_pos c12, if_neg (not_not_intro c12), decide_eq_true c12, c13, if_neg c19, if_pos c19, decide_eq_false c19, if_pos c20, if_neg (not_not_intro c20), decide_eq_true c20, if_true, if_false, eq_self, Bool.false_eq_true, not_true_eq_false, not_false_eq_true, decide_true, decide_false, Bool.and_true, Bool.true_and, Bool.and_false, Bool.false_and, Bool.not_true, Bool.not_false, Bool.or_true, Bool.true_or, Bool.or_false, Bool.false_or, reduceIte, b2i_t, b2i_f]) (by rw [rTk, ← hT, ← hr9, ← hl9, show tkn T a (nI b) left k = nI 0 from (by unfold tkn; simp only [if_pos c1, if_neg (not_not_intro c1), decide_eq_true c1, if_pos c12, if_neg (not_not_intro c12), decide_eq_true c12, c13, if_neg c19, if_pos c19, decide_eq_false c19, if_pos c20, if_neg (not_not_intro c20), decide_eq_true c20, if_true, if_false, eq_self, Bool.false_eq_true, not_true_eq_false, not_false_eq_true, decide_true, decide_false, Bool.and_true, Bool.true_and, Bool.and_false, Bool.false_and, Bool.not_true, Bool.not_false, Bool.or_true, Bool.true_or, Bool.or_false, Bool.false_or, reduceIte, b2i_t, b2i_f])]; simp only [if_pos c1, if_neg (not_not_intro c1), decide_eq_true c1, if_pos c12, if_neg (not_not_intro c12), decide_eq_true c12, c13, if_neg c19, if_pos c19, decide_eq_false c19, if_pos c20, if_neg (not_not_intro c20), decide_eq_true c20, if_true, if_false, eq_self, Bool.false_eq_true, not_true_eq_false, not_false_eq_true, decide_true, decide_false, Bool.and_true, Bool.true_and, Bool.and_false, Bool.false_and, Bool.not_true, Bool.not_false, Bool.or_true, Bool.true_or, Bool.or_false, Bool.false_or, reduceIte, b2i_t, b2i_f]) hw (lv_sub hl [2, 3, 4, 5, 0, 1, 6] rfl)
                  · skip
                    refine lv_aload_n hx hb dX11_takes_109 rfl (lv_at hl 0 rfl) ?_
                    refine x_get (v := .ref (α 34)) (C := RX11) (T := TX11) (N := 24) hx hb hts (fun _ h => List.mem_cons_of_mem _ (List.mem_append_right _ h)) hown hK hw 30 (Nat.lt_of_lt_of_le (Nat.le_of_ble_eq_true rfl : 30 < 191) hn) (mk_30 cA α) rfl 13 (by decide) (hts _ (List.mem_of_getElem? (i := 2) rfl)) (fun _ h9 => h9) rfl dX11_takes_110 ?_
                    refine lv_sipush (v := nI 608) hx hb dX11_takes_113 (by decide) ?_
                    refine lv_iconst (v := nI 4) hx hb dX11_takes_116 (by decide) ?_
                    refine lv_iload hx hb dX11_takes_117 (lv_at hl 5 rfl) ?_
                    refine xn_imul hx hb dX11_takes_119 ?_
                    refine xn_iadd hx hb dX11_takes_120 ?_
                    refine lv_iload hx hb dX11_takes_121 (lv_at hl 8 rfl) ?_
                    refine xn_iadd hx hb dX11_takes_123 ?_
                    refine lv_aload_n hx hb dX11_takes_124 rfl (lv_at hl 0 rfl) ?_
                    refine lv_iload hx hb dX11_takes_125 (lv_at hl 6 rfl) ?_
                    refine lv_iload hx hb dX11_takes_127 (lv_at hl 8 rfl) ?_
                    refine x_callVIr (q := 30) (C := RX11) (As := [.int (nI k), .int (nI w)]) (rest := [.int (nI ((608 + (4 * r)) + w)), .ref (α 34)]) ⟨hx, hb, hml, hown, hts⟩ (ct_X11_lot l D cA α n _ hn T2 k w (by omega)) (cwV 2 hts gX11_takes_X11_lot rfl rfl rfl (by decide +kernel) ⟨Nat.le_of_ble_eq_true rfl, Nat.le_of_ble_eq_true rfl⟩) hK hw hAw (ws_recv hK hw (q := 30) (Nat.lt_of_lt_of_le (Nat.le_of_ble_eq_true rfl : 30 < 191) hn) (mk_30 cA α) rfl) rfl hl.1 rfl (Nat.le_of_ble_eq_true rfl) dX11_takes_129 ⟨Nat.zero_le _, Nat.zero_le _⟩ (fun H locs hw => ?_)
                    refine lv_iload hx hb dX11_takes_132 (lv_at hl 8 rfl) ?_
                    refine lv_iconst (v := nI 2) hx hb dX11_takes_134 (by decide) ?_
                    refine xn_icmp_ne (tgt := 143) hx hb (by omega) (by decide) dX11_takes_135 (by decide) (fun c21 => ?_) (fun c21 => ?_)
                    · skip
                      refine lv_iconst (v := nI 0) hx hb dX11_takes_143 (by decide) ?_
                      refine lv_isub hx hb dX11_takes_144 ?_
                      refine x_iast (x := (T2.1 34 (608 + 4 * k + w)) - (nI 0)) hx hb hK hw 34 1508 (Nat.lt_of_lt_of_le (Nat.le_of_ble_eq_true rfl : 34 < 191) hn) (mk_34 cA α) ((608 + (4 * r)) + w) rfl (by omega) (by decide) dX11_takes_145 (fun S9 eS9 H locs hw => ?_)
                      refine lv_iinc (v := nI (w + 1)) (lv' := [(8, .int (nI (w + 1))), (0, .ref (α 30)), (1, .int a), (2, .int (nI b)), (3, .int q), (4, .int (left - (nI 0))), (5, .int (nI r)), (6, .int (nI k)), (7, .int (nI 0))]) hx hb dX11_takes_146 hl (k := 8) rfl (nI_1 _) (by decide) rfl (fun ls hl => ?_)
                      refine lv_goto (tgt := 103) hx hb dX11_takes_149 (by decide) ?_
                      exact ih103 (w + 1) S9 _ _ _ (by omega) (by omega) (by subst eS9; rw [hT2, mvW]; simp only [if_pos c1, if_neg (not_not_intro c1), decide_eq_true c1, if_pos c12, if_neg (not_not_intro c12), decide_eq_true c12, c13, if_neg c19, if_pos c19, decide_eq_false c19, if_pos c20, if_neg (not_not_intro c20), decide_eq_true c20, if_neg c21, if_pos c21, decide_eq_false c21, if_true, if_false, eq_self, Bool.false_eq_true, not_true_eq_false, not_false_eq_true, decide_true, decide_false, Bool.and_true, Bool.true_and, Bool.and_false, Bool.false_and, Bool.not_true, Bool.not_false, Bool.or_true, Bool.true_or, Bool.or_false, Bool.false_or, reduceIte, b2i_t, b2i_f]) hw (lv_sub hl [1, 2, 3, 4, 5, 6, 7, 8, 0] rfl)
                    · skip
                      refine lv_iload hx hb dX11_takes_138 (lv_at hl 7 rfl) ?_
                      refine lv_goto (tgt := 144) hx hb dX11_takes_140 (by decide) ?_
                      refine lv_isub hx hb dX11_takes_144 ?_
                      refine x_iast (x := (T2.1 34 (608 + 4 * k + w)) - (nI 0)) hx hb hK hw 34 1508 (Nat.lt_of_lt_of_le (Nat.le_of_ble_eq_true rfl : 34 < 191) hn) (mk_34 cA α) ((608 + (4 * r)) + w) rfl (by omega) (by decide) dX11_takes_145 (fun S10 eS10 H locs hw => ?_)
                      refine lv_iinc (v := nI (w + 1)) (lv' := [(8, .int (nI (w + 1))), (0, .ref (α 30)), (1, .int a), (2, .int (nI b)), (3, .int q), (4, .int (left - (nI 0))), (5, .int (nI r)), (6, .int (nI k)), (7, .int (nI 0))]) hx hb dX11_takes_146 hl (k := 8) rfl (nI_1 _) (by decide) rfl (fun ls hl => ?_)
                      refine lv_goto (tgt := 103) hx hb dX11_takes_149 (by decide) ?_
                      exact ih103 (w + 1) S10 _ _ _ (by omega) (by omega) (by subst eS10; rw [hT2, mvW]; simp only [if_pos c1, if_neg (not_not_intro c1), decide_eq_true c1, if_pos c12, if_neg (not_not_intro c12), decide_eq_true c12, c13, if_neg c19, if_pos c19, decide_eq_false c19, if_pos c20, if_neg (not_not_intro c20), decide_eq_true c20, if_pos c21, if_neg (not_not_intro c21), decide_eq_true c21, if_true, if_false, eq_self, Bool.false_eq_true, not_true_eq_false, not_false_eq_true, decide_true, decide_false, Bool.and_true, Bool.true_and, Bool.and_false, Bool.false_and, Bool.not_true, Bool.not_false, Bool.or_true, Bool.true_or, Bool.or_false, Bool.false_or, reduceIte, b2i_t, b2i_f]) hw (lv_sub hl [1, 2, 3, 4, 5, 6, 7, 8, 0] rfl)
              exact lp103 _ 0 T _ _ _ (Nat.lt_succ_self _) (Nat.zero_le _) rfl hw (lv_sub hl [3, 4, 5, 6, 1, 8, 7, 2, 0] rfl)
            · skip
              refine lv_goto (tgt := 155) hx hb dX11_takes_97 (by decide) ?_
              refine lv_iinc (v := nI (k + 1)) (lv' := [(6, .int (nI (k + 1))), (4, .int (left - (nI 0))), (7, .int (nI 0)), (0, .ref (α 30)), (1, .int a), (2, .int (nI b)), (3, .int q), (5, .int (nI r))]) hx hb dX11_takes_155 hl (k := 6) rfl (nI_1 _) (by decide) rfl (fun ls hl => ?_)
              refine lv_goto (tgt := 26) hx hb dX11_takes_158 (by decide) ?_
              exact ih26 (k + 1) r (left - (nI 0)) T _ _ _ (by omega) (by omega) (by omega) (by rw [rTk, ← hT, ← hr9, ← hl9, show tkn T a (nI b) left k = nI 0 from (by unfold tkn; simp only [if_pos c1, if_neg (not_not_intro c1), decide_eq_true c1, if_pos c12, if_neg (not_not_intro c12), decide_eq_true c12, c13, if_pos c19, if_neg (not_not_intro c19), decide_eq_true c19, if_true, if_false, eq_self, Bool.false_eq_true, not_true_eq_false, not_false_eq_true, decide_true, decide_false, Bool.and_true, Bool.true_and, Bool.and_false, Bool.false_and, Bool.not_true, Bool.not_false, Bool.or_true, Bool.true_or, Bool.or_false, Bool.false_or, reduceIte, b2i_t, b2i_f])]; simp only [if_pos c1, if_neg (not_not_intro c1), decide_eq_true c1, if_pos c12, if_neg (not_not_intro c12), decide_eq_true c12, c13, if_pos c19, if_neg (not_not_intro c19), decide_eq_true c19, if_true, if_false, eq_self, Bool.false_eq_true, not_true_eq_false, not_false_eq_true, decide_true, decide_false, Bool.and_true, Bool.true_and, Bool.and_false, Bool.false_and, Bool.not_true, Bool.not_false, Bool.or_true, Bool.true_or, Bool.or_false, Bool.false_or, reduceIte, b2i_t, b2i_f]) (by rw [rTk, ← hT, ← hr9, ← hl9, show tkn T a (nI b) left k = nI 0 from (by unfold tkn; simp only [if_pos c1, if_neg (not_not_intro c1), decide_eq_true c1, if_pos c12, if_neg (not_not_intro c12), decide_eq_true c12, c13, if_pos c19, if_neg (not_not_intro c19), decide_eq_true c19, if_true, if_false, eq_self, Bool.false_eq_true, not_true_eq_false, not_false_eq_true, decide_true, decide_false, Bool.and_true, Bool.true_and, Bool.and_false, Bool.false_and, Bool.not_true, Bool.not_false, Bool.or_true, Bool.true_or, Bool.or_false, Bool.false_or, reduceIte, b2i_t, b2i_f])]; simp only [if_pos c1, if_neg (not_not_intro c1), decide_eq_true c1, if_pos c12, if_neg (not_not_intro c12), decide_eq_true c12, c13, if_pos c19, if_neg (not_not_intro c19), decide_eq_true c19, if_true, if_false, eq_self, Bool.false_eq_true, not_true_eq_false, not_false_eq_true, decide_true, decide_false, Bool.and_true, Bool.true_and, Bool.and_false, Bool.false_and, Bool.not_true, Bool.not_false, Bool.or_true, Bool.true_or, Bool.or_false, Bool.false_or, reduceIte, b2i_t, b2i_f]) (by rw [rTk, ← hT, ← hr9, ← hl9, show tkn T a (nI b) left k = nI 0 from (by unfold tkn; simp only [if_pos c1, if_neg (not_not_intro c1), decide_eq_true c1, if_pos c12, if_neg (not_not_intro c12), decide_eq_true c12, c13, if_pos c19, if_neg (not_not_intro c19), decide_eq_true c19, if_true, if_false, eq_self, Bool.false_eq_true, not_true_eq_false, not_false_eq_true, decide_true, decide_false, Bool.and_true, Bool.true_and, Bool.and_false, Bool.false_and, Bool.not_true, Bool.not_false, Bool.or_true, Bool.true_or, Bool.or_false, Bool.false_or, reduceIte, b2i_t, b2i_f])]; simp only [if_pos c1, if_neg (not_not_intro c1), decide_eq_true c1, if_pos c12, if_neg (not_not_intro c12), decide_eq_true c12, c13, if_pos c19, if_neg (not_not_intro c19), decide_eq_true c19, if_true, if_false, eq_self, Bool.false_eq_true, not_true_eq_false, not_false_eq_true, decide_true, decide_false, Bool.and_true, Bool.true_and, Bool.and_false, Bool.false_and, Bool.not_true, Bool.not_false, Bool.or_true, Bool.true_or, Bool.or_false, Bool.false_or, reduceIte, b2i_t, b2i_f]) hw (lv_sub hl [3, 4, 5, 6, 0, 7, 1] rfl)
    exact lp26 _ 0 0 (nI 0) S _ _ _ (Nat.lt_succ_self _) (Nat.zero_le _) (Nat.le_refl _) rfl rfl (by show _ = q0R S a b q; unfold q0R; simp only [if_pos c1, if_neg (not_not_intro c1), decide_eq_true c1, if_true, if_false, eq_self, Bool.false_eq_true, not_true_eq_false, not_false_eq_true, decide_true, decide_false, Bool.and_true, Bool.true_and, Bool.and_false, Bool.false_and, Bool.not_true, Bool.not_false, Bool.or_true, Bool.true_or, Bool.or_false, Bool.false_or, reduceIte, b2i_t, b2i_f]) hw (lv_sub hl [3, 4, 5, 6, 0, 1, 2] rfl)
