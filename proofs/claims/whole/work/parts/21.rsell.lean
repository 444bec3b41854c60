/-! the reference: sales and deliveries -/
def rCan2 (S : Mem) (a : Int32) (b : Nat) (q : Int32) (L : Nat) : Bool := decide (S.1 33 (16 + b) = a) || !decide (sumI (rStk S a (nI b)) L < q)
def rIts (S : Mem) (b : Nat) (q p : Int32) : Int64 := q.toInt64 * (p - S.1 33 (22 + b)).toInt64
def rSel (T : Mem) (v : Int64) : Mem := setJ T 35 2 (T.2 35 2 + v)
theorem rTak_k (S : Mem) (a : Int32) (b : Nat) (q : Int32) (L : Nat) {z : Nat} (h : z ≠ 34) : (rTak S a b q L).1 z = S.1 z := by
  unfold rTak; rw [sI_1 h, rTk_k _ _ _ _ h]
theorem rTak_2 (S : Mem) (a : Int32) (b : Nat) (q : Int32) (L : Nat) : (rTak S a b q L).2 = S.2 := by
  unfold rTak; rw [sI_2, rTk_2]
theorem rTak_lo (S : Mem) (a : Int32) (b : Nat) (q : Int32) (L : Nat) {z : Nat} (h : z < 608) (h2 : z ≠ 1) : (rTak S a b q L).1 34 z = S.1 34 z := by
  unfold rTak; rw [sI_e, pk_un h2, rTk_lo _ _ _ _ h]
def rLn (S : Mem) (a : Int32) (b : Nat) (q : Int32) (L : Nat) : Nat := (rTk S a (nI b) (q0R S a b q) L).2.1
theorem rTak_1 (S : Mem) (a : Int32) (b : Nat) (q : Int32) (L : Nat) : (rTak S a b q L).1 34 1 = nI (rLn S a b q L) := by
  unfold rTak; rw [sI_e, pk_us]; rfl
theorem rLn_le (S : Mem) (a : Int32) (b : Nat) (q : Int32) (L : Nat) : rLn S a b q L ≤ L := rTk_in _ _ _ _ _

set_option maxRecDepth 100000 in
set_option maxHeartbeats 1000000 in
theorem ct_X11_sell (l : Launch) (D : va_G) (cA : Nat → ClassId) (α : Nat → Nat) (n sz : Nat) (hn : 191 ≤ n) (S : Mem) (Cn : Nat) (hC : S.1 33 1 = nI Cn) (hC2 : Cn ≤ 6) (Pn : Nat) (hP9 : S.1 33 2 = nI Pn) (hP2 : Pn ≤ 6) (a b : Nat) (ha : a < Cn) (hb0 : b < Pn) (q9 p9 : Int32) (h1 : ∃ i, 1 ≤ i ∧ i ≤ 9999 ∧ q9 = nI i) (h2 : ∃ i, 1 ≤ i ∧ i ≤ 99999 ∧ p9 = nI i) (L : Nat) (hL : S.1 34 1 = nI L) (hL2 : L ≤ 100) (hct : rCan2 S (nI a) b q9 L = true) (k : Nat) (hk : S.1 30 17 = nI k) (hk2 : k ≤ 10) : CtL l yX11_sell wsX11_sell ({ frames := 4, cells := 0, slots := 0, locals := 92 }) D cA α n sz [.ref (α 30), .int (nI a), .int (nI b), .int q9, .int p9] S (rIts S b q9 p9) (rSel (rTak (K0 S k) (nI a) b q9 L) (rIts S b q9 p9)) := by
  refine ct_enter cX11_sell 7 (some .long) (by decide) rfl (Nat.le_of_ble_eq_true rfl) ?_
  intro p e s m below meth c hx hb hr hml hlocks hown hts hK hsz hw ls hl
  have hown : s.vm.findClass RX11 = some m.cls := hown
  have hAw : ∀ z, Aw α n s.heap.size z → Aw α n sz z := by rw [hsz]; exact fun _ h => h
  have hl : lv_has ls 7 [(0, .ref (α 30)), (1, .int (nI a)), (2, .int (nI b)), (3, .int q9), (4, .int p9)] := hl
  refine lv_aload_n hx hb dX11_sell_0 rfl (lv_at hl 0 rfl) ?_
  refine lv_aload_n hx hb dX11_sell_1 rfl (lv_at hl 0 rfl) ?_
  refine lv_iload_n hx hb dX11_sell_2 rfl (lv_at hl 1 rfl) ?_
  refine lv_iload_n hx hb dX11_sell_3 rfl (lv_at hl 2 rfl) ?_
  refine x_callVIr (q := 30) (C := RX11) (As := [.int (nI a), .int (nI b)]) (rest := [.ref (α 30)]) ⟨hx, hb, hml, hown, hts⟩ (ct_X11_isPlace l D cA α n _ hn S (nI a) (nI b)) (cwV 2 hts gX11_sell_X11_isPlace rfl rfl rfl (by decide +kernel) ⟨Nat.le_of_ble_eq_true rfl, Nat.le_of_ble_eq_true rfl⟩) hK hw hAw (ws_recv hK hw (q := 30) (Nat.lt_of_lt_of_le (Nat.le_of_ble_eq_true rfl : 30 < 191) hn) (mk_30 cA α) rfl) rfl hl.1 rfl (Nat.le_of_ble_eq_true rfl) dX11_sell_4 ⟨Nat.zero_le _, Nat.zero_le _⟩ (fun H locs hw => ?_)
  refine xb_ne (b := (isCoR S (nI a) && isPrR S (nI b))) (tgt := 14) hx hb dX11_sell_7 (by decide) (fun c1 => ?_) (fun c1 => ?_)
  · skip
    refine lv_iload_n hx hb dX11_sell_14 rfl (lv_at hl 3 rfl) ?_
    refine lv_i2l hx hb dX11_sell_15 rfl ?_
    refine lv_lconst (v := 1) hx hb dX11_sell_16 (by decide) ?_
    refine lv_ldc2 (v := 9999) hx hb hown (hts _ (List.mem_of_getElem? (i := 1) rfl)) dX11_sell_17 ?_
    refine x_callSIr (q := 0) (C := RX0) (As := [.long (q9.toInt64), .long (1), .long (9999)]) (rest := [.ref (α 30)]) ⟨hx, hb, hml, hown, hts⟩ (ct_X11_within l D cA α n _ hn S (q9.toInt64) (1) (9999)) (va_cwS 3 hts gX11_sell_X11_within rfl rfl rfl (by decide +kernel) ⟨Nat.le_of_ble_eq_true rfl, Nat.le_of_ble_eq_true rfl⟩) hK hw hAw rfl hl.1 rfl (Nat.le_of_ble_eq_true rfl) dX11_sell_20 ⟨Nat.zero_le _, Nat.zero_le _⟩ (fun H locs hw => ?_)
    refine xb_eq (b := (wiL (q9.toInt64) (1) (9999))) (tgt := 39) hx hb dX11_sell_23 (by decide) (fun c2 => ?_) (fun c2 => ?_)
    · exact absurd (show wiL _ 1 9999 = true from (wi2_iff (a := 1) (b := 9999) (by decide) (by decide)).mpr h1) (by rw [c2]; decide)
    · skip
      refine lv_iload hx hb dX11_sell_26 (lv_at hl 4 rfl) ?_
      refine lv_i2l hx hb dX11_sell_28 rfl ?_
      refine lv_lconst (v := 1) hx hb dX11_sell_29 (by decide) ?_
      refine lv_ldc2 (v := 99999) hx hb hown (hts _ (List.mem_of_getElem? (i := 2) rfl)) dX11_sell_30 ?_
      refine x_callSIr (q := 0) (C := RX0) (As := [.long (p9.toInt64), .long (1), .long (99999)]) (rest := [.ref (α 30)]) ⟨hx, hb, hml, hown, hts⟩ (ct_X11_within l D cA α n _ hn S (p9.toInt64) (1) (99999)) (va_cwS 3 hts gX11_sell_X11_within rfl rfl rfl (by decide +kernel) ⟨Nat.le_of_ble_eq_true rfl, Nat.le_of_ble_eq_true rfl⟩) hK hw hAw rfl hl.1 rfl (Nat.le_of_ble_eq_true rfl) dX11_sell_33 ⟨Nat.zero_le _, Nat.zero_le _⟩ (fun H locs hw => ?_)
      refine xb_ne (b := (wiL (p9.toInt64) (1) (99999))) (tgt := 43) hx hb dX11_sell_36 (by decide) (fun c3 => ?_) (fun c3 => ?_)
      · skip
        refine lv_aload_n hx hb dX11_sell_43 rfl (lv_at hl 0 rfl) ?_
        refine lv_iload_n hx hb dX11_sell_44 rfl (lv_at hl 1 rfl) ?_
        refine lv_iload_n hx hb dX11_sell_45 rfl (lv_at hl 2 rfl) ?_
        refine lv_iload_n hx hb dX11_sell_46 rfl (lv_at hl 3 rfl) ?_
        refine x_callVIr (q := 30) (C := RX11) (As := [.int (nI a), .int (nI b), .int q9]) (rest := [.ref (α 30)]) ⟨hx, hb, hml, hown, hts⟩ (ct_X11_canTake l D cA α n _ hn S (nI a) b q9 (by omega) L (by skip; exact hL) hL2) (cwV 3 hts gX11_sell_X11_canTake rfl rfl rfl (by decide +kernel) ⟨Nat.le_of_ble_eq_true rfl, Nat.le_of_ble_eq_true rfl⟩) hK hw hAw (ws_recv hK hw (q := 30) (Nat.lt_of_lt_of_le (Nat.le_of_ble_eq_true rfl : 30 < 191) hn) (mk_30 cA α) rfl) rfl hl.1 rfl (Nat.le_of_ble_eq_true rfl) dX11_sell_47 ⟨Nat.zero_le _, Nat.zero_le _⟩ (fun H locs hw => ?_)
        refine xb_ne (b := (decide (S.1 33 (16 + b) = (nI a)) || !decide (sumI (rStk S (nI a) (nI b)) L < q9))) (tgt := 57) hx hb dX11_sell_50 (by decide) (fun c4 => ?_) (fun c4 => ?_)
        · skip
          refine lv_iconst (v := nI 0) hx hb dX11_sell_57 (by decide) ?_
          refine x_putI (x := nI 0) (ty := .int) (C := RX11) (T := TX11) (N := 24) hx hb hts (fun _ h => List.mem_cons_of_mem _ (List.mem_append_right _ h)) tyX11 tyX11_ok nmX11 hown hK hw 30 (Nat.lt_of_lt_of_le (Nat.le_of_ble_eq_true rfl : 30 < 191) hn) (mk_30 cA α) rfl 0 (by decide) (hts _ (List.mem_of_getElem? (i := 3) rfl)) (fun _ h9 => h9) rfl rfl rfl rfl (Nat.le_of_ble_eq_true rfl) rfl dX11_sell_58 (fun S1 eS1 H locs hw => ?_)
          refine lv_aload_n hx hb dX11_sell_61 rfl (lv_at hl 0 rfl) ?_
          refine x_get (v := .int (S1.1 30 0)) (C := RX11) (T := TX11) (N := 24) hx hb hts (fun _ h => List.mem_cons_of_mem _ (List.mem_append_right _ h)) hown hK hw 30 (Nat.lt_of_lt_of_le (Nat.le_of_ble_eq_true rfl : 30 < 191) hn) (mk_30 cA α) rfl 0 (by decide) (hts _ (List.mem_of_getElem? (i := 3) rfl)) (fun _ h9 => h9) rfl dX11_sell_62 ?_
          refine x_topN (k := 0) (by subst eS1; simp [sI_e, upd]) ?_
          refine lv_if_le (tgt := 70) hx hb dX11_sell_65 (by decide) (fun c5 => ?_) (fun c5 => ?_)
          · skip
            refine lv_aload_n hx hb dX11_sell_70 rfl (lv_at hl 0 rfl) ?_
            refine x_callVV (q := 30) (C := RX11) (As := []) (rest := []) ⟨hx, hb, hml, hown, hts⟩ (ct_X11_keepU l D cA α n _ hn S1 k (by subst eS1; exact hk) hk2) (cwV 0 hts gX11_sell_X11_keep rfl rfl rfl (by decide +kernel) ⟨Nat.le_of_ble_eq_true rfl, Nat.le_of_ble_eq_true rfl⟩) hK hw hAw (ws_recv hK hw (q := 30) (Nat.lt_of_lt_of_le (Nat.le_of_ble_eq_true rfl : 30 < 191) hn) (mk_30 cA α) rfl) rfl hl.1 rfl (Nat.le_of_ble_eq_true rfl) dX11_sell_71 ⟨Nat.zero_le _, Nat.zero_le _⟩ (fun S2 eS2 H locs hw => ?_)
            refine lv_aload_n hx hb dX11_sell_74 rfl (lv_at hl 0 rfl) ?_
            refine lv_iload_n hx hb dX11_sell_75 rfl (lv_at hl 1 rfl) ?_
            refine lv_iload_n hx hb dX11_sell_76 rfl (lv_at hl 2 rfl) ?_
            refine lv_iload_n hx hb dX11_sell_77 rfl (lv_at hl 3 rfl) ?_
            refine x_callVV (q := 30) (C := RX11) (As := [.int (nI a), .int (nI b), .int q9]) (rest := []) ⟨hx, hb, hml, hown, hts⟩ (ct_X11_takes l D cA α n _ hn S2 (nI a) b (by omega) q9 L (by subst eS2; subst eS1; exact (congrFun (K0_34 S k) 1).trans hL) hL2) (cwV 3 hts gX11_sell_X11_takes rfl rfl rfl (by decide +kernel) ⟨Nat.le_of_ble_eq_true rfl, Nat.le_of_ble_eq_true rfl⟩) hK hw hAw (ws_recv hK hw (q := 30) (Nat.lt_of_lt_of_le (Nat.le_of_ble_eq_true rfl : 30 < 191) hn) (mk_30 cA α) rfl) rfl hl.1 rfl (Nat.le_of_ble_eq_true rfl) dX11_sell_78 ⟨Nat.zero_le _, Nat.zero_le _⟩ (fun S3 eS3 H locs hw => ?_)
            refine lv_iload_n hx hb dX11_sell_81 rfl (lv_at hl 3 rfl) ?_
            refine lv_i2l hx hb dX11_sell_82 rfl ?_
            refine lv_iload hx hb dX11_sell_83 (lv_at hl 4 rfl) ?_
            refine lv_aload_n hx hb dX11_sell_85 rfl (lv_at hl 0 rfl) ?_
            refine x_get (v := .ref (α 33)) (C := RX11) (T := TX11) (N := 24) hx hb hts (fun _ h => List.mem_cons_of_mem _ (List.mem_append_right _ h)) hown hK hw 30 (Nat.lt_of_lt_of_le (Nat.le_of_ble_eq_true rfl : 30 < 191) hn) (mk_30 cA α) rfl 11 (by decide) (hts _ (List.mem_of_getElem? (i := 4) rfl)) (fun _ h9 => h9) rfl dX11_sell_86 ?_
            refine lv_bipush (v := nI 22) hx hb dX11_sell_89 (by decide) ?_
            refine lv_iload_n hx hb dX11_sell_91 rfl (lv_at hl 2 rfl) ?_
            refine xn_iadd hx hb dX11_sell_92 ?_
            refine x_iald hx hb hK hw 33 40 (Nat.lt_of_lt_of_le (Nat.le_of_ble_eq_true rfl : 33 < 191) hn) (mk_33 cA α) (22 + b) rfl (by omega) (by decide) dX11_sell_93 ?_
            refine x_topE (y := S.1 33 (22 + b)) (by subst eS3; subst eS2; subst eS1; rw [rTak_k _ _ _ _ _ (by decide)]; exact congrFun (K0_33 S k) _) ?_
            refine lv_isub hx hb dX11_sell_94 ?_
            refine lv_i2l hx hb dX11_sell_95 rfl ?_
            refine lv_lmul hx hb dX11_sell_96 ?_
            refine x_topEL (y := rIts S b q9 p9) rfl ?_
            refine lv_lstore (lv' := [(5, .long (rIts S b q9 p9)), (0, .ref (α 30)), (1, .int (nI a)), (2, .int (nI b)), (3, .int q9), (4, .int p9)]) hx hb dX11_sell_97 hl (by decide) rfl (fun ls hl => ?_)
            refine lv_aload_n hx hb dX11_sell_99 rfl (lv_at hl 1 rfl) ?_
            refine x_get (v := .ref (α 35)) (C := RX11) (T := TX11) (N := 24) hx hb hts (fun _ h => List.mem_cons_of_mem _ (List.mem_append_right _ h)) hown hK hw 30 (Nat.lt_of_lt_of_le (Nat.le_of_ble_eq_true rfl : 30 < 191) hn) (mk_30 cA α) rfl 14 (by decide) (hts _ (List.mem_of_getElem? (i := 5) rfl)) (fun _ h9 => h9) rfl dX11_sell_100 ?_
            refine lv_iconst (v := nI 2) hx hb dX11_sell_103 (by decide) ?_
            refine lv_dup2_11 hx hb dX11_sell_104 rfl rfl ?_
            refine x_lald hx hb hK hw 35 309 (Nat.lt_of_lt_of_le (Nat.le_of_ble_eq_true rfl : 35 < 191) hn) (mk_35 cA α) 2 rfl (by decide) (by decide) dX11_sell_105 ?_
            refine lv_lload hx hb dX11_sell_106 (lv_at hl 0 rfl) ?_
            refine lv_ladd hx hb dX11_sell_108 ?_
            refine x_last (x := (S3.2 35 2) + (rIts S b q9 p9)) hx hb hK hw 35 309 (Nat.lt_of_lt_of_le (Nat.le_of_ble_eq_true rfl : 35 < 191) hn) (mk_35 cA α) 2 rfl (by decide) (by decide) dX11_sell_109 (fun S4 eS4 H locs hw => ?_)
            refine lv_lload hx hb dX11_sell_110 (lv_at hl 0 rfl) ?_
            exact ret_l hx hb hr hlocks hK hw dX11_sell_112 rfl (by subst_vars; rfl)
          · exact absurd (by decide) c5
        · exact absurd (show rCan2 S (nI a) b q9 L = true from hct) (by show rCan2 S (nI a) b q9 L ≠ true; rw [show rCan2 S (nI a) b q9 L = false from c4]; decide)
      · exact absurd (show wiL _ 1 99999 = true from (wi2_iff (a := 1) (b := 99999) (by decide) (by decide)).mpr h2) (by rw [c3]; decide)
  · exact absurd (isPl_t (S := S) (by skip; exact hC) hC2 (by skip; exact hP9) hP2 ha hb0) (by rw [c1]; decide)

set_option maxRecDepth 100000 in
set_option maxHeartbeats 1000000 in
theorem ct_X11_sellX (l : Launch) (D : va_G) (cA : Nat → ClassId) (α : Nat → Nat) (n sz : Nat) (hn : 191 ≤ n) (S : Mem) (Cn : Nat) (hC : S.1 33 1 = nI Cn) (hC2 : Cn ≤ 6) (Pn : Nat) (hP9 : S.1 33 2 = nI Pn) (hP2 : Pn ≤ 6) (x y : Int32) (hx9 : (¬ ∃ i, i < Cn ∧ x = nI i) ∨ ¬ ∃ i, i < Pn ∧ y = nI i) (q9 p9 : Int32) : CtL l yX11_sell wsX11_sell ({ frames := 4, cells := 0, slots := 0, locals := 92 }) D cA α n sz [.ref (α 30), .int x, .int y, .int q9, .int p9] S 0 (setI S 30 0 (nI 1)) := by
  refine ct_enter cX11_sell 7 (some .long) (by decide) rfl (Nat.le_of_ble_eq_true rfl) ?_
  intro p e s m below meth c hx hb hr hml hlocks hown hts hK hsz hw ls hl
  have hown : s.vm.findClass RX11 = some m.cls := hown
  have hAw : ∀ z, Aw α n s.heap.size z → Aw α n sz z := by rw [hsz]; exact fun _ h => h
  have hl : lv_has ls 7 [(0, .ref (α 30)), (1, .int x), (2, .int y), (3, .int q9), (4, .int p9)] := hl
  refine lv_aload_n hx hb dX11_sell_0 rfl (lv_at hl 0 rfl) ?_
  refine lv_aload_n hx hb dX11_sell_1 rfl (lv_at hl 0 rfl) ?_
  refine lv_iload_n hx hb dX11_sell_2 rfl (lv_at hl 1 rfl) ?_
  refine lv_iload_n hx hb dX11_sell_3 rfl (lv_at hl 2 rfl) ?_
  refine x_callVIr (q := 30) (C := RX11) (As := [.int x, .int y]) (rest := [.ref (α 30)]) ⟨hx, hb, hml, hown, hts⟩ (ct_X11_isPlace l D cA α n _ hn S x y) (cwV 2 hts gX11_sell_X11_isPlace rfl rfl rfl (by decide +kernel) ⟨Nat.le_of_ble_eq_true rfl, Nat.le_of_ble_eq_true rfl⟩) hK hw hAw (ws_recv hK hw (q := 30) (Nat.lt_of_lt_of_le (Nat.le_of_ble_eq_true rfl : 30 < 191) hn) (mk_30 cA α) rfl) rfl hl.1 rfl (Nat.le_of_ble_eq_true rfl) dX11_sell_4 ⟨Nat.zero_le _, Nat.zero_le _⟩ (fun H locs hw => ?_)
  refine xb_ne (b := (isCoR S x && isPrR S y)) (tgt := 14) hx hb dX11_sell_7 (by decide) (fun c1 => ?_) (fun c1 => ?_)
  · exact absurd (isPl_f (S := S) (by skip; exact hC) hC2 (by skip; exact hP9) hP2 hx9) (by rw [c1]; decide)
  · skip
    refine lv_iconst (v := nI 1) hx hb dX11_sell_10 (by decide) ?_
    refine lv_goto (tgt := 58) hx hb dX11_sell_11 (by decide) ?_
    refine x_putI (x := nI 1) (ty := .int) (C := RX11) (T := TX11) (N := 24) hx hb hts (fun _ h => List.mem_cons_of_mem _ (List.mem_append_right _ h)) tyX11 tyX11_ok nmX11 hown hK hw 30 (Nat.lt_of_lt_of_le (Nat.le_of_ble_eq_true rfl : 30 < 191) hn) (mk_30 cA α) rfl 0 (by decide) (hts _ (List.mem_of_getElem? (i := 3) rfl)) (fun _ h9 => h9) rfl rfl rfl rfl (Nat.le_of_ble_eq_true rfl) rfl dX11_sell_58 (fun S1 eS1 H locs hw => ?_)
    refine lv_aload_n hx hb dX11_sell_61 rfl (lv_at hl 0 rfl) ?_
    refine x_get (v := .int (S1.1 30 0)) (C := RX11) (T := TX11) (N := 24) hx hb hts (fun _ h => List.mem_cons_of_mem _ (List.mem_append_right _ h)) hown hK hw 30 (Nat.lt_of_lt_of_le (Nat.le_of_ble_eq_true rfl : 30 < 191) hn) (mk_30 cA α) rfl 0 (by decide) (hts _ (List.mem_of_getElem? (i := 3) rfl)) (fun _ h9 => h9) rfl dX11_sell_62 ?_
    refine x_topN (k := 1) (by subst eS1; simp [sI_e, upd]) ?_
    refine lv_if_le (tgt := 70) hx hb dX11_sell_65 (by decide) (fun c2 => ?_) (fun c2 => ?_)
    · exact absurd c2 (by decide)
    · skip
      refine lv_lconst (v := 0) hx hb dX11_sell_68 (by decide) ?_
      exact ret_l hx hb hr hlocks hK hw dX11_sell_69 rfl (by subst_vars; rfl)

set_option maxRecDepth 100000 in
set_option maxHeartbeats 1000000 in
theorem ct_X11_sellY (l : Launch) (D : va_G) (cA : Nat → ClassId) (α : Nat → Nat) (n sz : Nat) (hn : 191 ≤ n) (S : Mem) (Cn : Nat) (hC : S.1 33 1 = nI Cn) (hC2 : Cn ≤ 6) (Pn : Nat) (hP9 : S.1 33 2 = nI Pn) (hP2 : Pn ≤ 6) (a b : Nat) (ha : a < Cn) (hb0 : b < Pn) (q9 p9 : Int32) (hy9 : (¬ ∃ i, 1 ≤ i ∧ i ≤ 9999 ∧ q9 = nI i) ∨ ¬ ∃ i, 1 ≤ i ∧ i ≤ 99999 ∧ p9 = nI i) : CtL l yX11_sell wsX11_sell ({ frames := 4, cells := 0, slots := 0, locals := 92 }) D cA α n sz [.ref (α 30), .int (nI a), .int (nI b), .int q9, .int p9] S 0 (setI S 30 0 (nI 2)) := by
  refine ct_enter cX11_sell 7 (some .long) (by decide) rfl (Nat.le_of_ble_eq_true rfl) ?_
  intro p e s m below meth c hx hb hr hml hlocks hown hts hK hsz hw ls hl
  have hown : s.vm.findClass RX11 = some m.cls := hown
  have hAw : ∀ z, Aw α n s.heap.size z → Aw α n sz z := by rw [hsz]; exact fun _ h => h
  have hl : lv_has ls 7 [(0, .ref (α 30)), (1, .int (nI a)), (2, .int (nI b)), (3, .int q9), (4, .int p9)] := hl
  refine lv_aload_n hx hb dX11_sell_0 rfl (lv_at hl 0 rfl) ?_
  refine lv_aload_n hx hb dX11_sell_1 rfl (lv_at hl 0 rfl) ?_
  refine lv_iload_n hx hb dX11_sell_2 rfl (lv_at hl 1 rfl) ?_
  refine lv_iload_n hx hb dX11_sell_3 rfl (lv_at hl 2 rfl) ?_
  refine x_callVIr (q := 30) (C := RX11) (As := [.int (nI a), .int (nI b)]) (rest := [.ref (α 30)]) ⟨hx, hb, hml, hown, hts⟩ (ct_X11_isPlace l D cA α n _ hn S (nI a) (nI b)) (cwV 2 hts gX11_sell_X11_isPlace rfl rfl rfl (by decide +kernel) ⟨Nat.le_of_ble_eq_true rfl, Nat.le_of_ble_eq_true rfl⟩) hK hw hAw (ws_recv hK hw (q := 30) (Nat.lt_of_lt_of_le (Nat.le_of_ble_eq_true rfl : 30 < 191) hn) (mk_30 cA α) rfl) rfl hl.1 rfl (Nat.le_of_ble_eq_true rfl) dX11_sell_4 ⟨Nat.zero_le _, Nat.zero_le _⟩ (fun H locs hw => ?_)
  refine xb_ne (b := (isCoR S (nI a) && isPrR S (nI b))) (tgt := 14) hx hb dX11_sell_7 (by decide) (fun c1 => ?_) (fun c1 => ?_)
  · skip
    refine lv_iload_n hx hb dX11_sell_14 rfl (lv_at hl 3 rfl) ?_
    refine lv_i2l hx hb dX11_sell_15 rfl ?_
    refine lv_lconst (v := 1) hx hb dX11_sell_16 (by decide) ?_
    refine lv_ldc2 (v := 9999) hx hb hown (hts _ (List.mem_of_getElem? (i := 1) rfl)) dX11_sell_17 ?_
    refine x_callSIr (q := 0) (C := RX0) (As := [.long (q9.toInt64), .long (1), .long (9999)]) (rest := [.ref (α 30)]) ⟨hx, hb, hml, hown, hts⟩ (ct_X11_within l D cA α n _ hn S (q9.toInt64) (1) (9999)) (va_cwS 3 hts gX11_sell_X11_within rfl rfl rfl (by decide +kernel) ⟨Nat.le_of_ble_eq_true rfl, Nat.le_of_ble_eq_true rfl⟩) hK hw hAw rfl hl.1 rfl (Nat.le_of_ble_eq_true rfl) dX11_sell_20 ⟨Nat.zero_le _, Nat.zero_le _⟩ (fun H locs hw => ?_)
    refine xb_eq (b := (wiL (q9.toInt64) (1) (9999))) (tgt := 39) hx hb dX11_sell_23 (by decide) (fun c2 => ?_) (fun c2 => ?_)
    · skip
      refine lv_iconst (v := nI 2) hx hb dX11_sell_39 (by decide) ?_
      refine lv_goto (tgt := 58) hx hb dX11_sell_40 (by decide) ?_
      refine x_putI (x := nI 2) (ty := .int) (C := RX11) (T := TX11) (N := 24) hx hb hts (fun _ h => List.mem_cons_of_mem _ (List.mem_append_right _ h)) tyX11 tyX11_ok nmX11 hown hK hw 30 (Nat.lt_of_lt_of_le (Nat.le_of_ble_eq_true rfl : 30 < 191) hn) (mk_30 cA α) rfl 0 (by decide) (hts _ (List.mem_of_getElem? (i := 3) rfl)) (fun _ h9 => h9) rfl rfl rfl rfl (Nat.le_of_ble_eq_true rfl) rfl dX11_sell_58 (fun S1 eS1 H locs hw => ?_)
      refine lv_aload_n hx hb dX11_sell_61 rfl (lv_at hl 0 rfl) ?_
      refine x_get (v := .int (S1.1 30 0)) (C := RX11) (T := TX11) (N := 24) hx hb hts (fun _ h => List.mem_cons_of_mem _ (List.mem_append_right _ h)) hown hK hw 30 (Nat.lt_of_lt_of_le (Nat.le_of_ble_eq_true rfl : 30 < 191) hn) (mk_30 cA α) rfl 0 (by decide) (hts _ (List.mem_of_getElem? (i := 3) rfl)) (fun _ h9 => h9) rfl dX11_sell_62 ?_
      refine x_topN (k := 2) (by subst eS1; simp [sI_e, upd]) ?_
      refine lv_if_le (tgt := 70) hx hb dX11_sell_65 (by decide) (fun c3 => ?_) (fun c3 => ?_)
      · exact absurd c3 (by decide)
      · skip
        refine lv_lconst (v := 0) hx hb dX11_sell_68 (by decide) ?_
        exact ret_l hx hb hr hlocks hK hw dX11_sell_69 rfl (by subst_vars; rfl)
    · skip
      refine lv_iload hx hb dX11_sell_26 (lv_at hl 4 rfl) ?_
      refine lv_i2l hx hb dX11_sell_28 rfl ?_
      refine lv_lconst (v := 1) hx hb dX11_sell_29 (by decide) ?_
      refine lv_ldc2 (v := 99999) hx hb hown (hts _ (List.mem_of_getElem? (i := 2) rfl)) dX11_sell_30 ?_
      refine x_callSIr (q := 0) (C := RX0) (As := [.long (p9.toInt64), .long (1), .long (99999)]) (rest := [.ref (α 30)]) ⟨hx, hb, hml, hown, hts⟩ (ct_X11_within l D cA α n _ hn S (p9.toInt64) (1) (99999)) (va_cwS 3 hts gX11_sell_X11_within rfl rfl rfl (by decide +kernel) ⟨Nat.le_of_ble_eq_true rfl, Nat.le_of_ble_eq_true rfl⟩) hK hw hAw rfl hl.1 rfl (Nat.le_of_ble_eq_true rfl) dX11_sell_33 ⟨Nat.zero_le _, Nat.zero_le _⟩ (fun H locs hw => ?_)
      refine xb_ne (b := (wiL (p9.toInt64) (1) (99999))) (tgt := 43) hx hb dX11_sell_36 (by decide) (fun c4 => ?_) (fun c4 => ?_)
      · rcases hy9 with h | h; exact absurd (show wiL _ 1 9999 = false from w2f (a := 1) (b := 9999) h (by decide) (by decide)) (by rw [c2]; decide); exact absurd (show wiL _ 1 99999 = false from w2f (a := 1) (b := 99999) h (by decide) (by decide)) (by rw [c4]; decide)
      · skip
        refine lv_iconst (v := nI 2) hx hb dX11_sell_39 (by decide) ?_
        refine lv_goto (tgt := 58) hx hb dX11_sell_40 (by decide) ?_
        refine x_putI (x := nI 2) (ty := .int) (C := RX11) (T := TX11) (N := 24) hx hb hts (fun _ h => List.mem_cons_of_mem _ (List.mem_append_right _ h)) tyX11 tyX11_ok nmX11 hown hK hw 30 (Nat.lt_of_lt_of_le (Nat.le_of_ble_eq_true rfl : 30 < 191) hn) (mk_30 cA α) rfl 0 (by decide) (hts _ (List.mem_of_getElem? (i := 3) rfl)) (fun _ h9 => h9) rfl rfl rfl rfl (Nat.le_of_ble_eq_true rfl) rfl dX11_sell_58 (fun S2 eS2 H locs hw => ?_)
        refine lv_aload_n hx hb dX11_sell_61 rfl (lv_at hl 0 rfl) ?_
        refine x_get (v := .int (S2.1 30 0)) (C := RX11) (T := TX11) (N := 24) hx hb hts (fun _ h => List.mem_cons_of_mem _ (List.mem_append_right _ h)) hown hK hw 30 (Nat.lt_of_lt_of_le (Nat.le_of_ble_eq_true rfl : 30 < 191) hn) (mk_30 cA α) rfl 0 (by decide) (hts _ (List.mem_of_getElem? (i := 3) rfl)) (fun _ h9 => h9) rfl dX11_sell_62 ?_
        refine x_topN (k := 2) (by subst eS2; simp [sI_e, upd]) ?_
        refine lv_if_le (tgt := 70) hx hb dX11_sell_65 (by decide) (fun c5 => ?_) (fun c5 => ?_)
        · exact absurd c5 (by decide)
        · skip
          refine lv_lconst (v := 0) hx hb dX11_sell_68 (by decide) ?_
          exact ret_l hx hb hr hlocks hK hw dX11_sell_69 rfl (by subst_vars; rfl)
  · exact absurd (isPl_t (S := S) (by skip; exact hC) hC2 (by skip; exact hP9) hP2 ha hb0) (by rw [c1]; decide)

set_option maxRecDepth 100000 in
set_option maxHeartbeats 1000000 in
theorem ct_X11_sellZ (l : Launch) (D : va_G) (cA : Nat → ClassId) (α : Nat → Nat) (n sz : Nat) (hn : 191 ≤ n) (S : Mem) (Cn : Nat) (hC : S.1 33 1 = nI Cn) (hC2 : Cn ≤ 6) (Pn : Nat) (hP9 : S.1 33 2 = nI Pn) (hP2 : Pn ≤ 6) (a b : Nat) (ha : a < Cn) (hb0 : b < Pn) (q9 p9 : Int32) (h1 : ∃ i, 1 ≤ i ∧ i ≤ 9999 ∧ q9 = nI i) (h2 : ∃ i, 1 ≤ i ∧ i ≤ 99999 ∧ p9 = nI i) (L : Nat) (hL : S.1 34 1 = nI L) (hL2 : L ≤ 100) (hct : rCan2 S (nI a) b q9 L = false) : CtL l yX11_sell wsX11_sell ({ frames := 4, cells := 0, slots := 0, locals := 92 }) D cA α n sz [.ref (α 30), .int (nI a), .int (nI b), .int q9, .int p9] S 0 (setI S 30 0 (nI 3)) := by
  refine ct_enter cX11_sell 7 (some .long) (by decide) rfl (Nat.le_of_ble_eq_true rfl) ?_
  intro p e s m below meth c hx hb hr hml hlocks hown hts hK hsz hw ls hl
  have hown : s.vm.findClass RX11 = some m.cls := hown
  have hAw : ∀ z, Aw α n s.heap.size z → Aw α n sz z := by rw [hsz]; exact fun _ h => h
  have hl : lv_has ls 7 [(0, .ref (α 30)), (1, .int (nI a)), (2, .int (nI b)), (3, .int q9), (4, .int p9)] := hl
  refine lv_aload_n hx hb dX11_sell_0 rfl (lv_at hl 0 rfl) ?_
  refine lv_aload_n hx hb dX11_sell_1 rfl (lv_at hl 0 rfl) ?_
  refine lv_iload_n hx hb dX11_sell_2 rfl (lv_at hl 1 rfl) ?_
  refine lv_iload_n hx hb dX11_sell_3 rfl (lv_at hl 2 rfl) ?_
  refine x_callVIr (q := 30) (C := RX11) (As := [.int (nI a), .int (nI b)]) (rest := [.ref (α 30)]) ⟨hx, hb, hml, hown, hts⟩ (ct_X11_isPlace l D cA α n _ hn S (nI a) (nI b)) (cwV 2 hts gX11_sell_X11_isPlace rfl rfl rfl (by decide +kernel) ⟨Nat.le_of_ble_eq_true rfl, Nat.le_of_ble_eq_true rfl⟩) hK hw hAw (ws_recv hK hw (q := 30) (Nat.lt_of_lt_of_le (Nat.le_of_ble_eq_true rfl : 30 < 191) hn) (mk_30 cA α) rfl) rfl hl.1 rfl (Nat.le_of_ble_eq_true rfl) dX11_sell_4 ⟨Nat.zero_le _, Nat.zero_le _⟩ (fun H locs hw => ?_)
  refine xb_ne (b := (isCoR S (nI a) && isPrR S (nI b))) (tgt := 14) hx hb dX11_sell_7 (by decide) (fun c1 => ?_) (fun c1 => ?_)
  · skip
    refine lv_iload_n hx hb dX11_sell_14 rfl (lv_at hl 3 rfl) ?_
    refine lv_i2l hx hb dX11_sell_15 rfl ?_
    refine lv_lconst (v := 1) hx hb dX11_sell_16 (by decide) ?_
    refine lv_ldc2 (v := 9999) hx hb hown (hts _ (List.mem_of_getElem? (i := 1) rfl)) dX11_sell_17 ?_
    refine x_callSIr (q := 0) (C := RX0) (As := [.long (q9.toInt64), .long (1), .long (9999)]) (rest := [.ref (α 30)]) ⟨hx, hb, hml, hown, hts⟩ (ct_X11_within l D cA α n _ hn S (q9.toInt64) (1) (9999)) (va_cwS 3 hts gX11_sell_X11_within rfl rfl rfl (by decide +kernel) ⟨Nat.le_of_ble_eq_true rfl, Nat.le_of_ble_eq_true rfl⟩) hK hw hAw rfl hl.1 rfl (Nat.le_of_ble_eq_true rfl) dX11_sell_20 ⟨Nat.zero_le _, Nat.zero_le _⟩ (fun H locs hw => ?_)
    refine xb_eq (b := (wiL (q9.toInt64) (1) (9999))) (tgt := 39) hx hb dX11_sell_23 (by decide) (fun c2 => ?_) (fun c2 => ?_)
    · exact absurd (show wiL _ 1 9999 = true from (wi2_iff (a := 1) (b := 9999) (by decide) (by decide)).mpr h1) (by rw [c2]; decide)
    · skip
      refine lv_iload hx hb dX11_sell_26 (lv_at hl 4 rfl) ?_
      refine lv_i2l hx hb dX11_sell_28 rfl ?_
      refine lv_lconst (v := 1) hx hb dX11_sell_29 (by decide) ?_
      refine lv_ldc2 (v := 99999) hx hb hown (hts _ (List.mem_of_getElem? (i := 2) rfl)) dX11_sell_30 ?_
      refine x_callSIr (q := 0) (C := RX0) (As := [.long (p9.toInt64), .long (1), .long (99999)]) (rest := [.ref (α 30)]) ⟨hx, hb, hml, hown, hts⟩ (ct_X11_within l D cA α n _ hn S (p9.toInt64) (1) (99999)) (va_cwS 3 hts gX11_sell_X11_within rfl rfl rfl (by decide +kernel) ⟨Nat.le_of_ble_eq_true rfl, Nat.le_of_ble_eq_true rfl⟩) hK hw hAw rfl hl.1 rfl (Nat.le_of_ble_eq_true rfl) dX11_sell_33 ⟨Nat.zero_le _, Nat.zero_le _⟩ (fun H locs hw => ?_)
      refine xb_ne (b := (wiL (p9.toInt64) (1) (99999))) (tgt := 43) hx hb dX11_sell_36 (by decide) (fun c3 => ?_) (fun c3 => ?_)
      · skip
        refine lv_aload_n hx hb dX11_sell_43 rfl (lv_at hl 0 rfl) ?_
        refine lv_iload_n hx hb dX11_sell_44 rfl (lv_at hl 1 rfl) ?_
        refine lv_iload_n hx hb dX11_sell_45 rfl (lv_at hl 2 rfl) ?_
        refine lv_iload_n hx hb dX11_sell_46 rfl (lv_at hl 3 rfl) ?_
        refine x_callVIr (q := 30) (C := RX11) (As := [.int (nI a), .int (nI b), .int q9]) (rest := [.ref (α 30)]) ⟨hx, hb, hml, hown, hts⟩ (ct_X11_canTake l D cA α n _ hn S (nI a) b q9 (by omega) L (by skip; exact hL) hL2) (cwV 3 hts gX11_sell_X11_canTake rfl rfl rfl (by decide +kernel) ⟨Nat.le_of_ble_eq_true rfl, Nat.le_of_ble_eq_true rfl⟩) hK hw hAw (ws_recv hK hw (q := 30) (Nat.lt_of_lt_of_le (Nat.le_of_ble_eq_true rfl : 30 < 191) hn) (mk_30 cA α) rfl) rfl hl.1 rfl (Nat.le_of_ble_eq_true rfl) dX11_sell_47 ⟨Nat.zero_le _, Nat.zero_le _⟩ (fun H locs hw => ?_)
        refine xb_ne (b := (decide (S.1 33 (16 + b) = (nI a)) || !decide (sumI (rStk S (nI a) (nI b)) L < q9))) (tgt := 57) hx hb dX11_sell_50 (by decide) (fun c4 => ?_) (fun c4 => ?_)
        · exact absurd (show rCan2 S (nI a) b q9 L = false from hct) (by rw [show rCan2 S (nI a) b q9 L = true from c4]; decide)
        · skip
          refine lv_iconst (v := nI 3) hx hb dX11_sell_53 (by decide) ?_
          refine lv_goto (tgt := 58) hx hb dX11_sell_54 (by decide) ?_
          refine x_putI (x := nI 3) (ty := .int) (C := RX11) (T := TX11) (N := 24) hx hb hts (fun _ h => List.mem_cons_of_mem _ (List.mem_append_right _ h)) tyX11 tyX11_ok nmX11 hown hK hw 30 (Nat.lt_of_lt_of_le (Nat.le_of_ble_eq_true rfl : 30 < 191) hn) (mk_30 cA α) rfl 0 (by decide) (hts _ (List.mem_of_getElem? (i := 3) rfl)) (fun _ h9 => h9) rfl rfl rfl rfl (Nat.le_of_ble_eq_true rfl) rfl dX11_sell_58 (fun S1 eS1 H locs hw => ?_)
          refine lv_aload_n hx hb dX11_sell_61 rfl (lv_at hl 0 rfl) ?_
          refine x_get (v := .int (S1.1 30 0)) (C := RX11) (T := TX11) (N := 24) hx hb hts (fun _ h => List.mem_cons_of_mem _ (List.mem_append_right _ h)) hown hK hw 30 (Nat.lt_of_lt_of_le (Nat.le_of_ble_eq_true rfl : 30 < 191) hn) (mk_30 cA α) rfl 0 (by decide) (hts _ (List.mem_of_getElem? (i := 3) rfl)) (fun _ h9 => h9) rfl dX11_sell_62 ?_
          refine x_topN (k := 3) (by subst eS1; simp [sI_e, upd]) ?_
          refine lv_if_le (tgt := 70) hx hb dX11_sell_65 (by decide) (fun c5 => ?_) (fun c5 => ?_)
          · exact absurd c5 (by decide)
          · skip
            refine lv_lconst (v := 0) hx hb dX11_sell_68 (by decide) ?_
            exact ret_l hx hb hr hlocks hK hw dX11_sell_69 rfl (by subst_vars; rfl)
      · exact absurd (show wiL _ 1 99999 = true from (wi2_iff (a := 1) (b := 99999) (by decide) (by decide)).mpr h2) (by rw [c3]; decide)
  · exact absurd (isPl_t (S := S) (by skip; exact hC) hC2 (by skip; exact hP9) hP2 ha hb0) (by rw [c1]; decide)

def rDl1 (T : Mem) (r : Nat) (b c q p : Int32) : Mem := setI (setI (setI (setI (setI T 34 1 (nI (r + 1))) 34 (608 + 4 * r + 0) c) 34 (608 + 4 * r + 1) b) 34 (608 + 4 * r + 2) q) 34 (608 + 4 * r + 3) p
def rDl2 (T : Mem) (M : Nat) (b a c q p : Int32) : Mem := setI (setI (setI (setI (setI (setI T 34 2 (nI (M + 1))) 34 (1008 + 5 * M + 0) b) 34 (1008 + 5 * M + 1) a) 34 (1008 + 5 * M + 2) c) 34 (1008 + 5 * M + 3) q) 34 (1008 + 5 * M + 4) p
def rDl (T : Mem) (a : Int32) (b : Nat) (c q p : Int32) (L M : Nat) : Mem := rDl2 (rDl1 (rTak T a b q L) (rLn T a b q L) (nI b) c q p) M (nI b) a c q p
theorem rDl1_2 (T : Mem) (r : Nat) (b c q p : Int32) : (rDl1 T r b c q p).1 34 2 = T.1 34 2 := by
  unfold rDl1; rw [sI_e, pk_un (by omega), sI_e, pk_un (by omega), sI_e, pk_un (by omega), sI_e, pk_un (by omega), sI_e, pk_un (by omega)]
theorem rCan2_30 (S : Mem) (x : Int32) : rCan2 (setI S 30 0 x) = rCan2 S := rfl

set_option maxRecDepth 100000 in
set_option maxHeartbeats 1000000 in
theorem ct_X11_deliver (l : Launch) (D : va_G) (cA : Nat → ClassId) (α : Nat → Nat) (n sz : Nat) (hn : 191 ≤ n) (S : Mem) (Cn : Nat) (hC : S.1 33 1 = nI Cn) (hC2 : Cn ≤ 6) (Pn : Nat) (hP9 : S.1 33 2 = nI Pn) (hP2 : Pn ≤ 6) (a b c0 : Nat) (ha : a < Cn) (hb0 : b < Pn) (hc0 : c0 < Cn) (hac : a ≠ c0) (hmk : ¬ S.1 33 (16 + b) = nI c0) (q9 p9 : Int32) (h1 : ∃ i, 1 ≤ i ∧ i ≤ 999 ∧ q9 = nI i) (h2 : ∃ i, 1 ≤ i ∧ i ≤ 99999 ∧ p9 = nI i) (L : Nat) (hL : S.1 34 1 = nI L) (hL2 : L ≤ 100) (M : Nat) (hM : S.1 34 2 = nI M) (hM2 : M < 100) (hct : rCan2 S (nI a) b q9 L = true) (k : Nat) (hk : S.1 30 17 = nI k) (hk2 : k ≤ 10) : CtI l yX11_deliver wsX11_deliver ({ frames := 4, cells := 0, slots := 0, locals := 92 }) D cA α n sz [.ref (α 30), .int (nI b), .int (nI a), .int (nI c0), .int q9, .int p9] S (nI M) (rDl (K0 S k) (nI a) b (nI c0) q9 p9 L M) := by
  refine ct_enter cX11_deliver 9 (some .int) (by decide) rfl (Nat.le_of_ble_eq_true rfl) ?_
  intro p e s m below meth c hx hb hr hml hlocks hown hts hK hsz hw ls hl
  have hown : s.vm.findClass RX11 = some m.cls := hown
  have hAw : ∀ z, Aw α n s.heap.size z → Aw α n sz z := by rw [hsz]; exact fun _ h => h
  have hl : lv_has ls 9 [(0, .ref (α 30)), (1, .int (nI b)), (2, .int (nI a)), (3, .int (nI c0)), (4, .int q9), (5, .int p9)] := hl
  have hrl := rLn_le (K0 S k) (nI a) b q9 L
  refine lv_aload_n hx hb dX11_deliver_0 rfl (lv_at hl 0 rfl) ?_
  refine lv_iconst (v := nI 0) hx hb dX11_deliver_1 (by decide) ?_
  refine x_putI (x := nI 0) (ty := .int) (C := RX11) (T := TX11) (N := 24) hx hb hts (fun _ h => List.mem_cons_of_mem _ (List.mem_append_right _ h)) tyX11 tyX11_ok nmX11 hown hK hw 30 (Nat.lt_of_lt_of_le (Nat.le_of_ble_eq_true rfl : 30 < 191) hn) (mk_30 cA α) rfl 0 (by decide) (hts _ (List.mem_of_getElem? (i := 1) rfl)) (fun _ h9 => h9) rfl rfl rfl rfl (Nat.le_of_ble_eq_true rfl) rfl dX11_deliver_2 (fun S1 eS1 H locs hw => ?_)
  refine lv_aload_n hx hb dX11_deliver_5 rfl (lv_at hl 0 rfl) ?_
  refine lv_iload_n hx hb dX11_deliver_6 rfl (lv_at hl 2 rfl) ?_
  refine lv_iload_n hx hb dX11_deliver_7 rfl (lv_at hl 1 rfl) ?_
  refine x_callVIr (q := 30) (C := RX11) (As := [.int (nI a), .int (nI b)]) (rest := []) ⟨hx, hb, hml, hown, hts⟩ (ct_X11_isPlace l D cA α n _ hn S1 (nI a) (nI b)) (cwV 2 hts gX11_deliver_X11_isPlace rfl rfl rfl (by decide +kernel) ⟨Nat.le_of_ble_eq_true rfl, Nat.le_of_ble_eq_true rfl⟩) hK hw hAw (ws_recv hK hw (q := 30) (Nat.lt_of_lt_of_le (Nat.le_of_ble_eq_true rfl : 30 < 191) hn) (mk_30 cA α) rfl) rfl hl.1 rfl (Nat.le_of_ble_eq_true rfl) dX11_deliver_8 ⟨Nat.zero_le _, Nat.zero_le _⟩ (fun H locs hw => ?_)
  refine xb_eq (b := (isCoR S1 (nI a) && isPrR S1 (nI b))) (tgt := 22) hx hb dX11_deliver_11 (by decide) (fun c1 => ?_) (fun c1 => ?_)
  · exact absurd (isPl_t (S := S1) (by subst eS1; exact hC) hC2 (by subst eS1; exact hP9) hP2 ha hb0) (by rw [c1]; decide)
  · skip
    refine lv_aload_n hx hb dX11_deliver_14 rfl (lv_at hl 0 rfl) ?_
    refine lv_iload_n hx hb dX11_deliver_15 rfl (lv_at hl 3 rfl) ?_
    refine x_callVIr (q := 30) (C := RX11) (As := [.int (nI c0)]) (rest := []) ⟨hx, hb, hml, hown, hts⟩ (ct_X11_isCompany l D cA α n _ hn S1 (nI c0)) (cwV 1 hts gX11_deliver_X11_isCompany rfl rfl rfl (by decide +kernel) ⟨Nat.le_of_ble_eq_true rfl, Nat.le_of_ble_eq_true rfl⟩) hK hw hAw (ws_recv hK hw (q := 30) (Nat.lt_of_lt_of_le (Nat.le_of_ble_eq_true rfl : 30 < 191) hn) (mk_30 cA α) rfl) rfl hl.1 rfl (Nat.le_of_ble_eq_true rfl) dX11_deliver_16 ⟨Nat.zero_le _, Nat.zero_le _⟩ (fun H locs hw => ?_)
    refine xb_ne (b := (isCoR S1 (nI c0))) (tgt := 28) hx hb dX11_deliver_19 (by decide) (fun c2 => ?_) (fun c2 => ?_)
    · skip
      refine lv_iload_n hx hb dX11_deliver_28 rfl (lv_at hl 2 rfl) ?_
      refine lv_iload_n hx hb dX11_deliver_29 rfl (lv_at hl 3 rfl) ?_
      refine xn_icmp_eq (tgt := 72) hx hb (by omega) (by omega) dX11_deliver_30 (by decide) (fun c3 => ?_) (fun c3 => ?_)
      · exact absurd c3 hac
      · skip
        refine lv_aload_n hx hb dX11_deliver_33 rfl (lv_at hl 0 rfl) ?_
        refine x_get (v := .ref (α 33)) (C := RX11) (T := TX11) (N := 24) hx hb hts (fun _ h => List.mem_cons_of_mem _ (List.mem_append_right _ h)) hown hK hw 30 (Nat.lt_of_lt_of_le (Nat.le_of_ble_eq_true rfl : 30 < 191) hn) (mk_30 cA α) rfl 11 (by decide) (hts _ (List.mem_of_getElem? (i := 2) rfl)) (fun _ h9 => h9) rfl dX11_deliver_34 ?_
        refine lv_bipush (v := nI 16) hx hb dX11_deliver_37 (by decide) ?_
        refine lv_iload_n hx hb dX11_deliver_39 rfl (lv_at hl 1 rfl) ?_
        refine xn_iadd hx hb dX11_deliver_40 ?_
        refine x_iald hx hb hK hw 33 40 (Nat.lt_of_lt_of_le (Nat.le_of_ble_eq_true rfl : 33 < 191) hn) (mk_33 cA α) (16 + b) rfl (by omega) (by decide) dX11_deliver_41 ?_
        refine lv_iload_n hx hb dX11_deliver_42 rfl (lv_at hl 3 rfl) ?_
        refine lv_icmp_eq (tgt := 72) hx hb dX11_deliver_43 (by decide) (fun c4 => ?_) (fun c4 => ?_)
        · exact absurd c4 (by subst eS1; exact hmk)
        · skip
          refine lv_iload hx hb dX11_deliver_46 (lv_at hl 4 rfl) ?_
          refine lv_i2l hx hb dX11_deliver_48 rfl ?_
          refine lv_lconst (v := 1) hx hb dX11_deliver_49 (by decide) ?_
          refine lv_ldc2 (v := 999) hx hb hown (hts _ (List.mem_of_getElem? (i := 3) rfl)) dX11_deliver_50 ?_
          refine x_callSIr (q := 0) (C := RX0) (As := [.long (q9.toInt64), .long (1), .long (999)]) (rest := []) ⟨hx, hb, hml, hown, hts⟩ (ct_X11_within l D cA α n _ hn S1 (q9.toInt64) (1) (999)) (va_cwS 3 hts gX11_deliver_X11_within rfl rfl rfl (by decide +kernel) ⟨Nat.le_of_ble_eq_true rfl, Nat.le_of_ble_eq_true rfl⟩) hK hw hAw rfl hl.1 rfl (Nat.le_of_ble_eq_true rfl) dX11_deliver_53 ⟨Nat.zero_le _, Nat.zero_le _⟩ (fun H locs hw => ?_)
          refine xb_eq (b := (wiL (q9.toInt64) (1) (999))) (tgt := 72) hx hb dX11_deliver_56 (by decide) (fun c5 => ?_) (fun c5 => ?_)
          · exact absurd (show wiL _ 1 999 = true from (wi2_iff (a := 1) (b := 999) (by decide) (by decide)).mpr h1) (by rw [c5]; decide)
          · skip
            refine lv_iload hx hb dX11_deliver_59 (lv_at hl 5 rfl) ?_
            refine lv_i2l hx hb dX11_deliver_61 rfl ?_
            refine lv_lconst (v := 1) hx hb dX11_deliver_62 (by decide) ?_
            refine lv_ldc2 (v := 99999) hx hb hown (hts _ (List.mem_of_getElem? (i := 4) rfl)) dX11_deliver_63 ?_
            refine x_callSIr (q := 0) (C := RX0) (As := [.long (p9.toInt64), .long (1), .long (99999)]) (rest := []) ⟨hx, hb, hml, hown, hts⟩ (ct_X11_within l D cA α n _ hn S1 (p9.toInt64) (1) (99999)) (va_cwS 3 hts gX11_deliver_X11_within rfl rfl rfl (by decide +kernel) ⟨Nat.le_of_ble_eq_true rfl, Nat.le_of_ble_eq_true rfl⟩) hK hw hAw rfl hl.1 rfl (Nat.le_of_ble_eq_true rfl) dX11_deliver_66 ⟨Nat.zero_le _, Nat.zero_le _⟩ (fun H locs hw => ?_)
            refine xb_ne (b := (wiL (p9.toInt64) (1) (99999))) (tgt := 78) hx hb dX11_deliver_69 (by decide) (fun c6 => ?_) (fun c6 => ?_)
            · skip
              refine lv_aload_n hx hb dX11_deliver_78 rfl (lv_at hl 0 rfl) ?_
              refine lv_iload_n hx hb dX11_deliver_79 rfl (lv_at hl 2 rfl) ?_
              refine lv_iload_n hx hb dX11_deliver_80 rfl (lv_at hl 1 rfl) ?_
              refine lv_iload hx hb dX11_deliver_81 (lv_at hl 4 rfl) ?_
              refine x_callVIr (q := 30) (C := RX11) (As := [.int (nI a), .int (nI b), .int q9]) (rest := []) ⟨hx, hb, hml, hown, hts⟩ (ct_X11_canTake l D cA α n _ hn S1 (nI a) b q9 (by omega) L (by subst eS1; exact hL) hL2) (cwV 3 hts gX11_deliver_X11_canTake rfl rfl rfl (by decide +kernel) ⟨Nat.le_of_ble_eq_true rfl, Nat.le_of_ble_eq_true rfl⟩) hK hw hAw (ws_recv hK hw (q := 30) (Nat.lt_of_lt_of_le (Nat.le_of_ble_eq_true rfl : 30 < 191) hn) (mk_30 cA α) rfl) rfl hl.1 rfl (Nat.le_of_ble_eq_true rfl) dX11_deliver_83 ⟨Nat.zero_le _, Nat.zero_le _⟩ (fun H locs hw => ?_)
              refine xb_eq (b := (decide (S1.1 33 (16 + b) = (nI a)) || !decide (sumI (rStk S1 (nI a) (nI b)) L < q9))) (tgt := 100) hx hb dX11_deliver_86 (by decide) (fun c7 => ?_) (fun c7 => ?_)
              · exact absurd (show rCan2 S (nI a) b q9 L = true from hct) (by show rCan2 S (nI a) b q9 L ≠ true; rw [show rCan2 S (nI a) b q9 L = false from (by rw [← rCan2_30 S (nI 0), ← eS1]; exact c7)]; decide)
              · skip
                refine lv_aload_n hx hb dX11_deliver_89 rfl (lv_at hl 0 rfl) ?_
                refine x_get (v := .ref (α 34)) (C := RX11) (T := TX11) (N := 24) hx hb hts (fun _ h => List.mem_cons_of_mem _ (List.mem_append_right _ h)) hown hK hw 30 (Nat.lt_of_lt_of_le (Nat.le_of_ble_eq_true rfl : 30 < 191) hn) (mk_30 cA α) rfl 13 (by decide) (hts _ (List.mem_of_getElem? (i := 5) rfl)) (fun _ h9 => h9) rfl dX11_deliver_90 ?_
                refine lv_iconst (v := nI 2) hx hb dX11_deliver_93 (by decide) ?_
                refine x_iald hx hb hK hw 34 1508 (Nat.lt_of_lt_of_le (Nat.le_of_ble_eq_true rfl : 34 < 191) hn) (mk_34 cA α) 2 rfl (by decide) (by decide) dX11_deliver_94 ?_
                refine x_topN (k := M) (by subst eS1; exact hM) ?_
                refine lv_bipush (v := nI 100) hx hb dX11_deliver_95 (by decide) ?_
                refine xn_icmp_ne (tgt := 106) hx hb (by omega) (by decide) dX11_deliver_97 (by decide) (fun c8 => ?_) (fun c8 => ?_)
                · skip
                  refine lv_aload_n hx hb dX11_deliver_106 rfl (lv_at hl 0 rfl) ?_
                  refine x_callVV (q := 30) (C := RX11) (As := []) (rest := []) ⟨hx, hb, hml, hown, hts⟩ (ct_X11_keepU l D cA α n _ hn S1 k (by subst eS1; exact hk) hk2) (cwV 0 hts gX11_deliver_X11_keep rfl rfl rfl (by decide +kernel) ⟨Nat.le_of_ble_eq_true rfl, Nat.le_of_ble_eq_true rfl⟩) hK hw hAw (ws_recv hK hw (q := 30) (Nat.lt_of_lt_of_le (Nat.le_of_ble_eq_true rfl : 30 < 191) hn) (mk_30 cA α) rfl) rfl hl.1 rfl (Nat.le_of_ble_eq_true rfl) dX11_deliver_107 ⟨Nat.zero_le _, Nat.zero_le _⟩ (fun S2 eS2 H locs hw => ?_)
                  refine lv_aload_n hx hb dX11_deliver_110 rfl (lv_at hl 0 rfl) ?_
                  refine lv_iload_n hx hb dX11_deliver_111 rfl (lv_at hl 2 rfl) ?_
                  refine lv_iload_n hx hb dX11_deliver_112 rfl (lv_at hl 1 rfl) ?_
                  refine lv_iload hx hb dX11_deliver_113 (lv_at hl 4 rfl) ?_
                  refine x_callVV (q := 30) (C := RX11) (As := [.int (nI a), .int (nI b), .int q9]) (rest := []) ⟨hx, hb, hml, hown, hts⟩ (ct_X11_takes l D cA α n _ hn S2 (nI a) b (by omega) q9 L (by subst eS2; subst eS1; exact (congrFun (K0_34 S k) 1).trans hL) hL2) (cwV 3 hts gX11_deliver_X11_takes rfl rfl rfl (by decide +kernel) ⟨Nat.le_of_ble_eq_true rfl, Nat.le_of_ble_eq_true rfl⟩) hK hw hAw (ws_recv hK hw (q := 30) (Nat.lt_of_lt_of_le (Nat.le_of_ble_eq_true rfl : 30 < 191) hn) (mk_30 cA α) rfl) rfl hl.1 rfl (Nat.le_of_ble_eq_true rfl) dX11_deliver_115 ⟨Nat.zero_le _, Nat.zero_le _⟩ (fun S3 eS3 H locs hw => ?_)
                  refine lv_sipush (v := nI 608) hx hb dX11_deliver_118 (by decide) ?_
                  refine lv_iconst (v := nI 4) hx hb dX11_deliver_121 (by decide) ?_
                  refine lv_aload_n hx hb dX11_deliver_122 rfl (lv_at hl 0 rfl) ?_
                  refine x_get (v := .ref (α 34)) (C := RX11) (T := TX11) (N := 24) hx hb hts (fun _ h => List.mem_cons_of_mem _ (List.mem_append_right _ h)) hown hK hw 30 (Nat.lt_of_lt_of_le (Nat.le_of_ble_eq_true rfl : 30 < 191) hn) (mk_30 cA α) rfl 13 (by decide) (hts _ (List.mem_of_getElem? (i := 5) rfl)) (fun _ h9 => h9) rfl dX11_deliver_123 ?_
                  refine lv_iconst (v := nI 1) hx hb dX11_deliver_126 (by decide) ?_
                  refine x_iald hx hb hK hw 34 1508 (Nat.lt_of_lt_of_le (Nat.le_of_ble_eq_true rfl : 34 < 191) hn) (mk_34 cA α) 1 rfl (by decide) (by decide) dX11_deliver_127 ?_
                  refine x_topN (k := rLn (K0 S k) (nI a) b q9 L) (by subst eS3; subst eS2; subst eS1; exact rTak_1 _ _ _ _ _) ?_
                  refine xn_imul hx hb dX11_deliver_128 ?_
                  refine xn_iadd hx hb dX11_deliver_129 ?_
                  refine lv_istore (lv' := [(6, .int (nI (608 + (4 * (rLn (K0 S k) (nI a) b q9 L))))), (0, .ref (α 30)), (1, .int (nI b)), (2, .int (nI a)), (3, .int (nI c0)), (4, .int q9), (5, .int p9)]) hx hb dX11_deliver_130 hl (by decide) rfl (fun ls hl => ?_)
                  refine lv_aload_n hx hb dX11_deliver_132 rfl (lv_at hl 1 rfl) ?_
                  refine x_get (v := .ref (α 34)) (C := RX11) (T := TX11) (N := 24) hx hb hts (fun _ h => List.mem_cons_of_mem _ (List.mem_append_right _ h)) hown hK hw 30 (Nat.lt_of_lt_of_le (Nat.le_of_ble_eq_true rfl : 30 < 191) hn) (mk_30 cA α) rfl 13 (by decide) (hts _ (List.mem_of_getElem? (i := 5) rfl)) (fun _ h9 => h9) rfl dX11_deliver_133 ?_
                  refine lv_iconst (v := nI 1) hx hb dX11_deliver_136 (by decide) ?_
                  refine lv_dup2_11 hx hb dX11_deliver_137 rfl rfl ?_
                  refine x_iald hx hb hK hw 34 1508 (Nat.lt_of_lt_of_le (Nat.le_of_ble_eq_true rfl : 34 < 191) hn) (mk_34 cA α) 1 rfl (by decide) (by decide) dX11_deliver_138 ?_
                  refine x_topN (k := rLn (K0 S k) (nI a) b q9 L) (by subst eS3; subst eS2; subst eS1; exact rTak_1 _ _ _ _ _) ?_
                  refine lv_iconst (v := nI 1) hx hb dX11_deliver_139 (by decide) ?_
                  refine xn_iadd hx hb dX11_deliver_140 ?_
                  refine x_iast (x := nI ((rLn (K0 S k) (nI a) b q9 L) + 1)) hx hb hK hw 34 1508 (Nat.lt_of_lt_of_le (Nat.le_of_ble_eq_true rfl : 34 < 191) hn) (mk_34 cA α) 1 rfl (by decide) (by decide) dX11_deliver_141 (fun S4 eS4 H locs hw => ?_)
                  refine lv_aload_n hx hb dX11_deliver_142 rfl (lv_at hl 1 rfl) ?_
                  refine x_get (v := .ref (α 34)) (C := RX11) (T := TX11) (N := 24) hx hb hts (fun _ h => List.mem_cons_of_mem _ (List.mem_append_right _ h)) hown hK hw 30 (Nat.lt_of_lt_of_le (Nat.le_of_ble_eq_true rfl : 30 < 191) hn) (mk_30 cA α) rfl 13 (by decide) (hts _ (List.mem_of_getElem? (i := 5) rfl)) (fun _ h9 => h9) rfl dX11_deliver_143 ?_
                  refine lv_iload hx hb dX11_deliver_146 (lv_at hl 0 rfl) ?_
                  refine lv_iconst (v := nI 0) hx hb dX11_deliver_148 (by decide) ?_
                  refine xn_iadd hx hb dX11_deliver_149 ?_
                  refine lv_iload_n hx hb dX11_deliver_150 rfl (lv_at hl 4 rfl) ?_
                  refine x_iast (x := nI c0) hx hb hK hw 34 1508 (Nat.lt_of_lt_of_le (Nat.le_of_ble_eq_true rfl : 34 < 191) hn) (mk_34 cA α) ((608 + (4 * (rLn (K0 S k) (nI a) b q9 L))) + 0) rfl (by omega) (by decide) dX11_deliver_151 (fun S5 eS5 H locs hw => ?_)
                  refine lv_aload_n hx hb dX11_deliver_152 rfl (lv_at hl 1 rfl) ?_
                  refine x_get (v := .ref (α 34)) (C := RX11) (T := TX11) (N := 24) hx hb hts (fun _ h => List.mem_cons_of_mem _ (List.mem_append_right _ h)) hown hK hw 30 (Nat.lt_of_lt_of_le (Nat.le_of_ble_eq_true rfl : 30 < 191) hn) (mk_30 cA α) rfl 13 (by decide) (hts _ (List.mem_of_getElem? (i := 5) rfl)) (fun _ h9 => h9) rfl dX11_deliver_153 ?_
                  refine lv_iload hx hb dX11_deliver_156 (lv_at hl 0 rfl) ?_
                  refine lv_iconst (v := nI 1) hx hb dX11_deliver_158 (by decide) ?_
                  refine xn_iadd hx hb dX11_deliver_159 ?_
                  refine lv_iload_n hx hb dX11_deliver_160 rfl (lv_at hl 2 rfl) ?_
                  refine x_iast (x := nI b) hx hb hK hw 34 1508 (Nat.lt_of_lt_of_le (Nat.le_of_ble_eq_true rfl : 34 < 191) hn) (mk_34 cA α) ((608 + (4 * (rLn (K0 S k) (nI a) b q9 L))) + 1) rfl (by omega) (by decide) dX11_deliver_161 (fun S6 eS6 H locs hw => ?_)
                  refine lv_aload_n hx hb dX11_deliver_162 rfl (lv_at hl 1 rfl) ?_
                  refine x_get (v := .ref (α 34)) (C := RX11) (T := TX11) (N := 24) hx hb hts (fun _ h => List.mem_cons_of_mem _ (List.mem_append_right _ h)) hown hK hw 30 (Nat.lt_of_lt_of_le (Nat.le_of_ble_eq_true rfl : 30 < 191) hn) (mk_30 cA α) rfl 13 (by decide) (hts _ (List.mem_of_getElem? (i := 5) rfl)) (fun _ h9 => h9) rfl dX11_deliver_163 ?_
                  refine lv_iload hx hb dX11_deliver_166 (lv_at hl 0 rfl) ?_
                  refine lv_iconst (v := nI 2) hx hb dX11_deliver_168 (by decide) ?_
                  refine xn_iadd hx hb dX11_deliver_169 ?_
                  refine lv_iload hx hb dX11_deliver_170 (lv_at hl 5 rfl) ?_
                  refine x_iast (x := q9) hx hb hK hw 34 1508 (Nat.lt_of_lt_of_le (Nat.le_of_ble_eq_true rfl : 34 < 191) hn) (mk_34 cA α) ((608 + (4 * (rLn (K0 S k) (nI a) b q9 L))) + 2) rfl (by omega) (by decide) dX11_deliver_172 (fun S7 eS7 H locs hw => ?_)
                  refine lv_aload_n hx hb dX11_deliver_173 rfl (lv_at hl 1 rfl) ?_
                  refine x_get (v := .ref (α 34)) (C := RX11) (T := TX11) (N := 24) hx hb hts (fun _ h => List.mem_cons_of_mem _ (List.mem_append_right _ h)) hown hK hw 30 (Nat.lt_of_lt_of_le (Nat.le_of_ble_eq_true rfl : 30 < 191) hn) (mk_30 cA α) rfl 13 (by decide) (hts _ (List.mem_of_getElem? (i := 5) rfl)) (fun _ h9 => h9) rfl dX11_deliver_174 ?_
                  refine lv_iload hx hb dX11_deliver_177 (lv_at hl 0 rfl) ?_
                  refine lv_iconst (v := nI 3) hx hb dX11_deliver_179 (by decide) ?_
                  refine xn_iadd hx hb dX11_deliver_180 ?_
                  refine lv_iload hx hb dX11_deliver_181 (lv_at hl 6 rfl) ?_
                  refine x_iast (x := p9) hx hb hK hw 34 1508 (Nat.lt_of_lt_of_le (Nat.le_of_ble_eq_true rfl : 34 < 191) hn) (mk_34 cA α) ((608 + (4 * (rLn (K0 S k) (nI a) b q9 L))) + 3) rfl (by omega) (by decide) dX11_deliver_183 (fun S8 eS8 H locs hw => ?_)
                  refine lv_aload_n hx hb dX11_deliver_184 rfl (lv_at hl 1 rfl) ?_
                  refine x_get (v := .ref (α 34)) (C := RX11) (T := TX11) (N := 24) hx hb hts (fun _ h => List.mem_cons_of_mem _ (List.mem_append_right _ h)) hown hK hw 30 (Nat.lt_of_lt_of_le (Nat.le_of_ble_eq_true rfl : 30 < 191) hn) (mk_30 cA α) rfl 13 (by decide) (hts _ (List.mem_of_getElem? (i := 5) rfl)) (fun _ h9 => h9) rfl dX11_deliver_185 ?_
                  refine lv_iconst (v := nI 2) hx hb dX11_deliver_188 (by decide) ?_
                  refine x_iald hx hb hK hw 34 1508 (Nat.lt_of_lt_of_le (Nat.le_of_ble_eq_true rfl : 34 < 191) hn) (mk_34 cA α) 2 rfl (by decide) (by decide) dX11_deliver_189 ?_
                  refine x_topN (k := M) (by subst eS8; subst eS7; subst eS6; subst eS5; subst eS4; subst eS3; subst eS2; subst eS1; exact (rDl1_2 _ _ _ _ _ _).trans ((rTak_lo _ _ _ _ _ (by decide) (by decide)).trans ((congrFun (K0_34 S k) 2).trans hM))) ?_
                  refine lv_istore (lv' := [(7, .int (nI M)), (6, .int (nI (608 + (4 * (rLn (K0 S k) (nI a) b q9 L))))), (0, .ref (α 30)), (1, .int (nI b)), (2, .int (nI a)), (3, .int (nI c0)), (4, .int q9), (5, .int p9)]) hx hb dX11_deliver_190 hl (by decide) rfl (fun ls hl => ?_)
                  refine lv_aload_n hx hb dX11_deliver_192 rfl (lv_at hl 2 rfl) ?_
                  refine x_get (v := .ref (α 34)) (C := RX11) (T := TX11) (N := 24) hx hb hts (fun _ h => List.mem_cons_of_mem _ (List.mem_append_right _ h)) hown hK hw 30 (Nat.lt_of_lt_of_le (Nat.le_of_ble_eq_true rfl : 30 < 191) hn) (mk_30 cA α) rfl 13 (by decide) (hts _ (List.mem_of_getElem? (i := 5) rfl)) (fun _ h9 => h9) rfl dX11_deliver_193 ?_
                  refine lv_iconst (v := nI 2) hx hb dX11_deliver_196 (by decide) ?_
                  refine lv_dup2_11 hx hb dX11_deliver_197 rfl rfl ?_
                  refine x_iald hx hb hK hw 34 1508 (Nat.lt_of_lt_of_le (Nat.le_of_ble_eq_true rfl : 34 < 191) hn) (mk_34 cA α) 2 rfl (by decide) (by decide) dX11_deliver_198 ?_
                  refine x_topN (k := M) (by subst eS8; subst eS7; subst eS6; subst eS5; subst eS4; subst eS3; subst eS2; subst eS1; exact (rDl1_2 _ _ _ _ _ _).trans ((rTak_lo _ _ _ _ _ (by decide) (by decide)).trans ((congrFun (K0_34 S k) 2).trans hM))) ?_
                  refine lv_iconst (v := nI 1) hx hb dX11_deliver_199 (by decide) ?_
                  refine xn_iadd hx hb dX11_deliver_200 ?_
                  refine x_iast (x := nI (M + 1)) hx hb hK hw 34 1508 (Nat.lt_of_lt_of_le (Nat.le_of_ble_eq_true rfl : 34 < 191) hn) (mk_34 cA α) 2 rfl (by decide) (by decide) dX11_deliver_201 (fun S9 eS9 H locs hw => ?_)
                  refine lv_sipush (v := nI 1008) hx hb dX11_deliver_202 (by decide) ?_
                  refine lv_iconst (v := nI 5) hx hb dX11_deliver_205 (by decide) ?_
                  refine lv_iload hx hb dX11_deliver_206 (lv_at hl 0 rfl) ?_
                  refine xn_imul hx hb dX11_deliver_208 ?_
                  refine xn_iadd hx hb dX11_deliver_209 ?_
                  refine lv_istore (lv' := [(8, .int (nI (1008 + (5 * M)))), (7, .int (nI M)), (6, .int (nI (608 + (4 * (rLn (K0 S k) (nI a) b q9 L))))), (0, .ref (α 30)), (1, .int (nI b)), (2, .int (nI a)), (3, .int (nI c0)), (4, .int q9), (5, .int p9)]) hx hb dX11_deliver_210 hl (by decide) rfl (fun ls hl => ?_)
                  refine lv_aload_n hx hb dX11_deliver_212 rfl (lv_at hl 3 rfl) ?_
                  refine x_get (v := .ref (α 34)) (C := RX11) (T := TX11) (N := 24) hx hb hts (fun _ h => List.mem_cons_of_mem _ (List.mem_append_right _ h)) hown hK hw 30 (Nat.lt_of_lt_of_le (Nat.le_of_ble_eq_true rfl : 30 < 191) hn) (mk_30 cA α) rfl 13 (by decide) (hts _ (List.mem_of_getElem? (i := 5) rfl)) (fun _ h9 => h9) rfl dX11_deliver_213 ?_
                  refine lv_iload hx hb dX11_deliver_216 (lv_at hl 0 rfl) ?_
                  refine lv_iconst (v := nI 0) hx hb dX11_deliver_218 (by decide) ?_
                  refine xn_iadd hx hb dX11_deliver_219 ?_
                  refine lv_iload_n hx hb dX11_deliver_220 rfl (lv_at hl 4 rfl) ?_
                  refine x_iast (x := nI b) hx hb hK hw 34 1508 (Nat.lt_of_lt_of_le (Nat.le_of_ble_eq_true rfl : 34 < 191) hn) (mk_34 cA α) ((1008 + (5 * M)) + 0) rfl (by omega) (by decide) dX11_deliver_221 (fun S10 eS10 H locs hw => ?_)
                  refine lv_aload_n hx hb dX11_deliver_222 rfl (lv_at hl 3 rfl) ?_
                  refine x_get (v := .ref (α 34)) (C := RX11) (T := TX11) (N := 24) hx hb hts (fun _ h => List.mem_cons_of_mem _ (List.mem_append_right _ h)) hown hK hw 30 (Nat.lt_of_lt_of_le (Nat.le_of_ble_eq_true rfl : 30 < 191) hn) (mk_30 cA α) rfl 13 (by decide) (hts _ (List.mem_of_getElem? (i := 5) rfl)) (fun _ h9 => h9) rfl dX11_deliver_223 ?_
                  refine lv_iload hx hb dX11_deliver_226 (lv_at hl 0 rfl) ?_
                  refine lv_iconst (v := nI 1) hx hb dX11_deliver_228 (by decide) ?_
                  refine xn_iadd hx hb dX11_deliver_229 ?_
                  refine lv_iload_n hx hb dX11_deliver_230 rfl (lv_at hl 5 rfl) ?_
                  refine x_iast (x := nI a) hx hb hK hw 34 1508 (Nat.lt_of_lt_of_le (Nat.le_of_ble_eq_true rfl : 34 < 191) hn) (mk_34 cA α) ((1008 + (5 * M)) + 1) rfl (by omega) (by decide) dX11_deliver_231 (fun S11 eS11 H locs hw => ?_)
                  refine lv_aload_n hx hb dX11_deliver_232 rfl (lv_at hl 3 rfl) ?_
                  refine x_get (v := .ref (α 34)) (C := RX11) (T := TX11) (N := 24) hx hb hts (fun _ h => List.mem_cons_of_mem _ (List.mem_append_right _ h)) hown hK hw 30 (Nat.lt_of_lt_of_le (Nat.le_of_ble_eq_true rfl : 30 < 191) hn) (mk_30 cA α) rfl 13 (by decide) (hts _ (List.mem_of_getElem? (i := 5) rfl)) (fun _ h9 => h9) rfl dX11_deliver_233 ?_
                  refine lv_iload hx hb dX11_deliver_236 (lv_at hl 0 rfl) ?_
                  refine lv_iconst (v := nI 2) hx hb dX11_deliver_238 (by decide) ?_
                  refine xn_iadd hx hb dX11_deliver_239 ?_
                  refine lv_iload_n hx hb dX11_deliver_240 rfl (lv_at hl 6 rfl) ?_
                  refine x_iast (x := nI c0) hx hb hK hw 34 1508 (Nat.lt_of_lt_of_le (Nat.le_of_ble_eq_true rfl : 34 < 191) hn) (mk_34 cA α) ((1008 + (5 * M)) + 2) rfl (by omega) (by decide) dX11_deliver_241 (fun S12 eS12 H locs hw => ?_)
                  refine lv_aload_n hx hb dX11_deliver_242 rfl (lv_at hl 3 rfl) ?_
                  refine x_get (v := .ref (α 34)) (C := RX11) (T := TX11) (N := 24) hx hb hts (fun _ h => List.mem_cons_of_mem _ (List.mem_append_right _ h)) hown hK hw 30 (Nat.lt_of_lt_of_le (Nat.le_of_ble_eq_true rfl : 30 < 191) hn) (mk_30 cA α) rfl 13 (by decide) (hts _ (List.mem_of_getElem? (i := 5) rfl)) (fun _ h9 => h9) rfl dX11_deliver_243 ?_
                  refine lv_iload hx hb dX11_deliver_246 (lv_at hl 0 rfl) ?_
                  refine lv_iconst (v := nI 3) hx hb dX11_deliver_248 (by decide) ?_
                  refine xn_iadd hx hb dX11_deliver_249 ?_
                  refine lv_iload hx hb dX11_deliver_250 (lv_at hl 7 rfl) ?_
                  refine x_iast (x := q9) hx hb hK hw 34 1508 (Nat.lt_of_lt_of_le (Nat.le_of_ble_eq_true rfl : 34 < 191) hn) (mk_34 cA α) ((1008 + (5 * M)) + 3) rfl (by omega) (by decide) dX11_deliver_252 (fun S13 eS13 H locs hw => ?_)
                  refine lv_aload_n hx hb dX11_deliver_253 rfl (lv_at hl 3 rfl) ?_
                  refine x_get (v := .ref (α 34)) (C := RX11) (T := TX11) (N := 24) hx hb hts (fun _ h => List.mem_cons_of_mem _ (List.mem_append_right _ h)) hown hK hw 30 (Nat.lt_of_lt_of_le (Nat.le_of_ble_eq_true rfl : 30 < 191) hn) (mk_30 cA α) rfl 13 (by decide) (hts _ (List.mem_of_getElem? (i := 5) rfl)) (fun _ h9 => h9) rfl dX11_deliver_254 ?_
                  refine lv_iload hx hb dX11_deliver_257 (lv_at hl 0 rfl) ?_
                  refine lv_iconst (v := nI 4) hx hb dX11_deliver_259 (by decide) ?_
                  refine xn_iadd hx hb dX11_deliver_260 ?_
                  refine lv_iload hx hb dX11_deliver_261 (lv_at hl 8 rfl) ?_
                  refine x_iast (x := p9) hx hb hK hw 34 1508 (Nat.lt_of_lt_of_le (Nat.le_of_ble_eq_true rfl : 34 < 191) hn) (mk_34 cA α) ((1008 + (5 * M)) + 4) rfl (by omega) (by decide) dX11_deliver_263 (fun S14 eS14 H locs hw => ?_)
                  refine lv_iload hx hb dX11_deliver_264 (lv_at hl 1 rfl) ?_
                  exact ret_i hx hb hr hlocks hK hw dX11_deliver_266 rfl (by subst_vars; rfl)
                · exact absurd c8 (by omega)
            · exact absurd (show wiL _ 1 99999 = true from (wi2_iff (a := 1) (b := 99999) (by decide) (by decide)).mpr h2) (by rw [c6]; decide)
    · exact absurd (isCo_t (S := S1) (by subst eS1; exact hC) hC2 hc0) (by rw [c2]; decide)

set_option maxRecDepth 100000 in
set_option maxHeartbeats 1000000 in
theorem ct_X11_deliverX (l : Launch) (D : va_G) (cA : Nat → ClassId) (α : Nat → Nat) (n sz : Nat) (hn : 191 ≤ n) (S : Mem) (Cn : Nat) (hC : S.1 33 1 = nI Cn) (hC2 : Cn ≤ 6) (Pn : Nat) (hP9 : S.1 33 2 = nI Pn) (hP2 : Pn ≤ 6) (x y u q9 p9 : Int32) (hx9 : ((¬ ∃ i, i < Cn ∧ x = nI i) ∨ ¬ ∃ i, i < Pn ∧ y = nI i) ∨ ¬ ∃ i, i < Cn ∧ u = nI i) : CtI l yX11_deliver wsX11_deliver ({ frames := 4, cells := 0, slots := 0, locals := 92 }) D cA α n sz [.ref (α 30), .int y, .int x, .int u, .int q9, .int p9] S (nI 0) (setI (setI S 30 0 (nI 0)) 30 0 (nI 1)) := by
  refine ct_enter cX11_deliver 9 (some .int) (by decide) rfl (Nat.le_of_ble_eq_true rfl) ?_
  intro p e s m below meth c hx hb hr hml hlocks hown hts hK hsz hw ls hl
  have hown : s.vm.findClass RX11 = some m.cls := hown
  have hAw : ∀ z, Aw α n s.heap.size z → Aw α n sz z := by rw [hsz]; exact fun _ h => h
  have hl : lv_has ls 9 [(0, .ref (α 30)), (1, .int y), (2, .int x), (3, .int u), (4, .int q9), (5, .int p9)] := hl
  refine lv_aload_n hx hb dX11_deliver_0 rfl (lv_at hl 0 rfl) ?_
  refine lv_iconst (v := nI 0) hx hb dX11_deliver_1 (by decide) ?_
  refine x_putI (x := nI 0) (ty := .int) (C := RX11) (T := TX11) (N := 24) hx hb hts (fun _ h => List.mem_cons_of_mem _ (List.mem_append_right _ h)) tyX11 tyX11_ok nmX11 hown hK hw 30 (Nat.lt_of_lt_of_le (Nat.le_of_ble_eq_true rfl : 30 < 191) hn) (mk_30 cA α) rfl 0 (by decide) (hts _ (List.mem_of_getElem? (i := 1) rfl)) (fun _ h9 => h9) rfl rfl rfl rfl (Nat.le_of_ble_eq_true rfl) rfl dX11_deliver_2 (fun S1 eS1 H locs hw => ?_)
  refine lv_aload_n hx hb dX11_deliver_5 rfl (lv_at hl 0 rfl) ?_
  refine lv_iload_n hx hb dX11_deliver_6 rfl (lv_at hl 2 rfl) ?_
  refine lv_iload_n hx hb dX11_deliver_7 rfl (lv_at hl 1 rfl) ?_
  refine x_callVIr (q := 30) (C := RX11) (As := [.int x, .int y]) (rest := []) ⟨hx, hb, hml, hown, hts⟩ (ct_X11_isPlace l D cA α n _ hn S1 x y) (cwV 2 hts gX11_deliver_X11_isPlace rfl rfl rfl (by decide +kernel) ⟨Nat.le_of_ble_eq_true rfl, Nat.le_of_ble_eq_true rfl⟩) hK hw hAw (ws_recv hK hw (q := 30) (Nat.lt_of_lt_of_le (Nat.le_of_ble_eq_true rfl : 30 < 191) hn) (mk_30 cA α) rfl) rfl hl.1 rfl (Nat.le_of_ble_eq_true rfl) dX11_deliver_8 ⟨Nat.zero_le _, Nat.zero_le _⟩ (fun H locs hw => ?_)
  refine xb_eq (b := (isCoR S1 x && isPrR S1 y)) (tgt := 22) hx hb dX11_deliver_11 (by decide) (fun c1 => ?_) (fun c1 => ?_)
  · skip
    refine lv_aload_n hx hb dX11_deliver_22 rfl (lv_at hl 0 rfl) ?_
    refine lv_iconst (v := nI 1) hx hb dX11_deliver_23 (by decide) ?_
    refine x_callVI (q := 30) (C := RX11) (As := [.int (nI 1)]) (rest := []) ⟨hx, hb, hml, hown, hts⟩ (ct_X11_fail l D cA α n _ hn S1 (nI 1)) (cwV 1 hts gX11_deliver_X11_fail rfl rfl rfl (by decide +kernel) ⟨Nat.le_of_ble_eq_true rfl, Nat.le_of_ble_eq_true rfl⟩) hK hw hAw (ws_recv hK hw (q := 30) (Nat.lt_of_lt_of_le (Nat.le_of_ble_eq_true rfl : 30 < 191) hn) (mk_30 cA α) rfl) rfl hl.1 rfl (Nat.le_of_ble_eq_true rfl) dX11_deliver_24 ⟨Nat.zero_le _, Nat.zero_le _⟩ (fun S2 eS2 H locs hw => ?_)
    exact ret_i hx hb hr hlocks hK hw dX11_deliver_27 rfl (by subst_vars; rfl)
  · skip
    refine lv_aload_n hx hb dX11_deliver_14 rfl (lv_at hl 0 rfl) ?_
    refine lv_iload_n hx hb dX11_deliver_15 rfl (lv_at hl 3 rfl) ?_
    refine x_callVIr (q := 30) (C := RX11) (As := [.int u]) (rest := []) ⟨hx, hb, hml, hown, hts⟩ (ct_X11_isCompany l D cA α n _ hn S1 u) (cwV 1 hts gX11_deliver_X11_isCompany rfl rfl rfl (by decide +kernel) ⟨Nat.le_of_ble_eq_true rfl, Nat.le_of_ble_eq_true rfl⟩) hK hw hAw (ws_recv hK hw (q := 30) (Nat.lt_of_lt_of_le (Nat.le_of_ble_eq_true rfl : 30 < 191) hn) (mk_30 cA α) rfl) rfl hl.1 rfl (Nat.le_of_ble_eq_true rfl) dX11_deliver_16 ⟨Nat.zero_le _, Nat.zero_le _⟩ (fun H locs hw => ?_)
    refine xb_ne (b := (isCoR S1 u)) (tgt := 28) hx hb dX11_deliver_19 (by decide) (fun c2 => ?_) (fun c2 => ?_)
    · rcases hx9 with h | h; exact absurd (isPl_f (S := S1) (by subst eS1; exact hC) hC2 (by subst eS1; exact hP9) hP2 h) (by rw [c1]; decide); exact absurd (isCo_f (S := S1) (by subst eS1; exact hC) hC2 h) (by rw [c2]; decide)
    · skip
      refine lv_aload_n hx hb dX11_deliver_22 rfl (lv_at hl 0 rfl) ?_
      refine lv_iconst (v := nI 1) hx hb dX11_deliver_23 (by decide) ?_
      refine x_callVI (q := 30) (C := RX11) (As := [.int (nI 1)]) (rest := []) ⟨hx, hb, hml, hown, hts⟩ (ct_X11_fail l D cA α n _ hn S1 (nI 1)) (cwV 1 hts gX11_deliver_X11_fail rfl rfl rfl (by decide +kernel) ⟨Nat.le_of_ble_eq_true rfl, Nat.le_of_ble_eq_true rfl⟩) hK hw hAw (ws_recv hK hw (q := 30) (Nat.lt_of_lt_of_le (Nat.le_of_ble_eq_true rfl : 30 < 191) hn) (mk_30 cA α) rfl) rfl hl.1 rfl (Nat.le_of_ble_eq_true rfl) dX11_deliver_24 ⟨Nat.zero_le _, Nat.zero_le _⟩ (fun S3 eS3 H locs hw => ?_)
      exact ret_i hx hb hr hlocks hK hw dX11_deliver_27 rfl (by subst_vars; rfl)

set_option maxRecDepth 100000 in
set_option maxHeartbeats 1000000 in
theorem ct_X11_deliverY (l : Launch) (D : va_G) (cA : Nat → ClassId) (α : Nat → Nat) (n sz : Nat) (hn : 191 ≤ n) (S : Mem) (Cn : Nat) (hC : S.1 33 1 = nI Cn) (hC2 : Cn ≤ 6) (Pn : Nat) (hP9 : S.1 33 2 = nI Pn) (hP2 : Pn ≤ 6) (a b c0 : Nat) (ha : a < Cn) (hb0 : b < Pn) (hc0 : c0 < Cn) (q9 p9 : Int32) (hy9 : a = c0 ∨ S.1 33 (16 + b) = nI c0 ∨ (¬ ∃ i, 1 ≤ i ∧ i ≤ 999 ∧ q9 = nI i) ∨ ¬ ∃ i, 1 ≤ i ∧ i ≤ 99999 ∧ p9 = nI i) : CtI l yX11_deliver wsX11_deliver ({ frames := 4, cells := 0, slots := 0, locals := 92 }) D cA α n sz [.ref (α 30), .int (nI b), .int (nI a), .int (nI c0), .int q9, .int p9] S (nI 0) (setI (setI S 30 0 (nI 0)) 30 0 (nI 2)) := by
  refine ct_enter cX11_deliver 9 (some .int) (by decide) rfl (Nat.le_of_ble_eq_true rfl) ?_
  intro p e s m below meth c hx hb hr hml hlocks hown hts hK hsz hw ls hl
  have hown : s.vm.findClass RX11 = some m.cls := hown
  have hAw : ∀ z, Aw α n s.heap.size z → Aw α n sz z := by rw [hsz]; exact fun _ h => h
  have hl : lv_has ls 9 [(0, .ref (α 30)), (1, .int (nI b)), (2, .int (nI a)), (3, .int (nI c0)), (4, .int q9), (5, .int p9)] := hl
  refine lv_aload_n hx hb dX11_deliver_0 rfl (lv_at hl 0 rfl) ?_
  refine lv_iconst (v := nI 0) hx hb dX11_deliver_1 (by decide) ?_
  refine x_putI (x := nI 0) (ty := .int) (C := RX11) (T := TX11) (N := 24) hx hb hts (fun _ h => List.mem_cons_of_mem _ (List.mem_append_right _ h)) tyX11 tyX11_ok nmX11 hown hK hw 30 (Nat.lt_of_lt_of_le (Nat.le_of_ble_eq_true rfl : 30 < 191) hn) (mk_30 cA α) rfl 0 (by decide) (hts _ (List.mem_of_getElem? (i := 1) rfl)) (fun _ h9 => h9) rfl rfl rfl rfl (Nat.le_of_ble_eq_true rfl) rfl dX11_deliver_2 (fun S1 eS1 H locs hw => ?_)
  refine lv_aload_n hx hb dX11_deliver_5 rfl (lv_at hl 0 rfl) ?_
  refine lv_iload_n hx hb dX11_deliver_6 rfl (lv_at hl 2 rfl) ?_
  refine lv_iload_n hx hb dX11_deliver_7 rfl (lv_at hl 1 rfl) ?_
  refine x_callVIr (q := 30) (C := RX11) (As := [.int (nI a), .int (nI b)]) (rest := []) ⟨hx, hb, hml, hown, hts⟩ (ct_X11_isPlace l D cA α n _ hn S1 (nI a) (nI b)) (cwV 2 hts gX11_deliver_X11_isPlace rfl rfl rfl (by decide +kernel) ⟨Nat.le_of_ble_eq_true rfl, Nat.le_of_ble_eq_true rfl⟩) hK hw hAw (ws_recv hK hw (q := 30) (Nat.lt_of_lt_of_le (Nat.le_of_ble_eq_true rfl : 30 < 191) hn) (mk_30 cA α) rfl) rfl hl.1 rfl (Nat.le_of_ble_eq_true rfl) dX11_deliver_8 ⟨Nat.zero_le _, Nat.zero_le _⟩ (fun H locs hw => ?_)
  refine xb_eq (b := (isCoR S1 (nI a) && isPrR S1 (nI b))) (tgt := 22) hx hb dX11_deliver_11 (by decide) (fun c1 => ?_) (fun c1 => ?_)
  · exact absurd (isPl_t (S := S1) (by subst eS1; exact hC) hC2 (by subst eS1; exact hP9) hP2 ha hb0) (by rw [c1]; decide)
  · skip
    refine lv_aload_n hx hb dX11_deliver_14 rfl (lv_at hl 0 rfl) ?_
    refine lv_iload_n hx hb dX11_deliver_15 rfl (lv_at hl 3 rfl) ?_
    refine x_callVIr (q := 30) (C := RX11) (As := [.int (nI c0)]) (rest := []) ⟨hx, hb, hml, hown, hts⟩ (ct_X11_isCompany l D cA α n _ hn S1 (nI c0)) (cwV 1 hts gX11_deliver_X11_isCompany rfl rfl rfl (by decide +kernel) ⟨Nat.le_of_ble_eq_true rfl, Nat.le_of_ble_eq_true rfl⟩) hK hw hAw (ws_recv hK hw (q := 30) (Nat.lt_of_lt_of_le (Nat.le_of_ble_eq_true rfl : 30 < 191) hn) (mk_30 cA α) rfl) rfl hl.1 rfl (Nat.le_of_ble_eq_true rfl) dX11_deliver_16 ⟨Nat.zero_le _, Nat.zero_le _⟩ (fun H locs hw => ?_)
    refine xb_ne (b := (isCoR S1 (nI c0))) (tgt := 28) hx hb dX11_deliver_19 (by decide) (fun c2 => ?_) (fun c2 => ?_)
    · skip
      refine lv_iload_n hx hb dX11_deliver_28 rfl (lv_at hl 2 rfl) ?_
      refine lv_iload_n hx hb dX11_deliver_29 rfl (lv_at hl 3 rfl) ?_
      refine xn_icmp_eq (tgt := 72) hx hb (by omega) (by omega) dX11_deliver_30 (by decide) (fun c3 => ?_) (fun c3 => ?_)
      · skip
        refine lv_aload_n hx hb dX11_deliver_72 rfl (lv_at hl 0 rfl) ?_
        refine lv_iconst (v := nI 2) hx hb dX11_deliver_73 (by decide) ?_
        refine x_callVI (q := 30) (C := RX11) (As := [.int (nI 2)]) (rest := []) ⟨hx, hb, hml, hown, hts⟩ (ct_X11_fail l D cA α n _ hn S1 (nI 2)) (cwV 1 hts gX11_deliver_X11_fail rfl rfl rfl (by decide +kernel) ⟨Nat.le_of_ble_eq_true rfl, Nat.le_of_ble_eq_true rfl⟩) hK hw hAw (ws_recv hK hw (q := 30) (Nat.lt_of_lt_of_le (Nat.le_of_ble_eq_true rfl : 30 < 191) hn) (mk_30 cA α) rfl) rfl hl.1 rfl (Nat.le_of_ble_eq_true rfl) dX11_deliver_74 ⟨Nat.zero_le _, Nat.zero_le _⟩ (fun S2 eS2 H locs hw => ?_)
        exact ret_i hx hb hr hlocks hK hw dX11_deliver_77 rfl (by subst_vars; rfl)
      · skip
        refine lv_aload_n hx hb dX11_deliver_33 rfl (lv_at hl 0 rfl) ?_
        refine x_get (v := .ref (α 33)) (C := RX11) (T := TX11) (N := 24) hx hb hts (fun _ h => List.mem_cons_of_mem _ (List.mem_append_right _ h)) hown hK hw 30 (Nat.lt_of_lt_of_le (Nat.le_of_ble_eq_true rfl : 30 < 191) hn) (mk_30 cA α) rfl 11 (by decide) (hts _ (List.mem_of_getElem? (i := 2) rfl)) (fun _ h9 => h9) rfl dX11_deliver_34 ?_
        refine lv_bipush (v := nI 16) hx hb dX11_deliver_37 (by decide) ?_
        refine lv_iload_n hx hb dX11_deliver_39 rfl (lv_at hl 1 rfl) ?_
        refine xn_iadd hx hb dX11_deliver_40 ?_
        refine x_iald hx hb hK hw 33 40 (Nat.lt_of_lt_of_le (Nat.le_of_ble_eq_true rfl : 33 < 191) hn) (mk_33 cA α) (16 + b) rfl (by omega) (by decide) dX11_deliver_41 ?_
        refine lv_iload_n hx hb dX11_deliver_42 rfl (lv_at hl 3 rfl) ?_
        refine lv_icmp_eq (tgt := 72) hx hb dX11_deliver_43 (by decide) (fun c4 => ?_) (fun c4 => ?_)
        · skip
          refine lv_aload_n hx hb dX11_deliver_72 rfl (lv_at hl 0 rfl) ?_
          refine lv_iconst (v := nI 2) hx hb dX11_deliver_73 (by decide) ?_
          refine x_callVI (q := 30) (C := RX11) (As := [.int (nI 2)]) (rest := []) ⟨hx, hb, hml, hown, hts⟩ (ct_X11_fail l D cA α n _ hn S1 (nI 2)) (cwV 1 hts gX11_deliver_X11_fail rfl rfl rfl (by decide +kernel) ⟨Nat.le_of_ble_eq_true rfl, Nat.le_of_ble_eq_true rfl⟩) hK hw hAw (ws_recv hK hw (q := 30) (Nat.lt_of_lt_of_le (Nat.le_of_ble_eq_true rfl : 30 < 191) hn) (mk_30 cA α) rfl) rfl hl.1 rfl (Nat.le_of_ble_eq_true rfl) dX11_deliver_74 ⟨Nat.zero_le _, Nat.zero_le _⟩ (fun S3 eS3 H locs hw => ?_)
          exact ret_i hx hb hr hlocks hK hw dX11_deliver_77 rfl (by subst_vars; rfl)
        · skip
          refine lv_iload hx hb dX11_deliver_46 (lv_at hl 4 rfl) ?_
          refine lv_i2l hx hb dX11_deliver_48 rfl ?_
          refine lv_lconst (v := 1) hx hb dX11_deliver_49 (by decide) ?_
          refine lv_ldc2 (v := 999) hx hb hown (hts _ (List.mem_of_getElem? (i := 3) rfl)) dX11_deliver_50 ?_
          refine x_callSIr (q := 0) (C := RX0) (As := [.long (q9.toInt64), .long (1), .long (999)]) (rest := []) ⟨hx, hb, hml, hown, hts⟩ (ct_X11_within l D cA α n _ hn S1 (q9.toInt64) (1) (999)) (va_cwS 3 hts gX11_deliver_X11_within rfl rfl rfl (by decide +kernel) ⟨Nat.le_of_ble_eq_true rfl, Nat.le_of_ble_eq_true rfl⟩) hK hw hAw rfl hl.1 rfl (Nat.le_of_ble_eq_true rfl) dX11_deliver_53 ⟨Nat.zero_le _, Nat.zero_le _⟩ (fun H locs hw => ?_)
          refine xb_eq (b := (wiL (q9.toInt64) (1) (999))) (tgt := 72) hx hb dX11_deliver_56 (by decide) (fun c5 => ?_) (fun c5 => ?_)
          · skip
            refine lv_aload_n hx hb dX11_deliver_72 rfl (lv_at hl 0 rfl) ?_
            refine lv_iconst (v := nI 2) hx hb dX11_deliver_73 (by decide) ?_
            refine x_callVI (q := 30) (C := RX11) (As := [.int (nI 2)]) (rest := []) ⟨hx, hb, hml, hown, hts⟩ (ct_X11_fail l D cA α n _ hn S1 (nI 2)) (cwV 1 hts gX11_deliver_X11_fail rfl rfl rfl (by decide +kernel) ⟨Nat.le_of_ble_eq_true rfl, Nat.le_of_ble_eq_true rfl⟩) hK hw hAw (ws_recv hK hw (q := 30) (Nat.lt_of_lt_of_le (Nat.le_of_ble_eq_true rfl : 30 < 191) hn) (mk_30 cA α) rfl) rfl hl.1 rfl (Nat.le_of_ble_eq_true rfl) dX11_deliver_74 ⟨Nat.zero_le _, Nat.zero_le _⟩ (fun S4 eS4 H locs hw => ?_)
            exact ret_i hx hb hr hlocks hK hw dX11_deliver_77 rfl (by subst_vars; rfl)
          · skip
            refine lv_iload hx hb dX11_deliver_59 (lv_at hl 5 rfl) ?_
            refine lv_i2l hx hb dX11_deliver_61 rfl ?_
            refine lv_lconst (v := 1) hx hb dX11_deliver_62 (by decide) ?_
            refine lv_ldc2 (v := 99999) hx hb hown (hts _ (List.mem_of_getElem? (i := 4) rfl)) dX11_deliver_63 ?_
            refine x_callSIr (q := 0) (C := RX0) (As := [.long (p9.toInt64), .long (1), .long (99999)]) (rest := []) ⟨hx, hb, hml, hown, hts⟩ (ct_X11_within l D cA α n _ hn S1 (p9.toInt64) (1) (99999)) (va_cwS 3 hts gX11_deliver_X11_within rfl rfl rfl (by decide +kernel) ⟨Nat.le_of_ble_eq_true rfl, Nat.le_of_ble_eq_true rfl⟩) hK hw hAw rfl hl.1 rfl (Nat.le_of_ble_eq_true rfl) dX11_deliver_66 ⟨Nat.zero_le _, Nat.zero_le _⟩ (fun H locs hw => ?_)
            refine xb_ne (b := (wiL (p9.toInt64) (1) (99999))) (tgt := 78) hx hb dX11_deliver_69 (by decide) (fun c6 => ?_) (fun c6 => ?_)
            · rcases hy9 with h | h | h | h; exact absurd h c3; exact absurd (show S1.1 33 (16 + b) = nI c0 by subst eS1; exact h) c4; exact absurd (show wiL _ 1 999 = false from w2f (a := 1) (b := 999) h (by decide) (by decide)) (by rw [c5]; decide); exact absurd (show wiL _ 1 99999 = false from w2f (a := 1) (b := 99999) h (by decide) (by decide)) (by rw [c6]; decide)
            · skip
              refine lv_aload_n hx hb dX11_deliver_72 rfl (lv_at hl 0 rfl) ?_
              refine lv_iconst (v := nI 2) hx hb dX11_deliver_73 (by decide) ?_
              refine x_callVI (q := 30) (C := RX11) (As := [.int (nI 2)]) (rest := []) ⟨hx, hb, hml, hown, hts⟩ (ct_X11_fail l D cA α n _ hn S1 (nI 2)) (cwV 1 hts gX11_deliver_X11_fail rfl rfl rfl (by decide +kernel) ⟨Nat.le_of_ble_eq_true rfl, Nat.le_of_ble_eq_true rfl⟩) hK hw hAw (ws_recv hK hw (q := 30) (Nat.lt_of_lt_of_le (Nat.le_of_ble_eq_true rfl : 30 < 191) hn) (mk_30 cA α) rfl) rfl hl.1 rfl (Nat.le_of_ble_eq_true rfl) dX11_deliver_74 ⟨Nat.zero_le _, Nat.zero_le _⟩ (fun S5 eS5 H locs hw => ?_)
              exact ret_i hx hb hr hlocks hK hw dX11_deliver_77 rfl (by subst_vars; rfl)
    · exact absurd (isCo_t (S := S1) (by subst eS1; exact hC) hC2 hc0) (by rw [c2]; decide)

set_option maxRecDepth 100000 in
set_option maxHeartbeats 1000000 in
theorem ct_X11_deliverZ (l : Launch) (D : va_G) (cA : Nat → ClassId) (α : Nat → Nat) (n sz : Nat) (hn : 191 ≤ n) (S : Mem) (Cn : Nat) (hC : S.1 33 1 = nI Cn) (hC2 : Cn ≤ 6) (Pn : Nat) (hP9 : S.1 33 2 = nI Pn) (hP2 : Pn ≤ 6) (a b c0 : Nat) (ha : a < Cn) (hb0 : b < Pn) (hc0 : c0 < Cn) (hac : a ≠ c0) (hmk : ¬ S.1 33 (16 + b) = nI c0) (q9 p9 : Int32) (h1 : ∃ i, 1 ≤ i ∧ i ≤ 999 ∧ q9 = nI i) (h2 : ∃ i, 1 ≤ i ∧ i ≤ 99999 ∧ p9 = nI i) (L : Nat) (hL : S.1 34 1 = nI L) (hL2 : L ≤ 100) (M : Nat) (hM : S.1 34 2 = nI M) (hM2 : M ≤ 100) (hct : rCan2 S (nI a) b q9 L = false ∨ M = 100) : CtI l yX11_deliver wsX11_deliver ({ frames := 4, cells := 0, slots := 0, locals := 92 }) D cA α n sz [.ref (α 30), .int (nI b), .int (nI a), .int (nI c0), .int q9, .int p9] S (nI 0) (setI (setI S 30 0 (nI 0)) 30 0 (nI 3)) := by
  refine ct_enter cX11_deliver 9 (some .int) (by decide) rfl (Nat.le_of_ble_eq_true rfl) ?_
  intro p e s m below meth c hx hb hr hml hlocks hown hts hK hsz hw ls hl
  have hown : s.vm.findClass RX11 = some m.cls := hown
  have hAw : ∀ z, Aw α n s.heap.size z → Aw α n sz z := by rw [hsz]; exact fun _ h => h
  have hl : lv_has ls 9 [(0, .ref (α 30)), (1, .int (nI b)), (2, .int (nI a)), (3, .int (nI c0)), (4, .int q9), (5, .int p9)] := hl
  refine lv_aload_n hx hb dX11_deliver_0 rfl (lv_at hl 0 rfl) ?_
  refine lv_iconst (v := nI 0) hx hb dX11_deliver_1 (by decide) ?_
  refine x_putI (x := nI 0) (ty := .int) (C := RX11) (T := TX11) (N := 24) hx hb hts (fun _ h => List.mem_cons_of_mem _ (List.mem_append_right _ h)) tyX11 tyX11_ok nmX11 hown hK hw 30 (Nat.lt_of_lt_of_le (Nat.le_of_ble_eq_true rfl : 30 < 191) hn) (mk_30 cA α) rfl 0 (by decide) (hts _ (List.mem_of_getElem? (i := 1) rfl)) (fun _ h9 => h9) rfl rfl rfl rfl (Nat.le_of_ble_eq_true rfl) rfl dX11_deliver_2 (fun S1 eS1 H locs hw => ?_)
  refine lv_aload_n hx hb dX11_deliver_5 rfl (lv_at hl 0 rfl) ?_
  refine lv_iload_n hx hb dX11_deliver_6 rfl (lv_at hl 2 rfl) ?_
  refine lv_iload_n hx hb dX11_deliver_7 rfl (lv_at hl 1 rfl) ?_
  refine x_callVIr (q := 30) (C := RX11) (As := [.int (nI a), .int (nI b)]) (rest := []) ⟨hx, hb, hml, hown, hts⟩ (ct_X11_isPlace l D cA α n _ hn S1 (nI a) (nI b)) (cwV 2 hts gX11_deliver_X11_isPlace rfl rfl rfl (by decide +kernel) ⟨Nat.le_of_ble_eq_true rfl, Nat.le_of_ble_eq_true rfl⟩) hK hw hAw (ws_recv hK hw (q := 30) (Nat.lt_of_lt_of_le (Nat.le_of_ble_eq_true rfl : 30 < 191) hn) (mk_30 cA α) rfl) rfl hl.1 rfl (Nat.le_of_ble_eq_true rfl) dX11_deliver_8 ⟨Nat.zero_le _, Nat.zero_le _⟩ (fun H locs hw => ?_)
  refine xb_eq (b := (isCoR S1 (nI a) && isPrR S1 (nI b))) (tgt := 22) hx hb dX11_deliver_11 (by decide) (fun c1 => ?_) (fun c1 => ?_)
  · exact absurd (isPl_t (S := S1) (by subst eS1; exact hC) hC2 (by subst eS1; exact hP9) hP2 ha hb0) (by rw [c1]; decide)
  · skip
    refine lv_aload_n hx hb dX11_deliver_14 rfl (lv_at hl 0 rfl) ?_
    refine lv_iload_n hx hb dX11_deliver_15 rfl (lv_at hl 3 rfl) ?_
    refine x_callVIr (q := 30) (C := RX11) (As := [.int (nI c0)]) (rest := []) ⟨hx, hb, hml, hown, hts⟩ (ct_X11_isCompany l D cA α n _ hn S1 (nI c0)) (cwV 1 hts gX11_deliver_X11_isCompany rfl rfl rfl (by decide +kernel) ⟨Nat.le_of_ble_eq_true rfl, Nat.le_of_ble_eq_true rfl⟩) hK hw hAw (ws_recv hK hw (q := 30) (Nat.lt_of_lt_of_le (Nat.le_of_ble_eq_true rfl : 30 < 191) hn) (mk_30 cA α) rfl) rfl hl.1 rfl (Nat.le_of_ble_eq_true rfl) dX11_deliver_16 ⟨Nat.zero_le _, Nat.zero_le _⟩ (fun H locs hw => ?_)
    refine xb_ne (b := (isCoR S1 (nI c0))) (tgt := 28) hx hb dX11_deliver_19 (by decide) (fun c2 => ?_) (fun c2 => ?_)
    · skip
      refine lv_iload_n hx hb dX11_deliver_28 rfl (lv_at hl 2 rfl) ?_
      refine lv_iload_n hx hb dX11_deliver_29 rfl (lv_at hl 3 rfl) ?_
      refine xn_icmp_eq (tgt := 72) hx hb (by omega) (by omega) dX11_deliver_30 (by decide) (fun c3 => ?_) (fun c3 => ?_)
      · exact absurd c3 hac
      · skip
        refine lv_aload_n hx hb dX11_deliver_33 rfl (lv_at hl 0 rfl) ?_
        refine x_get (v := .ref (α 33)) (C := RX11) (T := TX11) (N := 24) hx hb hts (fun _ h => List.mem_cons_of_mem _ (List.mem_append_right _ h)) hown hK hw 30 (Nat.lt_of_lt_of_le (Nat.le_of_ble_eq_true rfl : 30 < 191) hn) (mk_30 cA α) rfl 11 (by decide) (hts _ (List.mem_of_getElem? (i := 2) rfl)) (fun _ h9 => h9) rfl dX11_deliver_34 ?_
        refine lv_bipush (v := nI 16) hx hb dX11_deliver_37 (by decide) ?_
        refine lv_iload_n hx hb dX11_deliver_39 rfl (lv_at hl 1 rfl) ?_
        refine xn_iadd hx hb dX11_deliver_40 ?_
        refine x_iald hx hb hK hw 33 40 (Nat.lt_of_lt_of_le (Nat.le_of_ble_eq_true rfl : 33 < 191) hn) (mk_33 cA α) (16 + b) rfl (by omega) (by decide) dX11_deliver_41 ?_
        refine lv_iload_n hx hb dX11_deliver_42 rfl (lv_at hl 3 rfl) ?_
        refine lv_icmp_eq (tgt := 72) hx hb dX11_deliver_43 (by decide) (fun c4 => ?_) (fun c4 => ?_)
        · exact absurd c4 (by subst eS1; exact hmk)
        · skip
          refine lv_iload hx hb dX11_deliver_46 (lv_at hl 4 rfl) ?_
          refine lv_i2l hx hb dX11_deliver_48 rfl ?_
          refine lv_lconst (v := 1) hx hb dX11_deliver_49 (by decide) ?_
          refine lv_ldc2 (v := 999) hx hb hown (hts _ (List.mem_of_getElem? (i := 3) rfl)) dX11_deliver_50 ?_
          refine x_callSIr (q := 0) (C := RX0) (As := [.long (q9.toInt64), .long (1), .long (999)]) (rest := []) ⟨hx, hb, hml, hown, hts⟩ (ct_X11_within l D cA α n _ hn S1 (q9.toInt64) (1) (999)) (va_cwS 3 hts gX11_deliver_X11_within rfl rfl rfl (by decide +kernel) ⟨Nat.le_of_ble_eq_true rfl, Nat.le_of_ble_eq_true rfl⟩) hK hw hAw rfl hl.1 rfl (Nat.le_of_ble_eq_true rfl) dX11_deliver_53 ⟨Nat.zero_le _, Nat.zero_le _⟩ (fun H locs hw => ?_)
          refine xb_eq (b := (wiL (q9.toInt64) (1) (999))) (tgt := 72) hx hb dX11_deliver_56 (by decide) (fun c5 => ?_) (fun c5 => ?_)
          · exact absurd (show wiL _ 1 999 = true from (wi2_iff (a := 1) (b := 999) (by decide) (by decide)).mpr h1) (by rw [c5]; decide)
          · skip
            refine lv_iload hx hb dX11_deliver_59 (lv_at hl 5 rfl) ?_
            refine lv_i2l hx hb dX11_deliver_61 rfl ?_
            refine lv_lconst (v := 1) hx hb dX11_deliver_62 (by decide) ?_
            refine lv_ldc2 (v := 99999) hx hb hown (hts _ (List.mem_of_getElem? (i := 4) rfl)) dX11_deliver_63 ?_
            refine x_callSIr (q := 0) (C := RX0) (As := [.long (p9.toInt64), .long (1), .long (99999)]) (rest := []) ⟨hx, hb, hml, hown, hts⟩ (ct_X11_within l D cA α n _ hn S1 (p9.toInt64) (1) (99999)) (va_cwS 3 hts gX11_deliver_X11_within rfl rfl rfl (by decide +kernel) ⟨Nat.le_of_ble_eq_true rfl, Nat.le_of_ble_eq_true rfl⟩) hK hw hAw rfl hl.1 rfl (Nat.le_of_ble_eq_true rfl) dX11_deliver_66 ⟨Nat.zero_le _, Nat.zero_le _⟩ (fun H locs hw => ?_)
            refine xb_ne (b := (wiL (p9.toInt64) (1) (99999))) (tgt := 78) hx hb dX11_deliver_69 (by decide) (fun c6 => ?_) (fun c6 => ?_)
            · skip
              refine lv_aload_n hx hb dX11_deliver_78 rfl (lv_at hl 0 rfl) ?_
              refine lv_iload_n hx hb dX11_deliver_79 rfl (lv_at hl 2 rfl) ?_
              refine lv_iload_n hx hb dX11_deliver_80 rfl (lv_at hl 1 rfl) ?_
              refine lv_iload hx hb dX11_deliver_81 (lv_at hl 4 rfl) ?_
              refine x_callVIr (q := 30) (C := RX11) (As := [.int (nI a), .int (nI b), .int q9]) (rest := []) ⟨hx, hb, hml, hown, hts⟩ (ct_X11_canTake l D cA α n _ hn S1 (nI a) b q9 (by omega) L (by subst eS1; exact hL) hL2) (cwV 3 hts gX11_deliver_X11_canTake rfl rfl rfl (by decide +kernel) ⟨Nat.le_of_ble_eq_true rfl, Nat.le_of_ble_eq_true rfl⟩) hK hw hAw (ws_recv hK hw (q := 30) (Nat.lt_of_lt_of_le (Nat.le_of_ble_eq_true rfl : 30 < 191) hn) (mk_30 cA α) rfl) rfl hl.1 rfl (Nat.le_of_ble_eq_true rfl) dX11_deliver_83 ⟨Nat.zero_le _, Nat.zero_le _⟩ (fun H locs hw => ?_)
              refine xb_eq (b := (decide (S1.1 33 (16 + b) = (nI a)) || !decide (sumI (rStk S1 (nI a) (nI b)) L < q9))) (tgt := 100) hx hb dX11_deliver_86 (by decide) (fun c7 => ?_) (fun c7 => ?_)
              · skip
                refine lv_aload_n hx hb dX11_deliver_100 rfl (lv_at hl 0 rfl) ?_
                refine lv_iconst (v := nI 3) hx hb dX11_deliver_101 (by decide) ?_
                refine x_callVI (q := 30) (C := RX11) (As := [.int (nI 3)]) (rest := []) ⟨hx, hb, hml, hown, hts⟩ (ct_X11_fail l D cA α n _ hn S1 (nI 3)) (cwV 1 hts gX11_deliver_X11_fail rfl rfl rfl (by decide +kernel) ⟨Nat.le_of_ble_eq_true rfl, Nat.le_of_ble_eq_true rfl⟩) hK hw hAw (ws_recv hK hw (q := 30) (Nat.lt_of_lt_of_le (Nat.le_of_ble_eq_true rfl : 30 < 191) hn) (mk_30 cA α) rfl) rfl hl.1 rfl (Nat.le_of_ble_eq_true rfl) dX11_deliver_102 ⟨Nat.zero_le _, Nat.zero_le _⟩ (fun S2 eS2 H locs hw => ?_)
                exact ret_i hx hb hr hlocks hK hw dX11_deliver_105 rfl (by subst_vars; rfl)
              · skip
                refine lv_aload_n hx hb dX11_deliver_89 rfl (lv_at hl 0 rfl) ?_
                refine x_get (v := .ref (α 34)) (C := RX11) (T := TX11) (N := 24) hx hb hts (fun _ h => List.mem_cons_of_mem _ (List.mem_append_right _ h)) hown hK hw 30 (Nat.lt_of_lt_of_le (Nat.le_of_ble_eq_true rfl : 30 < 191) hn) (mk_30 cA α) rfl 13 (by decide) (hts _ (List.mem_of_getElem? (i := 5) rfl)) (fun _ h9 => h9) rfl dX11_deliver_90 ?_
                refine lv_iconst (v := nI 2) hx hb dX11_deliver_93 (by decide) ?_
                refine x_iald hx hb hK hw 34 1508 (Nat.lt_of_lt_of_le (Nat.le_of_ble_eq_true rfl : 34 < 191) hn) (mk_34 cA α) 2 rfl (by decide) (by decide) dX11_deliver_94 ?_
                refine x_topN (k := M) (by subst eS1; exact hM) ?_
                refine lv_bipush (v := nI 100) hx hb dX11_deliver_95 (by decide) ?_
                refine xn_icmp_ne (tgt := 106) hx hb (by omega) (by decide) dX11_deliver_97 (by decide) (fun c8 => ?_) (fun c8 => ?_)
                · rcases hct with h | h; exact absurd h (by rw [show rCan2 S (nI a) b q9 L = true from (by rw [← rCan2_30 S (nI 0), ← eS1]; exact c7)]; decide); exact absurd h c8
                · skip
                  refine lv_aload_n hx hb dX11_deliver_100 rfl (lv_at hl 0 rfl) ?_
                  refine lv_iconst (v := nI 3) hx hb dX11_deliver_101 (by decide) ?_
                  refine x_callVI (q := 30) (C := RX11) (As := [.int (nI 3)]) (rest := []) ⟨hx, hb, hml, hown, hts⟩ (ct_X11_fail l D cA α n _ hn S1 (nI 3)) (cwV 1 hts gX11_deliver_X11_fail rfl rfl rfl (by decide +kernel) ⟨Nat.le_of_ble_eq_true rfl, Nat.le_of_ble_eq_true rfl⟩) hK hw hAw (ws_recv hK hw (q := 30) (Nat.lt_of_lt_of_le (Nat.le_of_ble_eq_true rfl : 30 < 191) hn) (mk_30 cA α) rfl) rfl hl.1 rfl (Nat.le_of_ble_eq_true rfl) dX11_deliver_102 ⟨Nat.zero_le _, Nat.zero_le _⟩ (fun S3 eS3 H locs hw => ?_)
                  exact ret_i hx hb hr hlocks hK hw dX11_deliver_105 rfl (by subst_vars; rfl)
            · exact absurd (show wiL _ 1 99999 = true from (wi2_iff (a := 1) (b := 99999) (by decide) (by decide)).mpr h2) (by rw [c6]; decide)
    · exact absurd (isCo_t (S := S1) (by subst eS1; exact hC) hC2 hc0) (by rw [c2]; decide)

/-- the profit left behind k lots, and what is still to be taken -/
def rUA (S : Mem) (a b q : Int32) (v : Int64) : Nat → Int64 × Int32
  | 0 => (v, q)
  | k + 1 => if (rUA S a b q v k).2 ≤ 0 then rUA S a b q v k else if rLot S k a b then ((rUA S a b q v k).1 - (if (rUA S a b q v k).2 ≤ S.1 34 (608 + 4 * k + 2) then (rUA S a b q v k).2 else S.1 34 (608 + 4 * k + 2)).toInt64 * rPer S k, (rUA S a b q v k).2 - (if (rUA S a b q v k).2 ≤ S.1 34 (608 + 4 * k + 2) then (rUA S a b q v k).2 else S.1 34 (608 + 4 * k + 2))) else rUA S a b q v k
theorem rUA_stop (S : Mem) (a b q : Int32) (v : Int64) {k : Nat} (h : (rUA S a b q v k).2 ≤ 0) : ∀ m, rUA S a b q v (k + m) = rUA S a b q v k
  | 0 => rfl
  | m + 1 => by
    have ih := rUA_stop S a b q v h m
    show rUA S a b q v ((k + m) + 1) = _
    rw [rUA, ih, if_pos h]

set_option maxRecDepth 100000 in
set_option maxHeartbeats 1000000 in
theorem ct_X11_unrealizedAfterSale (l : Launch) (D : va_G) (cA : Nat → ClassId) (α : Nat → Nat) (n sz : Nat) (hn : 191 ≤ n) (S : Mem) (Cn : Nat) (hC : S.1 33 1 = nI Cn) (hC2 : Cn ≤ 6) (Pn : Nat) (hP9 : S.1 33 2 = nI Pn) (hP2 : Pn ≤ 6) (a b : Nat) (ha : a < Cn) (hb0 : b < Pn) (q9 : Int32) (h1 : ∃ i, 0 ≤ i ∧ i ≤ 9999 ∧ q9 = nI i) (L : Nat) (hL : S.1 34 1 = nI L) (hL2 : L ≤ 100) (hlo : ∀ j, j < L → okI (S.1 34 (608 + 4 * j + 1)) 6) (hct : rCan2 S (nI a) b q9 L = true) : CtL l yX11_unrealizedAfterSale wsX11_unrealizedAfterSale ({ frames := 4, cells := 0, slots := 0, locals := 92 }) D cA α n sz [.ref (α 30), .int (nI a), .int (nI b), .int q9] S ((rUA S (nI a) (nI b) q9 (sumL (gPro S (nI a)) L) L).1) (setI S 30 0 (nI 0)) := by
  refine ct_enter cX11_unrealizedAfterSale 9 (some .long) (by decide) rfl (Nat.le_of_ble_eq_true rfl) ?_
  intro p e s m below meth c hx hb hr hml hlocks hown hts hK hsz hw ls hl
  have hown : s.vm.findClass RX11 = some m.cls := hown
  have hAw : ∀ z, Aw α n s.heap.size z → Aw α n sz z := by rw [hsz]; exact fun _ h => h
  have hl : lv_has ls 9 [(0, .ref (α 30)), (1, .int (nI a)), (2, .int (nI b)), (3, .int q9)] := hl
  refine lv_aload_n hx hb dX11_unrealizedAfterSale_0 rfl (lv_at hl 0 rfl) ?_
  refine lv_aload_n hx hb dX11_unrealizedAfterSale_1 rfl (lv_at hl 0 rfl) ?_
  refine lv_iload_n hx hb dX11_unrealizedAfterSale_2 rfl (lv_at hl 1 rfl) ?_
  refine lv_iload_n hx hb dX11_unrealizedAfterSale_3 rfl (lv_at hl 2 rfl) ?_
  refine x_callVIr (q := 30) (C := RX11) (As := [.int (nI a), .int (nI b)]) (rest := [.ref (α 30)]) ⟨hx, hb, hml, hown, hts⟩ (ct_X11_isPlace l D cA α n _ hn S (nI a) (nI b)) (cwV 2 hts gX11_unrealizedAfterSale_X11_isPlace rfl rfl rfl (by decide +kernel) ⟨Nat.le_of_ble_eq_true rfl, Nat.le_of_ble_eq_true rfl⟩) hK hw hAw (ws_recv hK hw (q := 30) (Nat.lt_of_lt_of_le (Nat.le_of_ble_eq_true rfl : 30 < 191) hn) (mk_30 cA α) rfl) rfl hl.1 rfl (Nat.le_of_ble_eq_true rfl) dX11_unrealizedAfterSale_4 ⟨Nat.zero_le _, Nat.zero_le _⟩ (fun H locs hw => ?_)
  refine xb_ne (b := (isCoR S (nI a) && isPrR S (nI b))) (tgt := 14) hx hb dX11_unrealizedAfterSale_7 (by decide) (fun c1 => ?_) (fun c1 => ?_)
  · skip
    refine lv_iload_n hx hb dX11_unrealizedAfterSale_14 rfl (lv_at hl 3 rfl) ?_
    refine lv_i2l hx hb dX11_unrealizedAfterSale_15 rfl ?_
    refine lv_lconst (v := 0) hx hb dX11_unrealizedAfterSale_16 (by decide) ?_
    refine lv_ldc2 (v := 9999) hx hb hown (hts _ (List.mem_of_getElem? (i := 1) rfl)) dX11_unrealizedAfterSale_17 ?_
    refine x_callSIr (q := 0) (C := RX0) (As := [.long (q9.toInt64), .long (0), .long (9999)]) (rest := [.ref (α 30)]) ⟨hx, hb, hml, hown, hts⟩ (ct_X11_within l D cA α n _ hn S (q9.toInt64) (0) (9999)) (va_cwS 3 hts gX11_unrealizedAfterSale_X11_within rfl rfl rfl (by decide +kernel) ⟨Nat.le_of_ble_eq_true rfl, Nat.le_of_ble_eq_true rfl⟩) hK hw hAw rfl hl.1 rfl (Nat.le_of_ble_eq_true rfl) dX11_unrealizedAfterSale_20 ⟨Nat.zero_le _, Nat.zero_le _⟩ (fun H locs hw => ?_)
    refine xb_ne (b := (wiL (q9.toInt64) (0) (9999))) (tgt := 30) hx hb dX11_unrealizedAfterSale_23 (by decide) (fun c2 => ?_) (fun c2 => ?_)
    · skip
      refine lv_aload_n hx hb dX11_unrealizedAfterSale_30 rfl (lv_at hl 0 rfl) ?_
      refine lv_iload_n hx hb dX11_unrealizedAfterSale_31 rfl (lv_at hl 1 rfl) ?_
      refine lv_iload_n hx hb dX11_unrealizedAfterSale_32 rfl (lv_at hl 2 rfl) ?_
      refine lv_iload_n hx hb dX11_unrealizedAfterSale_33 rfl (lv_at hl 3 rfl) ?_
      refine x_callVIr (q := 30) (C := RX11) (As := [.int (nI a), .int (nI b), .int q9]) (rest := [.ref (α 30)]) ⟨hx, hb, hml, hown, hts⟩ (ct_X11_canTake l D cA α n _ hn S (nI a) b q9 (by omega) L (by skip; exact hL) hL2) (cwV 3 hts gX11_unrealizedAfterSale_X11_canTake rfl rfl rfl (by decide +kernel) ⟨Nat.le_of_ble_eq_true rfl, Nat.le_of_ble_eq_true rfl⟩) hK hw hAw (ws_recv hK hw (q := 30) (Nat.lt_of_lt_of_le (Nat.le_of_ble_eq_true rfl : 30 < 191) hn) (mk_30 cA α) rfl) rfl hl.1 rfl (Nat.le_of_ble_eq_true rfl) dX11_unrealizedAfterSale_34 ⟨Nat.zero_le _, Nat.zero_le _⟩ (fun H locs hw => ?_)
      refine xb_ne (b := (decide (S.1 33 (16 + b) = (nI a)) || !decide (sumI (rStk S (nI a) (nI b)) L < q9))) (tgt := 44) hx hb dX11_unrealizedAfterSale_37 (by decide) (fun c3 => ?_) (fun c3 => ?_)
      · skip
        refine lv_iconst (v := nI 0) hx hb dX11_unrealizedAfterSale_44 (by decide) ?_
        refine x_putI (x := nI 0) (ty := .int) (C := RX11) (T := TX11) (N := 24) hx hb hts (fun _ h => List.mem_cons_of_mem _ (List.mem_append_right _ h)) tyX11 tyX11_ok nmX11 hown hK hw 30 (Nat.lt_of_lt_of_le (Nat.le_of_ble_eq_true rfl : 30 < 191) hn) (mk_30 cA α) rfl 0 (by decide) (hts _ (List.mem_of_getElem? (i := 2) rfl)) (fun _ h9 => h9) rfl rfl rfl rfl (Nat.le_of_ble_eq_true rfl) rfl dX11_unrealizedAfterSale_45 (fun S1 eS1 H locs hw => ?_)
        refine lv_aload_n hx hb dX11_unrealizedAfterSale_48 rfl (lv_at hl 0 rfl) ?_
        refine x_get (v := .int (S1.1 30 0)) (C := RX11) (T := TX11) (N := 24) hx hb hts (fun _ h => List.mem_cons_of_mem _ (List.mem_append_right _ h)) hown hK hw 30 (Nat.lt_of_lt_of_le (Nat.le_of_ble_eq_true rfl : 30 < 191) hn) (mk_30 cA α) rfl 0 (by decide) (hts _ (List.mem_of_getElem? (i := 2) rfl)) (fun _ h9 => h9) rfl dX11_unrealizedAfterSale_49 ?_
        refine x_topN (k := 0) (by subst eS1; simp [sI_e, upd]) ?_
        refine lv_if_le (tgt := 57) hx hb dX11_unrealizedAfterSale_52 (by decide) (fun c4 => ?_) (fun c4 => ?_)
        · skip
          refine lv_aload_n hx hb dX11_unrealizedAfterSale_57 rfl (lv_at hl 0 rfl) ?_
          refine lv_iload_n hx hb dX11_unrealizedAfterSale_58 rfl (lv_at hl 1 rfl) ?_
          refine x_callVLr (q := 30) (C := RX11) (As := [.int (nI a)]) (rest := []) ⟨hx, hb, hml, hown, hts⟩ (ct_X11_profitOf l D cA α n _ hn S1 (nI a) L (by subst eS1; exact hL) hL2 (by subst eS1; exact hlo)) (cwV 1 hts gX11_unrealizedAfterSale_X11_profitOf rfl rfl rfl (by decide +kernel) ⟨Nat.le_of_ble_eq_true rfl, Nat.le_of_ble_eq_true rfl⟩) hK hw hAw (ws_recv hK hw (q := 30) (Nat.lt_of_lt_of_le (Nat.le_of_ble_eq_true rfl : 30 < 191) hn) (mk_30 cA α) rfl) rfl hl.1 rfl (Nat.le_of_ble_eq_true rfl) dX11_unrealizedAfterSale_59 ⟨Nat.zero_le _, Nat.zero_le _⟩ (fun H locs hw => ?_)
          refine x_topEL (y := sumL (gPro S (nI a)) L) (by rw [eS1, gPro_30]) ?_
          refine lv_lstore (lv' := [(4, .long (sumL (gPro S (nI a)) L)), (0, .ref (α 30)), (1, .int (nI a)), (2, .int (nI b)), (3, .int q9)]) hx hb dX11_unrealizedAfterSale_62 hl (by decide) rfl (fun ls hl => ?_)
          refine lv_iload_n hx hb dX11_unrealizedAfterSale_64 rfl (lv_at hl 4 rfl) ?_
          refine lv_istore (lv' := [(6, .int q9), (4, .long (sumL (gPro S (nI a)) L)), (0, .ref (α 30)), (1, .int (nI a)), (2, .int (nI b)), (3, .int q9)]) hx hb dX11_unrealizedAfterSale_65 hl (by decide) rfl (fun ls hl => ?_)
          refine lv_iconst (v := nI 0) hx hb dX11_unrealizedAfterSale_67 (by decide) ?_
          refine lv_istore (lv' := [(7, .int (nI 0)), (6, .int q9), (4, .long (sumL (gPro S (nI a)) L)), (0, .ref (α 30)), (1, .int (nI a)), (2, .int (nI b)), (3, .int q9)]) hx hb dX11_unrealizedAfterSale_68 hl (by decide) rfl (fun ls hl => ?_)
          have lp70 : ∀ (t : Nat) (k : Nat) (left : Int32) (acc : Int64) (H : Heap) (locs : List Loc) (ls : Array Slot), L - k < t → k ≤ L → left = (rUA S (nI a) (nI b) q9 (sumL (gPro S (nI a)) L) k).2 → acc = (rUA S (nI a) (nI b) q9 (sumL (gPro S (nI a)) L) k).1 → Ws D cA α n (Aw α n sz) s.heap S1 H locs → lv_has ls 9 [(0, .ref (α 30)), (1, .int (nI a)), (2, .int (nI b)), (3, .int q9), (7, .int (nI k)), (6, .int left), (4, .long acc)] → W p l e ({ frames := 4, cells := 0, slots := 0, locals := 92 } : Room) s m (List.toArray ([.ref (α 30), .int (nI a), .int (nI b), .int q9] : List Value)) below meth c H locs 0 0 (MQ below (va_Ql (fun r u => r = ((rUA S (nI a) (nI b) q9 (sumL (gPro S (nI a)) L) L).1) ∧ u = (setI S 30 0 (nI 0))) (Pw D cA α n) (Aw α n sz)) (List.toArray ([.ref (α 30), .int (nI a), .int (nI b), .int q9] : List Value)) s 0 0 (Aw α n sz)) (F0 m 70 ls []) := by
            intro t
            induction t with
            | zero => intro k left acc H locs ls ht; exact absurd ht (Nat.not_lt_zero _)
            | succ t ih70 =>
              intro k left acc H locs ls ht hj hl9 hk hw hl
              refine lv_iload hx hb dX11_unrealizedAfterSale_70 (lv_at hl 4 rfl) ?_
              refine lv_aload_n hx hb dX11_unrealizedAfterSale_72 rfl (lv_at hl 0 rfl) ?_
              refine x_get (v := .ref (α 34)) (C := RX11) (T := TX11) (N := 24) hx hb hts (fun _ h => List.mem_cons_of_mem _ (List.mem_append_right _ h)) hown hK hw 30 (Nat.lt_of_lt_of_le (Nat.le_of_ble_eq_true rfl : 30 < 191) hn) (mk_30 cA α) rfl 13 (by decide) (hts _ (List.mem_of_getElem? (i := 3) rfl)) (fun _ h9 => h9) rfl dX11_unrealizedAfterSale_73 ?_
              refine lv_iconst (v := nI 1) hx hb dX11_unrealizedAfterSale_76 (by decide) ?_
              refine x_iald hx hb hK hw 34 1508 (Nat.lt_of_lt_of_le (Nat.le_of_ble_eq_true rfl : 34 < 191) hn) (mk_34 cA α) 1 rfl (by decide) (by decide) dX11_unrealizedAfterSale_77 ?_
              refine x_topN (k := L) (by subst eS1; exact hL) ?_
              refine xn_icmp_ge (tgt := 154) hx hb (by omega) (by omega) dX11_unrealizedAfterSale_78 (by decide) (fun c5 => ?_) (fun c5 => ?_)
              · skip
                refine lv_lload hx hb dX11_unrealizedAfterSale_154 (lv_at hl 6 rfl) ?_
                exact ret_l hx hb hr hlocks hK hw dX11_unrealizedAfterSale_156 (by rw [hk]; first | rw [show k = L by omega] | (have q := rUA_stop S (nI a) (nI b) q9 (sumL (gPro S (nI a)) L) (k := k) (by rw [← hl9]; exact c5) (L - k); rw [show k + (L - k) = L by omega] at q; rw [q])) (by subst_vars; rfl)
              · skip
                refine lv_iload hx hb dX11_unrealizedAfterSale_81 (lv_at hl 5 rfl) ?_
                refine lv_if_le (tgt := 154) hx hb dX11_unrealizedAfterSale_83 (by decide) (fun c6 => ?_) (fun c6 => ?_)
                · skip
                  refine lv_lload hx hb dX11_unrealizedAfterSale_154 (lv_at hl 6 rfl) ?_
                  exact ret_l hx hb hr hlocks hK hw dX11_unrealizedAfterSale_156 (by rw [hk]; first | rw [show k = L by omega] | (have q := rUA_stop S (nI a) (nI b) q9 (sumL (gPro S (nI a)) L) (k := k) (by rw [← hl9]; exact c6) (L - k); rw [show k + (L - k) = L by omega] at q; rw [q])) (by subst_vars; rfl)
                · skip
                  refine lv_aload_n hx hb dX11_unrealizedAfterSale_86 rfl (lv_at hl 0 rfl) ?_
                  refine lv_iload hx hb dX11_unrealizedAfterSale_87 (lv_at hl 4 rfl) ?_
                  refine lv_iload_n hx hb dX11_unrealizedAfterSale_89 rfl (lv_at hl 1 rfl) ?_
                  refine lv_iload_n hx hb dX11_unrealizedAfterSale_90 rfl (lv_at hl 2 rfl) ?_
                  refine x_callVIr (q := 30) (C := RX11) (As := [.int (nI k), .int (nI a), .int (nI b)]) (rest := []) ⟨hx, hb, hml, hown, hts⟩ (ct_X11_isLotOf l D cA α n _ hn S1 k (nI a) (nI b) (by omega)) (cwV 3 hts gX11_unrealizedAfterSale_X11_isLotOf rfl rfl rfl (by decide +kernel) ⟨Nat.le_of_ble_eq_true rfl, Nat.le_of_ble_eq_true rfl⟩) hK hw hAw (ws_recv hK hw (q := 30) (Nat.lt_of_lt_of_le (Nat.le_of_ble_eq_true rfl : 30 < 191) hn) (mk_30 cA α) rfl) rfl hl.1 rfl (Nat.le_of_ble_eq_true rfl) dX11_unrealizedAfterSale_91 ⟨Nat.zero_le _, Nat.zero_le _⟩ (fun H locs hw => ?_)
                  refine x_topE (y := b2i (rLot S k (nI a) (nI b))) (by rw [eS1, rLot_30]) ?_
                  refine xb_ne (b := (rLot S k (nI a) (nI b))) (tgt := 100) hx hb dX11_unrealizedAfterSale_94 (by decide) (fun c7 => ?_) (fun c7 => ?_)
                  · skip
                    refine lv_aload_n hx hb dX11_unrealizedAfterSale_100 rfl (lv_at hl 0 rfl) ?_
                    refine lv_iload hx hb dX11_unrealizedAfterSale_101 (lv_at hl 4 rfl) ?_
                    refine lv_iconst (v := nI 2) hx hb dX11_unrealizedAfterSale_103 (by decide) ?_
                    refine x_callVIr (q := 30) (C := RX11) (As := [.int (nI k), .int (nI 2)]) (rest := []) ⟨hx, hb, hml, hown, hts⟩ (ct_X11_lot l D cA α n _ hn S1 k 2 (by omega)) (cwV 2 hts gX11_unrealizedAfterSale_X11_lot rfl rfl rfl (by decide +kernel) ⟨Nat.le_of_ble_eq_true rfl, Nat.le_of_ble_eq_true rfl⟩) hK hw hAw (ws_recv hK hw (q := 30) (Nat.lt_of_lt_of_le (Nat.le_of_ble_eq_true rfl : 30 < 191) hn) (mk_30 cA α) rfl) rfl hl.1 rfl (Nat.le_of_ble_eq_true rfl) dX11_unrealizedAfterSale_104 ⟨Nat.zero_le _, Nat.zero_le _⟩ (fun H locs hw => ?_)
                    refine x_topE (y := S.1 34 (608 + 4 * k + 2)) (by subst_vars; rfl) ?_
                    refine lv_iload hx hb dX11_unrealizedAfterSale_107 (lv_at hl 5 rfl) ?_
                    refine lv_icmp_ge (tgt := 122) hx hb dX11_unrealizedAfterSale_109 (by decide) (fun c8 => ?_) (fun c8 => ?_)
                    · skip
                      refine lv_iload hx hb dX11_unrealizedAfterSale_122 (lv_at hl 5 rfl) ?_
                      refine lv_istore (lv' := [(8, .int left), (0, .ref (α 30)), (1, .int (nI a)), (2, .int (nI b)), (3, .int q9), (7, .int (nI k)), (6, .int left), (4, .long acc)]) hx hb dX11_unrealizedAfterSale_124 hl (by decide) rfl (fun ls hl => ?_)
                      refine lv_lload hx hb dX11_unrealizedAfterSale_126 (lv_at hl 7 rfl) ?_
                      refine lv_iload hx hb dX11_unrealizedAfterSale_128 (lv_at hl 0 rfl) ?_
                      refine lv_i2l hx hb dX11_unrealizedAfterSale_130 rfl ?_
                      refine lv_aload_n hx hb dX11_unrealizedAfterSale_131 rfl (lv_at hl 1 rfl) ?_
                      refine lv_iload hx hb dX11_unrealizedAfterSale_132 (lv_at hl 5 rfl) ?_
                      refine x_callVLr (q := 30) (C := RX11) (As := [.int (nI k)]) (rest := [.long left.toInt64, .long acc]) ⟨hx, hb, hml, hown, hts⟩ (ct_X11_profitPer l D cA α n _ hn S1 k (by omega) (by subst eS1; exact hlo k (by omega))) (cwV 1 hts gX11_unrealizedAfterSale_X11_profitPer rfl rfl rfl (by decide +kernel) ⟨Nat.le_of_ble_eq_true rfl, Nat.le_of_ble_eq_true rfl⟩) hK hw hAw (ws_recv hK hw (q := 30) (Nat.lt_of_lt_of_le (Nat.le_of_ble_eq_true rfl : 30 < 191) hn) (mk_30 cA α) rfl) rfl hl.1 rfl (Nat.le_of_ble_eq_true rfl) dX11_unrealizedAfterSale_134 ⟨Nat.zero_le _, Nat.zero_le _⟩ (fun H locs hw => ?_)
                      refine x_topEL (y := rPer S k) (by rw [eS1, rPer_30]) ?_
                      refine lv_lmul hx hb dX11_unrealizedAfterSale_137 ?_
                      refine lv_lsub hx hb dX11_unrealizedAfterSale_138 ?_
                      refine lv_lstore (lv' := [(4, .long (acc - (left.toInt64 * (rPer S k)))), (8, .int left), (0, .ref (α 30)), (1, .int (nI a)), (2, .int (nI b)), (3, .int q9), (7, .int (nI k)), (6, .int left)]) hx hb dX11_unrealizedAfterSale_139 hl (by decide) rfl (fun ls hl => ?_)
                      refine lv_iload hx hb dX11_unrealizedAfterSale_141 (lv_at hl 7 rfl) ?_
                      refine lv_iload hx hb dX11_unrealizedAfterSale_143 (lv_at hl 1 rfl) ?_
                      refine lv_isub hx hb dX11_unrealizedAfterSale_145 ?_
                      refine lv_istore (lv' := [(6, .int (left - left)), (4, .long (acc - (left.toInt64 * (rPer S k)))), (8, .int left), (0, .ref (α 30)), (1, .int (nI a)), (2, .int (nI b)), (3, .int q9), (7, .int (nI k))]) hx hb dX11_unrealizedAfterSale_146 hl (by decide) rfl (fun ls hl => ?_)
                      refine lv_iinc (v := nI (k + 1)) (lv' := [(7, .int (nI (k + 1))), (6, .int (left - left)), (4, .long (acc - (left.toInt64 * (rPer S k)))), (8, .int left), (0, .ref (α 30)), (1, .int (nI a)), (2, .int (nI b)), (3, .int q9)]) hx hb dX11_unrealizedAfterSale_148 hl (k := 7) rfl (nI_1 _) (by decide) rfl (fun ls hl => ?_)
                      refine lv_goto (tgt := 70) hx hb dX11_unrealizedAfterSale_151 (by decide) ?_
                      exact ih70 (k + 1) (left - left) (acc - (left.toInt64 * (rPer S k))) _ _ _ (by omega) (by omega) (by rw [rUA, ← hk, ← hl9]; simp only [c1, c2, c3, if_pos c4, if_neg (not_not_intro c4), decide_eq_true c4, if_pos c5, if_neg (not_not_intro c5), decide_eq_true c5, if_neg c6, if_pos c6, decide_eq_false c6, c7, if_pos c8, if_neg (not_not_intro c8), decide_eq_true c8, if_true, if_false, eq_self, Bool.false_eq_true, not_true_eq_false, not_false_eq_true, decide_true, decide_false, Bool.and_true, Bool.true_and, Bool.and_false, Bool.false_and, Bool.not_true, Bool.not_false, Bool.or_true, Bool.true_or, Bool.or_false, Bool.false_or, reduceIte, b2i_t, b2i_f]; try assumption) (by rw [rUA, ← hk, ← hl9]; simp only [c1, c2, c3, if_pos c4, if_neg (not_not_intro c4), decide_eq_true c4, if_pos c5, if_neg (not_not_intro c5), decide_eq_true c5, if_neg c6, if_pos c6, decide_eq_false c6, c7, if_pos c8, if_neg (not_not_intro c8), decide_eq_true c8, if_true, if_false, eq_self, Bool.false_eq_true, not_true_eq_false, not_false_eq_true, decide_true, decide_false, Bool.and_true, Bool.true_and, Bool.and_false, Bool.false_and, Bool.not_true, Bool.not_false, Bool.or_true, Bool.true_or, Bool.or_false, Bool.false_or, reduceIte, b2i_t, b2i_f]; try assumption) hw (lv_sub hl [4, 5, 6, 7, 0, 1, 2] rfl)
                    · skip
                      refine lv_aload_n hx hb dX11_unrealizedAfterSale_112 rfl (lv_at hl 0 rfl) ?_
                      refine lv_iload hx hb dX11_unrealizedAfterSale_113 (lv_at hl 4 rfl) ?_
                      refine lv_iconst (v := nI 2) hx hb dX11_unrealizedAfterSale_115 (by decide) ?_
                      refine x_callVIr (q := 30) (C := RX11) (As := [.int (nI k), .int (nI 2)]) (rest := []) ⟨hx, hb, hml, hown, hts⟩ (ct_X11_lot l D cA α n _ hn S1 k 2 (by omega)) (cwV 2 hts gX11_unrealizedAfterSale_X11_lot rfl rfl rfl (by decide +kernel) ⟨Nat.le_of_ble_eq_true rfl, Nat.le_of_ble_eq_true rfl⟩) hK hw hAw (ws_recv hK hw (q := 30) (Nat.lt_of_lt_of_le (Nat.le_of_ble_eq_true rfl : 30 < 191) hn) (mk_30 cA α) rfl) rfl hl.1 rfl (Nat.le_of_ble_eq_true rfl) dX11_unrealizedAfterSale_116 ⟨Nat.zero_le _, Nat.zero_le _⟩ (fun H locs hw => ?_)
                      refine x_topE (y := S.1 34 (608 + 4 * k + 2)) (by subst_vars; rfl) ?_
                      refine lv_goto (tgt := 124) hx hb dX11_unrealizedAfterSale_119 (by decide) ?_
                      refine lv_istore (lv' := [(8, .int (S.1 34 (608 + 4 * k + 2))), (0, .ref (α 30)), (1, .int (nI a)), (2, .int (nI b)), (3, .int q9), (7, .int (nI k)), (6, .int left), (4, .long acc)]) hx hb dX11_unrealizedAfterSale_124 hl (by decide) rfl (fun ls hl => ?_)
                      refine lv_lload hx hb dX11_unrealizedAfterSale_126 (lv_at hl 7 rfl) ?_
                      refine lv_iload hx hb dX11_unrealizedAfterSale_128 (lv_at hl 0 rfl) ?_
                      refine lv_i2l hx hb dX11_unrealizedAfterSale_130 rfl ?_
                      refine lv_aload_n hx hb dX11_unrealizedAfterSale_131 rfl (lv_at hl 1 rfl) ?_
                      refine lv_iload hx hb dX11_unrealizedAfterSale_132 (lv_at hl 5 rfl) ?_
                      refine x_callVLr (q := 30) (C := RX11) (As := [.int (nI k)]) (rest := [.long ((S.1 34 (608 + 4 * k + 2)).toInt64), .long acc]) ⟨hx, hb, hml, hown, hts⟩ (ct_X11_profitPer l D cA α n _ hn S1 k (by omega) (by subst eS1; exact hlo k (by omega))) (cwV 1 hts gX11_unrealizedAfterSale_X11_profitPer rfl rfl rfl (by decide +kernel) ⟨Nat.le_of_ble_eq_true rfl, Nat.le_of_ble_eq_true rfl⟩) hK hw hAw (ws_recv hK hw (q := 30) (Nat.lt_of_lt_of_le (Nat.le_of_ble_eq_true rfl : 30 < 191) hn) (mk_30 cA α) rfl) rfl hl.1 rfl (Nat.le_of_ble_eq_true rfl) dX11_unrealizedAfterSale_134 ⟨Nat.zero_le _, Nat.zero_le _⟩ (fun H locs hw => ?_)
                      refine x_topEL (y := rPer S k) (by rw [eS1, rPer_30]) ?_
                      refine lv_lmul hx hb dX11_unrealizedAfterSale_137 ?_
                      refine lv_lsub hx hb dX11_unrealizedAfterSale_138 ?_
                      refine lv_lstore (lv' := [(4, .long (acc - (((S.1 34 (608 + 4 * k + 2)).toInt64) * (rPer S k)))), (8, .int (S.1 34 (608 + 4 * k + 2))), (0, .ref (α 30)), (1, .int (nI a)), (2, .int (nI b)), (3, .int q9), (7, .int (nI k)), (6, .int left)]) hx hb dX11_unrealizedAfterSale_139 hl (by decide) rfl (fun ls hl => ?_)
                      refine lv_iload hx hb dX11_unrealizedAfterSale_141 (lv_at hl 7 rfl) ?_
                      refine lv_iload hx hb dX11_unrealizedAfterSale_143 (lv_at hl 1 rfl) ?_
                      refine lv_isub hx hb dX11_unrealizedAfterSale_145 ?_
                      refine lv_istore (lv' := [(6, .int (left - (S.1 34 (608 + 4 * k + 2)))), (4, .long (acc - (((S.1 34 (608 + 4 * k + 2)).toInt64) * (rPer S k)))), (8, .int (S.1 34 (608 + 4 * k + 2))), (0, .ref (α 30)), (1, .int (nI a)), (2, .int (nI b)), (3, .int q9), (7, .int (nI k))]) hx hb dX11_unrealizedAfterSale_146 hl (by decide) rfl (fun ls hl => ?_)
                      refine lv_iinc (v := nI (k + 1)) (lv' := [(7, .int (nI (k + 1))), (6, .int (left - (S.1 34 (608 + 4 * k + 2)))), (4, .long (acc - (((S.1 34 (608 + 4 * k + 2)).toInt64) * (rPer S k)))), (8, .int (S.1 34 (608 + 4 * k + 2))), (0, .ref (α 30)), (1, .int (nI a)), (2, .int (nI b)), (3, .int q9)]) hx hb dX11_unrealizedAfterSale_148 hl (k := 7) rfl (nI_1 _) (by decide) rfl (fun ls hl => ?_)
                      refine lv_goto (tgt := 70) hx hb dX11_unrealizedAfterSale_151 (by decide) ?_
                      exact ih70 (k + 1) (left - (S.1 34 (608 + 4 * k + 2))) (acc - (((S.1 34 (608 + 4 * k + 2)).toInt64) * (rPer S k))) _ _ _ (by omega) (by omega) (by rw [rUA, ← hk, ← hl9]; simp only [c1, c2, c3, if_pos c4, if_neg (not_not_intro c4), decide_eq_true c4, if_pos c5, if_neg (not_not_intro c5), decide_eq_true c5, if_neg c6, if_pos c6, decide_eq_false c6, c7, if_neg c8, if_pos c8, decide_eq_false c8, if_true, if_false, eq_self, Bool.false_eq_true, not_true_eq_false, not_false_eq_true, decide_true, decide_false, Bool.and_true, Bool.true_and, Bool.and_false, Bool.false_and, Bool.not_true, Bool.not_false, Bool.or_true, Bool.true_or, Bool.or_false, Bool.false_or, reduceIte, b2i_t, b2i_f]; try assumption) (by rw [rUA, ← hk, ← hl9]; simp only [c1, c2, c3, if_pos c4, if_neg (not_not_intro c4), decide_eq_true c4, if_pos c5, if_neg (not_not_intro c5), decide_eq_true c5, if_neg c6, if_pos c6, decide_eq_false c6, c7, if_neg c8, if_pos c8, decide_eq_false c8, if_true, if_false, eq_self, Bool.false_eq_true, not_true_eq_false, not_false_eq_true, decide_true, decide_false, Bool.and_true, Bool.true_and, Bool.and_false, Bool.false_and, Bool.not_true, Bool.not_false, Bool.or_true, Bool.true_or, Bool.or_false, Bool.false_or, reduceIte, b2i_t, b2i_f]; try assumption) hw (lv_sub hl [4, 5, 6, 7, 0, 1, 2] rfl)
                  · skip
                    refine lv_goto (tgt := 148) hx hb dX11_unrealizedAfterSale_97 (by decide) ?_
                    refine lv_iinc (v := nI (k + 1)) (lv' := [(7, .int (nI (k + 1))), (0, .ref (α 30)), (1, .int (nI a)), (2, .int (nI b)), (3, .int q9), (6, .int left), (4, .long acc)]) hx hb dX11_unrealizedAfterSale_148 hl (k := 4) rfl (nI_1 _) (by decide) rfl (fun ls hl => ?_)
                    refine lv_goto (tgt := 70) hx hb dX11_unrealizedAfterSale_151 (by decide) ?_
                    exact ih70 (k + 1) left acc _ _ _ (by omega) (by omega) (by rw [rUA, ← hk, ← hl9]; simp only [c1, c2, c3, if_pos c4, if_neg (not_not_intro c4), decide_eq_true c4, if_pos c5, if_neg (not_not_intro c5), decide_eq_true c5, if_neg c6, if_pos c6, decide_eq_false c6, c7, if_true, if_false, eq_self, Bool.false_eq_true, not_true_eq_false, not_false_eq_true, decide_true, decide_false, Bool.and_true, Bool.true_and, Bool.and_false, Bool.false_and, Bool.not_true, Bool.not_false, Bool.or_true, Bool.true_or, Bool.or_false, Bool.false_or, reduceIte, b2i_t, b2i_f]; try assumption) (by rw [rUA, ← hk, ← hl9]; simp only [c1, c2, c3, if_pos c4, if_neg (not_not_intro c4), decide_eq_true c4, if_pos c5, if_neg (not_not_intro c5), decide_eq_true c5, if_neg c6, if_pos c6, decide_eq_false c6, c7, if_true, if_false, eq_self, Bool.false_eq_true, not_true_eq_false, not_false_eq_true, decide_true, decide_false, Bool.and_true, Bool.true_and, Bool.and_false, Bool.false_and, Bool.not_true, Bool.not_false, Bool.or_true, Bool.true_or, Bool.or_false, Bool.false_or, reduceIte, b2i_t, b2i_f]; try assumption) hw (lv_sub hl [1, 2, 3, 4, 0, 5, 6] rfl)
          exact lp70 _ 0 q9 (sumL (gPro S (nI a)) L) _ _ _ (Nat.lt_succ_self _) (Nat.zero_le _) rfl rfl hw (lv_sub hl [3, 4, 5, 6, 0, 1, 2] rfl)
        · exact absurd (by decide) c4
      · exact absurd (show rCan2 S (nI a) b q9 L = true from hct) (by show rCan2 S (nI a) b q9 L ≠ true; rw [show rCan2 S (nI a) b q9 L = false from c3]; decide)
    · exact absurd (show wiL _ 0 9999 = true from (wi2_iff (a := 0) (b := 9999) (by decide) (by decide)).mpr h1) (by rw [c2]; decide)
  · exact absurd (isPl_t (S := S) (by skip; exact hC) hC2 (by skip; exact hP9) hP2 ha hb0) (by rw [c1]; decide)

set_option maxRecDepth 100000 in
set_option maxHeartbeats 1000000 in
theorem ct_X11_unrealizedAfterSaleX (l : Launch) (D : va_G) (cA : Nat → ClassId) (α : Nat → Nat) (n sz : Nat) (hn : 191 ≤ n) (S : Mem) (Cn : Nat) (hC : S.1 33 1 = nI Cn) (hC2 : Cn ≤ 6) (Pn : Nat) (hP9 : S.1 33 2 = nI Pn) (hP2 : Pn ≤ 6) (x y : Int32) (hx9 : (¬ ∃ i, i < Cn ∧ x = nI i) ∨ ¬ ∃ i, i < Pn ∧ y = nI i) (q9 : Int32) : CtL l yX11_unrealizedAfterSale wsX11_unrealizedAfterSale ({ frames := 4, cells := 0, slots := 0, locals := 92 }) D cA α n sz [.ref (α 30), .int x, .int y, .int q9] S 0 (setI S 30 0 (nI 1)) := by
  refine ct_enter cX11_unrealizedAfterSale 9 (some .long) (by decide) rfl (Nat.le_of_ble_eq_true rfl) ?_
  intro p e s m below meth c hx hb hr hml hlocks hown hts hK hsz hw ls hl
  have hown : s.vm.findClass RX11 = some m.cls := hown
  have hAw : ∀ z, Aw α n s.heap.size z → Aw α n sz z := by rw [hsz]; exact fun _ h => h
  have hl : lv_has ls 9 [(0, .ref (α 30)), (1, .int x), (2, .int y), (3, .int q9)] := hl
  refine lv_aload_n hx hb dX11_unrealizedAfterSale_0 rfl (lv_at hl 0 rfl) ?_
  refine lv_aload_n hx hb dX11_unrealizedAfterSale_1 rfl (lv_at hl 0 rfl) ?_
  refine lv_iload_n hx hb dX11_unrealizedAfterSale_2 rfl (lv_at hl 1 rfl) ?_
  refine lv_iload_n hx hb dX11_unrealizedAfterSale_3 rfl (lv_at hl 2 rfl) ?_
  refine x_callVIr (q := 30) (C := RX11) (As := [.int x, .int y]) (rest := [.ref (α 30)]) ⟨hx, hb, hml, hown, hts⟩ (ct_X11_isPlace l D cA α n _ hn S x y) (cwV 2 hts gX11_unrealizedAfterSale_X11_isPlace rfl rfl rfl (by decide +kernel) ⟨Nat.le_of_ble_eq_true rfl, Nat.le_of_ble_eq_true rfl⟩) hK hw hAw (ws_recv hK hw (q := 30) (Nat.lt_of_lt_of_le (Nat.le_of_ble_eq_true rfl : 30 < 191) hn) (mk_30 cA α) rfl) rfl hl.1 rfl (Nat.le_of_ble_eq_true rfl) dX11_unrealizedAfterSale_4 ⟨Nat.zero_le _, Nat.zero_le _⟩ (fun H locs hw => ?_)
  refine xb_ne (b := (isCoR S x && isPrR S y)) (tgt := 14) hx hb dX11_unrealizedAfterSale_7 (by decide) (fun c1 => ?_) (fun c1 => ?_)
  · exact absurd (isPl_f (S := S) (by skip; exact hC) hC2 (by skip; exact hP9) hP2 hx9) (by rw [c1]; decide)
  · skip
    refine lv_iconst (v := nI 1) hx hb dX11_unrealizedAfterSale_10 (by decide) ?_
    refine lv_goto (tgt := 45) hx hb dX11_unrealizedAfterSale_11 (by decide) ?_
    refine x_putI (x := nI 1) (ty := .int) (C := RX11) (T := TX11) (N := 24) hx hb hts (fun _ h => List.mem_cons_of_mem _ (List.mem_append_right _ h)) tyX11 tyX11_ok nmX11 hown hK hw 30 (Nat.lt_of_lt_of_le (Nat.le_of_ble_eq_true rfl : 30 < 191) hn) (mk_30 cA α) rfl 0 (by decide) (hts _ (List.mem_of_getElem? (i := 2) rfl)) (fun _ h9 => h9) rfl rfl rfl rfl (Nat.le_of_ble_eq_true rfl) rfl dX11_unrealizedAfterSale_45 (fun S1 eS1 H locs hw => ?_)
    refine lv_aload_n hx hb dX11_unrealizedAfterSale_48 rfl (lv_at hl 0 rfl) ?_
    refine x_get (v := .int (S1.1 30 0)) (C := RX11) (T := TX11) (N := 24) hx hb hts (fun _ h => List.mem_cons_of_mem _ (List.mem_append_right _ h)) hown hK hw 30 (Nat.lt_of_lt_of_le (Nat.le_of_ble_eq_true rfl : 30 < 191) hn) (mk_30 cA α) rfl 0 (by decide) (hts _ (List.mem_of_getElem? (i := 2) rfl)) (fun _ h9 => h9) rfl dX11_unrealizedAfterSale_49 ?_
    refine x_topN (k := 1) (by subst eS1; simp [sI_e, upd]) ?_
    refine lv_if_le (tgt := 57) hx hb dX11_unrealizedAfterSale_52 (by decide) (fun c2 => ?_) (fun c2 => ?_)
    · exact absurd c2 (by decide)
    · skip
      refine lv_lconst (v := 0) hx hb dX11_unrealizedAfterSale_55 (by decide) ?_
      exact ret_l hx hb hr hlocks hK hw dX11_unrealizedAfterSale_56 rfl (by subst_vars; rfl)

set_option maxRecDepth 100000 in
set_option maxHeartbeats 1000000 in
theorem ct_X11_unrealizedAfterSaleY (l : Launch) (D : va_G) (cA : Nat → ClassId) (α : Nat → Nat) (n sz : Nat) (hn : 191 ≤ n) (S : Mem) (Cn : Nat) (hC : S.1 33 1 = nI Cn) (hC2 : Cn ≤ 6) (Pn : Nat) (hP9 : S.1 33 2 = nI Pn) (hP2 : Pn ≤ 6) (a b : Nat) (ha : a < Cn) (hb0 : b < Pn) (q9 : Int32) (hy9 : ¬ ∃ i, 0 ≤ i ∧ i ≤ 9999 ∧ q9 = nI i) : CtL l yX11_unrealizedAfterSale wsX11_unrealizedAfterSale ({ frames := 4, cells := 0, slots := 0, locals := 92 }) D cA α n sz [.ref (α 30), .int (nI a), .int (nI b), .int q9] S 0 (setI S 30 0 (nI 2)) := by
  refine ct_enter cX11_unrealizedAfterSale 9 (some .long) (by decide) rfl (Nat.le_of_ble_eq_true rfl) ?_
  intro p e s m below meth c hx hb hr hml hlocks hown hts hK hsz hw ls hl
  have hown : s.vm.findClass RX11 = some m.cls := hown
  have hAw : ∀ z, Aw α n s.heap.size z → Aw α n sz z := by rw [hsz]; exact fun _ h => h
  have hl : lv_has ls 9 [(0, .ref (α 30)), (1, .int (nI a)), (2, .int (nI b)), (3, .int q9)] := hl
  refine lv_aload_n hx hb dX11_unrealizedAfterSale_0 rfl (lv_at hl 0 rfl) ?_
  refine lv_aload_n hx hb dX11_unrealizedAfterSale_1 rfl (lv_at hl 0 rfl) ?_
  refine lv_iload_n hx hb dX11_unrealizedAfterSale_2 rfl (lv_at hl 1 rfl) ?_
  refine lv_iload_n hx hb dX11_unrealizedAfterSale_3 rfl (lv_at hl 2 rfl) ?_
  refine x_callVIr (q := 30) (C := RX11) (As := [.int (nI a), .int (nI b)]) (rest := [.ref (α 30)]) ⟨hx, hb, hml, hown, hts⟩ (ct_X11_isPlace l D cA α n _ hn S (nI a) (nI b)) (cwV 2 hts gX11_unrealizedAfterSale_X11_isPlace rfl rfl rfl (by decide +kernel) ⟨Nat.le_of_ble_eq_true rfl, Nat.le_of_ble_eq_true rfl⟩) hK hw hAw (ws_recv hK hw (q := 30) (Nat.lt_of_lt_of_le (Nat.le_of_ble_eq_true rfl : 30 < 191) hn) (mk_30 cA α) rfl) rfl hl.1 rfl (Nat.le_of_ble_eq_true rfl) dX11_unrealizedAfterSale_4 ⟨Nat.zero_le _, Nat.zero_le _⟩ (fun H locs hw => ?_)
  refine xb_ne (b := (isCoR S (nI a) && isPrR S (nI b))) (tgt := 14) hx hb dX11_unrealizedAfterSale_7 (by decide) (fun c1 => ?_) (fun c1 => ?_)
  · skip
    refine lv_iload_n hx hb dX11_unrealizedAfterSale_14 rfl (lv_at hl 3 rfl) ?_
    refine lv_i2l hx hb dX11_unrealizedAfterSale_15 rfl ?_
    refine lv_lconst (v := 0) hx hb dX11_unrealizedAfterSale_16 (by decide) ?_
    refine lv_ldc2 (v := 9999) hx hb hown (hts _ (List.mem_of_getElem? (i := 1) rfl)) dX11_unrealizedAfterSale_17 ?_
    refine x_callSIr (q := 0) (C := RX0) (As := [.long (q9.toInt64), .long (0), .long (9999)]) (rest := [.ref (α 30)]) ⟨hx, hb, hml, hown, hts⟩ (ct_X11_within l D cA α n _ hn S (q9.toInt64) (0) (9999)) (va_cwS 3 hts gX11_unrealizedAfterSale_X11_within rfl rfl rfl (by decide +kernel) ⟨Nat.le_of_ble_eq_true rfl, Nat.le_of_ble_eq_true rfl⟩) hK hw hAw rfl hl.1 rfl (Nat.le_of_ble_eq_true rfl) dX11_unrealizedAfterSale_20 ⟨Nat.zero_le _, Nat.zero_le _⟩ (fun H locs hw => ?_)
    refine xb_ne (b := (wiL (q9.toInt64) (0) (9999))) (tgt := 30) hx hb dX11_unrealizedAfterSale_23 (by decide) (fun c2 => ?_) (fun c2 => ?_)
    · exact absurd (show wiL _ 0 9999 = false from w2f (a := 0) (b := 9999) hy9 (by decide) (by decide)) (by rw [c2]; decide)
    · skip
      refine lv_iconst (v := nI 2) hx hb dX11_unrealizedAfterSale_26 (by decide) ?_
      refine lv_goto (tgt := 45) hx hb dX11_unrealizedAfterSale_27 (by decide) ?_
      refine x_putI (x := nI 2) (ty := .int) (C := RX11) (T := TX11) (N := 24) hx hb hts (fun _ h => List.mem_cons_of_mem _ (List.mem_append_right _ h)) tyX11 tyX11_ok nmX11 hown hK hw 30 (Nat.lt_of_lt_of_le (Nat.le_of_ble_eq_true rfl : 30 < 191) hn) (mk_30 cA α) rfl 0 (by decide) (hts _ (List.mem_of_getElem? (i := 2) rfl)) (fun _ h9 => h9) rfl rfl rfl rfl (Nat.le_of_ble_eq_true rfl) rfl dX11_unrealizedAfterSale_45 (fun S1 eS1 H locs hw => ?_)
      refine lv_aload_n hx hb dX11_unrealizedAfterSale_48 rfl (lv_at hl 0 rfl) ?_
      refine x_get (v := .int (S1.1 30 0)) (C := RX11) (T := TX11) (N := 24) hx hb hts (fun _ h => List.mem_cons_of_mem _ (List.mem_append_right _ h)) hown hK hw 30 (Nat.lt_of_lt_of_le (Nat.le_of_ble_eq_true rfl : 30 < 191) hn) (mk_30 cA α) rfl 0 (by decide) (hts _ (List.mem_of_getElem? (i := 2) rfl)) (fun _ h9 => h9) rfl dX11_unrealizedAfterSale_49 ?_
      refine x_topN (k := 2) (by subst eS1; simp [sI_e, upd]) ?_
      refine lv_if_le (tgt := 57) hx hb dX11_unrealizedAfterSale_52 (by decide) (fun c3 => ?_) (fun c3 => ?_)
      · exact absurd c3 (by decide)
      · skip
        refine lv_lconst (v := 0) hx hb dX11_unrealizedAfterSale_55 (by decide) ?_
        exact ret_l hx hb hr hlocks hK hw dX11_unrealizedAfterSale_56 rfl (by subst_vars; rfl)
  · exact absurd (isPl_t (S := S) (by skip; exact hC) hC2 (by skip; exact hP9) hP2 ha hb0) (by rw [c1]; decide)

set_option maxRecDepth 100000 in
set_option maxHeartbeats 1000000 in
theorem ct_X11_unrealizedAfterSaleZ (l : Launch) (D : va_G) (cA : Nat → ClassId) (α : Nat → Nat) (n sz : Nat) (hn : 191 ≤ n) (S : Mem) (Cn : Nat) (hC : S.1 33 1 = nI Cn) (hC2 : Cn ≤ 6) (Pn : Nat) (hP9 : S.1 33 2 = nI Pn) (hP2 : Pn ≤ 6) (a b : Nat) (ha : a < Cn) (hb0 : b < Pn) (q9 : Int32) (h1 : ∃ i, 0 ≤ i ∧ i ≤ 9999 ∧ q9 = nI i) (L : Nat) (hL : S.1 34 1 = nI L) (hL2 : L ≤ 100) (hct : rCan2 S (nI a) b q9 L = false) : CtL l yX11_unrealizedAfterSale wsX11_unrealizedAfterSale ({ frames := 4, cells := 0, slots := 0, locals := 92 }) D cA α n sz [.ref (α 30), .int (nI a), .int (nI b), .int q9] S 0 (setI S 30 0 (nI 3)) := by
  refine ct_enter cX11_unrealizedAfterSale 9 (some .long) (by decide) rfl (Nat.le_of_ble_eq_true rfl) ?_
  intro p e s m below meth c hx hb hr hml hlocks hown hts hK hsz hw ls hl
  have hown : s.vm.findClass RX11 = some m.cls := hown
  have hAw : ∀ z, Aw α n s.heap.size z → Aw α n sz z := by rw [hsz]; exact fun _ h => h
  have hl : lv_has ls 9 [(0, .ref (α 30)), (1, .int (nI a)), (2, .int (nI b)), (3, .int q9)] := hl
  refine lv_aload_n hx hb dX11_unrealizedAfterSale_0 rfl (lv_at hl 0 rfl) ?_
  refine lv_aload_n hx hb dX11_unrealizedAfterSale_1 rfl (lv_at hl 0 rfl) ?_
  refine lv_iload_n hx hb dX11_unrealizedAfterSale_2 rfl (lv_at hl 1 rfl) ?_
  refine lv_iload_n hx hb dX11_unrealizedAfterSale_3 rfl (lv_at hl 2 rfl) ?_
  refine x_callVIr (q := 30) (C := RX11) (As := [.int (nI a), .int (nI b)]) (rest := [.ref (α 30)]) ⟨hx, hb, hml, hown, hts⟩ (ct_X11_isPlace l D cA α n _ hn S (nI a) (nI b)) (cwV 2 hts gX11_unrealizedAfterSale_X11_isPlace rfl rfl rfl (by decide +kernel) ⟨Nat.le_of_ble_eq_true rfl, Nat.le_of_ble_eq_true rfl⟩) hK hw hAw (ws_recv hK hw (q := 30) (Nat.lt_of_lt_of_le (Nat.le_of_ble_eq_true rfl : 30 < 191) hn) (mk_30 cA α) rfl) rfl hl.1 rfl (Nat.le_of_ble_eq_true rfl) dX11_unrealizedAfterSale_4 ⟨Nat.zero_le _, Nat.zero_le _⟩ (fun H locs hw => ?_)
  refine xb_ne (b := (isCoR S (nI a) && isPrR S (nI b))) (tgt := 14) hx hb dX11_unrealizedAfterSale_7 (by decide) (fun c1 => ?_) (fun c1 => ?_)
  · skip
    refine lv_iload_n hx hb dX11_unrealizedAfterSale_14 rfl (lv_at hl 3 rfl) ?_
    refine lv_i2l hx hb dX11_unrealizedAfterSale_15 rfl ?_
    refine lv_lconst (v := 0) hx hb dX11_unrealizedAfterSale_16 (by decide) ?_
    refine lv_ldc2 (v := 9999) hx hb hown (hts _ (List.mem_of_getElem? (i := 1) rfl)) dX11_unrealizedAfterSale_17 ?_
    refine x_callSIr (q := 0) (C := RX0) (As := [.long (q9.toInt64), .long (0), .long (9999)]) (rest := [.ref (α 30)]) ⟨hx, hb, hml, hown, hts⟩ (ct_X11_within l D cA α n _ hn S (q9.toInt64) (0) (9999)) (va_cwS 3 hts gX11_unrealizedAfterSale_X11_within rfl rfl rfl (by decide +kernel) ⟨Nat.le_of_ble_eq_true rfl, Nat.le_of_ble_eq_true rfl⟩) hK hw hAw rfl hl.1 rfl (Nat.le_of_ble_eq_true rfl) dX11_unrealizedAfterSale_20 ⟨Nat.zero_le _, Nat.zero_le _⟩ (fun H locs hw => ?_)
    refine xb_ne (b := (wiL (q9.toInt64) (0) (9999))) (tgt := 30) hx hb dX11_unrealizedAfterSale_23 (by decide) (fun c2 => ?_) (fun c2 => ?_)
    · skip
      refine lv_aload_n hx hb dX11_unrealizedAfterSale_30 rfl (lv_at hl 0 rfl) ?_
      refine lv_iload_n hx hb dX11_unrealizedAfterSale_31 rfl (lv_at hl 1 rfl) ?_
      refine lv_iload_n hx hb dX11_unrealizedAfterSale_32 rfl (lv_at hl 2 rfl) ?_
      refine lv_iload_n hx hb dX11_unrealizedAfterSale_33 rfl (lv_at hl 3 rfl) ?_
      refine x_callVIr (q := 30) (C := RX11) (As := [.int (nI a), .int (nI b), .int q9]) (rest := [.ref (α 30)]) ⟨hx, hb, hml, hown, hts⟩ (ct_X11_canTake l D cA α n _ hn S (nI a) b q9 (by omega) L (by skip; exact hL) hL2) (cwV 3 hts gX11_unrealizedAfterSale_X11_canTake rfl rfl rfl (by decide +kernel) ⟨Nat.le_of_ble_eq_true rfl, Nat.le_of_ble_eq_true rfl⟩) hK hw hAw (ws_recv hK hw (q := 30) (Nat.lt_of_lt_of_le (Nat.le_of_ble_eq_true rfl : 30 < 191) hn) (mk_30 cA α) rfl) rfl hl.1 rfl (Nat.le_of_ble_eq_true rfl) dX11_unrealizedAfterSale_34 ⟨Nat.zero_le _, Nat.zero_le _⟩ (fun H locs hw => ?_)
      refine xb_ne (b := (decide (S.1 33 (16 + b) = (nI a)) || !decide (sumI (rStk S (nI a) (nI b)) L < q9))) (tgt := 44) hx hb dX11_unrealizedAfterSale_37 (by decide) (fun c3 => ?_) (fun c3 => ?_)
      · exact absurd (show rCan2 S (nI a) b q9 L = false from hct) (by rw [show rCan2 S (nI a) b q9 L = true from c3]; decide)
      · skip
        refine lv_iconst (v := nI 3) hx hb dX11_unrealizedAfterSale_40 (by decide) ?_
        refine lv_goto (tgt := 45) hx hb dX11_unrealizedAfterSale_41 (by decide) ?_
        refine x_putI (x := nI 3) (ty := .int) (C := RX11) (T := TX11) (N := 24) hx hb hts (fun _ h => List.mem_cons_of_mem _ (List.mem_append_right _ h)) tyX11 tyX11_ok nmX11 hown hK hw 30 (Nat.lt_of_lt_of_le (Nat.le_of_ble_eq_true rfl : 30 < 191) hn) (mk_30 cA α) rfl 0 (by decide) (hts _ (List.mem_of_getElem? (i := 2) rfl)) (fun _ h9 => h9) rfl rfl rfl rfl (Nat.le_of_ble_eq_true rfl) rfl dX11_unrealizedAfterSale_45 (fun S1 eS1 H locs hw => ?_)
        refine lv_aload_n hx hb dX11_unrealizedAfterSale_48 rfl (lv_at hl 0 rfl) ?_
        refine x_get (v := .int (S1.1 30 0)) (C := RX11) (T := TX11) (N := 24) hx hb hts (fun _ h => List.mem_cons_of_mem _ (List.mem_append_right _ h)) hown hK hw 30 (Nat.lt_of_lt_of_le (Nat.le_of_ble_eq_true rfl : 30 < 191) hn) (mk_30 cA α) rfl 0 (by decide) (hts _ (List.mem_of_getElem? (i := 2) rfl)) (fun _ h9 => h9) rfl dX11_unrealizedAfterSale_49 ?_
        refine x_topN (k := 3) (by subst eS1; simp [sI_e, upd]) ?_
        refine lv_if_le (tgt := 57) hx hb dX11_unrealizedAfterSale_52 (by decide) (fun c4 => ?_) (fun c4 => ?_)
        · exact absurd c4 (by decide)
        · skip
          refine lv_lconst (v := 0) hx hb dX11_unrealizedAfterSale_55 (by decide) ?_
          exact ret_l hx hb hr hlocks hK hw dX11_unrealizedAfterSale_56 rfl (by subst_vars; rfl)
    · exact absurd (show wiL _ 0 9999 = true from (wi2_iff (a := 0) (b := 9999) (by decide) (by decide)).mpr h1) (by rw [c2]; decide)
  · exact absurd (isPl_t (S := S) (by skip; exact hC) hC2 (by skip; exact hP9) hP2 ha hb0) (by rw [c1]; decide)
