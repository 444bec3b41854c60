/-! the reference: book, deliver, sell, accept -/
def rBk1 (T : Mem) (N : Nat) (a b sd rf : Int32) : Mem := setI (setI (setI (setI (setI (setI (setI T 34 0 (nI (N + 1))) 34 (8 + 6 * N + 0) a) 34 (8 + 6 * N + 1) b) 34 (8 + 6 * N + 2) sd) 34 (8 + 6 * N + 3) rf) 34 (8 + 6 * N + 4) (nI 0)) 34 (8 + 6 * N + 5) (-1)
def rBk2 (T : Mem) (N : Nat) (a b sd rf am : Int32) : Mem := setJ (rBk1 T N a b sd rf) 35 (9 + N) am.toInt64
def rBk (T : Mem) (N : Nat) (a b sd rf am : Int32) : Mem := setJ (rBk2 T N a b sd rf am) 35 (109 + N) (rVal (rBk2 T N a b sd rf am) N)
theorem rBk2_co (T : Mem) (N : Nat) (a b sd rf am : Int32) : (rBk2 T N a b sd rf am).1 34 (8 + 6 * N + 0) = a := by
  unfold rBk2 rBk1
  rw [sJ_1, sI_e, pk_un (by omega), sI_e, pk_un (by omega), sI_e, pk_un (by omega), sI_e, pk_un (by omega), sI_e, pk_un (by omega), sI_e, pk_us]
theorem rBk2_33 (T : Mem) (N : Nat) (a b sd rf am : Int32) : (rBk2 T N a b sd rf am).1 33 = T.1 33 := by
  unfold rBk2 rBk1
  rw [sJ_1, sI_1 (by decide), sI_1 (by decide), sI_1 (by decide), sI_1 (by decide), sI_1 (by decide), sI_1 (by decide), sI_1 (by decide)]
theorem rBk2_ok {T : Mem} {N a : Nat} {b sd rf am : Int32} (hN : N < 100) (ha : a < 6) (hc : okI (T.1 33 (10 + a)) 4) : okR (rBk2 T N (nI a) b sd rf am) N := by
  refine ⟨hN, ?_, ?_⟩
  · rw [rBk2_co]; exact okI_nI ha (by omega)
  · rw [rBk2_co, rBk2_33, gN_nI (by omega)]; exact hc

set_option maxRecDepth 100000 in
set_option maxHeartbeats 1000000 in
theorem ct_X11_book (l : Launch) (D : va_G) (cA : Nat → ClassId) (α : Nat → Nat) (n sz : Nat) (hn : 191 ≤ n) (S : Mem) (Cn : Nat) (hC : S.1 33 1 = nI Cn) (hC2 : Cn ≤ 6) (a b : Nat) (ha : a < Cn) (hb0 : b < Cn) (hab : a ≠ b) (sd rf am : Int32) (h1 : ∃ i, 0 ≤ i ∧ i ≤ 1 ∧ sd = nI i) (h2 : ∃ i, 0 ≤ i ∧ i ≤ 999 ∧ rf = nI i) (h3 : ∃ i, 1 ≤ i ∧ i ≤ 1000000 ∧ am = nI i) (N : Nat) (hN : S.1 34 0 = nI N) (hN2 : N < 100) (hcu : okI (S.1 33 (10 + a)) 4) (k : Nat) (hk : S.1 30 17 = nI k) (hk2 : k ≤ 10) : CtI l yX11_book wsX11_book ({ frames := 3, cells := 0, slots := 0, locals := 64 }) D cA α n sz [.ref (α 30), .int (nI a), .int (nI b), .int sd, .int rf, .int am] S (nI N) (rBk (K0 S k) N (nI a) (nI b) sd rf am) := by
  refine ct_enter cX11_book 7 (some .int) (by decide) rfl (Nat.le_of_ble_eq_true rfl) ?_
  intro p e s m below meth c hx hb hr hml hlocks hown hts hK hsz hw ls hl
  have hown : s.vm.findClass RX11 = some m.cls := hown
  have hAw : ∀ z, Aw α n s.heap.size z → Aw α n sz z := by rw [hsz]; exact fun _ h => h
  have hl : lv_has ls 7 [(0, .ref (α 30)), (1, .int (nI a)), (2, .int (nI b)), (3, .int sd), (4, .int rf), (5, .int am)] := hl
  refine lv_aload_n hx hb dX11_book_0 rfl (lv_at hl 0 rfl) ?_
  refine lv_iconst (v := nI 0) hx hb dX11_book_1 (by decide) ?_
  refine x_putI (x := nI 0) (ty := .int) (C := RX11) (T := TX11) (N := 24) hx hb hts (fun _ h => List.mem_cons_of_mem _ (List.mem_append_right _ h)) tyX11 tyX11_ok nmX11 hown hK hw 30 (Nat.lt_of_lt_of_le (Nat.le_of_ble_eq_true rfl : 30 < 191) hn) (mk_30 cA α) rfl 0 (by decide) (hts _ (List.mem_of_getElem? (i := 1) rfl)) (fun _ h9 => h9) rfl rfl rfl rfl (Nat.le_of_ble_eq_true rfl) rfl dX11_book_2 (fun S1 eS1 H locs hw => ?_)
  refine lv_aload_n hx hb dX11_book_5 rfl (lv_at hl 0 rfl) ?_
  refine lv_iload_n hx hb dX11_book_6 rfl (lv_at hl 1 rfl) ?_
  refine x_callVIr (q := 30) (C := RX11) (As := [.int (nI a)]) (rest := []) ⟨hx, hb, hml, hown, hts⟩ (ct_X11_isCompany l D cA α n _ hn S1 (nI a)) (cwV 1 hts gX11_book_X11_isCompany rfl rfl rfl (by decide +kernel) ⟨Nat.le_of_ble_eq_true rfl, Nat.le_of_ble_eq_true rfl⟩) hK hw hAw (ws_recv hK hw (q := 30) (Nat.lt_of_lt_of_le (Nat.le_of_ble_eq_true rfl : 30 < 191) hn) (mk_30 cA α) rfl) rfl hl.1 rfl (Nat.le_of_ble_eq_true rfl) dX11_book_7 ⟨Nat.zero_le _, Nat.zero_le _⟩ (fun H locs hw => ?_)
  refine xb_eq (b := (isCoR S1 (nI a))) (tgt := 21) hx hb dX11_book_10 (by decide) (fun c1 => ?_) (fun c1 => ?_)
  · exact absurd (isCo_t (S := S1) (by subst eS1; exact hC) hC2 ha) (by rw [c1]; decide)
  · skip
    refine lv_aload_n hx hb dX11_book_13 rfl (lv_at hl 0 rfl) ?_
    refine lv_iload_n hx hb dX11_book_14 rfl (lv_at hl 2 rfl) ?_
    refine x_callVIr (q := 30) (C := RX11) (As := [.int (nI b)]) (rest := []) ⟨hx, hb, hml, hown, hts⟩ (ct_X11_isCompany l D cA α n _ hn S1 (nI b)) (cwV 1 hts gX11_book_X11_isCompany rfl rfl rfl (by decide +kernel) ⟨Nat.le_of_ble_eq_true rfl, Nat.le_of_ble_eq_true rfl⟩) hK hw hAw (ws_recv hK hw (q := 30) (Nat.lt_of_lt_of_le (Nat.le_of_ble_eq_true rfl : 30 < 191) hn) (mk_30 cA α) rfl) rfl hl.1 rfl (Nat.le_of_ble_eq_true rfl) dX11_book_15 ⟨Nat.zero_le _, Nat.zero_le _⟩ (fun H locs hw => ?_)
    refine xb_ne (b := (isCoR S1 (nI b))) (tgt := 27) hx hb dX11_book_18 (by decide) (fun c2 => ?_) (fun c2 => ?_)
    · skip
      refine lv_iload_n hx hb dX11_book_27 rfl (lv_at hl 1 rfl) ?_
      refine lv_iload_n hx hb dX11_book_28 rfl (lv_at hl 2 rfl) ?_
      refine xn_icmp_eq (tgt := 68) hx hb (by omega) (by omega) dX11_book_29 (by decide) (fun c3 => ?_) (fun c3 => ?_)
      · exact absurd c3 hab
      · skip
        refine lv_iload_n hx hb dX11_book_32 rfl (lv_at hl 3 rfl) ?_
        refine lv_i2l hx hb dX11_book_33 rfl ?_
        refine lv_lconst (v := 0) hx hb dX11_book_34 (by decide) ?_
        refine lv_lconst (v := 1) hx hb dX11_book_35 (by decide) ?_
        refine x_callSIr (q := 0) (C := RX0) (As := [.long (sd.toInt64), .long (0), .long (1)]) (rest := []) ⟨hx, hb, hml, hown, hts⟩ (ct_X11_within l D cA α n _ hn S1 (sd.toInt64) (0) (1)) (va_cwS 3 hts gX11_book_X11_within rfl rfl rfl (by decide +kernel) ⟨Nat.le_of_ble_eq_true rfl, Nat.le_of_ble_eq_true rfl⟩) hK hw hAw rfl hl.1 rfl (Nat.le_of_ble_eq_true rfl) dX11_book_36 ⟨Nat.zero_le _, Nat.zero_le _⟩ (fun H locs hw => ?_)
        refine xb_eq (b := (wiL (sd.toInt64) (0) (1))) (tgt := 68) hx hb dX11_book_39 (by decide) (fun c4 => ?_) (fun c4 => ?_)
        · exact absurd (show wiL _ 0 1 = true from (wi2_iff (a := 0) (b := 1) (by decide) (by decide)).mpr h1) (by rw [c4]; decide)
        · skip
          refine lv_iload hx hb dX11_book_42 (lv_at hl 4 rfl) ?_
          refine lv_i2l hx hb dX11_book_44 rfl ?_
          refine lv_lconst (v := 0) hx hb dX11_book_45 (by decide) ?_
          refine lv_ldc2 (v := 999) hx hb hown (hts _ (List.mem_of_getElem? (i := 2) rfl)) dX11_book_46 ?_
          refine x_callSIr (q := 0) (C := RX0) (As := [.long (rf.toInt64), .long (0), .long (999)]) (rest := []) ⟨hx, hb, hml, hown, hts⟩ (ct_X11_within l D cA α n _ hn S1 (rf.toInt64) (0) (999)) (va_cwS 3 hts gX11_book_X11_within rfl rfl rfl (by decide +kernel) ⟨Nat.le_of_ble_eq_true rfl, Nat.le_of_ble_eq_true rfl⟩) hK hw hAw rfl hl.1 rfl (Nat.le_of_ble_eq_true rfl) dX11_book_49 ⟨Nat.zero_le _, Nat.zero_le _⟩ (fun H locs hw => ?_)
          refine xb_eq (b := (wiL (rf.toInt64) (0) (999))) (tgt := 68) hx hb dX11_book_52 (by decide) (fun c5 => ?_) (fun c5 => ?_)
          · exact absurd (show wiL _ 0 999 = true from (wi2_iff (a := 0) (b := 999) (by decide) (by decide)).mpr h2) (by rw [c5]; decide)
          · skip
            refine lv_iload hx hb dX11_book_55 (lv_at hl 5 rfl) ?_
            refine lv_i2l hx hb dX11_book_57 rfl ?_
            refine lv_lconst (v := 1) hx hb dX11_book_58 (by decide) ?_
            refine lv_ldc2 (v := 1000000) hx hb hown (hts _ (List.mem_of_getElem? (i := 3) rfl)) dX11_book_59 ?_
            refine x_callSIr (q := 0) (C := RX0) (As := [.long (am.toInt64), .long (1), .long (1000000)]) (rest := []) ⟨hx, hb, hml, hown, hts⟩ (ct_X11_within l D cA α n _ hn S1 (am.toInt64) (1) (1000000)) (va_cwS 3 hts gX11_book_X11_within rfl rfl rfl (by decide +kernel) ⟨Nat.le_of_ble_eq_true rfl, Nat.le_of_ble_eq_true rfl⟩) hK hw hAw rfl hl.1 rfl (Nat.le_of_ble_eq_true rfl) dX11_book_62 ⟨Nat.zero_le _, Nat.zero_le _⟩ (fun H locs hw => ?_)
            refine xb_ne (b := (wiL (am.toInt64) (1) (1000000))) (tgt := 74) hx hb dX11_book_65 (by decide) (fun c6 => ?_) (fun c6 => ?_)
            · skip
              refine lv_aload_n hx hb dX11_book_74 rfl (lv_at hl 0 rfl) ?_
              refine x_get (v := .ref (α 34)) (C := RX11) (T := TX11) (N := 24) hx hb hts (fun _ h => List.mem_cons_of_mem _ (List.mem_append_right _ h)) hown hK hw 30 (Nat.lt_of_lt_of_le (Nat.le_of_ble_eq_true rfl : 30 < 191) hn) (mk_30 cA α) rfl 13 (by decide) (hts _ (List.mem_of_getElem? (i := 4) rfl)) (fun _ h9 => h9) rfl dX11_book_75 ?_
              refine lv_iconst (v := nI 0) hx hb dX11_book_78 (by decide) ?_
              refine x_iald hx hb hK hw 34 1508 (Nat.lt_of_lt_of_le (Nat.le_of_ble_eq_true rfl : 34 < 191) hn) (mk_34 cA α) 0 rfl (by decide) (by decide) dX11_book_79 ?_
              refine x_topN (k := N) (by subst eS1; exact hN) ?_
              refine lv_bipush (v := nI 100) hx hb dX11_book_80 (by decide) ?_
              refine xn_icmp_ne (tgt := 91) hx hb (by omega) (by decide) dX11_book_82 (by decide) (fun c7 => ?_) (fun c7 => ?_)
              · skip
                refine lv_aload_n hx hb dX11_book_91 rfl (lv_at hl 0 rfl) ?_
                refine x_callVV (q := 30) (C := RX11) (As := []) (rest := []) ⟨hx, hb, hml, hown, hts⟩ (ct_X11_keepU l D cA α n _ hn S1 k (by subst eS1; exact hk) hk2) (cwV 0 hts gX11_book_X11_keep rfl rfl rfl (by decide +kernel) ⟨Nat.le_of_ble_eq_true rfl, Nat.le_of_ble_eq_true rfl⟩) hK hw hAw (ws_recv hK hw (q := 30) (Nat.lt_of_lt_of_le (Nat.le_of_ble_eq_true rfl : 30 < 191) hn) (mk_30 cA α) rfl) rfl hl.1 rfl (Nat.le_of_ble_eq_true rfl) dX11_book_92 ⟨Nat.zero_le _, Nat.zero_le _⟩ (fun S2 eS2 H locs hw => ?_)
                refine lv_aload_n hx hb dX11_book_95 rfl (lv_at hl 0 rfl) ?_
                refine x_get (v := .ref (α 34)) (C := RX11) (T := TX11) (N := 24) hx hb hts (fun _ h => List.mem_cons_of_mem _ (List.mem_append_right _ h)) hown hK hw 30 (Nat.lt_of_lt_of_le (Nat.le_of_ble_eq_true rfl : 30 < 191) hn) (mk_30 cA α) rfl 13 (by decide) (hts _ (List.mem_of_getElem? (i := 4) rfl)) (fun _ h9 => h9) rfl dX11_book_96 ?_
                refine lv_iconst (v := nI 0) hx hb dX11_book_99 (by decide) ?_
                refine x_iald hx hb hK hw 34 1508 (Nat.lt_of_lt_of_le (Nat.le_of_ble_eq_true rfl : 34 < 191) hn) (mk_34 cA α) 0 rfl (by decide) (by decide) dX11_book_100 ?_
                refine x_topN (k := N) (by subst eS2; subst eS1; exact (congrFun (K0_34 S k) 0).trans hN) ?_
                refine lv_istore (lv' := [(6, .int (nI N)), (0, .ref (α 30)), (1, .int (nI a)), (2, .int (nI b)), (3, .int sd), (4, .int rf), (5, .int am)]) hx hb dX11_book_101 hl (by decide) rfl (fun ls hl => ?_)
                refine lv_aload_n hx hb dX11_book_103 rfl (lv_at hl 1 rfl) ?_
                refine x_get (v := .ref (α 34)) (C := RX11) (T := TX11) (N := 24) hx hb hts (fun _ h => List.mem_cons_of_mem _ (List.mem_append_right _ h)) hown hK hw 30 (Nat.lt_of_lt_of_le (Nat.le_of_ble_eq_true rfl : 30 < 191) hn) (mk_30 cA α) rfl 13 (by decide) (hts _ (List.mem_of_getElem? (i := 4) rfl)) (fun _ h9 => h9) rfl dX11_book_104 ?_
                refine lv_iconst (v := nI 0) hx hb dX11_book_107 (by decide) ?_
                refine lv_dup2_11 hx hb dX11_book_108 rfl rfl ?_
                refine x_iald hx hb hK hw 34 1508 (Nat.lt_of_lt_of_le (Nat.le_of_ble_eq_true rfl : 34 < 191) hn) (mk_34 cA α) 0 rfl (by decide) (by decide) dX11_book_109 ?_
                refine x_topN (k := N) (by subst eS2; subst eS1; exact (congrFun (K0_34 S k) 0).trans hN) ?_
                refine lv_iconst (v := nI 1) hx hb dX11_book_110 (by decide) ?_
                refine xn_iadd hx hb dX11_book_111 ?_
                refine x_iast (x := nI (N + 1)) hx hb hK hw 34 1508 (Nat.lt_of_lt_of_le (Nat.le_of_ble_eq_true rfl : 34 < 191) hn) (mk_34 cA α) 0 rfl (by decide) (by decide) dX11_book_112 (fun S3 eS3 H locs hw => ?_)
                refine lv_aload_n hx hb dX11_book_113 rfl (lv_at hl 1 rfl) ?_
                refine lv_iload hx hb dX11_book_114 (lv_at hl 0 rfl) ?_
                refine lv_iconst (v := nI 0) hx hb dX11_book_116 (by decide) ?_
                refine lv_iload_n hx hb dX11_book_117 rfl (lv_at hl 2 rfl) ?_
                refine x_callVV (q := 30) (C := RX11) (As := [.int (nI N), .int (nI 0), .int (nI a)]) (rest := []) ⟨hx, hb, hml, hown, hts⟩ (ct_X11_put l D cA α n _ hn S3 N 0 (nI a) (by omega)) (cwV 3 hts gX11_book_X11_put rfl rfl rfl (by decide +kernel) ⟨Nat.le_of_ble_eq_true rfl, Nat.le_of_ble_eq_true rfl⟩) hK hw hAw (ws_recv hK hw (q := 30) (Nat.lt_of_lt_of_le (Nat.le_of_ble_eq_true rfl : 30 < 191) hn) (mk_30 cA α) rfl) rfl hl.1 rfl (Nat.le_of_ble_eq_true rfl) dX11_book_118 ⟨Nat.zero_le _, Nat.zero_le _⟩ (fun S4 eS4 H locs hw => ?_)
                refine lv_aload_n hx hb dX11_book_121 rfl (lv_at hl 1 rfl) ?_
                refine lv_iload hx hb dX11_book_122 (lv_at hl 0 rfl) ?_
                refine lv_iconst (v := nI 1) hx hb dX11_book_124 (by decide) ?_
                refine lv_iload_n hx hb dX11_book_125 rfl (lv_at hl 3 rfl) ?_
                refine x_callVV (q := 30) (C := RX11) (As := [.int (nI N), .int (nI 1), .int (nI b)]) (rest := []) ⟨hx, hb, hml, hown, hts⟩ (ct_X11_put l D cA α n _ hn S4 N 1 (nI b) (by omega)) (cwV 3 hts gX11_book_X11_put rfl rfl rfl (by decide +kernel) ⟨Nat.le_of_ble_eq_true rfl, Nat.le_of_ble_eq_true rfl⟩) hK hw hAw (ws_recv hK hw (q := 30) (Nat.lt_of_lt_of_le (Nat.le_of_ble_eq_true rfl : 30 < 191) hn) (mk_30 cA α) rfl) rfl hl.1 rfl (Nat.le_of_ble_eq_true rfl) dX11_book_126 ⟨Nat.zero_le _, Nat.zero_le _⟩ (fun S5 eS5 H locs hw => ?_)
                refine lv_aload_n hx hb dX11_book_129 rfl (lv_at hl 1 rfl) ?_
                refine lv_iload hx hb dX11_book_130 (lv_at hl 0 rfl) ?_
                refine lv_iconst (v := nI 2) hx hb dX11_book_132 (by decide) ?_
                refine lv_iload_n hx hb dX11_book_133 rfl (lv_at hl 4 rfl) ?_
                refine x_callVV (q := 30) (C := RX11) (As := [.int (nI N), .int (nI 2), .int sd]) (rest := []) ⟨hx, hb, hml, hown, hts⟩ (ct_X11_put l D cA α n _ hn S5 N 2 sd (by omega)) (cwV 3 hts gX11_book_X11_put rfl rfl rfl (by decide +kernel) ⟨Nat.le_of_ble_eq_true rfl, Nat.le_of_ble_eq_true rfl⟩) hK hw hAw (ws_recv hK hw (q := 30) (Nat.lt_of_lt_of_le (Nat.le_of_ble_eq_true rfl : 30 < 191) hn) (mk_30 cA α) rfl) rfl hl.1 rfl (Nat.le_of_ble_eq_true rfl) dX11_book_134 ⟨Nat.zero_le _, Nat.zero_le _⟩ (fun S6 eS6 H locs hw => ?_)
                refine lv_aload_n hx hb dX11_book_137 rfl (lv_at hl 1 rfl) ?_
                refine lv_iload hx hb dX11_book_138 (lv_at hl 0 rfl) ?_
                refine lv_iconst (v := nI 3) hx hb dX11_book_140 (by decide) ?_
                refine lv_iload hx hb dX11_book_141 (lv_at hl 5 rfl) ?_
                refine x_callVV (q := 30) (C := RX11) (As := [.int (nI N), .int (nI 3), .int rf]) (rest := []) ⟨hx, hb, hml, hown, hts⟩ (ct_X11_put l D cA α n _ hn S6 N 3 rf (by omega)) (cwV 3 hts gX11_book_X11_put rfl rfl rfl (by decide +kernel) ⟨Nat.le_of_ble_eq_true rfl, Nat.le_of_ble_eq_true rfl⟩) hK hw hAw (ws_recv hK hw (q := 30) (Nat.lt_of_lt_of_le (Nat.le_of_ble_eq_true rfl : 30 < 191) hn) (mk_30 cA α) rfl) rfl hl.1 rfl (Nat.le_of_ble_eq_true rfl) dX11_book_143 ⟨Nat.zero_le _, Nat.zero_le _⟩ (fun S7 eS7 H locs hw => ?_)
                refine lv_aload_n hx hb dX11_book_146 rfl (lv_at hl 1 rfl) ?_
                refine lv_iload hx hb dX11_book_147 (lv_at hl 0 rfl) ?_
                refine lv_iconst (v := nI 4) hx hb dX11_book_149 (by decide) ?_
                refine lv_iconst (v := nI 0) hx hb dX11_book_150 (by decide) ?_
                refine x_callVV (q := 30) (C := RX11) (As := [.int (nI N), .int (nI 4), .int (nI 0)]) (rest := []) ⟨hx, hb, hml, hown, hts⟩ (ct_X11_put l D cA α n _ hn S7 N 4 (nI 0) (by omega)) (cwV 3 hts gX11_book_X11_put rfl rfl rfl (by decide +kernel) ⟨Nat.le_of_ble_eq_true rfl, Nat.le_of_ble_eq_true rfl⟩) hK hw hAw (ws_recv hK hw (q := 30) (Nat.lt_of_lt_of_le (Nat.le_of_ble_eq_true rfl : 30 < 191) hn) (mk_30 cA α) rfl) rfl hl.1 rfl (Nat.le_of_ble_eq_true rfl) dX11_book_151 ⟨Nat.zero_le _, Nat.zero_le _⟩ (fun S8 eS8 H locs hw => ?_)
                refine lv_aload_n hx hb dX11_book_154 rfl (lv_at hl 1 rfl) ?_
                refine lv_iload hx hb dX11_book_155 (lv_at hl 0 rfl) ?_
                refine lv_iconst (v := nI 5) hx hb dX11_book_157 (by decide) ?_
                refine lv_iconst (v := (-1)) hx hb dX11_book_158 (by decide) ?_
                refine x_callVV (q := 30) (C := RX11) (As := [.int (nI N), .int (nI 5), .int (-1)]) (rest := []) ⟨hx, hb, hml, hown, hts⟩ (ct_X11_put l D cA α n _ hn S8 N 5 (-1) (by omega)) (cwV 3 hts gX11_book_X11_put rfl rfl rfl (by decide +kernel) ⟨Nat.le_of_ble_eq_true rfl, Nat.le_of_ble_eq_true rfl⟩) hK hw hAw (ws_recv hK hw (q := 30) (Nat.lt_of_lt_of_le (Nat.le_of_ble_eq_true rfl : 30 < 191) hn) (mk_30 cA α) rfl) rfl hl.1 rfl (Nat.le_of_ble_eq_true rfl) dX11_book_159 ⟨Nat.zero_le _, Nat.zero_le _⟩ (fun S9 eS9 H locs hw => ?_)
                refine lv_aload_n hx hb dX11_book_162 rfl (lv_at hl 1 rfl) ?_
                refine x_get (v := .ref (α 35)) (C := RX11) (T := TX11) (N := 24) hx hb hts (fun _ h => List.mem_cons_of_mem _ (List.mem_append_right _ h)) hown hK hw 30 (Nat.lt_of_lt_of_le (Nat.le_of_ble_eq_true rfl : 30 < 191) hn) (mk_30 cA α) rfl 14 (by decide) (hts _ (List.mem_of_getElem? (i := 5) rfl)) (fun _ h9 => h9) rfl dX11_book_163 ?_
                refine lv_bipush (v := nI 9) hx hb dX11_book_166 (by decide) ?_
                refine lv_iload hx hb dX11_book_168 (lv_at hl 0 rfl) ?_
                refine xn_iadd hx hb dX11_book_170 ?_
                refine lv_iload hx hb dX11_book_171 (lv_at hl 6 rfl) ?_
                refine lv_i2l hx hb dX11_book_173 rfl ?_
                refine x_last (x := am.toInt64) hx hb hK hw 35 309 (Nat.lt_of_lt_of_le (Nat.le_of_ble_eq_true rfl : 35 < 191) hn) (mk_35 cA α) (9 + N) rfl (by omega) (by decide) dX11_book_174 (fun S10 eS10 H locs hw => ?_)
                refine lv_aload_n hx hb dX11_book_175 rfl (lv_at hl 1 rfl) ?_
                refine x_get (v := .ref (α 35)) (C := RX11) (T := TX11) (N := 24) hx hb hts (fun _ h => List.mem_cons_of_mem _ (List.mem_append_right _ h)) hown hK hw 30 (Nat.lt_of_lt_of_le (Nat.le_of_ble_eq_true rfl : 30 < 191) hn) (mk_30 cA α) rfl 14 (by decide) (hts _ (List.mem_of_getElem? (i := 5) rfl)) (fun _ h9 => h9) rfl dX11_book_176 ?_
                refine lv_bipush (v := nI 109) hx hb dX11_book_179 (by decide) ?_
                refine lv_iload hx hb dX11_book_181 (lv_at hl 0 rfl) ?_
                refine xn_iadd hx hb dX11_book_183 ?_
                refine lv_aload_n hx hb dX11_book_184 rfl (lv_at hl 1 rfl) ?_
                refine lv_iload hx hb dX11_book_185 (lv_at hl 0 rfl) ?_
                refine x_callVLr (q := 30) (C := RX11) (As := [.int (nI N)]) (rest := [.int (nI (109 + N)), .ref (α 35)]) ⟨hx, hb, hml, hown, hts⟩ (ct_X11_valueOf l D cA α n _ hn S10 N (by subst eS10; subst eS9; subst eS8; subst eS7; subst eS6; subst eS5; subst eS4; subst eS3; subst eS2; subst eS1; exact rBk2_ok hN2 (by omega) (by rw [K0_33]; exact hcu))) (cwV 1 hts gX11_book_X11_valueOf rfl rfl rfl (by decide +kernel) ⟨Nat.le_of_ble_eq_true rfl, Nat.le_of_ble_eq_true rfl⟩) hK hw hAw (ws_recv hK hw (q := 30) (Nat.lt_of_lt_of_le (Nat.le_of_ble_eq_true rfl : 30 < 191) hn) (mk_30 cA α) rfl) rfl hl.1 rfl (Nat.le_of_ble_eq_true rfl) dX11_book_187 ⟨Nat.zero_le _, Nat.zero_le _⟩ (fun H locs hw => ?_)
                refine x_last (x := rVal S10 N) hx hb hK hw 35 309 (Nat.lt_of_lt_of_le (Nat.le_of_ble_eq_true rfl : 35 < 191) hn) (mk_35 cA α) (109 + N) rfl (by omega) (by decide) dX11_book_190 (fun S11 eS11 H locs hw => ?_)
                refine lv_iload hx hb dX11_book_191 (lv_at hl 0 rfl) ?_
                exact ret_i hx hb hr hlocks hK hw dX11_book_193 rfl (by subst_vars; rfl)
              · exact absurd c7 (by omega)
            · exact absurd (show wiL _ 1 1000000 = true from (wi2_iff (a := 1) (b := 1000000) (by decide) (by decide)).mpr h3) (by rw [c6]; decide)
    · exact absurd (isCo_t (S := S1) (by subst eS1; exact hC) hC2 hb0) (by rw [c2]; decide)

set_option maxRecDepth 100000 in
set_option maxHeartbeats 1000000 in
theorem ct_X11_bookX (l : Launch) (D : va_G) (cA : Nat → ClassId) (α : Nat → Nat) (n sz : Nat) (hn : 191 ≤ n) (S : Mem) (Cn : Nat) (hC : S.1 33 1 = nI Cn) (hC2 : Cn ≤ 6) (x y sd rf am : Int32) (hx9 : (¬ ∃ i, i < Cn ∧ x = nI i) ∨ ¬ ∃ i, i < Cn ∧ y = nI i) : CtI l yX11_book wsX11_book ({ frames := 3, cells := 0, slots := 0, locals := 64 }) D cA α n sz [.ref (α 30), .int x, .int y, .int sd, .int rf, .int am] S (nI 0) (setI (setI S 30 0 (nI 0)) 30 0 (nI 1)) := by
  refine ct_enter cX11_book 7 (some .int) (by decide) rfl (Nat.le_of_ble_eq_true rfl) ?_
  intro p e s m below meth c hx hb hr hml hlocks hown hts hK hsz hw ls hl
  have hown : s.vm.findClass RX11 = some m.cls := hown
  have hAw : ∀ z, Aw α n s.heap.size z → Aw α n sz z := by rw [hsz]; exact fun _ h => h
  have hl : lv_has ls 7 [(0, .ref (α 30)), (1, .int x), (2, .int y), (3, .int sd), (4, .int rf), (5, .int am)] := hl
  refine lv_aload_n hx hb dX11_book_0 rfl (lv_at hl 0 rfl) ?_
  refine lv_iconst (v := nI 0) hx hb dX11_book_1 (by decide) ?_
  refine x_putI (x := nI 0) (ty := .int) (C := RX11) (T := TX11) (N := 24) hx hb hts (fun _ h => List.mem_cons_of_mem _ (List.mem_append_right _ h)) tyX11 tyX11_ok nmX11 hown hK hw 30 (Nat.lt_of_lt_of_le (Nat.le_of_ble_eq_true rfl : 30 < 191) hn) (mk_30 cA α) rfl 0 (by decide) (hts _ (List.mem_of_getElem? (i := 1) rfl)) (fun _ h9 => h9) rfl rfl rfl rfl (Nat.le_of_ble_eq_true rfl) rfl dX11_book_2 (fun S1 eS1 H locs hw => ?_)
  refine lv_aload_n hx hb dX11_book_5 rfl (lv_at hl 0 rfl) ?_
  refine lv_iload_n hx hb dX11_book_6 rfl (lv_at hl 1 rfl) ?_
  refine x_callVIr (q := 30) (C := RX11) (As := [.int x]) (rest := []) ⟨hx, hb, hml, hown, hts⟩ (ct_X11_isCompany l D cA α n _ hn S1 x) (cwV 1 hts gX11_book_X11_isCompany rfl rfl rfl (by decide +kernel) ⟨Nat.le_of_ble_eq_true rfl, Nat.le_of_ble_eq_true rfl⟩) hK hw hAw (ws_recv hK hw (q := 30) (Nat.lt_of_lt_of_le (Nat.le_of_ble_eq_true rfl : 30 < 191) hn) (mk_30 cA α) rfl) rfl hl.1 rfl (Nat.le_of_ble_eq_true rfl) dX11_book_7 ⟨Nat.zero_le _, Nat.zero_le _⟩ (fun H locs hw => ?_)
  refine xb_eq (b := (isCoR S1 x)) (tgt := 21) hx hb dX11_book_10 (by decide) (fun c1 => ?_) (fun c1 => ?_)
  · skip
    refine lv_aload_n hx hb dX11_book_21 rfl (lv_at hl 0 rfl) ?_
    refine lv_iconst (v := nI 1) hx hb dX11_book_22 (by decide) ?_
    refine x_callVI (q := 30) (C := RX11) (As := [.int (nI 1)]) (rest := []) ⟨hx, hb, hml, hown, hts⟩ (ct_X11_fail l D cA α n _ hn S1 (nI 1)) (cwV 1 hts gX11_book_X11_fail rfl rfl rfl (by decide +kernel) ⟨Nat.le_of_ble_eq_true rfl, Nat.le_of_ble_eq_true rfl⟩) hK hw hAw (ws_recv hK hw (q := 30) (Nat.lt_of_lt_of_le (Nat.le_of_ble_eq_true rfl : 30 < 191) hn) (mk_30 cA α) rfl) rfl hl.1 rfl (Nat.le_of_ble_eq_true rfl) dX11_book_23 ⟨Nat.zero_le _, Nat.zero_le _⟩ (fun S2 eS2 H locs hw => ?_)
    exact ret_i hx hb hr hlocks hK hw dX11_book_26 rfl (by subst_vars; rfl)
  · skip
    refine lv_aload_n hx hb dX11_book_13 rfl (lv_at hl 0 rfl) ?_
    refine lv_iload_n hx hb dX11_book_14 rfl (lv_at hl 2 rfl) ?_
    refine x_callVIr (q := 30) (C := RX11) (As := [.int y]) (rest := []) ⟨hx, hb, hml, hown, hts⟩ (ct_X11_isCompany l D cA α n _ hn S1 y) (cwV 1 hts gX11_book_X11_isCompany rfl rfl rfl (by decide +kernel) ⟨Nat.le_of_ble_eq_true rfl, Nat.le_of_ble_eq_true rfl⟩) hK hw hAw (ws_recv hK hw (q := 30) (Nat.lt_of_lt_of_le (Nat.le_of_ble_eq_true rfl : 30 < 191) hn) (mk_30 cA α) rfl) rfl hl.1 rfl (Nat.le_of_ble_eq_true rfl) dX11_book_15 ⟨Nat.zero_le _, Nat.zero_le _⟩ (fun H locs hw => ?_)
    refine xb_ne (b := (isCoR S1 y)) (tgt := 27) hx hb dX11_book_18 (by decide) (fun c2 => ?_) (fun c2 => ?_)
    · rcases hx9 with h | h; exact absurd (isCo_f (S := S1) (by subst eS1; exact hC) hC2 h) (by rw [c1]; decide); exact absurd (isCo_f (S := S1) (by subst eS1; exact hC) hC2 h) (by rw [c2]; decide)
    · skip
      refine lv_aload_n hx hb dX11_book_21 rfl (lv_at hl 0 rfl) ?_
      refine lv_iconst (v := nI 1) hx hb dX11_book_22 (by decide) ?_
      refine x_callVI (q := 30) (C := RX11) (As := [.int (nI 1)]) (rest := []) ⟨hx, hb, hml, hown, hts⟩ (ct_X11_fail l D cA α n _ hn S1 (nI 1)) (cwV 1 hts gX11_book_X11_fail rfl rfl rfl (by decide +kernel) ⟨Nat.le_of_ble_eq_true rfl, Nat.le_of_ble_eq_true rfl⟩) hK hw hAw (ws_recv hK hw (q := 30) (Nat.lt_of_lt_of_le (Nat.le_of_ble_eq_true rfl : 30 < 191) hn) (mk_30 cA α) rfl) rfl hl.1 rfl (Nat.le_of_ble_eq_true rfl) dX11_book_23 ⟨Nat.zero_le _, Nat.zero_le _⟩ (fun S3 eS3 H locs hw => ?_)
      exact ret_i hx hb hr hlocks hK hw dX11_book_26 rfl (by subst_vars; rfl)

set_option maxRecDepth 100000 in
set_option maxHeartbeats 1000000 in
theorem ct_X11_bookY (l : Launch) (D : va_G) (cA : Nat → ClassId) (α : Nat → Nat) (n sz : Nat) (hn : 191 ≤ n) (S : Mem) (Cn : Nat) (hC : S.1 33 1 = nI Cn) (hC2 : Cn ≤ 6) (a b : Nat) (ha : a < Cn) (hb0 : b < Cn) (sd rf am : Int32) (hy9 : a = b ∨ (¬ ∃ i, 0 ≤ i ∧ i ≤ 1 ∧ sd = nI i) ∨ (¬ ∃ i, 0 ≤ i ∧ i ≤ 999 ∧ rf = nI i) ∨ ¬ ∃ i, 1 ≤ i ∧ i ≤ 1000000 ∧ am = nI i) : CtI l yX11_book wsX11_book ({ frames := 3, cells := 0, slots := 0, locals := 64 }) D cA α n sz [.ref (α 30), .int (nI a), .int (nI b), .int sd, .int rf, .int am] S (nI 0) (setI (setI S 30 0 (nI 0)) 30 0 (nI 2)) := by
  refine ct_enter cX11_book 7 (some .int) (by decide) rfl (Nat.le_of_ble_eq_true rfl) ?_
  intro p e s m below meth c hx hb hr hml hlocks hown hts hK hsz hw ls hl
  have hown : s.vm.findClass RX11 = some m.cls := hown
  have hAw : ∀ z, Aw α n s.heap.size z → Aw α n sz z := by rw [hsz]; exact fun _ h => h
  have hl : lv_has ls 7 [(0, .ref (α 30)), (1, .int (nI a)), (2, .int (nI b)), (3, .int sd), (4, .int rf), (5, .int am)] := hl
  refine lv_aload_n hx hb dX11_book_0 rfl (lv_at hl 0 rfl) ?_
  refine lv_iconst (v := nI 0) hx hb dX11_book_1 (by decide) ?_
  refine x_putI (x := nI 0) (ty := .int) (C := RX11) (T := TX11) (N := 24) hx hb hts (fun _ h => List.mem_cons_of_mem _ (List.mem_append_right _ h)) tyX11 tyX11_ok nmX11 hown hK hw 30 (Nat.lt_of_lt_of_le (Nat.le_of_ble_eq_true rfl : 30 < 191) hn) (mk_30 cA α) rfl 0 (by decide) (hts _ (List.mem_of_getElem? (i := 1) rfl)) (fun _ h9 => h9) rfl rfl rfl rfl (Nat.le_of_ble_eq_true rfl) rfl dX11_book_2 (fun S1 eS1 H locs hw => ?_)
  refine lv_aload_n hx hb dX11_book_5 rfl (lv_at hl 0 rfl) ?_
  refine lv_iload_n hx hb dX11_book_6 rfl (lv_at hl 1 rfl) ?_
  refine x_callVIr (q := 30) (C := RX11) (As := [.int (nI a)]) (rest := []) ⟨hx, hb, hml, hown, hts⟩ (ct_X11_isCompany l D cA α n _ hn S1 (nI a)) (cwV 1 hts gX11_book_X11_isCompany rfl rfl rfl (by decide +kernel) ⟨Nat.le_of_ble_eq_true rfl, Nat.le_of_ble_eq_true rfl⟩) hK hw hAw (ws_recv hK hw (q := 30) (Nat.lt_of_lt_of_le (Nat.le_of_ble_eq_true rfl : 30 < 191) hn) (mk_30 cA α) rfl) rfl hl.1 rfl (Nat.le_of_ble_eq_true rfl) dX11_book_7 ⟨Nat.zero_le _, Nat.zero_le _⟩ (fun H locs hw => ?_)
  refine xb_eq (b := (isCoR S1 (nI a))) (tgt := 21) hx hb dX11_book_10 (by decide) (fun c1 => ?_) (fun c1 => ?_)
  · exact absurd (isCo_t (S := S1) (by subst eS1; exact hC) hC2 ha) (by rw [c1]; decide)
  · skip
    refine lv_aload_n hx hb dX11_book_13 rfl (lv_at hl 0 rfl) ?_
    refine lv_iload_n hx hb dX11_book_14 rfl (lv_at hl 2 rfl) ?_
    refine x_callVIr (q := 30) (C := RX11) (As := [.int (nI b)]) (rest := []) ⟨hx, hb, hml, hown, hts⟩ (ct_X11_isCompany l D cA α n _ hn S1 (nI b)) (cwV 1 hts gX11_book_X11_isCompany rfl rfl rfl (by decide +kernel) ⟨Nat.le_of_ble_eq_true rfl, Nat.le_of_ble_eq_true rfl⟩) hK hw hAw (ws_recv hK hw (q := 30) (Nat.lt_of_lt_of_le (Nat.le_of_ble_eq_true rfl : 30 < 191) hn) (mk_30 cA α) rfl) rfl hl.1 rfl (Nat.le_of_ble_eq_true rfl) dX11_book_15 ⟨Nat.zero_le _, Nat.zero_le _⟩ (fun H locs hw => ?_)
    refine xb_ne (b := (isCoR S1 (nI b))) (tgt := 27) hx hb dX11_book_18 (by decide) (fun c2 => ?_) (fun c2 => ?_)
    · skip
      refine lv_iload_n hx hb dX11_book_27 rfl (lv_at hl 1 rfl) ?_
      refine lv_iload_n hx hb dX11_book_28 rfl (lv_at hl 2 rfl) ?_
      refine xn_icmp_eq (tgt := 68) hx hb (by omega) (by omega) dX11_book_29 (by decide) (fun c3 => ?_) (fun c3 => ?_)
      · skip
        refine lv_aload_n hx hb dX11_book_68 rfl (lv_at hl 0 rfl) ?_
        refine lv_iconst (v := nI 2) hx hb dX11_book_69 (by decide) ?_
        refine x_callVI (q := 30) (C := RX11) (As := [.int (nI 2)]) (rest := []) ⟨hx, hb, hml, hown, hts⟩ (ct_X11_fail l D cA α n _ hn S1 (nI 2)) (cwV 1 hts gX11_book_X11_fail rfl rfl rfl (by decide +kernel) ⟨Nat.le_of_ble_eq_true rfl, Nat.le_of_ble_eq_true rfl⟩) hK hw hAw (ws_recv hK hw (q := 30) (Nat.lt_of_lt_of_le (Nat.le_of_ble_eq_true rfl : 30 < 191) hn) (mk_30 cA α) rfl) rfl hl.1 rfl (Nat.le_of_ble_eq_true rfl) dX11_book_70 ⟨Nat.zero_le _, Nat.zero_le _⟩ (fun S2 eS2 H locs hw => ?_)
        exact ret_i hx hb hr hlocks hK hw dX11_book_73 rfl (by subst_vars; rfl)
      · skip
        refine lv_iload_n hx hb dX11_book_32 rfl (lv_at hl 3 rfl) ?_
        refine lv_i2l hx hb dX11_book_33 rfl ?_
        refine lv_lconst (v := 0) hx hb dX11_book_34 (by decide) ?_
        refine lv_lconst (v := 1) hx hb dX11_book_35 (by decide) ?_
        refine x_callSIr (q := 0) (C := RX0) (As := [.long (sd.toInt64), .long (0), .long (1)]) (rest := []) ⟨hx, hb, hml, hown, hts⟩ (ct_X11_within l D cA α n _ hn S1 (sd.toInt64) (0) (1)) (va_cwS 3 hts gX11_book_X11_within rfl rfl rfl (by decide +kernel) ⟨Nat.le_of_ble_eq_true rfl, Nat.le_of_ble_eq_true rfl⟩) hK hw hAw rfl hl.1 rfl (Nat.le_of_ble_eq_true rfl) dX11_book_36 ⟨Nat.zero_le _, Nat.zero_le _⟩ (fun H locs hw => ?_)
        refine xb_eq (b := (wiL (sd.toInt64) (0) (1))) (tgt := 68) hx hb dX11_book_39 (by decide) (fun c4 => ?_) (fun c4 => ?_)
        · skip
          refine lv_aload_n hx hb dX11_book_68 rfl (lv_at hl 0 rfl) ?_
          refine lv_iconst (v := nI 2) hx hb dX11_book_69 (by decide) ?_
          refine x_callVI (q := 30) (C := RX11) (As := [.int (nI 2)]) (rest := []) ⟨hx, hb, hml, hown, hts⟩ (ct_X11_fail l D cA α n _ hn S1 (nI 2)) (cwV 1 hts gX11_book_X11_fail rfl rfl rfl (by decide +kernel) ⟨Nat.le_of_ble_eq_true rfl, Nat.le_of_ble_eq_true rfl⟩) hK hw hAw (ws_recv hK hw (q := 30) (Nat.lt_of_lt_of_le (Nat.le_of_ble_eq_true rfl : 30 < 191) hn) (mk_30 cA α) rfl) rfl hl.1 rfl (Nat.le_of_ble_eq_true rfl) dX11_book_70 ⟨Nat.zero_le _, Nat.zero_le _⟩ (fun S3 eS3 H locs hw => ?_)
          exact ret_i hx hb hr hlocks hK hw dX11_book_73 rfl (by subst_vars; rfl)
        · skip
          refine lv_iload hx hb dX11_book_42 (lv_at hl 4 rfl) ?_
          refine lv_i2l hx hb dX11_book_44 rfl ?_
          refine lv_lconst (v := 0) hx hb dX11_book_45 (by decide) ?_
          refine lv_ldc2 (v := 999) hx hb hown (hts _ (List.mem_of_getElem? (i := 2) rfl)) dX11_book_46 ?_
          refine x_callSIr (q := 0) (C := RX0) (As := [.long (rf.toInt64), .long (0), .long (999)]) (rest := []) ⟨hx, hb, hml, hown, hts⟩ (ct_X11_within l D cA α n _ hn S1 (rf.toInt64) (0) (999)) (va_cwS 3 hts gX11_book_X11_within rfl rfl rfl (by decide +kernel) ⟨Nat.le_of_ble_eq_true rfl, Nat.le_of_ble_eq_true rfl⟩) hK hw hAw rfl hl.1 rfl (Nat.le_of_ble_eq_true rfl) dX11_book_49 ⟨Nat.zero_le _, Nat.zero_le _⟩ (fun H locs hw => ?_)
          refine xb_eq (b := (wiL (rf.toInt64) (0) (999))) (tgt := 68) hx hb dX11_book_52 (by decide) (fun c5 => ?_) (fun c5 => ?_)
          · skip
            refine lv_aload_n hx hb dX11_book_68 rfl (lv_at hl 0 rfl) ?_
            refine lv_iconst (v := nI 2) hx hb dX11_book_69 (by decide) ?_
            refine x_callVI (q := 30) (C := RX11) (As := [.int (nI 2)]) (rest := []) ⟨hx, hb, hml, hown, hts⟩ (ct_X11_fail l D cA α n _ hn S1 (nI 2)) (cwV 1 hts gX11_book_X11_fail rfl rfl rfl (by decide +kernel) ⟨Nat.le_of_ble_eq_true rfl, Nat.le_of_ble_eq_true rfl⟩) hK hw hAw (ws_recv hK hw (q := 30) (Nat.lt_of_lt_of_le (Nat.le_of_ble_eq_true rfl : 30 < 191) hn) (mk_30 cA α) rfl) rfl hl.1 rfl (Nat.le_of_ble_eq_true rfl) dX11_book_70 ⟨Nat.zero_le _, Nat.zero_le _⟩ (fun S4 eS4 H locs hw => ?_)
            exact ret_i hx hb hr hlocks hK hw dX11_book_73 rfl (by subst_vars; rfl)
          · skip
            refine lv_iload hx hb dX11_book_55 (lv_at hl 5 rfl) ?_
            refine lv_i2l hx hb dX11_book_57 rfl ?_
            refine lv_lconst (v := 1) hx hb dX11_book_58 (by decide) ?_
            refine lv_ldc2 (v := 1000000) hx hb hown (hts _ (List.mem_of_getElem? (i := 3) rfl)) dX11_book_59 ?_
            refine x_callSIr (q := 0) (C := RX0) (As := [.long (am.toInt64), .long (1), .long (1000000)]) (rest := []) ⟨hx, hb, hml, hown, hts⟩ (ct_X11_within l D cA α n _ hn S1 (am.toInt64) (1) (1000000)) (va_cwS 3 hts gX11_book_X11_within rfl rfl rfl (by decide +kernel) ⟨Nat.le_of_ble_eq_true rfl, Nat.le_of_ble_eq_true rfl⟩) hK hw hAw rfl hl.1 rfl (Nat.le_of_ble_eq_true rfl) dX11_book_62 ⟨Nat.zero_le _, Nat.zero_le _⟩ (fun H locs hw => ?_)
            refine xb_ne (b := (wiL (am.toInt64) (1) (1000000))) (tgt := 74) hx hb dX11_book_65 (by decide) (fun c6 => ?_) (fun c6 => ?_)
            · rcases hy9 with h | h | h | h; exact absurd h c3; exact absurd (show wiL _ 0 1 = false from w2f (a := 0) (b := 1) h (by decide) (by decide)) (by rw [c4]; decide); exact absurd (show wiL _ 0 999 = false from w2f (a := 0) (b := 999) h (by decide) (by decide)) (by rw [c5]; decide); exact absurd (show wiL _ 1 1000000 = false from w2f (a := 1) (b := 1000000) h (by decide) (by decide)) (by rw [c6]; decide)
            · skip
              refine lv_aload_n hx hb dX11_book_68 rfl (lv_at hl 0 rfl) ?_
              refine lv_iconst (v := nI 2) hx hb dX11_book_69 (by decide) ?_
              refine x_callVI (q := 30) (C := RX11) (As := [.int (nI 2)]) (rest := []) ⟨hx, hb, hml, hown, hts⟩ (ct_X11_fail l D cA α n _ hn S1 (nI 2)) (cwV 1 hts gX11_book_X11_fail rfl rfl rfl (by decide +kernel) ⟨Nat.le_of_ble_eq_true rfl, Nat.le_of_ble_eq_true rfl⟩) hK hw hAw (ws_recv hK hw (q := 30) (Nat.lt_of_lt_of_le (Nat.le_of_ble_eq_true rfl : 30 < 191) hn) (mk_30 cA α) rfl) rfl hl.1 rfl (Nat.le_of_ble_eq_true rfl) dX11_book_70 ⟨Nat.zero_le _, Nat.zero_le _⟩ (fun S5 eS5 H locs hw => ?_)
              exact ret_i hx hb hr hlocks hK hw dX11_book_73 rfl (by subst_vars; rfl)
    · exact absurd (isCo_t (S := S1) (by subst eS1; exact hC) hC2 hb0) (by rw [c2]; decide)

set_option maxRecDepth 100000 in
set_option maxHeartbeats 1000000 in
theorem ct_X11_bookZ (l : Launch) (D : va_G) (cA : Nat → ClassId) (α : Nat → Nat) (n sz : Nat) (hn : 191 ≤ n) (S : Mem) (Cn : Nat) (hC : S.1 33 1 = nI Cn) (hC2 : Cn ≤ 6) (a b : Nat) (ha : a < Cn) (hb0 : b < Cn) (hab : a ≠ b) (sd rf am : Int32) (h1 : ∃ i, 0 ≤ i ∧ i ≤ 1 ∧ sd = nI i) (h2 : ∃ i, 0 ≤ i ∧ i ≤ 999 ∧ rf = nI i) (h3 : ∃ i, 1 ≤ i ∧ i ≤ 1000000 ∧ am = nI i) (hN : S.1 34 0 = nI 100) : CtI l yX11_book wsX11_book ({ frames := 3, cells := 0, slots := 0, locals := 64 }) D cA α n sz [.ref (α 30), .int (nI a), .int (nI b), .int sd, .int rf, .int am] S (nI 0) (setI (setI S 30 0 (nI 0)) 30 0 (nI 3)) := by
  refine ct_enter cX11_book 7 (some .int) (by decide) rfl (Nat.le_of_ble_eq_true rfl) ?_
  intro p e s m below meth c hx hb hr hml hlocks hown hts hK hsz hw ls hl
  have hown : s.vm.findClass RX11 = some m.cls := hown
  have hAw : ∀ z, Aw α n s.heap.size z → Aw α n sz z := by rw [hsz]; exact fun _ h => h
  have hl : lv_has ls 7 [(0, .ref (α 30)), (1, .int (nI a)), (2, .int (nI b)), (3, .int sd), (4, .int rf), (5, .int am)] := hl
  refine lv_aload_n hx hb dX11_book_0 rfl (lv_at hl 0 rfl) ?_
  refine lv_iconst (v := nI 0) hx hb dX11_book_1 (by decide) ?_
  refine x_putI (x := nI 0) (ty := .int) (C := RX11) (T := TX11) (N := 24) hx hb hts (fun _ h => List.mem_cons_of_mem _ (List.mem_append_right _ h)) tyX11 tyX11_ok nmX11 hown hK hw 30 (Nat.lt_of_lt_of_le (Nat.le_of_ble_eq_true rfl : 30 < 191) hn) (mk_30 cA α) rfl 0 (by decide) (hts _ (List.mem_of_getElem? (i := 1) rfl)) (fun _ h9 => h9) rfl rfl rfl rfl (Nat.le_of_ble_eq_true rfl) rfl dX11_book_2 (fun S1 eS1 H locs hw => ?_)
  refine lv_aload_n hx hb dX11_book_5 rfl (lv_at hl 0 rfl) ?_
  refine lv_iload_n hx hb dX11_book_6 rfl (lv_at hl 1 rfl) ?_
  refine x_callVIr (q := 30) (C := RX11) (As := [.int (nI a)]) (rest := []) ⟨hx, hb, hml, hown, hts⟩ (ct_X11_isCompany l D cA α n _ hn S1 (nI a)) (cwV 1 hts gX11_book_X11_isCompany rfl rfl rfl (by decide +kernel) ⟨Nat.le_of_ble_eq_true rfl, Nat.le_of_ble_eq_true rfl⟩) hK hw hAw (ws_recv hK hw (q := 30) (Nat.lt_of_lt_of_le (Nat.le_of_ble_eq_true rfl : 30 < 191) hn) (mk_30 cA α) rfl) rfl hl.1 rfl (Nat.le_of_ble_eq_true rfl) dX11_book_7 ⟨Nat.zero_le _, Nat.zero_le _⟩ (fun H locs hw => ?_)
  refine xb_eq (b := (isCoR S1 (nI a))) (tgt := 21) hx hb dX11_book_10 (by decide) (fun c1 => ?_) (fun c1 => ?_)
  · exact absurd (isCo_t (S := S1) (by subst eS1; exact hC) hC2 ha) (by rw [c1]; decide)
  · skip
    refine lv_aload_n hx hb dX11_book_13 rfl (lv_at hl 0 rfl) ?_
    refine lv_iload_n hx hb dX11_book_14 rfl (lv_at hl 2 rfl) ?_
    refine x_callVIr (q := 30) (C := RX11) (As := [.int (nI b)]) (rest := []) ⟨hx, hb, hml, hown, hts⟩ (ct_X11_isCompany l D cA α n _ hn S1 (nI b)) (cwV 1 hts gX11_book_X11_isCompany rfl rfl rfl (by decide +kernel) ⟨Nat.le_of_ble_eq_true rfl, Nat.le_of_ble_eq_true rfl⟩) hK hw hAw (ws_recv hK hw (q := 30) (Nat.lt_of_lt_of_le (Nat.le_of_ble_eq_true rfl : 30 < 191) hn) (mk_30 cA α) rfl) rfl hl.1 rfl (Nat.le_of_ble_eq_true rfl) dX11_book_15 ⟨Nat.zero_le _, Nat.zero_le _⟩ (fun H locs hw => ?_)
    refine xb_ne (b := (isCoR S1 (nI b))) (tgt := 27) hx hb dX11_book_18 (by decide) (fun c2 => ?_) (fun c2 => ?_)
    · skip
      refine lv_iload_n hx hb dX11_book_27 rfl (lv_at hl 1 rfl) ?_
      refine lv_iload_n hx hb dX11_book_28 rfl (lv_at hl 2 rfl) ?_
      refine xn_icmp_eq (tgt := 68) hx hb (by omega) (by omega) dX11_book_29 (by decide) (fun c3 => ?_) (fun c3 => ?_)
      · exact absurd c3 hab
      · skip
        refine lv_iload_n hx hb dX11_book_32 rfl (lv_at hl 3 rfl) ?_
        refine lv_i2l hx hb dX11_book_33 rfl ?_
        refine lv_lconst (v := 0) hx hb dX11_book_34 (by decide) ?_
        refine lv_lconst (v := 1) hx hb dX11_book_35 (by decide) ?_
        refine x_callSIr (q := 0) (C := RX0) (As := [.long (sd.toInt64), .long (0), .long (1)]) (rest := []) ⟨hx, hb, hml, hown, hts⟩ (ct_X11_within l D cA α n _ hn S1 (sd.toInt64) (0) (1)) (va_cwS 3 hts gX11_book_X11_within rfl rfl rfl (by decide +kernel) ⟨Nat.le_of_ble_eq_true rfl, Nat.le_of_ble_eq_true rfl⟩) hK hw hAw rfl hl.1 rfl (Nat.le_of_ble_eq_true rfl) dX11_book_36 ⟨Nat.zero_le _, Nat.zero_le _⟩ (fun H locs hw => ?_)
        refine xb_eq (b := (wiL (sd.toInt64) (0) (1))) (tgt := 68) hx hb dX11_book_39 (by decide) (fun c4 => ?_) (fun c4 => ?_)
        · exact absurd (show wiL _ 0 1 = true from (wi2_iff (a := 0) (b := 1) (by decide) (by decide)).mpr h1) (by rw [c4]; decide)
        · skip
          refine lv_iload hx hb dX11_book_42 (lv_at hl 4 rfl) ?_
          refine lv_i2l hx hb dX11_book_44 rfl ?_
          refine lv_lconst (v := 0) hx hb dX11_book_45 (by decide) ?_
          refine lv_ldc2 (v := 999) hx hb hown (hts _ (List.mem_of_getElem? (i := 2) rfl)) dX11_book_46 ?_
          refine x_callSIr (q := 0) (C := RX0) (As := [.long (rf.toInt64), .long (0), .long (999)]) (rest := []) ⟨hx, hb, hml, hown, hts⟩ (ct_X11_within l D cA α n _ hn S1 (rf.toInt64) (0) (999)) (va_cwS 3 hts gX11_book_X11_within rfl rfl rfl (by decide +kernel) ⟨Nat.le_of_ble_eq_true rfl, Nat.le_of_ble_eq_true rfl⟩) hK hw hAw rfl hl.1 rfl (Nat.le_of_ble_eq_true rfl) dX11_book_49 ⟨Nat.zero_le _, Nat.zero_le _⟩ (fun H locs hw => ?_)
          refine xb_eq (b := (wiL (rf.toInt64) (0) (999))) (tgt := 68) hx hb dX11_book_52 (by decide) (fun c5 => ?_) (fun c5 => ?_)
          · exact absurd (show wiL _ 0 999 = true from (wi2_iff (a := 0) (b := 999) (by decide) (by decide)).mpr h2) (by rw [c5]; decide)
          · skip
            refine lv_iload hx hb dX11_book_55 (lv_at hl 5 rfl) ?_
            refine lv_i2l hx hb dX11_book_57 rfl ?_
            refine lv_lconst (v := 1) hx hb dX11_book_58 (by decide) ?_
            refine lv_ldc2 (v := 1000000) hx hb hown (hts _ (List.mem_of_getElem? (i := 3) rfl)) dX11_book_59 ?_
            refine x_callSIr (q := 0) (C := RX0) (As := [.long (am.toInt64), .long (1), .long (1000000)]) (rest := []) ⟨hx, hb, hml, hown, hts⟩ (ct_X11_within l D cA α n _ hn S1 (am.toInt64) (1) (1000000)) (va_cwS 3 hts gX11_book_X11_within rfl rfl rfl (by decide +kernel) ⟨Nat.le_of_ble_eq_true rfl, Nat.le_of_ble_eq_true rfl⟩) hK hw hAw rfl hl.1 rfl (Nat.le_of_ble_eq_true rfl) dX11_book_62 ⟨Nat.zero_le _, Nat.zero_le _⟩ (fun H locs hw => ?_)
            refine xb_ne (b := (wiL (am.toInt64) (1) (1000000))) (tgt := 74) hx hb dX11_book_65 (by decide) (fun c6 => ?_) (fun c6 => ?_)
            · skip
              refine lv_aload_n hx hb dX11_book_74 rfl (lv_at hl 0 rfl) ?_
              refine x_get (v := .ref (α 34)) (C := RX11) (T := TX11) (N := 24) hx hb hts (fun _ h => List.mem_cons_of_mem _ (List.mem_append_right _ h)) hown hK hw 30 (Nat.lt_of_lt_of_le (Nat.le_of_ble_eq_true rfl : 30 < 191) hn) (mk_30 cA α) rfl 13 (by decide) (hts _ (List.mem_of_getElem? (i := 4) rfl)) (fun _ h9 => h9) rfl dX11_book_75 ?_
              refine lv_iconst (v := nI 0) hx hb dX11_book_78 (by decide) ?_
              refine x_iald hx hb hK hw 34 1508 (Nat.lt_of_lt_of_le (Nat.le_of_ble_eq_true rfl : 34 < 191) hn) (mk_34 cA α) 0 rfl (by decide) (by decide) dX11_book_79 ?_
              refine x_topN (k := 100) (by subst eS1; exact hN) ?_
              refine lv_bipush (v := nI 100) hx hb dX11_book_80 (by decide) ?_
              refine xn_icmp_ne (tgt := 91) hx hb (by decide) (by decide) dX11_book_82 (by decide) (fun c7 => ?_) (fun c7 => ?_)
              · exact absurd rfl c7
              · skip
                refine lv_aload_n hx hb dX11_book_85 rfl (lv_at hl 0 rfl) ?_
                refine lv_iconst (v := nI 3) hx hb dX11_book_86 (by decide) ?_
                refine x_callVI (q := 30) (C := RX11) (As := [.int (nI 3)]) (rest := []) ⟨hx, hb, hml, hown, hts⟩ (ct_X11_fail l D cA α n _ hn S1 (nI 3)) (cwV 1 hts gX11_book_X11_fail rfl rfl rfl (by decide +kernel) ⟨Nat.le_of_ble_eq_true rfl, Nat.le_of_ble_eq_true rfl⟩) hK hw hAw (ws_recv hK hw (q := 30) (Nat.lt_of_lt_of_le (Nat.le_of_ble_eq_true rfl : 30 < 191) hn) (mk_30 cA α) rfl) rfl hl.1 rfl (Nat.le_of_ble_eq_true rfl) dX11_book_87 ⟨Nat.zero_le _, Nat.zero_le _⟩ (fun S2 eS2 H locs hw => ?_)
                exact ret_i hx hb hr hlocks hK hw dX11_book_90 rfl (by subst_vars; rfl)
            · exact absurd (show wiL _ 1 1000000 = true from (wi2_iff (a := 1) (b := 1000000) (by decide) (by decide)).mpr h3) (by rw [c6]; decide)
    · exact absurd (isCo_t (S := S1) (by subst eS1; exact hC) hC2 hb0) (by rw [c2]; decide)

def rAmt (S : Mem) (i b : Nat) : Int64 := rVal S i * 100 / (rRate S b).toInt64
def rAc1 (T : Mem) (i b : Nat) (v : Int64) : Mem := setI (setI (setJ T 35 (9 + b) v) 34 (8 + 6 * i + 4) (nI 1)) 34 (8 + 6 * b + 4) (nI 1)
def rAcc (T : Mem) (i b : Nat) (v : Int64) : Mem := setJ (rAc1 T i b v) 35 (109 + b) (rVal (rAc1 T i b v) b)
theorem rAc1_ok {T : Mem} {i b : Nat} {v : Int64} (h : okR T b) : okR (rAc1 T i b v) b := by
  refine okR_of2 h ?_ ?_
  · unfold rAc1; rw [sI_e, pk_un (by omega), sI_e, pk_un (by omega), sJ_1]
  · unfold rAc1; rw [sI_1 (by decide), sI_1 (by decide), sJ_1]
theorem rRate_of {S T : Mem} {j : Nat} (e1 : T.1 34 = S.1 34) (e2 : T.1 33 = S.1 33) : rRate T j = rRate S j := by
  unfold rRate; rw [e1, e2]

set_option maxRecDepth 100000 in
set_option maxHeartbeats 1000000 in
theorem ct_X11_accept (l : Launch) (D : va_G) (cA : Nat → ClassId) (α : Nat → Nat) (n sz : Nat) (hn : 191 ≤ n) (S : Mem) (N : Nat) (hN : S.1 34 0 = nI N) (hN2 : N ≤ 100) (i : Nat) (hi : i < N) (hs : S.1 34 (8 + 6 * i + 4) = nI 2) (b : Nat) (hb9 : S.1 34 (8 + 6 * i + 5) = nI b) (ho : okR S i) (ho2 : okR S b) (hrt : nI 1 ≤ rRate S b) (h1 : 1 ≤ rAmt S i b) (h2 : rAmt S i b ≤ 1000000000) (k : Nat) (hk : S.1 30 17 = nI k) (hk2 : k ≤ 10) : CtL l yX11_accept wsX11_accept ({ frames := 3, cells := 0, slots := 0, locals := 64 }) D cA α n sz [.ref (α 30), .int (nI i)] S (rAmt S i b) (rAcc (rKeep (setI (setI S 30 0 (nI 0)) 30 0 (nI 0)) k) i b (rAmt S i b)) := by
  refine ct_enter cX11_accept 5 (some .long) (by decide) rfl (Nat.le_of_ble_eq_true rfl) ?_
  intro p e s m below meth c hx hb hr hml hlocks hown hts hK hsz hw ls hl
  have hown : s.vm.findClass RX11 = some m.cls := hown
  have hAw : ∀ z, Aw α n s.heap.size z → Aw α n sz z := by rw [hsz]; exact fun _ h => h
  have hl : lv_has ls 5 [(0, .ref (α 30)), (1, .int (nI i))] := hl
  have hb7 := ho2.1
  refine lv_aload_n hx hb dX11_accept_0 rfl (lv_at hl 0 rfl) ?_
  refine lv_aload_n hx hb dX11_accept_1 rfl (lv_at hl 0 rfl) ?_
  refine lv_iload_n hx hb dX11_accept_2 rfl (lv_at hl 1 rfl) ?_
  refine x_callVIr (q := 30) (C := RX11) (As := [.int (nI i)]) (rest := [.ref (α 30)]) ⟨hx, hb, hml, hown, hts⟩ (ct_X11_isItem l D cA α n _ hn S (nI i)) (cwV 1 hts gX11_accept_X11_isItem rfl rfl rfl (by decide +kernel) ⟨Nat.le_of_ble_eq_true rfl, Nat.le_of_ble_eq_true rfl⟩) hK hw hAw (ws_recv hK hw (q := 30) (Nat.lt_of_lt_of_le (Nat.le_of_ble_eq_true rfl : 30 < 191) hn) (mk_30 cA α) rfl) rfl hl.1 rfl (Nat.le_of_ble_eq_true rfl) dX11_accept_3 ⟨Nat.zero_le _, Nat.zero_le _⟩ (fun H locs hw => ?_)
  refine xb_ne (b := (isItR S (nI i))) (tgt := 13) hx hb dX11_accept_6 (by decide) (fun c1 => ?_) (fun c1 => ?_)
  · skip
    refine lv_aload_n hx hb dX11_accept_13 rfl (lv_at hl 0 rfl) ?_
    refine lv_iload_n hx hb dX11_accept_14 rfl (lv_at hl 1 rfl) ?_
    refine lv_iconst (v := nI 4) hx hb dX11_accept_15 (by decide) ?_
    refine x_callVIr (q := 30) (C := RX11) (As := [.int (nI i), .int (nI 4)]) (rest := [.ref (α 30)]) ⟨hx, hb, hml, hown, hts⟩ (ct_X11_of l D cA α n _ hn S i 4 (by omega)) (cwV 2 hts gX11_accept_X11_of rfl rfl rfl (by decide +kernel) ⟨Nat.le_of_ble_eq_true rfl, Nat.le_of_ble_eq_true rfl⟩) hK hw hAw (ws_recv hK hw (q := 30) (Nat.lt_of_lt_of_le (Nat.le_of_ble_eq_true rfl : 30 < 191) hn) (mk_30 cA α) rfl) rfl hl.1 rfl (Nat.le_of_ble_eq_true rfl) dX11_accept_16 ⟨Nat.zero_le _, Nat.zero_le _⟩ (fun H locs hw => ?_)
    refine lv_iconst (v := nI 2) hx hb dX11_accept_19 (by decide) ?_
    refine lv_icmp_eq (tgt := 27) hx hb dX11_accept_20 (by decide) (fun c2 => ?_) (fun c2 => ?_)
    · skip
      refine lv_iconst (v := nI 0) hx hb dX11_accept_27 (by decide) ?_
      refine x_putI (x := nI 0) (ty := .int) (C := RX11) (T := TX11) (N := 24) hx hb hts (fun _ h => List.mem_cons_of_mem _ (List.mem_append_right _ h)) tyX11 tyX11_ok nmX11 hown hK hw 30 (Nat.lt_of_lt_of_le (Nat.le_of_ble_eq_true rfl : 30 < 191) hn) (mk_30 cA α) rfl 0 (by decide) (hts _ (List.mem_of_getElem? (i := 1) rfl)) (fun _ h9 => h9) rfl rfl rfl rfl (Nat.le_of_ble_eq_true rfl) rfl dX11_accept_28 (fun S1 eS1 H locs hw => ?_)
      refine lv_aload_n hx hb dX11_accept_31 rfl (lv_at hl 0 rfl) ?_
      refine x_get (v := .int (S1.1 30 0)) (C := RX11) (T := TX11) (N := 24) hx hb hts (fun _ h => List.mem_cons_of_mem _ (List.mem_append_right _ h)) hown hK hw 30 (Nat.lt_of_lt_of_le (Nat.le_of_ble_eq_true rfl : 30 < 191) hn) (mk_30 cA α) rfl 0 (by decide) (hts _ (List.mem_of_getElem? (i := 1) rfl)) (fun _ h9 => h9) rfl dX11_accept_32 ?_
      refine x_topN (k := 0) (by subst eS1; simp [sI_e, upd]) ?_
      refine lv_if_le (tgt := 40) hx hb dX11_accept_35 (by decide) (fun c3 => ?_) (fun c3 => ?_)
      · skip
        refine lv_aload_n hx hb dX11_accept_40 rfl (lv_at hl 0 rfl) ?_
        refine lv_iload_n hx hb dX11_accept_41 rfl (lv_at hl 1 rfl) ?_
        refine lv_iconst (v := nI 5) hx hb dX11_accept_42 (by decide) ?_
        refine x_callVIr (q := 30) (C := RX11) (As := [.int (nI i), .int (nI 5)]) (rest := []) ⟨hx, hb, hml, hown, hts⟩ (ct_X11_of l D cA α n _ hn S1 i 5 (by omega)) (cwV 2 hts gX11_accept_X11_of rfl rfl rfl (by decide +kernel) ⟨Nat.le_of_ble_eq_true rfl, Nat.le_of_ble_eq_true rfl⟩) hK hw hAw (ws_recv hK hw (q := 30) (Nat.lt_of_lt_of_le (Nat.le_of_ble_eq_true rfl : 30 < 191) hn) (mk_30 cA α) rfl) rfl hl.1 rfl (Nat.le_of_ble_eq_true rfl) dX11_accept_43 ⟨Nat.zero_le _, Nat.zero_le _⟩ (fun H locs hw => ?_)
        refine x_topN (k := b) (by subst eS1; exact hb9) ?_
        refine lv_istore_n (lv' := [(2, .int (nI b)), (0, .ref (α 30)), (1, .int (nI i))]) hx hb dX11_accept_46 rfl hl (by decide) rfl (fun ls hl => ?_)
        refine lv_aload_n hx hb dX11_accept_47 rfl (lv_at hl 1 rfl) ?_
        refine lv_iload_n hx hb dX11_accept_48 rfl (lv_at hl 2 rfl) ?_
        refine x_callVLr (q := 30) (C := RX11) (As := [.int (nI i)]) (rest := []) ⟨hx, hb, hml, hown, hts⟩ (ct_X11_valueOf l D cA α n _ hn S1 i (by subst eS1; exact ho)) (cwV 1 hts gX11_accept_X11_valueOf rfl rfl rfl (by decide +kernel) ⟨Nat.le_of_ble_eq_true rfl, Nat.le_of_ble_eq_true rfl⟩) hK hw hAw (ws_recv hK hw (q := 30) (Nat.lt_of_lt_of_le (Nat.le_of_ble_eq_true rfl : 30 < 191) hn) (mk_30 cA α) rfl) rfl hl.1 rfl (Nat.le_of_ble_eq_true rfl) dX11_accept_49 ⟨Nat.zero_le _, Nat.zero_le _⟩ (fun H locs hw => ?_)
        refine x_topEL (y := rVal S i) (by subst eS1; exact rVal_of rfl rfl rfl) ?_
        refine lv_ldc2 (v := 100) hx hb hown (hts _ (List.mem_of_getElem? (i := 2) rfl)) dX11_accept_52 ?_
        refine lv_lmul hx hb dX11_accept_55 ?_
        refine lv_aload_n hx hb dX11_accept_56 rfl (lv_at hl 1 rfl) ?_
        refine lv_iload_n hx hb dX11_accept_57 rfl (lv_at hl 0 rfl) ?_
        refine x_callVIr (q := 30) (C := RX11) (As := [.int (nI b)]) (rest := [.long ((rVal S i) * 100)]) ⟨hx, hb, hml, hown, hts⟩ (ct_X11_rateOf l D cA α n _ hn S1 b (by subst eS1; exact ho2)) (cwV 1 hts gX11_accept_X11_rateOf rfl rfl rfl (by decide +kernel) ⟨Nat.le_of_ble_eq_true rfl, Nat.le_of_ble_eq_true rfl⟩) hK hw hAw (ws_recv hK hw (q := 30) (Nat.lt_of_lt_of_le (Nat.le_of_ble_eq_true rfl : 30 < 191) hn) (mk_30 cA α) rfl) rfl hl.1 rfl (Nat.le_of_ble_eq_true rfl) dX11_accept_58 ⟨Nat.zero_le _, Nat.zero_le _⟩ (fun H locs hw => ?_)
        refine x_topE (y := rRate S b) (by subst eS1; exact rRate_of rfl rfl) ?_
        refine lv_i2l hx hb dX11_accept_61 rfl ?_
        refine lv_ldiv hx hb dX11_accept_62 (i64_ne0 hrt) ?_
        refine x_topEL (y := rAmt S i b) rfl ?_
        refine lv_lstore_n (lv' := [(3, .long (rAmt S i b)), (2, .int (nI b)), (0, .ref (α 30)), (1, .int (nI i))]) hx hb dX11_accept_63 rfl hl (by decide) rfl (fun ls hl => ?_)
        refine lv_aload_n hx hb dX11_accept_64 rfl (lv_at hl 2 rfl) ?_
        refine lv_lload_n hx hb dX11_accept_65 rfl (lv_at hl 0 rfl) ?_
        refine lv_lconst (v := 1) hx hb dX11_accept_66 (by decide) ?_
        refine lv_ldc2 (v := 1000000000) hx hb hown (hts _ (List.mem_of_getElem? (i := 3) rfl)) dX11_accept_67 ?_
        refine x_callSIr (q := 0) (C := RX0) (As := [.long (rAmt S i b), .long (1), .long (1000000000)]) (rest := [.ref (α 30)]) ⟨hx, hb, hml, hown, hts⟩ (ct_X11_within l D cA α n _ hn S1 (rAmt S i b) (1) (1000000000)) (va_cwS 3 hts gX11_accept_X11_within rfl rfl rfl (by decide +kernel) ⟨Nat.le_of_ble_eq_true rfl, Nat.le_of_ble_eq_true rfl⟩) hK hw hAw rfl hl.1 rfl (Nat.le_of_ble_eq_true rfl) dX11_accept_70 ⟨Nat.zero_le _, Nat.zero_le _⟩ (fun H locs hw => ?_)
        refine xb_eq (b := (wiL (rAmt S i b) (1) (1000000000))) (tgt := 80) hx hb dX11_accept_73 (by decide) (fun c4 => ?_) (fun c4 => ?_)
        · exact absurd (show wiL (rAmt S i b) 1 1000000000 = true by unfold wiL; rw [decide_eq_false (Int64.not_lt.mpr h1), decide_eq_false (Int64.not_lt.mpr h2)]; rfl) (by rw [c4]; decide)
        · skip
          refine lv_iconst (v := nI 0) hx hb dX11_accept_76 (by decide) ?_
          refine lv_goto (tgt := 81) hx hb dX11_accept_77 (by decide) ?_
          refine x_putI (x := nI 0) (ty := .int) (C := RX11) (T := TX11) (N := 24) hx hb hts (fun _ h => List.mem_cons_of_mem _ (List.mem_append_right _ h)) tyX11 tyX11_ok nmX11 hown hK hw 30 (Nat.lt_of_lt_of_le (Nat.le_of_ble_eq_true rfl : 30 < 191) hn) (mk_30 cA α) rfl 0 (by decide) (hts _ (List.mem_of_getElem? (i := 1) rfl)) (fun _ h9 => h9) rfl rfl rfl rfl (Nat.le_of_ble_eq_true rfl) rfl dX11_accept_81 (fun S2 eS2 H locs hw => ?_)
          refine lv_aload_n hx hb dX11_accept_84 rfl (lv_at hl 2 rfl) ?_
          refine x_get (v := .int (S2.1 30 0)) (C := RX11) (T := TX11) (N := 24) hx hb hts (fun _ h => List.mem_cons_of_mem _ (List.mem_append_right _ h)) hown hK hw 30 (Nat.lt_of_lt_of_le (Nat.le_of_ble_eq_true rfl : 30 < 191) hn) (mk_30 cA α) rfl 0 (by decide) (hts _ (List.mem_of_getElem? (i := 1) rfl)) (fun _ h9 => h9) rfl dX11_accept_85 ?_
          refine x_topN (k := 0) (by subst eS2; subst eS1; simp [sI_e, upd]) ?_
          refine lv_if_le (tgt := 93) hx hb dX11_accept_88 (by decide) (fun c5 => ?_) (fun c5 => ?_)
          · skip
            refine lv_aload_n hx hb dX11_accept_93 rfl (lv_at hl 2 rfl) ?_
            refine x_callVV (q := 30) (C := RX11) (As := []) (rest := []) ⟨hx, hb, hml, hown, hts⟩ (ct_X11_keepU l D cA α n _ hn S2 k (by subst eS2; subst eS1; exact hk) hk2) (cwV 0 hts gX11_accept_X11_keep rfl rfl rfl (by decide +kernel) ⟨Nat.le_of_ble_eq_true rfl, Nat.le_of_ble_eq_true rfl⟩) hK hw hAw (ws_recv hK hw (q := 30) (Nat.lt_of_lt_of_le (Nat.le_of_ble_eq_true rfl : 30 < 191) hn) (mk_30 cA α) rfl) rfl hl.1 rfl (Nat.le_of_ble_eq_true rfl) dX11_accept_94 ⟨Nat.zero_le _, Nat.zero_le _⟩ (fun S3 eS3 H locs hw => ?_)
            refine lv_aload_n hx hb dX11_accept_97 rfl (lv_at hl 2 rfl) ?_
            refine x_get (v := .ref (α 35)) (C := RX11) (T := TX11) (N := 24) hx hb hts (fun _ h => List.mem_cons_of_mem _ (List.mem_append_right _ h)) hown hK hw 30 (Nat.lt_of_lt_of_le (Nat.le_of_ble_eq_true rfl : 30 < 191) hn) (mk_30 cA α) rfl 14 (by decide) (hts _ (List.mem_of_getElem? (i := 4) rfl)) (fun _ h9 => h9) rfl dX11_accept_98 ?_
            refine lv_bipush (v := nI 9) hx hb dX11_accept_101 (by decide) ?_
            refine lv_iload_n hx hb dX11_accept_103 rfl (lv_at hl 1 rfl) ?_
            refine xn_iadd hx hb dX11_accept_104 ?_
            refine lv_lload_n hx hb dX11_accept_105 rfl (lv_at hl 0 rfl) ?_
            refine x_last (x := rAmt S i b) hx hb hK hw 35 309 (Nat.lt_of_lt_of_le (Nat.le_of_ble_eq_true rfl : 35 < 191) hn) (mk_35 cA α) (9 + b) rfl (by omega) (by decide) dX11_accept_106 (fun S4 eS4 H locs hw => ?_)
            refine lv_aload_n hx hb dX11_accept_107 rfl (lv_at hl 2 rfl) ?_
            refine lv_iload_n hx hb dX11_accept_108 rfl (lv_at hl 3 rfl) ?_
            refine lv_iconst (v := nI 4) hx hb dX11_accept_109 (by decide) ?_
            refine lv_iconst (v := nI 1) hx hb dX11_accept_110 (by decide) ?_
            refine x_callVV (q := 30) (C := RX11) (As := [.int (nI i), .int (nI 4), .int (nI 1)]) (rest := []) ⟨hx, hb, hml, hown, hts⟩ (ct_X11_put l D cA α n _ hn S4 i 4 (nI 1) (by omega)) (cwV 3 hts gX11_accept_X11_put rfl rfl rfl (by decide +kernel) ⟨Nat.le_of_ble_eq_true rfl, Nat.le_of_ble_eq_true rfl⟩) hK hw hAw (ws_recv hK hw (q := 30) (Nat.lt_of_lt_of_le (Nat.le_of_ble_eq_true rfl : 30 < 191) hn) (mk_30 cA α) rfl) rfl hl.1 rfl (Nat.le_of_ble_eq_true rfl) dX11_accept_111 ⟨Nat.zero_le _, Nat.zero_le _⟩ (fun S5 eS5 H locs hw => ?_)
            refine lv_aload_n hx hb dX11_accept_114 rfl (lv_at hl 2 rfl) ?_
            refine lv_iload_n hx hb dX11_accept_115 rfl (lv_at hl 1 rfl) ?_
            refine lv_iconst (v := nI 4) hx hb dX11_accept_116 (by decide) ?_
            refine lv_iconst (v := nI 1) hx hb dX11_accept_117 (by decide) ?_
            refine x_callVV (q := 30) (C := RX11) (As := [.int (nI b), .int (nI 4), .int (nI 1)]) (rest := []) ⟨hx, hb, hml, hown, hts⟩ (ct_X11_put l D cA α n _ hn S5 b 4 (nI 1) (by omega)) (cwV 3 hts gX11_accept_X11_put rfl rfl rfl (by decide +kernel) ⟨Nat.le_of_ble_eq_true rfl, Nat.le_of_ble_eq_true rfl⟩) hK hw hAw (ws_recv hK hw (q := 30) (Nat.lt_of_lt_of_le (Nat.le_of_ble_eq_true rfl : 30 < 191) hn) (mk_30 cA α) rfl) rfl hl.1 rfl (Nat.le_of_ble_eq_true rfl) dX11_accept_118 ⟨Nat.zero_le _, Nat.zero_le _⟩ (fun S6 eS6 H locs hw => ?_)
            refine lv_aload_n hx hb dX11_accept_121 rfl (lv_at hl 2 rfl) ?_
            refine x_get (v := .ref (α 35)) (C := RX11) (T := TX11) (N := 24) hx hb hts (fun _ h => List.mem_cons_of_mem _ (List.mem_append_right _ h)) hown hK hw 30 (Nat.lt_of_lt_of_le (Nat.le_of_ble_eq_true rfl : 30 < 191) hn) (mk_30 cA α) rfl 14 (by decide) (hts _ (List.mem_of_getElem? (i := 4) rfl)) (fun _ h9 => h9) rfl dX11_accept_122 ?_
            refine lv_bipush (v := nI 109) hx hb dX11_accept_125 (by decide) ?_
            refine lv_iload_n hx hb dX11_accept_127 rfl (lv_at hl 1 rfl) ?_
            refine xn_iadd hx hb dX11_accept_128 ?_
            refine lv_aload_n hx hb dX11_accept_129 rfl (lv_at hl 2 rfl) ?_
            refine lv_iload_n hx hb dX11_accept_130 rfl (lv_at hl 1 rfl) ?_
            refine x_callVLr (q := 30) (C := RX11) (As := [.int (nI b)]) (rest := [.int (nI (109 + b)), .ref (α 35)]) ⟨hx, hb, hml, hown, hts⟩ (ct_X11_valueOf l D cA α n _ hn S6 b (by subst eS6; subst eS5; subst eS4; subst eS3; subst eS2; subst eS1; exact rAc1_ok (okR_of ho2 (rKeep_1 _ _ (by decide) (by decide)) (rKeep_1 _ _ (by decide) (by decide))))) (cwV 1 hts gX11_accept_X11_valueOf rfl rfl rfl (by decide +kernel) ⟨Nat.le_of_ble_eq_true rfl, Nat.le_of_ble_eq_true rfl⟩) hK hw hAw (ws_recv hK hw (q := 30) (Nat.lt_of_lt_of_le (Nat.le_of_ble_eq_true rfl : 30 < 191) hn) (mk_30 cA α) rfl) rfl hl.1 rfl (Nat.le_of_ble_eq_true rfl) dX11_accept_131 ⟨Nat.zero_le _, Nat.zero_le _⟩ (fun H locs hw => ?_)
            refine x_last (x := rVal S6 b) hx hb hK hw 35 309 (Nat.lt_of_lt_of_le (Nat.le_of_ble_eq_true rfl : 35 < 191) hn) (mk_35 cA α) (109 + b) rfl (by omega) (by decide) dX11_accept_134 (fun S7 eS7 H locs hw => ?_)
            refine lv_lload_n hx hb dX11_accept_135 rfl (lv_at hl 0 rfl) ?_
            exact ret_l hx hb hr hlocks hK hw dX11_accept_136 rfl (by subst_vars; rfl)
          · exact absurd (by decide) c5
      · exact absurd (by decide) c3
    · exact absurd hs c2
  · exact absurd (isIt_t (S := S) (by skip; exact hN) hN2 hi) (by rw [c1]; decide)

set_option maxRecDepth 100000 in
set_option maxHeartbeats 1000000 in
theorem ct_X11_acceptX (l : Launch) (D : va_G) (cA : Nat → ClassId) (α : Nat → Nat) (n sz : Nat) (hn : 191 ≤ n) (S : Mem) (N : Nat) (hN : S.1 34 0 = nI N) (hN2 : N ≤ 100) (x : Int32) (hx9 : ¬ ∃ i, i < N ∧ x = nI i) : CtL l yX11_accept wsX11_accept ({ frames := 3, cells := 0, slots := 0, locals := 64 }) D cA α n sz [.ref (α 30), .int x] S 0 (setI S 30 0 (nI 1)) := by
  refine ct_enter cX11_accept 5 (some .long) (by decide) rfl (Nat.le_of_ble_eq_true rfl) ?_
  intro p e s m below meth c hx hb hr hml hlocks hown hts hK hsz hw ls hl
  have hown : s.vm.findClass RX11 = some m.cls := hown
  have hAw : ∀ z, Aw α n s.heap.size z → Aw α n sz z := by rw [hsz]; exact fun _ h => h
  have hl : lv_has ls 5 [(0, .ref (α 30)), (1, .int x)] := hl
  refine lv_aload_n hx hb dX11_accept_0 rfl (lv_at hl 0 rfl) ?_
  refine lv_aload_n hx hb dX11_accept_1 rfl (lv_at hl 0 rfl) ?_
  refine lv_iload_n hx hb dX11_accept_2 rfl (lv_at hl 1 rfl) ?_
  refine x_callVIr (q := 30) (C := RX11) (As := [.int x]) (rest := [.ref (α 30)]) ⟨hx, hb, hml, hown, hts⟩ (ct_X11_isItem l D cA α n _ hn S x) (cwV 1 hts gX11_accept_X11_isItem rfl rfl rfl (by decide +kernel) ⟨Nat.le_of_ble_eq_true rfl, Nat.le_of_ble_eq_true rfl⟩) hK hw hAw (ws_recv hK hw (q := 30) (Nat.lt_of_lt_of_le (Nat.le_of_ble_eq_true rfl : 30 < 191) hn) (mk_30 cA α) rfl) rfl hl.1 rfl (Nat.le_of_ble_eq_true rfl) dX11_accept_3 ⟨Nat.zero_le _, Nat.zero_le _⟩ (fun H locs hw => ?_)
  refine xb_ne (b := (isItR S x)) (tgt := 13) hx hb dX11_accept_6 (by decide) (fun c1 => ?_) (fun c1 => ?_)
  · exact absurd (isIt_f (S := S) (by skip; exact hN) hN2 hx9) (by rw [c1]; decide)
  · skip
    refine lv_iconst (v := nI 1) hx hb dX11_accept_9 (by decide) ?_
    refine lv_goto (tgt := 28) hx hb dX11_accept_10 (by decide) ?_
    refine x_putI (x := nI 1) (ty := .int) (C := RX11) (T := TX11) (N := 24) hx hb hts (fun _ h => List.mem_cons_of_mem _ (List.mem_append_right _ h)) tyX11 tyX11_ok nmX11 hown hK hw 30 (Nat.lt_of_lt_of_le (Nat.le_of_ble_eq_true rfl : 30 < 191) hn) (mk_30 cA α) rfl 0 (by decide) (hts _ (List.mem_of_getElem? (i := 1) rfl)) (fun _ h9 => h9) rfl rfl rfl rfl (Nat.le_of_ble_eq_true rfl) rfl dX11_accept_28 (fun S1 eS1 H locs hw => ?_)
    refine lv_aload_n hx hb dX11_accept_31 rfl (lv_at hl 0 rfl) ?_
    refine x_get (v := .int (S1.1 30 0)) (C := RX11) (T := TX11) (N := 24) hx hb hts (fun _ h => List.mem_cons_of_mem _ (List.mem_append_right _ h)) hown hK hw 30 (Nat.lt_of_lt_of_le (Nat.le_of_ble_eq_true rfl : 30 < 191) hn) (mk_30 cA α) rfl 0 (by decide) (hts _ (List.mem_of_getElem? (i := 1) rfl)) (fun _ h9 => h9) rfl dX11_accept_32 ?_
    refine x_topN (k := 1) (by subst eS1; simp [sI_e, upd]) ?_
    refine lv_if_le (tgt := 40) hx hb dX11_accept_35 (by decide) (fun c2 => ?_) (fun c2 => ?_)
    · exact absurd c2 (by decide)
    · skip
      refine lv_lconst (v := 0) hx hb dX11_accept_38 (by decide) ?_
      exact ret_l hx hb hr hlocks hK hw dX11_accept_39 rfl (by subst_vars; rfl)

set_option maxRecDepth 100000 in
set_option maxHeartbeats 1000000 in
theorem ct_X11_acceptY (l : Launch) (D : va_G) (cA : Nat → ClassId) (α : Nat → Nat) (n sz : Nat) (hn : 191 ≤ n) (S : Mem) (N : Nat) (hN : S.1 34 0 = nI N) (hN2 : N ≤ 100) (i : Nat) (hi : i < N) (hs : ¬ S.1 34 (8 + 6 * i + 4) = nI 2) : CtL l yX11_accept wsX11_accept ({ frames := 3, cells := 0, slots := 0, locals := 64 }) D cA α n sz [.ref (α 30), .int (nI i)] S 0 (setI S 30 0 (nI 2)) := by
  refine ct_enter cX11_accept 5 (some .long) (by decide) rfl (Nat.le_of_ble_eq_true rfl) ?_
  intro p e s m below meth c hx hb hr hml hlocks hown hts hK hsz hw ls hl
  have hown : s.vm.findClass RX11 = some m.cls := hown
  have hAw : ∀ z, Aw α n s.heap.size z → Aw α n sz z := by rw [hsz]; exact fun _ h => h
  have hl : lv_has ls 5 [(0, .ref (α 30)), (1, .int (nI i))] := hl
  refine lv_aload_n hx hb dX11_accept_0 rfl (lv_at hl 0 rfl) ?_
  refine lv_aload_n hx hb dX11_accept_1 rfl (lv_at hl 0 rfl) ?_
  refine lv_iload_n hx hb dX11_accept_2 rfl (lv_at hl 1 rfl) ?_
  refine x_callVIr (q := 30) (C := RX11) (As := [.int (nI i)]) (rest := [.ref (α 30)]) ⟨hx, hb, hml, hown, hts⟩ (ct_X11_isItem l D cA α n _ hn S (nI i)) (cwV 1 hts gX11_accept_X11_isItem rfl rfl rfl (by decide +kernel) ⟨Nat.le_of_ble_eq_true rfl, Nat.le_of_ble_eq_true rfl⟩) hK hw hAw (ws_recv hK hw (q := 30) (Nat.lt_of_lt_of_le (Nat.le_of_ble_eq_true rfl : 30 < 191) hn) (mk_30 cA α) rfl) rfl hl.1 rfl (Nat.le_of_ble_eq_true rfl) dX11_accept_3 ⟨Nat.zero_le _, Nat.zero_le _⟩ (fun H locs hw => ?_)
  refine xb_ne (b := (isItR S (nI i))) (tgt := 13) hx hb dX11_accept_6 (by decide) (fun c1 => ?_) (fun c1 => ?_)
  · skip
    refine lv_aload_n hx hb dX11_accept_13 rfl (lv_at hl 0 rfl) ?_
    refine lv_iload_n hx hb dX11_accept_14 rfl (lv_at hl 1 rfl) ?_
    refine lv_iconst (v := nI 4) hx hb dX11_accept_15 (by decide) ?_
    refine x_callVIr (q := 30) (C := RX11) (As := [.int (nI i), .int (nI 4)]) (rest := [.ref (α 30)]) ⟨hx, hb, hml, hown, hts⟩ (ct_X11_of l D cA α n _ hn S i 4 (by omega)) (cwV 2 hts gX11_accept_X11_of rfl rfl rfl (by decide +kernel) ⟨Nat.le_of_ble_eq_true rfl, Nat.le_of_ble_eq_true rfl⟩) hK hw hAw (ws_recv hK hw (q := 30) (Nat.lt_of_lt_of_le (Nat.le_of_ble_eq_true rfl : 30 < 191) hn) (mk_30 cA α) rfl) rfl hl.1 rfl (Nat.le_of_ble_eq_true rfl) dX11_accept_16 ⟨Nat.zero_le _, Nat.zero_le _⟩ (fun H locs hw => ?_)
    refine lv_iconst (v := nI 2) hx hb dX11_accept_19 (by decide) ?_
    refine lv_icmp_eq (tgt := 27) hx hb dX11_accept_20 (by decide) (fun c2 => ?_) (fun c2 => ?_)
    · exact absurd c2 hs
    · skip
      refine lv_iconst (v := nI 2) hx hb dX11_accept_23 (by decide) ?_
      refine lv_goto (tgt := 28) hx hb dX11_accept_24 (by decide) ?_
      refine x_putI (x := nI 2) (ty := .int) (C := RX11) (T := TX11) (N := 24) hx hb hts (fun _ h => List.mem_cons_of_mem _ (List.mem_append_right _ h)) tyX11 tyX11_ok nmX11 hown hK hw 30 (Nat.lt_of_lt_of_le (Nat.le_of_ble_eq_true rfl : 30 < 191) hn) (mk_30 cA α) rfl 0 (by decide) (hts _ (List.mem_of_getElem? (i := 1) rfl)) (fun _ h9 => h9) rfl rfl rfl rfl (Nat.le_of_ble_eq_true rfl) rfl dX11_accept_28 (fun S1 eS1 H locs hw => ?_)
      refine lv_aload_n hx hb dX11_accept_31 rfl (lv_at hl 0 rfl) ?_
      refine x_get (v := .int (S1.1 30 0)) (C := RX11) (T := TX11) (N := 24) hx hb hts (fun _ h => List.mem_cons_of_mem _ (List.mem_append_right _ h)) hown hK hw 30 (Nat.lt_of_lt_of_le (Nat.le_of_ble_eq_true rfl : 30 < 191) hn) (mk_30 cA α) rfl 0 (by decide) (hts _ (List.mem_of_getElem? (i := 1) rfl)) (fun _ h9 => h9) rfl dX11_accept_32 ?_
      refine x_topN (k := 2) (by subst eS1; simp [sI_e, upd]) ?_
      refine lv_if_le (tgt := 40) hx hb dX11_accept_35 (by decide) (fun c3 => ?_) (fun c3 => ?_)
      · exact absurd c3 (by decide)
      · skip
        refine lv_lconst (v := 0) hx hb dX11_accept_38 (by decide) ?_
        exact ret_l hx hb hr hlocks hK hw dX11_accept_39 rfl (by subst_vars; rfl)
  · exact absurd (isIt_t (S := S) (by skip; exact hN) hN2 hi) (by rw [c1]; decide)

set_option maxRecDepth 100000 in
set_option maxHeartbeats 1000000 in
theorem ct_X11_acceptZ (l : Launch) (D : va_G) (cA : Nat → ClassId) (α : Nat → Nat) (n sz : Nat) (hn : 191 ≤ n) (S : Mem) (N : Nat) (hN : S.1 34 0 = nI N) (hN2 : N ≤ 100) (i : Nat) (hi : i < N) (hs : S.1 34 (8 + 6 * i + 4) = nI 2) (b : Nat) (hb9 : S.1 34 (8 + 6 * i + 5) = nI b) (ho : okR S i) (ho2 : okR S b) (hrt : nI 1 ≤ rRate S b) (h1 : ¬ (1 ≤ rAmt S i b ∧ rAmt S i b ≤ 1000000000)) : CtL l yX11_accept wsX11_accept ({ frames := 3, cells := 0, slots := 0, locals := 64 }) D cA α n sz [.ref (α 30), .int (nI i)] S 0 (setI (setI S 30 0 (nI 0)) 30 0 (nI 2)) := by
  refine ct_enter cX11_accept 5 (some .long) (by decide) rfl (Nat.le_of_ble_eq_true rfl) ?_
  intro p e s m below meth c hx hb hr hml hlocks hown hts hK hsz hw ls hl
  have hown : s.vm.findClass RX11 = some m.cls := hown
  have hAw : ∀ z, Aw α n s.heap.size z → Aw α n sz z := by rw [hsz]; exact fun _ h => h
  have hl : lv_has ls 5 [(0, .ref (α 30)), (1, .int (nI i))] := hl
  have hb7 := ho2.1
  refine lv_aload_n hx hb dX11_accept_0 rfl (lv_at hl 0 rfl) ?_
  refine lv_aload_n hx hb dX11_accept_1 rfl (lv_at hl 0 rfl) ?_
  refine lv_iload_n hx hb dX11_accept_2 rfl (lv_at hl 1 rfl) ?_
  refine x_callVIr (q := 30) (C := RX11) (As := [.int (nI i)]) (rest := [.ref (α 30)]) ⟨hx, hb, hml, hown, hts⟩ (ct_X11_isItem l D cA α n _ hn S (nI i)) (cwV 1 hts gX11_accept_X11_isItem rfl rfl rfl (by decide +kernel) ⟨Nat.le_of_ble_eq_true rfl, Nat.le_of_ble_eq_true rfl⟩) hK hw hAw (ws_recv hK hw (q := 30) (Nat.lt_of_lt_of_le (Nat.le_of_ble_eq_true rfl : 30 < 191) hn) (mk_30 cA α) rfl) rfl hl.1 rfl (Nat.le_of_ble_eq_true rfl) dX11_accept_3 ⟨Nat.zero_le _, Nat.zero_le _⟩ (fun H locs hw => ?_)
  refine xb_ne (b := (isItR S (nI i))) (tgt := 13) hx hb dX11_accept_6 (by decide) (fun c1 => ?_) (fun c1 => ?_)
  · skip
    refine lv_aload_n hx hb dX11_accept_13 rfl (lv_at hl 0 rfl) ?_
    refine lv_iload_n hx hb dX11_accept_14 rfl (lv_at hl 1 rfl) ?_
    refine lv_iconst (v := nI 4) hx hb dX11_accept_15 (by decide) ?_
    refine x_callVIr (q := 30) (C := RX11) (As := [.int (nI i), .int (nI 4)]) (rest := [.ref (α 30)]) ⟨hx, hb, hml, hown, hts⟩ (ct_X11_of l D cA α n _ hn S i 4 (by omega)) (cwV 2 hts gX11_accept_X11_of rfl rfl rfl (by decide +kernel) ⟨Nat.le_of_ble_eq_true rfl, Nat.le_of_ble_eq_true rfl⟩) hK hw hAw (ws_recv hK hw (q := 30) (Nat.lt_of_lt_of_le (Nat.le_of_ble_eq_true rfl : 30 < 191) hn) (mk_30 cA α) rfl) rfl hl.1 rfl (Nat.le_of_ble_eq_true rfl) dX11_accept_16 ⟨Nat.zero_le _, Nat.zero_le _⟩ (fun H locs hw => ?_)
    refine lv_iconst (v := nI 2) hx hb dX11_accept_19 (by decide) ?_
    refine lv_icmp_eq (tgt := 27) hx hb dX11_accept_20 (by decide) (fun c2 => ?_) (fun c2 => ?_)
    · skip
      refine lv_iconst (v := nI 0) hx hb dX11_accept_27 (by decide) ?_
      refine x_putI (x := nI 0) (ty := .int) (C := RX11) (T := TX11) (N := 24) hx hb hts (fun _ h => List.mem_cons_of_mem _ (List.mem_append_right _ h)) tyX11 tyX11_ok nmX11 hown hK hw 30 (Nat.lt_of_lt_of_le (Nat.le_of_ble_eq_true rfl : 30 < 191) hn) (mk_30 cA α) rfl 0 (by decide) (hts _ (List.mem_of_getElem? (i := 1) rfl)) (fun _ h9 => h9) rfl rfl rfl rfl (Nat.le_of_ble_eq_true rfl) rfl dX11_accept_28 (fun S1 eS1 H locs hw => ?_)
      refine lv_aload_n hx hb dX11_accept_31 rfl (lv_at hl 0 rfl) ?_
      refine x_get (v := .int (S1.1 30 0)) (C := RX11) (T := TX11) (N := 24) hx hb hts (fun _ h => List.mem_cons_of_mem _ (List.mem_append_right _ h)) hown hK hw 30 (Nat.lt_of_lt_of_le (Nat.le_of_ble_eq_true rfl : 30 < 191) hn) (mk_30 cA α) rfl 0 (by decide) (hts _ (List.mem_of_getElem? (i := 1) rfl)) (fun _ h9 => h9) rfl dX11_accept_32 ?_
      refine x_topN (k := 0) (by subst eS1; simp [sI_e, upd]) ?_
      refine lv_if_le (tgt := 40) hx hb dX11_accept_35 (by decide) (fun c3 => ?_) (fun c3 => ?_)
      · skip
        refine lv_aload_n hx hb dX11_accept_40 rfl (lv_at hl 0 rfl) ?_
        refine lv_iload_n hx hb dX11_accept_41 rfl (lv_at hl 1 rfl) ?_
        refine lv_iconst (v := nI 5) hx hb dX11_accept_42 (by decide) ?_
        refine x_callVIr (q := 30) (C := RX11) (As := [.int (nI i), .int (nI 5)]) (rest := []) ⟨hx, hb, hml, hown, hts⟩ (ct_X11_of l D cA α n _ hn S1 i 5 (by omega)) (cwV 2 hts gX11_accept_X11_of rfl rfl rfl (by decide +kernel) ⟨Nat.le_of_ble_eq_true rfl, Nat.le_of_ble_eq_true rfl⟩) hK hw hAw (ws_recv hK hw (q := 30) (Nat.lt_of_lt_of_le (Nat.le_of_ble_eq_true rfl : 30 < 191) hn) (mk_30 cA α) rfl) rfl hl.1 rfl (Nat.le_of_ble_eq_true rfl) dX11_accept_43 ⟨Nat.zero_le _, Nat.zero_le _⟩ (fun H locs hw => ?_)
        refine x_topN (k := b) (by subst eS1; exact hb9) ?_
        refine lv_istore_n (lv' := [(2, .int (nI b)), (0, .ref (α 30)), (1, .int (nI i))]) hx hb dX11_accept_46 rfl hl (by decide) rfl (fun ls hl => ?_)
        refine lv_aload_n hx hb dX11_accept_47 rfl (lv_at hl 1 rfl) ?_
        refine lv_iload_n hx hb dX11_accept_48 rfl (lv_at hl 2 rfl) ?_
        refine x_callVLr (q := 30) (C := RX11) (As := [.int (nI i)]) (rest := []) ⟨hx, hb, hml, hown, hts⟩ (ct_X11_valueOf l D cA α n _ hn S1 i (by subst eS1; exact ho)) (cwV 1 hts gX11_accept_X11_valueOf rfl rfl rfl (by decide +kernel) ⟨Nat.le_of_ble_eq_true rfl, Nat.le_of_ble_eq_true rfl⟩) hK hw hAw (ws_recv hK hw (q := 30) (Nat.lt_of_lt_of_le (Nat.le_of_ble_eq_true rfl : 30 < 191) hn) (mk_30 cA α) rfl) rfl hl.1 rfl (Nat.le_of_ble_eq_true rfl) dX11_accept_49 ⟨Nat.zero_le _, Nat.zero_le _⟩ (fun H locs hw => ?_)
        refine x_topEL (y := rVal S i) (by subst eS1; exact rVal_of rfl rfl rfl) ?_
        refine lv_ldc2 (v := 100) hx hb hown (hts _ (List.mem_of_getElem? (i := 2) rfl)) dX11_accept_52 ?_
        refine lv_lmul hx hb dX11_accept_55 ?_
        refine lv_aload_n hx hb dX11_accept_56 rfl (lv_at hl 1 rfl) ?_
        refine lv_iload_n hx hb dX11_accept_57 rfl (lv_at hl 0 rfl) ?_
        refine x_callVIr (q := 30) (C := RX11) (As := [.int (nI b)]) (rest := [.long ((rVal S i) * 100)]) ⟨hx, hb, hml, hown, hts⟩ (ct_X11_rateOf l D cA α n _ hn S1 b (by subst eS1; exact ho2)) (cwV 1 hts gX11_accept_X11_rateOf rfl rfl rfl (by decide +kernel) ⟨Nat.le_of_ble_eq_true rfl, Nat.le_of_ble_eq_true rfl⟩) hK hw hAw (ws_recv hK hw (q := 30) (Nat.lt_of_lt_of_le (Nat.le_of_ble_eq_true rfl : 30 < 191) hn) (mk_30 cA α) rfl) rfl hl.1 rfl (Nat.le_of_ble_eq_true rfl) dX11_accept_58 ⟨Nat.zero_le _, Nat.zero_le _⟩ (fun H locs hw => ?_)
        refine x_topE (y := rRate S b) (by subst eS1; exact rRate_of rfl rfl) ?_
        refine lv_i2l hx hb dX11_accept_61 rfl ?_
        refine lv_ldiv hx hb dX11_accept_62 (i64_ne0 hrt) ?_
        refine x_topEL (y := rAmt S i b) rfl ?_
        refine lv_lstore_n (lv' := [(3, .long (rAmt S i b)), (2, .int (nI b)), (0, .ref (α 30)), (1, .int (nI i))]) hx hb dX11_accept_63 rfl hl (by decide) rfl (fun ls hl => ?_)
        refine lv_aload_n hx hb dX11_accept_64 rfl (lv_at hl 2 rfl) ?_
        refine lv_lload_n hx hb dX11_accept_65 rfl (lv_at hl 0 rfl) ?_
        refine lv_lconst (v := 1) hx hb dX11_accept_66 (by decide) ?_
        refine lv_ldc2 (v := 1000000000) hx hb hown (hts _ (List.mem_of_getElem? (i := 3) rfl)) dX11_accept_67 ?_
        refine x_callSIr (q := 0) (C := RX0) (As := [.long (rAmt S i b), .long (1), .long (1000000000)]) (rest := [.ref (α 30)]) ⟨hx, hb, hml, hown, hts⟩ (ct_X11_within l D cA α n _ hn S1 (rAmt S i b) (1) (1000000000)) (va_cwS 3 hts gX11_accept_X11_within rfl rfl rfl (by decide +kernel) ⟨Nat.le_of_ble_eq_true rfl, Nat.le_of_ble_eq_true rfl⟩) hK hw hAw rfl hl.1 rfl (Nat.le_of_ble_eq_true rfl) dX11_accept_70 ⟨Nat.zero_le _, Nat.zero_le _⟩ (fun H locs hw => ?_)
        refine xb_eq (b := (wiL (rAmt S i b) (1) (1000000000))) (tgt := 80) hx hb dX11_accept_73 (by decide) (fun c4 => ?_) (fun c4 => ?_)
        · skip
          refine lv_iconst (v := nI 2) hx hb dX11_accept_80 (by decide) ?_
          refine x_putI (x := nI 2) (ty := .int) (C := RX11) (T := TX11) (N := 24) hx hb hts (fun _ h => List.mem_cons_of_mem _ (List.mem_append_right _ h)) tyX11 tyX11_ok nmX11 hown hK hw 30 (Nat.lt_of_lt_of_le (Nat.le_of_ble_eq_true rfl : 30 < 191) hn) (mk_30 cA α) rfl 0 (by decide) (hts _ (List.mem_of_getElem? (i := 1) rfl)) (fun _ h9 => h9) rfl rfl rfl rfl (Nat.le_of_ble_eq_true rfl) rfl dX11_accept_81 (fun S2 eS2 H locs hw => ?_)
          refine lv_aload_n hx hb dX11_accept_84 rfl (lv_at hl 2 rfl) ?_
          refine x_get (v := .int (S2.1 30 0)) (C := RX11) (T := TX11) (N := 24) hx hb hts (fun _ h => List.mem_cons_of_mem _ (List.mem_append_right _ h)) hown hK hw 30 (Nat.lt_of_lt_of_le (Nat.le_of_ble_eq_true rfl : 30 < 191) hn) (mk_30 cA α) rfl 0 (by decide) (hts _ (List.mem_of_getElem? (i := 1) rfl)) (fun _ h9 => h9) rfl dX11_accept_85 ?_
          refine x_topN (k := 2) (by subst eS2; subst eS1; simp [sI_e, upd]) ?_
          refine lv_if_le (tgt := 93) hx hb dX11_accept_88 (by decide) (fun c5 => ?_) (fun c5 => ?_)
          · exact absurd c5 (by decide)
          · skip
            refine lv_lconst (v := 0) hx hb dX11_accept_91 (by decide) ?_
            exact ret_l hx hb hr hlocks hK hw dX11_accept_92 rfl (by subst_vars; rfl)
        · exact absurd (show wiL (rAmt S i b) 1 1000000000 = false by cases q : wiL (rAmt S i b) 1 1000000000 with | false => rfl | true => exact absurd (by unfold wiL at q; simp only [Bool.and_eq_true, Bool.not_eq_true', decide_eq_false_iff_not, Int64.not_lt] at q; exact q) h1) (by rw [c4]; decide)
      · exact absurd (by decide) c3
    · exact absurd hs c2
  · exact absurd (isIt_t (S := S) (by skip; exact hN) hN2 hi) (by rw [c1]; decide)
