/-! the class: changes -/

set_option maxRecDepth 100000 in
set_option maxHeartbeats 1000000 in
theorem ct_X10_setTolerance (l : Launch) (D : va_G) (cA : Nat → ClassId) (α : Nat → Nat) (n sz : Nat) (hn : 191 ≤ n) (S : Mem) (x : Int32) (h1 : ∃ i, 0 ≤ i ∧ i ≤ 1000000 ∧ x = nI i) (N : Nat) (hN : S.1 74 0 = nI N) (hN2 : N ≤ 100) (M : Nat) (hM : S.1 74 1 = nI M) (hM2 : M ≤ 100) (t k : Nat) (ht : S.1 11 1 = nI t) (ht2 : t < 10) (hk : S.1 11 0 = nI k) (hk2 : k ≤ 10) : CtI l yX10_setTolerance wsX10_setTolerance ({ frames := 7, cells := 0, slots := 0, locals := 122 }) D cA α n sz [.ref (α 0), .int x] S (S.1 74 2) (setI (cRem S t k N M) 74 2 x) := by
  refine ct_enter cX10_setTolerance 3 (some .int) (by decide) rfl (Nat.le_of_ble_eq_true rfl) ?_
  intro p e s m below meth c hx hb hr hml hlocks hown hts hK hsz hw ls hl
  have hown : s.vm.findClass RX10 = some m.cls := hown
  have hAw : ∀ z, Aw α n s.heap.size z → Aw α n sz z := by rw [hsz]; exact fun _ h => h
  have hl : lv_has ls 3 [(0, .ref (α 0)), (1, .int x)] := hl
  refine lv_iload_n hx hb dX10_setTolerance_0 rfl (lv_at hl 1 rfl) ?_
  refine lv_iconst (v := nI 0) hx hb dX10_setTolerance_1 (by decide) ?_
  refine lv_ldcw (v := 1000000) hx hb hown (hts _ (List.mem_of_getElem? (i := 1) rfl)) dX10_setTolerance_2 ?_
  refine x_topN (k := 1000000) (by decide) ?_
  refine x_callSVr (q := 0) (C := RX0) (As := [.int x, .int (nI 0), .int (nI 1000000)]) (rest := []) ⟨hx, hb, hml, hown, hts⟩ (ct_X10_requireRange l D cA α n _ hn S x 0 1000000 (by decide) (by decide) h1) (va_cwS 3 hts gX10_setTolerance_X10_requireRange rfl rfl rfl (by decide +kernel) ⟨Nat.le_of_ble_eq_true rfl, Nat.le_of_ble_eq_true rfl⟩) hK hw hAw rfl hl.1 rfl (Nat.le_of_ble_eq_true rfl) dX10_setTolerance_5 ⟨Nat.zero_le _, Nat.zero_le _⟩ (fun H locs hw => ?_)
  refine lv_aload_n hx hb dX10_setTolerance_8 rfl (lv_at hl 0 rfl) ?_
  refine x_get (v := .ref (α 11)) (C := RX10) (T := TX10) (N := 7) hx hb hts (fun _ h => List.mem_cons_of_mem _ (List.mem_append_left _ (List.mem_append_left _ (List.mem_append_left _ (List.mem_append_left _ (List.mem_append_right _ h)))))) hown hK hw 0 (Nat.lt_of_lt_of_le (Nat.le_of_ble_eq_true rfl : 0 < 191) hn) (mk_0 cA α) rfl 5 (by decide) (hts _ (List.mem_of_getElem? (i := 2) rfl)) (fun _ h9 => h9) rfl dX10_setTolerance_9 ?_
  refine lv_aload_n hx hb dX10_setTolerance_12 rfl (lv_at hl 0 rfl) ?_
  refine x_get (v := .ref (α 3)) (C := RX10) (T := TX10) (N := 7) hx hb hts (fun _ h => List.mem_cons_of_mem _ (List.mem_append_left _ (List.mem_append_left _ (List.mem_append_left _ (List.mem_append_left _ (List.mem_append_right _ h)))))) hown hK hw 0 (Nat.lt_of_lt_of_le (Nat.le_of_ble_eq_true rfl : 0 < 191) hn) (mk_0 cA α) rfl 1 (by decide) (hts _ (List.mem_of_getElem? (i := 3) rfl)) (fun _ h9 => h9) rfl dX10_setTolerance_13 ?_
  refine x_get (v := .ref (α 74)) (C := RX0) (T := TX0) (N := 3) hx hb hts (fun _ h => List.mem_cons_of_mem _ (List.mem_append_left _ (List.mem_append_left _ (List.mem_append_left _ (List.mem_append_right _ h))))) hown hK hw 3 (Nat.lt_of_lt_of_le (Nat.le_of_ble_eq_true rfl : 3 < 191) hn) (mk_3 cA α) rfl 2 (by decide) (hts _ (List.mem_of_getElem? (i := 4) rfl)) (fun _ h9 => h9) rfl dX10_setTolerance_16 ?_
  refine x_callVV (q := 11) (C := RX4) (As := [.ref (α 74)]) (rest := []) ⟨hx, hb, hml, hown, hts⟩ (ct_X4_remember l D cA α n _ hn S t k N M (by skip; exact ht) ht2 (by skip; exact hk) hk2 (by skip; exact hN) (by omega) (by skip; exact hM) (by omega)) (cwV 1 hts gX10_setTolerance_X4_remember rfl rfl rfl (by decide +kernel) ⟨Nat.le_of_ble_eq_true rfl, Nat.le_of_ble_eq_true rfl⟩) hK hw hAw (ws_recv hK hw (q := 11) (Nat.lt_of_lt_of_le (Nat.le_of_ble_eq_true rfl : 11 < 191) hn) (mk_11 cA α) rfl) rfl hl.1 rfl (Nat.le_of_ble_eq_true rfl) dX10_setTolerance_19 ⟨Nat.zero_le _, Nat.zero_le _⟩ (fun S1 eS1 H locs hw => ?_)
  refine lv_aload_n hx hb dX10_setTolerance_22 rfl (lv_at hl 0 rfl) ?_
  refine x_get (v := .ref (α 3)) (C := RX10) (T := TX10) (N := 7) hx hb hts (fun _ h => List.mem_cons_of_mem _ (List.mem_append_left _ (List.mem_append_left _ (List.mem_append_left _ (List.mem_append_left _ (List.mem_append_right _ h)))))) hown hK hw 0 (Nat.lt_of_lt_of_le (Nat.le_of_ble_eq_true rfl : 0 < 191) hn) (mk_0 cA α) rfl 1 (by decide) (hts _ (List.mem_of_getElem? (i := 3) rfl)) (fun _ h9 => h9) rfl dX10_setTolerance_23 ?_
  refine x_get (v := .ref (α 74)) (C := RX0) (T := TX0) (N := 3) hx hb hts (fun _ h => List.mem_cons_of_mem _ (List.mem_append_left _ (List.mem_append_left _ (List.mem_append_left _ (List.mem_append_right _ h))))) hown hK hw 3 (Nat.lt_of_lt_of_le (Nat.le_of_ble_eq_true rfl : 3 < 191) hn) (mk_3 cA α) rfl 2 (by decide) (hts _ (List.mem_of_getElem? (i := 4) rfl)) (fun _ h9 => h9) rfl dX10_setTolerance_26 ?_
  refine x_get (v := .int (S1.1 74 2)) (C := RX9) (T := TX9) (N := 14) hx hb hts (fun _ h => List.mem_cons_of_mem _ (List.mem_append_left _ (List.mem_append_left _ (List.mem_append_right _ h)))) hown hK hw 74 (Nat.lt_of_lt_of_le (Nat.le_of_ble_eq_true rfl : 74 < 191) hn) (mk_74 cA α) rfl 2 (by decide) (hts _ (List.mem_of_getElem? (i := 5) rfl)) (fun _ h9 => h9) rfl dX10_setTolerance_29 ?_
  refine x_topE (y := S.1 74 2) (by subst eS1; exact (congrFun (cRem_1 (by decide) (by decide)) 2)) ?_
  refine lv_istore_n (lv' := [(2, .int (S.1 74 2)), (0, .ref (α 0)), (1, .int x)]) hx hb dX10_setTolerance_32 rfl hl (by decide) rfl (fun ls hl => ?_)
  refine lv_aload_n hx hb dX10_setTolerance_33 rfl (lv_at hl 1 rfl) ?_
  refine x_get (v := .ref (α 3)) (C := RX10) (T := TX10) (N := 7) hx hb hts (fun _ h => List.mem_cons_of_mem _ (List.mem_append_left _ (List.mem_append_left _ (List.mem_append_left _ (List.mem_append_left _ (List.mem_append_right _ h)))))) hown hK hw 0 (Nat.lt_of_lt_of_le (Nat.le_of_ble_eq_true rfl : 0 < 191) hn) (mk_0 cA α) rfl 1 (by decide) (hts _ (List.mem_of_getElem? (i := 3) rfl)) (fun _ h9 => h9) rfl dX10_setTolerance_34 ?_
  refine x_get (v := .ref (α 74)) (C := RX0) (T := TX0) (N := 3) hx hb hts (fun _ h => List.mem_cons_of_mem _ (List.mem_append_left _ (List.mem_append_left _ (List.mem_append_left _ (List.mem_append_right _ h))))) hown hK hw 3 (Nat.lt_of_lt_of_le (Nat.le_of_ble_eq_true rfl : 3 < 191) hn) (mk_3 cA α) rfl 2 (by decide) (hts _ (List.mem_of_getElem? (i := 4) rfl)) (fun _ h9 => h9) rfl dX10_setTolerance_37 ?_
  refine lv_iload_n hx hb dX10_setTolerance_40 rfl (lv_at hl 2 rfl) ?_
  refine x_putI (x := x) (ty := .int) (C := RX9) (T := TX9) (N := 14) hx hb hts (fun _ h => List.mem_cons_of_mem _ (List.mem_append_left _ (List.mem_append_left _ (List.mem_append_right _ h)))) tyX9 tyX9_ok nmX9 hown hK hw 74 (Nat.lt_of_lt_of_le (Nat.le_of_ble_eq_true rfl : 74 < 191) hn) (mk_74 cA α) rfl 2 (by decide) (hts _ (List.mem_of_getElem? (i := 5) rfl)) (fun _ h9 => h9) rfl rfl rfl rfl (Nat.le_of_ble_eq_true rfl) rfl dX10_setTolerance_41 (fun S2 eS2 H locs hw => ?_)
  refine lv_iload_n hx hb dX10_setTolerance_44 rfl (lv_at hl 0 rfl) ?_
  exact ret_i hx hb hr hlocks hK hw dX10_setTolerance_45 rfl (by subst_vars; rfl)

set_option maxRecDepth 100000 in
set_option maxHeartbeats 1000000 in
theorem ct_X10_setToleranceX (l : Launch) (hst : l.stackTraces = false) (sa : Nat → Nat) (D : va_G) (cA : Nat → ClassId) (α : Nat → Nat) (n sz : Nat) (hn : 191 ≤ n) (S : Mem) (x : Int32) (hx9 : ¬ ∃ i, 0 ≤ i ∧ i ≤ 1000000 ∧ x = nI i) : CtX sa l yX10_setTolerance wsX10_setTolerance ({ frames := 7, cells := 1, slots := 6, locals := 122 }) D cA α n sz [.ref (α 0), .int x] S eIA := by
  refine ctx_enter cX10_setTolerance 3 (some .int) (by decide) rfl (Nat.le_of_ble_eq_true rfl) ?_
  intro p e s m below meth c hx hb hr hml hlocks hown hts hK hsz hw hZ hSx hout ls hl
  have hown : s.vm.findClass RX10 = some m.cls := hown
  have hAw : ∀ z, Aw α n s.heap.size z → Aw α n sz z := by rw [hsz]; exact fun _ h => h
  have hl : lv_has ls 3 [(0, .ref (α 0)), (1, .int x)] := hl
  refine lv_iload_n hx hb dX10_setTolerance_0 rfl (lv_at hl 1 rfl) ?_
  refine lv_iconst (v := nI 0) hx hb dX10_setTolerance_1 (by decide) ?_
  refine lv_ldcw (v := 1000000) hx hb hown (hts _ (List.mem_of_getElem? (i := 1) rfl)) dX10_setTolerance_2 ?_
  refine x_topN (k := 1000000) (by decide) ?_
  exact x_callXS (As := [.int x, .int (nI 0), .int (nI 1000000)]) (rest := []) ⟨hx, hb, hml, hown, hts⟩ (ct_X10_requireRangeX l hst sa D cA α n _ hn S x 0 1000000 (by decide) (by decide) hx9) (va_cwS 3 hts gX10_setTolerance_X10_requireRange rfl rfl rfl (by decide +kernel) ⟨Nat.le_of_ble_eq_true rfl, Nat.le_of_ble_eq_true rfl⟩) hK hw hsz hZ hSx rfl hl.1 rfl (Nat.le_of_ble_eq_true rfl) dX10_setTolerance_5 ⟨Nat.le_of_ble_eq_true rfl, Nat.le_of_ble_eq_true rfl⟩ hout hlocks rfl

set_option maxRecDepth 100000 in
set_option maxHeartbeats 1000000 in
theorem ct_X10_setRate (l : Launch) (D : va_G) (cA : Nat → ClassId) (α : Nat → Nat) (n sz : Nat) (hn : 191 ≤ n) (S : Mem) (Un : Nat) (hU : S.1 23 0 = nI Un) (hU2 : Un ≤ 4) (i : Nat) (hi : i < Un) (x : Int32) (h1 : ∃ i, 1 ≤ i ∧ i ≤ 9999 ∧ x = nI i) (N : Nat) (hN : S.1 74 0 = nI N) (hN2 : N ≤ 100) (M : Nat) (hM : S.1 74 1 = nI M) (hM2 : M ≤ 100) (t k : Nat) (ht : S.1 11 1 = nI t) (ht2 : t < 10) (hk : S.1 11 0 = nI k) (hk2 : k ≤ 10) : CtI l yX10_setRate wsX10_setRate ({ frames := 7, cells := 0, slots := 0, locals := 122 }) D cA α n sz [.ref (α 0), .int (nI i), .int x] S (S.1 81 i) (setI (cRem S t k N M) 81 i x) := by
  refine ct_enter cX10_setRate 4 (some .int) (by decide) rfl (Nat.le_of_ble_eq_true rfl) ?_
  intro p e s m below meth c hx hb hr hml hlocks hown hts hK hsz hw ls hl
  have hown : s.vm.findClass RX10 = some m.cls := hown
  have hAw : ∀ z, Aw α n s.heap.size z → Aw α n sz z := by rw [hsz]; exact fun _ h => h
  have hl : lv_has ls 4 [(0, .ref (α 0)), (1, .int (nI i)), (2, .int x)] := hl
  refine lv_aload_n hx hb dX10_setRate_0 rfl (lv_at hl 0 rfl) ?_
  refine lv_iload_n hx hb dX10_setRate_1 rfl (lv_at hl 1 rfl) ?_
  refine x_callVVr (q := 0) (C := RX10) (As := [.int (nI i)]) (rest := []) ⟨hx, hb, hml, hown, hts⟩ (ct_X10_requireCurrency l D cA α n _ hn S Un hU hU2 i hi) (cwV 1 hts gX10_setRate_X10_requireCurrency rfl rfl rfl (by decide +kernel) ⟨Nat.le_of_ble_eq_true rfl, Nat.le_of_ble_eq_true rfl⟩) hK hw hAw (ws_recv hK hw (q := 0) (Nat.lt_of_lt_of_le (Nat.le_of_ble_eq_true rfl : 0 < 191) hn) (mk_0 cA α) rfl) rfl hl.1 rfl (Nat.le_of_ble_eq_true rfl) dX10_setRate_2 ⟨Nat.zero_le _, Nat.zero_le _⟩ (fun H locs hw => ?_)
  refine lv_iload_n hx hb dX10_setRate_5 rfl (lv_at hl 2 rfl) ?_
  refine lv_iconst (v := nI 1) hx hb dX10_setRate_6 (by decide) ?_
  refine lv_sipush (v := nI 9999) hx hb dX10_setRate_7 (by decide) ?_
  refine x_callSVr (q := 0) (C := RX0) (As := [.int x, .int (nI 1), .int (nI 9999)]) (rest := []) ⟨hx, hb, hml, hown, hts⟩ (ct_X10_requireRange l D cA α n _ hn S x 1 9999 (by decide) (by decide) h1) (va_cwS 3 hts gX10_setRate_X10_requireRange rfl rfl rfl (by decide +kernel) ⟨Nat.le_of_ble_eq_true rfl, Nat.le_of_ble_eq_true rfl⟩) hK hw hAw rfl hl.1 rfl (Nat.le_of_ble_eq_true rfl) dX10_setRate_10 ⟨Nat.zero_le _, Nat.zero_le _⟩ (fun H locs hw => ?_)
  refine lv_aload_n hx hb dX10_setRate_13 rfl (lv_at hl 0 rfl) ?_
  refine x_get (v := .ref (α 11)) (C := RX10) (T := TX10) (N := 7) hx hb hts (fun _ h => List.mem_cons_of_mem _ (List.mem_append_left _ (List.mem_append_left _ (List.mem_append_left _ (List.mem_append_left _ (List.mem_append_left _ (List.mem_append_left _ (List.mem_append_right _ h)))))))) hown hK hw 0 (Nat.lt_of_lt_of_le (Nat.le_of_ble_eq_true rfl : 0 < 191) hn) (mk_0 cA α) rfl 5 (by decide) (hts _ (List.mem_of_getElem? (i := 1) rfl)) (fun _ h9 => h9) rfl dX10_setRate_14 ?_
  refine lv_aload_n hx hb dX10_setRate_17 rfl (lv_at hl 0 rfl) ?_
  refine x_get (v := .ref (α 3)) (C := RX10) (T := TX10) (N := 7) hx hb hts (fun _ h => List.mem_cons_of_mem _ (List.mem_append_left _ (List.mem_append_left _ (List.mem_append_left _ (List.mem_append_left _ (List.mem_append_left _ (List.mem_append_left _ (List.mem_append_right _ h)))))))) hown hK hw 0 (Nat.lt_of_lt_of_le (Nat.le_of_ble_eq_true rfl : 0 < 191) hn) (mk_0 cA α) rfl 1 (by decide) (hts _ (List.mem_of_getElem? (i := 2) rfl)) (fun _ h9 => h9) rfl dX10_setRate_18 ?_
  refine x_get (v := .ref (α 74)) (C := RX0) (T := TX0) (N := 3) hx hb hts (fun _ h => List.mem_cons_of_mem _ (List.mem_append_left _ (List.mem_append_left _ (List.mem_append_left _ (List.mem_append_left _ (List.mem_append_left _ (List.mem_append_right _ h))))))) hown hK hw 3 (Nat.lt_of_lt_of_le (Nat.le_of_ble_eq_true rfl : 3 < 191) hn) (mk_3 cA α) rfl 2 (by decide) (hts _ (List.mem_of_getElem? (i := 3) rfl)) (fun _ h9 => h9) rfl dX10_setRate_21 ?_
  refine x_callVV (q := 11) (C := RX4) (As := [.ref (α 74)]) (rest := []) ⟨hx, hb, hml, hown, hts⟩ (ct_X4_remember l D cA α n _ hn S t k N M (by skip; exact ht) ht2 (by skip; exact hk) hk2 (by skip; exact hN) (by omega) (by skip; exact hM) (by omega)) (cwV 1 hts gX10_setRate_X4_remember rfl rfl rfl (by decide +kernel) ⟨Nat.le_of_ble_eq_true rfl, Nat.le_of_ble_eq_true rfl⟩) hK hw hAw (ws_recv hK hw (q := 11) (Nat.lt_of_lt_of_le (Nat.le_of_ble_eq_true rfl : 11 < 191) hn) (mk_11 cA α) rfl) rfl hl.1 rfl (Nat.le_of_ble_eq_true rfl) dX10_setRate_24 ⟨Nat.zero_le _, Nat.zero_le _⟩ (fun S1 eS1 H locs hw => ?_)
  refine lv_aload_n hx hb dX10_setRate_27 rfl (lv_at hl 0 rfl) ?_
  refine x_get (v := .ref (α 3)) (C := RX10) (T := TX10) (N := 7) hx hb hts (fun _ h => List.mem_cons_of_mem _ (List.mem_append_left _ (List.mem_append_left _ (List.mem_append_left _ (List.mem_append_left _ (List.mem_append_left _ (List.mem_append_left _ (List.mem_append_right _ h)))))))) hown hK hw 0 (Nat.lt_of_lt_of_le (Nat.le_of_ble_eq_true rfl : 0 < 191) hn) (mk_0 cA α) rfl 1 (by decide) (hts _ (List.mem_of_getElem? (i := 2) rfl)) (fun _ h9 => h9) rfl dX10_setRate_28 ?_
  refine x_get (v := .ref (α 74)) (C := RX0) (T := TX0) (N := 3) hx hb hts (fun _ h => List.mem_cons_of_mem _ (List.mem_append_left _ (List.mem_append_left _ (List.mem_append_left _ (List.mem_append_left _ (List.mem_append_left _ (List.mem_append_right _ h))))))) hown hK hw 3 (Nat.lt_of_lt_of_le (Nat.le_of_ble_eq_true rfl : 3 < 191) hn) (mk_3 cA α) rfl 2 (by decide) (hts _ (List.mem_of_getElem? (i := 3) rfl)) (fun _ h9 => h9) rfl dX10_setRate_31 ?_
  refine x_get (v := .ref (α 81)) (C := RX9) (T := TX9) (N := 14) hx hb hts (fun _ h => List.mem_cons_of_mem _ (List.mem_append_left _ (List.mem_append_left _ (List.mem_append_left _ (List.mem_append_left _ (List.mem_append_right _ h)))))) hown hK hw 74 (Nat.lt_of_lt_of_le (Nat.le_of_ble_eq_true rfl : 74 < 191) hn) (mk_74 cA α) rfl 12 (by decide) (hts _ (List.mem_of_getElem? (i := 4) rfl)) (fun _ h9 => h9) rfl dX10_setRate_34 ?_
  refine lv_iload_n hx hb dX10_setRate_37 rfl (lv_at hl 1 rfl) ?_
  refine x_iald hx hb hK hw 81 4 (Nat.lt_of_lt_of_le (Nat.le_of_ble_eq_true rfl : 81 < 191) hn) (mk_81 cA α) i rfl (by omega) (by decide) dX10_setRate_38 ?_
  refine x_topE (y := S.1 81 i) (by subst eS1; exact (congrFun (cRem_1 (by decide) (by decide)) i)) ?_
  refine lv_istore_n (lv' := [(3, .int (S.1 81 i)), (0, .ref (α 0)), (1, .int (nI i)), (2, .int x)]) hx hb dX10_setRate_39 rfl hl (by decide) rfl (fun ls hl => ?_)
  refine lv_aload_n hx hb dX10_setRate_40 rfl (lv_at hl 1 rfl) ?_
  refine x_get (v := .ref (α 3)) (C := RX10) (T := TX10) (N := 7) hx hb hts (fun _ h => List.mem_cons_of_mem _ (List.mem_append_left _ (List.mem_append_left _ (List.mem_append_left _ (List.mem_append_left _ (List.mem_append_left _ (List.mem_append_left _ (List.mem_append_right _ h)))))))) hown hK hw 0 (Nat.lt_of_lt_of_le (Nat.le_of_ble_eq_true rfl : 0 < 191) hn) (mk_0 cA α) rfl 1 (by decide) (hts _ (List.mem_of_getElem? (i := 2) rfl)) (fun _ h9 => h9) rfl dX10_setRate_41 ?_
  refine x_get (v := .ref (α 74)) (C := RX0) (T := TX0) (N := 3) hx hb hts (fun _ h => List.mem_cons_of_mem _ (List.mem_append_left _ (List.mem_append_left _ (List.mem_append_left _ (List.mem_append_left _ (List.mem_append_left _ (List.mem_append_right _ h))))))) hown hK hw 3 (Nat.lt_of_lt_of_le (Nat.le_of_ble_eq_true rfl : 3 < 191) hn) (mk_3 cA α) rfl 2 (by decide) (hts _ (List.mem_of_getElem? (i := 3) rfl)) (fun _ h9 => h9) rfl dX10_setRate_44 ?_
  refine x_get (v := .ref (α 81)) (C := RX9) (T := TX9) (N := 14) hx hb hts (fun _ h => List.mem_cons_of_mem _ (List.mem_append_left _ (List.mem_append_left _ (List.mem_append_left _ (List.mem_append_left _ (List.mem_append_right _ h)))))) hown hK hw 74 (Nat.lt_of_lt_of_le (Nat.le_of_ble_eq_true rfl : 74 < 191) hn) (mk_74 cA α) rfl 12 (by decide) (hts _ (List.mem_of_getElem? (i := 4) rfl)) (fun _ h9 => h9) rfl dX10_setRate_47 ?_
  refine lv_iload_n hx hb dX10_setRate_50 rfl (lv_at hl 2 rfl) ?_
  refine lv_iload_n hx hb dX10_setRate_51 rfl (lv_at hl 3 rfl) ?_
  refine x_iast (x := x) hx hb hK hw 81 4 (Nat.lt_of_lt_of_le (Nat.le_of_ble_eq_true rfl : 81 < 191) hn) (mk_81 cA α) i rfl (by omega) (by decide) dX10_setRate_52 (fun S2 eS2 H locs hw => ?_)
  refine lv_iload_n hx hb dX10_setRate_53 rfl (lv_at hl 0 rfl) ?_
  exact ret_i hx hb hr hlocks hK hw dX10_setRate_54 rfl (by subst_vars; rfl)

set_option maxRecDepth 100000 in
set_option maxHeartbeats 1000000 in
theorem ct_X10_setRateX (l : Launch) (hst : l.stackTraces = false) (sa : Nat → Nat) (D : va_G) (cA : Nat → ClassId) (α : Nat → Nat) (n sz : Nat) (hn : 191 ≤ n) (S : Mem) (Un : Nat) (hU : S.1 23 0 = nI Un) (hU2 : Un ≤ 4) (x y : Int32) (hx9 : ¬ ∃ i, i < Un ∧ x = nI i) : CtX sa l yX10_setRate wsX10_setRate ({ frames := 7, cells := 1, slots := 6, locals := 122 }) D cA α n sz [.ref (α 0), .int x, .int y] S eIO := by
  refine ctx_enter cX10_setRate 4 (some .int) (by decide) rfl (Nat.le_of_ble_eq_true rfl) ?_
  intro p e s m below meth c hx hb hr hml hlocks hown hts hK hsz hw hZ hSx hout ls hl
  have hown : s.vm.findClass RX10 = some m.cls := hown
  have hAw : ∀ z, Aw α n s.heap.size z → Aw α n sz z := by rw [hsz]; exact fun _ h => h
  have hl : lv_has ls 4 [(0, .ref (α 0)), (1, .int x), (2, .int y)] := hl
  refine lv_aload_n hx hb dX10_setRate_0 rfl (lv_at hl 0 rfl) ?_
  refine lv_iload_n hx hb dX10_setRate_1 rfl (lv_at hl 1 rfl) ?_
  exact x_callXV (q := 0) (C := RX10) (As := [.int x]) (rest := []) ⟨hx, hb, hml, hown, hts⟩ (ct_X10_requireCurrencyX l hst sa D cA α n _ hn S Un hU hU2 x hx9) (cwV 1 hts gX10_setRate_X10_requireCurrency rfl rfl rfl (by decide +kernel) ⟨Nat.le_of_ble_eq_true rfl, Nat.le_of_ble_eq_true rfl⟩) hK hw hsz hZ hSx (ws_recv hK hw (q := 0) (Nat.lt_of_lt_of_le (Nat.le_of_ble_eq_true rfl : 0 < 191) hn) (mk_0 cA α) rfl) rfl hl.1 rfl (Nat.le_of_ble_eq_true rfl) dX10_setRate_2 ⟨Nat.le_of_ble_eq_true rfl, Nat.le_of_ble_eq_true rfl⟩ hout hlocks rfl

set_option maxRecDepth 100000 in
set_option maxHeartbeats 1000000 in
theorem ct_X10_setRateY (l : Launch) (hst : l.stackTraces = false) (sa : Nat → Nat) (D : va_G) (cA : Nat → ClassId) (α : Nat → Nat) (n sz : Nat) (hn : 191 ≤ n) (S : Mem) (Un : Nat) (hU : S.1 23 0 = nI Un) (hU2 : Un ≤ 4) (i : Nat) (hi : i < Un) (y : Int32) (hx9 : ¬ ∃ i, 1 ≤ i ∧ i ≤ 9999 ∧ y = nI i) : CtX sa l yX10_setRate wsX10_setRate ({ frames := 7, cells := 1, slots := 6, locals := 122 }) D cA α n sz [.ref (α 0), .int (nI i), .int y] S eIA := by
  refine ctx_enter cX10_setRate 4 (some .int) (by decide) rfl (Nat.le_of_ble_eq_true rfl) ?_
  intro p e s m below meth c hx hb hr hml hlocks hown hts hK hsz hw hZ hSx hout ls hl
  have hown : s.vm.findClass RX10 = some m.cls := hown
  have hAw : ∀ z, Aw α n s.heap.size z → Aw α n sz z := by rw [hsz]; exact fun _ h => h
  have hl : lv_has ls 4 [(0, .ref (α 0)), (1, .int (nI i)), (2, .int y)] := hl
  refine lv_aload_n hx hb dX10_setRate_0 rfl (lv_at hl 0 rfl) ?_
  refine lv_iload_n hx hb dX10_setRate_1 rfl (lv_at hl 1 rfl) ?_
  refine x_callVVr (q := 0) (C := RX10) (As := [.int (nI i)]) (rest := []) ⟨hx, hb, hml, hown, hts⟩ (ct_X10_requireCurrency l D cA α n _ hn S Un hU hU2 i hi) (cwV 1 hts gX10_setRate_X10_requireCurrency rfl rfl rfl (by decide +kernel) ⟨Nat.le_of_ble_eq_true rfl, Nat.le_of_ble_eq_true rfl⟩) hK hw hAw (ws_recv hK hw (q := 0) (Nat.lt_of_lt_of_le (Nat.le_of_ble_eq_true rfl : 0 < 191) hn) (mk_0 cA α) rfl) rfl hl.1 rfl (Nat.le_of_ble_eq_true rfl) dX10_setRate_2 ⟨Nat.zero_le _, Nat.zero_le _⟩ (fun H locs hw => ?_)
  refine lv_iload_n hx hb dX10_setRate_5 rfl (lv_at hl 2 rfl) ?_
  refine lv_iconst (v := nI 1) hx hb dX10_setRate_6 (by decide) ?_
  refine lv_sipush (v := nI 9999) hx hb dX10_setRate_7 (by decide) ?_
  exact x_callXS (As := [.int y, .int (nI 1), .int (nI 9999)]) (rest := []) ⟨hx, hb, hml, hown, hts⟩ (ct_X10_requireRangeX l hst sa D cA α n _ hn S y 1 9999 (by decide) (by decide) hx9) (va_cwS 3 hts gX10_setRate_X10_requireRange rfl rfl rfl (by decide +kernel) ⟨Nat.le_of_ble_eq_true rfl, Nat.le_of_ble_eq_true rfl⟩) hK hw hsz hZ hSx rfl hl.1 rfl (Nat.le_of_ble_eq_true rfl) dX10_setRate_10 ⟨Nat.le_of_ble_eq_true rfl, Nat.le_of_ble_eq_true rfl⟩ hout hlocks rfl

set_option maxRecDepth 100000 in
set_option maxHeartbeats 1000000 in
theorem ct_X10_cancel (l : Launch) (D : va_G) (cA : Nat → ClassId) (α : Nat → Nat) (n sz : Nat) (hn : 191 ≤ n) (S : Mem) (N : Nat) (hN : S.1 74 0 = nI N) (hN2 : N ≤ 100) (i : Nat) (hi : i < N) (hs : S.1 76 i = 0) (ho : okC S i) (M : Nat) (hM : S.1 74 1 = nI M) (hM2 : M ≤ 100) (t k : Nat) (ht : S.1 11 1 = nI t) (ht2 : t < 10) (hk : S.1 11 0 = nI k) (hk2 : k ≤ 10) : CtL l yX10_cancel wsX10_cancel ({ frames := 7, cells := 0, slots := 0, locals := 121 }) D cA α n sz [.ref (α 0), .int (nI i)] S (cVal S i) (setI (cRem S t k N M) 76 i (nI 4)) := by
  refine ct_enter cX10_cancel 4 (some .long) (by decide) rfl (Nat.le_of_ble_eq_true rfl) ?_
  intro p e s m below meth c hx hb hr hml hlocks hown hts hK hsz hw ls hl
  have hown : s.vm.findClass RX10 = some m.cls := hown
  have hAw : ∀ z, Aw α n s.heap.size z → Aw α n sz z := by rw [hsz]; exact fun _ h => h
  have hl : lv_has ls 4 [(0, .ref (α 0)), (1, .int (nI i))] := hl
  refine lv_aload_n hx hb dX10_cancel_0 rfl (lv_at hl 0 rfl) ?_
  refine lv_iload_n hx hb dX10_cancel_1 rfl (lv_at hl 1 rfl) ?_
  refine x_callVVr (q := 0) (C := RX10) (As := [.int (nI i)]) (rest := []) ⟨hx, hb, hml, hown, hts⟩ (ct_X10_requireItem l D cA α n _ hn S N hN hN2 i hi) (cwV 1 hts gX10_cancel_X10_requireItem rfl rfl rfl (by decide +kernel) ⟨Nat.le_of_ble_eq_true rfl, Nat.le_of_ble_eq_true rfl⟩) hK hw hAw (ws_recv hK hw (q := 0) (Nat.lt_of_lt_of_le (Nat.le_of_ble_eq_true rfl : 0 < 191) hn) (mk_0 cA α) rfl) rfl hl.1 rfl (Nat.le_of_ble_eq_true rfl) dX10_cancel_2 ⟨Nat.zero_le _, Nat.zero_le _⟩ (fun H locs hw => ?_)
  refine lv_aload_n hx hb dX10_cancel_5 rfl (lv_at hl 0 rfl) ?_
  refine x_get (v := .ref (α 3)) (C := RX10) (T := TX10) (N := 7) hx hb hts (fun _ h => List.mem_cons_of_mem _ (List.mem_append_left _ (List.mem_append_left _ (List.mem_append_left _ (List.mem_append_left _ (List.mem_append_left _ (List.mem_append_left _ (List.mem_append_left _ (List.mem_append_right _ h))))))))) hown hK hw 0 (Nat.lt_of_lt_of_le (Nat.le_of_ble_eq_true rfl : 0 < 191) hn) (mk_0 cA α) rfl 1 (by decide) (hts _ (List.mem_of_getElem? (i := 3) rfl)) (fun _ h9 => h9) rfl dX10_cancel_6 ?_
  refine x_get (v := .ref (α 74)) (C := RX0) (T := TX0) (N := 3) hx hb hts (fun _ h => List.mem_cons_of_mem _ (List.mem_append_left _ (List.mem_append_left _ (List.mem_append_left _ (List.mem_append_left _ (List.mem_append_left _ (List.mem_append_left _ (List.mem_append_right _ h)))))))) hown hK hw 3 (Nat.lt_of_lt_of_le (Nat.le_of_ble_eq_true rfl : 3 < 191) hn) (mk_3 cA α) rfl 2 (by decide) (hts _ (List.mem_of_getElem? (i := 4) rfl)) (fun _ h9 => h9) rfl dX10_cancel_9 ?_
  refine x_get (v := .ref (α 76)) (C := RX9) (T := TX9) (N := 14) hx hb hts (fun _ h => List.mem_cons_of_mem _ (List.mem_append_left _ (List.mem_append_left _ (List.mem_append_left _ (List.mem_append_left _ (List.mem_append_left _ (List.mem_append_right _ h))))))) hown hK hw 74 (Nat.lt_of_lt_of_le (Nat.le_of_ble_eq_true rfl : 74 < 191) hn) (mk_74 cA α) rfl 7 (by decide) (hts _ (List.mem_of_getElem? (i := 5) rfl)) (fun _ h9 => h9) rfl dX10_cancel_12 ?_
  refine lv_iload_n hx hb dX10_cancel_15 rfl (lv_at hl 1 rfl) ?_
  refine x_iald hx hb hK hw 76 100 (Nat.lt_of_lt_of_le (Nat.le_of_ble_eq_true rfl : 76 < 191) hn) (mk_76 cA α) i rfl (by omega) (by decide) dX10_cancel_16 ?_
  refine lv_if_eq (tgt := 31) hx hb dX10_cancel_17 (by decide) (fun c1 => ?_) (fun c1 => ?_)
  · skip
    refine lv_aload_n hx hb dX10_cancel_31 rfl (lv_at hl 0 rfl) ?_
    refine x_get (v := .ref (α 11)) (C := RX10) (T := TX10) (N := 7) hx hb hts (fun _ h => List.mem_cons_of_mem _ (List.mem_append_left _ (List.mem_append_left _ (List.mem_append_left _ (List.mem_append_left _ (List.mem_append_left _ (List.mem_append_left _ (List.mem_append_left _ (List.mem_append_right _ h))))))))) hown hK hw 0 (Nat.lt_of_lt_of_le (Nat.le_of_ble_eq_true rfl : 0 < 191) hn) (mk_0 cA α) rfl 5 (by decide) (hts _ (List.mem_of_getElem? (i := 6) rfl)) (fun _ h9 => h9) rfl dX10_cancel_32 ?_
    refine lv_aload_n hx hb dX10_cancel_35 rfl (lv_at hl 0 rfl) ?_
    refine x_get (v := .ref (α 3)) (C := RX10) (T := TX10) (N := 7) hx hb hts (fun _ h => List.mem_cons_of_mem _ (List.mem_append_left _ (List.mem_append_left _ (List.mem_append_left _ (List.mem_append_left _ (List.mem_append_left _ (List.mem_append_left _ (List.mem_append_left _ (List.mem_append_right _ h))))))))) hown hK hw 0 (Nat.lt_of_lt_of_le (Nat.le_of_ble_eq_true rfl : 0 < 191) hn) (mk_0 cA α) rfl 1 (by decide) (hts _ (List.mem_of_getElem? (i := 3) rfl)) (fun _ h9 => h9) rfl dX10_cancel_36 ?_
    refine x_get (v := .ref (α 74)) (C := RX0) (T := TX0) (N := 3) hx hb hts (fun _ h => List.mem_cons_of_mem _ (List.mem_append_left _ (List.mem_append_left _ (List.mem_append_left _ (List.mem_append_left _ (List.mem_append_left _ (List.mem_append_left _ (List.mem_append_right _ h)))))))) hown hK hw 3 (Nat.lt_of_lt_of_le (Nat.le_of_ble_eq_true rfl : 3 < 191) hn) (mk_3 cA α) rfl 2 (by decide) (hts _ (List.mem_of_getElem? (i := 4) rfl)) (fun _ h9 => h9) rfl dX10_cancel_39 ?_
    refine x_callVV (q := 11) (C := RX4) (As := [.ref (α 74)]) (rest := []) ⟨hx, hb, hml, hown, hts⟩ (ct_X4_remember l D cA α n _ hn S t k N M (by skip; exact ht) ht2 (by skip; exact hk) hk2 (by skip; exact hN) (by omega) (by skip; exact hM) (by omega)) (cwV 1 hts gX10_cancel_X4_remember rfl rfl rfl (by decide +kernel) ⟨Nat.le_of_ble_eq_true rfl, Nat.le_of_ble_eq_true rfl⟩) hK hw hAw (ws_recv hK hw (q := 11) (Nat.lt_of_lt_of_le (Nat.le_of_ble_eq_true rfl : 11 < 191) hn) (mk_11 cA α) rfl) rfl hl.1 rfl (Nat.le_of_ble_eq_true rfl) dX10_cancel_42 ⟨Nat.zero_le _, Nat.zero_le _⟩ (fun S1 eS1 H locs hw => ?_)
    refine lv_aload_n hx hb dX10_cancel_45 rfl (lv_at hl 0 rfl) ?_
    refine x_get (v := .ref (α 3)) (C := RX10) (T := TX10) (N := 7) hx hb hts (fun _ h => List.mem_cons_of_mem _ (List.mem_append_left _ (List.mem_append_left _ (List.mem_append_left _ (List.mem_append_left _ (List.mem_append_left _ (List.mem_append_left _ (List.mem_append_left _ (List.mem_append_right _ h))))))))) hown hK hw 0 (Nat.lt_of_lt_of_le (Nat.le_of_ble_eq_true rfl : 0 < 191) hn) (mk_0 cA α) rfl 1 (by decide) (hts _ (List.mem_of_getElem? (i := 3) rfl)) (fun _ h9 => h9) rfl dX10_cancel_46 ?_
    refine lv_iload_n hx hb dX10_cancel_49 rfl (lv_at hl 1 rfl) ?_
    refine x_callVLr (q := 3) (C := RX0) (As := [.int (nI i)]) (rest := []) ⟨hx, hb, hml, hown, hts⟩ (ct_X0_valueOf l D cA α n _ hn S1 i (by subst eS1; exact cRem_ok ho)) (cwV 1 hts gX10_cancel_X0_valueOf rfl rfl rfl (by decide +kernel) ⟨Nat.le_of_ble_eq_true rfl, Nat.le_of_ble_eq_true rfl⟩) hK hw hAw (ws_recv hK hw (q := 3) (Nat.lt_of_lt_of_le (Nat.le_of_ble_eq_true rfl : 3 < 191) hn) (mk_3 cA α) rfl) rfl hl.1 rfl (Nat.le_of_ble_eq_true rfl) dX10_cancel_50 ⟨Nat.zero_le _, Nat.zero_le _⟩ (fun H locs hw => ?_)
    refine x_topEL (y := cVal S i) (by subst eS1; exact cRem_val) ?_
    refine lv_lstore_n (lv' := [(2, .long (cVal S i)), (0, .ref (α 0)), (1, .int (nI i))]) hx hb dX10_cancel_53 rfl hl (by decide) rfl (fun ls hl => ?_)
    refine lv_aload_n hx hb dX10_cancel_54 rfl (lv_at hl 1 rfl) ?_
    refine x_get (v := .ref (α 3)) (C := RX10) (T := TX10) (N := 7) hx hb hts (fun _ h => List.mem_cons_of_mem _ (List.mem_append_left _ (List.mem_append_left _ (List.mem_append_left _ (List.mem_append_left _ (List.mem_append_left _ (List.mem_append_left _ (List.mem_append_left _ (List.mem_append_right _ h))))))))) hown hK hw 0 (Nat.lt_of_lt_of_le (Nat.le_of_ble_eq_true rfl : 0 < 191) hn) (mk_0 cA α) rfl 1 (by decide) (hts _ (List.mem_of_getElem? (i := 3) rfl)) (fun _ h9 => h9) rfl dX10_cancel_55 ?_
    refine x_get (v := .ref (α 74)) (C := RX0) (T := TX0) (N := 3) hx hb hts (fun _ h => List.mem_cons_of_mem _ (List.mem_append_left _ (List.mem_append_left _ (List.mem_append_left _ (List.mem_append_left _ (List.mem_append_left _ (List.mem_append_left _ (List.mem_append_right _ h)))))))) hown hK hw 3 (Nat.lt_of_lt_of_le (Nat.le_of_ble_eq_true rfl : 3 < 191) hn) (mk_3 cA α) rfl 2 (by decide) (hts _ (List.mem_of_getElem? (i := 4) rfl)) (fun _ h9 => h9) rfl dX10_cancel_58 ?_
    refine x_get (v := .ref (α 76)) (C := RX9) (T := TX9) (N := 14) hx hb hts (fun _ h => List.mem_cons_of_mem _ (List.mem_append_left _ (List.mem_append_left _ (List.mem_append_left _ (List.mem_append_left _ (List.mem_append_left _ (List.mem_append_right _ h))))))) hown hK hw 74 (Nat.lt_of_lt_of_le (Nat.le_of_ble_eq_true rfl : 74 < 191) hn) (mk_74 cA α) rfl 7 (by decide) (hts _ (List.mem_of_getElem? (i := 5) rfl)) (fun _ h9 => h9) rfl dX10_cancel_61 ?_
    refine lv_iload_n hx hb dX10_cancel_64 rfl (lv_at hl 2 rfl) ?_
    refine lv_iconst (v := nI 4) hx hb dX10_cancel_65 (by decide) ?_
    refine x_iast (x := nI 4) hx hb hK hw 76 100 (Nat.lt_of_lt_of_le (Nat.le_of_ble_eq_true rfl : 76 < 191) hn) (mk_76 cA α) i rfl (by omega) (by decide) dX10_cancel_66 (fun S2 eS2 H locs hw => ?_)
    refine lv_lload_n hx hb dX10_cancel_67 rfl (lv_at hl 0 rfl) ?_
    exact ret_l hx hb hr hlocks hK hw dX10_cancel_68 rfl (by subst eS2; subst eS1; rfl)
  · exact absurd hs c1

set_option maxRecDepth 100000 in
set_option maxHeartbeats 1000000 in
theorem ct_X10_cancelX (l : Launch) (hst : l.stackTraces = false) (sa : Nat → Nat) (D : va_G) (cA : Nat → ClassId) (α : Nat → Nat) (n sz : Nat) (hn : 191 ≤ n) (S : Mem) (N : Nat) (hN : S.1 74 0 = nI N) (hN2 : N ≤ 100) (x : Int32) (hx9 : ¬ ∃ i, i < N ∧ x = nI i) : CtX sa l yX10_cancel wsX10_cancel ({ frames := 7, cells := 1, slots := 6, locals := 121 }) D cA α n sz [.ref (α 0), .int x] S eIO := by
  refine ctx_enter cX10_cancel 4 (some .long) (by decide) rfl (Nat.le_of_ble_eq_true rfl) ?_
  intro p e s m below meth c hx hb hr hml hlocks hown hts hK hsz hw hZ hSx hout ls hl
  have hown : s.vm.findClass RX10 = some m.cls := hown
  have hAw : ∀ z, Aw α n s.heap.size z → Aw α n sz z := by rw [hsz]; exact fun _ h => h
  have hl : lv_has ls 4 [(0, .ref (α 0)), (1, .int x)] := hl
  refine lv_aload_n hx hb dX10_cancel_0 rfl (lv_at hl 0 rfl) ?_
  refine lv_iload_n hx hb dX10_cancel_1 rfl (lv_at hl 1 rfl) ?_
  exact x_callXV (q := 0) (C := RX10) (As := [.int x]) (rest := []) ⟨hx, hb, hml, hown, hts⟩ (ct_X10_requireItemX l hst sa D cA α n _ hn S N hN hN2 x hx9) (cwV 1 hts gX10_cancel_X10_requireItem rfl rfl rfl (by decide +kernel) ⟨Nat.le_of_ble_eq_true rfl, Nat.le_of_ble_eq_true rfl⟩) hK hw hsz hZ hSx (ws_recv hK hw (q := 0) (Nat.lt_of_lt_of_le (Nat.le_of_ble_eq_true rfl : 0 < 191) hn) (mk_0 cA α) rfl) rfl hl.1 rfl (Nat.le_of_ble_eq_true rfl) dX10_cancel_2 ⟨Nat.le_of_ble_eq_true rfl, Nat.le_of_ble_eq_true rfl⟩ hout hlocks rfl

set_option maxRecDepth 100000 in
set_option maxHeartbeats 1000000 in
theorem ct_X10_cancelY (l : Launch) (hst : l.stackTraces = false) (sa : Nat → Nat) (D : va_G) (cA : Nat → ClassId) (α : Nat → Nat) (n sz : Nat) (hn : 191 ≤ n) (S : Mem) (N : Nat) (hN : S.1 74 0 = nI N) (hN2 : N ≤ 100) (i : Nat) (hi : i < N) (hs : ¬ S.1 76 i = 0) : CtX sa l yX10_cancel wsX10_cancel ({ frames := 7, cells := 1, slots := 6, locals := 121 }) D cA α n sz [.ref (α 0), .int (nI i)] S eIS := by
  refine ctx_enter cX10_cancel 4 (some .long) (by decide) rfl (Nat.le_of_ble_eq_true rfl) ?_
  intro p e s m below meth c hx hb hr hml hlocks hown hts hK hsz hw hZ hSx hout ls hl
  have hown : s.vm.findClass RX10 = some m.cls := hown
  have hAw : ∀ z, Aw α n s.heap.size z → Aw α n sz z := by rw [hsz]; exact fun _ h => h
  have hl : lv_has ls 4 [(0, .ref (α 0)), (1, .int (nI i))] := hl
  refine lv_aload_n hx hb dX10_cancel_0 rfl (lv_at hl 0 rfl) ?_
  refine lv_iload_n hx hb dX10_cancel_1 rfl (lv_at hl 1 rfl) ?_
  refine x_callVVr (q := 0) (C := RX10) (As := [.int (nI i)]) (rest := []) ⟨hx, hb, hml, hown, hts⟩ (ct_X10_requireItem l D cA α n _ hn S N hN hN2 i hi) (cwV 1 hts gX10_cancel_X10_requireItem rfl rfl rfl (by decide +kernel) ⟨Nat.le_of_ble_eq_true rfl, Nat.le_of_ble_eq_true rfl⟩) hK hw hAw (ws_recv hK hw (q := 0) (Nat.lt_of_lt_of_le (Nat.le_of_ble_eq_true rfl : 0 < 191) hn) (mk_0 cA α) rfl) rfl hl.1 rfl (Nat.le_of_ble_eq_true rfl) dX10_cancel_2 ⟨Nat.zero_le _, Nat.zero_le _⟩ (fun H locs hw => ?_)
  refine lv_aload_n hx hb dX10_cancel_5 rfl (lv_at hl 0 rfl) ?_
  refine x_get (v := .ref (α 3)) (C := RX10) (T := TX10) (N := 7) hx hb hts (fun _ h => List.mem_cons_of_mem _ (List.mem_append_left _ (List.mem_append_left _ (List.mem_append_left _ (List.mem_append_left _ (List.mem_append_left _ (List.mem_append_left _ (List.mem_append_left _ (List.mem_append_right _ h))))))))) hown hK hw 0 (Nat.lt_of_lt_of_le (Nat.le_of_ble_eq_true rfl : 0 < 191) hn) (mk_0 cA α) rfl 1 (by decide) (hts _ (List.mem_of_getElem? (i := 3) rfl)) (fun _ h9 => h9) rfl dX10_cancel_6 ?_
  refine x_get (v := .ref (α 74)) (C := RX0) (T := TX0) (N := 3) hx hb hts (fun _ h => List.mem_cons_of_mem _ (List.mem_append_left _ (List.mem_append_left _ (List.mem_append_left _ (List.mem_append_left _ (List.mem_append_left _ (List.mem_append_left _ (List.mem_append_right _ h)))))))) hown hK hw 3 (Nat.lt_of_lt_of_le (Nat.le_of_ble_eq_true rfl : 3 < 191) hn) (mk_3 cA α) rfl 2 (by decide) (hts _ (List.mem_of_getElem? (i := 4) rfl)) (fun _ h9 => h9) rfl dX10_cancel_9 ?_
  refine x_get (v := .ref (α 76)) (C := RX9) (T := TX9) (N := 14) hx hb hts (fun _ h => List.mem_cons_of_mem _ (List.mem_append_left _ (List.mem_append_left _ (List.mem_append_left _ (List.mem_append_left _ (List.mem_append_left _ (List.mem_append_right _ h))))))) hown hK hw 74 (Nat.lt_of_lt_of_le (Nat.le_of_ble_eq_true rfl : 74 < 191) hn) (mk_74 cA α) rfl 7 (by decide) (hts _ (List.mem_of_getElem? (i := 5) rfl)) (fun _ h9 => h9) rfl dX10_cancel_12 ?_
  refine lv_iload_n hx hb dX10_cancel_15 rfl (lv_at hl 1 rfl) ?_
  refine x_iald hx hb hK hw 76 100 (Nat.lt_of_lt_of_le (Nat.le_of_ble_eq_true rfl : 76 < 191) hn) (mk_76 cA α) i rfl (by omega) (by decide) dX10_cancel_16 ?_
  refine lv_if_eq (tgt := 31) hx hb dX10_cancel_17 (by decide) (fun c1 => ?_) (fun c1 => ?_)
  · exact absurd c1 hs
  · skip
    exact x_throwSW (names := eUp) (rest := []) hx hb hst hown fit_IS fit_Up (hts _ (List.mem_of_getElem? (i := 1) rfl)) (hts _ (List.mem_of_getElem? (i := 2) rfl)) (hSx.1 _ (List.mem_of_getElem? (i := 7) rfl)) (at_IS hSx (fun w h => hts w ((fun _ h => List.mem_cons_of_mem _ (List.mem_append_left _ (List.mem_append_right _ h))) w h))) ga_IS hZ hK hw (hl.1.trans hml.symm) dX10_cancel_20 dX10_cancel_23 dX10_cancel_24 dX10_cancel_27 dX10_cancel_30 hout (Nat.le_of_ble_eq_true rfl) (Nat.le_of_ble_eq_true rfl) (Nat.le_of_ble_eq_true rfl) (Nat.le_of_ble_eq_true rfl) hlocks rfl

set_option maxRecDepth 100000 in
set_option maxHeartbeats 1000000 in
theorem ct_X10_match (l : Launch) (D : va_G) (cA : Nat → ClassId) (α : Nat → Nat) (n sz : Nat) (hn : 191 ≤ n) (S : Mem) (N : Nat) (hN : S.1 74 0 = nI N) (hN2 : N ≤ 100) (ho : ∀ j, j < N → okC S j) (M : Nat) (hM : S.1 74 1 = nI M) (hM2 : M ≤ 100) (t k : Nat) (ht : S.1 11 1 = nI t) (ht2 : t < 10) (hk : S.1 11 0 = nI k) (hk2 : k ≤ 10) : CtI l yX10_match wsX10_match ({ frames := 5, cells := 0, slots := 0, locals := 133 }) D cA α n sz [.ref (α 0)] S (nI (cPr (setR (cRem S t k N M) 5 (cPlan (cRem S t k N M) N N)) N).2) ((cPr (setR (cRem S t k N M) 5 (cPlan (cRem S t k N M) N N)) N).1) := by
  refine ct_enter cX10_match 1 (some .int) (by decide) rfl (Nat.le_of_ble_eq_true rfl) ?_
  intro p e s m below meth c hx hb hr hml hlocks hown hts hK hsz hw ls hl
  have hown : s.vm.findClass RX10 = some m.cls := hown
  have hAw : ∀ z, Aw α n s.heap.size z → Aw α n sz z := by rw [hsz]; exact fun _ h => h
  have hl : lv_has ls 1 [(0, .ref (α 0))] := hl
  refine lv_aload_n hx hb dX10_match_0 rfl (lv_at hl 0 rfl) ?_
  refine x_get (v := .ref (α 11)) (C := RX10) (T := TX10) (N := 7) hx hb hts (fun _ h => List.mem_cons_of_mem _ (List.mem_append_left _ (List.mem_append_left _ (List.mem_append_left _ (List.mem_append_left _ (List.mem_append_left _ (List.mem_append_left _ (List.mem_append_right _ h)))))))) hown hK hw 0 (Nat.lt_of_lt_of_le (Nat.le_of_ble_eq_true rfl : 0 < 191) hn) (mk_0 cA α) rfl 5 (by decide) (hts _ (List.mem_of_getElem? (i := 1) rfl)) (fun _ h9 => h9) rfl dX10_match_1 ?_
  refine lv_aload_n hx hb dX10_match_4 rfl (lv_at hl 0 rfl) ?_
  refine x_get (v := .ref (α 3)) (C := RX10) (T := TX10) (N := 7) hx hb hts (fun _ h => List.mem_cons_of_mem _ (List.mem_append_left _ (List.mem_append_left _ (List.mem_append_left _ (List.mem_append_left _ (List.mem_append_left _ (List.mem_append_left _ (List.mem_append_right _ h)))))))) hown hK hw 0 (Nat.lt_of_lt_of_le (Nat.le_of_ble_eq_true rfl : 0 < 191) hn) (mk_0 cA α) rfl 1 (by decide) (hts _ (List.mem_of_getElem? (i := 2) rfl)) (fun _ h9 => h9) rfl dX10_match_5 ?_
  refine x_get (v := .ref (α 74)) (C := RX0) (T := TX0) (N := 3) hx hb hts (fun _ h => List.mem_cons_of_mem _ (List.mem_append_left _ (List.mem_append_left _ (List.mem_append_left _ (List.mem_append_left _ (List.mem_append_left _ (List.mem_append_right _ h))))))) hown hK hw 3 (Nat.lt_of_lt_of_le (Nat.le_of_ble_eq_true rfl : 3 < 191) hn) (mk_3 cA α) rfl 2 (by decide) (hts _ (List.mem_of_getElem? (i := 3) rfl)) (fun _ h9 => h9) rfl dX10_match_8 ?_
  refine x_callVV (q := 11) (C := RX4) (As := [.ref (α 74)]) (rest := []) ⟨hx, hb, hml, hown, hts⟩ (ct_X4_remember l D cA α n _ hn S t k N M (by skip; exact ht) ht2 (by skip; exact hk) hk2 (by skip; exact hN) (by omega) (by skip; exact hM) (by omega)) (cwV 1 hts gX10_match_X4_remember rfl rfl rfl (by decide +kernel) ⟨Nat.le_of_ble_eq_true rfl, Nat.le_of_ble_eq_true rfl⟩) hK hw hAw (ws_recv hK hw (q := 11) (Nat.lt_of_lt_of_le (Nat.le_of_ble_eq_true rfl : 11 < 191) hn) (mk_11 cA α) rfl) rfl hl.1 rfl (Nat.le_of_ble_eq_true rfl) dX10_match_11 ⟨Nat.zero_le _, Nat.zero_le _⟩ (fun S1 eS1 H locs hw => ?_)
  refine lv_aload_n hx hb dX10_match_14 rfl (lv_at hl 0 rfl) ?_
  refine x_get (v := .ref (α 4)) (C := RX10) (T := TX10) (N := 7) hx hb hts (fun _ h => List.mem_cons_of_mem _ (List.mem_append_left _ (List.mem_append_left _ (List.mem_append_left _ (List.mem_append_left _ (List.mem_append_left _ (List.mem_append_left _ (List.mem_append_right _ h)))))))) hown hK hw 0 (Nat.lt_of_lt_of_le (Nat.le_of_ble_eq_true rfl : 0 < 191) hn) (mk_0 cA α) rfl 2 (by decide) (hts _ (List.mem_of_getElem? (i := 4) rfl)) (fun _ h9 => h9) rfl dX10_match_15 ?_
  refine lv_aload_n hx hb dX10_match_18 rfl (lv_at hl 0 rfl) ?_
  refine x_get (v := .ref (α 3)) (C := RX10) (T := TX10) (N := 7) hx hb hts (fun _ h => List.mem_cons_of_mem _ (List.mem_append_left _ (List.mem_append_left _ (List.mem_append_left _ (List.mem_append_left _ (List.mem_append_left _ (List.mem_append_left _ (List.mem_append_right _ h)))))))) hown hK hw 0 (Nat.lt_of_lt_of_le (Nat.le_of_ble_eq_true rfl : 0 < 191) hn) (mk_0 cA α) rfl 1 (by decide) (hts _ (List.mem_of_getElem? (i := 2) rfl)) (fun _ h9 => h9) rfl dX10_match_19 ?_
  refine x_callVV (q := 4) (C := RX5) (As := [.ref (α 3)]) (rest := []) ⟨hx, hb, hml, hown, hts⟩ (ct_X5_planRun l D cA α n _ hn S1 N (by subst eS1; exact (congrFun (cRem_1 (by decide) (by decide)) 0).trans hN) hN2 (by subst eS1; exact fun j hj => cRem_ok (ho j hj))) (cwV 1 hts gX10_match_X5_planRun rfl rfl rfl (by decide +kernel) ⟨Nat.le_of_ble_eq_true rfl, Nat.le_of_ble_eq_true rfl⟩) hK hw hAw (ws_recv hK hw (q := 4) (Nat.lt_of_lt_of_le (Nat.le_of_ble_eq_true rfl : 4 < 191) hn) (mk_4 cA α) rfl) rfl hl.1 rfl (Nat.le_of_ble_eq_true rfl) dX10_match_22 ⟨Nat.zero_le _, Nat.zero_le _⟩ (fun S2 eS2 H locs hw => ?_)
  refine lv_aload_n hx hb dX10_match_25 rfl (lv_at hl 0 rfl) ?_
  refine x_get (v := .ref (α 4)) (C := RX10) (T := TX10) (N := 7) hx hb hts (fun _ h => List.mem_cons_of_mem _ (List.mem_append_left _ (List.mem_append_left _ (List.mem_append_left _ (List.mem_append_left _ (List.mem_append_left _ (List.mem_append_left _ (List.mem_append_right _ h)))))))) hown hK hw 0 (Nat.lt_of_lt_of_le (Nat.le_of_ble_eq_true rfl : 0 < 191) hn) (mk_0 cA α) rfl 2 (by decide) (hts _ (List.mem_of_getElem? (i := 4) rfl)) (fun _ h9 => h9) rfl dX10_match_26 ?_
  refine lv_aload_n hx hb dX10_match_29 rfl (lv_at hl 0 rfl) ?_
  refine x_get (v := .ref (α 3)) (C := RX10) (T := TX10) (N := 7) hx hb hts (fun _ h => List.mem_cons_of_mem _ (List.mem_append_left _ (List.mem_append_left _ (List.mem_append_left _ (List.mem_append_left _ (List.mem_append_left _ (List.mem_append_left _ (List.mem_append_right _ h)))))))) hown hK hw 0 (Nat.lt_of_lt_of_le (Nat.le_of_ble_eq_true rfl : 0 < 191) hn) (mk_0 cA α) rfl 1 (by decide) (hts _ (List.mem_of_getElem? (i := 2) rfl)) (fun _ h9 => h9) rfl dX10_match_30 ?_
  refine x_callVI (q := 4) (C := RX5) (As := [.ref (α 3)]) (rest := []) ⟨hx, hb, hml, hown, hts⟩ (ct_X5_pairAsPlanned l D cA α n _ hn S2 N (by subst eS2; subst eS1; rw [sR_1 (by decide)]; exact (congrFun (cRem_1 (by decide) (by decide)) 0).trans hN) hN2 (by subst eS2; subst eS1; exact fun j hj => okC_of (cRem_ok (ho j hj)) (sR_1 (by decide)) (sR_1 (by decide))) (by subst eS2; subst eS1; exact cPlan_pl _ hN2)) (cwV 1 hts gX10_match_X5_pairAsPlanned rfl rfl rfl (by decide +kernel) ⟨Nat.le_of_ble_eq_true rfl, Nat.le_of_ble_eq_true rfl⟩) hK hw hAw (ws_recv hK hw (q := 4) (Nat.lt_of_lt_of_le (Nat.le_of_ble_eq_true rfl : 4 < 191) hn) (mk_4 cA α) rfl) rfl hl.1 rfl (Nat.le_of_ble_eq_true rfl) dX10_match_33 ⟨Nat.zero_le _, Nat.zero_le _⟩ (fun S3 eS3 H locs hw => ?_)
  exact ret_i hx hb hr hlocks hK hw dX10_match_36 (by subst eS3; subst eS2; subst eS1; rfl) (by subst eS3; subst eS2; subst eS1; rfl)

def cRel (T : Mem) (i b : Nat) : Mem := setI (setI (setI (setI T 77 i (-1)) 76 i (nI 0)) 77 b (-1)) 76 b (nI 0)

set_option maxRecDepth 100000 in
set_option maxHeartbeats 1000000 in
theorem ct_X10_release (l : Launch) (D : va_G) (cA : Nat → ClassId) (α : Nat → Nat) (n sz : Nat) (hn : 191 ≤ n) (S : Mem) (N : Nat) (hN : S.1 74 0 = nI N) (hN2 : N ≤ 100) (i : Nat) (hi : i < N) (hs : S.1 76 i = nI 1 ∨ S.1 76 i = nI 2) (b : Nat) (hb9 : S.1 77 i = nI b) (hb8 : b < 100) (M : Nat) (hM : S.1 74 1 = nI M) (hM2 : M ≤ 100) (t k : Nat) (ht : S.1 11 1 = nI t) (ht2 : t < 10) (hk : S.1 11 0 = nI k) (hk2 : k ≤ 10) : CtI l yX10_release wsX10_release ({ frames := 7, cells := 0, slots := 0, locals := 121 }) D cA α n sz [.ref (α 0), .int (nI i)] S (nI b) (cRel (cRem S t k N M) i b) := by
  refine ct_enter cX10_release 4 (some .int) (by decide) rfl (Nat.le_of_ble_eq_true rfl) ?_
  intro p e s m below meth c hx hb hr hml hlocks hown hts hK hsz hw ls hl
  have hown : s.vm.findClass RX10 = some m.cls := hown
  have hAw : ∀ z, Aw α n s.heap.size z → Aw α n sz z := by rw [hsz]; exact fun _ h => h
  have hl : lv_has ls 4 [(0, .ref (α 0)), (1, .int (nI i))] := hl
  refine lv_aload_n hx hb dX10_release_0 rfl (lv_at hl 0 rfl) ?_
  refine lv_iload_n hx hb dX10_release_1 rfl (lv_at hl 1 rfl) ?_
  refine x_callVVr (q := 0) (C := RX10) (As := [.int (nI i)]) (rest := []) ⟨hx, hb, hml, hown, hts⟩ (ct_X10_requireItem l D cA α n _ hn S N hN hN2 i hi) (cwV 1 hts gX10_release_X10_requireItem rfl rfl rfl (by decide +kernel) ⟨Nat.le_of_ble_eq_true rfl, Nat.le_of_ble_eq_true rfl⟩) hK hw hAw (ws_recv hK hw (q := 0) (Nat.lt_of_lt_of_le (Nat.le_of_ble_eq_true rfl : 0 < 191) hn) (mk_0 cA α) rfl) rfl hl.1 rfl (Nat.le_of_ble_eq_true rfl) dX10_release_2 ⟨Nat.zero_le _, Nat.zero_le _⟩ (fun H locs hw => ?_)
  refine lv_aload_n hx hb dX10_release_5 rfl (lv_at hl 0 rfl) ?_
  refine x_get (v := .ref (α 3)) (C := RX10) (T := TX10) (N := 7) hx hb hts (fun _ h => List.mem_cons_of_mem _ (List.mem_append_left _ (List.mem_append_left _ (List.mem_append_left _ (List.mem_append_left _ (List.mem_append_left _ (List.mem_append_right _ h))))))) hown hK hw 0 (Nat.lt_of_lt_of_le (Nat.le_of_ble_eq_true rfl : 0 < 191) hn) (mk_0 cA α) rfl 1 (by decide) (hts _ (List.mem_of_getElem? (i := 3) rfl)) (fun _ h9 => h9) rfl dX10_release_6 ?_
  refine x_get (v := .ref (α 74)) (C := RX0) (T := TX0) (N := 3) hx hb hts (fun _ h => List.mem_cons_of_mem _ (List.mem_append_left _ (List.mem_append_left _ (List.mem_append_left _ (List.mem_append_left _ (List.mem_append_right _ h)))))) hown hK hw 3 (Nat.lt_of_lt_of_le (Nat.le_of_ble_eq_true rfl : 3 < 191) hn) (mk_3 cA α) rfl 2 (by decide) (hts _ (List.mem_of_getElem? (i := 4) rfl)) (fun _ h9 => h9) rfl dX10_release_9 ?_
  refine x_get (v := .ref (α 76)) (C := RX9) (T := TX9) (N := 14) hx hb hts (fun _ h => List.mem_cons_of_mem _ (List.mem_append_left _ (List.mem_append_left _ (List.mem_append_left _ (List.mem_append_right _ h))))) hown hK hw 74 (Nat.lt_of_lt_of_le (Nat.le_of_ble_eq_true rfl : 74 < 191) hn) (mk_74 cA α) rfl 7 (by decide) (hts _ (List.mem_of_getElem? (i := 5) rfl)) (fun _ h9 => h9) rfl dX10_release_12 ?_
  refine lv_iload_n hx hb dX10_release_15 rfl (lv_at hl 1 rfl) ?_
  refine x_iald hx hb hK hw 76 100 (Nat.lt_of_lt_of_le (Nat.le_of_ble_eq_true rfl : 76 < 191) hn) (mk_76 cA α) i rfl (by omega) (by decide) dX10_release_16 ?_
  refine lv_istore_n (lv' := [(2, .int (S.1 76 i)), (0, .ref (α 0)), (1, .int (nI i))]) hx hb dX10_release_17 rfl hl (by decide) rfl (fun ls hl => ?_)
  refine lv_aload_n hx hb dX10_release_18 rfl (lv_at hl 1 rfl) ?_
  refine x_get (v := .ref (α 3)) (C := RX10) (T := TX10) (N := 7) hx hb hts (fun _ h => List.mem_cons_of_mem _ (List.mem_append_left _ (List.mem_append_left _ (List.mem_append_left _ (List.mem_append_left _ (List.mem_append_left _ (List.mem_append_right _ h))))))) hown hK hw 0 (Nat.lt_of_lt_of_le (Nat.le_of_ble_eq_true rfl : 0 < 191) hn) (mk_0 cA α) rfl 1 (by decide) (hts _ (List.mem_of_getElem? (i := 3) rfl)) (fun _ h9 => h9) rfl dX10_release_19 ?_
  refine x_get (v := .ref (α 74)) (C := RX0) (T := TX0) (N := 3) hx hb hts (fun _ h => List.mem_cons_of_mem _ (List.mem_append_left _ (List.mem_append_left _ (List.mem_append_left _ (List.mem_append_left _ (List.mem_append_right _ h)))))) hown hK hw 3 (Nat.lt_of_lt_of_le (Nat.le_of_ble_eq_true rfl : 3 < 191) hn) (mk_3 cA α) rfl 2 (by decide) (hts _ (List.mem_of_getElem? (i := 4) rfl)) (fun _ h9 => h9) rfl dX10_release_22 ?_
  refine x_get (v := .ref (α 77)) (C := RX9) (T := TX9) (N := 14) hx hb hts (fun _ h => List.mem_cons_of_mem _ (List.mem_append_left _ (List.mem_append_left _ (List.mem_append_left _ (List.mem_append_right _ h))))) hown hK hw 74 (Nat.lt_of_lt_of_le (Nat.le_of_ble_eq_true rfl : 74 < 191) hn) (mk_74 cA α) rfl 8 (by decide) (hts _ (List.mem_of_getElem? (i := 6) rfl)) (fun _ h9 => h9) rfl dX10_release_25 ?_
  refine lv_iload_n hx hb dX10_release_28 rfl (lv_at hl 2 rfl) ?_
  refine x_iald hx hb hK hw 77 100 (Nat.lt_of_lt_of_le (Nat.le_of_ble_eq_true rfl : 77 < 191) hn) (mk_77 cA α) i rfl (by omega) (by decide) dX10_release_29 ?_
  refine x_topN (k := b) hb9 ?_
  refine lv_istore_n (lv' := [(3, .int (nI b)), (2, .int (S.1 76 i)), (0, .ref (α 0)), (1, .int (nI i))]) hx hb dX10_release_30 rfl hl (by decide) rfl (fun ls hl => ?_)
  refine lv_iload_n hx hb dX10_release_31 rfl (lv_at hl 0 rfl) ?_
  refine lv_if_lt (tgt := 45) hx hb dX10_release_32 (by decide) (fun c1 => ?_) (fun c1 => ?_)
  · exact absurd c1 (cpo (by omega))
  · skip
    refine lv_iload_n hx hb dX10_release_35 rfl (lv_at hl 1 rfl) ?_
    refine lv_iconst (v := nI 1) hx hb dX10_release_36 (by decide) ?_
    refine lv_icmp_eq (tgt := 56) hx hb dX10_release_37 (by decide) (fun c2 => ?_) (fun c2 => ?_)
    · skip
      refine lv_aload_n hx hb dX10_release_56 rfl (lv_at hl 2 rfl) ?_
      refine x_get (v := .ref (α 11)) (C := RX10) (T := TX10) (N := 7) hx hb hts (fun _ h => List.mem_cons_of_mem _ (List.mem_append_left _ (List.mem_append_left _ (List.mem_append_left _ (List.mem_append_left _ (List.mem_append_left _ (List.mem_append_right _ h))))))) hown hK hw 0 (Nat.lt_of_lt_of_le (Nat.le_of_ble_eq_true rfl : 0 < 191) hn) (mk_0 cA α) rfl 5 (by decide) (hts _ (List.mem_of_getElem? (i := 7) rfl)) (fun _ h9 => h9) rfl dX10_release_57 ?_
      refine lv_aload_n hx hb dX10_release_60 rfl (lv_at hl 2 rfl) ?_
      refine x_get (v := .ref (α 3)) (C := RX10) (T := TX10) (N := 7) hx hb hts (fun _ h => List.mem_cons_of_mem _ (List.mem_append_left _ (List.mem_append_left _ (List.mem_append_left _ (List.mem_append_left _ (List.mem_append_left _ (List.mem_append_right _ h))))))) hown hK hw 0 (Nat.lt_of_lt_of_le (Nat.le_of_ble_eq_true rfl : 0 < 191) hn) (mk_0 cA α) rfl 1 (by decide) (hts _ (List.mem_of_getElem? (i := 3) rfl)) (fun _ h9 => h9) rfl dX10_release_61 ?_
      refine x_get (v := .ref (α 74)) (C := RX0) (T := TX0) (N := 3) hx hb hts (fun _ h => List.mem_cons_of_mem _ (List.mem_append_left _ (List.mem_append_left _ (List.mem_append_left _ (List.mem_append_left _ (List.mem_append_right _ h)))))) hown hK hw 3 (Nat.lt_of_lt_of_le (Nat.le_of_ble_eq_true rfl : 3 < 191) hn) (mk_3 cA α) rfl 2 (by decide) (hts _ (List.mem_of_getElem? (i := 4) rfl)) (fun _ h9 => h9) rfl dX10_release_64 ?_
      refine x_callVV (q := 11) (C := RX4) (As := [.ref (α 74)]) (rest := []) ⟨hx, hb, hml, hown, hts⟩ (ct_X4_remember l D cA α n _ hn S t k N M (by skip; exact ht) ht2 (by skip; exact hk) hk2 (by skip; exact hN) (by omega) (by skip; exact hM) (by omega)) (cwV 1 hts gX10_release_X4_remember rfl rfl rfl (by decide +kernel) ⟨Nat.le_of_ble_eq_true rfl, Nat.le_of_ble_eq_true rfl⟩) hK hw hAw (ws_recv hK hw (q := 11) (Nat.lt_of_lt_of_le (Nat.le_of_ble_eq_true rfl : 11 < 191) hn) (mk_11 cA α) rfl) rfl hl.1 rfl (Nat.le_of_ble_eq_true rfl) dX10_release_67 ⟨Nat.zero_le _, Nat.zero_le _⟩ (fun S1 eS1 H locs hw => ?_)
      refine lv_aload_n hx hb dX10_release_70 rfl (lv_at hl 2 rfl) ?_
      refine x_get (v := .ref (α 3)) (C := RX10) (T := TX10) (N := 7) hx hb hts (fun _ h => List.mem_cons_of_mem _ (List.mem_append_left _ (List.mem_append_left _ (List.mem_append_left _ (List.mem_append_left _ (List.mem_append_left _ (List.mem_append_right _ h))))))) hown hK hw 0 (Nat.lt_of_lt_of_le (Nat.le_of_ble_eq_true rfl : 0 < 191) hn) (mk_0 cA α) rfl 1 (by decide) (hts _ (List.mem_of_getElem? (i := 3) rfl)) (fun _ h9 => h9) rfl dX10_release_71 ?_
      refine x_get (v := .ref (α 74)) (C := RX0) (T := TX0) (N := 3) hx hb hts (fun _ h => List.mem_cons_of_mem _ (List.mem_append_left _ (List.mem_append_left _ (List.mem_append_left _ (List.mem_append_left _ (List.mem_append_right _ h)))))) hown hK hw 3 (Nat.lt_of_lt_of_le (Nat.le_of_ble_eq_true rfl : 3 < 191) hn) (mk_3 cA α) rfl 2 (by decide) (hts _ (List.mem_of_getElem? (i := 4) rfl)) (fun _ h9 => h9) rfl dX10_release_74 ?_
      refine lv_iload_n hx hb dX10_release_77 rfl (lv_at hl 3 rfl) ?_
      refine lv_iconst (v := (-1)) hx hb dX10_release_78 (by decide) ?_
      refine lv_iconst (v := nI 0) hx hb dX10_release_79 (by decide) ?_
      refine x_callVV (q := 74) (C := RX9) (As := [.int (nI i), .int (-1), .int (nI 0)]) (rest := []) ⟨hx, hb, hml, hown, hts⟩ (ct_X9_putPair l D cA α n _ hn S1 i (-1) (nI 0) (by omega)) (cwV 3 hts gX10_release_X9_putPair rfl rfl rfl (by decide +kernel) ⟨Nat.le_of_ble_eq_true rfl, Nat.le_of_ble_eq_true rfl⟩) hK hw hAw (ws_recv hK hw (q := 74) (Nat.lt_of_lt_of_le (Nat.le_of_ble_eq_true rfl : 74 < 191) hn) (mk_74 cA α) rfl) rfl hl.1 rfl (Nat.le_of_ble_eq_true rfl) dX10_release_80 ⟨Nat.zero_le _, Nat.zero_le _⟩ (fun S2 eS2 H locs hw => ?_)
      refine lv_aload_n hx hb dX10_release_83 rfl (lv_at hl 2 rfl) ?_
      refine x_get (v := .ref (α 3)) (C := RX10) (T := TX10) (N := 7) hx hb hts (fun _ h => List.mem_cons_of_mem _ (List.mem_append_left _ (List.mem_append_left _ (List.mem_append_left _ (List.mem_append_left _ (List.mem_append_left _ (List.mem_append_right _ h))))))) hown hK hw 0 (Nat.lt_of_lt_of_le (Nat.le_of_ble_eq_true rfl : 0 < 191) hn) (mk_0 cA α) rfl 1 (by decide) (hts _ (List.mem_of_getElem? (i := 3) rfl)) (fun _ h9 => h9) rfl dX10_release_84 ?_
      refine x_get (v := .ref (α 74)) (C := RX0) (T := TX0) (N := 3) hx hb hts (fun _ h => List.mem_cons_of_mem _ (List.mem_append_left _ (List.mem_append_left _ (List.mem_append_left _ (List.mem_append_left _ (List.mem_append_right _ h)))))) hown hK hw 3 (Nat.lt_of_lt_of_le (Nat.le_of_ble_eq_true rfl : 3 < 191) hn) (mk_3 cA α) rfl 2 (by decide) (hts _ (List.mem_of_getElem? (i := 4) rfl)) (fun _ h9 => h9) rfl dX10_release_87 ?_
      refine lv_iload_n hx hb dX10_release_90 rfl (lv_at hl 0 rfl) ?_
      refine lv_iconst (v := (-1)) hx hb dX10_release_91 (by decide) ?_
      refine lv_iconst (v := nI 0) hx hb dX10_release_92 (by decide) ?_
      refine x_callVV (q := 74) (C := RX9) (As := [.int (nI b), .int (-1), .int (nI 0)]) (rest := []) ⟨hx, hb, hml, hown, hts⟩ (ct_X9_putPair l D cA α n _ hn S2 b (-1) (nI 0) hb8) (cwV 3 hts gX10_release_X9_putPair rfl rfl rfl (by decide +kernel) ⟨Nat.le_of_ble_eq_true rfl, Nat.le_of_ble_eq_true rfl⟩) hK hw hAw (ws_recv hK hw (q := 74) (Nat.lt_of_lt_of_le (Nat.le_of_ble_eq_true rfl : 74 < 191) hn) (mk_74 cA α) rfl) rfl hl.1 rfl (Nat.le_of_ble_eq_true rfl) dX10_release_93 ⟨Nat.zero_le _, Nat.zero_le _⟩ (fun S3 eS3 H locs hw => ?_)
      refine lv_iload_n hx hb dX10_release_96 rfl (lv_at hl 0 rfl) ?_
      exact ret_i hx hb hr hlocks hK hw dX10_release_97 rfl (by subst eS3; subst eS2; subst eS1; rfl)
    · skip
      refine lv_iload_n hx hb dX10_release_40 rfl (lv_at hl 1 rfl) ?_
      refine lv_iconst (v := nI 2) hx hb dX10_release_41 (by decide) ?_
      refine lv_icmp_eq (tgt := 56) hx hb dX10_release_42 (by decide) (fun c3 => ?_) (fun c3 => ?_)
      · skip
        refine lv_aload_n hx hb dX10_release_56 rfl (lv_at hl 2 rfl) ?_
        refine x_get (v := .ref (α 11)) (C := RX10) (T := TX10) (N := 7) hx hb hts (fun _ h => List.mem_cons_of_mem _ (List.mem_append_left _ (List.mem_append_left _ (List.mem_append_left _ (List.mem_append_left _ (List.mem_append_left _ (List.mem_append_right _ h))))))) hown hK hw 0 (Nat.lt_of_lt_of_le (Nat.le_of_ble_eq_true rfl : 0 < 191) hn) (mk_0 cA α) rfl 5 (by decide) (hts _ (List.mem_of_getElem? (i := 7) rfl)) (fun _ h9 => h9) rfl dX10_release_57 ?_
        refine lv_aload_n hx hb dX10_release_60 rfl (lv_at hl 2 rfl) ?_
        refine x_get (v := .ref (α 3)) (C := RX10) (T := TX10) (N := 7) hx hb hts (fun _ h => List.mem_cons_of_mem _ (List.mem_append_left _ (List.mem_append_left _ (List.mem_append_left _ (List.mem_append_left _ (List.mem_append_left _ (List.mem_append_right _ h))))))) hown hK hw 0 (Nat.lt_of_lt_of_le (Nat.le_of_ble_eq_true rfl : 0 < 191) hn) (mk_0 cA α) rfl 1 (by decide) (hts _ (List.mem_of_getElem? (i := 3) rfl)) (fun _ h9 => h9) rfl dX10_release_61 ?_
        refine x_get (v := .ref (α 74)) (C := RX0) (T := TX0) (N := 3) hx hb hts (fun _ h => List.mem_cons_of_mem _ (List.mem_append_left _ (List.mem_append_left _ (List.mem_append_left _ (List.mem_append_left _ (List.mem_append_right _ h)))))) hown hK hw 3 (Nat.lt_of_lt_of_le (Nat.le_of_ble_eq_true rfl : 3 < 191) hn) (mk_3 cA α) rfl 2 (by decide) (hts _ (List.mem_of_getElem? (i := 4) rfl)) (fun _ h9 => h9) rfl dX10_release_64 ?_
        refine x_callVV (q := 11) (C := RX4) (As := [.ref (α 74)]) (rest := []) ⟨hx, hb, hml, hown, hts⟩ (ct_X4_remember l D cA α n _ hn S t k N M (by skip; exact ht) ht2 (by skip; exact hk) hk2 (by skip; exact hN) (by omega) (by skip; exact hM) (by omega)) (cwV 1 hts gX10_release_X4_remember rfl rfl rfl (by decide +kernel) ⟨Nat.le_of_ble_eq_true rfl, Nat.le_of_ble_eq_true rfl⟩) hK hw hAw (ws_recv hK hw (q := 11) (Nat.lt_of_lt_of_le (Nat.le_of_ble_eq_true rfl : 11 < 191) hn) (mk_11 cA α) rfl) rfl hl.1 rfl (Nat.le_of_ble_eq_true rfl) dX10_release_67 ⟨Nat.zero_le _, Nat.zero_le _⟩ (fun S4 eS4 H locs hw => ?_)
        refine lv_aload_n hx hb dX10_release_70 rfl (lv_at hl 2 rfl) ?_
        refine x_get (v := .ref (α 3)) (C := RX10) (T := TX10) (N := 7) hx hb hts (fun _ h => List.mem_cons_of_mem _ (List.mem_append_left _ (List.mem_append_left _ (List.mem_append_left _ (List.mem_append_left _ (List.mem_append_left _ (List.mem_append_right _ h))))))) hown hK hw 0 (Nat.lt_of_lt_of_le (Nat.le_of_ble_eq_true rfl : 0 < 191) hn) (mk_0 cA α) rfl 1 (by decide) (hts _ (List.mem_of_getElem? (i := 3) rfl)) (fun _ h9 => h9) rfl dX10_release_71 ?_
        refine x_get (v := .ref (α 74)) (C := RX0) (T := TX0) (N := 3) hx hb hts (fun _ h => List.mem_cons_of_mem _ (List.mem_append_left _ (List.mem_append_left _ (List.mem_append_left _ (List.mem_append_left _ (List.mem_append_right _ h)))))) hown hK hw 3 (Nat.lt_of_lt_of_le (Nat.le_of_ble_eq_true rfl : 3 < 191) hn) (mk_3 cA α) rfl 2 (by decide) (hts _ (List.mem_of_getElem? (i := 4) rfl)) (fun _ h9 => h9) rfl dX10_release_74 ?_
        refine lv_iload_n hx hb dX10_release_77 rfl (lv_at hl 3 rfl) ?_
        refine lv_iconst (v := (-1)) hx hb dX10_release_78 (by decide) ?_
        refine lv_iconst (v := nI 0) hx hb dX10_release_79 (by decide) ?_
        refine x_callVV (q := 74) (C := RX9) (As := [.int (nI i), .int (-1), .int (nI 0)]) (rest := []) ⟨hx, hb, hml, hown, hts⟩ (ct_X9_putPair l D cA α n _ hn S4 i (-1) (nI 0) (by omega)) (cwV 3 hts gX10_release_X9_putPair rfl rfl rfl (by decide +kernel) ⟨Nat.le_of_ble_eq_true rfl, Nat.le_of_ble_eq_true rfl⟩) hK hw hAw (ws_recv hK hw (q := 74) (Nat.lt_of_lt_of_le (Nat.le_of_ble_eq_true rfl : 74 < 191) hn) (mk_74 cA α) rfl) rfl hl.1 rfl (Nat.le_of_ble_eq_true rfl) dX10_release_80 ⟨Nat.zero_le _, Nat.zero_le _⟩ (fun S5 eS5 H locs hw => ?_)
        refine lv_aload_n hx hb dX10_release_83 rfl (lv_at hl 2 rfl) ?_
        refine x_get (v := .ref (α 3)) (C := RX10) (T := TX10) (N := 7) hx hb hts (fun _ h => List.mem_cons_of_mem _ (List.mem_append_left _ (List.mem_append_left _ (List.mem_append_left _ (List.mem_append_left _ (List.mem_append_left _ (List.mem_append_right _ h))))))) hown hK hw 0 (Nat.lt_of_lt_of_le (Nat.le_of_ble_eq_true rfl : 0 < 191) hn) (mk_0 cA α) rfl 1 (by decide) (hts _ (List.mem_of_getElem? (i := 3) rfl)) (fun _ h9 => h9) rfl dX10_release_84 ?_
        refine x_get (v := .ref (α 74)) (C := RX0) (T := TX0) (N := 3) hx hb hts (fun _ h => List.mem_cons_of_mem _ (List.mem_append_left _ (List.mem_append_left _ (List.mem_append_left _ (List.mem_append_left _ (List.mem_append_right _ h)))))) hown hK hw 3 (Nat.lt_of_lt_of_le (Nat.le_of_ble_eq_true rfl : 3 < 191) hn) (mk_3 cA α) rfl 2 (by decide) (hts _ (List.mem_of_getElem? (i := 4) rfl)) (fun _ h9 => h9) rfl dX10_release_87 ?_
        refine lv_iload_n hx hb dX10_release_90 rfl (lv_at hl 0 rfl) ?_
        refine lv_iconst (v := (-1)) hx hb dX10_release_91 (by decide) ?_
        refine lv_iconst (v := nI 0) hx hb dX10_release_92 (by decide) ?_
        refine x_callVV (q := 74) (C := RX9) (As := [.int (nI b), .int (-1), .int (nI 0)]) (rest := []) ⟨hx, hb, hml, hown, hts⟩ (ct_X9_putPair l D cA α n _ hn S5 b (-1) (nI 0) hb8) (cwV 3 hts gX10_release_X9_putPair rfl rfl rfl (by decide +kernel) ⟨Nat.le_of_ble_eq_true rfl, Nat.le_of_ble_eq_true rfl⟩) hK hw hAw (ws_recv hK hw (q := 74) (Nat.lt_of_lt_of_le (Nat.le_of_ble_eq_true rfl : 74 < 191) hn) (mk_74 cA α) rfl) rfl hl.1 rfl (Nat.le_of_ble_eq_true rfl) dX10_release_93 ⟨Nat.zero_le _, Nat.zero_le _⟩ (fun S6 eS6 H locs hw => ?_)
        refine lv_iload_n hx hb dX10_release_96 rfl (lv_at hl 0 rfl) ?_
        exact ret_i hx hb hr hlocks hK hw dX10_release_97 rfl (by subst eS6; subst eS5; subst eS4; rfl)
      · rcases hs with h | h; exact absurd h c2; exact absurd h c3

set_option maxRecDepth 100000 in
set_option maxHeartbeats 1000000 in
theorem ct_X10_releaseX (l : Launch) (hst : l.stackTraces = false) (sa : Nat → Nat) (D : va_G) (cA : Nat → ClassId) (α : Nat → Nat) (n sz : Nat) (hn : 191 ≤ n) (S : Mem) (N : Nat) (hN : S.1 74 0 = nI N) (hN2 : N ≤ 100) (x : Int32) (hx9 : ¬ ∃ i, i < N ∧ x = nI i) : CtX sa l yX10_release wsX10_release ({ frames := 7, cells := 1, slots := 6, locals := 121 }) D cA α n sz [.ref (α 0), .int x] S eIO := by
  refine ctx_enter cX10_release 4 (some .int) (by decide) rfl (Nat.le_of_ble_eq_true rfl) ?_
  intro p e s m below meth c hx hb hr hml hlocks hown hts hK hsz hw hZ hSx hout ls hl
  have hown : s.vm.findClass RX10 = some m.cls := hown
  have hAw : ∀ z, Aw α n s.heap.size z → Aw α n sz z := by rw [hsz]; exact fun _ h => h
  have hl : lv_has ls 4 [(0, .ref (α 0)), (1, .int x)] := hl
  refine lv_aload_n hx hb dX10_release_0 rfl (lv_at hl 0 rfl) ?_
  refine lv_iload_n hx hb dX10_release_1 rfl (lv_at hl 1 rfl) ?_
  exact x_callXV (q := 0) (C := RX10) (As := [.int x]) (rest := []) ⟨hx, hb, hml, hown, hts⟩ (ct_X10_requireItemX l hst sa D cA α n _ hn S N hN hN2 x hx9) (cwV 1 hts gX10_release_X10_requireItem rfl rfl rfl (by decide +kernel) ⟨Nat.le_of_ble_eq_true rfl, Nat.le_of_ble_eq_true rfl⟩) hK hw hsz hZ hSx (ws_recv hK hw (q := 0) (Nat.lt_of_lt_of_le (Nat.le_of_ble_eq_true rfl : 0 < 191) hn) (mk_0 cA α) rfl) rfl hl.1 rfl (Nat.le_of_ble_eq_true rfl) dX10_release_2 ⟨Nat.le_of_ble_eq_true rfl, Nat.le_of_ble_eq_true rfl⟩ hout hlocks rfl

set_option maxRecDepth 100000 in
set_option maxHeartbeats 1000000 in
theorem ct_X10_releaseY (l : Launch) (hst : l.stackTraces = false) (sa : Nat → Nat) (D : va_G) (cA : Nat → ClassId) (α : Nat → Nat) (n sz : Nat) (hn : 191 ≤ n) (S : Mem) (N : Nat) (hN : S.1 74 0 = nI N) (hN2 : N ≤ 100) (i : Nat) (hi : i < N) (hs : S.1 77 i < 0 ∨ (¬ S.1 76 i = nI 1 ∧ ¬ S.1 76 i = nI 2)) : CtX sa l yX10_release wsX10_release ({ frames := 7, cells := 1, slots := 6, locals := 121 }) D cA α n sz [.ref (α 0), .int (nI i)] S eIS := by
  refine ctx_enter cX10_release 4 (some .int) (by decide) rfl (Nat.le_of_ble_eq_true rfl) ?_
  intro p e s m below meth c hx hb hr hml hlocks hown hts hK hsz hw hZ hSx hout ls hl
  have hown : s.vm.findClass RX10 = some m.cls := hown
  have hAw : ∀ z, Aw α n s.heap.size z → Aw α n sz z := by rw [hsz]; exact fun _ h => h
  have hl : lv_has ls 4 [(0, .ref (α 0)), (1, .int (nI i))] := hl
  refine lv_aload_n hx hb dX10_release_0 rfl (lv_at hl 0 rfl) ?_
  refine lv_iload_n hx hb dX10_release_1 rfl (lv_at hl 1 rfl) ?_
  refine x_callVVr (q := 0) (C := RX10) (As := [.int (nI i)]) (rest := []) ⟨hx, hb, hml, hown, hts⟩ (ct_X10_requireItem l D cA α n _ hn S N hN hN2 i hi) (cwV 1 hts gX10_release_X10_requireItem rfl rfl rfl (by decide +kernel) ⟨Nat.le_of_ble_eq_true rfl, Nat.le_of_ble_eq_true rfl⟩) hK hw hAw (ws_recv hK hw (q := 0) (Nat.lt_of_lt_of_le (Nat.le_of_ble_eq_true rfl : 0 < 191) hn) (mk_0 cA α) rfl) rfl hl.1 rfl (Nat.le_of_ble_eq_true rfl) dX10_release_2 ⟨Nat.zero_le _, Nat.zero_le _⟩ (fun H locs hw => ?_)
  refine lv_aload_n hx hb dX10_release_5 rfl (lv_at hl 0 rfl) ?_
  refine x_get (v := .ref (α 3)) (C := RX10) (T := TX10) (N := 7) hx hb hts (fun _ h => List.mem_cons_of_mem _ (List.mem_append_left _ (List.mem_append_left _ (List.mem_append_left _ (List.mem_append_left _ (List.mem_append_left _ (List.mem_append_right _ h))))))) hown hK hw 0 (Nat.lt_of_lt_of_le (Nat.le_of_ble_eq_true rfl : 0 < 191) hn) (mk_0 cA α) rfl 1 (by decide) (hts _ (List.mem_of_getElem? (i := 3) rfl)) (fun _ h9 => h9) rfl dX10_release_6 ?_
  refine x_get (v := .ref (α 74)) (C := RX0) (T := TX0) (N := 3) hx hb hts (fun _ h => List.mem_cons_of_mem _ (List.mem_append_left _ (List.mem_append_left _ (List.mem_append_left _ (List.mem_append_left _ (List.mem_append_right _ h)))))) hown hK hw 3 (Nat.lt_of_lt_of_le (Nat.le_of_ble_eq_true rfl : 3 < 191) hn) (mk_3 cA α) rfl 2 (by decide) (hts _ (List.mem_of_getElem? (i := 4) rfl)) (fun _ h9 => h9) rfl dX10_release_9 ?_
  refine x_get (v := .ref (α 76)) (C := RX9) (T := TX9) (N := 14) hx hb hts (fun _ h => List.mem_cons_of_mem _ (List.mem_append_left _ (List.mem_append_left _ (List.mem_append_left _ (List.mem_append_right _ h))))) hown hK hw 74 (Nat.lt_of_lt_of_le (Nat.le_of_ble_eq_true rfl : 74 < 191) hn) (mk_74 cA α) rfl 7 (by decide) (hts _ (List.mem_of_getElem? (i := 5) rfl)) (fun _ h9 => h9) rfl dX10_release_12 ?_
  refine lv_iload_n hx hb dX10_release_15 rfl (lv_at hl 1 rfl) ?_
  refine x_iald hx hb hK hw 76 100 (Nat.lt_of_lt_of_le (Nat.le_of_ble_eq_true rfl : 76 < 191) hn) (mk_76 cA α) i rfl (by omega) (by decide) dX10_release_16 ?_
  refine lv_istore_n (lv' := [(2, .int (S.1 76 i)), (0, .ref (α 0)), (1, .int (nI i))]) hx hb dX10_release_17 rfl hl (by decide) rfl (fun ls hl => ?_)
  refine lv_aload_n hx hb dX10_release_18 rfl (lv_at hl 1 rfl) ?_
  refine x_get (v := .ref (α 3)) (C := RX10) (T := TX10) (N := 7) hx hb hts (fun _ h => List.mem_cons_of_mem _ (List.mem_append_left _ (List.mem_append_left _ (List.mem_append_left _ (List.mem_append_left _ (List.mem_append_left _ (List.mem_append_right _ h))))))) hown hK hw 0 (Nat.lt_of_lt_of_le (Nat.le_of_ble_eq_true rfl : 0 < 191) hn) (mk_0 cA α) rfl 1 (by decide) (hts _ (List.mem_of_getElem? (i := 3) rfl)) (fun _ h9 => h9) rfl dX10_release_19 ?_
  refine x_get (v := .ref (α 74)) (C := RX0) (T := TX0) (N := 3) hx hb hts (fun _ h => List.mem_cons_of_mem _ (List.mem_append_left _ (List.mem_append_left _ (List.mem_append_left _ (List.mem_append_left _ (List.mem_append_right _ h)))))) hown hK hw 3 (Nat.lt_of_lt_of_le (Nat.le_of_ble_eq_true rfl : 3 < 191) hn) (mk_3 cA α) rfl 2 (by decide) (hts _ (List.mem_of_getElem? (i := 4) rfl)) (fun _ h9 => h9) rfl dX10_release_22 ?_
  refine x_get (v := .ref (α 77)) (C := RX9) (T := TX9) (N := 14) hx hb hts (fun _ h => List.mem_cons_of_mem _ (List.mem_append_left _ (List.mem_append_left _ (List.mem_append_left _ (List.mem_append_right _ h))))) hown hK hw 74 (Nat.lt_of_lt_of_le (Nat.le_of_ble_eq_true rfl : 74 < 191) hn) (mk_74 cA α) rfl 8 (by decide) (hts _ (List.mem_of_getElem? (i := 6) rfl)) (fun _ h9 => h9) rfl dX10_release_25 ?_
  refine lv_iload_n hx hb dX10_release_28 rfl (lv_at hl 2 rfl) ?_
  refine x_iald hx hb hK hw 77 100 (Nat.lt_of_lt_of_le (Nat.le_of_ble_eq_true rfl : 77 < 191) hn) (mk_77 cA α) i rfl (by omega) (by decide) dX10_release_29 ?_
  refine lv_istore_n (lv' := [(3, .int (S.1 77 i)), (2, .int (S.1 76 i)), (0, .ref (α 0)), (1, .int (nI i))]) hx hb dX10_release_30 rfl hl (by decide) rfl (fun ls hl => ?_)
  refine lv_iload_n hx hb dX10_release_31 rfl (lv_at hl 0 rfl) ?_
  refine lv_if_lt (tgt := 45) hx hb dX10_release_32 (by decide) (fun c1 => ?_) (fun c1 => ?_)
  · skip
    exact x_throwSW (names := eUp) (rest := []) hx hb hst hown fit_IS fit_Up (hts _ (List.mem_of_getElem? (i := 1) rfl)) (hts _ (List.mem_of_getElem? (i := 2) rfl)) (hSx.1 _ (List.mem_of_getElem? (i := 8) rfl)) (at_IS hSx (fun w h => hts w ((fun _ h => List.mem_cons_of_mem _ (List.mem_append_left _ (List.mem_append_right _ h))) w h))) ga_IS hZ hK hw (hl.1.trans hml.symm) dX10_release_45 dX10_release_48 dX10_release_49 dX10_release_52 dX10_release_55 hout (Nat.le_of_ble_eq_true rfl) (Nat.le_of_ble_eq_true rfl) (Nat.le_of_ble_eq_true rfl) (Nat.le_of_ble_eq_true rfl) hlocks rfl
  · skip
    refine lv_iload_n hx hb dX10_release_35 rfl (lv_at hl 1 rfl) ?_
    refine lv_iconst (v := nI 1) hx hb dX10_release_36 (by decide) ?_
    refine lv_icmp_eq (tgt := 56) hx hb dX10_release_37 (by decide) (fun c2 => ?_) (fun c2 => ?_)
    · rcases hs with h | h; exact absurd h c1; exact absurd c2 h.1
    · skip
      refine lv_iload_n hx hb dX10_release_40 rfl (lv_at hl 1 rfl) ?_
      refine lv_iconst (v := nI 2) hx hb dX10_release_41 (by decide) ?_
      refine lv_icmp_eq (tgt := 56) hx hb dX10_release_42 (by decide) (fun c3 => ?_) (fun c3 => ?_)
      · rcases hs with h | h; exact absurd h c1; exact absurd c3 h.2
      · skip
        exact x_throwSW (names := eUp) (rest := []) hx hb hst hown fit_IS fit_Up (hts _ (List.mem_of_getElem? (i := 1) rfl)) (hts _ (List.mem_of_getElem? (i := 2) rfl)) (hSx.1 _ (List.mem_of_getElem? (i := 8) rfl)) (at_IS hSx (fun w h => hts w ((fun _ h => List.mem_cons_of_mem _ (List.mem_append_left _ (List.mem_append_right _ h))) w h))) ga_IS hZ hK hw (hl.1.trans hml.symm) dX10_release_45 dX10_release_48 dX10_release_49 dX10_release_52 dX10_release_55 hout (Nat.le_of_ble_eq_true rfl) (Nat.le_of_ble_eq_true rfl) (Nat.le_of_ble_eq_true rfl) (Nat.le_of_ble_eq_true rfl) hlocks rfl

def cAmt (S : Mem) (i b : Nat) : Int64 := if nI 1 ≤ cRate S b then cVal S i * 100 / (cRate S b).toInt64 else 0
def cAc1 (T : Mem) (i b : Nat) (v : Int64) : Mem := setI (setI (setI (setI (setI T 77 i (nI b)) 76 i (nI 1)) 77 b (nI i)) 76 b (nI 1)) 75 b v.toInt32
def cAcc (T : Mem) (i b : Nat) (v : Int64) : Mem := setJ (cAc1 T i b v) 78 b (cVal (cAc1 T i b v) b)
theorem cAc1_k (T : Mem) (i b : Nat) (v : Int64) {z : Nat} (h1 : z ≠ 77) (h2 : z ≠ 76) (h3 : z ≠ 75) : (cAc1 T i b v).1 z = T.1 z := by
  unfold cAc1; rw [sI_1 h3, sI_1 h2, sI_1 h1, sI_1 h2, sI_1 h1]
theorem cAc1_ok {T : Mem} {i b j : Nat} {v : Int64} (h : okC T j) : okC (cAc1 T i b v) j := okC_of h (cAc1_k _ _ _ _ (by decide) (by decide) (by decide)) (cAc1_k _ _ _ _ (by decide) (by decide) (by decide))

set_option maxRecDepth 100000 in
set_option maxHeartbeats 1000000 in
theorem ct_X10_accept (l : Launch) (D : va_G) (cA : Nat → ClassId) (α : Nat → Nat) (n sz : Nat) (hn : 191 ≤ n) (S : Mem) (N : Nat) (hN : S.1 74 0 = nI N) (hN2 : N ≤ 100) (i : Nat) (hi : i < N) (hs : S.1 76 i = nI 2) (b : Nat) (hb9 : S.1 77 i = nI b) (ho : okC S i) (ho2 : okC S b) (h1 : 1 ≤ cAmt S i b) (h2 : cAmt S i b ≤ 1000000000) (M : Nat) (hM : S.1 74 1 = nI M) (hM2 : M ≤ 100) (t k : Nat) (ht : S.1 11 1 = nI t) (ht2 : t < 10) (hk : S.1 11 0 = nI k) (hk2 : k ≤ 10) : CtL l yX10_accept wsX10_accept ({ frames := 7, cells := 0, slots := 0, locals := 121 }) D cA α n sz [.ref (α 0), .int (nI i)] S (cAmt S i b) (cAcc (cRem S t k N M) i b (cAmt S i b)) := by
  refine ct_enter cX10_accept 5 (some .long) (by decide) rfl (Nat.le_of_ble_eq_true rfl) ?_
  intro p e s m below meth c hx hb hr hml hlocks hown hts hK hsz hw ls hl
  have hown : s.vm.findClass RX10 = some m.cls := hown
  have hAw : ∀ z, Aw α n s.heap.size z → Aw α n sz z := by rw [hsz]; exact fun _ h => h
  have hl : lv_has ls 5 [(0, .ref (α 0)), (1, .int (nI i))] := hl
  have hb7 := ho2.1
  refine lv_aload_n hx hb dX10_accept_0 rfl (lv_at hl 0 rfl) ?_
  refine lv_iload_n hx hb dX10_accept_1 rfl (lv_at hl 1 rfl) ?_
  refine x_callVVr (q := 0) (C := RX10) (As := [.int (nI i)]) (rest := []) ⟨hx, hb, hml, hown, hts⟩ (ct_X10_requireItem l D cA α n _ hn S N hN hN2 i hi) (cwV 1 hts gX10_accept_X10_requireItem rfl rfl rfl (by decide +kernel) ⟨Nat.le_of_ble_eq_true rfl, Nat.le_of_ble_eq_true rfl⟩) hK hw hAw (ws_recv hK hw (q := 0) (Nat.lt_of_lt_of_le (Nat.le_of_ble_eq_true rfl : 0 < 191) hn) (mk_0 cA α) rfl) rfl hl.1 rfl (Nat.le_of_ble_eq_true rfl) dX10_accept_2 ⟨Nat.zero_le _, Nat.zero_le _⟩ (fun H locs hw => ?_)
  refine lv_aload_n hx hb dX10_accept_5 rfl (lv_at hl 0 rfl) ?_
  refine x_get (v := .ref (α 3)) (C := RX10) (T := TX10) (N := 7) hx hb hts (fun _ h => List.mem_cons_of_mem _ (List.mem_append_left _ (List.mem_append_left _ (List.mem_append_left _ (List.mem_append_left _ (List.mem_append_left _ (List.mem_append_left _ (List.mem_append_left _ (List.mem_append_right _ h))))))))) hown hK hw 0 (Nat.lt_of_lt_of_le (Nat.le_of_ble_eq_true rfl : 0 < 191) hn) (mk_0 cA α) rfl 1 (by decide) (hts _ (List.mem_of_getElem? (i := 3) rfl)) (fun _ h9 => h9) rfl dX10_accept_6 ?_
  refine x_get (v := .ref (α 74)) (C := RX0) (T := TX0) (N := 3) hx hb hts (fun _ h => List.mem_cons_of_mem _ (List.mem_append_left _ (List.mem_append_left _ (List.mem_append_left _ (List.mem_append_left _ (List.mem_append_left _ (List.mem_append_left _ (List.mem_append_right _ h)))))))) hown hK hw 3 (Nat.lt_of_lt_of_le (Nat.le_of_ble_eq_true rfl : 3 < 191) hn) (mk_3 cA α) rfl 2 (by decide) (hts _ (List.mem_of_getElem? (i := 4) rfl)) (fun _ h9 => h9) rfl dX10_accept_9 ?_
  refine x_get (v := .ref (α 77)) (C := RX9) (T := TX9) (N := 14) hx hb hts (fun _ h => List.mem_cons_of_mem _ (List.mem_append_left _ (List.mem_append_left _ (List.mem_append_left _ (List.mem_append_left _ (List.mem_append_left _ (List.mem_append_right _ h))))))) hown hK hw 74 (Nat.lt_of_lt_of_le (Nat.le_of_ble_eq_true rfl : 74 < 191) hn) (mk_74 cA α) rfl 8 (by decide) (hts _ (List.mem_of_getElem? (i := 5) rfl)) (fun _ h9 => h9) rfl dX10_accept_12 ?_
  refine lv_iload_n hx hb dX10_accept_15 rfl (lv_at hl 1 rfl) ?_
  refine x_iald hx hb hK hw 77 100 (Nat.lt_of_lt_of_le (Nat.le_of_ble_eq_true rfl : 77 < 191) hn) (mk_77 cA α) i rfl (by omega) (by decide) dX10_accept_16 ?_
  refine x_topN (k := b) hb9 ?_
  refine lv_istore_n (lv' := [(2, .int (nI b)), (0, .ref (α 0)), (1, .int (nI i))]) hx hb dX10_accept_17 rfl hl (by decide) rfl (fun ls hl => ?_)
  refine lv_iload_n hx hb dX10_accept_18 rfl (lv_at hl 0 rfl) ?_
  refine lv_if_lt (tgt := 38) hx hb dX10_accept_19 (by decide) (fun c1 => ?_) (fun c1 => ?_)
  · exact absurd c1 (cpo (by omega))
  · skip
    refine lv_aload_n hx hb dX10_accept_22 rfl (lv_at hl 1 rfl) ?_
    refine x_get (v := .ref (α 3)) (C := RX10) (T := TX10) (N := 7) hx hb hts (fun _ h => List.mem_cons_of_mem _ (List.mem_append_left _ (List.mem_append_left _ (List.mem_append_left _ (List.mem_append_left _ (List.mem_append_left _ (List.mem_append_left _ (List.mem_append_left _ (List.mem_append_right _ h))))))))) hown hK hw 0 (Nat.lt_of_lt_of_le (Nat.le_of_ble_eq_true rfl : 0 < 191) hn) (mk_0 cA α) rfl 1 (by decide) (hts _ (List.mem_of_getElem? (i := 3) rfl)) (fun _ h9 => h9) rfl dX10_accept_23 ?_
    refine x_get (v := .ref (α 74)) (C := RX0) (T := TX0) (N := 3) hx hb hts (fun _ h => List.mem_cons_of_mem _ (List.mem_append_left _ (List.mem_append_left _ (List.mem_append_left _ (List.mem_append_left _ (List.mem_append_left _ (List.mem_append_left _ (List.mem_append_right _ h)))))))) hown hK hw 3 (Nat.lt_of_lt_of_le (Nat.le_of_ble_eq_true rfl : 3 < 191) hn) (mk_3 cA α) rfl 2 (by decide) (hts _ (List.mem_of_getElem? (i := 4) rfl)) (fun _ h9 => h9) rfl dX10_accept_26 ?_
    refine x_get (v := .ref (α 76)) (C := RX9) (T := TX9) (N := 14) hx hb hts (fun _ h => List.mem_cons_of_mem _ (List.mem_append_left _ (List.mem_append_left _ (List.mem_append_left _ (List.mem_append_left _ (List.mem_append_left _ (List.mem_append_right _ h))))))) hown hK hw 74 (Nat.lt_of_lt_of_le (Nat.le_of_ble_eq_true rfl : 74 < 191) hn) (mk_74 cA α) rfl 7 (by decide) (hts _ (List.mem_of_getElem? (i := 6) rfl)) (fun _ h9 => h9) rfl dX10_accept_29 ?_
    refine lv_iload_n hx hb dX10_accept_32 rfl (lv_at hl 2 rfl) ?_
    refine x_iald hx hb hK hw 76 100 (Nat.lt_of_lt_of_le (Nat.le_of_ble_eq_true rfl : 76 < 191) hn) (mk_76 cA α) i rfl (by omega) (by decide) dX10_accept_33 ?_
    refine lv_iconst (v := nI 2) hx hb dX10_accept_34 (by decide) ?_
    refine lv_icmp_eq (tgt := 49) hx hb dX10_accept_35 (by decide) (fun c2 => ?_) (fun c2 => ?_)
    · skip
      refine lv_aload_n hx hb dX10_accept_49 rfl (lv_at hl 1 rfl) ?_
      refine x_get (v := .ref (α 3)) (C := RX10) (T := TX10) (N := 7) hx hb hts (fun _ h => List.mem_cons_of_mem _ (List.mem_append_left _ (List.mem_append_left _ (List.mem_append_left _ (List.mem_append_left _ (List.mem_append_left _ (List.mem_append_left _ (List.mem_append_left _ (List.mem_append_right _ h))))))))) hown hK hw 0 (Nat.lt_of_lt_of_le (Nat.le_of_ble_eq_true rfl : 0 < 191) hn) (mk_0 cA α) rfl 1 (by decide) (hts _ (List.mem_of_getElem? (i := 3) rfl)) (fun _ h9 => h9) rfl dX10_accept_50 ?_
      refine lv_aload_n hx hb dX10_accept_53 rfl (lv_at hl 1 rfl) ?_
      refine x_get (v := .ref (α 3)) (C := RX10) (T := TX10) (N := 7) hx hb hts (fun _ h => List.mem_cons_of_mem _ (List.mem_append_left _ (List.mem_append_left _ (List.mem_append_left _ (List.mem_append_left _ (List.mem_append_left _ (List.mem_append_left _ (List.mem_append_left _ (List.mem_append_right _ h))))))))) hown hK hw 0 (Nat.lt_of_lt_of_le (Nat.le_of_ble_eq_true rfl : 0 < 191) hn) (mk_0 cA α) rfl 1 (by decide) (hts _ (List.mem_of_getElem? (i := 3) rfl)) (fun _ h9 => h9) rfl dX10_accept_54 ?_
      refine lv_iload_n hx hb dX10_accept_57 rfl (lv_at hl 2 rfl) ?_
      refine x_callVLr (q := 3) (C := RX0) (As := [.int (nI i)]) (rest := [.ref (α 3)]) ⟨hx, hb, hml, hown, hts⟩ (ct_X0_valueOf l D cA α n _ hn S i ho) (cwV 1 hts gX10_accept_X0_valueOf rfl rfl rfl (by decide +kernel) ⟨Nat.le_of_ble_eq_true rfl, Nat.le_of_ble_eq_true rfl⟩) hK hw hAw (ws_recv hK hw (q := 3) (Nat.lt_of_lt_of_le (Nat.le_of_ble_eq_true rfl : 3 < 191) hn) (mk_3 cA α) rfl) rfl hl.1 rfl (Nat.le_of_ble_eq_true rfl) dX10_accept_58 ⟨Nat.zero_le _, Nat.zero_le _⟩ (fun H locs hw => ?_)
      refine lv_iload_n hx hb dX10_accept_61 rfl (lv_at hl 0 rfl) ?_
      refine x_callVLr (q := 3) (C := RX0) (As := [.long (cVal S i), .int (nI b)]) (rest := []) ⟨hx, hb, hml, hown, hts⟩ (ct_X0_amountWorth l D cA α n _ hn S (cVal S i) b ho2) (cwV 2 hts gX10_accept_X0_amountWorth rfl rfl rfl (by decide +kernel) ⟨Nat.le_of_ble_eq_true rfl, Nat.le_of_ble_eq_true rfl⟩) hK hw hAw (ws_recv hK hw (q := 3) (Nat.lt_of_lt_of_le (Nat.le_of_ble_eq_true rfl : 3 < 191) hn) (mk_3 cA α) rfl) rfl hl.1 rfl (Nat.le_of_ble_eq_true rfl) dX10_accept_62 ⟨Nat.zero_le _, Nat.zero_le _⟩ (fun H locs hw => ?_)
      refine x_topEL (y := cAmt S i b) rfl ?_
      refine lv_lstore_n (lv' := [(3, .long (cAmt S i b)), (2, .int (nI b)), (0, .ref (α 0)), (1, .int (nI i))]) hx hb dX10_accept_65 rfl hl (by decide) rfl (fun ls hl => ?_)
      refine lv_lload_n hx hb dX10_accept_66 rfl (lv_at hl 0 rfl) ?_
      refine lv_lconst (v := 1) hx hb dX10_accept_67 (by decide) ?_
      refine x_lcmp_lt (tgt := 80) hx hb dX10_accept_68 dX10_accept_69 (by decide) (fun c3 => ?_) (fun c3 => ?_)
      · exact absurd c3 (Int64.not_lt.mpr h1)
      · skip
        refine lv_lload_n hx hb dX10_accept_72 rfl (lv_at hl 0 rfl) ?_
        refine lv_ldc2 (v := 1000000000) hx hb hown (hts _ (List.mem_of_getElem? (i := 7) rfl)) dX10_accept_73 ?_
        refine x_lcmp_le (tgt := 91) hx hb dX10_accept_76 dX10_accept_77 (by decide) (fun c4 => ?_) (fun c4 => ?_)
        · skip
          refine lv_aload_n hx hb dX10_accept_91 rfl (lv_at hl 2 rfl) ?_
          refine x_get (v := .ref (α 11)) (C := RX10) (T := TX10) (N := 7) hx hb hts (fun _ h => List.mem_cons_of_mem _ (List.mem_append_left _ (List.mem_append_left _ (List.mem_append_left _ (List.mem_append_left _ (List.mem_append_left _ (List.mem_append_left _ (List.mem_append_left _ (List.mem_append_right _ h))))))))) hown hK hw 0 (Nat.lt_of_lt_of_le (Nat.le_of_ble_eq_true rfl : 0 < 191) hn) (mk_0 cA α) rfl 5 (by decide) (hts _ (List.mem_of_getElem? (i := 8) rfl)) (fun _ h9 => h9) rfl dX10_accept_92 ?_
          refine lv_aload_n hx hb dX10_accept_95 rfl (lv_at hl 2 rfl) ?_
          refine x_get (v := .ref (α 3)) (C := RX10) (T := TX10) (N := 7) hx hb hts (fun _ h => List.mem_cons_of_mem _ (List.mem_append_left _ (List.mem_append_left _ (List.mem_append_left _ (List.mem_append_left _ (List.mem_append_left _ (List.mem_append_left _ (List.mem_append_left _ (List.mem_append_right _ h))))))))) hown hK hw 0 (Nat.lt_of_lt_of_le (Nat.le_of_ble_eq_true rfl : 0 < 191) hn) (mk_0 cA α) rfl 1 (by decide) (hts _ (List.mem_of_getElem? (i := 3) rfl)) (fun _ h9 => h9) rfl dX10_accept_96 ?_
          refine x_get (v := .ref (α 74)) (C := RX0) (T := TX0) (N := 3) hx hb hts (fun _ h => List.mem_cons_of_mem _ (List.mem_append_left _ (List.mem_append_left _ (List.mem_append_left _ (List.mem_append_left _ (List.mem_append_left _ (List.mem_append_left _ (List.mem_append_right _ h)))))))) hown hK hw 3 (Nat.lt_of_lt_of_le (Nat.le_of_ble_eq_true rfl : 3 < 191) hn) (mk_3 cA α) rfl 2 (by decide) (hts _ (List.mem_of_getElem? (i := 4) rfl)) (fun _ h9 => h9) rfl dX10_accept_99 ?_
          refine x_callVV (q := 11) (C := RX4) (As := [.ref (α 74)]) (rest := []) ⟨hx, hb, hml, hown, hts⟩ (ct_X4_remember l D cA α n _ hn S t k N M (by skip; exact ht) ht2 (by skip; exact hk) hk2 (by skip; exact hN) (by omega) (by skip; exact hM) (by omega)) (cwV 1 hts gX10_accept_X4_remember rfl rfl rfl (by decide +kernel) ⟨Nat.le_of_ble_eq_true rfl, Nat.le_of_ble_eq_true rfl⟩) hK hw hAw (ws_recv hK hw (q := 11) (Nat.lt_of_lt_of_le (Nat.le_of_ble_eq_true rfl : 11 < 191) hn) (mk_11 cA α) rfl) rfl hl.1 rfl (Nat.le_of_ble_eq_true rfl) dX10_accept_102 ⟨Nat.zero_le _, Nat.zero_le _⟩ (fun S1 eS1 H locs hw => ?_)
          refine lv_aload_n hx hb dX10_accept_105 rfl (lv_at hl 2 rfl) ?_
          refine x_get (v := .ref (α 3)) (C := RX10) (T := TX10) (N := 7) hx hb hts (fun _ h => List.mem_cons_of_mem _ (List.mem_append_left _ (List.mem_append_left _ (List.mem_append_left _ (List.mem_append_left _ (List.mem_append_left _ (List.mem_append_left _ (List.mem_append_left _ (List.mem_append_right _ h))))))))) hown hK hw 0 (Nat.lt_of_lt_of_le (Nat.le_of_ble_eq_true rfl : 0 < 191) hn) (mk_0 cA α) rfl 1 (by decide) (hts _ (List.mem_of_getElem? (i := 3) rfl)) (fun _ h9 => h9) rfl dX10_accept_106 ?_
          refine x_get (v := .ref (α 74)) (C := RX0) (T := TX0) (N := 3) hx hb hts (fun _ h => List.mem_cons_of_mem _ (List.mem_append_left _ (List.mem_append_left _ (List.mem_append_left _ (List.mem_append_left _ (List.mem_append_left _ (List.mem_append_left _ (List.mem_append_right _ h)))))))) hown hK hw 3 (Nat.lt_of_lt_of_le (Nat.le_of_ble_eq_true rfl : 3 < 191) hn) (mk_3 cA α) rfl 2 (by decide) (hts _ (List.mem_of_getElem? (i := 4) rfl)) (fun _ h9 => h9) rfl dX10_accept_109 ?_
          refine lv_iload_n hx hb dX10_accept_112 rfl (lv_at hl 3 rfl) ?_
          refine lv_iload_n hx hb dX10_accept_113 rfl (lv_at hl 1 rfl) ?_
          refine lv_iconst (v := nI 1) hx hb dX10_accept_114 (by decide) ?_
          refine x_callVV (q := 74) (C := RX9) (As := [.int (nI i), .int (nI b), .int (nI 1)]) (rest := []) ⟨hx, hb, hml, hown, hts⟩ (ct_X9_putPair l D cA α n _ hn S1 i (nI b) (nI 1) (by omega)) (cwV 3 hts gX10_accept_X9_putPair rfl rfl rfl (by decide +kernel) ⟨Nat.le_of_ble_eq_true rfl, Nat.le_of_ble_eq_true rfl⟩) hK hw hAw (ws_recv hK hw (q := 74) (Nat.lt_of_lt_of_le (Nat.le_of_ble_eq_true rfl : 74 < 191) hn) (mk_74 cA α) rfl) rfl hl.1 rfl (Nat.le_of_ble_eq_true rfl) dX10_accept_115 ⟨Nat.zero_le _, Nat.zero_le _⟩ (fun S2 eS2 H locs hw => ?_)
          refine lv_aload_n hx hb dX10_accept_118 rfl (lv_at hl 2 rfl) ?_
          refine x_get (v := .ref (α 3)) (C := RX10) (T := TX10) (N := 7) hx hb hts (fun _ h => List.mem_cons_of_mem _ (List.mem_append_left _ (List.mem_append_left _ (List.mem_append_left _ (List.mem_append_left _ (List.mem_append_left _ (List.mem_append_left _ (List.mem_append_left _ (List.mem_append_right _ h))))))))) hown hK hw 0 (Nat.lt_of_lt_of_le (Nat.le_of_ble_eq_true rfl : 0 < 191) hn) (mk_0 cA α) rfl 1 (by decide) (hts _ (List.mem_of_getElem? (i := 3) rfl)) (fun _ h9 => h9) rfl dX10_accept_119 ?_
          refine x_get (v := .ref (α 74)) (C := RX0) (T := TX0) (N := 3) hx hb hts (fun _ h => List.mem_cons_of_mem _ (List.mem_append_left _ (List.mem_append_left _ (List.mem_append_left _ (List.mem_append_left _ (List.mem_append_left _ (List.mem_append_left _ (List.mem_append_right _ h)))))))) hown hK hw 3 (Nat.lt_of_lt_of_le (Nat.le_of_ble_eq_true rfl : 3 < 191) hn) (mk_3 cA α) rfl 2 (by decide) (hts _ (List.mem_of_getElem? (i := 4) rfl)) (fun _ h9 => h9) rfl dX10_accept_122 ?_
          refine lv_iload_n hx hb dX10_accept_125 rfl (lv_at hl 1 rfl) ?_
          refine lv_iload_n hx hb dX10_accept_126 rfl (lv_at hl 3 rfl) ?_
          refine lv_iconst (v := nI 1) hx hb dX10_accept_127 (by decide) ?_
          refine x_callVV (q := 74) (C := RX9) (As := [.int (nI b), .int (nI i), .int (nI 1)]) (rest := []) ⟨hx, hb, hml, hown, hts⟩ (ct_X9_putPair l D cA α n _ hn S2 b (nI i) (nI 1) (by omega)) (cwV 3 hts gX10_accept_X9_putPair rfl rfl rfl (by decide +kernel) ⟨Nat.le_of_ble_eq_true rfl, Nat.le_of_ble_eq_true rfl⟩) hK hw hAw (ws_recv hK hw (q := 74) (Nat.lt_of_lt_of_le (Nat.le_of_ble_eq_true rfl : 74 < 191) hn) (mk_74 cA α) rfl) rfl hl.1 rfl (Nat.le_of_ble_eq_true rfl) dX10_accept_128 ⟨Nat.zero_le _, Nat.zero_le _⟩ (fun S3 eS3 H locs hw => ?_)
          refine lv_aload_n hx hb dX10_accept_131 rfl (lv_at hl 2 rfl) ?_
          refine x_get (v := .ref (α 3)) (C := RX10) (T := TX10) (N := 7) hx hb hts (fun _ h => List.mem_cons_of_mem _ (List.mem_append_left _ (List.mem_append_left _ (List.mem_append_left _ (List.mem_append_left _ (List.mem_append_left _ (List.mem_append_left _ (List.mem_append_left _ (List.mem_append_right _ h))))))))) hown hK hw 0 (Nat.lt_of_lt_of_le (Nat.le_of_ble_eq_true rfl : 0 < 191) hn) (mk_0 cA α) rfl 1 (by decide) (hts _ (List.mem_of_getElem? (i := 3) rfl)) (fun _ h9 => h9) rfl dX10_accept_132 ?_
          refine x_get (v := .ref (α 74)) (C := RX0) (T := TX0) (N := 3) hx hb hts (fun _ h => List.mem_cons_of_mem _ (List.mem_append_left _ (List.mem_append_left _ (List.mem_append_left _ (List.mem_append_left _ (List.mem_append_left _ (List.mem_append_left _ (List.mem_append_right _ h)))))))) hown hK hw 3 (Nat.lt_of_lt_of_le (Nat.le_of_ble_eq_true rfl : 3 < 191) hn) (mk_3 cA α) rfl 2 (by decide) (hts _ (List.mem_of_getElem? (i := 4) rfl)) (fun _ h9 => h9) rfl dX10_accept_135 ?_
          refine x_get (v := .ref (α 75)) (C := RX9) (T := TX9) (N := 14) hx hb hts (fun _ h => List.mem_cons_of_mem _ (List.mem_append_left _ (List.mem_append_left _ (List.mem_append_left _ (List.mem_append_left _ (List.mem_append_left _ (List.mem_append_right _ h))))))) hown hK hw 74 (Nat.lt_of_lt_of_le (Nat.le_of_ble_eq_true rfl : 74 < 191) hn) (mk_74 cA α) rfl 6 (by decide) (hts _ (List.mem_of_getElem? (i := 9) rfl)) (fun _ h9 => h9) rfl dX10_accept_138 ?_
          refine lv_iload_n hx hb dX10_accept_141 rfl (lv_at hl 1 rfl) ?_
          refine lv_lload_n hx hb dX10_accept_142 rfl (lv_at hl 0 rfl) ?_
          refine lv_l2i hx hb dX10_accept_143 rfl ?_
          refine x_iast (x := (cAmt S i b).toInt32) hx hb hK hw 75 100 (Nat.lt_of_lt_of_le (Nat.le_of_ble_eq_true rfl : 75 < 191) hn) (mk_75 cA α) b rfl (by omega) (by decide) dX10_accept_144 (fun S4 eS4 H locs hw => ?_)
          refine lv_aload_n hx hb dX10_accept_145 rfl (lv_at hl 2 rfl) ?_
          refine x_get (v := .ref (α 3)) (C := RX10) (T := TX10) (N := 7) hx hb hts (fun _ h => List.mem_cons_of_mem _ (List.mem_append_left _ (List.mem_append_left _ (List.mem_append_left _ (List.mem_append_left _ (List.mem_append_left _ (List.mem_append_left _ (List.mem_append_left _ (List.mem_append_right _ h))))))))) hown hK hw 0 (Nat.lt_of_lt_of_le (Nat.le_of_ble_eq_true rfl : 0 < 191) hn) (mk_0 cA α) rfl 1 (by decide) (hts _ (List.mem_of_getElem? (i := 3) rfl)) (fun _ h9 => h9) rfl dX10_accept_146 ?_
          refine x_get (v := .ref (α 74)) (C := RX0) (T := TX0) (N := 3) hx hb hts (fun _ h => List.mem_cons_of_mem _ (List.mem_append_left _ (List.mem_append_left _ (List.mem_append_left _ (List.mem_append_left _ (List.mem_append_left _ (List.mem_append_left _ (List.mem_append_right _ h)))))))) hown hK hw 3 (Nat.lt_of_lt_of_le (Nat.le_of_ble_eq_true rfl : 3 < 191) hn) (mk_3 cA α) rfl 2 (by decide) (hts _ (List.mem_of_getElem? (i := 4) rfl)) (fun _ h9 => h9) rfl dX10_accept_149 ?_
          refine x_get (v := .ref (α 78)) (C := RX9) (T := TX9) (N := 14) hx hb hts (fun _ h => List.mem_cons_of_mem _ (List.mem_append_left _ (List.mem_append_left _ (List.mem_append_left _ (List.mem_append_left _ (List.mem_append_left _ (List.mem_append_right _ h))))))) hown hK hw 74 (Nat.lt_of_lt_of_le (Nat.le_of_ble_eq_true rfl : 74 < 191) hn) (mk_74 cA α) rfl 9 (by decide) (hts _ (List.mem_of_getElem? (i := 10) rfl)) (fun _ h9 => h9) rfl dX10_accept_152 ?_
          refine lv_iload_n hx hb dX10_accept_155 rfl (lv_at hl 1 rfl) ?_
          refine lv_aload_n hx hb dX10_accept_156 rfl (lv_at hl 2 rfl) ?_
          refine x_get (v := .ref (α 3)) (C := RX10) (T := TX10) (N := 7) hx hb hts (fun _ h => List.mem_cons_of_mem _ (List.mem_append_left _ (List.mem_append_left _ (List.mem_append_left _ (List.mem_append_left _ (List.mem_append_left _ (List.mem_append_left _ (List.mem_append_left _ (List.mem_append_right _ h))))))))) hown hK hw 0 (Nat.lt_of_lt_of_le (Nat.le_of_ble_eq_true rfl : 0 < 191) hn) (mk_0 cA α) rfl 1 (by decide) (hts _ (List.mem_of_getElem? (i := 3) rfl)) (fun _ h9 => h9) rfl dX10_accept_157 ?_
          refine lv_iload_n hx hb dX10_accept_160 rfl (lv_at hl 1 rfl) ?_
          refine x_callVLr (q := 3) (C := RX0) (As := [.int (nI b)]) (rest := [.int (nI b), .ref (α 78)]) ⟨hx, hb, hml, hown, hts⟩ (ct_X0_valueOf l D cA α n _ hn S4 b (by subst eS4; subst eS3; subst eS2; subst eS1; exact cAc1_ok (cRem_ok ho2))) (cwV 1 hts gX10_accept_X0_valueOf rfl rfl rfl (by decide +kernel) ⟨Nat.le_of_ble_eq_true rfl, Nat.le_of_ble_eq_true rfl⟩) hK hw hAw (ws_recv hK hw (q := 3) (Nat.lt_of_lt_of_le (Nat.le_of_ble_eq_true rfl : 3 < 191) hn) (mk_3 cA α) rfl) rfl hl.1 rfl (Nat.le_of_ble_eq_true rfl) dX10_accept_161 ⟨Nat.zero_le _, Nat.zero_le _⟩ (fun H locs hw => ?_)
          refine x_last (x := cVal S4 b) hx hb hK hw 78 100 (Nat.lt_of_lt_of_le (Nat.le_of_ble_eq_true rfl : 78 < 191) hn) (mk_78 cA α) b rfl (by omega) (by decide) dX10_accept_164 (fun S5 eS5 H locs hw => ?_)
          refine lv_lload_n hx hb dX10_accept_165 rfl (lv_at hl 0 rfl) ?_
          exact ret_l hx hb hr hlocks hK hw dX10_accept_166 rfl (by subst eS5; subst eS4; subst eS3; subst eS2; subst eS1; rfl)
        · exact absurd h2 c4
    · exact absurd hs c2

set_option maxRecDepth 100000 in
set_option maxHeartbeats 1000000 in
theorem ct_X10_acceptX (l : Launch) (hst : l.stackTraces = false) (sa : Nat → Nat) (D : va_G) (cA : Nat → ClassId) (α : Nat → Nat) (n sz : Nat) (hn : 191 ≤ n) (S : Mem) (N : Nat) (hN : S.1 74 0 = nI N) (hN2 : N ≤ 100) (x : Int32) (hx9 : ¬ ∃ i, i < N ∧ x = nI i) : CtX sa l yX10_accept wsX10_accept ({ frames := 7, cells := 1, slots := 6, locals := 121 }) D cA α n sz [.ref (α 0), .int x] S eIO := by
  refine ctx_enter cX10_accept 5 (some .long) (by decide) rfl (Nat.le_of_ble_eq_true rfl) ?_
  intro p e s m below meth c hx hb hr hml hlocks hown hts hK hsz hw hZ hSx hout ls hl
  have hown : s.vm.findClass RX10 = some m.cls := hown
  have hAw : ∀ z, Aw α n s.heap.size z → Aw α n sz z := by rw [hsz]; exact fun _ h => h
  have hl : lv_has ls 5 [(0, .ref (α 0)), (1, .int x)] := hl
  refine lv_aload_n hx hb dX10_accept_0 rfl (lv_at hl 0 rfl) ?_
  refine lv_iload_n hx hb dX10_accept_1 rfl (lv_at hl 1 rfl) ?_
  exact x_callXV (q := 0) (C := RX10) (As := [.int x]) (rest := []) ⟨hx, hb, hml, hown, hts⟩ (ct_X10_requireItemX l hst sa D cA α n _ hn S N hN hN2 x hx9) (cwV 1 hts gX10_accept_X10_requireItem rfl rfl rfl (by decide +kernel) ⟨Nat.le_of_ble_eq_true rfl, Nat.le_of_ble_eq_true rfl⟩) hK hw hsz hZ hSx (ws_recv hK hw (q := 0) (Nat.lt_of_lt_of_le (Nat.le_of_ble_eq_true rfl : 0 < 191) hn) (mk_0 cA α) rfl) rfl hl.1 rfl (Nat.le_of_ble_eq_true rfl) dX10_accept_2 ⟨Nat.le_of_ble_eq_true rfl, Nat.le_of_ble_eq_true rfl⟩ hout hlocks rfl

set_option maxRecDepth 100000 in
set_option maxHeartbeats 1000000 in
theorem ct_X10_acceptY (l : Launch) (hst : l.stackTraces = false) (sa : Nat → Nat) (D : va_G) (cA : Nat → ClassId) (α : Nat → Nat) (n sz : Nat) (hn : 191 ≤ n) (S : Mem) (N : Nat) (hN : S.1 74 0 = nI N) (hN2 : N ≤ 100) (i : Nat) (hi : i < N) (hs : S.1 77 i < 0 ∨ ¬ S.1 76 i = nI 2) : CtX sa l yX10_accept wsX10_accept ({ frames := 7, cells := 1, slots := 6, locals := 121 }) D cA α n sz [.ref (α 0), .int (nI i)] S eIS := by
  refine ctx_enter cX10_accept 5 (some .long) (by decide) rfl (Nat.le_of_ble_eq_true rfl) ?_
  intro p e s m below meth c hx hb hr hml hlocks hown hts hK hsz hw hZ hSx hout ls hl
  have hown : s.vm.findClass RX10 = some m.cls := hown
  have hAw : ∀ z, Aw α n s.heap.size z → Aw α n sz z := by rw [hsz]; exact fun _ h => h
  have hl : lv_has ls 5 [(0, .ref (α 0)), (1, .int (nI i))] := hl
  refine lv_aload_n hx hb dX10_accept_0 rfl (lv_at hl 0 rfl) ?_
  refine lv_iload_n hx hb dX10_accept_1 rfl (lv_at hl 1 rfl) ?_
  refine x_callVVr (q := 0) (C := RX10) (As := [.int (nI i)]) (rest := []) ⟨hx, hb, hml, hown, hts⟩ (ct_X10_requireItem l D cA α n _ hn S N hN hN2 i hi) (cwV 1 hts gX10_accept_X10_requireItem rfl rfl rfl (by decide +kernel) ⟨Nat.le_of_ble_eq_true rfl, Nat.le_of_ble_eq_true rfl⟩) hK hw hAw (ws_recv hK hw (q := 0) (Nat.lt_of_lt_of_le (Nat.le_of_ble_eq_true rfl : 0 < 191) hn) (mk_0 cA α) rfl) rfl hl.1 rfl (Nat.le_of_ble_eq_true rfl) dX10_accept_2 ⟨Nat.zero_le _, Nat.zero_le _⟩ (fun H locs hw => ?_)
  refine lv_aload_n hx hb dX10_accept_5 rfl (lv_at hl 0 rfl) ?_
  refine x_get (v := .ref (α 3)) (C := RX10) (T := TX10) (N := 7) hx hb hts (fun _ h => List.mem_cons_of_mem _ (List.mem_append_left _ (List.mem_append_left _ (List.mem_append_left _ (List.mem_append_left _ (List.mem_append_left _ (List.mem_append_left _ (List.mem_append_left _ (List.mem_append_right _ h))))))))) hown hK hw 0 (Nat.lt_of_lt_of_le (Nat.le_of_ble_eq_true rfl : 0 < 191) hn) (mk_0 cA α) rfl 1 (by decide) (hts _ (List.mem_of_getElem? (i := 3) rfl)) (fun _ h9 => h9) rfl dX10_accept_6 ?_
  refine x_get (v := .ref (α 74)) (C := RX0) (T := TX0) (N := 3) hx hb hts (fun _ h => List.mem_cons_of_mem _ (List.mem_append_left _ (List.mem_append_left _ (List.mem_append_left _ (List.mem_append_left _ (List.mem_append_left _ (List.mem_append_left _ (List.mem_append_right _ h)))))))) hown hK hw 3 (Nat.lt_of_lt_of_le (Nat.le_of_ble_eq_true rfl : 3 < 191) hn) (mk_3 cA α) rfl 2 (by decide) (hts _ (List.mem_of_getElem? (i := 4) rfl)) (fun _ h9 => h9) rfl dX10_accept_9 ?_
  refine x_get (v := .ref (α 77)) (C := RX9) (T := TX9) (N := 14) hx hb hts (fun _ h => List.mem_cons_of_mem _ (List.mem_append_left _ (List.mem_append_left _ (List.mem_append_left _ (List.mem_append_left _ (List.mem_append_left _ (List.mem_append_right _ h))))))) hown hK hw 74 (Nat.lt_of_lt_of_le (Nat.le_of_ble_eq_true rfl : 74 < 191) hn) (mk_74 cA α) rfl 8 (by decide) (hts _ (List.mem_of_getElem? (i := 5) rfl)) (fun _ h9 => h9) rfl dX10_accept_12 ?_
  refine lv_iload_n hx hb dX10_accept_15 rfl (lv_at hl 1 rfl) ?_
  refine x_iald hx hb hK hw 77 100 (Nat.lt_of_lt_of_le (Nat.le_of_ble_eq_true rfl : 77 < 191) hn) (mk_77 cA α) i rfl (by omega) (by decide) dX10_accept_16 ?_
  refine lv_istore_n (lv' := [(2, .int (S.1 77 i)), (0, .ref (α 0)), (1, .int (nI i))]) hx hb dX10_accept_17 rfl hl (by decide) rfl (fun ls hl => ?_)
  refine lv_iload_n hx hb dX10_accept_18 rfl (lv_at hl 0 rfl) ?_
  refine lv_if_lt (tgt := 38) hx hb dX10_accept_19 (by decide) (fun c1 => ?_) (fun c1 => ?_)
  · skip
    exact x_throwSW (names := eUp) (rest := []) hx hb hst hown fit_IS fit_Up (hts _ (List.mem_of_getElem? (i := 1) rfl)) (hts _ (List.mem_of_getElem? (i := 2) rfl)) (hSx.1 _ (List.mem_of_getElem? (i := 9) rfl)) (at_IS hSx (fun w h => hts w ((fun _ h => List.mem_cons_of_mem _ (List.mem_append_left _ (List.mem_append_right _ h))) w h))) ga_IS hZ hK hw (hl.1.trans hml.symm) dX10_accept_38 dX10_accept_41 dX10_accept_42 dX10_accept_45 dX10_accept_48 hout (Nat.le_of_ble_eq_true rfl) (Nat.le_of_ble_eq_true rfl) (Nat.le_of_ble_eq_true rfl) (Nat.le_of_ble_eq_true rfl) hlocks rfl
  · skip
    refine lv_aload_n hx hb dX10_accept_22 rfl (lv_at hl 1 rfl) ?_
    refine x_get (v := .ref (α 3)) (C := RX10) (T := TX10) (N := 7) hx hb hts (fun _ h => List.mem_cons_of_mem _ (List.mem_append_left _ (List.mem_append_left _ (List.mem_append_left _ (List.mem_append_left _ (List.mem_append_left _ (List.mem_append_left _ (List.mem_append_left _ (List.mem_append_right _ h))))))))) hown hK hw 0 (Nat.lt_of_lt_of_le (Nat.le_of_ble_eq_true rfl : 0 < 191) hn) (mk_0 cA α) rfl 1 (by decide) (hts _ (List.mem_of_getElem? (i := 3) rfl)) (fun _ h9 => h9) rfl dX10_accept_23 ?_
    refine x_get (v := .ref (α 74)) (C := RX0) (T := TX0) (N := 3) hx hb hts (fun _ h => List.mem_cons_of_mem _ (List.mem_append_left _ (List.mem_append_left _ (List.mem_append_left _ (List.mem_append_left _ (List.mem_append_left _ (List.mem_append_left _ (List.mem_append_right _ h)))))))) hown hK hw 3 (Nat.lt_of_lt_of_le (Nat.le_of_ble_eq_true rfl : 3 < 191) hn) (mk_3 cA α) rfl 2 (by decide) (hts _ (List.mem_of_getElem? (i := 4) rfl)) (fun _ h9 => h9) rfl dX10_accept_26 ?_
    refine x_get (v := .ref (α 76)) (C := RX9) (T := TX9) (N := 14) hx hb hts (fun _ h => List.mem_cons_of_mem _ (List.mem_append_left _ (List.mem_append_left _ (List.mem_append_left _ (List.mem_append_left _ (List.mem_append_left _ (List.mem_append_right _ h))))))) hown hK hw 74 (Nat.lt_of_lt_of_le (Nat.le_of_ble_eq_true rfl : 74 < 191) hn) (mk_74 cA α) rfl 7 (by decide) (hts _ (List.mem_of_getElem? (i := 6) rfl)) (fun _ h9 => h9) rfl dX10_accept_29 ?_
    refine lv_iload_n hx hb dX10_accept_32 rfl (lv_at hl 2 rfl) ?_
    refine x_iald hx hb hK hw 76 100 (Nat.lt_of_lt_of_le (Nat.le_of_ble_eq_true rfl : 76 < 191) hn) (mk_76 cA α) i rfl (by omega) (by decide) dX10_accept_33 ?_
    refine lv_iconst (v := nI 2) hx hb dX10_accept_34 (by decide) ?_
    refine lv_icmp_eq (tgt := 49) hx hb dX10_accept_35 (by decide) (fun c2 => ?_) (fun c2 => ?_)
    · rcases hs with h | h; exact absurd h c1; exact absurd c2 h
    · skip
      exact x_throwSW (names := eUp) (rest := []) hx hb hst hown fit_IS fit_Up (hts _ (List.mem_of_getElem? (i := 1) rfl)) (hts _ (List.mem_of_getElem? (i := 2) rfl)) (hSx.1 _ (List.mem_of_getElem? (i := 9) rfl)) (at_IS hSx (fun w h => hts w ((fun _ h => List.mem_cons_of_mem _ (List.mem_append_left _ (List.mem_append_right _ h))) w h))) ga_IS hZ hK hw (hl.1.trans hml.symm) dX10_accept_38 dX10_accept_41 dX10_accept_42 dX10_accept_45 dX10_accept_48 hout (Nat.le_of_ble_eq_true rfl) (Nat.le_of_ble_eq_true rfl) (Nat.le_of_ble_eq_true rfl) (Nat.le_of_ble_eq_true rfl) hlocks rfl

set_option maxRecDepth 100000 in
set_option maxHeartbeats 1000000 in
theorem ct_X10_acceptZ (l : Launch) (hst : l.stackTraces = false) (sa : Nat → Nat) (D : va_G) (cA : Nat → ClassId) (α : Nat → Nat) (n sz : Nat) (hn : 191 ≤ n) (S : Mem) (N : Nat) (hN : S.1 74 0 = nI N) (hN2 : N ≤ 100) (i : Nat) (hi : i < N) (hs : S.1 76 i = nI 2) (b : Nat) (hb9 : S.1 77 i = nI b) (ho : okC S i) (ho2 : okC S b) (h1 : ¬ (1 ≤ cAmt S i b ∧ cAmt S i b ≤ 1000000000)) : CtX sa l yX10_accept wsX10_accept ({ frames := 7, cells := 1, slots := 6, locals := 121 }) D cA α n sz [.ref (α 0), .int (nI i)] S eIS := by
  refine ctx_enter cX10_accept 5 (some .long) (by decide) rfl (Nat.le_of_ble_eq_true rfl) ?_
  intro p e s m below meth c hx hb hr hml hlocks hown hts hK hsz hw hZ hSx hout ls hl
  have hown : s.vm.findClass RX10 = some m.cls := hown
  have hAw : ∀ z, Aw α n s.heap.size z → Aw α n sz z := by rw [hsz]; exact fun _ h => h
  have hl : lv_has ls 5 [(0, .ref (α 0)), (1, .int (nI i))] := hl
  have hb7 := ho2.1
  refine lv_aload_n hx hb dX10_accept_0 rfl (lv_at hl 0 rfl) ?_
  refine lv_iload_n hx hb dX10_accept_1 rfl (lv_at hl 1 rfl) ?_
  refine x_callVVr (q := 0) (C := RX10) (As := [.int (nI i)]) (rest := []) ⟨hx, hb, hml, hown, hts⟩ (ct_X10_requireItem l D cA α n _ hn S N hN hN2 i hi) (cwV 1 hts gX10_accept_X10_requireItem rfl rfl rfl (by decide +kernel) ⟨Nat.le_of_ble_eq_true rfl, Nat.le_of_ble_eq_true rfl⟩) hK hw hAw (ws_recv hK hw (q := 0) (Nat.lt_of_lt_of_le (Nat.le_of_ble_eq_true rfl : 0 < 191) hn) (mk_0 cA α) rfl) rfl hl.1 rfl (Nat.le_of_ble_eq_true rfl) dX10_accept_2 ⟨Nat.zero_le _, Nat.zero_le _⟩ (fun H locs hw => ?_)
  refine lv_aload_n hx hb dX10_accept_5 rfl (lv_at hl 0 rfl) ?_
  refine x_get (v := .ref (α 3)) (C := RX10) (T := TX10) (N := 7) hx hb hts (fun _ h => List.mem_cons_of_mem _ (List.mem_append_left _ (List.mem_append_left _ (List.mem_append_left _ (List.mem_append_left _ (List.mem_append_left _ (List.mem_append_left _ (List.mem_append_left _ (List.mem_append_right _ h))))))))) hown hK hw 0 (Nat.lt_of_lt_of_le (Nat.le_of_ble_eq_true rfl : 0 < 191) hn) (mk_0 cA α) rfl 1 (by decide) (hts _ (List.mem_of_getElem? (i := 3) rfl)) (fun _ h9 => h9) rfl dX10_accept_6 ?_
  refine x_get (v := .ref (α 74)) (C := RX0) (T := TX0) (N := 3) hx hb hts (fun _ h => List.mem_cons_of_mem _ (List.mem_append_left _ (List.mem_append_left _ (List.mem_append_left _ (List.mem_append_left _ (List.mem_append_left _ (List.mem_append_left _ (List.mem_append_right _ h)))))))) hown hK hw 3 (Nat.lt_of_lt_of_le (Nat.le_of_ble_eq_true rfl : 3 < 191) hn) (mk_3 cA α) rfl 2 (by decide) (hts _ (List.mem_of_getElem? (i := 4) rfl)) (fun _ h9 => h9) rfl dX10_accept_9 ?_
  refine x_get (v := .ref (α 77)) (C := RX9) (T := TX9) (N := 14) hx hb hts (fun _ h => List.mem_cons_of_mem _ (List.mem_append_left _ (List.mem_append_left _ (List.mem_append_left _ (List.mem_append_left _ (List.mem_append_left _ (List.mem_append_right _ h))))))) hown hK hw 74 (Nat.lt_of_lt_of_le (Nat.le_of_ble_eq_true rfl : 74 < 191) hn) (mk_74 cA α) rfl 8 (by decide) (hts _ (List.mem_of_getElem? (i := 5) rfl)) (fun _ h9 => h9) rfl dX10_accept_12 ?_
  refine lv_iload_n hx hb dX10_accept_15 rfl (lv_at hl 1 rfl) ?_
  refine x_iald hx hb hK hw 77 100 (Nat.lt_of_lt_of_le (Nat.le_of_ble_eq_true rfl : 77 < 191) hn) (mk_77 cA α) i rfl (by omega) (by decide) dX10_accept_16 ?_
  refine x_topN (k := b) hb9 ?_
  refine lv_istore_n (lv' := [(2, .int (nI b)), (0, .ref (α 0)), (1, .int (nI i))]) hx hb dX10_accept_17 rfl hl (by decide) rfl (fun ls hl => ?_)
  refine lv_iload_n hx hb dX10_accept_18 rfl (lv_at hl 0 rfl) ?_
  refine lv_if_lt (tgt := 38) hx hb dX10_accept_19 (by decide) (fun c1 => ?_) (fun c1 => ?_)
  · exact absurd c1 (cpo (by omega))
  · skip
    refine lv_aload_n hx hb dX10_accept_22 rfl (lv_at hl 1 rfl) ?_
    refine x_get (v := .ref (α 3)) (C := RX10) (T := TX10) (N := 7) hx hb hts (fun _ h => List.mem_cons_of_mem _ (List.mem_append_left _ (List.mem_append_left _ (List.mem_append_left _ (List.mem_append_left _ (List.mem_append_left _ (List.mem_append_left _ (List.mem_append_left _ (List.mem_append_right _ h))))))))) hown hK hw 0 (Nat.lt_of_lt_of_le (Nat.le_of_ble_eq_true rfl : 0 < 191) hn) (mk_0 cA α) rfl 1 (by decide) (hts _ (List.mem_of_getElem? (i := 3) rfl)) (fun _ h9 => h9) rfl dX10_accept_23 ?_
    refine x_get (v := .ref (α 74)) (C := RX0) (T := TX0) (N := 3) hx hb hts (fun _ h => List.mem_cons_of_mem _ (List.mem_append_left _ (List.mem_append_left _ (List.mem_append_left _ (List.mem_append_left _ (List.mem_append_left _ (List.mem_append_left _ (List.mem_append_right _ h)))))))) hown hK hw 3 (Nat.lt_of_lt_of_le (Nat.le_of_ble_eq_true rfl : 3 < 191) hn) (mk_3 cA α) rfl 2 (by decide) (hts _ (List.mem_of_getElem? (i := 4) rfl)) (fun _ h9 => h9) rfl dX10_accept_26 ?_
    refine x_get (v := .ref (α 76)) (C := RX9) (T := TX9) (N := 14) hx hb hts (fun _ h => List.mem_cons_of_mem _ (List.mem_append_left _ (List.mem_append_left _ (List.mem_append_left _ (List.mem_append_left _ (List.mem_append_left _ (List.mem_append_right _ h))))))) hown hK hw 74 (Nat.lt_of_lt_of_le (Nat.le_of_ble_eq_true rfl : 74 < 191) hn) (mk_74 cA α) rfl 7 (by decide) (hts _ (List.mem_of_getElem? (i := 6) rfl)) (fun _ h9 => h9) rfl dX10_accept_29 ?_
    refine lv_iload_n hx hb dX10_accept_32 rfl (lv_at hl 2 rfl) ?_
    refine x_iald hx hb hK hw 76 100 (Nat.lt_of_lt_of_le (Nat.le_of_ble_eq_true rfl : 76 < 191) hn) (mk_76 cA α) i rfl (by omega) (by decide) dX10_accept_33 ?_
    refine lv_iconst (v := nI 2) hx hb dX10_accept_34 (by decide) ?_
    refine lv_icmp_eq (tgt := 49) hx hb dX10_accept_35 (by decide) (fun c2 => ?_) (fun c2 => ?_)
    · skip
      refine lv_aload_n hx hb dX10_accept_49 rfl (lv_at hl 1 rfl) ?_
      refine x_get (v := .ref (α 3)) (C := RX10) (T := TX10) (N := 7) hx hb hts (fun _ h => List.mem_cons_of_mem _ (List.mem_append_left _ (List.mem_append_left _ (List.mem_append_left _ (List.mem_append_left _ (List.mem_append_left _ (List.mem_append_left _ (List.mem_append_left _ (List.mem_append_right _ h))))))))) hown hK hw 0 (Nat.lt_of_lt_of_le (Nat.le_of_ble_eq_true rfl : 0 < 191) hn) (mk_0 cA α) rfl 1 (by decide) (hts _ (List.mem_of_getElem? (i := 3) rfl)) (fun _ h9 => h9) rfl dX10_accept_50 ?_
      refine lv_aload_n hx hb dX10_accept_53 rfl (lv_at hl 1 rfl) ?_
      refine x_get (v := .ref (α 3)) (C := RX10) (T := TX10) (N := 7) hx hb hts (fun _ h => List.mem_cons_of_mem _ (List.mem_append_left _ (List.mem_append_left _ (List.mem_append_left _ (List.mem_append_left _ (List.mem_append_left _ (List.mem_append_left _ (List.mem_append_left _ (List.mem_append_right _ h))))))))) hown hK hw 0 (Nat.lt_of_lt_of_le (Nat.le_of_ble_eq_true rfl : 0 < 191) hn) (mk_0 cA α) rfl 1 (by decide) (hts _ (List.mem_of_getElem? (i := 3) rfl)) (fun _ h9 => h9) rfl dX10_accept_54 ?_
      refine lv_iload_n hx hb dX10_accept_57 rfl (lv_at hl 2 rfl) ?_
      refine x_callVLr (q := 3) (C := RX0) (As := [.int (nI i)]) (rest := [.ref (α 3)]) ⟨hx, hb, hml, hown, hts⟩ (ct_X0_valueOf l D cA α n _ hn S i ho) (cwV 1 hts gX10_accept_X0_valueOf rfl rfl rfl (by decide +kernel) ⟨Nat.le_of_ble_eq_true rfl, Nat.le_of_ble_eq_true rfl⟩) hK hw hAw (ws_recv hK hw (q := 3) (Nat.lt_of_lt_of_le (Nat.le_of_ble_eq_true rfl : 3 < 191) hn) (mk_3 cA α) rfl) rfl hl.1 rfl (Nat.le_of_ble_eq_true rfl) dX10_accept_58 ⟨Nat.zero_le _, Nat.zero_le _⟩ (fun H locs hw => ?_)
      refine lv_iload_n hx hb dX10_accept_61 rfl (lv_at hl 0 rfl) ?_
      refine x_callVLr (q := 3) (C := RX0) (As := [.long (cVal S i), .int (nI b)]) (rest := []) ⟨hx, hb, hml, hown, hts⟩ (ct_X0_amountWorth l D cA α n _ hn S (cVal S i) b ho2) (cwV 2 hts gX10_accept_X0_amountWorth rfl rfl rfl (by decide +kernel) ⟨Nat.le_of_ble_eq_true rfl, Nat.le_of_ble_eq_true rfl⟩) hK hw hAw (ws_recv hK hw (q := 3) (Nat.lt_of_lt_of_le (Nat.le_of_ble_eq_true rfl : 3 < 191) hn) (mk_3 cA α) rfl) rfl hl.1 rfl (Nat.le_of_ble_eq_true rfl) dX10_accept_62 ⟨Nat.zero_le _, Nat.zero_le _⟩ (fun H locs hw => ?_)
      refine x_topEL (y := cAmt S i b) rfl ?_
      refine lv_lstore_n (lv' := [(3, .long (cAmt S i b)), (2, .int (nI b)), (0, .ref (α 0)), (1, .int (nI i))]) hx hb dX10_accept_65 rfl hl (by decide) rfl (fun ls hl => ?_)
      refine lv_lload_n hx hb dX10_accept_66 rfl (lv_at hl 0 rfl) ?_
      refine lv_lconst (v := 1) hx hb dX10_accept_67 (by decide) ?_
      refine x_lcmp_lt (tgt := 80) hx hb dX10_accept_68 dX10_accept_69 (by decide) (fun c3 => ?_) (fun c3 => ?_)
      · skip
        exact x_throwSW (names := eUp) (rest := []) hx hb hst hown fit_IS fit_Up (hts _ (List.mem_of_getElem? (i := 1) rfl)) (hts _ (List.mem_of_getElem? (i := 2) rfl)) (hSx.1 _ (List.mem_of_getElem? (i := 10) rfl)) (at_IS hSx (fun w h => hts w ((fun _ h => List.mem_cons_of_mem _ (List.mem_append_left _ (List.mem_append_right _ h))) w h))) ga_IS hZ hK hw (hl.1.trans hml.symm) dX10_accept_80 dX10_accept_83 dX10_accept_84 dX10_accept_87 dX10_accept_90 hout (Nat.le_of_ble_eq_true rfl) (Nat.le_of_ble_eq_true rfl) (Nat.le_of_ble_eq_true rfl) (Nat.le_of_ble_eq_true rfl) hlocks rfl
      · skip
        refine lv_lload_n hx hb dX10_accept_72 rfl (lv_at hl 0 rfl) ?_
        refine lv_ldc2 (v := 1000000000) hx hb hown (hts _ (List.mem_of_getElem? (i := 7) rfl)) dX10_accept_73 ?_
        refine x_lcmp_le (tgt := 91) hx hb dX10_accept_76 dX10_accept_77 (by decide) (fun c4 => ?_) (fun c4 => ?_)
        · exact absurd ⟨Int64.not_lt.mp c3, c4⟩ h1
        · skip
          exact x_throwSW (names := eUp) (rest := []) hx hb hst hown fit_IS fit_Up (hts _ (List.mem_of_getElem? (i := 1) rfl)) (hts _ (List.mem_of_getElem? (i := 2) rfl)) (hSx.1 _ (List.mem_of_getElem? (i := 10) rfl)) (at_IS hSx (fun w h => hts w ((fun _ h => List.mem_cons_of_mem _ (List.mem_append_left _ (List.mem_append_right _ h))) w h))) ga_IS hZ hK hw (hl.1.trans hml.symm) dX10_accept_80 dX10_accept_83 dX10_accept_84 dX10_accept_87 dX10_accept_90 hout (Nat.le_of_ble_eq_true rfl) (Nat.le_of_ble_eq_true rfl) (Nat.le_of_ble_eq_true rfl) (Nat.le_of_ble_eq_true rfl) hlocks rfl
    · exact absurd hs c2

def cBk1 (T : Mem) (N : Nat) (a b sd rf : Int32) : Mem := setI (setI (setI (setI T 45 N a) 46 N b) 47 N sd) 48 N rf
def cBk (T : Mem) (N : Nat) (a b sd rf am : Int32) : Mem := cOpen (cBk1 T N a b sd rf) N am
theorem cBk1_k (T : Mem) (N : Nat) (a b sd rf : Int32) {z : Nat} (h : z < 45 ∨ 48 < z) : (cBk1 T N a b sd rf).1 z = T.1 z := by
  unfold cBk1; rw [sI_1 (by omega), sI_1 (by omega), sI_1 (by omega), sI_1 (by omega)]
theorem cBk1_ok {T : Mem} {N a : Nat} {b sd rf : Int32} (hN : N < 100) (ha : a < 6) (hc : okI (T.1 25 a) 4) : okC (cBk1 T N (nI a) b sd rf) N := by
  have e : (cBk1 T N (nI a) b sd rf).1 45 N = nI a := by
    unfold cBk1; rw [sI_1 (by decide), sI_1 (by decide), sI_1 (by decide), sI_e, pk_us]
  refine ⟨hN, ?_, ?_⟩
  · rw [e]; exact okI_nI ha (by omega)
  · rw [e, cBk1_k _ _ _ _ _ _ (Or.inl (by decide)), gN_nI (by omega)]; exact hc

set_option maxRecDepth 100000 in
set_option maxHeartbeats 1000000 in
theorem ct_X10_book (l : Launch) (D : va_G) (cA : Nat → ClassId) (α : Nat → Nat) (n sz : Nat) (hn : 191 ≤ n) (S : Mem) (Cn : Nat) (hC : S.1 23 1 = nI Cn) (hC2 : Cn ≤ 6) (a b : Nat) (ha : a < Cn) (hb0 : b < Cn) (hab : a ≠ b) (sd rf am : Int32) (h1 : ∃ i, 0 ≤ i ∧ i ≤ 1 ∧ sd = nI i) (h2 : ∃ i, 0 ≤ i ∧ i ≤ 999 ∧ rf = nI i) (h3 : ∃ i, 1 ≤ i ∧ i ≤ 1000000 ∧ am = nI i) (N : Nat) (hN : S.1 74 0 = nI N) (hN2 : N < 100) (hcu : okI (S.1 25 a) 4) (M : Nat) (hM : S.1 74 1 = nI M) (hM2 : M ≤ 100) (t k : Nat) (ht : S.1 11 1 = nI t) (ht2 : t < 10) (hk : S.1 11 0 = nI k) (hk2 : k ≤ 10) : CtI l yX10_book wsX10_book ({ frames := 7, cells := 0, slots := 0, locals := 122 }) D cA α n sz [.ref (α 0), .int (nI a), .int (nI b), .int sd, .int rf, .int am] S (nI N) (cBk (cRem S t k N M) N (nI a) (nI b) sd rf am) := by
  refine ct_enter cX10_book 7 (some .int) (by decide) rfl (Nat.le_of_ble_eq_true rfl) ?_
  intro p e s m below meth c hx hb hr hml hlocks hown hts hK hsz hw ls hl
  have hown : s.vm.findClass RX10 = some m.cls := hown
  have hAw : ∀ z, Aw α n s.heap.size z → Aw α n sz z := by rw [hsz]; exact fun _ h => h
  have hl : lv_has ls 7 [(0, .ref (α 0)), (1, .int (nI a)), (2, .int (nI b)), (3, .int sd), (4, .int rf), (5, .int am)] := hl
  refine lv_aload_n hx hb dX10_book_0 rfl (lv_at hl 0 rfl) ?_
  refine lv_iload_n hx hb dX10_book_1 rfl (lv_at hl 1 rfl) ?_
  refine x_callVVr (q := 0) (C := RX10) (As := [.int (nI a)]) (rest := []) ⟨hx, hb, hml, hown, hts⟩ (ct_X10_requireCompany l D cA α n _ hn S Cn hC hC2 a ha) (cwV 1 hts gX10_book_X10_requireCompany rfl rfl rfl (by decide +kernel) ⟨Nat.le_of_ble_eq_true rfl, Nat.le_of_ble_eq_true rfl⟩) hK hw hAw (ws_recv hK hw (q := 0) (Nat.lt_of_lt_of_le (Nat.le_of_ble_eq_true rfl : 0 < 191) hn) (mk_0 cA α) rfl) rfl hl.1 rfl (Nat.le_of_ble_eq_true rfl) dX10_book_2 ⟨Nat.zero_le _, Nat.zero_le _⟩ (fun H locs hw => ?_)
  refine lv_aload_n hx hb dX10_book_5 rfl (lv_at hl 0 rfl) ?_
  refine lv_iload_n hx hb dX10_book_6 rfl (lv_at hl 2 rfl) ?_
  refine x_callVVr (q := 0) (C := RX10) (As := [.int (nI b)]) (rest := []) ⟨hx, hb, hml, hown, hts⟩ (ct_X10_requireCompany l D cA α n _ hn S Cn hC hC2 b hb0) (cwV 1 hts gX10_book_X10_requireCompany rfl rfl rfl (by decide +kernel) ⟨Nat.le_of_ble_eq_true rfl, Nat.le_of_ble_eq_true rfl⟩) hK hw hAw (ws_recv hK hw (q := 0) (Nat.lt_of_lt_of_le (Nat.le_of_ble_eq_true rfl : 0 < 191) hn) (mk_0 cA α) rfl) rfl hl.1 rfl (Nat.le_of_ble_eq_true rfl) dX10_book_7 ⟨Nat.zero_le _, Nat.zero_le _⟩ (fun H locs hw => ?_)
  refine lv_iload_n hx hb dX10_book_10 rfl (lv_at hl 2 rfl) ?_
  refine lv_iload_n hx hb dX10_book_11 rfl (lv_at hl 1 rfl) ?_
  refine xn_icmp_ne (tgt := 26) hx hb (by omega) (by omega) dX10_book_12 (by decide) (fun c1 => ?_) (fun c1 => ?_)
  · skip
    refine lv_iload_n hx hb dX10_book_26 rfl (lv_at hl 3 rfl) ?_
    refine lv_iconst (v := nI 0) hx hb dX10_book_27 (by decide) ?_
    refine lv_iconst (v := nI 1) hx hb dX10_book_28 (by decide) ?_
    refine x_callSVr (q := 0) (C := RX0) (As := [.int sd, .int (nI 0), .int (nI 1)]) (rest := []) ⟨hx, hb, hml, hown, hts⟩ (ct_X10_requireRange l D cA α n _ hn S sd 0 1 (by decide) (by decide) h1) (va_cwS 3 hts gX10_book_X10_requireRange rfl rfl rfl (by decide +kernel) ⟨Nat.le_of_ble_eq_true rfl, Nat.le_of_ble_eq_true rfl⟩) hK hw hAw rfl hl.1 rfl (Nat.le_of_ble_eq_true rfl) dX10_book_29 ⟨Nat.zero_le _, Nat.zero_le _⟩ (fun H locs hw => ?_)
    refine lv_iload hx hb dX10_book_32 (lv_at hl 4 rfl) ?_
    refine lv_iconst (v := nI 0) hx hb dX10_book_34 (by decide) ?_
    refine lv_sipush (v := nI 999) hx hb dX10_book_35 (by decide) ?_
    refine x_callSVr (q := 0) (C := RX0) (As := [.int rf, .int (nI 0), .int (nI 999)]) (rest := []) ⟨hx, hb, hml, hown, hts⟩ (ct_X10_requireRange l D cA α n _ hn S rf 0 999 (by decide) (by decide) h2) (va_cwS 3 hts gX10_book_X10_requireRange rfl rfl rfl (by decide +kernel) ⟨Nat.le_of_ble_eq_true rfl, Nat.le_of_ble_eq_true rfl⟩) hK hw hAw rfl hl.1 rfl (Nat.le_of_ble_eq_true rfl) dX10_book_38 ⟨Nat.zero_le _, Nat.zero_le _⟩ (fun H locs hw => ?_)
    refine lv_iload hx hb dX10_book_41 (lv_at hl 5 rfl) ?_
    refine lv_iconst (v := nI 1) hx hb dX10_book_43 (by decide) ?_
    refine lv_ldcw (v := 1000000) hx hb hown (hts _ (List.mem_of_getElem? (i := 5) rfl)) dX10_book_44 ?_
    refine x_topN (k := 1000000) (by decide) ?_
    refine x_callSVr (q := 0) (C := RX0) (As := [.int am, .int (nI 1), .int (nI 1000000)]) (rest := []) ⟨hx, hb, hml, hown, hts⟩ (ct_X10_requireRange l D cA α n _ hn S am 1 1000000 (by decide) (by decide) h3) (va_cwS 3 hts gX10_book_X10_requireRange rfl rfl rfl (by decide +kernel) ⟨Nat.le_of_ble_eq_true rfl, Nat.le_of_ble_eq_true rfl⟩) hK hw hAw rfl hl.1 rfl (Nat.le_of_ble_eq_true rfl) dX10_book_47 ⟨Nat.zero_le _, Nat.zero_le _⟩ (fun H locs hw => ?_)
    refine lv_aload_n hx hb dX10_book_50 rfl (lv_at hl 0 rfl) ?_
    refine x_get (v := .ref (α 3)) (C := RX10) (T := TX10) (N := 7) hx hb hts (fun _ h => List.mem_cons_of_mem _ (List.mem_append_left _ (List.mem_append_left _ (List.mem_append_left _ (List.mem_append_left _ (List.mem_append_left _ (List.mem_append_left _ (List.mem_append_left _ (List.mem_append_left _ (List.mem_append_right _ h)))))))))) hown hK hw 0 (Nat.lt_of_lt_of_le (Nat.le_of_ble_eq_true rfl : 0 < 191) hn) (mk_0 cA α) rfl 1 (by decide) (hts _ (List.mem_of_getElem? (i := 6) rfl)) (fun _ h9 => h9) rfl dX10_book_51 ?_
    refine x_get (v := .ref (α 74)) (C := RX0) (T := TX0) (N := 3) hx hb hts (fun _ h => List.mem_cons_of_mem _ (List.mem_append_left _ (List.mem_append_left _ (List.mem_append_left _ (List.mem_append_left _ (List.mem_append_left _ (List.mem_append_left _ (List.mem_append_left _ (List.mem_append_right _ h))))))))) hown hK hw 3 (Nat.lt_of_lt_of_le (Nat.le_of_ble_eq_true rfl : 3 < 191) hn) (mk_3 cA α) rfl 2 (by decide) (hts _ (List.mem_of_getElem? (i := 7) rfl)) (fun _ h9 => h9) rfl dX10_book_54 ?_
    refine x_get (v := .int (S.1 74 0)) (C := RX9) (T := TX9) (N := 14) hx hb hts (fun _ h => List.mem_cons_of_mem _ (List.mem_append_left _ (List.mem_append_left _ (List.mem_append_left _ (List.mem_append_left _ (List.mem_append_left _ (List.mem_append_left _ (List.mem_append_right _ h)))))))) hown hK hw 74 (Nat.lt_of_lt_of_le (Nat.le_of_ble_eq_true rfl : 74 < 191) hn) (mk_74 cA α) rfl 0 (by decide) (hts _ (List.mem_of_getElem? (i := 8) rfl)) (fun _ h9 => h9) rfl dX10_book_57 ?_
    refine x_topN (k := N) (by skip; exact hN) ?_
    refine lv_bipush (v := nI 100) hx hb dX10_book_60 (by decide) ?_
    refine xn_icmp_lt (tgt := 76) hx hb (by omega) (by decide) dX10_book_62 (by decide) (fun c2 => ?_) (fun c2 => ?_)
    · skip
      refine lv_aload_n hx hb dX10_book_76 rfl (lv_at hl 0 rfl) ?_
      refine x_get (v := .ref (α 11)) (C := RX10) (T := TX10) (N := 7) hx hb hts (fun _ h => List.mem_cons_of_mem _ (List.mem_append_left _ (List.mem_append_left _ (List.mem_append_left _ (List.mem_append_left _ (List.mem_append_left _ (List.mem_append_left _ (List.mem_append_left _ (List.mem_append_left _ (List.mem_append_right _ h)))))))))) hown hK hw 0 (Nat.lt_of_lt_of_le (Nat.le_of_ble_eq_true rfl : 0 < 191) hn) (mk_0 cA α) rfl 5 (by decide) (hts _ (List.mem_of_getElem? (i := 9) rfl)) (fun _ h9 => h9) rfl dX10_book_77 ?_
      refine lv_aload_n hx hb dX10_book_80 rfl (lv_at hl 0 rfl) ?_
      refine x_get (v := .ref (α 3)) (C := RX10) (T := TX10) (N := 7) hx hb hts (fun _ h => List.mem_cons_of_mem _ (List.mem_append_left _ (List.mem_append_left _ (List.mem_append_left _ (List.mem_append_left _ (List.mem_append_left _ (List.mem_append_left _ (List.mem_append_left _ (List.mem_append_left _ (List.mem_append_right _ h)))))))))) hown hK hw 0 (Nat.lt_of_lt_of_le (Nat.le_of_ble_eq_true rfl : 0 < 191) hn) (mk_0 cA α) rfl 1 (by decide) (hts _ (List.mem_of_getElem? (i := 6) rfl)) (fun _ h9 => h9) rfl dX10_book_81 ?_
      refine x_get (v := .ref (α 74)) (C := RX0) (T := TX0) (N := 3) hx hb hts (fun _ h => List.mem_cons_of_mem _ (List.mem_append_left _ (List.mem_append_left _ (List.mem_append_left _ (List.mem_append_left _ (List.mem_append_left _ (List.mem_append_left _ (List.mem_append_left _ (List.mem_append_right _ h))))))))) hown hK hw 3 (Nat.lt_of_lt_of_le (Nat.le_of_ble_eq_true rfl : 3 < 191) hn) (mk_3 cA α) rfl 2 (by decide) (hts _ (List.mem_of_getElem? (i := 7) rfl)) (fun _ h9 => h9) rfl dX10_book_84 ?_
      refine x_callVV (q := 11) (C := RX4) (As := [.ref (α 74)]) (rest := []) ⟨hx, hb, hml, hown, hts⟩ (ct_X4_remember l D cA α n _ hn S t k N M (by skip; exact ht) ht2 (by skip; exact hk) hk2 (by skip; exact hN) (by omega) (by skip; exact hM) (by omega)) (cwV 1 hts gX10_book_X4_remember rfl rfl rfl (by decide +kernel) ⟨Nat.le_of_ble_eq_true rfl, Nat.le_of_ble_eq_true rfl⟩) hK hw hAw (ws_recv hK hw (q := 11) (Nat.lt_of_lt_of_le (Nat.le_of_ble_eq_true rfl : 11 < 191) hn) (mk_11 cA α) rfl) rfl hl.1 rfl (Nat.le_of_ble_eq_true rfl) dX10_book_87 ⟨Nat.zero_le _, Nat.zero_le _⟩ (fun S1 eS1 H locs hw => ?_)
      refine lv_aload_n hx hb dX10_book_90 rfl (lv_at hl 0 rfl) ?_
      refine x_get (v := .ref (α 3)) (C := RX10) (T := TX10) (N := 7) hx hb hts (fun _ h => List.mem_cons_of_mem _ (List.mem_append_left _ (List.mem_append_left _ (List.mem_append_left _ (List.mem_append_left _ (List.mem_append_left _ (List.mem_append_left _ (List.mem_append_left _ (List.mem_append_left _ (List.mem_append_right _ h)))))))))) hown hK hw 0 (Nat.lt_of_lt_of_le (Nat.le_of_ble_eq_true rfl : 0 < 191) hn) (mk_0 cA α) rfl 1 (by decide) (hts _ (List.mem_of_getElem? (i := 6) rfl)) (fun _ h9 => h9) rfl dX10_book_91 ?_
      refine x_get (v := .ref (α 74)) (C := RX0) (T := TX0) (N := 3) hx hb hts (fun _ h => List.mem_cons_of_mem _ (List.mem_append_left _ (List.mem_append_left _ (List.mem_append_left _ (List.mem_append_left _ (List.mem_append_left _ (List.mem_append_left _ (List.mem_append_left _ (List.mem_append_right _ h))))))))) hown hK hw 3 (Nat.lt_of_lt_of_le (Nat.le_of_ble_eq_true rfl : 3 < 191) hn) (mk_3 cA α) rfl 2 (by decide) (hts _ (List.mem_of_getElem? (i := 7) rfl)) (fun _ h9 => h9) rfl dX10_book_94 ?_
      refine x_get (v := .int (S1.1 74 0)) (C := RX9) (T := TX9) (N := 14) hx hb hts (fun _ h => List.mem_cons_of_mem _ (List.mem_append_left _ (List.mem_append_left _ (List.mem_append_left _ (List.mem_append_left _ (List.mem_append_left _ (List.mem_append_left _ (List.mem_append_right _ h)))))))) hown hK hw 74 (Nat.lt_of_lt_of_le (Nat.le_of_ble_eq_true rfl : 74 < 191) hn) (mk_74 cA α) rfl 0 (by decide) (hts _ (List.mem_of_getElem? (i := 8) rfl)) (fun _ h9 => h9) rfl dX10_book_97 ?_
      refine x_topN (k := N) (by subst eS1; exact (congrFun (cRem_1 (by decide) (by decide)) 0).trans hN) ?_
      refine lv_istore (lv' := [(6, .int (nI N)), (0, .ref (α 0)), (1, .int (nI a)), (2, .int (nI b)), (3, .int sd), (4, .int rf), (5, .int am)]) hx hb dX10_book_100 hl (by decide) rfl (fun ls hl => ?_)
      refine lv_aload_n hx hb dX10_book_102 rfl (lv_at hl 1 rfl) ?_
      refine x_get (v := .ref (α 3)) (C := RX10) (T := TX10) (N := 7) hx hb hts (fun _ h => List.mem_cons_of_mem _ (List.mem_append_left _ (List.mem_append_left _ (List.mem_append_left _ (List.mem_append_left _ (List.mem_append_left _ (List.mem_append_left _ (List.mem_append_left _ (List.mem_append_left _ (List.mem_append_right _ h)))))))))) hown hK hw 0 (Nat.lt_of_lt_of_le (Nat.le_of_ble_eq_true rfl : 0 < 191) hn) (mk_0 cA α) rfl 1 (by decide) (hts _ (List.mem_of_getElem? (i := 6) rfl)) (fun _ h9 => h9) rfl dX10_book_103 ?_
      refine x_get (v := .ref (α 44)) (C := RX0) (T := TX0) (N := 3) hx hb hts (fun _ h => List.mem_cons_of_mem _ (List.mem_append_left _ (List.mem_append_left _ (List.mem_append_left _ (List.mem_append_left _ (List.mem_append_left _ (List.mem_append_left _ (List.mem_append_left _ (List.mem_append_right _ h))))))))) hown hK hw 3 (Nat.lt_of_lt_of_le (Nat.le_of_ble_eq_true rfl : 3 < 191) hn) (mk_3 cA α) rfl 1 (by decide) (hts _ (List.mem_of_getElem? (i := 10) rfl)) (fun _ h9 => h9) rfl dX10_book_106 ?_
      refine lv_iload hx hb dX10_book_109 (lv_at hl 0 rfl) ?_
      refine lv_iload_n hx hb dX10_book_111 rfl (lv_at hl 2 rfl) ?_
      refine lv_iload_n hx hb dX10_book_112 rfl (lv_at hl 3 rfl) ?_
      refine lv_iload_n hx hb dX10_book_113 rfl (lv_at hl 4 rfl) ?_
      refine lv_iload hx hb dX10_book_114 (lv_at hl 5 rfl) ?_
      refine x_callVV (q := 44) (C := RX7) (As := [.int (nI N), .int (nI a), .int (nI b), .int sd, .int rf]) (rest := []) ⟨hx, hb, hml, hown, hts⟩ (ct_X7_putItem l D cA α n _ hn S1 N (nI a) (nI b) sd rf hN2) (cwV 5 hts gX10_book_X7_putItem rfl rfl rfl (by decide +kernel) ⟨Nat.le_of_ble_eq_true rfl, Nat.le_of_ble_eq_true rfl⟩) hK hw hAw (ws_recv hK hw (q := 44) (Nat.lt_of_lt_of_le (Nat.le_of_ble_eq_true rfl : 44 < 191) hn) (mk_44 cA α) rfl) rfl hl.1 rfl (Nat.le_of_ble_eq_true rfl) dX10_book_116 ⟨Nat.zero_le _, Nat.zero_le _⟩ (fun S2 eS2 H locs hw => ?_)
      refine lv_aload_n hx hb dX10_book_119 rfl (lv_at hl 1 rfl) ?_
      refine x_get (v := .ref (α 3)) (C := RX10) (T := TX10) (N := 7) hx hb hts (fun _ h => List.mem_cons_of_mem _ (List.mem_append_left _ (List.mem_append_left _ (List.mem_append_left _ (List.mem_append_left _ (List.mem_append_left _ (List.mem_append_left _ (List.mem_append_left _ (List.mem_append_left _ (List.mem_append_right _ h)))))))))) hown hK hw 0 (Nat.lt_of_lt_of_le (Nat.le_of_ble_eq_true rfl : 0 < 191) hn) (mk_0 cA α) rfl 1 (by decide) (hts _ (List.mem_of_getElem? (i := 6) rfl)) (fun _ h9 => h9) rfl dX10_book_120 ?_
      refine lv_iload hx hb dX10_book_123 (lv_at hl 6 rfl) ?_
      refine x_callVV (q := 3) (C := RX0) (As := [.int am]) (rest := []) ⟨hx, hb, hml, hown, hts⟩ (ct_X0_openItem l D cA α n _ hn S2 am N (by subst eS2; subst eS1; exact (congrFun (cBk1_k _ _ _ _ _ _ (Or.inr (by decide))) 0).trans ((congrFun (cRem_1 (by decide) (by decide)) 0).trans hN)) hN2 (by subst eS2; subst eS1; exact cBk1_ok hN2 (by omega) (by rw [cRem_1 (by decide) (by decide)]; exact hcu))) (cwV 1 hts gX10_book_X0_openItem rfl rfl rfl (by decide +kernel) ⟨Nat.le_of_ble_eq_true rfl, Nat.le_of_ble_eq_true rfl⟩) hK hw hAw (ws_recv hK hw (q := 3) (Nat.lt_of_lt_of_le (Nat.le_of_ble_eq_true rfl : 3 < 191) hn) (mk_3 cA α) rfl) rfl hl.1 rfl (Nat.le_of_ble_eq_true rfl) dX10_book_125 ⟨Nat.zero_le _, Nat.zero_le _⟩ (fun S3 eS3 H locs hw => ?_)
      refine lv_iload hx hb dX10_book_128 (lv_at hl 0 rfl) ?_
      exact ret_i hx hb hr hlocks hK hw dX10_book_130 rfl (by subst eS3; subst eS2; subst eS1; rfl)
    · exact absurd hN2 (by omega)
  · exact absurd c1.symm hab

set_option maxRecDepth 100000 in
set_option maxHeartbeats 1000000 in
theorem ct_X10_bookX (l : Launch) (hst : l.stackTraces = false) (sa : Nat → Nat) (D : va_G) (cA : Nat → ClassId) (α : Nat → Nat) (n sz : Nat) (hn : 191 ≤ n) (S : Mem) (Cn : Nat) (hC : S.1 23 1 = nI Cn) (hC2 : Cn ≤ 6) (x y : Int32) (hx9 : ¬ ∃ i, i < Cn ∧ x = nI i) (sd rf am : Int32) : CtX sa l yX10_book wsX10_book ({ frames := 7, cells := 1, slots := 6, locals := 122 }) D cA α n sz [.ref (α 0), .int x, .int y, .int sd, .int rf, .int am] S eIO := by
  refine ctx_enter cX10_book 7 (some .int) (by decide) rfl (Nat.le_of_ble_eq_true rfl) ?_
  intro p e s m below meth c hx hb hr hml hlocks hown hts hK hsz hw hZ hSx hout ls hl
  have hown : s.vm.findClass RX10 = some m.cls := hown
  have hAw : ∀ z, Aw α n s.heap.size z → Aw α n sz z := by rw [hsz]; exact fun _ h => h
  have hl : lv_has ls 7 [(0, .ref (α 0)), (1, .int x), (2, .int y), (3, .int sd), (4, .int rf), (5, .int am)] := hl
  refine lv_aload_n hx hb dX10_book_0 rfl (lv_at hl 0 rfl) ?_
  refine lv_iload_n hx hb dX10_book_1 rfl (lv_at hl 1 rfl) ?_
  exact x_callXV (q := 0) (C := RX10) (As := [.int x]) (rest := []) ⟨hx, hb, hml, hown, hts⟩ (ct_X10_requireCompanyX l hst sa D cA α n _ hn S Cn hC hC2 x hx9) (cwV 1 hts gX10_book_X10_requireCompany rfl rfl rfl (by decide +kernel) ⟨Nat.le_of_ble_eq_true rfl, Nat.le_of_ble_eq_true rfl⟩) hK hw hsz hZ hSx (ws_recv hK hw (q := 0) (Nat.lt_of_lt_of_le (Nat.le_of_ble_eq_true rfl : 0 < 191) hn) (mk_0 cA α) rfl) rfl hl.1 rfl (Nat.le_of_ble_eq_true rfl) dX10_book_2 ⟨Nat.le_of_ble_eq_true rfl, Nat.le_of_ble_eq_true rfl⟩ hout hlocks rfl

set_option maxRecDepth 100000 in
set_option maxHeartbeats 1000000 in
theorem ct_X10_bookX2 (l : Launch) (hst : l.stackTraces = false) (sa : Nat → Nat) (D : va_G) (cA : Nat → ClassId) (α : Nat → Nat) (n sz : Nat) (hn : 191 ≤ n) (S : Mem) (Cn : Nat) (hC : S.1 23 1 = nI Cn) (hC2 : Cn ≤ 6) (a : Nat) (ha : a < Cn) (y : Int32) (hx9 : ¬ ∃ i, i < Cn ∧ y = nI i) (sd rf am : Int32) : CtX sa l yX10_book wsX10_book ({ frames := 7, cells := 1, slots := 6, locals := 122 }) D cA α n sz [.ref (α 0), .int (nI a), .int y, .int sd, .int rf, .int am] S eIO := by
  refine ctx_enter cX10_book 7 (some .int) (by decide) rfl (Nat.le_of_ble_eq_true rfl) ?_
  intro p e s m below meth c hx hb hr hml hlocks hown hts hK hsz hw hZ hSx hout ls hl
  have hown : s.vm.findClass RX10 = some m.cls := hown
  have hAw : ∀ z, Aw α n s.heap.size z → Aw α n sz z := by rw [hsz]; exact fun _ h => h
  have hl : lv_has ls 7 [(0, .ref (α 0)), (1, .int (nI a)), (2, .int y), (3, .int sd), (4, .int rf), (5, .int am)] := hl
  refine lv_aload_n hx hb dX10_book_0 rfl (lv_at hl 0 rfl) ?_
  refine lv_iload_n hx hb dX10_book_1 rfl (lv_at hl 1 rfl) ?_
  refine x_callVVr (q := 0) (C := RX10) (As := [.int (nI a)]) (rest := []) ⟨hx, hb, hml, hown, hts⟩ (ct_X10_requireCompany l D cA α n _ hn S Cn hC hC2 a ha) (cwV 1 hts gX10_book_X10_requireCompany rfl rfl rfl (by decide +kernel) ⟨Nat.le_of_ble_eq_true rfl, Nat.le_of_ble_eq_true rfl⟩) hK hw hAw (ws_recv hK hw (q := 0) (Nat.lt_of_lt_of_le (Nat.le_of_ble_eq_true rfl : 0 < 191) hn) (mk_0 cA α) rfl) rfl hl.1 rfl (Nat.le_of_ble_eq_true rfl) dX10_book_2 ⟨Nat.zero_le _, Nat.zero_le _⟩ (fun H locs hw => ?_)
  refine lv_aload_n hx hb dX10_book_5 rfl (lv_at hl 0 rfl) ?_
  refine lv_iload_n hx hb dX10_book_6 rfl (lv_at hl 2 rfl) ?_
  exact x_callXV (q := 0) (C := RX10) (As := [.int y]) (rest := []) ⟨hx, hb, hml, hown, hts⟩ (ct_X10_requireCompanyX l hst sa D cA α n _ hn S Cn hC hC2 y hx9) (cwV 1 hts gX10_book_X10_requireCompany rfl rfl rfl (by decide +kernel) ⟨Nat.le_of_ble_eq_true rfl, Nat.le_of_ble_eq_true rfl⟩) hK hw hsz hZ hSx (ws_recv hK hw (q := 0) (Nat.lt_of_lt_of_le (Nat.le_of_ble_eq_true rfl : 0 < 191) hn) (mk_0 cA α) rfl) rfl hl.1 rfl (Nat.le_of_ble_eq_true rfl) dX10_book_7 ⟨Nat.le_of_ble_eq_true rfl, Nat.le_of_ble_eq_true rfl⟩ hout hlocks rfl

set_option maxRecDepth 100000 in
set_option maxHeartbeats 1000000 in
theorem ct_X10_bookY (l : Launch) (hst : l.stackTraces = false) (sa : Nat → Nat) (D : va_G) (cA : Nat → ClassId) (α : Nat → Nat) (n sz : Nat) (hn : 191 ≤ n) (S : Mem) (Cn : Nat) (hC : S.1 23 1 = nI Cn) (hC2 : Cn ≤ 6) (a : Nat) (ha : a < Cn) (sd rf am : Int32) : CtX sa l yX10_book wsX10_book ({ frames := 7, cells := 1, slots := 6, locals := 122 }) D cA α n sz [.ref (α 0), .int (nI a), .int (nI a), .int sd, .int rf, .int am] S eIA := by
  refine ctx_enter cX10_book 7 (some .int) (by decide) rfl (Nat.le_of_ble_eq_true rfl) ?_
  intro p e s m below meth c hx hb hr hml hlocks hown hts hK hsz hw hZ hSx hout ls hl
  have hown : s.vm.findClass RX10 = some m.cls := hown
  have hAw : ∀ z, Aw α n s.heap.size z → Aw α n sz z := by rw [hsz]; exact fun _ h => h
  have hl : lv_has ls 7 [(0, .ref (α 0)), (1, .int (nI a)), (2, .int (nI a)), (3, .int sd), (4, .int rf), (5, .int am)] := hl
  refine lv_aload_n hx hb dX10_book_0 rfl (lv_at hl 0 rfl) ?_
  refine lv_iload_n hx hb dX10_book_1 rfl (lv_at hl 1 rfl) ?_
  refine x_callVVr (q := 0) (C := RX10) (As := [.int (nI a)]) (rest := []) ⟨hx, hb, hml, hown, hts⟩ (ct_X10_requireCompany l D cA α n _ hn S Cn hC hC2 a ha) (cwV 1 hts gX10_book_X10_requireCompany rfl rfl rfl (by decide +kernel) ⟨Nat.le_of_ble_eq_true rfl, Nat.le_of_ble_eq_true rfl⟩) hK hw hAw (ws_recv hK hw (q := 0) (Nat.lt_of_lt_of_le (Nat.le_of_ble_eq_true rfl : 0 < 191) hn) (mk_0 cA α) rfl) rfl hl.1 rfl (Nat.le_of_ble_eq_true rfl) dX10_book_2 ⟨Nat.zero_le _, Nat.zero_le _⟩ (fun H locs hw => ?_)
  refine lv_aload_n hx hb dX10_book_5 rfl (lv_at hl 0 rfl) ?_
  refine lv_iload_n hx hb dX10_book_6 rfl (lv_at hl 2 rfl) ?_
  refine x_callVVr (q := 0) (C := RX10) (As := [.int (nI a)]) (rest := []) ⟨hx, hb, hml, hown, hts⟩ (ct_X10_requireCompany l D cA α n _ hn S Cn hC hC2 a ha) (cwV 1 hts gX10_book_X10_requireCompany rfl rfl rfl (by decide +kernel) ⟨Nat.le_of_ble_eq_true rfl, Nat.le_of_ble_eq_true rfl⟩) hK hw hAw (ws_recv hK hw (q := 0) (Nat.lt_of_lt_of_le (Nat.le_of_ble_eq_true rfl : 0 < 191) hn) (mk_0 cA α) rfl) rfl hl.1 rfl (Nat.le_of_ble_eq_true rfl) dX10_book_7 ⟨Nat.zero_le _, Nat.zero_le _⟩ (fun H locs hw => ?_)
  refine lv_iload_n hx hb dX10_book_10 rfl (lv_at hl 2 rfl) ?_
  refine lv_iload_n hx hb dX10_book_11 rfl (lv_at hl 1 rfl) ?_
  refine xn_icmp_ne (tgt := 26) hx hb (by omega) (by omega) dX10_book_12 (by decide) (fun c1 => ?_) (fun c1 => ?_)
  · exact absurd rfl c1
  · skip
    exact x_throwSW (names := eUp) (rest := []) hx hb hst hown fit_IA fit_Up (hts _ (List.mem_of_getElem? (i := 1) rfl)) (hts _ (List.mem_of_getElem? (i := 2) rfl)) (hSx.1 _ (List.mem_of_getElem? (i := 5) rfl)) (at_IA hSx (fun w h => hts w ((fun _ h => List.mem_cons_of_mem _ (List.mem_append_left _ (List.mem_append_left _ (List.mem_append_right _ h)))) w h))) ga_IA hZ hK hw (hl.1.trans hml.symm) dX10_book_15 dX10_book_18 dX10_book_19 dX10_book_22 dX10_book_25 hout (Nat.le_of_ble_eq_true rfl) (Nat.le_of_ble_eq_true rfl) (Nat.le_of_ble_eq_true rfl) (Nat.le_of_ble_eq_true rfl) hlocks rfl

set_option maxRecDepth 100000 in
set_option maxHeartbeats 1000000 in
theorem ct_X10_bookY1 (l : Launch) (hst : l.stackTraces = false) (sa : Nat → Nat) (D : va_G) (cA : Nat → ClassId) (α : Nat → Nat) (n sz : Nat) (hn : 191 ≤ n) (S : Mem) (Cn : Nat) (hC : S.1 23 1 = nI Cn) (hC2 : Cn ≤ 6) (a b : Nat) (ha : a < Cn) (hb0 : b < Cn) (hab : a ≠ b) (sd rf am : Int32) (hx9 : ¬ ∃ i, 0 ≤ i ∧ i ≤ 1 ∧ sd = nI i) : CtX sa l yX10_book wsX10_book ({ frames := 7, cells := 1, slots := 6, locals := 122 }) D cA α n sz [.ref (α 0), .int (nI a), .int (nI b), .int sd, .int rf, .int am] S eIA := by
  refine ctx_enter cX10_book 7 (some .int) (by decide) rfl (Nat.le_of_ble_eq_true rfl) ?_
  intro p e s m below meth c hx hb hr hml hlocks hown hts hK hsz hw hZ hSx hout ls hl
  have hown : s.vm.findClass RX10 = some m.cls := hown
  have hAw : ∀ z, Aw α n s.heap.size z → Aw α n sz z := by rw [hsz]; exact fun _ h => h
  have hl : lv_has ls 7 [(0, .ref (α 0)), (1, .int (nI a)), (2, .int (nI b)), (3, .int sd), (4, .int rf), (5, .int am)] := hl
  refine lv_aload_n hx hb dX10_book_0 rfl (lv_at hl 0 rfl) ?_
  refine lv_iload_n hx hb dX10_book_1 rfl (lv_at hl 1 rfl) ?_
  refine x_callVVr (q := 0) (C := RX10) (As := [.int (nI a)]) (rest := []) ⟨hx, hb, hml, hown, hts⟩ (ct_X10_requireCompany l D cA α n _ hn S Cn hC hC2 a ha) (cwV 1 hts gX10_book_X10_requireCompany rfl rfl rfl (by decide +kernel) ⟨Nat.le_of_ble_eq_true rfl, Nat.le_of_ble_eq_true rfl⟩) hK hw hAw (ws_recv hK hw (q := 0) (Nat.lt_of_lt_of_le (Nat.le_of_ble_eq_true rfl : 0 < 191) hn) (mk_0 cA α) rfl) rfl hl.1 rfl (Nat.le_of_ble_eq_true rfl) dX10_book_2 ⟨Nat.zero_le _, Nat.zero_le _⟩ (fun H locs hw => ?_)
  refine lv_aload_n hx hb dX10_book_5 rfl (lv_at hl 0 rfl) ?_
  refine lv_iload_n hx hb dX10_book_6 rfl (lv_at hl 2 rfl) ?_
  refine x_callVVr (q := 0) (C := RX10) (As := [.int (nI b)]) (rest := []) ⟨hx, hb, hml, hown, hts⟩ (ct_X10_requireCompany l D cA α n _ hn S Cn hC hC2 b hb0) (cwV 1 hts gX10_book_X10_requireCompany rfl rfl rfl (by decide +kernel) ⟨Nat.le_of_ble_eq_true rfl, Nat.le_of_ble_eq_true rfl⟩) hK hw hAw (ws_recv hK hw (q := 0) (Nat.lt_of_lt_of_le (Nat.le_of_ble_eq_true rfl : 0 < 191) hn) (mk_0 cA α) rfl) rfl hl.1 rfl (Nat.le_of_ble_eq_true rfl) dX10_book_7 ⟨Nat.zero_le _, Nat.zero_le _⟩ (fun H locs hw => ?_)
  refine lv_iload_n hx hb dX10_book_10 rfl (lv_at hl 2 rfl) ?_
  refine lv_iload_n hx hb dX10_book_11 rfl (lv_at hl 1 rfl) ?_
  refine xn_icmp_ne (tgt := 26) hx hb (by omega) (by omega) dX10_book_12 (by decide) (fun c1 => ?_) (fun c1 => ?_)
  · skip
    refine lv_iload_n hx hb dX10_book_26 rfl (lv_at hl 3 rfl) ?_
    refine lv_iconst (v := nI 0) hx hb dX10_book_27 (by decide) ?_
    refine lv_iconst (v := nI 1) hx hb dX10_book_28 (by decide) ?_
    exact x_callXS (As := [.int sd, .int (nI 0), .int (nI 1)]) (rest := []) ⟨hx, hb, hml, hown, hts⟩ (ct_X10_requireRangeX l hst sa D cA α n _ hn S sd 0 1 (by decide) (by decide) hx9) (va_cwS 3 hts gX10_book_X10_requireRange rfl rfl rfl (by decide +kernel) ⟨Nat.le_of_ble_eq_true rfl, Nat.le_of_ble_eq_true rfl⟩) hK hw hsz hZ hSx rfl hl.1 rfl (Nat.le_of_ble_eq_true rfl) dX10_book_29 ⟨Nat.le_of_ble_eq_true rfl, Nat.le_of_ble_eq_true rfl⟩ hout hlocks rfl
  · exact absurd c1.symm hab

set_option maxRecDepth 100000 in
set_option maxHeartbeats 1000000 in
theorem ct_X10_bookY2 (l : Launch) (hst : l.stackTraces = false) (sa : Nat → Nat) (D : va_G) (cA : Nat → ClassId) (α : Nat → Nat) (n sz : Nat) (hn : 191 ≤ n) (S : Mem) (Cn : Nat) (hC : S.1 23 1 = nI Cn) (hC2 : Cn ≤ 6) (a b : Nat) (ha : a < Cn) (hb0 : b < Cn) (hab : a ≠ b) (sd rf am : Int32) (h1 : ∃ i, 0 ≤ i ∧ i ≤ 1 ∧ sd = nI i) (hx9 : ¬ ∃ i, 0 ≤ i ∧ i ≤ 999 ∧ rf = nI i) : CtX sa l yX10_book wsX10_book ({ frames := 7, cells := 1, slots := 6, locals := 122 }) D cA α n sz [.ref (α 0), .int (nI a), .int (nI b), .int sd, .int rf, .int am] S eIA := by
  refine ctx_enter cX10_book 7 (some .int) (by decide) rfl (Nat.le_of_ble_eq_true rfl) ?_
  intro p e s m below meth c hx hb hr hml hlocks hown hts hK hsz hw hZ hSx hout ls hl
  have hown : s.vm.findClass RX10 = some m.cls := hown
  have hAw : ∀ z, Aw α n s.heap.size z → Aw α n sz z := by rw [hsz]; exact fun _ h => h
  have hl : lv_has ls 7 [(0, .ref (α 0)), (1, .int (nI a)), (2, .int (nI b)), (3, .int sd), (4, .int rf), (5, .int am)] := hl
  refine lv_aload_n hx hb dX10_book_0 rfl (lv_at hl 0 rfl) ?_
  refine lv_iload_n hx hb dX10_book_1 rfl (lv_at hl 1 rfl) ?_
  refine x_callVVr (q := 0) (C := RX10) (As := [.int (nI a)]) (rest := []) ⟨hx, hb, hml, hown, hts⟩ (ct_X10_requireCompany l D cA α n _ hn S Cn hC hC2 a ha) (cwV 1 hts gX10_book_X10_requireCompany rfl rfl rfl (by decide +kernel) ⟨Nat.le_of_ble_eq_true rfl, Nat.le_of_ble_eq_true rfl⟩) hK hw hAw (ws_recv hK hw (q := 0) (Nat.lt_of_lt_of_le (Nat.le_of_ble_eq_true rfl : 0 < 191) hn) (mk_0 cA α) rfl) rfl hl.1 rfl (Nat.le_of_ble_eq_true rfl) dX10_book_2 ⟨Nat.zero_le _, Nat.zero_le _⟩ (fun H locs hw => ?_)
  refine lv_aload_n hx hb dX10_book_5 rfl (lv_at hl 0 rfl) ?_
  refine lv_iload_n hx hb dX10_book_6 rfl (lv_at hl 2 rfl) ?_
  refine x_callVVr (q := 0) (C := RX10) (As := [.int (nI b)]) (rest := []) ⟨hx, hb, hml, hown, hts⟩ (ct_X10_requireCompany l D cA α n _ hn S Cn hC hC2 b hb0) (cwV 1 hts gX10_book_X10_requireCompany rfl rfl rfl (by decide +kernel) ⟨Nat.le_of_ble_eq_true rfl, Nat.le_of_ble_eq_true rfl⟩) hK hw hAw (ws_recv hK hw (q := 0) (Nat.lt_of_lt_of_le (Nat.le_of_ble_eq_true rfl : 0 < 191) hn) (mk_0 cA α) rfl) rfl hl.1 rfl (Nat.le_of_ble_eq_true rfl) dX10_book_7 ⟨Nat.zero_le _, Nat.zero_le _⟩ (fun H locs hw => ?_)
  refine lv_iload_n hx hb dX10_book_10 rfl (lv_at hl 2 rfl) ?_
  refine lv_iload_n hx hb dX10_book_11 rfl (lv_at hl 1 rfl) ?_
  refine xn_icmp_ne (tgt := 26) hx hb (by omega) (by omega) dX10_book_12 (by decide) (fun c1 => ?_) (fun c1 => ?_)
  · skip
    refine lv_iload_n hx hb dX10_book_26 rfl (lv_at hl 3 rfl) ?_
    refine lv_iconst (v := nI 0) hx hb dX10_book_27 (by decide) ?_
    refine lv_iconst (v := nI 1) hx hb dX10_book_28 (by decide) ?_
    refine x_callSVr (q := 0) (C := RX0) (As := [.int sd, .int (nI 0), .int (nI 1)]) (rest := []) ⟨hx, hb, hml, hown, hts⟩ (ct_X10_requireRange l D cA α n _ hn S sd 0 1 (by decide) (by decide) h1) (va_cwS 3 hts gX10_book_X10_requireRange rfl rfl rfl (by decide +kernel) ⟨Nat.le_of_ble_eq_true rfl, Nat.le_of_ble_eq_true rfl⟩) hK hw hAw rfl hl.1 rfl (Nat.le_of_ble_eq_true rfl) dX10_book_29 ⟨Nat.zero_le _, Nat.zero_le _⟩ (fun H locs hw => ?_)
    refine lv_iload hx hb dX10_book_32 (lv_at hl 4 rfl) ?_
    refine lv_iconst (v := nI 0) hx hb dX10_book_34 (by decide) ?_
    refine lv_sipush (v := nI 999) hx hb dX10_book_35 (by decide) ?_
    exact x_callXS (As := [.int rf, .int (nI 0), .int (nI 999)]) (rest := []) ⟨hx, hb, hml, hown, hts⟩ (ct_X10_requireRangeX l hst sa D cA α n _ hn S rf 0 999 (by decide) (by decide) hx9) (va_cwS 3 hts gX10_book_X10_requireRange rfl rfl rfl (by decide +kernel) ⟨Nat.le_of_ble_eq_true rfl, Nat.le_of_ble_eq_true rfl⟩) hK hw hsz hZ hSx rfl hl.1 rfl (Nat.le_of_ble_eq_true rfl) dX10_book_38 ⟨Nat.le_of_ble_eq_true rfl, Nat.le_of_ble_eq_true rfl⟩ hout hlocks rfl
  · exact absurd c1.symm hab

set_option maxRecDepth 100000 in
set_option maxHeartbeats 1000000 in
theorem ct_X10_bookY3 (l : Launch) (hst : l.stackTraces = false) (sa : Nat → Nat) (D : va_G) (cA : Nat → ClassId) (α : Nat → Nat) (n sz : Nat) (hn : 191 ≤ n) (S : Mem) (Cn : Nat) (hC : S.1 23 1 = nI Cn) (hC2 : Cn ≤ 6) (a b : Nat) (ha : a < Cn) (hb0 : b < Cn) (hab : a ≠ b) (sd rf am : Int32) (h1 : ∃ i, 0 ≤ i ∧ i ≤ 1 ∧ sd = nI i) (h2 : ∃ i, 0 ≤ i ∧ i ≤ 999 ∧ rf = nI i) (hx9 : ¬ ∃ i, 1 ≤ i ∧ i ≤ 1000000 ∧ am = nI i) : CtX sa l yX10_book wsX10_book ({ frames := 7, cells := 1, slots := 6, locals := 122 }) D cA α n sz [.ref (α 0), .int (nI a), .int (nI b), .int sd, .int rf, .int am] S eIA := by
  refine ctx_enter cX10_book 7 (some .int) (by decide) rfl (Nat.le_of_ble_eq_true rfl) ?_
  intro p e s m below meth c hx hb hr hml hlocks hown hts hK hsz hw hZ hSx hout ls hl
  have hown : s.vm.findClass RX10 = some m.cls := hown
  have hAw : ∀ z, Aw α n s.heap.size z → Aw α n sz z := by rw [hsz]; exact fun _ h => h
  have hl : lv_has ls 7 [(0, .ref (α 0)), (1, .int (nI a)), (2, .int (nI b)), (3, .int sd), (4, .int rf), (5, .int am)] := hl
  refine lv_aload_n hx hb dX10_book_0 rfl (lv_at hl 0 rfl) ?_
  refine lv_iload_n hx hb dX10_book_1 rfl (lv_at hl 1 rfl) ?_
  refine x_callVVr (q := 0) (C := RX10) (As := [.int (nI a)]) (rest := []) ⟨hx, hb, hml, hown, hts⟩ (ct_X10_requireCompany l D cA α n _ hn S Cn hC hC2 a ha) (cwV 1 hts gX10_book_X10_requireCompany rfl rfl rfl (by decide +kernel) ⟨Nat.le_of_ble_eq_true rfl, Nat.le_of_ble_eq_true rfl⟩) hK hw hAw (ws_recv hK hw (q := 0) (Nat.lt_of_lt_of_le (Nat.le_of_ble_eq_true rfl : 0 < 191) hn) (mk_0 cA α) rfl) rfl hl.1 rfl (Nat.le_of_ble_eq_true rfl) dX10_book_2 ⟨Nat.zero_le _, Nat.zero_le _⟩ (fun H locs hw => ?_)
  refine lv_aload_n hx hb dX10_book_5 rfl (lv_at hl 0 rfl) ?_
  refine lv_iload_n hx hb dX10_book_6 rfl (lv_at hl 2 rfl) ?_
  refine x_callVVr (q := 0) (C := RX10) (As := [.int (nI b)]) (rest := []) ⟨hx, hb, hml, hown, hts⟩ (ct_X10_requireCompany l D cA α n _ hn S Cn hC hC2 b hb0) (cwV 1 hts gX10_book_X10_requireCompany rfl rfl rfl (by decide +kernel) ⟨Nat.le_of_ble_eq_true rfl, Nat.le_of_ble_eq_true rfl⟩) hK hw hAw (ws_recv hK hw (q := 0) (Nat.lt_of_lt_of_le (Nat.le_of_ble_eq_true rfl : 0 < 191) hn) (mk_0 cA α) rfl) rfl hl.1 rfl (Nat.le_of_ble_eq_true rfl) dX10_book_7 ⟨Nat.zero_le _, Nat.zero_le _⟩ (fun H locs hw => ?_)
  refine lv_iload_n hx hb dX10_book_10 rfl (lv_at hl 2 rfl) ?_
  refine lv_iload_n hx hb dX10_book_11 rfl (lv_at hl 1 rfl) ?_
  refine xn_icmp_ne (tgt := 26) hx hb (by omega) (by omega) dX10_book_12 (by decide) (fun c1 => ?_) (fun c1 => ?_)
  · skip
    refine lv_iload_n hx hb dX10_book_26 rfl (lv_at hl 3 rfl) ?_
    refine lv_iconst (v := nI 0) hx hb dX10_book_27 (by decide) ?_
    refine lv_iconst (v := nI 1) hx hb dX10_book_28 (by decide) ?_
    refine x_callSVr (q := 0) (C := RX0) (As := [.int sd, .int (nI 0), .int (nI 1)]) (rest := []) ⟨hx, hb, hml, hown, hts⟩ (ct_X10_requireRange l D cA α n _ hn S sd 0 1 (by decide) (by decide) h1) (va_cwS 3 hts gX10_book_X10_requireRange rfl rfl rfl (by decide +kernel) ⟨Nat.le_of_ble_eq_true rfl, Nat.le_of_ble_eq_true rfl⟩) hK hw hAw rfl hl.1 rfl (Nat.le_of_ble_eq_true rfl) dX10_book_29 ⟨Nat.zero_le _, Nat.zero_le _⟩ (fun H locs hw => ?_)
    refine lv_iload hx hb dX10_book_32 (lv_at hl 4 rfl) ?_
    refine lv_iconst (v := nI 0) hx hb dX10_book_34 (by decide) ?_
    refine lv_sipush (v := nI 999) hx hb dX10_book_35 (by decide) ?_
    refine x_callSVr (q := 0) (C := RX0) (As := [.int rf, .int (nI 0), .int (nI 999)]) (rest := []) ⟨hx, hb, hml, hown, hts⟩ (ct_X10_requireRange l D cA α n _ hn S rf 0 999 (by decide) (by decide) h2) (va_cwS 3 hts gX10_book_X10_requireRange rfl rfl rfl (by decide +kernel) ⟨Nat.le_of_ble_eq_true rfl, Nat.le_of_ble_eq_true rfl⟩) hK hw hAw rfl hl.1 rfl (Nat.le_of_ble_eq_true rfl) dX10_book_38 ⟨Nat.zero_le _, Nat.zero_le _⟩ (fun H locs hw => ?_)
    refine lv_iload hx hb dX10_book_41 (lv_at hl 5 rfl) ?_
    refine lv_iconst (v := nI 1) hx hb dX10_book_43 (by decide) ?_
    refine lv_ldcw (v := 1000000) hx hb hown (hts _ (List.mem_of_getElem? (i := 5) rfl)) dX10_book_44 ?_
    refine x_topN (k := 1000000) (by decide) ?_
    exact x_callXS (As := [.int am, .int (nI 1), .int (nI 1000000)]) (rest := []) ⟨hx, hb, hml, hown, hts⟩ (ct_X10_requireRangeX l hst sa D cA α n _ hn S am 1 1000000 (by decide) (by decide) hx9) (va_cwS 3 hts gX10_book_X10_requireRange rfl rfl rfl (by decide +kernel) ⟨Nat.le_of_ble_eq_true rfl, Nat.le_of_ble_eq_true rfl⟩) hK hw hsz hZ hSx rfl hl.1 rfl (Nat.le_of_ble_eq_true rfl) dX10_book_47 ⟨Nat.le_of_ble_eq_true rfl, Nat.le_of_ble_eq_true rfl⟩ hout hlocks rfl
  · exact absurd c1.symm hab

set_option maxRecDepth 100000 in
set_option maxHeartbeats 1000000 in
theorem ct_X10_bookZ (l : Launch) (hst : l.stackTraces = false) (sa : Nat → Nat) (D : va_G) (cA : Nat → ClassId) (α : Nat → Nat) (n sz : Nat) (hn : 191 ≤ n) (S : Mem) (Cn : Nat) (hC : S.1 23 1 = nI Cn) (hC2 : Cn ≤ 6) (a b : Nat) (ha : a < Cn) (hb0 : b < Cn) (hab : a ≠ b) (sd rf am : Int32) (h1 : ∃ i, 0 ≤ i ∧ i ≤ 1 ∧ sd = nI i) (h2 : ∃ i, 0 ≤ i ∧ i ≤ 999 ∧ rf = nI i) (h3 : ∃ i, 1 ≤ i ∧ i ≤ 1000000 ∧ am = nI i) (hN : S.1 74 0 = nI 100) : CtX sa l yX10_book wsX10_book ({ frames := 7, cells := 1, slots := 6, locals := 122 }) D cA α n sz [.ref (α 0), .int (nI a), .int (nI b), .int sd, .int rf, .int am] S eIS := by
  refine ctx_enter cX10_book 7 (some .int) (by decide) rfl (Nat.le_of_ble_eq_true rfl) ?_
  intro p e s m below meth c hx hb hr hml hlocks hown hts hK hsz hw hZ hSx hout ls hl
  have hown : s.vm.findClass RX10 = some m.cls := hown
  have hAw : ∀ z, Aw α n s.heap.size z → Aw α n sz z := by rw [hsz]; exact fun _ h => h
  have hl : lv_has ls 7 [(0, .ref (α 0)), (1, .int (nI a)), (2, .int (nI b)), (3, .int sd), (4, .int rf), (5, .int am)] := hl
  refine lv_aload_n hx hb dX10_book_0 rfl (lv_at hl 0 rfl) ?_
  refine lv_iload_n hx hb dX10_book_1 rfl (lv_at hl 1 rfl) ?_
  refine x_callVVr (q := 0) (C := RX10) (As := [.int (nI a)]) (rest := []) ⟨hx, hb, hml, hown, hts⟩ (ct_X10_requireCompany l D cA α n _ hn S Cn hC hC2 a ha) (cwV 1 hts gX10_book_X10_requireCompany rfl rfl rfl (by decide +kernel) ⟨Nat.le_of_ble_eq_true rfl, Nat.le_of_ble_eq_true rfl⟩) hK hw hAw (ws_recv hK hw (q := 0) (Nat.lt_of_lt_of_le (Nat.le_of_ble_eq_true rfl : 0 < 191) hn) (mk_0 cA α) rfl) rfl hl.1 rfl (Nat.le_of_ble_eq_true rfl) dX10_book_2 ⟨Nat.zero_le _, Nat.zero_le _⟩ (fun H locs hw => ?_)
  refine lv_aload_n hx hb dX10_book_5 rfl (lv_at hl 0 rfl) ?_
  refine lv_iload_n hx hb dX10_book_6 rfl (lv_at hl 2 rfl) ?_
  refine x_callVVr (q := 0) (C := RX10) (As := [.int (nI b)]) (rest := []) ⟨hx, hb, hml, hown, hts⟩ (ct_X10_requireCompany l D cA α n _ hn S Cn hC hC2 b hb0) (cwV 1 hts gX10_book_X10_requireCompany rfl rfl rfl (by decide +kernel) ⟨Nat.le_of_ble_eq_true rfl, Nat.le_of_ble_eq_true rfl⟩) hK hw hAw (ws_recv hK hw (q := 0) (Nat.lt_of_lt_of_le (Nat.le_of_ble_eq_true rfl : 0 < 191) hn) (mk_0 cA α) rfl) rfl hl.1 rfl (Nat.le_of_ble_eq_true rfl) dX10_book_7 ⟨Nat.zero_le _, Nat.zero_le _⟩ (fun H locs hw => ?_)
  refine lv_iload_n hx hb dX10_book_10 rfl (lv_at hl 2 rfl) ?_
  refine lv_iload_n hx hb dX10_book_11 rfl (lv_at hl 1 rfl) ?_
  refine xn_icmp_ne (tgt := 26) hx hb (by omega) (by omega) dX10_book_12 (by decide) (fun c1 => ?_) (fun c1 => ?_)
  · skip
    refine lv_iload_n hx hb dX10_book_26 rfl (lv_at hl 3 rfl) ?_
    refine lv_iconst (v := nI 0) hx hb dX10_book_27 (by decide) ?_
    refine lv_iconst (v := nI 1) hx hb dX10_book_28 (by decide) ?_
    refine x_callSVr (q := 0) (C := RX0) (As := [.int sd, .int (nI 0), .int (nI 1)]) (rest := []) ⟨hx, hb, hml, hown, hts⟩ (ct_X10_requireRange l D cA α n _ hn S sd 0 1 (by decide) (by decide) h1) (va_cwS 3 hts gX10_book_X10_requireRange rfl rfl rfl (by decide +kernel) ⟨Nat.le_of_ble_eq_true rfl, Nat.le_of_ble_eq_true rfl⟩) hK hw hAw rfl hl.1 rfl (Nat.le_of_ble_eq_true rfl) dX10_book_29 ⟨Nat.zero_le _, Nat.zero_le _⟩ (fun H locs hw => ?_)
    refine lv_iload hx hb dX10_book_32 (lv_at hl 4 rfl) ?_
    refine lv_iconst (v := nI 0) hx hb dX10_book_34 (by decide) ?_
    refine lv_sipush (v := nI 999) hx hb dX10_book_35 (by decide) ?_
    refine x_callSVr (q := 0) (C := RX0) (As := [.int rf, .int (nI 0), .int (nI 999)]) (rest := []) ⟨hx, hb, hml, hown, hts⟩ (ct_X10_requireRange l D cA α n _ hn S rf 0 999 (by decide) (by decide) h2) (va_cwS 3 hts gX10_book_X10_requireRange rfl rfl rfl (by decide +kernel) ⟨Nat.le_of_ble_eq_true rfl, Nat.le_of_ble_eq_true rfl⟩) hK hw hAw rfl hl.1 rfl (Nat.le_of_ble_eq_true rfl) dX10_book_38 ⟨Nat.zero_le _, Nat.zero_le _⟩ (fun H locs hw => ?_)
    refine lv_iload hx hb dX10_book_41 (lv_at hl 5 rfl) ?_
    refine lv_iconst (v := nI 1) hx hb dX10_book_43 (by decide) ?_
    refine lv_ldcw (v := 1000000) hx hb hown (hts _ (List.mem_of_getElem? (i := 5) rfl)) dX10_book_44 ?_
    refine x_topN (k := 1000000) (by decide) ?_
    refine x_callSVr (q := 0) (C := RX0) (As := [.int am, .int (nI 1), .int (nI 1000000)]) (rest := []) ⟨hx, hb, hml, hown, hts⟩ (ct_X10_requireRange l D cA α n _ hn S am 1 1000000 (by decide) (by decide) h3) (va_cwS 3 hts gX10_book_X10_requireRange rfl rfl rfl (by decide +kernel) ⟨Nat.le_of_ble_eq_true rfl, Nat.le_of_ble_eq_true rfl⟩) hK hw hAw rfl hl.1 rfl (Nat.le_of_ble_eq_true rfl) dX10_book_47 ⟨Nat.zero_le _, Nat.zero_le _⟩ (fun H locs hw => ?_)
    refine lv_aload_n hx hb dX10_book_50 rfl (lv_at hl 0 rfl) ?_
    refine x_get (v := .ref (α 3)) (C := RX10) (T := TX10) (N := 7) hx hb hts (fun _ h => List.mem_cons_of_mem _ (List.mem_append_left _ (List.mem_append_left _ (List.mem_append_left _ (List.mem_append_left _ (List.mem_append_left _ (List.mem_append_left _ (List.mem_append_left _ (List.mem_append_left _ (List.mem_append_right _ h)))))))))) hown hK hw 0 (Nat.lt_of_lt_of_le (Nat.le_of_ble_eq_true rfl : 0 < 191) hn) (mk_0 cA α) rfl 1 (by decide) (hts _ (List.mem_of_getElem? (i := 6) rfl)) (fun _ h9 => h9) rfl dX10_book_51 ?_
    refine x_get (v := .ref (α 74)) (C := RX0) (T := TX0) (N := 3) hx hb hts (fun _ h => List.mem_cons_of_mem _ (List.mem_append_left _ (List.mem_append_left _ (List.mem_append_left _ (List.mem_append_left _ (List.mem_append_left _ (List.mem_append_left _ (List.mem_append_left _ (List.mem_append_right _ h))))))))) hown hK hw 3 (Nat.lt_of_lt_of_le (Nat.le_of_ble_eq_true rfl : 3 < 191) hn) (mk_3 cA α) rfl 2 (by decide) (hts _ (List.mem_of_getElem? (i := 7) rfl)) (fun _ h9 => h9) rfl dX10_book_54 ?_
    refine x_get (v := .int (S.1 74 0)) (C := RX9) (T := TX9) (N := 14) hx hb hts (fun _ h => List.mem_cons_of_mem _ (List.mem_append_left _ (List.mem_append_left _ (List.mem_append_left _ (List.mem_append_left _ (List.mem_append_left _ (List.mem_append_left _ (List.mem_append_right _ h)))))))) hown hK hw 74 (Nat.lt_of_lt_of_le (Nat.le_of_ble_eq_true rfl : 74 < 191) hn) (mk_74 cA α) rfl 0 (by decide) (hts _ (List.mem_of_getElem? (i := 8) rfl)) (fun _ h9 => h9) rfl dX10_book_57 ?_
    refine x_topN (k := 100) hN ?_
    refine lv_bipush (v := nI 100) hx hb dX10_book_60 (by decide) ?_
    refine xn_icmp_lt (tgt := 76) hx hb (by decide) (by decide) dX10_book_62 (by decide) (fun c2 => ?_) (fun c2 => ?_)
    · exact absurd c2 (by decide)
    · skip
      exact x_throwSW (names := eUp) (rest := []) hx hb hst hown fit_IS fit_Up (hts _ (List.mem_of_getElem? (i := 3) rfl)) (hts _ (List.mem_of_getElem? (i := 4) rfl)) (hSx.1 _ (List.mem_of_getElem? (i := 6) rfl)) (at_IS hSx (fun w h => hts w ((fun _ h => List.mem_cons_of_mem _ (List.mem_append_left _ (List.mem_append_right _ h))) w h))) ga_IS hZ hK hw (hl.1.trans hml.symm) dX10_book_65 dX10_book_68 dX10_book_69 dX10_book_72 dX10_book_75 hout (Nat.le_of_ble_eq_true rfl) (Nat.le_of_ble_eq_true rfl) (Nat.le_of_ble_eq_true rfl) (Nat.le_of_ble_eq_true rfl) hlocks rfl
  · exact absurd c1.symm hab

def cIts (S : Mem) (b : Nat) (q p : Int32) : Int64 := q.toInt64 * (p - S.1 27 b).toInt64
def cSel (T : Mem) (v : Int64) : Mem := setJ T 74 5 (T.2 74 5 + v)

set_option maxRecDepth 100000 in
set_option maxHeartbeats 1000000 in
theorem ct_X10_sell (l : Launch) (D : va_G) (cA : Nat → ClassId) (α : Nat → Nat) (n sz : Nat) (hn : 191 ≤ n) (S : Mem) (Cn : Nat) (hC : S.1 23 1 = nI Cn) (hC2 : Cn ≤ 6) (Pn : Nat) (hP9 : S.1 23 2 = nI Pn) (hP2 : Pn ≤ 6) (a b : Nat) (ha : a < Cn) (hb0 : b < Pn) (q9 p9 : Int32) (h1 : ∃ i, 1 ≤ i ∧ i ≤ 9999 ∧ q9 = nI i) (h2 : ∃ i, 1 ≤ i ∧ i ≤ 99999 ∧ p9 = nI i) (N : Nat) (hN : S.1 74 0 = nI N) (hN2 : N ≤ 100) (M : Nat) (hM : S.1 74 1 = nI M) (hM2 : M ≤ 100) (hct : cCan S (nI a) b q9 M = true) (t k : Nat) (ht : S.1 11 1 = nI t) (ht2 : t < 10) (hk : S.1 11 0 = nI k) (hk2 : k ≤ 10) : CtL l yX10_sell wsX10_sell ({ frames := 7, cells := 0, slots := 0, locals := 123 }) D cA α n sz [.ref (α 0), .int (nI a), .int (nI b), .int q9, .int p9] S (cIts S b q9 p9) (cSel ((cTk (cRem S t k N M) (nI a) (nI b) q9 M).1) (cIts S b q9 p9)) := by
  refine ct_enter cX10_sell 7 (some .long) (by decide) rfl (Nat.le_of_ble_eq_true rfl) ?_
  intro p e s m below meth c hx hb hr hml hlocks hown hts hK hsz hw ls hl
  have hown : s.vm.findClass RX10 = some m.cls := hown
  have hAw : ∀ z, Aw α n s.heap.size z → Aw α n sz z := by rw [hsz]; exact fun _ h => h
  have hl : lv_has ls 7 [(0, .ref (α 0)), (1, .int (nI a)), (2, .int (nI b)), (3, .int q9), (4, .int p9)] := hl
  refine lv_aload_n hx hb dX10_sell_0 rfl (lv_at hl 0 rfl) ?_
  refine lv_iload_n hx hb dX10_sell_1 rfl (lv_at hl 1 rfl) ?_
  refine x_callVVr (q := 0) (C := RX10) (As := [.int (nI a)]) (rest := []) ⟨hx, hb, hml, hown, hts⟩ (ct_X10_requireCompany l D cA α n _ hn S Cn hC hC2 a ha) (cwV 1 hts gX10_sell_X10_requireCompany rfl rfl rfl (by decide +kernel) ⟨Nat.le_of_ble_eq_true rfl, Nat.le_of_ble_eq_true rfl⟩) hK hw hAw (ws_recv hK hw (q := 0) (Nat.lt_of_lt_of_le (Nat.le_of_ble_eq_true rfl : 0 < 191) hn) (mk_0 cA α) rfl) rfl hl.1 rfl (Nat.le_of_ble_eq_true rfl) dX10_sell_2 ⟨Nat.zero_le _, Nat.zero_le _⟩ (fun H locs hw => ?_)
  refine lv_aload_n hx hb dX10_sell_5 rfl (lv_at hl 0 rfl) ?_
  refine lv_iload_n hx hb dX10_sell_6 rfl (lv_at hl 2 rfl) ?_
  refine x_callVVr (q := 0) (C := RX10) (As := [.int (nI b)]) (rest := []) ⟨hx, hb, hml, hown, hts⟩ (ct_X10_requireProduct l D cA α n _ hn S Pn hP9 hP2 b hb0) (cwV 1 hts gX10_sell_X10_requireProduct rfl rfl rfl (by decide +kernel) ⟨Nat.le_of_ble_eq_true rfl, Nat.le_of_ble_eq_true rfl⟩) hK hw hAw (ws_recv hK hw (q := 0) (Nat.lt_of_lt_of_le (Nat.le_of_ble_eq_true rfl : 0 < 191) hn) (mk_0 cA α) rfl) rfl hl.1 rfl (Nat.le_of_ble_eq_true rfl) dX10_sell_7 ⟨Nat.zero_le _, Nat.zero_le _⟩ (fun H locs hw => ?_)
  refine lv_iload_n hx hb dX10_sell_10 rfl (lv_at hl 3 rfl) ?_
  refine lv_iconst (v := nI 1) hx hb dX10_sell_11 (by decide) ?_
  refine lv_sipush (v := nI 9999) hx hb dX10_sell_12 (by decide) ?_
  refine x_callSVr (q := 0) (C := RX0) (As := [.int q9, .int (nI 1), .int (nI 9999)]) (rest := []) ⟨hx, hb, hml, hown, hts⟩ (ct_X10_requireRange l D cA α n _ hn S q9 1 9999 (by decide) (by decide) h1) (va_cwS 3 hts gX10_sell_X10_requireRange rfl rfl rfl (by decide +kernel) ⟨Nat.le_of_ble_eq_true rfl, Nat.le_of_ble_eq_true rfl⟩) hK hw hAw rfl hl.1 rfl (Nat.le_of_ble_eq_true rfl) dX10_sell_15 ⟨Nat.zero_le _, Nat.zero_le _⟩ (fun H locs hw => ?_)
  refine lv_iload hx hb dX10_sell_18 (lv_at hl 4 rfl) ?_
  refine lv_iconst (v := nI 1) hx hb dX10_sell_20 (by decide) ?_
  refine lv_ldcw (v := 99999) hx hb hown (hts _ (List.mem_of_getElem? (i := 1) rfl)) dX10_sell_21 ?_
  refine x_topN (k := 99999) (by decide) ?_
  refine x_callSVr (q := 0) (C := RX0) (As := [.int p9, .int (nI 1), .int (nI 99999)]) (rest := []) ⟨hx, hb, hml, hown, hts⟩ (ct_X10_requireRange l D cA α n _ hn S p9 1 99999 (by decide) (by decide) h2) (va_cwS 3 hts gX10_sell_X10_requireRange rfl rfl rfl (by decide +kernel) ⟨Nat.le_of_ble_eq_true rfl, Nat.le_of_ble_eq_true rfl⟩) hK hw hAw rfl hl.1 rfl (Nat.le_of_ble_eq_true rfl) dX10_sell_24 ⟨Nat.zero_le _, Nat.zero_le _⟩ (fun H locs hw => ?_)
  refine lv_aload_n hx hb dX10_sell_27 rfl (lv_at hl 0 rfl) ?_
  refine lv_iload_n hx hb dX10_sell_28 rfl (lv_at hl 1 rfl) ?_
  refine lv_iload_n hx hb dX10_sell_29 rfl (lv_at hl 2 rfl) ?_
  refine lv_iload_n hx hb dX10_sell_30 rfl (lv_at hl 3 rfl) ?_
  refine x_callVVr (q := 0) (C := RX10) (As := [.int (nI a), .int (nI b), .int q9]) (rest := []) ⟨hx, hb, hml, hown, hts⟩ (ct_X10_requirePieces l D cA α n _ hn S (nI a) b q9 (by omega) M hM hM2 hct) (cwV 3 hts gX10_sell_X10_requirePieces rfl rfl rfl (by decide +kernel) ⟨Nat.le_of_ble_eq_true rfl, Nat.le_of_ble_eq_true rfl⟩) hK hw hAw (ws_recv hK hw (q := 0) (Nat.lt_of_lt_of_le (Nat.le_of_ble_eq_true rfl : 0 < 191) hn) (mk_0 cA α) rfl) rfl hl.1 rfl (Nat.le_of_ble_eq_true rfl) dX10_sell_31 ⟨Nat.zero_le _, Nat.zero_le _⟩ (fun H locs hw => ?_)
  refine lv_aload_n hx hb dX10_sell_34 rfl (lv_at hl 0 rfl) ?_
  refine x_get (v := .ref (α 11)) (C := RX10) (T := TX10) (N := 7) hx hb hts (fun _ h => List.mem_cons_of_mem _ (List.mem_append_left _ (List.mem_append_left _ (List.mem_append_left _ (List.mem_append_left _ (List.mem_append_left _ (List.mem_append_left _ (List.mem_append_left _ (List.mem_append_left _ (List.mem_append_right _ h)))))))))) hown hK hw 0 (Nat.lt_of_lt_of_le (Nat.le_of_ble_eq_true rfl : 0 < 191) hn) (mk_0 cA α) rfl 5 (by decide) (hts _ (List.mem_of_getElem? (i := 2) rfl)) (fun _ h9 => h9) rfl dX10_sell_35 ?_
  refine lv_aload_n hx hb dX10_sell_38 rfl (lv_at hl 0 rfl) ?_
  refine x_get (v := .ref (α 3)) (C := RX10) (T := TX10) (N := 7) hx hb hts (fun _ h => List.mem_cons_of_mem _ (List.mem_append_left _ (List.mem_append_left _ (List.mem_append_left _ (List.mem_append_left _ (List.mem_append_left _ (List.mem_append_left _ (List.mem_append_left _ (List.mem_append_left _ (List.mem_append_right _ h)))))))))) hown hK hw 0 (Nat.lt_of_lt_of_le (Nat.le_of_ble_eq_true rfl : 0 < 191) hn) (mk_0 cA α) rfl 1 (by decide) (hts _ (List.mem_of_getElem? (i := 3) rfl)) (fun _ h9 => h9) rfl dX10_sell_39 ?_
  refine x_get (v := .ref (α 74)) (C := RX0) (T := TX0) (N := 3) hx hb hts (fun _ h => List.mem_cons_of_mem _ (List.mem_append_left _ (List.mem_append_left _ (List.mem_append_left _ (List.mem_append_left _ (List.mem_append_left _ (List.mem_append_left _ (List.mem_append_left _ (List.mem_append_right _ h))))))))) hown hK hw 3 (Nat.lt_of_lt_of_le (Nat.le_of_ble_eq_true rfl : 3 < 191) hn) (mk_3 cA α) rfl 2 (by decide) (hts _ (List.mem_of_getElem? (i := 4) rfl)) (fun _ h9 => h9) rfl dX10_sell_42 ?_
  refine x_callVV (q := 11) (C := RX4) (As := [.ref (α 74)]) (rest := []) ⟨hx, hb, hml, hown, hts⟩ (ct_X4_remember l D cA α n _ hn S t k N M (by skip; exact ht) ht2 (by skip; exact hk) hk2 (by skip; exact hN) (by omega) (by skip; exact hM) (by omega)) (cwV 1 hts gX10_sell_X4_remember rfl rfl rfl (by decide +kernel) ⟨Nat.le_of_ble_eq_true rfl, Nat.le_of_ble_eq_true rfl⟩) hK hw hAw (ws_recv hK hw (q := 11) (Nat.lt_of_lt_of_le (Nat.le_of_ble_eq_true rfl : 11 < 191) hn) (mk_11 cA α) rfl) rfl hl.1 rfl (Nat.le_of_ble_eq_true rfl) dX10_sell_45 ⟨Nat.zero_le _, Nat.zero_le _⟩ (fun S1 eS1 H locs hw => ?_)
  refine lv_aload_n hx hb dX10_sell_48 rfl (lv_at hl 0 rfl) ?_
  refine x_get (v := .ref (α 10)) (C := RX10) (T := TX10) (N := 7) hx hb hts (fun _ h => List.mem_cons_of_mem _ (List.mem_append_left _ (List.mem_append_left _ (List.mem_append_left _ (List.mem_append_left _ (List.mem_append_left _ (List.mem_append_left _ (List.mem_append_left _ (List.mem_append_left _ (List.mem_append_right _ h)))))))))) hown hK hw 0 (Nat.lt_of_lt_of_le (Nat.le_of_ble_eq_true rfl : 0 < 191) hn) (mk_0 cA α) rfl 4 (by decide) (hts _ (List.mem_of_getElem? (i := 5) rfl)) (fun _ h9 => h9) rfl dX10_sell_49 ?_
  refine lv_aload_n hx hb dX10_sell_52 rfl (lv_at hl 0 rfl) ?_
  refine x_get (v := .ref (α 3)) (C := RX10) (T := TX10) (N := 7) hx hb hts (fun _ h => List.mem_cons_of_mem _ (List.mem_append_left _ (List.mem_append_left _ (List.mem_append_left _ (List.mem_append_left _ (List.mem_append_left _ (List.mem_append_left _ (List.mem_append_left _ (List.mem_append_left _ (List.mem_append_right _ h)))))))))) hown hK hw 0 (Nat.lt_of_lt_of_le (Nat.le_of_ble_eq_true rfl : 0 < 191) hn) (mk_0 cA α) rfl 1 (by decide) (hts _ (List.mem_of_getElem? (i := 3) rfl)) (fun _ h9 => h9) rfl dX10_sell_53 ?_
  refine lv_iload_n hx hb dX10_sell_56 rfl (lv_at hl 1 rfl) ?_
  refine lv_iload_n hx hb dX10_sell_57 rfl (lv_at hl 2 rfl) ?_
  refine lv_iload_n hx hb dX10_sell_58 rfl (lv_at hl 3 rfl) ?_
  refine x_callVV (q := 10) (C := RX1) (As := [.ref (α 3), .int (nI a), .int (nI b), .int q9]) (rest := []) ⟨hx, hb, hml, hown, hts⟩ (ct_X1_take l D cA α n _ hn S1 (nI a) (nI b) q9 M (by subst eS1; exact (congrFun (cRem_1 (by decide) (by decide)) 1).trans hM) (by omega)) (cwV 4 hts gX10_sell_X1_take rfl rfl rfl (by decide +kernel) ⟨Nat.le_of_ble_eq_true rfl, Nat.le_of_ble_eq_true rfl⟩) hK hw hAw (ws_recv hK hw (q := 10) (Nat.lt_of_lt_of_le (Nat.le_of_ble_eq_true rfl : 10 < 191) hn) (mk_10 cA α) rfl) rfl hl.1 rfl (Nat.le_of_ble_eq_true rfl) dX10_sell_59 ⟨Nat.zero_le _, Nat.zero_le _⟩ (fun S2 eS2 H locs hw => ?_)
  refine lv_iload_n hx hb dX10_sell_62 rfl (lv_at hl 3 rfl) ?_
  refine lv_i2l hx hb dX10_sell_63 rfl ?_
  refine lv_iload hx hb dX10_sell_64 (lv_at hl 4 rfl) ?_
  refine lv_aload_n hx hb dX10_sell_66 rfl (lv_at hl 0 rfl) ?_
  refine x_get (v := .ref (α 3)) (C := RX10) (T := TX10) (N := 7) hx hb hts (fun _ h => List.mem_cons_of_mem _ (List.mem_append_left _ (List.mem_append_left _ (List.mem_append_left _ (List.mem_append_left _ (List.mem_append_left _ (List.mem_append_left _ (List.mem_append_left _ (List.mem_append_left _ (List.mem_append_right _ h)))))))))) hown hK hw 0 (Nat.lt_of_lt_of_le (Nat.le_of_ble_eq_true rfl : 0 < 191) hn) (mk_0 cA α) rfl 1 (by decide) (hts _ (List.mem_of_getElem? (i := 3) rfl)) (fun _ h9 => h9) rfl dX10_sell_67 ?_
  refine x_get (v := .ref (α 23)) (C := RX0) (T := TX0) (N := 3) hx hb hts (fun _ h => List.mem_cons_of_mem _ (List.mem_append_left _ (List.mem_append_left _ (List.mem_append_left _ (List.mem_append_left _ (List.mem_append_left _ (List.mem_append_left _ (List.mem_append_left _ (List.mem_append_right _ h))))))))) hown hK hw 3 (Nat.lt_of_lt_of_le (Nat.le_of_ble_eq_true rfl : 3 < 191) hn) (mk_3 cA α) rfl 0 (by decide) (hts _ (List.mem_of_getElem? (i := 6) rfl)) (fun _ h9 => h9) rfl dX10_sell_70 ?_
  refine x_get (v := .ref (α 27)) (C := RX2) (T := TX2) (N := 12) hx hb hts (fun _ h => List.mem_cons_of_mem _ (List.mem_append_left _ (List.mem_append_left _ (List.mem_append_left _ (List.mem_append_left _ (List.mem_append_left _ (List.mem_append_left _ (List.mem_append_right _ h)))))))) hown hK hw 23 (Nat.lt_of_lt_of_le (Nat.le_of_ble_eq_true rfl : 23 < 191) hn) (mk_23 cA α) rfl 9 (by decide) (hts _ (List.mem_of_getElem? (i := 7) rfl)) (fun _ h9 => h9) rfl dX10_sell_73 ?_
  refine lv_iload_n hx hb dX10_sell_76 rfl (lv_at hl 2 rfl) ?_
  refine x_iald hx hb hK hw 27 6 (Nat.lt_of_lt_of_le (Nat.le_of_ble_eq_true rfl : 27 < 191) hn) (mk_27 cA α) b rfl (by omega) (by decide) dX10_sell_77 ?_
  refine x_topE (y := S.1 27 b) (by subst eS2; subst eS1; rw [cTk_k _ _ _ _ (by decide), cRem_1 (by decide) (by decide)]) ?_
  refine lv_isub hx hb dX10_sell_78 ?_
  refine lv_i2l hx hb dX10_sell_79 rfl ?_
  refine lv_lmul hx hb dX10_sell_80 ?_
  refine lv_lstore (lv' := [(5, .long (q9.toInt64 * ((p9 - (S.1 27 b)).toInt64))), (0, .ref (α 0)), (1, .int (nI a)), (2, .int (nI b)), (3, .int q9), (4, .int p9)]) hx hb dX10_sell_81 hl (by decide) rfl (fun ls hl => ?_)
  refine lv_aload_n hx hb dX10_sell_83 rfl (lv_at hl 1 rfl) ?_
  refine x_get (v := .ref (α 3)) (C := RX10) (T := TX10) (N := 7) hx hb hts (fun _ h => List.mem_cons_of_mem _ (List.mem_append_left _ (List.mem_append_left _ (List.mem_append_left _ (List.mem_append_left _ (List.mem_append_left _ (List.mem_append_left _ (List.mem_append_left _ (List.mem_append_left _ (List.mem_append_right _ h)))))))))) hown hK hw 0 (Nat.lt_of_lt_of_le (Nat.le_of_ble_eq_true rfl : 0 < 191) hn) (mk_0 cA α) rfl 1 (by decide) (hts _ (List.mem_of_getElem? (i := 3) rfl)) (fun _ h9 => h9) rfl dX10_sell_84 ?_
  refine x_get (v := .ref (α 74)) (C := RX0) (T := TX0) (N := 3) hx hb hts (fun _ h => List.mem_cons_of_mem _ (List.mem_append_left _ (List.mem_append_left _ (List.mem_append_left _ (List.mem_append_left _ (List.mem_append_left _ (List.mem_append_left _ (List.mem_append_left _ (List.mem_append_right _ h))))))))) hown hK hw 3 (Nat.lt_of_lt_of_le (Nat.le_of_ble_eq_true rfl : 3 < 191) hn) (mk_3 cA α) rfl 2 (by decide) (hts _ (List.mem_of_getElem? (i := 4) rfl)) (fun _ h9 => h9) rfl dX10_sell_87 ?_
  refine lv_dup hx hb dX10_sell_90 rfl ?_
  refine x_get (v := .long (S2.2 74 5)) (C := RX9) (T := TX9) (N := 14) hx hb hts (fun _ h => List.mem_cons_of_mem _ (List.mem_append_left _ (List.mem_append_left _ (List.mem_append_left _ (List.mem_append_left _ (List.mem_append_left _ (List.mem_append_right _ h))))))) hown hK hw 74 (Nat.lt_of_lt_of_le (Nat.le_of_ble_eq_true rfl : 74 < 191) hn) (mk_74 cA α) rfl 5 (by decide) (hts _ (List.mem_of_getElem? (i := 8) rfl)) (fun _ h9 => h9) rfl dX10_sell_91 ?_
  refine lv_lload hx hb dX10_sell_94 (lv_at hl 0 rfl) ?_
  refine lv_ladd hx hb dX10_sell_96 ?_
  refine x_putL (x := (S2.2 74 5) + (q9.toInt64 * ((p9 - (S.1 27 b)).toInt64))) (ty := .long) (C := RX9) (T := TX9) (N := 14) hx hb hts (fun _ h => List.mem_cons_of_mem _ (List.mem_append_left _ (List.mem_append_left _ (List.mem_append_left _ (List.mem_append_left _ (List.mem_append_left _ (List.mem_append_right _ h))))))) tyX9 tyX9_ok nmX9 hown hK hw 74 (Nat.lt_of_lt_of_le (Nat.le_of_ble_eq_true rfl : 74 < 191) hn) (mk_74 cA α) rfl 5 (by decide) (hts _ (List.mem_of_getElem? (i := 8) rfl)) (fun _ h9 => h9) rfl rfl rfl rfl (Nat.le_of_ble_eq_true rfl) rfl dX10_sell_97 (fun S3 eS3 H locs hw => ?_)
  refine lv_lload hx hb dX10_sell_100 (lv_at hl 0 rfl) ?_
  exact ret_l hx hb hr hlocks hK hw dX10_sell_102 rfl (by subst eS3; subst eS2; subst eS1; rfl)

set_option maxRecDepth 100000 in
set_option maxHeartbeats 1000000 in
theorem ct_X10_sellX (l : Launch) (hst : l.stackTraces = false) (sa : Nat → Nat) (D : va_G) (cA : Nat → ClassId) (α : Nat → Nat) (n sz : Nat) (hn : 191 ≤ n) (S : Mem) (Cn : Nat) (hC : S.1 23 1 = nI Cn) (hC2 : Cn ≤ 6) (x y : Int32) (hx9 : ¬ ∃ i, i < Cn ∧ x = nI i) (q9 p9 : Int32) : CtX sa l yX10_sell wsX10_sell ({ frames := 7, cells := 1, slots := 6, locals := 123 }) D cA α n sz [.ref (α 0), .int x, .int y, .int q9, .int p9] S eIO := by
  refine ctx_enter cX10_sell 7 (some .long) (by decide) rfl (Nat.le_of_ble_eq_true rfl) ?_
  intro p e s m below meth c hx hb hr hml hlocks hown hts hK hsz hw hZ hSx hout ls hl
  have hown : s.vm.findClass RX10 = some m.cls := hown
  have hAw : ∀ z, Aw α n s.heap.size z → Aw α n sz z := by rw [hsz]; exact fun _ h => h
  have hl : lv_has ls 7 [(0, .ref (α 0)), (1, .int x), (2, .int y), (3, .int q9), (4, .int p9)] := hl
  refine lv_aload_n hx hb dX10_sell_0 rfl (lv_at hl 0 rfl) ?_
  refine lv_iload_n hx hb dX10_sell_1 rfl (lv_at hl 1 rfl) ?_
  exact x_callXV (q := 0) (C := RX10) (As := [.int x]) (rest := []) ⟨hx, hb, hml, hown, hts⟩ (ct_X10_requireCompanyX l hst sa D cA α n _ hn S Cn hC hC2 x hx9) (cwV 1 hts gX10_sell_X10_requireCompany rfl rfl rfl (by decide +kernel) ⟨Nat.le_of_ble_eq_true rfl, Nat.le_of_ble_eq_true rfl⟩) hK hw hsz hZ hSx (ws_recv hK hw (q := 0) (Nat.lt_of_lt_of_le (Nat.le_of_ble_eq_true rfl : 0 < 191) hn) (mk_0 cA α) rfl) rfl hl.1 rfl (Nat.le_of_ble_eq_true rfl) dX10_sell_2 ⟨Nat.le_of_ble_eq_true rfl, Nat.le_of_ble_eq_true rfl⟩ hout hlocks rfl

set_option maxRecDepth 100000 in
set_option maxHeartbeats 1000000 in
theorem ct_X10_sellX2 (l : Launch) (hst : l.stackTraces = false) (sa : Nat → Nat) (D : va_G) (cA : Nat → ClassId) (α : Nat → Nat) (n sz : Nat) (hn : 191 ≤ n) (S : Mem) (Cn : Nat) (hC : S.1 23 1 = nI Cn) (hC2 : Cn ≤ 6) (Pn : Nat) (hP9 : S.1 23 2 = nI Pn) (hP2 : Pn ≤ 6) (a : Nat) (ha : a < Cn) (y : Int32) (hx9 : ¬ ∃ i, i < Pn ∧ y = nI i) (q9 p9 : Int32) : CtX sa l yX10_sell wsX10_sell ({ frames := 7, cells := 1, slots := 6, locals := 123 }) D cA α n sz [.ref (α 0), .int (nI a), .int y, .int q9, .int p9] S eIO := by
  refine ctx_enter cX10_sell 7 (some .long) (by decide) rfl (Nat.le_of_ble_eq_true rfl) ?_
  intro p e s m below meth c hx hb hr hml hlocks hown hts hK hsz hw hZ hSx hout ls hl
  have hown : s.vm.findClass RX10 = some m.cls := hown
  have hAw : ∀ z, Aw α n s.heap.size z → Aw α n sz z := by rw [hsz]; exact fun _ h => h
  have hl : lv_has ls 7 [(0, .ref (α 0)), (1, .int (nI a)), (2, .int y), (3, .int q9), (4, .int p9)] := hl
  refine lv_aload_n hx hb dX10_sell_0 rfl (lv_at hl 0 rfl) ?_
  refine lv_iload_n hx hb dX10_sell_1 rfl (lv_at hl 1 rfl) ?_
  refine x_callVVr (q := 0) (C := RX10) (As := [.int (nI a)]) (rest := []) ⟨hx, hb, hml, hown, hts⟩ (ct_X10_requireCompany l D cA α n _ hn S Cn hC hC2 a ha) (cwV 1 hts gX10_sell_X10_requireCompany rfl rfl rfl (by decide +kernel) ⟨Nat.le_of_ble_eq_true rfl, Nat.le_of_ble_eq_true rfl⟩) hK hw hAw (ws_recv hK hw (q := 0) (Nat.lt_of_lt_of_le (Nat.le_of_ble_eq_true rfl : 0 < 191) hn) (mk_0 cA α) rfl) rfl hl.1 rfl (Nat.le_of_ble_eq_true rfl) dX10_sell_2 ⟨Nat.zero_le _, Nat.zero_le _⟩ (fun H locs hw => ?_)
  refine lv_aload_n hx hb dX10_sell_5 rfl (lv_at hl 0 rfl) ?_
  refine lv_iload_n hx hb dX10_sell_6 rfl (lv_at hl 2 rfl) ?_
  exact x_callXV (q := 0) (C := RX10) (As := [.int y]) (rest := []) ⟨hx, hb, hml, hown, hts⟩ (ct_X10_requireProductX l hst sa D cA α n _ hn S Pn hP9 hP2 y hx9) (cwV 1 hts gX10_sell_X10_requireProduct rfl rfl rfl (by decide +kernel) ⟨Nat.le_of_ble_eq_true rfl, Nat.le_of_ble_eq_true rfl⟩) hK hw hsz hZ hSx (ws_recv hK hw (q := 0) (Nat.lt_of_lt_of_le (Nat.le_of_ble_eq_true rfl : 0 < 191) hn) (mk_0 cA α) rfl) rfl hl.1 rfl (Nat.le_of_ble_eq_true rfl) dX10_sell_7 ⟨Nat.le_of_ble_eq_true rfl, Nat.le_of_ble_eq_true rfl⟩ hout hlocks rfl

set_option maxRecDepth 100000 in
set_option maxHeartbeats 1000000 in
theorem ct_X10_sellY1 (l : Launch) (hst : l.stackTraces = false) (sa : Nat → Nat) (D : va_G) (cA : Nat → ClassId) (α : Nat → Nat) (n sz : Nat) (hn : 191 ≤ n) (S : Mem) (Cn : Nat) (hC : S.1 23 1 = nI Cn) (hC2 : Cn ≤ 6) (Pn : Nat) (hP9 : S.1 23 2 = nI Pn) (hP2 : Pn ≤ 6) (a b : Nat) (ha : a < Cn) (hb0 : b < Pn) (q9 p9 : Int32) (hx9 : ¬ ∃ i, 1 ≤ i ∧ i ≤ 9999 ∧ q9 = nI i) : CtX sa l yX10_sell wsX10_sell ({ frames := 7, cells := 1, slots := 6, locals := 123 }) D cA α n sz [.ref (α 0), .int (nI a), .int (nI b), .int q9, .int p9] S eIA := by
  refine ctx_enter cX10_sell 7 (some .long) (by decide) rfl (Nat.le_of_ble_eq_true rfl) ?_
  intro p e s m below meth c hx hb hr hml hlocks hown hts hK hsz hw hZ hSx hout ls hl
  have hown : s.vm.findClass RX10 = some m.cls := hown
  have hAw : ∀ z, Aw α n s.heap.size z → Aw α n sz z := by rw [hsz]; exact fun _ h => h
  have hl : lv_has ls 7 [(0, .ref (α 0)), (1, .int (nI a)), (2, .int (nI b)), (3, .int q9), (4, .int p9)] := hl
  refine lv_aload_n hx hb dX10_sell_0 rfl (lv_at hl 0 rfl) ?_
  refine lv_iload_n hx hb dX10_sell_1 rfl (lv_at hl 1 rfl) ?_
  refine x_callVVr (q := 0) (C := RX10) (As := [.int (nI a)]) (rest := []) ⟨hx, hb, hml, hown, hts⟩ (ct_X10_requireCompany l D cA α n _ hn S Cn hC hC2 a ha) (cwV 1 hts gX10_sell_X10_requireCompany rfl rfl rfl (by decide +kernel) ⟨Nat.le_of_ble_eq_true rfl, Nat.le_of_ble_eq_true rfl⟩) hK hw hAw (ws_recv hK hw (q := 0) (Nat.lt_of_lt_of_le (Nat.le_of_ble_eq_true rfl : 0 < 191) hn) (mk_0 cA α) rfl) rfl hl.1 rfl (Nat.le_of_ble_eq_true rfl) dX10_sell_2 ⟨Nat.zero_le _, Nat.zero_le _⟩ (fun H locs hw => ?_)
  refine lv_aload_n hx hb dX10_sell_5 rfl (lv_at hl 0 rfl) ?_
  refine lv_iload_n hx hb dX10_sell_6 rfl (lv_at hl 2 rfl) ?_
  refine x_callVVr (q := 0) (C := RX10) (As := [.int (nI b)]) (rest := []) ⟨hx, hb, hml, hown, hts⟩ (ct_X10_requireProduct l D cA α n _ hn S Pn hP9 hP2 b hb0) (cwV 1 hts gX10_sell_X10_requireProduct rfl rfl rfl (by decide +kernel) ⟨Nat.le_of_ble_eq_true rfl, Nat.le_of_ble_eq_true rfl⟩) hK hw hAw (ws_recv hK hw (q := 0) (Nat.lt_of_lt_of_le (Nat.le_of_ble_eq_true rfl : 0 < 191) hn) (mk_0 cA α) rfl) rfl hl.1 rfl (Nat.le_of_ble_eq_true rfl) dX10_sell_7 ⟨Nat.zero_le _, Nat.zero_le _⟩ (fun H locs hw => ?_)
  refine lv_iload_n hx hb dX10_sell_10 rfl (lv_at hl 3 rfl) ?_
  refine lv_iconst (v := nI 1) hx hb dX10_sell_11 (by decide) ?_
  refine lv_sipush (v := nI 9999) hx hb dX10_sell_12 (by decide) ?_
  exact x_callXS (As := [.int q9, .int (nI 1), .int (nI 9999)]) (rest := []) ⟨hx, hb, hml, hown, hts⟩ (ct_X10_requireRangeX l hst sa D cA α n _ hn S q9 1 9999 (by decide) (by decide) hx9) (va_cwS 3 hts gX10_sell_X10_requireRange rfl rfl rfl (by decide +kernel) ⟨Nat.le_of_ble_eq_true rfl, Nat.le_of_ble_eq_true rfl⟩) hK hw hsz hZ hSx rfl hl.1 rfl (Nat.le_of_ble_eq_true rfl) dX10_sell_15 ⟨Nat.le_of_ble_eq_true rfl, Nat.le_of_ble_eq_true rfl⟩ hout hlocks rfl

set_option maxRecDepth 100000 in
set_option maxHeartbeats 1000000 in
theorem ct_X10_sellY2 (l : Launch) (hst : l.stackTraces = false) (sa : Nat → Nat) (D : va_G) (cA : Nat → ClassId) (α : Nat → Nat) (n sz : Nat) (hn : 191 ≤ n) (S : Mem) (Cn : Nat) (hC : S.1 23 1 = nI Cn) (hC2 : Cn ≤ 6) (Pn : Nat) (hP9 : S.1 23 2 = nI Pn) (hP2 : Pn ≤ 6) (a b : Nat) (ha : a < Cn) (hb0 : b < Pn) (q9 p9 : Int32) (h1 : ∃ i, 1 ≤ i ∧ i ≤ 9999 ∧ q9 = nI i) (hx9 : ¬ ∃ i, 1 ≤ i ∧ i ≤ 99999 ∧ p9 = nI i) : CtX sa l yX10_sell wsX10_sell ({ frames := 7, cells := 1, slots := 6, locals := 123 }) D cA α n sz [.ref (α 0), .int (nI a), .int (nI b), .int q9, .int p9] S eIA := by
  refine ctx_enter cX10_sell 7 (some .long) (by decide) rfl (Nat.le_of_ble_eq_true rfl) ?_
  intro p e s m below meth c hx hb hr hml hlocks hown hts hK hsz hw hZ hSx hout ls hl
  have hown : s.vm.findClass RX10 = some m.cls := hown
  have hAw : ∀ z, Aw α n s.heap.size z → Aw α n sz z := by rw [hsz]; exact fun _ h => h
  have hl : lv_has ls 7 [(0, .ref (α 0)), (1, .int (nI a)), (2, .int (nI b)), (3, .int q9), (4, .int p9)] := hl
  refine lv_aload_n hx hb dX10_sell_0 rfl (lv_at hl 0 rfl) ?_
  refine lv_iload_n hx hb dX10_sell_1 rfl (lv_at hl 1 rfl) ?_
  refine x_callVVr (q := 0) (C := RX10) (As := [.int (nI a)]) (rest := []) ⟨hx, hb, hml, hown, hts⟩ (ct_X10_requireCompany l D cA α n _ hn S Cn hC hC2 a ha) (cwV 1 hts gX10_sell_X10_requireCompany rfl rfl rfl (by decide +kernel) ⟨Nat.le_of_ble_eq_true rfl, Nat.le_of_ble_eq_true rfl⟩) hK hw hAw (ws_recv hK hw (q := 0) (Nat.lt_of_lt_of_le (Nat.le_of_ble_eq_true rfl : 0 < 191) hn) (mk_0 cA α) rfl) rfl hl.1 rfl (Nat.le_of_ble_eq_true rfl) dX10_sell_2 ⟨Nat.zero_le _, Nat.zero_le _⟩ (fun H locs hw => ?_)
  refine lv_aload_n hx hb dX10_sell_5 rfl (lv_at hl 0 rfl) ?_
  refine lv_iload_n hx hb dX10_sell_6 rfl (lv_at hl 2 rfl) ?_
  refine x_callVVr (q := 0) (C := RX10) (As := [.int (nI b)]) (rest := []) ⟨hx, hb, hml, hown, hts⟩ (ct_X10_requireProduct l D cA α n _ hn S Pn hP9 hP2 b hb0) (cwV 1 hts gX10_sell_X10_requireProduct rfl rfl rfl (by decide +kernel) ⟨Nat.le_of_ble_eq_true rfl, Nat.le_of_ble_eq_true rfl⟩) hK hw hAw (ws_recv hK hw (q := 0) (Nat.lt_of_lt_of_le (Nat.le_of_ble_eq_true rfl : 0 < 191) hn) (mk_0 cA α) rfl) rfl hl.1 rfl (Nat.le_of_ble_eq_true rfl) dX10_sell_7 ⟨Nat.zero_le _, Nat.zero_le _⟩ (fun H locs hw => ?_)
  refine lv_iload_n hx hb dX10_sell_10 rfl (lv_at hl 3 rfl) ?_
  refine lv_iconst (v := nI 1) hx hb dX10_sell_11 (by decide) ?_
  refine lv_sipush (v := nI 9999) hx hb dX10_sell_12 (by decide) ?_
  refine x_callSVr (q := 0) (C := RX0) (As := [.int q9, .int (nI 1), .int (nI 9999)]) (rest := []) ⟨hx, hb, hml, hown, hts⟩ (ct_X10_requireRange l D cA α n _ hn S q9 1 9999 (by decide) (by decide) h1) (va_cwS 3 hts gX10_sell_X10_requireRange rfl rfl rfl (by decide +kernel) ⟨Nat.le_of_ble_eq_true rfl, Nat.le_of_ble_eq_true rfl⟩) hK hw hAw rfl hl.1 rfl (Nat.le_of_ble_eq_true rfl) dX10_sell_15 ⟨Nat.zero_le _, Nat.zero_le _⟩ (fun H locs hw => ?_)
  refine lv_iload hx hb dX10_sell_18 (lv_at hl 4 rfl) ?_
  refine lv_iconst (v := nI 1) hx hb dX10_sell_20 (by decide) ?_
  refine lv_ldcw (v := 99999) hx hb hown (hts _ (List.mem_of_getElem? (i := 1) rfl)) dX10_sell_21 ?_
  refine x_topN (k := 99999) (by decide) ?_
  exact x_callXS (As := [.int p9, .int (nI 1), .int (nI 99999)]) (rest := []) ⟨hx, hb, hml, hown, hts⟩ (ct_X10_requireRangeX l hst sa D cA α n _ hn S p9 1 99999 (by decide) (by decide) hx9) (va_cwS 3 hts gX10_sell_X10_requireRange rfl rfl rfl (by decide +kernel) ⟨Nat.le_of_ble_eq_true rfl, Nat.le_of_ble_eq_true rfl⟩) hK hw hsz hZ hSx rfl hl.1 rfl (Nat.le_of_ble_eq_true rfl) dX10_sell_24 ⟨Nat.le_of_ble_eq_true rfl, Nat.le_of_ble_eq_true rfl⟩ hout hlocks rfl

set_option maxRecDepth 100000 in
set_option maxHeartbeats 1000000 in
theorem ct_X10_sellZ (l : Launch) (hst : l.stackTraces = false) (sa : Nat → Nat) (D : va_G) (cA : Nat → ClassId) (α : Nat → Nat) (n sz : Nat) (hn : 191 ≤ n) (S : Mem) (Cn : Nat) (hC : S.1 23 1 = nI Cn) (hC2 : Cn ≤ 6) (Pn : Nat) (hP9 : S.1 23 2 = nI Pn) (hP2 : Pn ≤ 6) (a b : Nat) (ha : a < Cn) (hb0 : b < Pn) (q9 p9 : Int32) (h1 : ∃ i, 1 ≤ i ∧ i ≤ 9999 ∧ q9 = nI i) (h2 : ∃ i, 1 ≤ i ∧ i ≤ 99999 ∧ p9 = nI i) (M : Nat) (hM : S.1 74 1 = nI M) (hM2 : M ≤ 100) (hct : cCan S (nI a) b q9 M = false) : CtX sa l yX10_sell wsX10_sell ({ frames := 7, cells := 1, slots := 6, locals := 123 }) D cA α n sz [.ref (α 0), .int (nI a), .int (nI b), .int q9, .int p9] S eIS := by
  refine ctx_enter cX10_sell 7 (some .long) (by decide) rfl (Nat.le_of_ble_eq_true rfl) ?_
  intro p e s m below meth c hx hb hr hml hlocks hown hts hK hsz hw hZ hSx hout ls hl
  have hown : s.vm.findClass RX10 = some m.cls := hown
  have hAw : ∀ z, Aw α n s.heap.size z → Aw α n sz z := by rw [hsz]; exact fun _ h => h
  have hl : lv_has ls 7 [(0, .ref (α 0)), (1, .int (nI a)), (2, .int (nI b)), (3, .int q9), (4, .int p9)] := hl
  refine lv_aload_n hx hb dX10_sell_0 rfl (lv_at hl 0 rfl) ?_
  refine lv_iload_n hx hb dX10_sell_1 rfl (lv_at hl 1 rfl) ?_
  refine x_callVVr (q := 0) (C := RX10) (As := [.int (nI a)]) (rest := []) ⟨hx, hb, hml, hown, hts⟩ (ct_X10_requireCompany l D cA α n _ hn S Cn hC hC2 a ha) (cwV 1 hts gX10_sell_X10_requireCompany rfl rfl rfl (by decide +kernel) ⟨Nat.le_of_ble_eq_true rfl, Nat.le_of_ble_eq_true rfl⟩) hK hw hAw (ws_recv hK hw (q := 0) (Nat.lt_of_lt_of_le (Nat.le_of_ble_eq_true rfl : 0 < 191) hn) (mk_0 cA α) rfl) rfl hl.1 rfl (Nat.le_of_ble_eq_true rfl) dX10_sell_2 ⟨Nat.zero_le _, Nat.zero_le _⟩ (fun H locs hw => ?_)
  refine lv_aload_n hx hb dX10_sell_5 rfl (lv_at hl 0 rfl) ?_
  refine lv_iload_n hx hb dX10_sell_6 rfl (lv_at hl 2 rfl) ?_
  refine x_callVVr (q := 0) (C := RX10) (As := [.int (nI b)]) (rest := []) ⟨hx, hb, hml, hown, hts⟩ (ct_X10_requireProduct l D cA α n _ hn S Pn hP9 hP2 b hb0) (cwV 1 hts gX10_sell_X10_requireProduct rfl rfl rfl (by decide +kernel) ⟨Nat.le_of_ble_eq_true rfl, Nat.le_of_ble_eq_true rfl⟩) hK hw hAw (ws_recv hK hw (q := 0) (Nat.lt_of_lt_of_le (Nat.le_of_ble_eq_true rfl : 0 < 191) hn) (mk_0 cA α) rfl) rfl hl.1 rfl (Nat.le_of_ble_eq_true rfl) dX10_sell_7 ⟨Nat.zero_le _, Nat.zero_le _⟩ (fun H locs hw => ?_)
  refine lv_iload_n hx hb dX10_sell_10 rfl (lv_at hl 3 rfl) ?_
  refine lv_iconst (v := nI 1) hx hb dX10_sell_11 (by decide) ?_
  refine lv_sipush (v := nI 9999) hx hb dX10_sell_12 (by decide) ?_
  refine x_callSVr (q := 0) (C := RX0) (As := [.int q9, .int (nI 1), .int (nI 9999)]) (rest := []) ⟨hx, hb, hml, hown, hts⟩ (ct_X10_requireRange l D cA α n _ hn S q9 1 9999 (by decide) (by decide) h1) (va_cwS 3 hts gX10_sell_X10_requireRange rfl rfl rfl (by decide +kernel) ⟨Nat.le_of_ble_eq_true rfl, Nat.le_of_ble_eq_true rfl⟩) hK hw hAw rfl hl.1 rfl (Nat.le_of_ble_eq_true rfl) dX10_sell_15 ⟨Nat.zero_le _, Nat.zero_le _⟩ (fun H locs hw => ?_)
  refine lv_iload hx hb dX10_sell_18 (lv_at hl 4 rfl) ?_
  refine lv_iconst (v := nI 1) hx hb dX10_sell_20 (by decide) ?_
  refine lv_ldcw (v := 99999) hx hb hown (hts _ (List.mem_of_getElem? (i := 1) rfl)) dX10_sell_21 ?_
  refine x_topN (k := 99999) (by decide) ?_
  refine x_callSVr (q := 0) (C := RX0) (As := [.int p9, .int (nI 1), .int (nI 99999)]) (rest := []) ⟨hx, hb, hml, hown, hts⟩ (ct_X10_requireRange l D cA α n _ hn S p9 1 99999 (by decide) (by decide) h2) (va_cwS 3 hts gX10_sell_X10_requireRange rfl rfl rfl (by decide +kernel) ⟨Nat.le_of_ble_eq_true rfl, Nat.le_of_ble_eq_true rfl⟩) hK hw hAw rfl hl.1 rfl (Nat.le_of_ble_eq_true rfl) dX10_sell_24 ⟨Nat.zero_le _, Nat.zero_le _⟩ (fun H locs hw => ?_)
  refine lv_aload_n hx hb dX10_sell_27 rfl (lv_at hl 0 rfl) ?_
  refine lv_iload_n hx hb dX10_sell_28 rfl (lv_at hl 1 rfl) ?_
  refine lv_iload_n hx hb dX10_sell_29 rfl (lv_at hl 2 rfl) ?_
  refine lv_iload_n hx hb dX10_sell_30 rfl (lv_at hl 3 rfl) ?_
  exact x_callXV (q := 0) (C := RX10) (As := [.int (nI a), .int (nI b), .int q9]) (rest := []) ⟨hx, hb, hml, hown, hts⟩ (ct_X10_requirePiecesX l hst sa D cA α n _ hn S (nI a) b q9 (by omega) M hM hM2 hct) (cwV 3 hts gX10_sell_X10_requirePieces rfl rfl rfl (by decide +kernel) ⟨Nat.le_of_ble_eq_true rfl, Nat.le_of_ble_eq_true rfl⟩) hK hw hsz hZ hSx (ws_recv hK hw (q := 0) (Nat.lt_of_lt_of_le (Nat.le_of_ble_eq_true rfl : 0 < 191) hn) (mk_0 cA α) rfl) rfl hl.1 rfl (Nat.le_of_ble_eq_true rfl) dX10_sell_31 ⟨Nat.le_of_ble_eq_true rfl, Nat.le_of_ble_eq_true rfl⟩ hout hlocks rfl

def cDl (T : Mem) (a b c q p : Int32) (M : Nat) : Mem := setI (setI (setI (setI (setI (setI (setI (cTk T a b q M).1 49 M b) 50 M a) 51 M c) 52 M q) 53 M p) 80 M q) 74 1 (nI (M + 1))

set_option maxRecDepth 100000 in
set_option maxHeartbeats 1000000 in
theorem ct_X10_deliver (l : Launch) (D : va_G) (cA : Nat → ClassId) (α : Nat → Nat) (n sz : Nat) (hn : 191 ≤ n) (S : Mem) (Cn : Nat) (hC : S.1 23 1 = nI Cn) (hC2 : Cn ≤ 6) (Pn : Nat) (hP9 : S.1 23 2 = nI Pn) (hP2 : Pn ≤ 6) (a b c0 : Nat) (ha : a < Cn) (hb0 : b < Pn) (hc0 : c0 < Cn) (hac : a ≠ c0) (hmk : ¬ S.1 26 b = nI c0) (q9 p9 : Int32) (h1 : ∃ i, 1 ≤ i ∧ i ≤ 999 ∧ q9 = nI i) (h2 : ∃ i, 1 ≤ i ∧ i ≤ 99999 ∧ p9 = nI i) (N : Nat) (hN : S.1 74 0 = nI N) (hN2 : N ≤ 100) (M : Nat) (hM : S.1 74 1 = nI M) (hM2 : M < 100) (hct : cCan S (nI a) b q9 M = true) (t k : Nat) (ht : S.1 11 1 = nI t) (ht2 : t < 10) (hk : S.1 11 0 = nI k) (hk2 : k ≤ 10) : CtI l yX10_deliver wsX10_deliver ({ frames := 7, cells := 0, slots := 0, locals := 123 }) D cA α n sz [.ref (α 0), .int (nI b), .int (nI a), .int (nI c0), .int q9, .int p9] S (nI M) (cDl (cRem S t k N M) (nI a) (nI b) (nI c0) q9 p9 M) := by
  refine ct_enter cX10_deliver 7 (some .int) (by decide) rfl (Nat.le_of_ble_eq_true rfl) ?_
  intro p e s m below meth c hx hb hr hml hlocks hown hts hK hsz hw ls hl
  have hown : s.vm.findClass RX10 = some m.cls := hown
  have hAw : ∀ z, Aw α n s.heap.size z → Aw α n sz z := by rw [hsz]; exact fun _ h => h
  have hl : lv_has ls 7 [(0, .ref (α 0)), (1, .int (nI b)), (2, .int (nI a)), (3, .int (nI c0)), (4, .int q9), (5, .int p9)] := hl
  refine lv_aload_n hx hb dX10_deliver_0 rfl (lv_at hl 0 rfl) ?_
  refine lv_iload_n hx hb dX10_deliver_1 rfl (lv_at hl 1 rfl) ?_
  refine x_callVVr (q := 0) (C := RX10) (As := [.int (nI b)]) (rest := []) ⟨hx, hb, hml, hown, hts⟩ (ct_X10_requireProduct l D cA α n _ hn S Pn hP9 hP2 b hb0) (cwV 1 hts gX10_deliver_X10_requireProduct rfl rfl rfl (by decide +kernel) ⟨Nat.le_of_ble_eq_true rfl, Nat.le_of_ble_eq_true rfl⟩) hK hw hAw (ws_recv hK hw (q := 0) (Nat.lt_of_lt_of_le (Nat.le_of_ble_eq_true rfl : 0 < 191) hn) (mk_0 cA α) rfl) rfl hl.1 rfl (Nat.le_of_ble_eq_true rfl) dX10_deliver_2 ⟨Nat.zero_le _, Nat.zero_le _⟩ (fun H locs hw => ?_)
  refine lv_aload_n hx hb dX10_deliver_5 rfl (lv_at hl 0 rfl) ?_
  refine lv_iload_n hx hb dX10_deliver_6 rfl (lv_at hl 2 rfl) ?_
  refine x_callVVr (q := 0) (C := RX10) (As := [.int (nI a)]) (rest := []) ⟨hx, hb, hml, hown, hts⟩ (ct_X10_requireCompany l D cA α n _ hn S Cn hC hC2 a ha) (cwV 1 hts gX10_deliver_X10_requireCompany rfl rfl rfl (by decide +kernel) ⟨Nat.le_of_ble_eq_true rfl, Nat.le_of_ble_eq_true rfl⟩) hK hw hAw (ws_recv hK hw (q := 0) (Nat.lt_of_lt_of_le (Nat.le_of_ble_eq_true rfl : 0 < 191) hn) (mk_0 cA α) rfl) rfl hl.1 rfl (Nat.le_of_ble_eq_true rfl) dX10_deliver_7 ⟨Nat.zero_le _, Nat.zero_le _⟩ (fun H locs hw => ?_)
  refine lv_aload_n hx hb dX10_deliver_10 rfl (lv_at hl 0 rfl) ?_
  refine lv_iload_n hx hb dX10_deliver_11 rfl (lv_at hl 3 rfl) ?_
  refine x_callVVr (q := 0) (C := RX10) (As := [.int (nI c0)]) (rest := []) ⟨hx, hb, hml, hown, hts⟩ (ct_X10_requireCompany l D cA α n _ hn S Cn hC hC2 c0 hc0) (cwV 1 hts gX10_deliver_X10_requireCompany rfl rfl rfl (by decide +kernel) ⟨Nat.le_of_ble_eq_true rfl, Nat.le_of_ble_eq_true rfl⟩) hK hw hAw (ws_recv hK hw (q := 0) (Nat.lt_of_lt_of_le (Nat.le_of_ble_eq_true rfl : 0 < 191) hn) (mk_0 cA α) rfl) rfl hl.1 rfl (Nat.le_of_ble_eq_true rfl) dX10_deliver_12 ⟨Nat.zero_le _, Nat.zero_le _⟩ (fun H locs hw => ?_)
  refine lv_iload_n hx hb dX10_deliver_15 rfl (lv_at hl 2 rfl) ?_
  refine lv_iload_n hx hb dX10_deliver_16 rfl (lv_at hl 3 rfl) ?_
  refine xn_icmp_eq (tgt := 36) hx hb (by omega) (by omega) dX10_deliver_17 (by decide) (fun c1 => ?_) (fun c1 => ?_)
  · exact absurd c1 hac
  · skip
    refine lv_iload_n hx hb dX10_deliver_20 rfl (lv_at hl 3 rfl) ?_
    refine lv_aload_n hx hb dX10_deliver_21 rfl (lv_at hl 0 rfl) ?_
    refine x_get (v := .ref (α 3)) (C := RX10) (T := TX10) (N := 7) hx hb hts (fun _ h => List.mem_cons_of_mem _ (List.mem_append_left _ (List.mem_append_left _ (List.mem_append_left _ (List.mem_append_left _ (List.mem_append_left _ (List.mem_append_left _ (List.mem_append_left _ (List.mem_append_left _ (List.mem_append_right _ h)))))))))) hown hK hw 0 (Nat.lt_of_lt_of_le (Nat.le_of_ble_eq_true rfl : 0 < 191) hn) (mk_0 cA α) rfl 1 (by decide) (hts _ (List.mem_of_getElem? (i := 5) rfl)) (fun _ h9 => h9) rfl dX10_deliver_22 ?_
    refine x_get (v := .ref (α 23)) (C := RX0) (T := TX0) (N := 3) hx hb hts (fun _ h => List.mem_cons_of_mem _ (List.mem_append_left _ (List.mem_append_left _ (List.mem_append_left _ (List.mem_append_left _ (List.mem_append_left _ (List.mem_append_left _ (List.mem_append_left _ (List.mem_append_right _ h))))))))) hown hK hw 3 (Nat.lt_of_lt_of_le (Nat.le_of_ble_eq_true rfl : 3 < 191) hn) (mk_3 cA α) rfl 0 (by decide) (hts _ (List.mem_of_getElem? (i := 6) rfl)) (fun _ h9 => h9) rfl dX10_deliver_25 ?_
    refine x_get (v := .ref (α 26)) (C := RX2) (T := TX2) (N := 12) hx hb hts (fun _ h => List.mem_cons_of_mem _ (List.mem_append_left _ (List.mem_append_left _ (List.mem_append_left _ (List.mem_append_left _ (List.mem_append_left _ (List.mem_append_left _ (List.mem_append_right _ h)))))))) hown hK hw 23 (Nat.lt_of_lt_of_le (Nat.le_of_ble_eq_true rfl : 23 < 191) hn) (mk_23 cA α) rfl 8 (by decide) (hts _ (List.mem_of_getElem? (i := 7) rfl)) (fun _ h9 => h9) rfl dX10_deliver_28 ?_
    refine lv_iload_n hx hb dX10_deliver_31 rfl (lv_at hl 1 rfl) ?_
    refine x_iald hx hb hK hw 26 6 (Nat.lt_of_lt_of_le (Nat.le_of_ble_eq_true rfl : 26 < 191) hn) (mk_26 cA α) b rfl (by omega) (by decide) dX10_deliver_32 ?_
    refine lv_icmp_ne (tgt := 47) hx hb dX10_deliver_33 (by decide) (fun c2 => ?_) (fun c2 => ?_)
    · skip
      refine lv_iload hx hb dX10_deliver_47 (lv_at hl 4 rfl) ?_
      refine lv_iconst (v := nI 1) hx hb dX10_deliver_49 (by decide) ?_
      refine lv_sipush (v := nI 999) hx hb dX10_deliver_50 (by decide) ?_
      refine x_callSVr (q := 0) (C := RX0) (As := [.int q9, .int (nI 1), .int (nI 999)]) (rest := []) ⟨hx, hb, hml, hown, hts⟩ (ct_X10_requireRange l D cA α n _ hn S q9 1 999 (by decide) (by decide) h1) (va_cwS 3 hts gX10_deliver_X10_requireRange rfl rfl rfl (by decide +kernel) ⟨Nat.le_of_ble_eq_true rfl, Nat.le_of_ble_eq_true rfl⟩) hK hw hAw rfl hl.1 rfl (Nat.le_of_ble_eq_true rfl) dX10_deliver_53 ⟨Nat.zero_le _, Nat.zero_le _⟩ (fun H locs hw => ?_)
      refine lv_iload hx hb dX10_deliver_56 (lv_at hl 5 rfl) ?_
      refine lv_iconst (v := nI 1) hx hb dX10_deliver_58 (by decide) ?_
      refine lv_ldcw (v := 99999) hx hb hown (hts _ (List.mem_of_getElem? (i := 8) rfl)) dX10_deliver_59 ?_
      refine x_topN (k := 99999) (by decide) ?_
      refine x_callSVr (q := 0) (C := RX0) (As := [.int p9, .int (nI 1), .int (nI 99999)]) (rest := []) ⟨hx, hb, hml, hown, hts⟩ (ct_X10_requireRange l D cA α n _ hn S p9 1 99999 (by decide) (by decide) h2) (va_cwS 3 hts gX10_deliver_X10_requireRange rfl rfl rfl (by decide +kernel) ⟨Nat.le_of_ble_eq_true rfl, Nat.le_of_ble_eq_true rfl⟩) hK hw hAw rfl hl.1 rfl (Nat.le_of_ble_eq_true rfl) dX10_deliver_62 ⟨Nat.zero_le _, Nat.zero_le _⟩ (fun H locs hw => ?_)
      refine lv_aload_n hx hb dX10_deliver_65 rfl (lv_at hl 0 rfl) ?_
      refine lv_iload_n hx hb dX10_deliver_66 rfl (lv_at hl 2 rfl) ?_
      refine lv_iload_n hx hb dX10_deliver_67 rfl (lv_at hl 1 rfl) ?_
      refine lv_iload hx hb dX10_deliver_68 (lv_at hl 4 rfl) ?_
      refine x_callVVr (q := 0) (C := RX10) (As := [.int (nI a), .int (nI b), .int q9]) (rest := []) ⟨hx, hb, hml, hown, hts⟩ (ct_X10_requirePieces l D cA α n _ hn S (nI a) b q9 (by omega) M hM (by omega) hct) (cwV 3 hts gX10_deliver_X10_requirePieces rfl rfl rfl (by decide +kernel) ⟨Nat.le_of_ble_eq_true rfl, Nat.le_of_ble_eq_true rfl⟩) hK hw hAw (ws_recv hK hw (q := 0) (Nat.lt_of_lt_of_le (Nat.le_of_ble_eq_true rfl : 0 < 191) hn) (mk_0 cA α) rfl) rfl hl.1 rfl (Nat.le_of_ble_eq_true rfl) dX10_deliver_70 ⟨Nat.zero_le _, Nat.zero_le _⟩ (fun H locs hw => ?_)
      refine lv_aload_n hx hb dX10_deliver_73 rfl (lv_at hl 0 rfl) ?_
      refine x_get (v := .ref (α 3)) (C := RX10) (T := TX10) (N := 7) hx hb hts (fun _ h => List.mem_cons_of_mem _ (List.mem_append_left _ (List.mem_append_left _ (List.mem_append_left _ (List.mem_append_left _ (List.mem_append_left _ (List.mem_append_left _ (List.mem_append_left _ (List.mem_append_left _ (List.mem_append_right _ h)))))))))) hown hK hw 0 (Nat.lt_of_lt_of_le (Nat.le_of_ble_eq_true rfl : 0 < 191) hn) (mk_0 cA α) rfl 1 (by decide) (hts _ (List.mem_of_getElem? (i := 5) rfl)) (fun _ h9 => h9) rfl dX10_deliver_74 ?_
      refine x_get (v := .ref (α 74)) (C := RX0) (T := TX0) (N := 3) hx hb hts (fun _ h => List.mem_cons_of_mem _ (List.mem_append_left _ (List.mem_append_left _ (List.mem_append_left _ (List.mem_append_left _ (List.mem_append_left _ (List.mem_append_left _ (List.mem_append_left _ (List.mem_append_right _ h))))))))) hown hK hw 3 (Nat.lt_of_lt_of_le (Nat.le_of_ble_eq_true rfl : 3 < 191) hn) (mk_3 cA α) rfl 2 (by decide) (hts _ (List.mem_of_getElem? (i := 9) rfl)) (fun _ h9 => h9) rfl dX10_deliver_77 ?_
      refine x_get (v := .int (S.1 74 1)) (C := RX9) (T := TX9) (N := 14) hx hb hts (fun _ h => List.mem_cons_of_mem _ (List.mem_append_left _ (List.mem_append_left _ (List.mem_append_left _ (List.mem_append_left _ (List.mem_append_left _ (List.mem_append_right _ h))))))) hown hK hw 74 (Nat.lt_of_lt_of_le (Nat.le_of_ble_eq_true rfl : 74 < 191) hn) (mk_74 cA α) rfl 1 (by decide) (hts _ (List.mem_of_getElem? (i := 10) rfl)) (fun _ h9 => h9) rfl dX10_deliver_80 ?_
      refine x_topN (k := M) hM ?_
      refine lv_bipush (v := nI 100) hx hb dX10_deliver_83 (by decide) ?_
      refine xn_icmp_lt (tgt := 99) hx hb (by omega) (by decide) dX10_deliver_85 (by decide) (fun c3 => ?_) (fun c3 => ?_)
      · skip
        refine lv_aload_n hx hb dX10_deliver_99 rfl (lv_at hl 0 rfl) ?_
        refine x_get (v := .ref (α 11)) (C := RX10) (T := TX10) (N := 7) hx hb hts (fun _ h => List.mem_cons_of_mem _ (List.mem_append_left _ (List.mem_append_left _ (List.mem_append_left _ (List.mem_append_left _ (List.mem_append_left _ (List.mem_append_left _ (List.mem_append_left _ (List.mem_append_left _ (List.mem_append_right _ h)))))))))) hown hK hw 0 (Nat.lt_of_lt_of_le (Nat.le_of_ble_eq_true rfl : 0 < 191) hn) (mk_0 cA α) rfl 5 (by decide) (hts _ (List.mem_of_getElem? (i := 11) rfl)) (fun _ h9 => h9) rfl dX10_deliver_100 ?_
        refine lv_aload_n hx hb dX10_deliver_103 rfl (lv_at hl 0 rfl) ?_
        refine x_get (v := .ref (α 3)) (C := RX10) (T := TX10) (N := 7) hx hb hts (fun _ h => List.mem_cons_of_mem _ (List.mem_append_left _ (List.mem_append_left _ (List.mem_append_left _ (List.mem_append_left _ (List.mem_append_left _ (List.mem_append_left _ (List.mem_append_left _ (List.mem_append_left _ (List.mem_append_right _ h)))))))))) hown hK hw 0 (Nat.lt_of_lt_of_le (Nat.le_of_ble_eq_true rfl : 0 < 191) hn) (mk_0 cA α) rfl 1 (by decide) (hts _ (List.mem_of_getElem? (i := 5) rfl)) (fun _ h9 => h9) rfl dX10_deliver_104 ?_
        refine x_get (v := .ref (α 74)) (C := RX0) (T := TX0) (N := 3) hx hb hts (fun _ h => List.mem_cons_of_mem _ (List.mem_append_left _ (List.mem_append_left _ (List.mem_append_left _ (List.mem_append_left _ (List.mem_append_left _ (List.mem_append_left _ (List.mem_append_left _ (List.mem_append_right _ h))))))))) hown hK hw 3 (Nat.lt_of_lt_of_le (Nat.le_of_ble_eq_true rfl : 3 < 191) hn) (mk_3 cA α) rfl 2 (by decide) (hts _ (List.mem_of_getElem? (i := 9) rfl)) (fun _ h9 => h9) rfl dX10_deliver_107 ?_
        refine x_callVV (q := 11) (C := RX4) (As := [.ref (α 74)]) (rest := []) ⟨hx, hb, hml, hown, hts⟩ (ct_X4_remember l D cA α n _ hn S t k N M (by skip; exact ht) ht2 (by skip; exact hk) hk2 (by skip; exact hN) (by omega) (by skip; exact hM) (by omega)) (cwV 1 hts gX10_deliver_X4_remember rfl rfl rfl (by decide +kernel) ⟨Nat.le_of_ble_eq_true rfl, Nat.le_of_ble_eq_true rfl⟩) hK hw hAw (ws_recv hK hw (q := 11) (Nat.lt_of_lt_of_le (Nat.le_of_ble_eq_true rfl : 11 < 191) hn) (mk_11 cA α) rfl) rfl hl.1 rfl (Nat.le_of_ble_eq_true rfl) dX10_deliver_110 ⟨Nat.zero_le _, Nat.zero_le _⟩ (fun S1 eS1 H locs hw => ?_)
        refine lv_aload_n hx hb dX10_deliver_113 rfl (lv_at hl 0 rfl) ?_
        refine x_get (v := .ref (α 10)) (C := RX10) (T := TX10) (N := 7) hx hb hts (fun _ h => List.mem_cons_of_mem _ (List.mem_append_left _ (List.mem_append_left _ (List.mem_append_left _ (List.mem_append_left _ (List.mem_append_left _ (List.mem_append_left _ (List.mem_append_left _ (List.mem_append_left _ (List.mem_append_right _ h)))))))))) hown hK hw 0 (Nat.lt_of_lt_of_le (Nat.le_of_ble_eq_true rfl : 0 < 191) hn) (mk_0 cA α) rfl 4 (by decide) (hts _ (List.mem_of_getElem? (i := 12) rfl)) (fun _ h9 => h9) rfl dX10_deliver_114 ?_
        refine lv_aload_n hx hb dX10_deliver_117 rfl (lv_at hl 0 rfl) ?_
        refine x_get (v := .ref (α 3)) (C := RX10) (T := TX10) (N := 7) hx hb hts (fun _ h => List.mem_cons_of_mem _ (List.mem_append_left _ (List.mem_append_left _ (List.mem_append_left _ (List.mem_append_left _ (List.mem_append_left _ (List.mem_append_left _ (List.mem_append_left _ (List.mem_append_left _ (List.mem_append_right _ h)))))))))) hown hK hw 0 (Nat.lt_of_lt_of_le (Nat.le_of_ble_eq_true rfl : 0 < 191) hn) (mk_0 cA α) rfl 1 (by decide) (hts _ (List.mem_of_getElem? (i := 5) rfl)) (fun _ h9 => h9) rfl dX10_deliver_118 ?_
        refine lv_iload_n hx hb dX10_deliver_121 rfl (lv_at hl 2 rfl) ?_
        refine lv_iload_n hx hb dX10_deliver_122 rfl (lv_at hl 1 rfl) ?_
        refine lv_iload hx hb dX10_deliver_123 (lv_at hl 4 rfl) ?_
        refine x_callVV (q := 10) (C := RX1) (As := [.ref (α 3), .int (nI a), .int (nI b), .int q9]) (rest := []) ⟨hx, hb, hml, hown, hts⟩ (ct_X1_take l D cA α n _ hn S1 (nI a) (nI b) q9 M (by subst eS1; exact (congrFun (cRem_1 (by decide) (by decide)) 1).trans hM) (by omega)) (cwV 4 hts gX10_deliver_X1_take rfl rfl rfl (by decide +kernel) ⟨Nat.le_of_ble_eq_true rfl, Nat.le_of_ble_eq_true rfl⟩) hK hw hAw (ws_recv hK hw (q := 10) (Nat.lt_of_lt_of_le (Nat.le_of_ble_eq_true rfl : 10 < 191) hn) (mk_10 cA α) rfl) rfl hl.1 rfl (Nat.le_of_ble_eq_true rfl) dX10_deliver_125 ⟨Nat.zero_le _, Nat.zero_le _⟩ (fun S2 eS2 H locs hw => ?_)
        refine lv_aload_n hx hb dX10_deliver_128 rfl (lv_at hl 0 rfl) ?_
        refine x_get (v := .ref (α 3)) (C := RX10) (T := TX10) (N := 7) hx hb hts (fun _ h => List.mem_cons_of_mem _ (List.mem_append_left _ (List.mem_append_left _ (List.mem_append_left _ (List.mem_append_left _ (List.mem_append_left _ (List.mem_append_left _ (List.mem_append_left _ (List.mem_append_left _ (List.mem_append_right _ h)))))))))) hown hK hw 0 (Nat.lt_of_lt_of_le (Nat.le_of_ble_eq_true rfl : 0 < 191) hn) (mk_0 cA α) rfl 1 (by decide) (hts _ (List.mem_of_getElem? (i := 5) rfl)) (fun _ h9 => h9) rfl dX10_deliver_129 ?_
        refine x_get (v := .ref (α 74)) (C := RX0) (T := TX0) (N := 3) hx hb hts (fun _ h => List.mem_cons_of_mem _ (List.mem_append_left _ (List.mem_append_left _ (List.mem_append_left _ (List.mem_append_left _ (List.mem_append_left _ (List.mem_append_left _ (List.mem_append_left _ (List.mem_append_right _ h))))))))) hown hK hw 3 (Nat.lt_of_lt_of_le (Nat.le_of_ble_eq_true rfl : 3 < 191) hn) (mk_3 cA α) rfl 2 (by decide) (hts _ (List.mem_of_getElem? (i := 9) rfl)) (fun _ h9 => h9) rfl dX10_deliver_132 ?_
        refine x_get (v := .int (S2.1 74 1)) (C := RX9) (T := TX9) (N := 14) hx hb hts (fun _ h => List.mem_cons_of_mem _ (List.mem_append_left _ (List.mem_append_left _ (List.mem_append_left _ (List.mem_append_left _ (List.mem_append_left _ (List.mem_append_right _ h))))))) hown hK hw 74 (Nat.lt_of_lt_of_le (Nat.le_of_ble_eq_true rfl : 74 < 191) hn) (mk_74 cA α) rfl 1 (by decide) (hts _ (List.mem_of_getElem? (i := 10) rfl)) (fun _ h9 => h9) rfl dX10_deliver_135 ?_
        refine x_topN (k := M) (by subst eS2; subst eS1; rw [cTk_k _ _ _ _ (by decide), cRem_1 (by decide) (by decide)]; exact hM) ?_
        refine lv_istore (lv' := [(6, .int (nI M)), (0, .ref (α 0)), (1, .int (nI b)), (2, .int (nI a)), (3, .int (nI c0)), (4, .int q9), (5, .int p9)]) hx hb dX10_deliver_138 hl (by decide) rfl (fun ls hl => ?_)
        refine lv_aload_n hx hb dX10_deliver_140 rfl (lv_at hl 1 rfl) ?_
        refine x_get (v := .ref (α 3)) (C := RX10) (T := TX10) (N := 7) hx hb hts (fun _ h => List.mem_cons_of_mem _ (List.mem_append_left _ (List.mem_append_left _ (List.mem_append_left _ (List.mem_append_left _ (List.mem_append_left _ (List.mem_append_left _ (List.mem_append_left _ (List.mem_append_left _ (List.mem_append_right _ h)))))))))) hown hK hw 0 (Nat.lt_of_lt_of_le (Nat.le_of_ble_eq_true rfl : 0 < 191) hn) (mk_0 cA α) rfl 1 (by decide) (hts _ (List.mem_of_getElem? (i := 5) rfl)) (fun _ h9 => h9) rfl dX10_deliver_141 ?_
        refine x_get (v := .ref (α 44)) (C := RX0) (T := TX0) (N := 3) hx hb hts (fun _ h => List.mem_cons_of_mem _ (List.mem_append_left _ (List.mem_append_left _ (List.mem_append_left _ (List.mem_append_left _ (List.mem_append_left _ (List.mem_append_left _ (List.mem_append_left _ (List.mem_append_right _ h))))))))) hown hK hw 3 (Nat.lt_of_lt_of_le (Nat.le_of_ble_eq_true rfl : 3 < 191) hn) (mk_3 cA α) rfl 1 (by decide) (hts _ (List.mem_of_getElem? (i := 13) rfl)) (fun _ h9 => h9) rfl dX10_deliver_144 ?_
        refine lv_iload hx hb dX10_deliver_147 (lv_at hl 0 rfl) ?_
        refine lv_iload_n hx hb dX10_deliver_149 rfl (lv_at hl 2 rfl) ?_
        refine lv_iload_n hx hb dX10_deliver_150 rfl (lv_at hl 3 rfl) ?_
        refine lv_iload_n hx hb dX10_deliver_151 rfl (lv_at hl 4 rfl) ?_
        refine lv_iload hx hb dX10_deliver_152 (lv_at hl 5 rfl) ?_
        refine lv_iload hx hb dX10_deliver_154 (lv_at hl 6 rfl) ?_
        refine x_callVV (q := 44) (C := RX7) (As := [.int (nI M), .int (nI b), .int (nI a), .int (nI c0), .int q9, .int p9]) (rest := []) ⟨hx, hb, hml, hown, hts⟩ (ct_X7_putDelivery l D cA α n _ hn S2 M (nI b) (nI a) (nI c0) q9 p9 hM2) (cwV 6 hts gX10_deliver_X7_putDelivery rfl rfl rfl (by decide +kernel) ⟨Nat.le_of_ble_eq_true rfl, Nat.le_of_ble_eq_true rfl⟩) hK hw hAw (ws_recv hK hw (q := 44) (Nat.lt_of_lt_of_le (Nat.le_of_ble_eq_true rfl : 44 < 191) hn) (mk_44 cA α) rfl) rfl hl.1 rfl (Nat.le_of_ble_eq_true rfl) dX10_deliver_156 ⟨Nat.zero_le _, Nat.zero_le _⟩ (fun S3 eS3 H locs hw => ?_)
        refine lv_aload_n hx hb dX10_deliver_159 rfl (lv_at hl 1 rfl) ?_
        refine x_get (v := .ref (α 3)) (C := RX10) (T := TX10) (N := 7) hx hb hts (fun _ h => List.mem_cons_of_mem _ (List.mem_append_left _ (List.mem_append_left _ (List.mem_append_left _ (List.mem_append_left _ (List.mem_append_left _ (List.mem_append_left _ (List.mem_append_left _ (List.mem_append_left _ (List.mem_append_right _ h)))))))))) hown hK hw 0 (Nat.lt_of_lt_of_le (Nat.le_of_ble_eq_true rfl : 0 < 191) hn) (mk_0 cA α) rfl 1 (by decide) (hts _ (List.mem_of_getElem? (i := 5) rfl)) (fun _ h9 => h9) rfl dX10_deliver_160 ?_
        refine x_get (v := .ref (α 74)) (C := RX0) (T := TX0) (N := 3) hx hb hts (fun _ h => List.mem_cons_of_mem _ (List.mem_append_left _ (List.mem_append_left _ (List.mem_append_left _ (List.mem_append_left _ (List.mem_append_left _ (List.mem_append_left _ (List.mem_append_left _ (List.mem_append_right _ h))))))))) hown hK hw 3 (Nat.lt_of_lt_of_le (Nat.le_of_ble_eq_true rfl : 3 < 191) hn) (mk_3 cA α) rfl 2 (by decide) (hts _ (List.mem_of_getElem? (i := 9) rfl)) (fun _ h9 => h9) rfl dX10_deliver_163 ?_
        refine x_get (v := .ref (α 80)) (C := RX9) (T := TX9) (N := 14) hx hb hts (fun _ h => List.mem_cons_of_mem _ (List.mem_append_left _ (List.mem_append_left _ (List.mem_append_left _ (List.mem_append_left _ (List.mem_append_left _ (List.mem_append_right _ h))))))) hown hK hw 74 (Nat.lt_of_lt_of_le (Nat.le_of_ble_eq_true rfl : 74 < 191) hn) (mk_74 cA α) rfl 11 (by decide) (hts _ (List.mem_of_getElem? (i := 14) rfl)) (fun _ h9 => h9) rfl dX10_deliver_166 ?_
        refine lv_iload hx hb dX10_deliver_169 (lv_at hl 0 rfl) ?_
        refine lv_iload hx hb dX10_deliver_171 (lv_at hl 5 rfl) ?_
        refine x_iast (x := q9) hx hb hK hw 80 100 (Nat.lt_of_lt_of_le (Nat.le_of_ble_eq_true rfl : 80 < 191) hn) (mk_80 cA α) M rfl (by omega) (by decide) dX10_deliver_173 (fun S4 eS4 H locs hw => ?_)
        refine lv_aload_n hx hb dX10_deliver_174 rfl (lv_at hl 1 rfl) ?_
        refine x_get (v := .ref (α 3)) (C := RX10) (T := TX10) (N := 7) hx hb hts (fun _ h => List.mem_cons_of_mem _ (List.mem_append_left _ (List.mem_append_left _ (List.mem_append_left _ (List.mem_append_left _ (List.mem_append_left _ (List.mem_append_left _ (List.mem_append_left _ (List.mem_append_left _ (List.mem_append_right _ h)))))))))) hown hK hw 0 (Nat.lt_of_lt_of_le (Nat.le_of_ble_eq_true rfl : 0 < 191) hn) (mk_0 cA α) rfl 1 (by decide) (hts _ (List.mem_of_getElem? (i := 5) rfl)) (fun _ h9 => h9) rfl dX10_deliver_175 ?_
        refine x_get (v := .ref (α 74)) (C := RX0) (T := TX0) (N := 3) hx hb hts (fun _ h => List.mem_cons_of_mem _ (List.mem_append_left _ (List.mem_append_left _ (List.mem_append_left _ (List.mem_append_left _ (List.mem_append_left _ (List.mem_append_left _ (List.mem_append_left _ (List.mem_append_right _ h))))))))) hown hK hw 3 (Nat.lt_of_lt_of_le (Nat.le_of_ble_eq_true rfl : 3 < 191) hn) (mk_3 cA α) rfl 2 (by decide) (hts _ (List.mem_of_getElem? (i := 9) rfl)) (fun _ h9 => h9) rfl dX10_deliver_178 ?_
        refine lv_dup hx hb dX10_deliver_181 rfl ?_
        refine x_get (v := .int (S4.1 74 1)) (C := RX9) (T := TX9) (N := 14) hx hb hts (fun _ h => List.mem_cons_of_mem _ (List.mem_append_left _ (List.mem_append_left _ (List.mem_append_left _ (List.mem_append_left _ (List.mem_append_left _ (List.mem_append_right _ h))))))) hown hK hw 74 (Nat.lt_of_lt_of_le (Nat.le_of_ble_eq_true rfl : 74 < 191) hn) (mk_74 cA α) rfl 1 (by decide) (hts _ (List.mem_of_getElem? (i := 10) rfl)) (fun _ h9 => h9) rfl dX10_deliver_182 ?_
        refine x_topN (k := M) (by subst eS4; subst eS3; subst eS2; subst eS1; rw [sI_1 (by decide), sI_1 (by decide), sI_1 (by decide), sI_1 (by decide), sI_1 (by decide), sI_1 (by decide), cTk_k _ _ _ _ (by decide), cRem_1 (by decide) (by decide)]; exact hM) ?_
        refine lv_iconst (v := nI 1) hx hb dX10_deliver_185 (by decide) ?_
        refine xn_iadd hx hb dX10_deliver_186 ?_
        refine x_putI (x := nI (M + 1)) (ty := .int) (C := RX9) (T := TX9) (N := 14) hx hb hts (fun _ h => List.mem_cons_of_mem _ (List.mem_append_left _ (List.mem_append_left _ (List.mem_append_left _ (List.mem_append_left _ (List.mem_append_left _ (List.mem_append_right _ h))))))) tyX9 tyX9_ok nmX9 hown hK hw 74 (Nat.lt_of_lt_of_le (Nat.le_of_ble_eq_true rfl : 74 < 191) hn) (mk_74 cA α) rfl 1 (by decide) (hts _ (List.mem_of_getElem? (i := 10) rfl)) (fun _ h9 => h9) rfl rfl rfl rfl (Nat.le_of_ble_eq_true rfl) rfl dX10_deliver_187 (fun S5 eS5 H locs hw => ?_)
        refine lv_iload hx hb dX10_deliver_190 (lv_at hl 0 rfl) ?_
        exact ret_i hx hb hr hlocks hK hw dX10_deliver_192 rfl (by subst eS5; subst eS4; subst eS3; subst eS2; subst eS1; rfl)
      · exact absurd hM2 (by omega)
    · exact absurd c2.symm hmk

set_option maxRecDepth 100000 in
set_option maxHeartbeats 1000000 in
theorem ct_X10_deliverX (l : Launch) (hst : l.stackTraces = false) (sa : Nat → Nat) (D : va_G) (cA : Nat → ClassId) (α : Nat → Nat) (n sz : Nat) (hn : 191 ≤ n) (S : Mem) (Pn : Nat) (hP9 : S.1 23 2 = nI Pn) (hP2 : Pn ≤ 6) (x y u q9 p9 : Int32) (hx9 : ¬ ∃ i, i < Pn ∧ x = nI i) : CtX sa l yX10_deliver wsX10_deliver ({ frames := 7, cells := 1, slots := 6, locals := 123 }) D cA α n sz [.ref (α 0), .int x, .int y, .int u, .int q9, .int p9] S eIO := by
  refine ctx_enter cX10_deliver 7 (some .int) (by decide) rfl (Nat.le_of_ble_eq_true rfl) ?_
  intro p e s m below meth c hx hb hr hml hlocks hown hts hK hsz hw hZ hSx hout ls hl
  have hown : s.vm.findClass RX10 = some m.cls := hown
  have hAw : ∀ z, Aw α n s.heap.size z → Aw α n sz z := by rw [hsz]; exact fun _ h => h
  have hl : lv_has ls 7 [(0, .ref (α 0)), (1, .int x), (2, .int y), (3, .int u), (4, .int q9), (5, .int p9)] := hl
  refine lv_aload_n hx hb dX10_deliver_0 rfl (lv_at hl 0 rfl) ?_
  refine lv_iload_n hx hb dX10_deliver_1 rfl (lv_at hl 1 rfl) ?_
  exact x_callXV (q := 0) (C := RX10) (As := [.int x]) (rest := []) ⟨hx, hb, hml, hown, hts⟩ (ct_X10_requireProductX l hst sa D cA α n _ hn S Pn hP9 hP2 x hx9) (cwV 1 hts gX10_deliver_X10_requireProduct rfl rfl rfl (by decide +kernel) ⟨Nat.le_of_ble_eq_true rfl, Nat.le_of_ble_eq_true rfl⟩) hK hw hsz hZ hSx (ws_recv hK hw (q := 0) (Nat.lt_of_lt_of_le (Nat.le_of_ble_eq_true rfl : 0 < 191) hn) (mk_0 cA α) rfl) rfl hl.1 rfl (Nat.le_of_ble_eq_true rfl) dX10_deliver_2 ⟨Nat.le_of_ble_eq_true rfl, Nat.le_of_ble_eq_true rfl⟩ hout hlocks rfl

set_option maxRecDepth 100000 in
set_option maxHeartbeats 1000000 in
theorem ct_X10_deliverX2 (l : Launch) (hst : l.stackTraces = false) (sa : Nat → Nat) (D : va_G) (cA : Nat → ClassId) (α : Nat → Nat) (n sz : Nat) (hn : 191 ≤ n) (S : Mem) (Cn : Nat) (hC : S.1 23 1 = nI Cn) (hC2 : Cn ≤ 6) (Pn : Nat) (hP9 : S.1 23 2 = nI Pn) (hP2 : Pn ≤ 6) (b : Nat) (hb0 : b < Pn) (y u q9 p9 : Int32) (hx9 : ¬ ∃ i, i < Cn ∧ y = nI i) : CtX sa l yX10_deliver wsX10_deliver ({ frames := 7, cells := 1, slots := 6, locals := 123 }) D cA α n sz [.ref (α 0), .int (nI b), .int y, .int u, .int q9, .int p9] S eIO := by
  refine ctx_enter cX10_deliver 7 (some .int) (by decide) rfl (Nat.le_of_ble_eq_true rfl) ?_
  intro p e s m below meth c hx hb hr hml hlocks hown hts hK hsz hw hZ hSx hout ls hl
  have hown : s.vm.findClass RX10 = some m.cls := hown
  have hAw : ∀ z, Aw α n s.heap.size z → Aw α n sz z := by rw [hsz]; exact fun _ h => h
  have hl : lv_has ls 7 [(0, .ref (α 0)), (1, .int (nI b)), (2, .int y), (3, .int u), (4, .int q9), (5, .int p9)] := hl
  refine lv_aload_n hx hb dX10_deliver_0 rfl (lv_at hl 0 rfl) ?_
  refine lv_iload_n hx hb dX10_deliver_1 rfl (lv_at hl 1 rfl) ?_
  refine x_callVVr (q := 0) (C := RX10) (As := [.int (nI b)]) (rest := []) ⟨hx, hb, hml, hown, hts⟩ (ct_X10_requireProduct l D cA α n _ hn S Pn hP9 hP2 b hb0) (cwV 1 hts gX10_deliver_X10_requireProduct rfl rfl rfl (by decide +kernel) ⟨Nat.le_of_ble_eq_true rfl, Nat.le_of_ble_eq_true rfl⟩) hK hw hAw (ws_recv hK hw (q := 0) (Nat.lt_of_lt_of_le (Nat.le_of_ble_eq_true rfl : 0 < 191) hn) (mk_0 cA α) rfl) rfl hl.1 rfl (Nat.le_of_ble_eq_true rfl) dX10_deliver_2 ⟨Nat.zero_le _, Nat.zero_le _⟩ (fun H locs hw => ?_)
  refine lv_aload_n hx hb dX10_deliver_5 rfl (lv_at hl 0 rfl) ?_
  refine lv_iload_n hx hb dX10_deliver_6 rfl (lv_at hl 2 rfl) ?_
  exact x_callXV (q := 0) (C := RX10) (As := [.int y]) (rest := []) ⟨hx, hb, hml, hown, hts⟩ (ct_X10_requireCompanyX l hst sa D cA α n _ hn S Cn hC hC2 y hx9) (cwV 1 hts gX10_deliver_X10_requireCompany rfl rfl rfl (by decide +kernel) ⟨Nat.le_of_ble_eq_true rfl, Nat.le_of_ble_eq_true rfl⟩) hK hw hsz hZ hSx (ws_recv hK hw (q := 0) (Nat.lt_of_lt_of_le (Nat.le_of_ble_eq_true rfl : 0 < 191) hn) (mk_0 cA α) rfl) rfl hl.1 rfl (Nat.le_of_ble_eq_true rfl) dX10_deliver_7 ⟨Nat.le_of_ble_eq_true rfl, Nat.le_of_ble_eq_true rfl⟩ hout hlocks rfl

set_option maxRecDepth 100000 in
set_option maxHeartbeats 1000000 in
theorem ct_X10_deliverX3 (l : Launch) (hst : l.stackTraces = false) (sa : Nat → Nat) (D : va_G) (cA : Nat → ClassId) (α : Nat → Nat) (n sz : Nat) (hn : 191 ≤ n) (S : Mem) (Cn : Nat) (hC : S.1 23 1 = nI Cn) (hC2 : Cn ≤ 6) (Pn : Nat) (hP9 : S.1 23 2 = nI Pn) (hP2 : Pn ≤ 6) (a b : Nat) (ha : a < Cn) (hb0 : b < Pn) (u q9 p9 : Int32) (hx9 : ¬ ∃ i, i < Cn ∧ u = nI i) : CtX sa l yX10_deliver wsX10_deliver ({ frames := 7, cells := 1, slots := 6, locals := 123 }) D cA α n sz [.ref (α 0), .int (nI b), .int (nI a), .int u, .int q9, .int p9] S eIO := by
  refine ctx_enter cX10_deliver 7 (some .int) (by decide) rfl (Nat.le_of_ble_eq_true rfl) ?_
  intro p e s m below meth c hx hb hr hml hlocks hown hts hK hsz hw hZ hSx hout ls hl
  have hown : s.vm.findClass RX10 = some m.cls := hown
  have hAw : ∀ z, Aw α n s.heap.size z → Aw α n sz z := by rw [hsz]; exact fun _ h => h
  have hl : lv_has ls 7 [(0, .ref (α 0)), (1, .int (nI b)), (2, .int (nI a)), (3, .int u), (4, .int q9), (5, .int p9)] := hl
  refine lv_aload_n hx hb dX10_deliver_0 rfl (lv_at hl 0 rfl) ?_
  refine lv_iload_n hx hb dX10_deliver_1 rfl (lv_at hl 1 rfl) ?_
  refine x_callVVr (q := 0) (C := RX10) (As := [.int (nI b)]) (rest := []) ⟨hx, hb, hml, hown, hts⟩ (ct_X10_requireProduct l D cA α n _ hn S Pn hP9 hP2 b hb0) (cwV 1 hts gX10_deliver_X10_requireProduct rfl rfl rfl (by decide +kernel) ⟨Nat.le_of_ble_eq_true rfl, Nat.le_of_ble_eq_true rfl⟩) hK hw hAw (ws_recv hK hw (q := 0) (Nat.lt_of_lt_of_le (Nat.le_of_ble_eq_true rfl : 0 < 191) hn) (mk_0 cA α) rfl) rfl hl.1 rfl (Nat.le_of_ble_eq_true rfl) dX10_deliver_2 ⟨Nat.zero_le _, Nat.zero_le _⟩ (fun H locs hw => ?_)
  refine lv_aload_n hx hb dX10_deliver_5 rfl (lv_at hl 0 rfl) ?_
  refine lv_iload_n hx hb dX10_deliver_6 rfl (lv_at hl 2 rfl) ?_
  refine x_callVVr (q := 0) (C := RX10) (As := [.int (nI a)]) (rest := []) ⟨hx, hb, hml, hown, hts⟩ (ct_X10_requireCompany l D cA α n _ hn S Cn hC hC2 a ha) (cwV 1 hts gX10_deliver_X10_requireCompany rfl rfl rfl (by decide +kernel) ⟨Nat.le_of_ble_eq_true rfl, Nat.le_of_ble_eq_true rfl⟩) hK hw hAw (ws_recv hK hw (q := 0) (Nat.lt_of_lt_of_le (Nat.le_of_ble_eq_true rfl : 0 < 191) hn) (mk_0 cA α) rfl) rfl hl.1 rfl (Nat.le_of_ble_eq_true rfl) dX10_deliver_7 ⟨Nat.zero_le _, Nat.zero_le _⟩ (fun H locs hw => ?_)
  refine lv_aload_n hx hb dX10_deliver_10 rfl (lv_at hl 0 rfl) ?_
  refine lv_iload_n hx hb dX10_deliver_11 rfl (lv_at hl 3 rfl) ?_
  exact x_callXV (q := 0) (C := RX10) (As := [.int u]) (rest := []) ⟨hx, hb, hml, hown, hts⟩ (ct_X10_requireCompanyX l hst sa D cA α n _ hn S Cn hC hC2 u hx9) (cwV 1 hts gX10_deliver_X10_requireCompany rfl rfl rfl (by decide +kernel) ⟨Nat.le_of_ble_eq_true rfl, Nat.le_of_ble_eq_true rfl⟩) hK hw hsz hZ hSx (ws_recv hK hw (q := 0) (Nat.lt_of_lt_of_le (Nat.le_of_ble_eq_true rfl : 0 < 191) hn) (mk_0 cA α) rfl) rfl hl.1 rfl (Nat.le_of_ble_eq_true rfl) dX10_deliver_12 ⟨Nat.le_of_ble_eq_true rfl, Nat.le_of_ble_eq_true rfl⟩ hout hlocks rfl

set_option maxRecDepth 100000 in
set_option maxHeartbeats 1000000 in
theorem ct_X10_deliverY (l : Launch) (hst : l.stackTraces = false) (sa : Nat → Nat) (D : va_G) (cA : Nat → ClassId) (α : Nat → Nat) (n sz : Nat) (hn : 191 ≤ n) (S : Mem) (Cn : Nat) (hC : S.1 23 1 = nI Cn) (hC2 : Cn ≤ 6) (Pn : Nat) (hP9 : S.1 23 2 = nI Pn) (hP2 : Pn ≤ 6) (a b c0 : Nat) (ha : a < Cn) (hb0 : b < Pn) (hc0 : c0 < Cn) (hac : a = c0 ∨ S.1 26 b = nI c0) (q9 p9 : Int32) : CtX sa l yX10_deliver wsX10_deliver ({ frames := 7, cells := 1, slots := 6, locals := 123 }) D cA α n sz [.ref (α 0), .int (nI b), .int (nI a), .int (nI c0), .int q9, .int p9] S eIA := by
  refine ctx_enter cX10_deliver 7 (some .int) (by decide) rfl (Nat.le_of_ble_eq_true rfl) ?_
  intro p e s m below meth c hx hb hr hml hlocks hown hts hK hsz hw hZ hSx hout ls hl
  have hown : s.vm.findClass RX10 = some m.cls := hown
  have hAw : ∀ z, Aw α n s.heap.size z → Aw α n sz z := by rw [hsz]; exact fun _ h => h
  have hl : lv_has ls 7 [(0, .ref (α 0)), (1, .int (nI b)), (2, .int (nI a)), (3, .int (nI c0)), (4, .int q9), (5, .int p9)] := hl
  refine lv_aload_n hx hb dX10_deliver_0 rfl (lv_at hl 0 rfl) ?_
  refine lv_iload_n hx hb dX10_deliver_1 rfl (lv_at hl 1 rfl) ?_
  refine x_callVVr (q := 0) (C := RX10) (As := [.int (nI b)]) (rest := []) ⟨hx, hb, hml, hown, hts⟩ (ct_X10_requireProduct l D cA α n _ hn S Pn hP9 hP2 b hb0) (cwV 1 hts gX10_deliver_X10_requireProduct rfl rfl rfl (by decide +kernel) ⟨Nat.le_of_ble_eq_true rfl, Nat.le_of_ble_eq_true rfl⟩) hK hw hAw (ws_recv hK hw (q := 0) (Nat.lt_of_lt_of_le (Nat.le_of_ble_eq_true rfl : 0 < 191) hn) (mk_0 cA α) rfl) rfl hl.1 rfl (Nat.le_of_ble_eq_true rfl) dX10_deliver_2 ⟨Nat.zero_le _, Nat.zero_le _⟩ (fun H locs hw => ?_)
  refine lv_aload_n hx hb dX10_deliver_5 rfl (lv_at hl 0 rfl) ?_
  refine lv_iload_n hx hb dX10_deliver_6 rfl (lv_at hl 2 rfl) ?_
  refine x_callVVr (q := 0) (C := RX10) (As := [.int (nI a)]) (rest := []) ⟨hx, hb, hml, hown, hts⟩ (ct_X10_requireCompany l D cA α n _ hn S Cn hC hC2 a ha) (cwV 1 hts gX10_deliver_X10_requireCompany rfl rfl rfl (by decide +kernel) ⟨Nat.le_of_ble_eq_true rfl, Nat.le_of_ble_eq_true rfl⟩) hK hw hAw (ws_recv hK hw (q := 0) (Nat.lt_of_lt_of_le (Nat.le_of_ble_eq_true rfl : 0 < 191) hn) (mk_0 cA α) rfl) rfl hl.1 rfl (Nat.le_of_ble_eq_true rfl) dX10_deliver_7 ⟨Nat.zero_le _, Nat.zero_le _⟩ (fun H locs hw => ?_)
  refine lv_aload_n hx hb dX10_deliver_10 rfl (lv_at hl 0 rfl) ?_
  refine lv_iload_n hx hb dX10_deliver_11 rfl (lv_at hl 3 rfl) ?_
  refine x_callVVr (q := 0) (C := RX10) (As := [.int (nI c0)]) (rest := []) ⟨hx, hb, hml, hown, hts⟩ (ct_X10_requireCompany l D cA α n _ hn S Cn hC hC2 c0 hc0) (cwV 1 hts gX10_deliver_X10_requireCompany rfl rfl rfl (by decide +kernel) ⟨Nat.le_of_ble_eq_true rfl, Nat.le_of_ble_eq_true rfl⟩) hK hw hAw (ws_recv hK hw (q := 0) (Nat.lt_of_lt_of_le (Nat.le_of_ble_eq_true rfl : 0 < 191) hn) (mk_0 cA α) rfl) rfl hl.1 rfl (Nat.le_of_ble_eq_true rfl) dX10_deliver_12 ⟨Nat.zero_le _, Nat.zero_le _⟩ (fun H locs hw => ?_)
  refine lv_iload_n hx hb dX10_deliver_15 rfl (lv_at hl 2 rfl) ?_
  refine lv_iload_n hx hb dX10_deliver_16 rfl (lv_at hl 3 rfl) ?_
  refine xn_icmp_eq (tgt := 36) hx hb (by omega) (by omega) dX10_deliver_17 (by decide) (fun c1 => ?_) (fun c1 => ?_)
  · skip
    exact x_throwSW (names := eUp) (rest := []) hx hb hst hown fit_IA fit_Up (hts _ (List.mem_of_getElem? (i := 1) rfl)) (hts _ (List.mem_of_getElem? (i := 2) rfl)) (hSx.1 _ (List.mem_of_getElem? (i := 12) rfl)) (at_IA hSx (fun w h => hts w ((fun _ h => List.mem_cons_of_mem _ (List.mem_append_left _ (List.mem_append_left _ (List.mem_append_right _ h)))) w h))) ga_IA hZ hK hw (hl.1.trans hml.symm) dX10_deliver_36 dX10_deliver_39 dX10_deliver_40 dX10_deliver_43 dX10_deliver_46 hout (Nat.le_of_ble_eq_true rfl) (Nat.le_of_ble_eq_true rfl) (Nat.le_of_ble_eq_true rfl) (Nat.le_of_ble_eq_true rfl) hlocks rfl
  · skip
    refine lv_iload_n hx hb dX10_deliver_20 rfl (lv_at hl 3 rfl) ?_
    refine lv_aload_n hx hb dX10_deliver_21 rfl (lv_at hl 0 rfl) ?_
    refine x_get (v := .ref (α 3)) (C := RX10) (T := TX10) (N := 7) hx hb hts (fun _ h => List.mem_cons_of_mem _ (List.mem_append_left _ (List.mem_append_left _ (List.mem_append_left _ (List.mem_append_left _ (List.mem_append_left _ (List.mem_append_left _ (List.mem_append_left _ (List.mem_append_left _ (List.mem_append_right _ h)))))))))) hown hK hw 0 (Nat.lt_of_lt_of_le (Nat.le_of_ble_eq_true rfl : 0 < 191) hn) (mk_0 cA α) rfl 1 (by decide) (hts _ (List.mem_of_getElem? (i := 5) rfl)) (fun _ h9 => h9) rfl dX10_deliver_22 ?_
    refine x_get (v := .ref (α 23)) (C := RX0) (T := TX0) (N := 3) hx hb hts (fun _ h => List.mem_cons_of_mem _ (List.mem_append_left _ (List.mem_append_left _ (List.mem_append_left _ (List.mem_append_left _ (List.mem_append_left _ (List.mem_append_left _ (List.mem_append_left _ (List.mem_append_right _ h))))))))) hown hK hw 3 (Nat.lt_of_lt_of_le (Nat.le_of_ble_eq_true rfl : 3 < 191) hn) (mk_3 cA α) rfl 0 (by decide) (hts _ (List.mem_of_getElem? (i := 6) rfl)) (fun _ h9 => h9) rfl dX10_deliver_25 ?_
    refine x_get (v := .ref (α 26)) (C := RX2) (T := TX2) (N := 12) hx hb hts (fun _ h => List.mem_cons_of_mem _ (List.mem_append_left _ (List.mem_append_left _ (List.mem_append_left _ (List.mem_append_left _ (List.mem_append_left _ (List.mem_append_left _ (List.mem_append_right _ h)))))))) hown hK hw 23 (Nat.lt_of_lt_of_le (Nat.le_of_ble_eq_true rfl : 23 < 191) hn) (mk_23 cA α) rfl 8 (by decide) (hts _ (List.mem_of_getElem? (i := 7) rfl)) (fun _ h9 => h9) rfl dX10_deliver_28 ?_
    refine lv_iload_n hx hb dX10_deliver_31 rfl (lv_at hl 1 rfl) ?_
    refine x_iald hx hb hK hw 26 6 (Nat.lt_of_lt_of_le (Nat.le_of_ble_eq_true rfl : 26 < 191) hn) (mk_26 cA α) b rfl (by omega) (by decide) dX10_deliver_32 ?_
    refine lv_icmp_ne (tgt := 47) hx hb dX10_deliver_33 (by decide) (fun c2 => ?_) (fun c2 => ?_)
    · rcases hac with h | h; exact absurd h c1; exact absurd h.symm c2
    · skip
      exact x_throwSW (names := eUp) (rest := []) hx hb hst hown fit_IA fit_Up (hts _ (List.mem_of_getElem? (i := 1) rfl)) (hts _ (List.mem_of_getElem? (i := 2) rfl)) (hSx.1 _ (List.mem_of_getElem? (i := 12) rfl)) (at_IA hSx (fun w h => hts w ((fun _ h => List.mem_cons_of_mem _ (List.mem_append_left _ (List.mem_append_left _ (List.mem_append_right _ h)))) w h))) ga_IA hZ hK hw (hl.1.trans hml.symm) dX10_deliver_36 dX10_deliver_39 dX10_deliver_40 dX10_deliver_43 dX10_deliver_46 hout (Nat.le_of_ble_eq_true rfl) (Nat.le_of_ble_eq_true rfl) (Nat.le_of_ble_eq_true rfl) (Nat.le_of_ble_eq_true rfl) hlocks rfl

set_option maxRecDepth 100000 in
set_option maxHeartbeats 1000000 in
theorem ct_X10_deliverY1 (l : Launch) (hst : l.stackTraces = false) (sa : Nat → Nat) (D : va_G) (cA : Nat → ClassId) (α : Nat → Nat) (n sz : Nat) (hn : 191 ≤ n) (S : Mem) (Cn : Nat) (hC : S.1 23 1 = nI Cn) (hC2 : Cn ≤ 6) (Pn : Nat) (hP9 : S.1 23 2 = nI Pn) (hP2 : Pn ≤ 6) (a b c0 : Nat) (ha : a < Cn) (hb0 : b < Pn) (hc0 : c0 < Cn) (hac : a ≠ c0) (hmk : ¬ S.1 26 b = nI c0) (q9 p9 : Int32) (hx9 : ¬ ∃ i, 1 ≤ i ∧ i ≤ 999 ∧ q9 = nI i) : CtX sa l yX10_deliver wsX10_deliver ({ frames := 7, cells := 1, slots := 6, locals := 123 }) D cA α n sz [.ref (α 0), .int (nI b), .int (nI a), .int (nI c0), .int q9, .int p9] S eIA := by
  refine ctx_enter cX10_deliver 7 (some .int) (by decide) rfl (Nat.le_of_ble_eq_true rfl) ?_
  intro p e s m below meth c hx hb hr hml hlocks hown hts hK hsz hw hZ hSx hout ls hl
  have hown : s.vm.findClass RX10 = some m.cls := hown
  have hAw : ∀ z, Aw α n s.heap.size z → Aw α n sz z := by rw [hsz]; exact fun _ h => h
  have hl : lv_has ls 7 [(0, .ref (α 0)), (1, .int (nI b)), (2, .int (nI a)), (3, .int (nI c0)), (4, .int q9), (5, .int p9)] := hl
  refine lv_aload_n hx hb dX10_deliver_0 rfl (lv_at hl 0 rfl) ?_
  refine lv_iload_n hx hb dX10_deliver_1 rfl (lv_at hl 1 rfl) ?_
  refine x_callVVr (q := 0) (C := RX10) (As := [.int (nI b)]) (rest := []) ⟨hx, hb, hml, hown, hts⟩ (ct_X10_requireProduct l D cA α n _ hn S Pn hP9 hP2 b hb0) (cwV 1 hts gX10_deliver_X10_requireProduct rfl rfl rfl (by decide +kernel) ⟨Nat.le_of_ble_eq_true rfl, Nat.le_of_ble_eq_true rfl⟩) hK hw hAw (ws_recv hK hw (q := 0) (Nat.lt_of_lt_of_le (Nat.le_of_ble_eq_true rfl : 0 < 191) hn) (mk_0 cA α) rfl) rfl hl.1 rfl (Nat.le_of_ble_eq_true rfl) dX10_deliver_2 ⟨Nat.zero_le _, Nat.zero_le _⟩ (fun H locs hw => ?_)
  refine lv_aload_n hx hb dX10_deliver_5 rfl (lv_at hl 0 rfl) ?_
  refine lv_iload_n hx hb dX10_deliver_6 rfl (lv_at hl 2 rfl) ?_
  refine x_callVVr (q := 0) (C := RX10) (As := [.int (nI a)]) (rest := []) ⟨hx, hb, hml, hown, hts⟩ (ct_X10_requireCompany l D cA α n _ hn S Cn hC hC2 a ha) (cwV 1 hts gX10_deliver_X10_requireCompany rfl rfl rfl (by decide +kernel) ⟨Nat.le_of_ble_eq_true rfl, Nat.le_of_ble_eq_true rfl⟩) hK hw hAw (ws_recv hK hw (q := 0) (Nat.lt_of_lt_of_le (Nat.le_of_ble_eq_true rfl : 0 < 191) hn) (mk_0 cA α) rfl) rfl hl.1 rfl (Nat.le_of_ble_eq_true rfl) dX10_deliver_7 ⟨Nat.zero_le _, Nat.zero_le _⟩ (fun H locs hw => ?_)
  refine lv_aload_n hx hb dX10_deliver_10 rfl (lv_at hl 0 rfl) ?_
  refine lv_iload_n hx hb dX10_deliver_11 rfl (lv_at hl 3 rfl) ?_
  refine x_callVVr (q := 0) (C := RX10) (As := [.int (nI c0)]) (rest := []) ⟨hx, hb, hml, hown, hts⟩ (ct_X10_requireCompany l D cA α n _ hn S Cn hC hC2 c0 hc0) (cwV 1 hts gX10_deliver_X10_requireCompany rfl rfl rfl (by decide +kernel) ⟨Nat.le_of_ble_eq_true rfl, Nat.le_of_ble_eq_true rfl⟩) hK hw hAw (ws_recv hK hw (q := 0) (Nat.lt_of_lt_of_le (Nat.le_of_ble_eq_true rfl : 0 < 191) hn) (mk_0 cA α) rfl) rfl hl.1 rfl (Nat.le_of_ble_eq_true rfl) dX10_deliver_12 ⟨Nat.zero_le _, Nat.zero_le _⟩ (fun H locs hw => ?_)
  refine lv_iload_n hx hb dX10_deliver_15 rfl (lv_at hl 2 rfl) ?_
  refine lv_iload_n hx hb dX10_deliver_16 rfl (lv_at hl 3 rfl) ?_
  refine xn_icmp_eq (tgt := 36) hx hb (by omega) (by omega) dX10_deliver_17 (by decide) (fun c1 => ?_) (fun c1 => ?_)
  · exact absurd c1 hac
  · skip
    refine lv_iload_n hx hb dX10_deliver_20 rfl (lv_at hl 3 rfl) ?_
    refine lv_aload_n hx hb dX10_deliver_21 rfl (lv_at hl 0 rfl) ?_
    refine x_get (v := .ref (α 3)) (C := RX10) (T := TX10) (N := 7) hx hb hts (fun _ h => List.mem_cons_of_mem _ (List.mem_append_left _ (List.mem_append_left _ (List.mem_append_left _ (List.mem_append_left _ (List.mem_append_left _ (List.mem_append_left _ (List.mem_append_left _ (List.mem_append_left _ (List.mem_append_right _ h)))))))))) hown hK hw 0 (Nat.lt_of_lt_of_le (Nat.le_of_ble_eq_true rfl : 0 < 191) hn) (mk_0 cA α) rfl 1 (by decide) (hts _ (List.mem_of_getElem? (i := 5) rfl)) (fun _ h9 => h9) rfl dX10_deliver_22 ?_
    refine x_get (v := .ref (α 23)) (C := RX0) (T := TX0) (N := 3) hx hb hts (fun _ h => List.mem_cons_of_mem _ (List.mem_append_left _ (List.mem_append_left _ (List.mem_append_left _ (List.mem_append_left _ (List.mem_append_left _ (List.mem_append_left _ (List.mem_append_left _ (List.mem_append_right _ h))))))))) hown hK hw 3 (Nat.lt_of_lt_of_le (Nat.le_of_ble_eq_true rfl : 3 < 191) hn) (mk_3 cA α) rfl 0 (by decide) (hts _ (List.mem_of_getElem? (i := 6) rfl)) (fun _ h9 => h9) rfl dX10_deliver_25 ?_
    refine x_get (v := .ref (α 26)) (C := RX2) (T := TX2) (N := 12) hx hb hts (fun _ h => List.mem_cons_of_mem _ (List.mem_append_left _ (List.mem_append_left _ (List.mem_append_left _ (List.mem_append_left _ (List.mem_append_left _ (List.mem_append_left _ (List.mem_append_right _ h)))))))) hown hK hw 23 (Nat.lt_of_lt_of_le (Nat.le_of_ble_eq_true rfl : 23 < 191) hn) (mk_23 cA α) rfl 8 (by decide) (hts _ (List.mem_of_getElem? (i := 7) rfl)) (fun _ h9 => h9) rfl dX10_deliver_28 ?_
    refine lv_iload_n hx hb dX10_deliver_31 rfl (lv_at hl 1 rfl) ?_
    refine x_iald hx hb hK hw 26 6 (Nat.lt_of_lt_of_le (Nat.le_of_ble_eq_true rfl : 26 < 191) hn) (mk_26 cA α) b rfl (by omega) (by decide) dX10_deliver_32 ?_
    refine lv_icmp_ne (tgt := 47) hx hb dX10_deliver_33 (by decide) (fun c2 => ?_) (fun c2 => ?_)
    · skip
      refine lv_iload hx hb dX10_deliver_47 (lv_at hl 4 rfl) ?_
      refine lv_iconst (v := nI 1) hx hb dX10_deliver_49 (by decide) ?_
      refine lv_sipush (v := nI 999) hx hb dX10_deliver_50 (by decide) ?_
      exact x_callXS (As := [.int q9, .int (nI 1), .int (nI 999)]) (rest := []) ⟨hx, hb, hml, hown, hts⟩ (ct_X10_requireRangeX l hst sa D cA α n _ hn S q9 1 999 (by decide) (by decide) hx9) (va_cwS 3 hts gX10_deliver_X10_requireRange rfl rfl rfl (by decide +kernel) ⟨Nat.le_of_ble_eq_true rfl, Nat.le_of_ble_eq_true rfl⟩) hK hw hsz hZ hSx rfl hl.1 rfl (Nat.le_of_ble_eq_true rfl) dX10_deliver_53 ⟨Nat.le_of_ble_eq_true rfl, Nat.le_of_ble_eq_true rfl⟩ hout hlocks rfl
    · exact absurd c2.symm hmk

set_option maxRecDepth 100000 in
set_option maxHeartbeats 1000000 in
theorem ct_X10_deliverY2 (l : Launch) (hst : l.stackTraces = false) (sa : Nat → Nat) (D : va_G) (cA : Nat → ClassId) (α : Nat → Nat) (n sz : Nat) (hn : 191 ≤ n) (S : Mem) (Cn : Nat) (hC : S.1 23 1 = nI Cn) (hC2 : Cn ≤ 6) (Pn : Nat) (hP9 : S.1 23 2 = nI Pn) (hP2 : Pn ≤ 6) (a b c0 : Nat) (ha : a < Cn) (hb0 : b < Pn) (hc0 : c0 < Cn) (hac : a ≠ c0) (hmk : ¬ S.1 26 b = nI c0) (q9 p9 : Int32) (h1 : ∃ i, 1 ≤ i ∧ i ≤ 999 ∧ q9 = nI i) (hx9 : ¬ ∃ i, 1 ≤ i ∧ i ≤ 99999 ∧ p9 = nI i) : CtX sa l yX10_deliver wsX10_deliver ({ frames := 7, cells := 1, slots := 6, locals := 123 }) D cA α n sz [.ref (α 0), .int (nI b), .int (nI a), .int (nI c0), .int q9, .int p9] S eIA := by
  refine ctx_enter cX10_deliver 7 (some .int) (by decide) rfl (Nat.le_of_ble_eq_true rfl) ?_
  intro p e s m below meth c hx hb hr hml hlocks hown hts hK hsz hw hZ hSx hout ls hl
  have hown : s.vm.findClass RX10 = some m.cls := hown
  have hAw : ∀ z, Aw α n s.heap.size z → Aw α n sz z := by rw [hsz]; exact fun _ h => h
  have hl : lv_has ls 7 [(0, .ref (α 0)), (1, .int (nI b)), (2, .int (nI a)), (3, .int (nI c0)), (4, .int q9), (5, .int p9)] := hl
  refine lv_aload_n hx hb dX10_deliver_0 rfl (lv_at hl 0 rfl) ?_
  refine lv_iload_n hx hb dX10_deliver_1 rfl (lv_at hl 1 rfl) ?_
  refine x_callVVr (q := 0) (C := RX10) (As := [.int (nI b)]) (rest := []) ⟨hx, hb, hml, hown, hts⟩ (ct_X10_requireProduct l D cA α n _ hn S Pn hP9 hP2 b hb0) (cwV 1 hts gX10_deliver_X10_requireProduct rfl rfl rfl (by decide +kernel) ⟨Nat.le_of_ble_eq_true rfl, Nat.le_of_ble_eq_true rfl⟩) hK hw hAw (ws_recv hK hw (q := 0) (Nat.lt_of_lt_of_le (Nat.le_of_ble_eq_true rfl : 0 < 191) hn) (mk_0 cA α) rfl) rfl hl.1 rfl (Nat.le_of_ble_eq_true rfl) dX10_deliver_2 ⟨Nat.zero_le _, Nat.zero_le _⟩ (fun H locs hw => ?_)
  refine lv_aload_n hx hb dX10_deliver_5 rfl (lv_at hl 0 rfl) ?_
  refine lv_iload_n hx hb dX10_deliver_6 rfl (lv_at hl 2 rfl) ?_
  refine x_callVVr (q := 0) (C := RX10) (As := [.int (nI a)]) (rest := []) ⟨hx, hb, hml, hown, hts⟩ (ct_X10_requireCompany l D cA α n _ hn S Cn hC hC2 a ha) (cwV 1 hts gX10_deliver_X10_requireCompany rfl rfl rfl (by decide +kernel) ⟨Nat.le_of_ble_eq_true rfl, Nat.le_of_ble_eq_true rfl⟩) hK hw hAw (ws_recv hK hw (q := 0) (Nat.lt_of_lt_of_le (Nat.le_of_ble_eq_true rfl : 0 < 191) hn) (mk_0 cA α) rfl) rfl hl.1 rfl (Nat.le_of_ble_eq_true rfl) dX10_deliver_7 ⟨Nat.zero_le _, Nat.zero_le _⟩ (fun H locs hw => ?_)
  refine lv_aload_n hx hb dX10_deliver_10 rfl (lv_at hl 0 rfl) ?_
  refine lv_iload_n hx hb dX10_deliver_11 rfl (lv_at hl 3 rfl) ?_
  refine x_callVVr (q := 0) (C := RX10) (As := [.int (nI c0)]) (rest := []) ⟨hx, hb, hml, hown, hts⟩ (ct_X10_requireCompany l D cA α n _ hn S Cn hC hC2 c0 hc0) (cwV 1 hts gX10_deliver_X10_requireCompany rfl rfl rfl (by decide +kernel) ⟨Nat.le_of_ble_eq_true rfl, Nat.le_of_ble_eq_true rfl⟩) hK hw hAw (ws_recv hK hw (q := 0) (Nat.lt_of_lt_of_le (Nat.le_of_ble_eq_true rfl : 0 < 191) hn) (mk_0 cA α) rfl) rfl hl.1 rfl (Nat.le_of_ble_eq_true rfl) dX10_deliver_12 ⟨Nat.zero_le _, Nat.zero_le _⟩ (fun H locs hw => ?_)
  refine lv_iload_n hx hb dX10_deliver_15 rfl (lv_at hl 2 rfl) ?_
  refine lv_iload_n hx hb dX10_deliver_16 rfl (lv_at hl 3 rfl) ?_
  refine xn_icmp_eq (tgt := 36) hx hb (by omega) (by omega) dX10_deliver_17 (by decide) (fun c1 => ?_) (fun c1 => ?_)
  · exact absurd c1 hac
  · skip
    refine lv_iload_n hx hb dX10_deliver_20 rfl (lv_at hl 3 rfl) ?_
    refine lv_aload_n hx hb dX10_deliver_21 rfl (lv_at hl 0 rfl) ?_
    refine x_get (v := .ref (α 3)) (C := RX10) (T := TX10) (N := 7) hx hb hts (fun _ h => List.mem_cons_of_mem _ (List.mem_append_left _ (List.mem_append_left _ (List.mem_append_left _ (List.mem_append_left _ (List.mem_append_left _ (List.mem_append_left _ (List.mem_append_left _ (List.mem_append_left _ (List.mem_append_right _ h)))))))))) hown hK hw 0 (Nat.lt_of_lt_of_le (Nat.le_of_ble_eq_true rfl : 0 < 191) hn) (mk_0 cA α) rfl 1 (by decide) (hts _ (List.mem_of_getElem? (i := 5) rfl)) (fun _ h9 => h9) rfl dX10_deliver_22 ?_
    refine x_get (v := .ref (α 23)) (C := RX0) (T := TX0) (N := 3) hx hb hts (fun _ h => List.mem_cons_of_mem _ (List.mem_append_left _ (List.mem_append_left _ (List.mem_append_left _ (List.mem_append_left _ (List.mem_append_left _ (List.mem_append_left _ (List.mem_append_left _ (List.mem_append_right _ h))))))))) hown hK hw 3 (Nat.lt_of_lt_of_le (Nat.le_of_ble_eq_true rfl : 3 < 191) hn) (mk_3 cA α) rfl 0 (by decide) (hts _ (List.mem_of_getElem? (i := 6) rfl)) (fun _ h9 => h9) rfl dX10_deliver_25 ?_
    refine x_get (v := .ref (α 26)) (C := RX2) (T := TX2) (N := 12) hx hb hts (fun _ h => List.mem_cons_of_mem _ (List.mem_append_left _ (List.mem_append_left _ (List.mem_append_left _ (List.mem_append_left _ (List.mem_append_left _ (List.mem_append_left _ (List.mem_append_right _ h)))))))) hown hK hw 23 (Nat.lt_of_lt_of_le (Nat.le_of_ble_eq_true rfl : 23 < 191) hn) (mk_23 cA α) rfl 8 (by decide) (hts _ (List.mem_of_getElem? (i := 7) rfl)) (fun _ h9 => h9) rfl dX10_deliver_28 ?_
    refine lv_iload_n hx hb dX10_deliver_31 rfl (lv_at hl 1 rfl) ?_
    refine x_iald hx hb hK hw 26 6 (Nat.lt_of_lt_of_le (Nat.le_of_ble_eq_true rfl : 26 < 191) hn) (mk_26 cA α) b rfl (by omega) (by decide) dX10_deliver_32 ?_
    refine lv_icmp_ne (tgt := 47) hx hb dX10_deliver_33 (by decide) (fun c2 => ?_) (fun c2 => ?_)
    · skip
      refine lv_iload hx hb dX10_deliver_47 (lv_at hl 4 rfl) ?_
      refine lv_iconst (v := nI 1) hx hb dX10_deliver_49 (by decide) ?_
      refine lv_sipush (v := nI 999) hx hb dX10_deliver_50 (by decide) ?_
      refine x_callSVr (q := 0) (C := RX0) (As := [.int q9, .int (nI 1), .int (nI 999)]) (rest := []) ⟨hx, hb, hml, hown, hts⟩ (ct_X10_requireRange l D cA α n _ hn S q9 1 999 (by decide) (by decide) h1) (va_cwS 3 hts gX10_deliver_X10_requireRange rfl rfl rfl (by decide +kernel) ⟨Nat.le_of_ble_eq_true rfl, Nat.le_of_ble_eq_true rfl⟩) hK hw hAw rfl hl.1 rfl (Nat.le_of_ble_eq_true rfl) dX10_deliver_53 ⟨Nat.zero_le _, Nat.zero_le _⟩ (fun H locs hw => ?_)
      refine lv_iload hx hb dX10_deliver_56 (lv_at hl 5 rfl) ?_
      refine lv_iconst (v := nI 1) hx hb dX10_deliver_58 (by decide) ?_
      refine lv_ldcw (v := 99999) hx hb hown (hts _ (List.mem_of_getElem? (i := 8) rfl)) dX10_deliver_59 ?_
      refine x_topN (k := 99999) (by decide) ?_
      exact x_callXS (As := [.int p9, .int (nI 1), .int (nI 99999)]) (rest := []) ⟨hx, hb, hml, hown, hts⟩ (ct_X10_requireRangeX l hst sa D cA α n _ hn S p9 1 99999 (by decide) (by decide) hx9) (va_cwS 3 hts gX10_deliver_X10_requireRange rfl rfl rfl (by decide +kernel) ⟨Nat.le_of_ble_eq_true rfl, Nat.le_of_ble_eq_true rfl⟩) hK hw hsz hZ hSx rfl hl.1 rfl (Nat.le_of_ble_eq_true rfl) dX10_deliver_62 ⟨Nat.le_of_ble_eq_true rfl, Nat.le_of_ble_eq_true rfl⟩ hout hlocks rfl
    · exact absurd c2.symm hmk

set_option maxRecDepth 100000 in
set_option maxHeartbeats 1000000 in
theorem ct_X10_deliverZ (l : Launch) (hst : l.stackTraces = false) (sa : Nat → Nat) (D : va_G) (cA : Nat → ClassId) (α : Nat → Nat) (n sz : Nat) (hn : 191 ≤ n) (S : Mem) (Cn : Nat) (hC : S.1 23 1 = nI Cn) (hC2 : Cn ≤ 6) (Pn : Nat) (hP9 : S.1 23 2 = nI Pn) (hP2 : Pn ≤ 6) (a b c0 : Nat) (ha : a < Cn) (hb0 : b < Pn) (hc0 : c0 < Cn) (hac : a ≠ c0) (hmk : ¬ S.1 26 b = nI c0) (q9 p9 : Int32) (h1 : ∃ i, 1 ≤ i ∧ i ≤ 999 ∧ q9 = nI i) (h2 : ∃ i, 1 ≤ i ∧ i ≤ 99999 ∧ p9 = nI i) (M : Nat) (hM : S.1 74 1 = nI M) (hM2 : M ≤ 100) (hct : cCan S (nI a) b q9 M = false) : CtX sa l yX10_deliver wsX10_deliver ({ frames := 7, cells := 1, slots := 6, locals := 123 }) D cA α n sz [.ref (α 0), .int (nI b), .int (nI a), .int (nI c0), .int q9, .int p9] S eIS := by
  refine ctx_enter cX10_deliver 7 (some .int) (by decide) rfl (Nat.le_of_ble_eq_true rfl) ?_
  intro p e s m below meth c hx hb hr hml hlocks hown hts hK hsz hw hZ hSx hout ls hl
  have hown : s.vm.findClass RX10 = some m.cls := hown
  have hAw : ∀ z, Aw α n s.heap.size z → Aw α n sz z := by rw [hsz]; exact fun _ h => h
  have hl : lv_has ls 7 [(0, .ref (α 0)), (1, .int (nI b)), (2, .int (nI a)), (3, .int (nI c0)), (4, .int q9), (5, .int p9)] := hl
  refine lv_aload_n hx hb dX10_deliver_0 rfl (lv_at hl 0 rfl) ?_
  refine lv_iload_n hx hb dX10_deliver_1 rfl (lv_at hl 1 rfl) ?_
  refine x_callVVr (q := 0) (C := RX10) (As := [.int (nI b)]) (rest := []) ⟨hx, hb, hml, hown, hts⟩ (ct_X10_requireProduct l D cA α n _ hn S Pn hP9 hP2 b hb0) (cwV 1 hts gX10_deliver_X10_requireProduct rfl rfl rfl (by decide +kernel) ⟨Nat.le_of_ble_eq_true rfl, Nat.le_of_ble_eq_true rfl⟩) hK hw hAw (ws_recv hK hw (q := 0) (Nat.lt_of_lt_of_le (Nat.le_of_ble_eq_true rfl : 0 < 191) hn) (mk_0 cA α) rfl) rfl hl.1 rfl (Nat.le_of_ble_eq_true rfl) dX10_deliver_2 ⟨Nat.zero_le _, Nat.zero_le _⟩ (fun H locs hw => ?_)
  refine lv_aload_n hx hb dX10_deliver_5 rfl (lv_at hl 0 rfl) ?_
  refine lv_iload_n hx hb dX10_deliver_6 rfl (lv_at hl 2 rfl) ?_
  refine x_callVVr (q := 0) (C := RX10) (As := [.int (nI a)]) (rest := []) ⟨hx, hb, hml, hown, hts⟩ (ct_X10_requireCompany l D cA α n _ hn S Cn hC hC2 a ha) (cwV 1 hts gX10_deliver_X10_requireCompany rfl rfl rfl (by decide +kernel) ⟨Nat.le_of_ble_eq_true rfl, Nat.le_of_ble_eq_true rfl⟩) hK hw hAw (ws_recv hK hw (q := 0) (Nat.lt_of_lt_of_le (Nat.le_of_ble_eq_true rfl : 0 < 191) hn) (mk_0 cA α) rfl) rfl hl.1 rfl (Nat.le_of_ble_eq_true rfl) dX10_deliver_7 ⟨Nat.zero_le _, Nat.zero_le _⟩ (fun H locs hw => ?_)
  refine lv_aload_n hx hb dX10_deliver_10 rfl (lv_at hl 0 rfl) ?_
  refine lv_iload_n hx hb dX10_deliver_11 rfl (lv_at hl 3 rfl) ?_
  refine x_callVVr (q := 0) (C := RX10) (As := [.int (nI c0)]) (rest := []) ⟨hx, hb, hml, hown, hts⟩ (ct_X10_requireCompany l D cA α n _ hn S Cn hC hC2 c0 hc0) (cwV 1 hts gX10_deliver_X10_requireCompany rfl rfl rfl (by decide +kernel) ⟨Nat.le_of_ble_eq_true rfl, Nat.le_of_ble_eq_true rfl⟩) hK hw hAw (ws_recv hK hw (q := 0) (Nat.lt_of_lt_of_le (Nat.le_of_ble_eq_true rfl : 0 < 191) hn) (mk_0 cA α) rfl) rfl hl.1 rfl (Nat.le_of_ble_eq_true rfl) dX10_deliver_12 ⟨Nat.zero_le _, Nat.zero_le _⟩ (fun H locs hw => ?_)
  refine lv_iload_n hx hb dX10_deliver_15 rfl (lv_at hl 2 rfl) ?_
  refine lv_iload_n hx hb dX10_deliver_16 rfl (lv_at hl 3 rfl) ?_
  refine xn_icmp_eq (tgt := 36) hx hb (by omega) (by omega) dX10_deliver_17 (by decide) (fun c1 => ?_) (fun c1 => ?_)
  · exact absurd c1 hac
  · skip
    refine lv_iload_n hx hb dX10_deliver_20 rfl (lv_at hl 3 rfl) ?_
    refine lv_aload_n hx hb dX10_deliver_21 rfl (lv_at hl 0 rfl) ?_
    refine x_get (v := .ref (α 3)) (C := RX10) (T := TX10) (N := 7) hx hb hts (fun _ h => List.mem_cons_of_mem _ (List.mem_append_left _ (List.mem_append_left _ (List.mem_append_left _ (List.mem_append_left _ (List.mem_append_left _ (List.mem_append_left _ (List.mem_append_left _ (List.mem_append_left _ (List.mem_append_right _ h)))))))))) hown hK hw 0 (Nat.lt_of_lt_of_le (Nat.le_of_ble_eq_true rfl : 0 < 191) hn) (mk_0 cA α) rfl 1 (by decide) (hts _ (List.mem_of_getElem? (i := 5) rfl)) (fun _ h9 => h9) rfl dX10_deliver_22 ?_
    refine x_get (v := .ref (α 23)) (C := RX0) (T := TX0) (N := 3) hx hb hts (fun _ h => List.mem_cons_of_mem _ (List.mem_append_left _ (List.mem_append_left _ (List.mem_append_left _ (List.mem_append_left _ (List.mem_append_left _ (List.mem_append_left _ (List.mem_append_left _ (List.mem_append_right _ h))))))))) hown hK hw 3 (Nat.lt_of_lt_of_le (Nat.le_of_ble_eq_true rfl : 3 < 191) hn) (mk_3 cA α) rfl 0 (by decide) (hts _ (List.mem_of_getElem? (i := 6) rfl)) (fun _ h9 => h9) rfl dX10_deliver_25 ?_
    refine x_get (v := .ref (α 26)) (C := RX2) (T := TX2) (N := 12) hx hb hts (fun _ h => List.mem_cons_of_mem _ (List.mem_append_left _ (List.mem_append_left _ (List.mem_append_left _ (List.mem_append_left _ (List.mem_append_left _ (List.mem_append_left _ (List.mem_append_right _ h)))))))) hown hK hw 23 (Nat.lt_of_lt_of_le (Nat.le_of_ble_eq_true rfl : 23 < 191) hn) (mk_23 cA α) rfl 8 (by decide) (hts _ (List.mem_of_getElem? (i := 7) rfl)) (fun _ h9 => h9) rfl dX10_deliver_28 ?_
    refine lv_iload_n hx hb dX10_deliver_31 rfl (lv_at hl 1 rfl) ?_
    refine x_iald hx hb hK hw 26 6 (Nat.lt_of_lt_of_le (Nat.le_of_ble_eq_true rfl : 26 < 191) hn) (mk_26 cA α) b rfl (by omega) (by decide) dX10_deliver_32 ?_
    refine lv_icmp_ne (tgt := 47) hx hb dX10_deliver_33 (by decide) (fun c2 => ?_) (fun c2 => ?_)
    · skip
      refine lv_iload hx hb dX10_deliver_47 (lv_at hl 4 rfl) ?_
      refine lv_iconst (v := nI 1) hx hb dX10_deliver_49 (by decide) ?_
      refine lv_sipush (v := nI 999) hx hb dX10_deliver_50 (by decide) ?_
      refine x_callSVr (q := 0) (C := RX0) (As := [.int q9, .int (nI 1), .int (nI 999)]) (rest := []) ⟨hx, hb, hml, hown, hts⟩ (ct_X10_requireRange l D cA α n _ hn S q9 1 999 (by decide) (by decide) h1) (va_cwS 3 hts gX10_deliver_X10_requireRange rfl rfl rfl (by decide +kernel) ⟨Nat.le_of_ble_eq_true rfl, Nat.le_of_ble_eq_true rfl⟩) hK hw hAw rfl hl.1 rfl (Nat.le_of_ble_eq_true rfl) dX10_deliver_53 ⟨Nat.zero_le _, Nat.zero_le _⟩ (fun H locs hw => ?_)
      refine lv_iload hx hb dX10_deliver_56 (lv_at hl 5 rfl) ?_
      refine lv_iconst (v := nI 1) hx hb dX10_deliver_58 (by decide) ?_
      refine lv_ldcw (v := 99999) hx hb hown (hts _ (List.mem_of_getElem? (i := 8) rfl)) dX10_deliver_59 ?_
      refine x_topN (k := 99999) (by decide) ?_
      refine x_callSVr (q := 0) (C := RX0) (As := [.int p9, .int (nI 1), .int (nI 99999)]) (rest := []) ⟨hx, hb, hml, hown, hts⟩ (ct_X10_requireRange l D cA α n _ hn S p9 1 99999 (by decide) (by decide) h2) (va_cwS 3 hts gX10_deliver_X10_requireRange rfl rfl rfl (by decide +kernel) ⟨Nat.le_of_ble_eq_true rfl, Nat.le_of_ble_eq_true rfl⟩) hK hw hAw rfl hl.1 rfl (Nat.le_of_ble_eq_true rfl) dX10_deliver_62 ⟨Nat.zero_le _, Nat.zero_le _⟩ (fun H locs hw => ?_)
      refine lv_aload_n hx hb dX10_deliver_65 rfl (lv_at hl 0 rfl) ?_
      refine lv_iload_n hx hb dX10_deliver_66 rfl (lv_at hl 2 rfl) ?_
      refine lv_iload_n hx hb dX10_deliver_67 rfl (lv_at hl 1 rfl) ?_
      refine lv_iload hx hb dX10_deliver_68 (lv_at hl 4 rfl) ?_
      exact x_callXV (q := 0) (C := RX10) (As := [.int (nI a), .int (nI b), .int q9]) (rest := []) ⟨hx, hb, hml, hown, hts⟩ (ct_X10_requirePiecesX l hst sa D cA α n _ hn S (nI a) b q9 (by omega) M hM hM2 hct) (cwV 3 hts gX10_deliver_X10_requirePieces rfl rfl rfl (by decide +kernel) ⟨Nat.le_of_ble_eq_true rfl, Nat.le_of_ble_eq_true rfl⟩) hK hw hsz hZ hSx (ws_recv hK hw (q := 0) (Nat.lt_of_lt_of_le (Nat.le_of_ble_eq_true rfl : 0 < 191) hn) (mk_0 cA α) rfl) rfl hl.1 rfl (Nat.le_of_ble_eq_true rfl) dX10_deliver_70 ⟨Nat.le_of_ble_eq_true rfl, Nat.le_of_ble_eq_true rfl⟩ hout hlocks rfl
    · exact absurd c2.symm hmk

set_option maxRecDepth 100000 in
set_option maxHeartbeats 1000000 in
theorem ct_X10_deliverZ1 (l : Launch) (hst : l.stackTraces = false) (sa : Nat → Nat) (D : va_G) (cA : Nat → ClassId) (α : Nat → Nat) (n sz : Nat) (hn : 191 ≤ n) (S : Mem) (Cn : Nat) (hC : S.1 23 1 = nI Cn) (hC2 : Cn ≤ 6) (Pn : Nat) (hP9 : S.1 23 2 = nI Pn) (hP2 : Pn ≤ 6) (a b c0 : Nat) (ha : a < Cn) (hb0 : b < Pn) (hc0 : c0 < Cn) (hac : a ≠ c0) (hmk : ¬ S.1 26 b = nI c0) (q9 p9 : Int32) (h1 : ∃ i, 1 ≤ i ∧ i ≤ 999 ∧ q9 = nI i) (h2 : ∃ i, 1 ≤ i ∧ i ≤ 99999 ∧ p9 = nI i) (M : Nat) (hM : S.1 74 1 = nI M) (hM2 : M = 100) (hct : cCan S (nI a) b q9 M = true) : CtX sa l yX10_deliver wsX10_deliver ({ frames := 7, cells := 1, slots := 6, locals := 123 }) D cA α n sz [.ref (α 0), .int (nI b), .int (nI a), .int (nI c0), .int q9, .int p9] S eIS := by
  refine ctx_enter cX10_deliver 7 (some .int) (by decide) rfl (Nat.le_of_ble_eq_true rfl) ?_
  intro p e s m below meth c hx hb hr hml hlocks hown hts hK hsz hw hZ hSx hout ls hl
  have hown : s.vm.findClass RX10 = some m.cls := hown
  have hAw : ∀ z, Aw α n s.heap.size z → Aw α n sz z := by rw [hsz]; exact fun _ h => h
  have hl : lv_has ls 7 [(0, .ref (α 0)), (1, .int (nI b)), (2, .int (nI a)), (3, .int (nI c0)), (4, .int q9), (5, .int p9)] := hl
  refine lv_aload_n hx hb dX10_deliver_0 rfl (lv_at hl 0 rfl) ?_
  refine lv_iload_n hx hb dX10_deliver_1 rfl (lv_at hl 1 rfl) ?_
  refine x_callVVr (q := 0) (C := RX10) (As := [.int (nI b)]) (rest := []) ⟨hx, hb, hml, hown, hts⟩ (ct_X10_requireProduct l D cA α n _ hn S Pn hP9 hP2 b hb0) (cwV 1 hts gX10_deliver_X10_requireProduct rfl rfl rfl (by decide +kernel) ⟨Nat.le_of_ble_eq_true rfl, Nat.le_of_ble_eq_true rfl⟩) hK hw hAw (ws_recv hK hw (q := 0) (Nat.lt_of_lt_of_le (Nat.le_of_ble_eq_true rfl : 0 < 191) hn) (mk_0 cA α) rfl) rfl hl.1 rfl (Nat.le_of_ble_eq_true rfl) dX10_deliver_2 ⟨Nat.zero_le _, Nat.zero_le _⟩ (fun H locs hw => ?_)
  refine lv_aload_n hx hb dX10_deliver_5 rfl (lv_at hl 0 rfl) ?_
  refine lv_iload_n hx hb dX10_deliver_6 rfl (lv_at hl 2 rfl) ?_
  refine x_callVVr (q := 0) (C := RX10) (As := [.int (nI a)]) (rest := []) ⟨hx, hb, hml, hown, hts⟩ (ct_X10_requireCompany l D cA α n _ hn S Cn hC hC2 a ha) (cwV 1 hts gX10_deliver_X10_requireCompany rfl rfl rfl (by decide +kernel) ⟨Nat.le_of_ble_eq_true rfl, Nat.le_of_ble_eq_true rfl⟩) hK hw hAw (ws_recv hK hw (q := 0) (Nat.lt_of_lt_of_le (Nat.le_of_ble_eq_true rfl : 0 < 191) hn) (mk_0 cA α) rfl) rfl hl.1 rfl (Nat.le_of_ble_eq_true rfl) dX10_deliver_7 ⟨Nat.zero_le _, Nat.zero_le _⟩ (fun H locs hw => ?_)
  refine lv_aload_n hx hb dX10_deliver_10 rfl (lv_at hl 0 rfl) ?_
  refine lv_iload_n hx hb dX10_deliver_11 rfl (lv_at hl 3 rfl) ?_
  refine x_callVVr (q := 0) (C := RX10) (As := [.int (nI c0)]) (rest := []) ⟨hx, hb, hml, hown, hts⟩ (ct_X10_requireCompany l D cA α n _ hn S Cn hC hC2 c0 hc0) (cwV 1 hts gX10_deliver_X10_requireCompany rfl rfl rfl (by decide +kernel) ⟨Nat.le_of_ble_eq_true rfl, Nat.le_of_ble_eq_true rfl⟩) hK hw hAw (ws_recv hK hw (q := 0) (Nat.lt_of_lt_of_le (Nat.le_of_ble_eq_true rfl : 0 < 191) hn) (mk_0 cA α) rfl) rfl hl.1 rfl (Nat.le_of_ble_eq_true rfl) dX10_deliver_12 ⟨Nat.zero_le _, Nat.zero_le _⟩ (fun H locs hw => ?_)
  refine lv_iload_n hx hb dX10_deliver_15 rfl (lv_at hl 2 rfl) ?_
  refine lv_iload_n hx hb dX10_deliver_16 rfl (lv_at hl 3 rfl) ?_
  refine xn_icmp_eq (tgt := 36) hx hb (by omega) (by omega) dX10_deliver_17 (by decide) (fun c1 => ?_) (fun c1 => ?_)
  · exact absurd c1 hac
  · skip
    refine lv_iload_n hx hb dX10_deliver_20 rfl (lv_at hl 3 rfl) ?_
    refine lv_aload_n hx hb dX10_deliver_21 rfl (lv_at hl 0 rfl) ?_
    refine x_get (v := .ref (α 3)) (C := RX10) (T := TX10) (N := 7) hx hb hts (fun _ h => List.mem_cons_of_mem _ (List.mem_append_left _ (List.mem_append_left _ (List.mem_append_left _ (List.mem_append_left _ (List.mem_append_left _ (List.mem_append_left _ (List.mem_append_left _ (List.mem_append_left _ (List.mem_append_right _ h)))))))))) hown hK hw 0 (Nat.lt_of_lt_of_le (Nat.le_of_ble_eq_true rfl : 0 < 191) hn) (mk_0 cA α) rfl 1 (by decide) (hts _ (List.mem_of_getElem? (i := 5) rfl)) (fun _ h9 => h9) rfl dX10_deliver_22 ?_
    refine x_get (v := .ref (α 23)) (C := RX0) (T := TX0) (N := 3) hx hb hts (fun _ h => List.mem_cons_of_mem _ (List.mem_append_left _ (List.mem_append_left _ (List.mem_append_left _ (List.mem_append_left _ (List.mem_append_left _ (List.mem_append_left _ (List.mem_append_left _ (List.mem_append_right _ h))))))))) hown hK hw 3 (Nat.lt_of_lt_of_le (Nat.le_of_ble_eq_true rfl : 3 < 191) hn) (mk_3 cA α) rfl 0 (by decide) (hts _ (List.mem_of_getElem? (i := 6) rfl)) (fun _ h9 => h9) rfl dX10_deliver_25 ?_
    refine x_get (v := .ref (α 26)) (C := RX2) (T := TX2) (N := 12) hx hb hts (fun _ h => List.mem_cons_of_mem _ (List.mem_append_left _ (List.mem_append_left _ (List.mem_append_left _ (List.mem_append_left _ (List.mem_append_left _ (List.mem_append_left _ (List.mem_append_right _ h)))))))) hown hK hw 23 (Nat.lt_of_lt_of_le (Nat.le_of_ble_eq_true rfl : 23 < 191) hn) (mk_23 cA α) rfl 8 (by decide) (hts _ (List.mem_of_getElem? (i := 7) rfl)) (fun _ h9 => h9) rfl dX10_deliver_28 ?_
    refine lv_iload_n hx hb dX10_deliver_31 rfl (lv_at hl 1 rfl) ?_
    refine x_iald hx hb hK hw 26 6 (Nat.lt_of_lt_of_le (Nat.le_of_ble_eq_true rfl : 26 < 191) hn) (mk_26 cA α) b rfl (by omega) (by decide) dX10_deliver_32 ?_
    refine lv_icmp_ne (tgt := 47) hx hb dX10_deliver_33 (by decide) (fun c2 => ?_) (fun c2 => ?_)
    · skip
      refine lv_iload hx hb dX10_deliver_47 (lv_at hl 4 rfl) ?_
      refine lv_iconst (v := nI 1) hx hb dX10_deliver_49 (by decide) ?_
      refine lv_sipush (v := nI 999) hx hb dX10_deliver_50 (by decide) ?_
      refine x_callSVr (q := 0) (C := RX0) (As := [.int q9, .int (nI 1), .int (nI 999)]) (rest := []) ⟨hx, hb, hml, hown, hts⟩ (ct_X10_requireRange l D cA α n _ hn S q9 1 999 (by decide) (by decide) h1) (va_cwS 3 hts gX10_deliver_X10_requireRange rfl rfl rfl (by decide +kernel) ⟨Nat.le_of_ble_eq_true rfl, Nat.le_of_ble_eq_true rfl⟩) hK hw hAw rfl hl.1 rfl (Nat.le_of_ble_eq_true rfl) dX10_deliver_53 ⟨Nat.zero_le _, Nat.zero_le _⟩ (fun H locs hw => ?_)
      refine lv_iload hx hb dX10_deliver_56 (lv_at hl 5 rfl) ?_
      refine lv_iconst (v := nI 1) hx hb dX10_deliver_58 (by decide) ?_
      refine lv_ldcw (v := 99999) hx hb hown (hts _ (List.mem_of_getElem? (i := 8) rfl)) dX10_deliver_59 ?_
      refine x_topN (k := 99999) (by decide) ?_
      refine x_callSVr (q := 0) (C := RX0) (As := [.int p9, .int (nI 1), .int (nI 99999)]) (rest := []) ⟨hx, hb, hml, hown, hts⟩ (ct_X10_requireRange l D cA α n _ hn S p9 1 99999 (by decide) (by decide) h2) (va_cwS 3 hts gX10_deliver_X10_requireRange rfl rfl rfl (by decide +kernel) ⟨Nat.le_of_ble_eq_true rfl, Nat.le_of_ble_eq_true rfl⟩) hK hw hAw rfl hl.1 rfl (Nat.le_of_ble_eq_true rfl) dX10_deliver_62 ⟨Nat.zero_le _, Nat.zero_le _⟩ (fun H locs hw => ?_)
      refine lv_aload_n hx hb dX10_deliver_65 rfl (lv_at hl 0 rfl) ?_
      refine lv_iload_n hx hb dX10_deliver_66 rfl (lv_at hl 2 rfl) ?_
      refine lv_iload_n hx hb dX10_deliver_67 rfl (lv_at hl 1 rfl) ?_
      refine lv_iload hx hb dX10_deliver_68 (lv_at hl 4 rfl) ?_
      refine x_callVVr (q := 0) (C := RX10) (As := [.int (nI a), .int (nI b), .int q9]) (rest := []) ⟨hx, hb, hml, hown, hts⟩ (ct_X10_requirePieces l D cA α n _ hn S (nI a) b q9 (by omega) M hM (by omega) hct) (cwV 3 hts gX10_deliver_X10_requirePieces rfl rfl rfl (by decide +kernel) ⟨Nat.le_of_ble_eq_true rfl, Nat.le_of_ble_eq_true rfl⟩) hK hw hAw (ws_recv hK hw (q := 0) (Nat.lt_of_lt_of_le (Nat.le_of_ble_eq_true rfl : 0 < 191) hn) (mk_0 cA α) rfl) rfl hl.1 rfl (Nat.le_of_ble_eq_true rfl) dX10_deliver_70 ⟨Nat.zero_le _, Nat.zero_le _⟩ (fun H locs hw => ?_)
      refine lv_aload_n hx hb dX10_deliver_73 rfl (lv_at hl 0 rfl) ?_
      refine x_get (v := .ref (α 3)) (C := RX10) (T := TX10) (N := 7) hx hb hts (fun _ h => List.mem_cons_of_mem _ (List.mem_append_left _ (List.mem_append_left _ (List.mem_append_left _ (List.mem_append_left _ (List.mem_append_left _ (List.mem_append_left _ (List.mem_append_left _ (List.mem_append_left _ (List.mem_append_right _ h)))))))))) hown hK hw 0 (Nat.lt_of_lt_of_le (Nat.le_of_ble_eq_true rfl : 0 < 191) hn) (mk_0 cA α) rfl 1 (by decide) (hts _ (List.mem_of_getElem? (i := 5) rfl)) (fun _ h9 => h9) rfl dX10_deliver_74 ?_
      refine x_get (v := .ref (α 74)) (C := RX0) (T := TX0) (N := 3) hx hb hts (fun _ h => List.mem_cons_of_mem _ (List.mem_append_left _ (List.mem_append_left _ (List.mem_append_left _ (List.mem_append_left _ (List.mem_append_left _ (List.mem_append_left _ (List.mem_append_left _ (List.mem_append_right _ h))))))))) hown hK hw 3 (Nat.lt_of_lt_of_le (Nat.le_of_ble_eq_true rfl : 3 < 191) hn) (mk_3 cA α) rfl 2 (by decide) (hts _ (List.mem_of_getElem? (i := 9) rfl)) (fun _ h9 => h9) rfl dX10_deliver_77 ?_
      refine x_get (v := .int (S.1 74 1)) (C := RX9) (T := TX9) (N := 14) hx hb hts (fun _ h => List.mem_cons_of_mem _ (List.mem_append_left _ (List.mem_append_left _ (List.mem_append_left _ (List.mem_append_left _ (List.mem_append_left _ (List.mem_append_right _ h))))))) hown hK hw 74 (Nat.lt_of_lt_of_le (Nat.le_of_ble_eq_true rfl : 74 < 191) hn) (mk_74 cA α) rfl 1 (by decide) (hts _ (List.mem_of_getElem? (i := 10) rfl)) (fun _ h9 => h9) rfl dX10_deliver_80 ?_
      refine x_topN (k := M) hM ?_
      refine lv_bipush (v := nI 100) hx hb dX10_deliver_83 (by decide) ?_
      refine xn_icmp_lt (tgt := 99) hx hb (by omega) (by decide) dX10_deliver_85 (by decide) (fun c3 => ?_) (fun c3 => ?_)
      · exact absurd c3 (by omega)
      · skip
        exact x_throwSW (names := eUp) (rest := []) hx hb hst hown fit_IS fit_Up (hts _ (List.mem_of_getElem? (i := 3) rfl)) (hts _ (List.mem_of_getElem? (i := 4) rfl)) (hSx.1 _ (List.mem_of_getElem? (i := 13) rfl)) (at_IS hSx (fun w h => hts w ((fun _ h => List.mem_cons_of_mem _ (List.mem_append_left _ (List.mem_append_right _ h))) w h))) ga_IS hZ hK hw (hl.1.trans hml.symm) dX10_deliver_88 dX10_deliver_91 dX10_deliver_92 dX10_deliver_95 dX10_deliver_98 hout (Nat.le_of_ble_eq_true rfl) (Nat.le_of_ble_eq_true rfl) (Nat.le_of_ble_eq_true rfl) (Nat.le_of_ble_eq_true rfl) hlocks rfl
    · exact absurd c2.symm hmk

def cNt0 (T : Mem) (N : Nat) : Mem := setL T 7 (cPos T N)

set_option maxRecDepth 100000 in
set_option maxHeartbeats 1000000 in
theorem ct_X10_net (l : Launch) (D : va_G) (cA : Nat → ClassId) (α : Nat → Nat) (n sz : Nat) (hn : 191 ≤ n) (S : Mem) (Cn : Nat) (hC : S.1 23 1 = nI Cn) (hC2 : Cn ≤ 6) (N : Nat) (hN : S.1 74 0 = nI N) (hN2 : N ≤ 100) (ho : ∀ j, j < N → okC S j) (hpa : ∀ j, j < N → okI (S.1 46 j) 6) (hv : ¬ cnt (fun j => cIs S j (nI 0) (nI 1)) N = 0) (M : Nat) (hM : S.1 74 1 = nI M) (hM2 : M ≤ 100) (t k : Nat) (ht : S.1 11 1 = nI t) (ht2 : t < 10) (hk : S.1 11 0 = nI k) (hk2 : k ≤ 10) : CtI l yX10_net wsX10_net ({ frames := 6, cells := 0, slots := 0, locals := 102 }) D cA α n sz [.ref (α 0)] S (nI (cnt (cPay (cNt0 (cRem S t k N M) N)) Cn)) (cSet (cNt0 (cRem S t k N M) N) N Cn) := by
  refine ct_enter cX10_net 1 (some .int) (by decide) rfl (Nat.le_of_ble_eq_true rfl) ?_
  intro p e s m below meth c hx hb hr hml hlocks hown hts hK hsz hw ls hl
  have hown : s.vm.findClass RX10 = some m.cls := hown
  have hAw : ∀ z, Aw α n s.heap.size z → Aw α n sz z := by rw [hsz]; exact fun _ h => h
  have hl : lv_has ls 1 [(0, .ref (α 0))] := hl
  refine lv_aload_n hx hb dX10_net_0 rfl (lv_at hl 0 rfl) ?_
  refine x_get (v := .ref (α 3)) (C := RX10) (T := TX10) (N := 7) hx hb hts (fun _ h => List.mem_cons_of_mem _ (List.mem_append_left _ (List.mem_append_left _ (List.mem_append_left _ (List.mem_append_left _ (List.mem_append_left _ (List.mem_append_left _ (List.mem_append_left _ (List.mem_append_right _ h))))))))) hown hK hw 0 (Nat.lt_of_lt_of_le (Nat.le_of_ble_eq_true rfl : 0 < 191) hn) (mk_0 cA α) rfl 1 (by decide) (hts _ (List.mem_of_getElem? (i := 3) rfl)) (fun _ h9 => h9) rfl dX10_net_1 ?_
  refine lv_iconst (v := nI 1) hx hb dX10_net_4 (by decide) ?_
  refine x_callVIr (q := 3) (C := RX0) (As := [.int (nI 1)]) (rest := []) ⟨hx, hb, hml, hown, hts⟩ (ct_X0_receivablesIn l D cA α n _ hn S (nI 1) N hN hN2) (cwV 1 hts gX10_net_X0_receivablesIn rfl rfl rfl (by decide +kernel) ⟨Nat.le_of_ble_eq_true rfl, Nat.le_of_ble_eq_true rfl⟩) hK hw hAw (ws_recv hK hw (q := 3) (Nat.lt_of_lt_of_le (Nat.le_of_ble_eq_true rfl : 3 < 191) hn) (mk_3 cA α) rfl) rfl hl.1 rfl (Nat.le_of_ble_eq_true rfl) dX10_net_5 ⟨Nat.zero_le _, Nat.zero_le _⟩ (fun H locs hw => ?_)
  refine xn_if_ne (tgt := 22) hx hb (by have := cnt_le (fun j => cIs S j (nI 0) (nI 1)) N; omega) dX10_net_8 (by decide) (fun c1 => ?_) (fun c1 => ?_)
  · skip
    refine lv_aload_n hx hb dX10_net_22 rfl (lv_at hl 0 rfl) ?_
    refine x_get (v := .ref (α 11)) (C := RX10) (T := TX10) (N := 7) hx hb hts (fun _ h => List.mem_cons_of_mem _ (List.mem_append_left _ (List.mem_append_left _ (List.mem_append_left _ (List.mem_append_left _ (List.mem_append_left _ (List.mem_append_left _ (List.mem_append_left _ (List.mem_append_right _ h))))))))) hown hK hw 0 (Nat.lt_of_lt_of_le (Nat.le_of_ble_eq_true rfl : 0 < 191) hn) (mk_0 cA α) rfl 5 (by decide) (hts _ (List.mem_of_getElem? (i := 4) rfl)) (fun _ h9 => h9) rfl dX10_net_23 ?_
    refine lv_aload_n hx hb dX10_net_26 rfl (lv_at hl 0 rfl) ?_
    refine x_get (v := .ref (α 3)) (C := RX10) (T := TX10) (N := 7) hx hb hts (fun _ h => List.mem_cons_of_mem _ (List.mem_append_left _ (List.mem_append_left _ (List.mem_append_left _ (List.mem_append_left _ (List.mem_append_left _ (List.mem_append_left _ (List.mem_append_left _ (List.mem_append_right _ h))))))))) hown hK hw 0 (Nat.lt_of_lt_of_le (Nat.le_of_ble_eq_true rfl : 0 < 191) hn) (mk_0 cA α) rfl 1 (by decide) (hts _ (List.mem_of_getElem? (i := 3) rfl)) (fun _ h9 => h9) rfl dX10_net_27 ?_
    refine x_get (v := .ref (α 74)) (C := RX0) (T := TX0) (N := 3) hx hb hts (fun _ h => List.mem_cons_of_mem _ (List.mem_append_left _ (List.mem_append_left _ (List.mem_append_left _ (List.mem_append_left _ (List.mem_append_left _ (List.mem_append_left _ (List.mem_append_right _ h)))))))) hown hK hw 3 (Nat.lt_of_lt_of_le (Nat.le_of_ble_eq_true rfl : 3 < 191) hn) (mk_3 cA α) rfl 2 (by decide) (hts _ (List.mem_of_getElem? (i := 5) rfl)) (fun _ h9 => h9) rfl dX10_net_30 ?_
    refine x_callVV (q := 11) (C := RX4) (As := [.ref (α 74)]) (rest := []) ⟨hx, hb, hml, hown, hts⟩ (ct_X4_remember l D cA α n _ hn S t k N M (by skip; exact ht) ht2 (by skip; exact hk) hk2 (by skip; exact hN) (by omega) (by skip; exact hM) (by omega)) (cwV 1 hts gX10_net_X4_remember rfl rfl rfl (by decide +kernel) ⟨Nat.le_of_ble_eq_true rfl, Nat.le_of_ble_eq_true rfl⟩) hK hw hAw (ws_recv hK hw (q := 11) (Nat.lt_of_lt_of_le (Nat.le_of_ble_eq_true rfl : 11 < 191) hn) (mk_11 cA α) rfl) rfl hl.1 rfl (Nat.le_of_ble_eq_true rfl) dX10_net_33 ⟨Nat.zero_le _, Nat.zero_le _⟩ (fun S1 eS1 H locs hw => ?_)
    refine lv_aload_n hx hb dX10_net_36 rfl (lv_at hl 0 rfl) ?_
    refine x_get (v := .ref (α 6)) (C := RX10) (T := TX10) (N := 7) hx hb hts (fun _ h => List.mem_cons_of_mem _ (List.mem_append_left _ (List.mem_append_left _ (List.mem_append_left _ (List.mem_append_left _ (List.mem_append_left _ (List.mem_append_left _ (List.mem_append_left _ (List.mem_append_right _ h))))))))) hown hK hw 0 (Nat.lt_of_lt_of_le (Nat.le_of_ble_eq_true rfl : 0 < 191) hn) (mk_0 cA α) rfl 3 (by decide) (hts _ (List.mem_of_getElem? (i := 6) rfl)) (fun _ h9 => h9) rfl dX10_net_37 ?_
    refine lv_aload_n hx hb dX10_net_40 rfl (lv_at hl 0 rfl) ?_
    refine x_get (v := .ref (α 3)) (C := RX10) (T := TX10) (N := 7) hx hb hts (fun _ h => List.mem_cons_of_mem _ (List.mem_append_left _ (List.mem_append_left _ (List.mem_append_left _ (List.mem_append_left _ (List.mem_append_left _ (List.mem_append_left _ (List.mem_append_left _ (List.mem_append_right _ h))))))))) hown hK hw 0 (Nat.lt_of_lt_of_le (Nat.le_of_ble_eq_true rfl : 0 < 191) hn) (mk_0 cA α) rfl 1 (by decide) (hts _ (List.mem_of_getElem? (i := 3) rfl)) (fun _ h9 => h9) rfl dX10_net_41 ?_
    refine x_callVV (q := 6) (C := RX6) (As := [.ref (α 3)]) (rest := []) ⟨hx, hb, hml, hown, hts⟩ (ct_X6_findPositions l D cA α n _ hn S1 N (by subst eS1; exact (congrFun (cRem_1 (by decide) (by decide)) 0).trans hN) hN2 (by subst eS1; exact fun j hj => cRem_ok (ho j hj)) (by subst eS1; rw [cRem_1 (by decide) (by decide)]; exact hpa)) (cwV 1 hts gX10_net_X6_findPositions rfl rfl rfl (by decide +kernel) ⟨Nat.le_of_ble_eq_true rfl, Nat.le_of_ble_eq_true rfl⟩) hK hw hAw (ws_recv hK hw (q := 6) (Nat.lt_of_lt_of_le (Nat.le_of_ble_eq_true rfl : 6 < 191) hn) (mk_6 cA α) rfl) rfl hl.1 rfl (Nat.le_of_ble_eq_true rfl) dX10_net_44 ⟨Nat.zero_le _, Nat.zero_le _⟩ (fun S2 eS2 H locs hw => ?_)
    refine lv_aload_n hx hb dX10_net_47 rfl (lv_at hl 0 rfl) ?_
    refine x_get (v := .ref (α 6)) (C := RX10) (T := TX10) (N := 7) hx hb hts (fun _ h => List.mem_cons_of_mem _ (List.mem_append_left _ (List.mem_append_left _ (List.mem_append_left _ (List.mem_append_left _ (List.mem_append_left _ (List.mem_append_left _ (List.mem_append_left _ (List.mem_append_right _ h))))))))) hown hK hw 0 (Nat.lt_of_lt_of_le (Nat.le_of_ble_eq_true rfl : 0 < 191) hn) (mk_0 cA α) rfl 3 (by decide) (hts _ (List.mem_of_getElem? (i := 6) rfl)) (fun _ h9 => h9) rfl dX10_net_48 ?_
    refine lv_aload_n hx hb dX10_net_51 rfl (lv_at hl 0 rfl) ?_
    refine x_get (v := .ref (α 3)) (C := RX10) (T := TX10) (N := 7) hx hb hts (fun _ h => List.mem_cons_of_mem _ (List.mem_append_left _ (List.mem_append_left _ (List.mem_append_left _ (List.mem_append_left _ (List.mem_append_left _ (List.mem_append_left _ (List.mem_append_left _ (List.mem_append_right _ h))))))))) hown hK hw 0 (Nat.lt_of_lt_of_le (Nat.le_of_ble_eq_true rfl : 0 < 191) hn) (mk_0 cA α) rfl 1 (by decide) (hts _ (List.mem_of_getElem? (i := 3) rfl)) (fun _ h9 => h9) rfl dX10_net_52 ?_
    refine x_callVI (q := 6) (C := RX6) (As := [.ref (α 3)]) (rest := []) ⟨hx, hb, hml, hown, hts⟩ (ct_X6_settle l D cA α n _ hn S2 N (by subst eS2; subst eS1; rw [sL_1]; exact (congrFun (cRem_1 (by decide) (by decide)) 0).trans hN) hN2 (by subst eS2; subst eS1; exact fun j hj => okC_of (cRem_ok (k := k) (ho j hj)) rfl rfl) Cn (by subst eS2; subst eS1; rw [sL_1]; exact (congrFun (cRem_1 (by decide) (by decide)) 1).trans hC) hC2) (cwV 1 hts gX10_net_X6_settle rfl rfl rfl (by decide +kernel) ⟨Nat.le_of_ble_eq_true rfl, Nat.le_of_ble_eq_true rfl⟩) hK hw hAw (ws_recv hK hw (q := 6) (Nat.lt_of_lt_of_le (Nat.le_of_ble_eq_true rfl : 6 < 191) hn) (mk_6 cA α) rfl) rfl hl.1 rfl (Nat.le_of_ble_eq_true rfl) dX10_net_55 ⟨Nat.zero_le _, Nat.zero_le _⟩ (fun S3 eS3 H locs hw => ?_)
    exact ret_i hx hb hr hlocks hK hw dX10_net_58 (by subst eS3; subst eS2; subst eS1; rfl) (by subst eS3; subst eS2; subst eS1; rfl)
  · exact absurd c1 hv

set_option maxRecDepth 100000 in
set_option maxHeartbeats 1000000 in
theorem ct_X10_netX (l : Launch) (hst : l.stackTraces = false) (sa : Nat → Nat) (D : va_G) (cA : Nat → ClassId) (α : Nat → Nat) (n sz : Nat) (hn : 191 ≤ n) (S : Mem) (N : Nat) (hN : S.1 74 0 = nI N) (hN2 : N ≤ 100) (hv : cnt (fun j => cIs S j (nI 0) (nI 1)) N = 0) : CtX sa l yX10_net wsX10_net ({ frames := 6, cells := 1, slots := 6, locals := 102 }) D cA α n sz [.ref (α 0)] S eIS := by
  refine ctx_enter cX10_net 1 (some .int) (by decide) rfl (Nat.le_of_ble_eq_true rfl) ?_
  intro p e s m below meth c hx hb hr hml hlocks hown hts hK hsz hw hZ hSx hout ls hl
  have hown : s.vm.findClass RX10 = some m.cls := hown
  have hAw : ∀ z, Aw α n s.heap.size z → Aw α n sz z := by rw [hsz]; exact fun _ h => h
  have hl : lv_has ls 1 [(0, .ref (α 0))] := hl
  refine lv_aload_n hx hb dX10_net_0 rfl (lv_at hl 0 rfl) ?_
  refine x_get (v := .ref (α 3)) (C := RX10) (T := TX10) (N := 7) hx hb hts (fun _ h => List.mem_cons_of_mem _ (List.mem_append_left _ (List.mem_append_left _ (List.mem_append_left _ (List.mem_append_left _ (List.mem_append_left _ (List.mem_append_left _ (List.mem_append_left _ (List.mem_append_right _ h))))))))) hown hK hw 0 (Nat.lt_of_lt_of_le (Nat.le_of_ble_eq_true rfl : 0 < 191) hn) (mk_0 cA α) rfl 1 (by decide) (hts _ (List.mem_of_getElem? (i := 3) rfl)) (fun _ h9 => h9) rfl dX10_net_1 ?_
  refine lv_iconst (v := nI 1) hx hb dX10_net_4 (by decide) ?_
  refine x_callVIr (q := 3) (C := RX0) (As := [.int (nI 1)]) (rest := []) ⟨hx, hb, hml, hown, hts⟩ (ct_X0_receivablesIn l D cA α n _ hn S (nI 1) N hN hN2) (cwV 1 hts gX10_net_X0_receivablesIn rfl rfl rfl (by decide +kernel) ⟨Nat.le_of_ble_eq_true rfl, Nat.le_of_ble_eq_true rfl⟩) hK hw hAw (ws_recv hK hw (q := 3) (Nat.lt_of_lt_of_le (Nat.le_of_ble_eq_true rfl : 3 < 191) hn) (mk_3 cA α) rfl) rfl hl.1 rfl (Nat.le_of_ble_eq_true rfl) dX10_net_5 ⟨Nat.zero_le _, Nat.zero_le _⟩ (fun H locs hw => ?_)
  refine xn_if_ne (tgt := 22) hx hb (by have := cnt_le (fun j => cIs S j (nI 0) (nI 1)) N; omega) dX10_net_8 (by decide) (fun c1 => ?_) (fun c1 => ?_)
  · exact absurd hv c1
  · skip
    exact x_throwSW (names := eUp) (rest := []) hx hb hst hown fit_IS fit_Up (hts _ (List.mem_of_getElem? (i := 1) rfl)) (hts _ (List.mem_of_getElem? (i := 2) rfl)) (hSx.1 _ (List.mem_of_getElem? (i := 11) rfl)) (at_IS hSx (fun w h => hts w ((fun _ h => List.mem_cons_of_mem _ (List.mem_append_right _ h)) w h))) ga_IS hZ hK hw (hl.1.trans hml.symm) dX10_net_11 dX10_net_14 dX10_net_15 dX10_net_18 dX10_net_21 hout (Nat.le_of_ble_eq_true rfl) (Nat.le_of_ble_eq_true rfl) (Nat.le_of_ble_eq_true rfl) (Nat.le_of_ble_eq_true rfl) hlocks rfl

set_option maxRecDepth 100000 in
set_option maxHeartbeats 1000000 in
theorem ct_X10_undo (l : Launch) (D : va_G) (cA : Nat → ClassId) (α : Nat → Nat) (n sz : Nat) (hn : 191 ≤ n) (S : Mem) (t k K M : Nat) (ht : S.1 11 1 = nI t) (ht2 : t < 10) (hk : S.1 11 0 = nI (k + 1)) (hk2 : k < 10) (hK1 : S.1 (74 + 9 * (prv t + 1)) 0 = nI K) (hKb : K ≤ 100) (hM1 : S.1 (74 + 9 * (prv t + 1)) 1 = nI M) (hMb : M ≤ 100) : CtI l yX10_undo wsX10_undo ({ frames := 3, cells := 0, slots := 0, locals := 102 }) D cA α n sz [.ref (α 0)] S (nI k) (cBack S t (k + 1) K M) := by
  refine ct_enter cX10_undo 1 (some .int) (by decide) rfl (Nat.le_of_ble_eq_true rfl) ?_
  intro p e s m below meth c hx hb hr hml hlocks hown hts hK hsz hw ls hl
  have hown : s.vm.findClass RX10 = some m.cls := hown
  have hAw : ∀ z, Aw α n s.heap.size z → Aw α n sz z := by rw [hsz]; exact fun _ h => h
  have hl : lv_has ls 1 [(0, .ref (α 0))] := hl
  refine lv_aload_n hx hb dX10_undo_0 rfl (lv_at hl 0 rfl) ?_
  refine x_get (v := .ref (α 11)) (C := RX10) (T := TX10) (N := 7) hx hb hts (fun _ h => List.mem_cons_of_mem _ (List.mem_append_left _ (List.mem_append_left _ (List.mem_append_left _ (List.mem_append_right _ h))))) hown hK hw 0 (Nat.lt_of_lt_of_le (Nat.le_of_ble_eq_true rfl : 0 < 191) hn) (mk_0 cA α) rfl 5 (by decide) (hts _ (List.mem_of_getElem? (i := 1) rfl)) (fun _ h9 => h9) rfl dX10_undo_1 ?_
  refine x_get (v := .int (S.1 11 0)) (C := RX4) (T := TX4) (N := 3) hx hb hts (fun _ h => List.mem_cons_of_mem _ (List.mem_append_left _ (List.mem_append_left _ (List.mem_append_right _ h)))) hown hK hw 11 (Nat.lt_of_lt_of_le (Nat.le_of_ble_eq_true rfl : 11 < 191) hn) (mk_11 cA α) rfl 0 (by decide) (hts _ (List.mem_of_getElem? (i := 2) rfl)) (fun _ h9 => h9) rfl dX10_undo_4 ?_
  refine x_topN (k := k + 1) hk ?_
  refine xn_if_ne (tgt := 12) hx hb (by omega) dX10_undo_7 (by decide) (fun c1 => ?_) (fun c1 => ?_)
  · skip
    refine lv_aload_n hx hb dX10_undo_12 rfl (lv_at hl 0 rfl) ?_
    refine x_get (v := .ref (α 11)) (C := RX10) (T := TX10) (N := 7) hx hb hts (fun _ h => List.mem_cons_of_mem _ (List.mem_append_left _ (List.mem_append_left _ (List.mem_append_left _ (List.mem_append_right _ h))))) hown hK hw 0 (Nat.lt_of_lt_of_le (Nat.le_of_ble_eq_true rfl : 0 < 191) hn) (mk_0 cA α) rfl 5 (by decide) (hts _ (List.mem_of_getElem? (i := 1) rfl)) (fun _ h9 => h9) rfl dX10_undo_13 ?_
    refine lv_aload_n hx hb dX10_undo_16 rfl (lv_at hl 0 rfl) ?_
    refine x_get (v := .ref (α 3)) (C := RX10) (T := TX10) (N := 7) hx hb hts (fun _ h => List.mem_cons_of_mem _ (List.mem_append_left _ (List.mem_append_left _ (List.mem_append_left _ (List.mem_append_right _ h))))) hown hK hw 0 (Nat.lt_of_lt_of_le (Nat.le_of_ble_eq_true rfl : 0 < 191) hn) (mk_0 cA α) rfl 1 (by decide) (hts _ (List.mem_of_getElem? (i := 3) rfl)) (fun _ h9 => h9) rfl dX10_undo_17 ?_
    refine x_get (v := .ref (α 74)) (C := RX0) (T := TX0) (N := 3) hx hb hts (fun _ h => List.mem_cons_of_mem _ (List.mem_append_left _ (List.mem_append_right _ h))) hown hK hw 3 (Nat.lt_of_lt_of_le (Nat.le_of_ble_eq_true rfl : 3 < 191) hn) (mk_3 cA α) rfl 2 (by decide) (hts _ (List.mem_of_getElem? (i := 4) rfl)) (fun _ h9 => h9) rfl dX10_undo_20 ?_
    refine x_callVV (q := 11) (C := RX4) (As := [.ref (α 74)]) (rest := []) ⟨hx, hb, hml, hown, hts⟩ (ct_X4_goBack l D cA α n _ hn S t (k + 1) K M ht ht2 hk (by omega) (by omega) hK1 hKb hM1 hMb) (cwV 1 hts gX10_undo_X4_goBack rfl rfl rfl (by decide +kernel) ⟨Nat.le_of_ble_eq_true rfl, Nat.le_of_ble_eq_true rfl⟩) hK hw hAw (ws_recv hK hw (q := 11) (Nat.lt_of_lt_of_le (Nat.le_of_ble_eq_true rfl : 11 < 191) hn) (mk_11 cA α) rfl) rfl hl.1 rfl (Nat.le_of_ble_eq_true rfl) dX10_undo_23 ⟨Nat.zero_le _, Nat.zero_le _⟩ (fun S1 eS1 H locs hw => ?_)
    refine lv_aload_n hx hb dX10_undo_26 rfl (lv_at hl 0 rfl) ?_
    refine x_get (v := .ref (α 11)) (C := RX10) (T := TX10) (N := 7) hx hb hts (fun _ h => List.mem_cons_of_mem _ (List.mem_append_left _ (List.mem_append_left _ (List.mem_append_left _ (List.mem_append_right _ h))))) hown hK hw 0 (Nat.lt_of_lt_of_le (Nat.le_of_ble_eq_true rfl : 0 < 191) hn) (mk_0 cA α) rfl 5 (by decide) (hts _ (List.mem_of_getElem? (i := 1) rfl)) (fun _ h9 => h9) rfl dX10_undo_27 ?_
    refine x_get (v := .int (S1.1 11 0)) (C := RX4) (T := TX4) (N := 3) hx hb hts (fun _ h => List.mem_cons_of_mem _ (List.mem_append_left _ (List.mem_append_left _ (List.mem_append_right _ h)))) hown hK hw 11 (Nat.lt_of_lt_of_le (Nat.le_of_ble_eq_true rfl : 11 < 191) hn) (mk_11 cA α) rfl 0 (by decide) (hts _ (List.mem_of_getElem? (i := 2) rfl)) (fun _ h9 => h9) rfl dX10_undo_30 ?_
    refine x_topN (k := k) (by subst eS1; unfold cBack; rw [(cpSt_agr _ 0 _ _ _ 11 (Or.inl (by decide))).1, sI_e, pk_us]; rfl) ?_
    exact ret_i hx hb hr hlocks hK hw dX10_undo_33 (by first | (simp only [eq_self, if_neg c1, if_pos c1, decide_eq_false c1, if_true, if_false, eq_self, Bool.false_eq_true, not_true_eq_false, not_false_eq_true, decide_true, decide_false, Bool.and_true, Bool.true_and, Bool.and_false, Bool.false_and, Bool.not_true, Bool.not_false, Bool.or_true, Bool.true_or, Bool.or_false, Bool.false_or, reduceIte, b2i_t, b2i_f]; done) | rfl | (simp [eq_self, if_neg c1, if_pos c1, decide_eq_false c1, b2i, nI_0, nI_one]; done)) (by first | (subst_vars; rfl) | (subst_vars; simp only [eq_self, if_neg c1, if_pos c1, decide_eq_false c1, if_true, if_false, eq_self, Bool.false_eq_true, not_true_eq_false, not_false_eq_true, decide_true, decide_false, Bool.and_true, Bool.true_and, Bool.and_false, Bool.false_and, Bool.not_true, Bool.not_false, Bool.or_true, Bool.true_or, Bool.or_false, Bool.false_or, reduceIte, b2i_t, b2i_f]; done) | (subst_vars; simp [eq_self, if_neg c1, if_pos c1, decide_eq_false c1]; done))
  · exact absurd c1 (by omega)

set_option maxRecDepth 100000 in
set_option maxHeartbeats 1000000 in
theorem ct_X10_undoX (l : Launch) (D : va_G) (cA : Nat → ClassId) (α : Nat → Nat) (n sz : Nat) (hn : 191 ≤ n) (S : Mem) (hk : S.1 11 0 = nI 0) : CtI l yX10_undo wsX10_undo ({ frames := 3, cells := 0, slots := 0, locals := 102 }) D cA α n sz [.ref (α 0)] S (-1) S := by
  refine ct_enter cX10_undo 1 (some .int) (by decide) rfl (Nat.le_of_ble_eq_true rfl) ?_
  intro p e s m below meth c hx hb hr hml hlocks hown hts hK hsz hw ls hl
  have hown : s.vm.findClass RX10 = some m.cls := hown
  have hAw : ∀ z, Aw α n s.heap.size z → Aw α n sz z := by rw [hsz]; exact fun _ h => h
  have hl : lv_has ls 1 [(0, .ref (α 0))] := hl
  refine lv_aload_n hx hb dX10_undo_0 rfl (lv_at hl 0 rfl) ?_
  refine x_get (v := .ref (α 11)) (C := RX10) (T := TX10) (N := 7) hx hb hts (fun _ h => List.mem_cons_of_mem _ (List.mem_append_left _ (List.mem_append_left _ (List.mem_append_left _ (List.mem_append_right _ h))))) hown hK hw 0 (Nat.lt_of_lt_of_le (Nat.le_of_ble_eq_true rfl : 0 < 191) hn) (mk_0 cA α) rfl 5 (by decide) (hts _ (List.mem_of_getElem? (i := 1) rfl)) (fun _ h9 => h9) rfl dX10_undo_1 ?_
  refine x_get (v := .int (S.1 11 0)) (C := RX4) (T := TX4) (N := 3) hx hb hts (fun _ h => List.mem_cons_of_mem _ (List.mem_append_left _ (List.mem_append_left _ (List.mem_append_right _ h)))) hown hK hw 11 (Nat.lt_of_lt_of_le (Nat.le_of_ble_eq_true rfl : 11 < 191) hn) (mk_11 cA α) rfl 0 (by decide) (hts _ (List.mem_of_getElem? (i := 2) rfl)) (fun _ h9 => h9) rfl dX10_undo_4 ?_
  refine x_topN (k := 0) hk ?_
  refine xn_if_ne (tgt := 12) hx hb (by omega) dX10_undo_7 (by decide) (fun c1 => ?_) (fun c1 => ?_)
  · exact absurd rfl c1
  · skip
    refine lv_iconst (v := (-1)) hx hb dX10_undo_10 (by decide) ?_
    exact ret_i hx hb hr hlocks hK hw dX10_undo_11 (by first | (simp only [eq_self, if_pos c1, if_neg (not_not_intro c1), decide_eq_true c1, if_true, if_false, eq_self, Bool.false_eq_true, not_true_eq_false, not_false_eq_true, decide_true, decide_false, Bool.and_true, Bool.true_and, Bool.and_false, Bool.false_and, Bool.not_true, Bool.not_false, Bool.or_true, Bool.true_or, Bool.or_false, Bool.false_or, reduceIte, b2i_t, b2i_f]; done) | rfl | (simp [eq_self, if_pos c1, if_neg (not_not_intro c1), decide_eq_true c1, b2i, nI_0, nI_one]; done)) rfl

set_option maxRecDepth 100000 in
set_option maxHeartbeats 1000000 in
theorem ct_X10_saveSnapshot0 (l : Launch) (D : va_G) (cA : Nat → ClassId) (α : Nat → Nat) (n sz : Nat) (hn : 191 ≤ n) (S : Mem) (K M : Nat) (hK1 : S.1 74 0 = nI K) (hKb : K ≤ 100) (hM1 : S.1 74 1 = nI M) (hMb : M ≤ 100) : CtI l yX10_saveSnapshot wsX10_saveSnapshot ({ frames := 3, cells := 0, slots := 0, locals := 104 }) D cA α n sz [.ref (α 0), .int (nI 0)] S (b2i true) (setI (cpRw (cpSt S 11 0 K M) 1 0 K M) 14 0 (nI 1)) := by
  refine ct_enter cX10_saveSnapshot 2 (some .boolean) (by decide) rfl (Nat.le_of_ble_eq_true rfl) ?_
  intro p e s m below meth c hx hb hr hml hlocks hown hts hK hsz hw ls hl
  have hown : s.vm.findClass RX10 = some m.cls := hown
  have hAw : ∀ z, Aw α n s.heap.size z → Aw α n sz z := by rw [hsz]; exact fun _ h => h
  have hl : lv_has ls 2 [(0, .ref (α 0)), (1, .int (nI 0))] := hl
  refine lv_iload_n hx hb dX10_saveSnapshot_0 rfl (lv_at hl 1 rfl) ?_
  refine lv_if_lt (tgt := 9) hx hb dX10_saveSnapshot_1 (by decide) (fun c1 => ?_) (fun c1 => ?_)
  · exact absurd c1 (cpo (by decide))
  · skip
    refine lv_iload_n hx hb dX10_saveSnapshot_4 rfl (lv_at hl 1 rfl) ?_
    refine lv_iconst (v := nI 2) hx hb dX10_saveSnapshot_5 (by decide) ?_
    refine xn_icmp_lt (tgt := 11) hx hb (by decide) (by decide) dX10_saveSnapshot_6 (by decide) (fun c2 => ?_) (fun c2 => ?_)
    · skip
      refine lv_aload_n hx hb dX10_saveSnapshot_11 rfl (lv_at hl 0 rfl) ?_
      refine x_get (v := .ref (α 13)) (C := RX10) (T := TX10) (N := 7) hx hb hts (fun _ h => List.mem_cons_of_mem _ (List.mem_append_left _ (List.mem_append_left _ (List.mem_append_left _ (List.mem_append_left _ (List.mem_append_right _ h)))))) hown hK hw 0 (Nat.lt_of_lt_of_le (Nat.le_of_ble_eq_true rfl : 0 < 191) hn) (mk_0 cA α) rfl 6 (by decide) (hts _ (List.mem_of_getElem? (i := 1) rfl)) (fun _ h9 => h9) rfl dX10_saveSnapshot_12 ?_
      refine lv_iload_n hx hb dX10_saveSnapshot_15 rfl (lv_at hl 1 rfl) ?_
      refine x_aald (C := "IntercompanyLedger$Snapshot") (h := (fun j => α (14 + j))) hx hb hK hw 13 2 6 (Nat.lt_of_lt_of_le (Nat.le_of_ble_eq_true rfl : 13 < 191) hn) (mk_13 cA α) rfl 0 rfl (by decide) (by decide) dX10_saveSnapshot_16 ?_
      refine lv_aload_n hx hb dX10_saveSnapshot_17 rfl (lv_at hl 0 rfl) ?_
      refine x_get (v := .ref (α 3)) (C := RX10) (T := TX10) (N := 7) hx hb hts (fun _ h => List.mem_cons_of_mem _ (List.mem_append_left _ (List.mem_append_left _ (List.mem_append_left _ (List.mem_append_left _ (List.mem_append_right _ h)))))) hown hK hw 0 (Nat.lt_of_lt_of_le (Nat.le_of_ble_eq_true rfl : 0 < 191) hn) (mk_0 cA α) rfl 1 (by decide) (hts _ (List.mem_of_getElem? (i := 2) rfl)) (fun _ h9 => h9) rfl dX10_saveSnapshot_18 ?_
      refine x_callVV (q := 14) (C := RX8) (As := [.ref (α 3)]) (rest := []) ⟨hx, hb, hml, hown, hts⟩ (ct_X8_keep0 l D cA α n _ hn S K M hK1 hKb hM1 hMb) (cwV 1 hts gX10_saveSnapshot_X8_keep rfl rfl rfl (by decide +kernel) ⟨Nat.le_of_ble_eq_true rfl, Nat.le_of_ble_eq_true rfl⟩) hK hw hAw (ws_recv hK hw (q := 14) (Nat.lt_of_lt_of_le (Nat.le_of_ble_eq_true rfl : 14 < 191) hn) (mk_14 cA α) rfl) rfl hl.1 rfl (Nat.le_of_ble_eq_true rfl) dX10_saveSnapshot_21 ⟨Nat.zero_le _, Nat.zero_le _⟩ (fun S1 eS1 H locs hw => ?_)
      refine lv_iconst (v := nI 1) hx hb dX10_saveSnapshot_24 (by decide) ?_
      exact ret_z hx hb hr (by first | rfl | decide | exact narB _) hlocks hK hw dX10_saveSnapshot_25 rfl (by subst_vars; rfl)
    · exact absurd c2 (by decide)

set_option maxRecDepth 100000 in
set_option maxHeartbeats 1000000 in
theorem ct_X10_restoreSnapshot0 (l : Launch) (D : va_G) (cA : Nat → ClassId) (α : Nat → Nat) (n sz : Nat) (hn : 191 ≤ n) (S : Mem) (hv : ¬ S.1 14 0 = 0) (K M : Nat) (hK1 : S.1 173 0 = nI K) (hKb : K ≤ 100) (hM1 : S.1 173 1 = nI M) (hMb : M ≤ 100) : CtI l yX10_restoreSnapshot wsX10_restoreSnapshot ({ frames := 3, cells := 0, slots := 0, locals := 104 }) D cA α n sz [.ref (α 0), .int (nI 0)] S (b2i true) (setI (cpRw (cpSt S 0 11 K M) 0 1 K M) 11 0 (nI 0)) := by
  refine ct_enter cX10_restoreSnapshot 2 (some .boolean) (by decide) rfl (Nat.le_of_ble_eq_true rfl) ?_
  intro p e s m below meth c hx hb hr hml hlocks hown hts hK hsz hw ls hl
  have hown : s.vm.findClass RX10 = some m.cls := hown
  have hAw : ∀ z, Aw α n s.heap.size z → Aw α n sz z := by rw [hsz]; exact fun _ h => h
  have hl : lv_has ls 2 [(0, .ref (α 0)), (1, .int (nI 0))] := hl
  refine lv_iload_n hx hb dX10_restoreSnapshot_0 rfl (lv_at hl 1 rfl) ?_
  refine lv_if_lt (tgt := 21) hx hb dX10_restoreSnapshot_1 (by decide) (fun c1 => ?_) (fun c1 => ?_)
  · exact absurd c1 (cpo (by decide))
  · skip
    refine lv_iload_n hx hb dX10_restoreSnapshot_4 rfl (lv_at hl 1 rfl) ?_
    refine lv_iconst (v := nI 2) hx hb dX10_restoreSnapshot_5 (by decide) ?_
    refine xn_icmp_ge (tgt := 21) hx hb (by decide) (by decide) dX10_restoreSnapshot_6 (by decide) (fun c2 => ?_) (fun c2 => ?_)
    · exact absurd c2 (by decide)
    · skip
      refine lv_aload_n hx hb dX10_restoreSnapshot_9 rfl (lv_at hl 0 rfl) ?_
      refine x_get (v := .ref (α 13)) (C := RX10) (T := TX10) (N := 7) hx hb hts (fun _ h => List.mem_cons_of_mem _ (List.mem_append_left _ (List.mem_append_left _ (List.mem_append_left _ (List.mem_append_left _ (List.mem_append_left _ (List.mem_append_right _ h))))))) hown hK hw 0 (Nat.lt_of_lt_of_le (Nat.le_of_ble_eq_true rfl : 0 < 191) hn) (mk_0 cA α) rfl 6 (by decide) (hts _ (List.mem_of_getElem? (i := 1) rfl)) (fun _ h9 => h9) rfl dX10_restoreSnapshot_10 ?_
      refine lv_iload_n hx hb dX10_restoreSnapshot_13 rfl (lv_at hl 1 rfl) ?_
      refine x_aald (C := "IntercompanyLedger$Snapshot") (h := (fun j => α (14 + j))) hx hb hK hw 13 2 6 (Nat.lt_of_lt_of_le (Nat.le_of_ble_eq_true rfl : 13 < 191) hn) (mk_13 cA α) rfl 0 rfl (by decide) (by decide) dX10_restoreSnapshot_14 ?_
      refine x_get (v := .int (S.1 14 0)) (C := RX8) (T := TX8) (N := 3) hx hb hts (fun _ h => List.mem_cons_of_mem _ (List.mem_append_left _ (List.mem_append_left _ (List.mem_append_left _ (List.mem_append_left _ (List.mem_append_right _ h)))))) hown hK hw 14 (Nat.lt_of_lt_of_le (Nat.le_of_ble_eq_true rfl : 14 < 191) hn) (mk_14 cA α) rfl 0 (by decide) (hts _ (List.mem_of_getElem? (i := 2) rfl)) (fun _ h9 => h9) rfl dX10_restoreSnapshot_15 ?_
      refine lv_if_ne (tgt := 23) hx hb dX10_restoreSnapshot_18 (by decide) (fun c3 => ?_) (fun c3 => ?_)
      · skip
        refine lv_aload_n hx hb dX10_restoreSnapshot_23 rfl (lv_at hl 0 rfl) ?_
        refine x_get (v := .ref (α 13)) (C := RX10) (T := TX10) (N := 7) hx hb hts (fun _ h => List.mem_cons_of_mem _ (List.mem_append_left _ (List.mem_append_left _ (List.mem_append_left _ (List.mem_append_left _ (List.mem_append_left _ (List.mem_append_right _ h))))))) hown hK hw 0 (Nat.lt_of_lt_of_le (Nat.le_of_ble_eq_true rfl : 0 < 191) hn) (mk_0 cA α) rfl 6 (by decide) (hts _ (List.mem_of_getElem? (i := 1) rfl)) (fun _ h9 => h9) rfl dX10_restoreSnapshot_24 ?_
        refine lv_iload_n hx hb dX10_restoreSnapshot_27 rfl (lv_at hl 1 rfl) ?_
        refine x_aald (C := "IntercompanyLedger$Snapshot") (h := (fun j => α (14 + j))) hx hb hK hw 13 2 6 (Nat.lt_of_lt_of_le (Nat.le_of_ble_eq_true rfl : 13 < 191) hn) (mk_13 cA α) rfl 0 rfl (by decide) (by decide) dX10_restoreSnapshot_28 ?_
        refine lv_aload_n hx hb dX10_restoreSnapshot_29 rfl (lv_at hl 0 rfl) ?_
        refine x_get (v := .ref (α 3)) (C := RX10) (T := TX10) (N := 7) hx hb hts (fun _ h => List.mem_cons_of_mem _ (List.mem_append_left _ (List.mem_append_left _ (List.mem_append_left _ (List.mem_append_left _ (List.mem_append_left _ (List.mem_append_right _ h))))))) hown hK hw 0 (Nat.lt_of_lt_of_le (Nat.le_of_ble_eq_true rfl : 0 < 191) hn) (mk_0 cA α) rfl 1 (by decide) (hts _ (List.mem_of_getElem? (i := 3) rfl)) (fun _ h9 => h9) rfl dX10_restoreSnapshot_30 ?_
        refine x_callVV (q := 14) (C := RX8) (As := [.ref (α 3)]) (rest := []) ⟨hx, hb, hml, hown, hts⟩ (ct_X8_giveBack0 l D cA α n _ hn S K M hK1 hKb hM1 hMb) (cwV 1 hts gX10_restoreSnapshot_X8_giveBack rfl rfl rfl (by decide +kernel) ⟨Nat.le_of_ble_eq_true rfl, Nat.le_of_ble_eq_true rfl⟩) hK hw hAw (ws_recv hK hw (q := 14) (Nat.lt_of_lt_of_le (Nat.le_of_ble_eq_true rfl : 14 < 191) hn) (mk_14 cA α) rfl) rfl hl.1 rfl (Nat.le_of_ble_eq_true rfl) dX10_restoreSnapshot_33 ⟨Nat.zero_le _, Nat.zero_le _⟩ (fun S1 eS1 H locs hw => ?_)
        refine lv_aload_n hx hb dX10_restoreSnapshot_36 rfl (lv_at hl 0 rfl) ?_
        refine x_get (v := .ref (α 11)) (C := RX10) (T := TX10) (N := 7) hx hb hts (fun _ h => List.mem_cons_of_mem _ (List.mem_append_left _ (List.mem_append_left _ (List.mem_append_left _ (List.mem_append_left _ (List.mem_append_left _ (List.mem_append_right _ h))))))) hown hK hw 0 (Nat.lt_of_lt_of_le (Nat.le_of_ble_eq_true rfl : 0 < 191) hn) (mk_0 cA α) rfl 5 (by decide) (hts _ (List.mem_of_getElem? (i := 4) rfl)) (fun _ h9 => h9) rfl dX10_restoreSnapshot_37 ?_
        refine x_callVV (q := 11) (C := RX4) (As := []) (rest := []) ⟨hx, hb, hml, hown, hts⟩ (ct_X4_forget l D cA α n _ hn S1 ) (cwV 0 hts gX10_restoreSnapshot_X4_forget rfl rfl rfl (by decide +kernel) ⟨Nat.le_of_ble_eq_true rfl, Nat.le_of_ble_eq_true rfl⟩) hK hw hAw (ws_recv hK hw (q := 11) (Nat.lt_of_lt_of_le (Nat.le_of_ble_eq_true rfl : 11 < 191) hn) (mk_11 cA α) rfl) rfl hl.1 rfl (Nat.le_of_ble_eq_true rfl) dX10_restoreSnapshot_40 ⟨Nat.zero_le _, Nat.zero_le _⟩ (fun S2 eS2 H locs hw => ?_)
        refine lv_iconst (v := nI 1) hx hb dX10_restoreSnapshot_43 (by decide) ?_
        exact ret_z hx hb hr (by first | rfl | decide | exact narB _) hlocks hK hw dX10_restoreSnapshot_44 rfl (by subst_vars; rfl)
      · exact absurd c3 hv

set_option maxRecDepth 100000 in
set_option maxHeartbeats 1000000 in
theorem ct_X10_restoreSnapshot0Y (l : Launch) (D : va_G) (cA : Nat → ClassId) (α : Nat → Nat) (n sz : Nat) (hn : 191 ≤ n) (S : Mem) (hv : S.1 14 0 = 0) : CtI l yX10_restoreSnapshot wsX10_restoreSnapshot ({ frames := 3, cells := 0, slots := 0, locals := 104 }) D cA α n sz [.ref (α 0), .int (nI 0)] S (b2i false) S := by
  refine ct_enter cX10_restoreSnapshot 2 (some .boolean) (by decide) rfl (Nat.le_of_ble_eq_true rfl) ?_
  intro p e s m below meth c hx hb hr hml hlocks hown hts hK hsz hw ls hl
  have hown : s.vm.findClass RX10 = some m.cls := hown
  have hAw : ∀ z, Aw α n s.heap.size z → Aw α n sz z := by rw [hsz]; exact fun _ h => h
  have hl : lv_has ls 2 [(0, .ref (α 0)), (1, .int (nI 0))] := hl
  refine lv_iload_n hx hb dX10_restoreSnapshot_0 rfl (lv_at hl 1 rfl) ?_
  refine lv_if_lt (tgt := 21) hx hb dX10_restoreSnapshot_1 (by decide) (fun c1 => ?_) (fun c1 => ?_)
  · exact absurd c1 (cpo (by decide))
  · skip
    refine lv_iload_n hx hb dX10_restoreSnapshot_4 rfl (lv_at hl 1 rfl) ?_
    refine lv_iconst (v := nI 2) hx hb dX10_restoreSnapshot_5 (by decide) ?_
    refine xn_icmp_ge (tgt := 21) hx hb (by decide) (by decide) dX10_restoreSnapshot_6 (by decide) (fun c2 => ?_) (fun c2 => ?_)
    · exact absurd c2 (by decide)
    · skip
      refine lv_aload_n hx hb dX10_restoreSnapshot_9 rfl (lv_at hl 0 rfl) ?_
      refine x_get (v := .ref (α 13)) (C := RX10) (T := TX10) (N := 7) hx hb hts (fun _ h => List.mem_cons_of_mem _ (List.mem_append_left _ (List.mem_append_left _ (List.mem_append_left _ (List.mem_append_left _ (List.mem_append_left _ (List.mem_append_right _ h))))))) hown hK hw 0 (Nat.lt_of_lt_of_le (Nat.le_of_ble_eq_true rfl : 0 < 191) hn) (mk_0 cA α) rfl 6 (by decide) (hts _ (List.mem_of_getElem? (i := 1) rfl)) (fun _ h9 => h9) rfl dX10_restoreSnapshot_10 ?_
      refine lv_iload_n hx hb dX10_restoreSnapshot_13 rfl (lv_at hl 1 rfl) ?_
      refine x_aald (C := "IntercompanyLedger$Snapshot") (h := (fun j => α (14 + j))) hx hb hK hw 13 2 6 (Nat.lt_of_lt_of_le (Nat.le_of_ble_eq_true rfl : 13 < 191) hn) (mk_13 cA α) rfl 0 rfl (by decide) (by decide) dX10_restoreSnapshot_14 ?_
      refine x_get (v := .int (S.1 14 0)) (C := RX8) (T := TX8) (N := 3) hx hb hts (fun _ h => List.mem_cons_of_mem _ (List.mem_append_left _ (List.mem_append_left _ (List.mem_append_left _ (List.mem_append_left _ (List.mem_append_right _ h)))))) hown hK hw 14 (Nat.lt_of_lt_of_le (Nat.le_of_ble_eq_true rfl : 14 < 191) hn) (mk_14 cA α) rfl 0 (by decide) (hts _ (List.mem_of_getElem? (i := 2) rfl)) (fun _ h9 => h9) rfl dX10_restoreSnapshot_15 ?_
      refine lv_if_ne (tgt := 23) hx hb dX10_restoreSnapshot_18 (by decide) (fun c3 => ?_) (fun c3 => ?_)
      · exact absurd hv c3
      · skip
        refine lv_iconst (v := nI 0) hx hb dX10_restoreSnapshot_21 (by decide) ?_
        exact ret_z hx hb hr (by first | rfl | decide | exact narB _) hlocks hK hw dX10_restoreSnapshot_22 rfl rfl

set_option maxRecDepth 100000 in
set_option maxHeartbeats 1000000 in
theorem ct_X10_saveSnapshot1 (l : Launch) (D : va_G) (cA : Nat → ClassId) (α : Nat → Nat) (n sz : Nat) (hn : 191 ≤ n) (S : Mem) (K M : Nat) (hK1 : S.1 74 0 = nI K) (hKb : K ≤ 100) (hM1 : S.1 74 1 = nI M) (hMb : M ≤ 100) : CtI l yX10_saveSnapshot wsX10_saveSnapshot ({ frames := 3, cells := 0, slots := 0, locals := 104 }) D cA α n sz [.ref (α 0), .int (nI 1)] S (b2i true) (setI (cpRw (cpSt S 12 0 K M) 2 0 K M) 15 0 (nI 1)) := by
  refine ct_enter cX10_saveSnapshot 2 (some .boolean) (by decide) rfl (Nat.le_of_ble_eq_true rfl) ?_
  intro p e s m below meth c hx hb hr hml hlocks hown hts hK hsz hw ls hl
  have hown : s.vm.findClass RX10 = some m.cls := hown
  have hAw : ∀ z, Aw α n s.heap.size z → Aw α n sz z := by rw [hsz]; exact fun _ h => h
  have hl : lv_has ls 2 [(0, .ref (α 0)), (1, .int (nI 1))] := hl
  refine lv_iload_n hx hb dX10_saveSnapshot_0 rfl (lv_at hl 1 rfl) ?_
  refine lv_if_lt (tgt := 9) hx hb dX10_saveSnapshot_1 (by decide) (fun c1 => ?_) (fun c1 => ?_)
  · exact absurd c1 (cpo (by decide))
  · skip
    refine lv_iload_n hx hb dX10_saveSnapshot_4 rfl (lv_at hl 1 rfl) ?_
    refine lv_iconst (v := nI 2) hx hb dX10_saveSnapshot_5 (by decide) ?_
    refine xn_icmp_lt (tgt := 11) hx hb (by decide) (by decide) dX10_saveSnapshot_6 (by decide) (fun c2 => ?_) (fun c2 => ?_)
    · skip
      refine lv_aload_n hx hb dX10_saveSnapshot_11 rfl (lv_at hl 0 rfl) ?_
      refine x_get (v := .ref (α 13)) (C := RX10) (T := TX10) (N := 7) hx hb hts (fun _ h => List.mem_cons_of_mem _ (List.mem_append_left _ (List.mem_append_left _ (List.mem_append_left _ (List.mem_append_left _ (List.mem_append_right _ h)))))) hown hK hw 0 (Nat.lt_of_lt_of_le (Nat.le_of_ble_eq_true rfl : 0 < 191) hn) (mk_0 cA α) rfl 6 (by decide) (hts _ (List.mem_of_getElem? (i := 1) rfl)) (fun _ h9 => h9) rfl dX10_saveSnapshot_12 ?_
      refine lv_iload_n hx hb dX10_saveSnapshot_15 rfl (lv_at hl 1 rfl) ?_
      refine x_aald (C := "IntercompanyLedger$Snapshot") (h := (fun j => α (14 + j))) hx hb hK hw 13 2 6 (Nat.lt_of_lt_of_le (Nat.le_of_ble_eq_true rfl : 13 < 191) hn) (mk_13 cA α) rfl 1 rfl (by decide) (by decide) dX10_saveSnapshot_16 ?_
      refine lv_aload_n hx hb dX10_saveSnapshot_17 rfl (lv_at hl 0 rfl) ?_
      refine x_get (v := .ref (α 3)) (C := RX10) (T := TX10) (N := 7) hx hb hts (fun _ h => List.mem_cons_of_mem _ (List.mem_append_left _ (List.mem_append_left _ (List.mem_append_left _ (List.mem_append_left _ (List.mem_append_right _ h)))))) hown hK hw 0 (Nat.lt_of_lt_of_le (Nat.le_of_ble_eq_true rfl : 0 < 191) hn) (mk_0 cA α) rfl 1 (by decide) (hts _ (List.mem_of_getElem? (i := 2) rfl)) (fun _ h9 => h9) rfl dX10_saveSnapshot_18 ?_
      refine x_callVV (q := 15) (C := RX8) (As := [.ref (α 3)]) (rest := []) ⟨hx, hb, hml, hown, hts⟩ (ct_X8_keep1 l D cA α n _ hn S K M hK1 hKb hM1 hMb) (cwV 1 hts gX10_saveSnapshot_X8_keep rfl rfl rfl (by decide +kernel) ⟨Nat.le_of_ble_eq_true rfl, Nat.le_of_ble_eq_true rfl⟩) hK hw hAw (ws_recv hK hw (q := 15) (Nat.lt_of_lt_of_le (Nat.le_of_ble_eq_true rfl : 15 < 191) hn) (mk_15 cA α) rfl) rfl hl.1 rfl (Nat.le_of_ble_eq_true rfl) dX10_saveSnapshot_21 ⟨Nat.zero_le _, Nat.zero_le _⟩ (fun S1 eS1 H locs hw => ?_)
      refine lv_iconst (v := nI 1) hx hb dX10_saveSnapshot_24 (by decide) ?_
      exact ret_z hx hb hr (by first | rfl | decide | exact narB _) hlocks hK hw dX10_saveSnapshot_25 rfl (by subst_vars; rfl)
    · exact absurd c2 (by decide)

set_option maxRecDepth 100000 in
set_option maxHeartbeats 1000000 in
theorem ct_X10_restoreSnapshot1 (l : Launch) (D : va_G) (cA : Nat → ClassId) (α : Nat → Nat) (n sz : Nat) (hn : 191 ≤ n) (S : Mem) (hv : ¬ S.1 15 0 = 0) (K M : Nat) (hK1 : S.1 182 0 = nI K) (hKb : K ≤ 100) (hM1 : S.1 182 1 = nI M) (hMb : M ≤ 100) : CtI l yX10_restoreSnapshot wsX10_restoreSnapshot ({ frames := 3, cells := 0, slots := 0, locals := 104 }) D cA α n sz [.ref (α 0), .int (nI 1)] S (b2i true) (setI (cpRw (cpSt S 0 12 K M) 0 2 K M) 11 0 (nI 0)) := by
  refine ct_enter cX10_restoreSnapshot 2 (some .boolean) (by decide) rfl (Nat.le_of_ble_eq_true rfl) ?_
  intro p e s m below meth c hx hb hr hml hlocks hown hts hK hsz hw ls hl
  have hown : s.vm.findClass RX10 = some m.cls := hown
  have hAw : ∀ z, Aw α n s.heap.size z → Aw α n sz z := by rw [hsz]; exact fun _ h => h
  have hl : lv_has ls 2 [(0, .ref (α 0)), (1, .int (nI 1))] := hl
  refine lv_iload_n hx hb dX10_restoreSnapshot_0 rfl (lv_at hl 1 rfl) ?_
  refine lv_if_lt (tgt := 21) hx hb dX10_restoreSnapshot_1 (by decide) (fun c1 => ?_) (fun c1 => ?_)
  · exact absurd c1 (cpo (by decide))
  · skip
    refine lv_iload_n hx hb dX10_restoreSnapshot_4 rfl (lv_at hl 1 rfl) ?_
    refine lv_iconst (v := nI 2) hx hb dX10_restoreSnapshot_5 (by decide) ?_
    refine xn_icmp_ge (tgt := 21) hx hb (by decide) (by decide) dX10_restoreSnapshot_6 (by decide) (fun c2 => ?_) (fun c2 => ?_)
    · exact absurd c2 (by decide)
    · skip
      refine lv_aload_n hx hb dX10_restoreSnapshot_9 rfl (lv_at hl 0 rfl) ?_
      refine x_get (v := .ref (α 13)) (C := RX10) (T := TX10) (N := 7) hx hb hts (fun _ h => List.mem_cons_of_mem _ (List.mem_append_left _ (List.mem_append_left _ (List.mem_append_left _ (List.mem_append_left _ (List.mem_append_left _ (List.mem_append_right _ h))))))) hown hK hw 0 (Nat.lt_of_lt_of_le (Nat.le_of_ble_eq_true rfl : 0 < 191) hn) (mk_0 cA α) rfl 6 (by decide) (hts _ (List.mem_of_getElem? (i := 1) rfl)) (fun _ h9 => h9) rfl dX10_restoreSnapshot_10 ?_
      refine lv_iload_n hx hb dX10_restoreSnapshot_13 rfl (lv_at hl 1 rfl) ?_
      refine x_aald (C := "IntercompanyLedger$Snapshot") (h := (fun j => α (14 + j))) hx hb hK hw 13 2 6 (Nat.lt_of_lt_of_le (Nat.le_of_ble_eq_true rfl : 13 < 191) hn) (mk_13 cA α) rfl 1 rfl (by decide) (by decide) dX10_restoreSnapshot_14 ?_
      refine x_get (v := .int (S.1 15 0)) (C := RX8) (T := TX8) (N := 3) hx hb hts (fun _ h => List.mem_cons_of_mem _ (List.mem_append_left _ (List.mem_append_left _ (List.mem_append_left _ (List.mem_append_left _ (List.mem_append_right _ h)))))) hown hK hw 15 (Nat.lt_of_lt_of_le (Nat.le_of_ble_eq_true rfl : 15 < 191) hn) (mk_15 cA α) rfl 0 (by decide) (hts _ (List.mem_of_getElem? (i := 2) rfl)) (fun _ h9 => h9) rfl dX10_restoreSnapshot_15 ?_
      refine lv_if_ne (tgt := 23) hx hb dX10_restoreSnapshot_18 (by decide) (fun c3 => ?_) (fun c3 => ?_)
      · skip
        refine lv_aload_n hx hb dX10_restoreSnapshot_23 rfl (lv_at hl 0 rfl) ?_
        refine x_get (v := .ref (α 13)) (C := RX10) (T := TX10) (N := 7) hx hb hts (fun _ h => List.mem_cons_of_mem _ (List.mem_append_left _ (List.mem_append_left _ (List.mem_append_left _ (List.mem_append_left _ (List.mem_append_left _ (List.mem_append_right _ h))))))) hown hK hw 0 (Nat.lt_of_lt_of_le (Nat.le_of_ble_eq_true rfl : 0 < 191) hn) (mk_0 cA α) rfl 6 (by decide) (hts _ (List.mem_of_getElem? (i := 1) rfl)) (fun _ h9 => h9) rfl dX10_restoreSnapshot_24 ?_
        refine lv_iload_n hx hb dX10_restoreSnapshot_27 rfl (lv_at hl 1 rfl) ?_
        refine x_aald (C := "IntercompanyLedger$Snapshot") (h := (fun j => α (14 + j))) hx hb hK hw 13 2 6 (Nat.lt_of_lt_of_le (Nat.le_of_ble_eq_true rfl : 13 < 191) hn) (mk_13 cA α) rfl 1 rfl (by decide) (by decide) dX10_restoreSnapshot_28 ?_
        refine lv_aload_n hx hb dX10_restoreSnapshot_29 rfl (lv_at hl 0 rfl) ?_
        refine x_get (v := .ref (α 3)) (C := RX10) (T := TX10) (N := 7) hx hb hts (fun _ h => List.mem_cons_of_mem _ (List.mem_append_left _ (List.mem_append_left _ (List.mem_append_left _ (List.mem_append_left _ (List.mem_append_left _ (List.mem_append_right _ h))))))) hown hK hw 0 (Nat.lt_of_lt_of_le (Nat.le_of_ble_eq_true rfl : 0 < 191) hn) (mk_0 cA α) rfl 1 (by decide) (hts _ (List.mem_of_getElem? (i := 3) rfl)) (fun _ h9 => h9) rfl dX10_restoreSnapshot_30 ?_
        refine x_callVV (q := 15) (C := RX8) (As := [.ref (α 3)]) (rest := []) ⟨hx, hb, hml, hown, hts⟩ (ct_X8_giveBack1 l D cA α n _ hn S K M hK1 hKb hM1 hMb) (cwV 1 hts gX10_restoreSnapshot_X8_giveBack rfl rfl rfl (by decide +kernel) ⟨Nat.le_of_ble_eq_true rfl, Nat.le_of_ble_eq_true rfl⟩) hK hw hAw (ws_recv hK hw (q := 15) (Nat.lt_of_lt_of_le (Nat.le_of_ble_eq_true rfl : 15 < 191) hn) (mk_15 cA α) rfl) rfl hl.1 rfl (Nat.le_of_ble_eq_true rfl) dX10_restoreSnapshot_33 ⟨Nat.zero_le _, Nat.zero_le _⟩ (fun S1 eS1 H locs hw => ?_)
        refine lv_aload_n hx hb dX10_restoreSnapshot_36 rfl (lv_at hl 0 rfl) ?_
        refine x_get (v := .ref (α 11)) (C := RX10) (T := TX10) (N := 7) hx hb hts (fun _ h => List.mem_cons_of_mem _ (List.mem_append_left _ (List.mem_append_left _ (List.mem_append_left _ (List.mem_append_left _ (List.mem_append_left _ (List.mem_append_right _ h))))))) hown hK hw 0 (Nat.lt_of_lt_of_le (Nat.le_of_ble_eq_true rfl : 0 < 191) hn) (mk_0 cA α) rfl 5 (by decide) (hts _ (List.mem_of_getElem? (i := 4) rfl)) (fun _ h9 => h9) rfl dX10_restoreSnapshot_37 ?_
        refine x_callVV (q := 11) (C := RX4) (As := []) (rest := []) ⟨hx, hb, hml, hown, hts⟩ (ct_X4_forget l D cA α n _ hn S1 ) (cwV 0 hts gX10_restoreSnapshot_X4_forget rfl rfl rfl (by decide +kernel) ⟨Nat.le_of_ble_eq_true rfl, Nat.le_of_ble_eq_true rfl⟩) hK hw hAw (ws_recv hK hw (q := 11) (Nat.lt_of_lt_of_le (Nat.le_of_ble_eq_true rfl : 11 < 191) hn) (mk_11 cA α) rfl) rfl hl.1 rfl (Nat.le_of_ble_eq_true rfl) dX10_restoreSnapshot_40 ⟨Nat.zero_le _, Nat.zero_le _⟩ (fun S2 eS2 H locs hw => ?_)
        refine lv_iconst (v := nI 1) hx hb dX10_restoreSnapshot_43 (by decide) ?_
        exact ret_z hx hb hr (by first | rfl | decide | exact narB _) hlocks hK hw dX10_restoreSnapshot_44 rfl (by subst_vars; rfl)
      · exact absurd c3 hv

set_option maxRecDepth 100000 in
set_option maxHeartbeats 1000000 in
theorem ct_X10_restoreSnapshot1Y (l : Launch) (D : va_G) (cA : Nat → ClassId) (α : Nat → Nat) (n sz : Nat) (hn : 191 ≤ n) (S : Mem) (hv : S.1 15 0 = 0) : CtI l yX10_restoreSnapshot wsX10_restoreSnapshot ({ frames := 3, cells := 0, slots := 0, locals := 104 }) D cA α n sz [.ref (α 0), .int (nI 1)] S (b2i false) S := by
  refine ct_enter cX10_restoreSnapshot 2 (some .boolean) (by decide) rfl (Nat.le_of_ble_eq_true rfl) ?_
  intro p e s m below meth c hx hb hr hml hlocks hown hts hK hsz hw ls hl
  have hown : s.vm.findClass RX10 = some m.cls := hown
  have hAw : ∀ z, Aw α n s.heap.size z → Aw α n sz z := by rw [hsz]; exact fun _ h => h
  have hl : lv_has ls 2 [(0, .ref (α 0)), (1, .int (nI 1))] := hl
  refine lv_iload_n hx hb dX10_restoreSnapshot_0 rfl (lv_at hl 1 rfl) ?_
  refine lv_if_lt (tgt := 21) hx hb dX10_restoreSnapshot_1 (by decide) (fun c1 => ?_) (fun c1 => ?_)
  · exact absurd c1 (cpo (by decide))
  · skip
    refine lv_iload_n hx hb dX10_restoreSnapshot_4 rfl (lv_at hl 1 rfl) ?_
    refine lv_iconst (v := nI 2) hx hb dX10_restoreSnapshot_5 (by decide) ?_
    refine xn_icmp_ge (tgt := 21) hx hb (by decide) (by decide) dX10_restoreSnapshot_6 (by decide) (fun c2 => ?_) (fun c2 => ?_)
    · exact absurd c2 (by decide)
    · skip
      refine lv_aload_n hx hb dX10_restoreSnapshot_9 rfl (lv_at hl 0 rfl) ?_
      refine x_get (v := .ref (α 13)) (C := RX10) (T := TX10) (N := 7) hx hb hts (fun _ h => List.mem_cons_of_mem _ (List.mem_append_left _ (List.mem_append_left _ (List.mem_append_left _ (List.mem_append_left _ (List.mem_append_left _ (List.mem_append_right _ h))))))) hown hK hw 0 (Nat.lt_of_lt_of_le (Nat.le_of_ble_eq_true rfl : 0 < 191) hn) (mk_0 cA α) rfl 6 (by decide) (hts _ (List.mem_of_getElem? (i := 1) rfl)) (fun _ h9 => h9) rfl dX10_restoreSnapshot_10 ?_
      refine lv_iload_n hx hb dX10_restoreSnapshot_13 rfl (lv_at hl 1 rfl) ?_
      refine x_aald (C := "IntercompanyLedger$Snapshot") (h := (fun j => α (14 + j))) hx hb hK hw 13 2 6 (Nat.lt_of_lt_of_le (Nat.le_of_ble_eq_true rfl : 13 < 191) hn) (mk_13 cA α) rfl 1 rfl (by decide) (by decide) dX10_restoreSnapshot_14 ?_
      refine x_get (v := .int (S.1 15 0)) (C := RX8) (T := TX8) (N := 3) hx hb hts (fun _ h => List.mem_cons_of_mem _ (List.mem_append_left _ (List.mem_append_left _ (List.mem_append_left _ (List.mem_append_left _ (List.mem_append_right _ h)))))) hown hK hw 15 (Nat.lt_of_lt_of_le (Nat.le_of_ble_eq_true rfl : 15 < 191) hn) (mk_15 cA α) rfl 0 (by decide) (hts _ (List.mem_of_getElem? (i := 2) rfl)) (fun _ h9 => h9) rfl dX10_restoreSnapshot_15 ?_
      refine lv_if_ne (tgt := 23) hx hb dX10_restoreSnapshot_18 (by decide) (fun c3 => ?_) (fun c3 => ?_)
      · exact absurd hv c3
      · skip
        refine lv_iconst (v := nI 0) hx hb dX10_restoreSnapshot_21 (by decide) ?_
        exact ret_z hx hb hr (by first | rfl | decide | exact narB _) hlocks hK hw dX10_restoreSnapshot_22 rfl rfl

set_option maxRecDepth 100000 in
set_option maxHeartbeats 1000000 in
theorem ct_X10_saveSnapshotX (l : Launch) (D : va_G) (cA : Nat → ClassId) (α : Nat → Nat) (n sz : Nat) (hn : 191 ≤ n) (S : Mem) (x : Int32) (hx9 : ¬ ∃ i, 0 ≤ i ∧ i ≤ 1 ∧ x = nI i) : CtI l yX10_saveSnapshot wsX10_saveSnapshot ({ frames := 3, cells := 0, slots := 0, locals := 104 }) D cA α n sz [.ref (α 0), .int x] S (b2i false) S := by
  refine ct_enter cX10_saveSnapshot 2 (some .boolean) (by decide) rfl (Nat.le_of_ble_eq_true rfl) ?_
  intro p e s m below meth c hx hb hr hml hlocks hown hts hK hsz hw ls hl
  have hown : s.vm.findClass RX10 = some m.cls := hown
  have hAw : ∀ z, Aw α n s.heap.size z → Aw α n sz z := by rw [hsz]; exact fun _ h => h
  have hl : lv_has ls 2 [(0, .ref (α 0)), (1, .int x)] := hl
  refine lv_iload_n hx hb dX10_saveSnapshot_0 rfl (lv_at hl 1 rfl) ?_
  refine lv_if_lt (tgt := 9) hx hb dX10_saveSnapshot_1 (by decide) (fun c1 => ?_) (fun c1 => ?_)
  · skip
    refine lv_iconst (v := nI 0) hx hb dX10_saveSnapshot_9 (by decide) ?_
    exact ret_z hx hb hr (by first | rfl | decide | exact narB _) hlocks hK hw dX10_saveSnapshot_10 rfl rfl
  · skip
    refine lv_iload_n hx hb dX10_saveSnapshot_4 rfl (lv_at hl 1 rfl) ?_
    refine lv_iconst (v := nI 2) hx hb dX10_saveSnapshot_5 (by decide) ?_
    refine lv_icmp_lt (tgt := 11) hx hb dX10_saveSnapshot_6 (by decide) (fun c2 => ?_) (fun c2 => ?_)
    · obtain ⟨i, q1, q2⟩ := in_ex c1 c2 (by decide); exact absurd ⟨i, Nat.zero_le _, by omega, q2⟩ hx9
    · skip
      refine lv_iconst (v := nI 0) hx hb dX10_saveSnapshot_9 (by decide) ?_
      exact ret_z hx hb hr (by first | rfl | decide | exact narB _) hlocks hK hw dX10_saveSnapshot_10 rfl rfl

set_option maxRecDepth 100000 in
set_option maxHeartbeats 1000000 in
theorem ct_X10_restoreSnapshotX (l : Launch) (D : va_G) (cA : Nat → ClassId) (α : Nat → Nat) (n sz : Nat) (hn : 191 ≤ n) (S : Mem) (x : Int32) (hx9 : ¬ ∃ i, 0 ≤ i ∧ i ≤ 1 ∧ x = nI i) : CtI l yX10_restoreSnapshot wsX10_restoreSnapshot ({ frames := 3, cells := 0, slots := 0, locals := 104 }) D cA α n sz [.ref (α 0), .int x] S (b2i false) S := by
  refine ct_enter cX10_restoreSnapshot 2 (some .boolean) (by decide) rfl (Nat.le_of_ble_eq_true rfl) ?_
  intro p e s m below meth c hx hb hr hml hlocks hown hts hK hsz hw ls hl
  have hown : s.vm.findClass RX10 = some m.cls := hown
  have hAw : ∀ z, Aw α n s.heap.size z → Aw α n sz z := by rw [hsz]; exact fun _ h => h
  have hl : lv_has ls 2 [(0, .ref (α 0)), (1, .int x)] := hl
  refine lv_iload_n hx hb dX10_restoreSnapshot_0 rfl (lv_at hl 1 rfl) ?_
  refine lv_if_lt (tgt := 21) hx hb dX10_restoreSnapshot_1 (by decide) (fun c1 => ?_) (fun c1 => ?_)
  · skip
    refine lv_iconst (v := nI 0) hx hb dX10_restoreSnapshot_21 (by decide) ?_
    exact ret_z hx hb hr (by first | rfl | decide | exact narB _) hlocks hK hw dX10_restoreSnapshot_22 rfl rfl
  · skip
    refine lv_iload_n hx hb dX10_restoreSnapshot_4 rfl (lv_at hl 1 rfl) ?_
    refine lv_iconst (v := nI 2) hx hb dX10_restoreSnapshot_5 (by decide) ?_
    refine lv_icmp_ge (tgt := 21) hx hb dX10_restoreSnapshot_6 (by decide) (fun c2 => ?_) (fun c2 => ?_)
    · skip
      refine lv_iconst (v := nI 0) hx hb dX10_restoreSnapshot_21 (by decide) ?_
      exact ret_z hx hb hr (by first | rfl | decide | exact narB _) hlocks hK hw dX10_restoreSnapshot_22 rfl rfl
    · obtain ⟨i, q1, q2⟩ := in_ex c1 (Int32.not_le.mp c2) (by decide); exact absurd ⟨i, Nat.zero_le _, by omega, q2⟩ hx9
