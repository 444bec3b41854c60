/-! the class's own methods: what they ask first -/
theorem cpo {k : Nat} (h : k < 1000000000) : ¬ nI k < 0 := nI_pos (by omega)
def cCan (S : Mem) (a : Int32) (b : Nat) (q : Int32) (M : Nat) : Bool := decide (S.1 26 b = a) || !decide (sumI (cPcs S a (nI b)) M < q)

set_option maxRecDepth 100000 in
set_option maxHeartbeats 1000000 in
theorem ct_X10_requireCompany (l : Launch) (D : va_G) (cA : Nat → ClassId) (α : Nat → Nat) (n sz : Nat) (hn : 191 ≤ n) (S : Mem) (Cn : Nat) (hC : S.1 23 1 = nI Cn) (hC2 : Cn ≤ 6) (i : Nat) (hi : i < Cn) : CtV l yX10_requireCompany wsX10_requireCompany ({ frames := 6, cells := 0, slots := 0, locals := 100 }) D cA α n sz [.ref (α 0), .int (nI i)] S S := by
  refine ct_enter cX10_requireCompany 2 none (by decide) rfl (Nat.le_of_ble_eq_true rfl) ?_
  intro p e s m below meth c hx hb hr hml hlocks hown hts hK hsz hw ls hl
  have hown : s.vm.findClass RX10 = some m.cls := hown
  have hAw : ∀ z, Aw α n s.heap.size z → Aw α n sz z := by rw [hsz]; exact fun _ h => h
  have hl : lv_has ls 2 [(0, .ref (α 0)), (1, .int (nI i))] := hl
  refine lv_iload_n hx hb dX10_requireCompany_0 rfl (lv_at hl 1 rfl) ?_
  refine lv_if_lt (tgt := 18) hx hb dX10_requireCompany_1 (by decide) (fun c1 => ?_) (fun c1 => ?_)
  · exact absurd c1 (cpo (by omega))
  · skip
    refine lv_iload_n hx hb dX10_requireCompany_4 rfl (lv_at hl 1 rfl) ?_
    refine lv_aload_n hx hb dX10_requireCompany_5 rfl (lv_at hl 0 rfl) ?_
    refine x_get (v := .ref (α 3)) (C := RX10) (T := TX10) (N := 7) hx hb hts (fun _ h => List.mem_cons_of_mem _ (List.mem_append_left _ (List.mem_append_left _ (List.mem_append_left _ (List.mem_append_right _ h))))) hown hK hw 0 (Nat.lt_of_lt_of_le (Nat.le_of_ble_eq_true rfl : 0 < 191) hn) (mk_0 cA α) rfl 1 (by decide) (hts _ (List.mem_of_getElem? (i := 3) rfl)) (fun _ h9 => h9) rfl dX10_requireCompany_6 ?_
    refine x_get (v := .ref (α 23)) (C := RX0) (T := TX0) (N := 3) hx hb hts (fun _ h => List.mem_cons_of_mem _ (List.mem_append_left _ (List.mem_append_left _ (List.mem_append_right _ h)))) hown hK hw 3 (Nat.lt_of_lt_of_le (Nat.le_of_ble_eq_true rfl : 3 < 191) hn) (mk_3 cA α) rfl 0 (by decide) (hts _ (List.mem_of_getElem? (i := 4) rfl)) (fun _ h9 => h9) rfl dX10_requireCompany_9 ?_
    refine x_get (v := .int (S.1 23 1)) (C := RX2) (T := TX2) (N := 12) hx hb hts (fun _ h => List.mem_cons_of_mem _ (List.mem_append_left _ (List.mem_append_right _ h))) hown hK hw 23 (Nat.lt_of_lt_of_le (Nat.le_of_ble_eq_true rfl : 23 < 191) hn) (mk_23 cA α) rfl 1 (by decide) (hts _ (List.mem_of_getElem? (i := 5) rfl)) (fun _ h9 => h9) rfl dX10_requireCompany_12 ?_
    refine x_topN (k := Cn) hC ?_
    refine xn_icmp_lt (tgt := 29) hx hb (by omega) (by omega) dX10_requireCompany_15 (by decide) (fun c2 => ?_) (fun c2 => ?_)
    · skip
      exact ret_v hx hb hr hlocks hK hw dX10_requireCompany_29 rfl
    · exact absurd hi (by omega)

set_option maxRecDepth 100000 in
set_option maxHeartbeats 1000000 in
theorem ct_X10_requireCompanyX (l : Launch) (hst : l.stackTraces = false) (sa : Nat → Nat) (D : va_G) (cA : Nat → ClassId) (α : Nat → Nat) (n sz : Nat) (hn : 191 ≤ n) (S : Mem) (Cn : Nat) (hC : S.1 23 1 = nI Cn) (hC2 : Cn ≤ 6) (x : Int32) (hx9 : ¬ ∃ i, i < Cn ∧ x = nI i) : CtX sa l yX10_requireCompany wsX10_requireCompany ({ frames := 6, cells := 1, slots := 6, locals := 100 }) D cA α n sz [.ref (α 0), .int x] S eIO := by
  refine ctx_enter cX10_requireCompany 2 none (by decide) rfl (Nat.le_of_ble_eq_true rfl) ?_
  intro p e s m below meth c hx hb hr hml hlocks hown hts hK hsz hw hZ hSx hout ls hl
  have hown : s.vm.findClass RX10 = some m.cls := hown
  have hAw : ∀ z, Aw α n s.heap.size z → Aw α n sz z := by rw [hsz]; exact fun _ h => h
  have hl : lv_has ls 2 [(0, .ref (α 0)), (1, .int x)] := hl
  refine lv_iload_n hx hb dX10_requireCompany_0 rfl (lv_at hl 1 rfl) ?_
  refine lv_if_lt (tgt := 18) hx hb dX10_requireCompany_1 (by decide) (fun c1 => ?_) (fun c1 => ?_)
  · skip
    exact x_throwSW (names := eUp) (rest := []) hx hb hst hown fit_IO fit_Up (hts _ (List.mem_of_getElem? (i := 1) rfl)) (hts _ (List.mem_of_getElem? (i := 2) rfl)) (hSx.1 _ (List.mem_of_getElem? (i := 15) rfl)) (at_IO hSx (fun w h => hts w ((fun _ h => List.mem_cons_of_mem _ (List.mem_append_right _ h)) w h))) ga_IO hZ hK hw (hl.1.trans hml.symm) dX10_requireCompany_18 dX10_requireCompany_21 dX10_requireCompany_22 dX10_requireCompany_25 dX10_requireCompany_28 hout (Nat.le_of_ble_eq_true rfl) (Nat.le_of_ble_eq_true rfl) (Nat.le_of_ble_eq_true rfl) (Nat.le_of_ble_eq_true rfl) hlocks rfl
  · skip
    refine lv_iload_n hx hb dX10_requireCompany_4 rfl (lv_at hl 1 rfl) ?_
    refine lv_aload_n hx hb dX10_requireCompany_5 rfl (lv_at hl 0 rfl) ?_
    refine x_get (v := .ref (α 3)) (C := RX10) (T := TX10) (N := 7) hx hb hts (fun _ h => List.mem_cons_of_mem _ (List.mem_append_left _ (List.mem_append_left _ (List.mem_append_left _ (List.mem_append_right _ h))))) hown hK hw 0 (Nat.lt_of_lt_of_le (Nat.le_of_ble_eq_true rfl : 0 < 191) hn) (mk_0 cA α) rfl 1 (by decide) (hts _ (List.mem_of_getElem? (i := 3) rfl)) (fun _ h9 => h9) rfl dX10_requireCompany_6 ?_
    refine x_get (v := .ref (α 23)) (C := RX0) (T := TX0) (N := 3) hx hb hts (fun _ h => List.mem_cons_of_mem _ (List.mem_append_left _ (List.mem_append_left _ (List.mem_append_right _ h)))) hown hK hw 3 (Nat.lt_of_lt_of_le (Nat.le_of_ble_eq_true rfl : 3 < 191) hn) (mk_3 cA α) rfl 0 (by decide) (hts _ (List.mem_of_getElem? (i := 4) rfl)) (fun _ h9 => h9) rfl dX10_requireCompany_9 ?_
    refine x_get (v := .int (S.1 23 1)) (C := RX2) (T := TX2) (N := 12) hx hb hts (fun _ h => List.mem_cons_of_mem _ (List.mem_append_left _ (List.mem_append_right _ h))) hown hK hw 23 (Nat.lt_of_lt_of_le (Nat.le_of_ble_eq_true rfl : 23 < 191) hn) (mk_23 cA α) rfl 1 (by decide) (hts _ (List.mem_of_getElem? (i := 5) rfl)) (fun _ h9 => h9) rfl dX10_requireCompany_12 ?_
    refine x_topN (k := Cn) hC ?_
    refine lv_icmp_lt (tgt := 29) hx hb dX10_requireCompany_15 (by decide) (fun c2 => ?_) (fun c2 => ?_)
    · exact absurd (in_ex c1 c2 (by omega)) hx9
    · skip
      exact x_throwSW (names := eUp) (rest := []) hx hb hst hown fit_IO fit_Up (hts _ (List.mem_of_getElem? (i := 1) rfl)) (hts _ (List.mem_of_getElem? (i := 2) rfl)) (hSx.1 _ (List.mem_of_getElem? (i := 15) rfl)) (at_IO hSx (fun w h => hts w ((fun _ h => List.mem_cons_of_mem _ (List.mem_append_right _ h)) w h))) ga_IO hZ hK hw (hl.1.trans hml.symm) dX10_requireCompany_18 dX10_requireCompany_21 dX10_requireCompany_22 dX10_requireCompany_25 dX10_requireCompany_28 hout (Nat.le_of_ble_eq_true rfl) (Nat.le_of_ble_eq_true rfl) (Nat.le_of_ble_eq_true rfl) (Nat.le_of_ble_eq_true rfl) hlocks rfl

set_option maxRecDepth 100000 in
set_option maxHeartbeats 1000000 in
theorem ct_X10_requireProduct (l : Launch) (D : va_G) (cA : Nat → ClassId) (α : Nat → Nat) (n sz : Nat) (hn : 191 ≤ n) (S : Mem) (Pn : Nat) (hP9 : S.1 23 2 = nI Pn) (hP2 : Pn ≤ 6) (i : Nat) (hi : i < Pn) : CtV l yX10_requireProduct wsX10_requireProduct ({ frames := 6, cells := 0, slots := 0, locals := 100 }) D cA α n sz [.ref (α 0), .int (nI i)] S S := by
  refine ct_enter cX10_requireProduct 2 none (by decide) rfl (Nat.le_of_ble_eq_true rfl) ?_
  intro p e s m below meth c hx hb hr hml hlocks hown hts hK hsz hw ls hl
  have hown : s.vm.findClass RX10 = some m.cls := hown
  have hAw : ∀ z, Aw α n s.heap.size z → Aw α n sz z := by rw [hsz]; exact fun _ h => h
  have hl : lv_has ls 2 [(0, .ref (α 0)), (1, .int (nI i))] := hl
  refine lv_iload_n hx hb dX10_requireProduct_0 rfl (lv_at hl 1 rfl) ?_
  refine lv_if_lt (tgt := 18) hx hb dX10_requireProduct_1 (by decide) (fun c1 => ?_) (fun c1 => ?_)
  · exact absurd c1 (cpo (by omega))
  · skip
    refine lv_iload_n hx hb dX10_requireProduct_4 rfl (lv_at hl 1 rfl) ?_
    refine lv_aload_n hx hb dX10_requireProduct_5 rfl (lv_at hl 0 rfl) ?_
    refine x_get (v := .ref (α 3)) (C := RX10) (T := TX10) (N := 7) hx hb hts (fun _ h => List.mem_cons_of_mem _ (List.mem_append_left _ (List.mem_append_left _ (List.mem_append_left _ (List.mem_append_right _ h))))) hown hK hw 0 (Nat.lt_of_lt_of_le (Nat.le_of_ble_eq_true rfl : 0 < 191) hn) (mk_0 cA α) rfl 1 (by decide) (hts _ (List.mem_of_getElem? (i := 3) rfl)) (fun _ h9 => h9) rfl dX10_requireProduct_6 ?_
    refine x_get (v := .ref (α 23)) (C := RX0) (T := TX0) (N := 3) hx hb hts (fun _ h => List.mem_cons_of_mem _ (List.mem_append_left _ (List.mem_append_left _ (List.mem_append_right _ h)))) hown hK hw 3 (Nat.lt_of_lt_of_le (Nat.le_of_ble_eq_true rfl : 3 < 191) hn) (mk_3 cA α) rfl 0 (by decide) (hts _ (List.mem_of_getElem? (i := 4) rfl)) (fun _ h9 => h9) rfl dX10_requireProduct_9 ?_
    refine x_get (v := .int (S.1 23 2)) (C := RX2) (T := TX2) (N := 12) hx hb hts (fun _ h => List.mem_cons_of_mem _ (List.mem_append_left _ (List.mem_append_right _ h))) hown hK hw 23 (Nat.lt_of_lt_of_le (Nat.le_of_ble_eq_true rfl : 23 < 191) hn) (mk_23 cA α) rfl 2 (by decide) (hts _ (List.mem_of_getElem? (i := 5) rfl)) (fun _ h9 => h9) rfl dX10_requireProduct_12 ?_
    refine x_topN (k := Pn) hP9 ?_
    refine xn_icmp_lt (tgt := 29) hx hb (by omega) (by omega) dX10_requireProduct_15 (by decide) (fun c2 => ?_) (fun c2 => ?_)
    · skip
      exact ret_v hx hb hr hlocks hK hw dX10_requireProduct_29 rfl
    · exact absurd hi (by omega)

set_option maxRecDepth 100000 in
set_option maxHeartbeats 1000000 in
theorem ct_X10_requireProductX (l : Launch) (hst : l.stackTraces = false) (sa : Nat → Nat) (D : va_G) (cA : Nat → ClassId) (α : Nat → Nat) (n sz : Nat) (hn : 191 ≤ n) (S : Mem) (Pn : Nat) (hP9 : S.1 23 2 = nI Pn) (hP2 : Pn ≤ 6) (x : Int32) (hx9 : ¬ ∃ i, i < Pn ∧ x = nI i) : CtX sa l yX10_requireProduct wsX10_requireProduct ({ frames := 6, cells := 1, slots := 6, locals := 100 }) D cA α n sz [.ref (α 0), .int x] S eIO := by
  refine ctx_enter cX10_requireProduct 2 none (by decide) rfl (Nat.le_of_ble_eq_true rfl) ?_
  intro p e s m below meth c hx hb hr hml hlocks hown hts hK hsz hw hZ hSx hout ls hl
  have hown : s.vm.findClass RX10 = some m.cls := hown
  have hAw : ∀ z, Aw α n s.heap.size z → Aw α n sz z := by rw [hsz]; exact fun _ h => h
  have hl : lv_has ls 2 [(0, .ref (α 0)), (1, .int x)] := hl
  refine lv_iload_n hx hb dX10_requireProduct_0 rfl (lv_at hl 1 rfl) ?_
  refine lv_if_lt (tgt := 18) hx hb dX10_requireProduct_1 (by decide) (fun c1 => ?_) (fun c1 => ?_)
  · skip
    exact x_throwSW (names := eUp) (rest := []) hx hb hst hown fit_IO fit_Up (hts _ (List.mem_of_getElem? (i := 1) rfl)) (hts _ (List.mem_of_getElem? (i := 2) rfl)) (hSx.1 _ (List.mem_of_getElem? (i := 16) rfl)) (at_IO hSx (fun w h => hts w ((fun _ h => List.mem_cons_of_mem _ (List.mem_append_right _ h)) w h))) ga_IO hZ hK hw (hl.1.trans hml.symm) dX10_requireProduct_18 dX10_requireProduct_21 dX10_requireProduct_22 dX10_requireProduct_25 dX10_requireProduct_28 hout (Nat.le_of_ble_eq_true rfl) (Nat.le_of_ble_eq_true rfl) (Nat.le_of_ble_eq_true rfl) (Nat.le_of_ble_eq_true rfl) hlocks rfl
  · skip
    refine lv_iload_n hx hb dX10_requireProduct_4 rfl (lv_at hl 1 rfl) ?_
    refine lv_aload_n hx hb dX10_requireProduct_5 rfl (lv_at hl 0 rfl) ?_
    refine x_get (v := .ref (α 3)) (C := RX10) (T := TX10) (N := 7) hx hb hts (fun _ h => List.mem_cons_of_mem _ (List.mem_append_left _ (List.mem_append_left _ (List.mem_append_left _ (List.mem_append_right _ h))))) hown hK hw 0 (Nat.lt_of_lt_of_le (Nat.le_of_ble_eq_true rfl : 0 < 191) hn) (mk_0 cA α) rfl 1 (by decide) (hts _ (List.mem_of_getElem? (i := 3) rfl)) (fun _ h9 => h9) rfl dX10_requireProduct_6 ?_
    refine x_get (v := .ref (α 23)) (C := RX0) (T := TX0) (N := 3) hx hb hts (fun _ h => List.mem_cons_of_mem _ (List.mem_append_left _ (List.mem_append_left _ (List.mem_append_right _ h)))) hown hK hw 3 (Nat.lt_of_lt_of_le (Nat.le_of_ble_eq_true rfl : 3 < 191) hn) (mk_3 cA α) rfl 0 (by decide) (hts _ (List.mem_of_getElem? (i := 4) rfl)) (fun _ h9 => h9) rfl dX10_requireProduct_9 ?_
    refine x_get (v := .int (S.1 23 2)) (C := RX2) (T := TX2) (N := 12) hx hb hts (fun _ h => List.mem_cons_of_mem _ (List.mem_append_left _ (List.mem_append_right _ h))) hown hK hw 23 (Nat.lt_of_lt_of_le (Nat.le_of_ble_eq_true rfl : 23 < 191) hn) (mk_23 cA α) rfl 2 (by decide) (hts _ (List.mem_of_getElem? (i := 5) rfl)) (fun _ h9 => h9) rfl dX10_requireProduct_12 ?_
    refine x_topN (k := Pn) hP9 ?_
    refine lv_icmp_lt (tgt := 29) hx hb dX10_requireProduct_15 (by decide) (fun c2 => ?_) (fun c2 => ?_)
    · exact absurd (in_ex c1 c2 (by omega)) hx9
    · skip
      exact x_throwSW (names := eUp) (rest := []) hx hb hst hown fit_IO fit_Up (hts _ (List.mem_of_getElem? (i := 1) rfl)) (hts _ (List.mem_of_getElem? (i := 2) rfl)) (hSx.1 _ (List.mem_of_getElem? (i := 16) rfl)) (at_IO hSx (fun w h => hts w ((fun _ h => List.mem_cons_of_mem _ (List.mem_append_right _ h)) w h))) ga_IO hZ hK hw (hl.1.trans hml.symm) dX10_requireProduct_18 dX10_requireProduct_21 dX10_requireProduct_22 dX10_requireProduct_25 dX10_requireProduct_28 hout (Nat.le_of_ble_eq_true rfl) (Nat.le_of_ble_eq_true rfl) (Nat.le_of_ble_eq_true rfl) (Nat.le_of_ble_eq_true rfl) hlocks rfl

set_option maxRecDepth 100000 in
set_option maxHeartbeats 1000000 in
theorem ct_X10_requireCurrency (l : Launch) (D : va_G) (cA : Nat → ClassId) (α : Nat → Nat) (n sz : Nat) (hn : 191 ≤ n) (S : Mem) (Un : Nat) (hU : S.1 23 0 = nI Un) (hU2 : Un ≤ 4) (i : Nat) (hi : i < Un) : CtV l yX10_requireCurrency wsX10_requireCurrency ({ frames := 6, cells := 0, slots := 0, locals := 100 }) D cA α n sz [.ref (α 0), .int (nI i)] S S := by
  refine ct_enter cX10_requireCurrency 2 none (by decide) rfl (Nat.le_of_ble_eq_true rfl) ?_
  intro p e s m below meth c hx hb hr hml hlocks hown hts hK hsz hw ls hl
  have hown : s.vm.findClass RX10 = some m.cls := hown
  have hAw : ∀ z, Aw α n s.heap.size z → Aw α n sz z := by rw [hsz]; exact fun _ h => h
  have hl : lv_has ls 2 [(0, .ref (α 0)), (1, .int (nI i))] := hl
  refine lv_iload_n hx hb dX10_requireCurrency_0 rfl (lv_at hl 1 rfl) ?_
  refine lv_if_lt (tgt := 18) hx hb dX10_requireCurrency_1 (by decide) (fun c1 => ?_) (fun c1 => ?_)
  · exact absurd c1 (cpo (by omega))
  · skip
    refine lv_iload_n hx hb dX10_requireCurrency_4 rfl (lv_at hl 1 rfl) ?_
    refine lv_aload_n hx hb dX10_requireCurrency_5 rfl (lv_at hl 0 rfl) ?_
    refine x_get (v := .ref (α 3)) (C := RX10) (T := TX10) (N := 7) hx hb hts (fun _ h => List.mem_cons_of_mem _ (List.mem_append_left _ (List.mem_append_left _ (List.mem_append_left _ (List.mem_append_right _ h))))) hown hK hw 0 (Nat.lt_of_lt_of_le (Nat.le_of_ble_eq_true rfl : 0 < 191) hn) (mk_0 cA α) rfl 1 (by decide) (hts _ (List.mem_of_getElem? (i := 3) rfl)) (fun _ h9 => h9) rfl dX10_requireCurrency_6 ?_
    refine x_get (v := .ref (α 23)) (C := RX0) (T := TX0) (N := 3) hx hb hts (fun _ h => List.mem_cons_of_mem _ (List.mem_append_left _ (List.mem_append_left _ (List.mem_append_right _ h)))) hown hK hw 3 (Nat.lt_of_lt_of_le (Nat.le_of_ble_eq_true rfl : 3 < 191) hn) (mk_3 cA α) rfl 0 (by decide) (hts _ (List.mem_of_getElem? (i := 4) rfl)) (fun _ h9 => h9) rfl dX10_requireCurrency_9 ?_
    refine x_get (v := .int (S.1 23 0)) (C := RX2) (T := TX2) (N := 12) hx hb hts (fun _ h => List.mem_cons_of_mem _ (List.mem_append_left _ (List.mem_append_right _ h))) hown hK hw 23 (Nat.lt_of_lt_of_le (Nat.le_of_ble_eq_true rfl : 23 < 191) hn) (mk_23 cA α) rfl 0 (by decide) (hts _ (List.mem_of_getElem? (i := 5) rfl)) (fun _ h9 => h9) rfl dX10_requireCurrency_12 ?_
    refine x_topN (k := Un) hU ?_
    refine xn_icmp_lt (tgt := 29) hx hb (by omega) (by omega) dX10_requireCurrency_15 (by decide) (fun c2 => ?_) (fun c2 => ?_)
    · skip
      exact ret_v hx hb hr hlocks hK hw dX10_requireCurrency_29 rfl
    · exact absurd hi (by omega)

set_option maxRecDepth 100000 in
set_option maxHeartbeats 1000000 in
theorem ct_X10_requireCurrencyX (l : Launch) (hst : l.stackTraces = false) (sa : Nat → Nat) (D : va_G) (cA : Nat → ClassId) (α : Nat → Nat) (n sz : Nat) (hn : 191 ≤ n) (S : Mem) (Un : Nat) (hU : S.1 23 0 = nI Un) (hU2 : Un ≤ 4) (x : Int32) (hx9 : ¬ ∃ i, i < Un ∧ x = nI i) : CtX sa l yX10_requireCurrency wsX10_requireCurrency ({ frames := 6, cells := 1, slots := 6, locals := 100 }) D cA α n sz [.ref (α 0), .int x] S eIO := by
  refine ctx_enter cX10_requireCurrency 2 none (by decide) rfl (Nat.le_of_ble_eq_true rfl) ?_
  intro p e s m below meth c hx hb hr hml hlocks hown hts hK hsz hw hZ hSx hout ls hl
  have hown : s.vm.findClass RX10 = some m.cls := hown
  have hAw : ∀ z, Aw α n s.heap.size z → Aw α n sz z := by rw [hsz]; exact fun _ h => h
  have hl : lv_has ls 2 [(0, .ref (α 0)), (1, .int x)] := hl
  refine lv_iload_n hx hb dX10_requireCurrency_0 rfl (lv_at hl 1 rfl) ?_
  refine lv_if_lt (tgt := 18) hx hb dX10_requireCurrency_1 (by decide) (fun c1 => ?_) (fun c1 => ?_)
  · skip
    exact x_throwSW (names := eUp) (rest := []) hx hb hst hown fit_IO fit_Up (hts _ (List.mem_of_getElem? (i := 1) rfl)) (hts _ (List.mem_of_getElem? (i := 2) rfl)) (hSx.1 _ (List.mem_of_getElem? (i := 14) rfl)) (at_IO hSx (fun w h => hts w ((fun _ h => List.mem_cons_of_mem _ (List.mem_append_right _ h)) w h))) ga_IO hZ hK hw (hl.1.trans hml.symm) dX10_requireCurrency_18 dX10_requireCurrency_21 dX10_requireCurrency_22 dX10_requireCurrency_25 dX10_requireCurrency_28 hout (Nat.le_of_ble_eq_true rfl) (Nat.le_of_ble_eq_true rfl) (Nat.le_of_ble_eq_true rfl) (Nat.le_of_ble_eq_true rfl) hlocks rfl
  · skip
    refine lv_iload_n hx hb dX10_requireCurrency_4 rfl (lv_at hl 1 rfl) ?_
    refine lv_aload_n hx hb dX10_requireCurrency_5 rfl (lv_at hl 0 rfl) ?_
    refine x_get (v := .ref (α 3)) (C := RX10) (T := TX10) (N := 7) hx hb hts (fun _ h => List.mem_cons_of_mem _ (List.mem_append_left _ (List.mem_append_left _ (List.mem_append_left _ (List.mem_append_right _ h))))) hown hK hw 0 (Nat.lt_of_lt_of_le (Nat.le_of_ble_eq_true rfl : 0 < 191) hn) (mk_0 cA α) rfl 1 (by decide) (hts _ (List.mem_of_getElem? (i := 3) rfl)) (fun _ h9 => h9) rfl dX10_requireCurrency_6 ?_
    refine x_get (v := .ref (α 23)) (C := RX0) (T := TX0) (N := 3) hx hb hts (fun _ h => List.mem_cons_of_mem _ (List.mem_append_left _ (List.mem_append_left _ (List.mem_append_right _ h)))) hown hK hw 3 (Nat.lt_of_lt_of_le (Nat.le_of_ble_eq_true rfl : 3 < 191) hn) (mk_3 cA α) rfl 0 (by decide) (hts _ (List.mem_of_getElem? (i := 4) rfl)) (fun _ h9 => h9) rfl dX10_requireCurrency_9 ?_
    refine x_get (v := .int (S.1 23 0)) (C := RX2) (T := TX2) (N := 12) hx hb hts (fun _ h => List.mem_cons_of_mem _ (List.mem_append_left _ (List.mem_append_right _ h))) hown hK hw 23 (Nat.lt_of_lt_of_le (Nat.le_of_ble_eq_true rfl : 23 < 191) hn) (mk_23 cA α) rfl 0 (by decide) (hts _ (List.mem_of_getElem? (i := 5) rfl)) (fun _ h9 => h9) rfl dX10_requireCurrency_12 ?_
    refine x_topN (k := Un) hU ?_
    refine lv_icmp_lt (tgt := 29) hx hb dX10_requireCurrency_15 (by decide) (fun c2 => ?_) (fun c2 => ?_)
    · exact absurd (in_ex c1 c2 (by omega)) hx9
    · skip
      exact x_throwSW (names := eUp) (rest := []) hx hb hst hown fit_IO fit_Up (hts _ (List.mem_of_getElem? (i := 1) rfl)) (hts _ (List.mem_of_getElem? (i := 2) rfl)) (hSx.1 _ (List.mem_of_getElem? (i := 14) rfl)) (at_IO hSx (fun w h => hts w ((fun _ h => List.mem_cons_of_mem _ (List.mem_append_right _ h)) w h))) ga_IO hZ hK hw (hl.1.trans hml.symm) dX10_requireCurrency_18 dX10_requireCurrency_21 dX10_requireCurrency_22 dX10_requireCurrency_25 dX10_requireCurrency_28 hout (Nat.le_of_ble_eq_true rfl) (Nat.le_of_ble_eq_true rfl) (Nat.le_of_ble_eq_true rfl) (Nat.le_of_ble_eq_true rfl) hlocks rfl

set_option maxRecDepth 100000 in
set_option maxHeartbeats 1000000 in
theorem ct_X10_requireItem (l : Launch) (D : va_G) (cA : Nat → ClassId) (α : Nat → Nat) (n sz : Nat) (hn : 191 ≤ n) (S : Mem) (N : Nat) (hN : S.1 74 0 = nI N) (hN2 : N ≤ 100) (i : Nat) (hi : i < N) : CtV l yX10_requireItem wsX10_requireItem ({ frames := 6, cells := 0, slots := 0, locals := 100 }) D cA α n sz [.ref (α 0), .int (nI i)] S S := by
  refine ct_enter cX10_requireItem 2 none (by decide) rfl (Nat.le_of_ble_eq_true rfl) ?_
  intro p e s m below meth c hx hb hr hml hlocks hown hts hK hsz hw ls hl
  have hown : s.vm.findClass RX10 = some m.cls := hown
  have hAw : ∀ z, Aw α n s.heap.size z → Aw α n sz z := by rw [hsz]; exact fun _ h => h
  have hl : lv_has ls 2 [(0, .ref (α 0)), (1, .int (nI i))] := hl
  refine lv_iload_n hx hb dX10_requireItem_0 rfl (lv_at hl 1 rfl) ?_
  refine lv_if_lt (tgt := 18) hx hb dX10_requireItem_1 (by decide) (fun c1 => ?_) (fun c1 => ?_)
  · exact absurd c1 (cpo (by omega))
  · skip
    refine lv_iload_n hx hb dX10_requireItem_4 rfl (lv_at hl 1 rfl) ?_
    refine lv_aload_n hx hb dX10_requireItem_5 rfl (lv_at hl 0 rfl) ?_
    refine x_get (v := .ref (α 3)) (C := RX10) (T := TX10) (N := 7) hx hb hts (fun _ h => List.mem_cons_of_mem _ (List.mem_append_left _ (List.mem_append_left _ (List.mem_append_left _ (List.mem_append_right _ h))))) hown hK hw 0 (Nat.lt_of_lt_of_le (Nat.le_of_ble_eq_true rfl : 0 < 191) hn) (mk_0 cA α) rfl 1 (by decide) (hts _ (List.mem_of_getElem? (i := 3) rfl)) (fun _ h9 => h9) rfl dX10_requireItem_6 ?_
    refine x_get (v := .ref (α 74)) (C := RX0) (T := TX0) (N := 3) hx hb hts (fun _ h => List.mem_cons_of_mem _ (List.mem_append_left _ (List.mem_append_left _ (List.mem_append_right _ h)))) hown hK hw 3 (Nat.lt_of_lt_of_le (Nat.le_of_ble_eq_true rfl : 3 < 191) hn) (mk_3 cA α) rfl 2 (by decide) (hts _ (List.mem_of_getElem? (i := 4) rfl)) (fun _ h9 => h9) rfl dX10_requireItem_9 ?_
    refine x_get (v := .int (S.1 74 0)) (C := RX9) (T := TX9) (N := 14) hx hb hts (fun _ h => List.mem_cons_of_mem _ (List.mem_append_left _ (List.mem_append_right _ h))) hown hK hw 74 (Nat.lt_of_lt_of_le (Nat.le_of_ble_eq_true rfl : 74 < 191) hn) (mk_74 cA α) rfl 0 (by decide) (hts _ (List.mem_of_getElem? (i := 5) rfl)) (fun _ h9 => h9) rfl dX10_requireItem_12 ?_
    refine x_topN (k := N) hN ?_
    refine xn_icmp_lt (tgt := 29) hx hb (by omega) (by omega) dX10_requireItem_15 (by decide) (fun c2 => ?_) (fun c2 => ?_)
    · skip
      exact ret_v hx hb hr hlocks hK hw dX10_requireItem_29 rfl
    · exact absurd hi (by omega)

set_option maxRecDepth 100000 in
set_option maxHeartbeats 1000000 in
theorem ct_X10_requireItemX (l : Launch) (hst : l.stackTraces = false) (sa : Nat → Nat) (D : va_G) (cA : Nat → ClassId) (α : Nat → Nat) (n sz : Nat) (hn : 191 ≤ n) (S : Mem) (N : Nat) (hN : S.1 74 0 = nI N) (hN2 : N ≤ 100) (x : Int32) (hx9 : ¬ ∃ i, i < N ∧ x = nI i) : CtX sa l yX10_requireItem wsX10_requireItem ({ frames := 6, cells := 1, slots := 6, locals := 100 }) D cA α n sz [.ref (α 0), .int x] S eIO := by
  refine ctx_enter cX10_requireItem 2 none (by decide) rfl (Nat.le_of_ble_eq_true rfl) ?_
  intro p e s m below meth c hx hb hr hml hlocks hown hts hK hsz hw hZ hSx hout ls hl
  have hown : s.vm.findClass RX10 = some m.cls := hown
  have hAw : ∀ z, Aw α n s.heap.size z → Aw α n sz z := by rw [hsz]; exact fun _ h => h
  have hl : lv_has ls 2 [(0, .ref (α 0)), (1, .int x)] := hl
  refine lv_iload_n hx hb dX10_requireItem_0 rfl (lv_at hl 1 rfl) ?_
  refine lv_if_lt (tgt := 18) hx hb dX10_requireItem_1 (by decide) (fun c1 => ?_) (fun c1 => ?_)
  · skip
    exact x_throwSW (names := eUp) (rest := []) hx hb hst hown fit_IO fit_Up (hts _ (List.mem_of_getElem? (i := 1) rfl)) (hts _ (List.mem_of_getElem? (i := 2) rfl)) (hSx.1 _ (List.mem_of_getElem? (i := 17) rfl)) (at_IO hSx (fun w h => hts w ((fun _ h => List.mem_cons_of_mem _ (List.mem_append_right _ h)) w h))) ga_IO hZ hK hw (hl.1.trans hml.symm) dX10_requireItem_18 dX10_requireItem_21 dX10_requireItem_22 dX10_requireItem_25 dX10_requireItem_28 hout (Nat.le_of_ble_eq_true rfl) (Nat.le_of_ble_eq_true rfl) (Nat.le_of_ble_eq_true rfl) (Nat.le_of_ble_eq_true rfl) hlocks rfl
  · skip
    refine lv_iload_n hx hb dX10_requireItem_4 rfl (lv_at hl 1 rfl) ?_
    refine lv_aload_n hx hb dX10_requireItem_5 rfl (lv_at hl 0 rfl) ?_
    refine x_get (v := .ref (α 3)) (C := RX10) (T := TX10) (N := 7) hx hb hts (fun _ h => List.mem_cons_of_mem _ (List.mem_append_left _ (List.mem_append_left _ (List.mem_append_left _ (List.mem_append_right _ h))))) hown hK hw 0 (Nat.lt_of_lt_of_le (Nat.le_of_ble_eq_true rfl : 0 < 191) hn) (mk_0 cA α) rfl 1 (by decide) (hts _ (List.mem_of_getElem? (i := 3) rfl)) (fun _ h9 => h9) rfl dX10_requireItem_6 ?_
    refine x_get (v := .ref (α 74)) (C := RX0) (T := TX0) (N := 3) hx hb hts (fun _ h => List.mem_cons_of_mem _ (List.mem_append_left _ (List.mem_append_left _ (List.mem_append_right _ h)))) hown hK hw 3 (Nat.lt_of_lt_of_le (Nat.le_of_ble_eq_true rfl : 3 < 191) hn) (mk_3 cA α) rfl 2 (by decide) (hts _ (List.mem_of_getElem? (i := 4) rfl)) (fun _ h9 => h9) rfl dX10_requireItem_9 ?_
    refine x_get (v := .int (S.1 74 0)) (C := RX9) (T := TX9) (N := 14) hx hb hts (fun _ h => List.mem_cons_of_mem _ (List.mem_append_left _ (List.mem_append_right _ h))) hown hK hw 74 (Nat.lt_of_lt_of_le (Nat.le_of_ble_eq_true rfl : 74 < 191) hn) (mk_74 cA α) rfl 0 (by decide) (hts _ (List.mem_of_getElem? (i := 5) rfl)) (fun _ h9 => h9) rfl dX10_requireItem_12 ?_
    refine x_topN (k := N) hN ?_
    refine lv_icmp_lt (tgt := 29) hx hb dX10_requireItem_15 (by decide) (fun c2 => ?_) (fun c2 => ?_)
    · exact absurd (in_ex c1 c2 (by omega)) hx9
    · skip
      exact x_throwSW (names := eUp) (rest := []) hx hb hst hown fit_IO fit_Up (hts _ (List.mem_of_getElem? (i := 1) rfl)) (hts _ (List.mem_of_getElem? (i := 2) rfl)) (hSx.1 _ (List.mem_of_getElem? (i := 17) rfl)) (at_IO hSx (fun w h => hts w ((fun _ h => List.mem_cons_of_mem _ (List.mem_append_right _ h)) w h))) ga_IO hZ hK hw (hl.1.trans hml.symm) dX10_requireItem_18 dX10_requireItem_21 dX10_requireItem_22 dX10_requireItem_25 dX10_requireItem_28 hout (Nat.le_of_ble_eq_true rfl) (Nat.le_of_ble_eq_true rfl) (Nat.le_of_ble_eq_true rfl) (Nat.le_of_ble_eq_true rfl) hlocks rfl

set_option maxRecDepth 100000 in
set_option maxHeartbeats 1000000 in
theorem ct_X10_requireRange (l : Launch) (D : va_G) (cA : Nat → ClassId) (α : Nat → Nat) (n sz : Nat) (hn : 191 ≤ n) (S : Mem) (x : Int32) (a b : Nat) (ha : a < 1000000000) (hb9 : b < 999999999) (h : ∃ i, a ≤ i ∧ i ≤ b ∧ x = nI i) : CtV l yX10_requireRange wsX10_requireRange ({ frames := 6, cells := 0, slots := 0, locals := 100 }) D cA α n sz [.int x, .int (nI a), .int (nI b)] S S := by
  refine ct_enter cX10_requireRange 3 none (by decide) rfl (Nat.le_of_ble_eq_true rfl) ?_
  intro p e s m below meth c hx hb hr hml hlocks hown hts hK hsz hw ls hl
  have hown : s.vm.findClass RX10 = some m.cls := hown
  have hAw : ∀ z, Aw α n s.heap.size z → Aw α n sz z := by rw [hsz]; exact fun _ h => h
  have hl : lv_has ls 3 [(0, .int x), (1, .int (nI a)), (2, .int (nI b))] := hl
  refine lv_iload_n hx hb dX10_requireRange_0 rfl (lv_at hl 0 rfl) ?_
  refine lv_iload_n hx hb dX10_requireRange_1 rfl (lv_at hl 1 rfl) ?_
  refine lv_icmp_lt (tgt := 10) hx hb dX10_requireRange_2 (by decide) (fun c1 => ?_) (fun c1 => ?_)
  · obtain ⟨i, q1, q2, q3⟩ := h; rw [q3] at c1; exact absurd ((nI_ltI (by omega) (by omega)).mp c1) (by omega)
  · skip
    refine lv_iload_n hx hb dX10_requireRange_5 rfl (lv_at hl 0 rfl) ?_
    refine lv_iload_n hx hb dX10_requireRange_6 rfl (lv_at hl 2 rfl) ?_
    refine lv_icmp_le (tgt := 21) hx hb dX10_requireRange_7 (by decide) (fun c2 => ?_) (fun c2 => ?_)
    · skip
      exact ret_v hx hb hr hlocks hK hw dX10_requireRange_21 rfl
    · obtain ⟨i, q1, q2, q3⟩ := h; rw [q3] at c2; exact absurd ((nI_leI (by omega) (by omega)).mpr q2) c2

set_option maxRecDepth 100000 in
set_option maxHeartbeats 1000000 in
theorem ct_X10_requireRangeX (l : Launch) (hst : l.stackTraces = false) (sa : Nat → Nat) (D : va_G) (cA : Nat → ClassId) (α : Nat → Nat) (n sz : Nat) (hn : 191 ≤ n) (S : Mem) (x : Int32) (a b : Nat) (ha : a < 1000000000) (hb9 : b < 999999999) (hx9 : ¬ ∃ i, a ≤ i ∧ i ≤ b ∧ x = nI i) : CtX sa l yX10_requireRange wsX10_requireRange ({ frames := 6, cells := 1, slots := 6, locals := 100 }) D cA α n sz [.int x, .int (nI a), .int (nI b)] S eIA := by
  refine ctx_enter cX10_requireRange 3 none (by decide) rfl (Nat.le_of_ble_eq_true rfl) ?_
  intro p e s m below meth c hx hb hr hml hlocks hown hts hK hsz hw hZ hSx hout ls hl
  have hown : s.vm.findClass RX10 = some m.cls := hown
  have hAw : ∀ z, Aw α n s.heap.size z → Aw α n sz z := by rw [hsz]; exact fun _ h => h
  have hl : lv_has ls 3 [(0, .int x), (1, .int (nI a)), (2, .int (nI b))] := hl
  refine lv_iload_n hx hb dX10_requireRange_0 rfl (lv_at hl 0 rfl) ?_
  refine lv_iload_n hx hb dX10_requireRange_1 rfl (lv_at hl 1 rfl) ?_
  refine lv_icmp_lt (tgt := 10) hx hb dX10_requireRange_2 (by decide) (fun c1 => ?_) (fun c1 => ?_)
  · skip
    exact x_throwSW (names := eUp) (rest := []) hx hb hst hown fit_IA fit_Up (hts _ (List.mem_of_getElem? (i := 1) rfl)) (hts _ (List.mem_of_getElem? (i := 2) rfl)) (hSx.1 _ (List.mem_of_getElem? (i := 18) rfl)) (at_IA hSx (fun w h => hts w ((fun _ h => List.mem_cons_of_mem _ (List.mem_append_right _ h)) w h))) ga_IA hZ hK hw (hl.1.trans hml.symm) dX10_requireRange_10 dX10_requireRange_13 dX10_requireRange_14 dX10_requireRange_17 dX10_requireRange_20 hout (Nat.le_of_ble_eq_true rfl) (Nat.le_of_ble_eq_true rfl) (Nat.le_of_ble_eq_true rfl) (Nat.le_of_ble_eq_true rfl) hlocks rfl
  · skip
    refine lv_iload_n hx hb dX10_requireRange_5 rfl (lv_at hl 0 rfl) ?_
    refine lv_iload_n hx hb dX10_requireRange_6 rfl (lv_at hl 2 rfl) ?_
    refine lv_icmp_le (tgt := 21) hx hb dX10_requireRange_7 (by decide) (fun c2 => ?_) (fun c2 => ?_)
    · exact absurd (in_ex2 c1 c2 hb9 ha) hx9
    · skip
      exact x_throwSW (names := eUp) (rest := []) hx hb hst hown fit_IA fit_Up (hts _ (List.mem_of_getElem? (i := 1) rfl)) (hts _ (List.mem_of_getElem? (i := 2) rfl)) (hSx.1 _ (List.mem_of_getElem? (i := 18) rfl)) (at_IA hSx (fun w h => hts w ((fun _ h => List.mem_cons_of_mem _ (List.mem_append_right _ h)) w h))) ga_IA hZ hK hw (hl.1.trans hml.symm) dX10_requireRange_10 dX10_requireRange_13 dX10_requireRange_14 dX10_requireRange_17 dX10_requireRange_20 hout (Nat.le_of_ble_eq_true rfl) (Nat.le_of_ble_eq_true rfl) (Nat.le_of_ble_eq_true rfl) (Nat.le_of_ble_eq_true rfl) hlocks rfl

set_option maxRecDepth 100000 in
set_option maxHeartbeats 1000000 in
theorem ct_X10_requirePieces (l : Launch) (D : va_G) (cA : Nat → ClassId) (α : Nat → Nat) (n sz : Nat) (hn : 191 ≤ n) (S : Mem) (a : Int32) (b : Nat) (q : Int32) (hb6 : b < 6) (M : Nat) (hM : S.1 74 1 = nI M) (hM2 : M ≤ 100) (h : cCan S a b q M = true) : CtV l yX10_requirePieces wsX10_requirePieces ({ frames := 6, cells := 0, slots := 0, locals := 100 }) D cA α n sz [.ref (α 0), .int a, .int (nI b), .int q] S S := by
  refine ct_enter cX10_requirePieces 4 none (by decide) rfl (Nat.le_of_ble_eq_true rfl) ?_
  intro p e s m below meth c hx hb hr hml hlocks hown hts hK hsz hw ls hl
  have hown : s.vm.findClass RX10 = some m.cls := hown
  have hAw : ∀ z, Aw α n s.heap.size z → Aw α n sz z := by rw [hsz]; exact fun _ h => h
  have hl : lv_has ls 4 [(0, .ref (α 0)), (1, .int a), (2, .int (nI b)), (3, .int q)] := hl
  refine lv_iload_n hx hb dX10_requirePieces_0 rfl (lv_at hl 1 rfl) ?_
  refine lv_aload_n hx hb dX10_requirePieces_1 rfl (lv_at hl 0 rfl) ?_
  refine x_get (v := .ref (α 3)) (C := RX10) (T := TX10) (N := 7) hx hb hts (fun _ h => List.mem_cons_of_mem _ (List.mem_append_left _ (List.mem_append_left _ (List.mem_append_left _ (List.mem_append_left _ (List.mem_append_left _ (List.mem_append_right _ h))))))) hown hK hw 0 (Nat.lt_of_lt_of_le (Nat.le_of_ble_eq_true rfl : 0 < 191) hn) (mk_0 cA α) rfl 1 (by decide) (hts _ (List.mem_of_getElem? (i := 3) rfl)) (fun _ h9 => h9) rfl dX10_requirePieces_2 ?_
  refine x_get (v := .ref (α 23)) (C := RX0) (T := TX0) (N := 3) hx hb hts (fun _ h => List.mem_cons_of_mem _ (List.mem_append_left _ (List.mem_append_left _ (List.mem_append_left _ (List.mem_append_left _ (List.mem_append_right _ h)))))) hown hK hw 3 (Nat.lt_of_lt_of_le (Nat.le_of_ble_eq_true rfl : 3 < 191) hn) (mk_3 cA α) rfl 0 (by decide) (hts _ (List.mem_of_getElem? (i := 4) rfl)) (fun _ h9 => h9) rfl dX10_requirePieces_5 ?_
  refine x_get (v := .ref (α 26)) (C := RX2) (T := TX2) (N := 12) hx hb hts (fun _ h => List.mem_cons_of_mem _ (List.mem_append_left _ (List.mem_append_left _ (List.mem_append_left _ (List.mem_append_right _ h))))) hown hK hw 23 (Nat.lt_of_lt_of_le (Nat.le_of_ble_eq_true rfl : 23 < 191) hn) (mk_23 cA α) rfl 8 (by decide) (hts _ (List.mem_of_getElem? (i := 5) rfl)) (fun _ h9 => h9) rfl dX10_requirePieces_8 ?_
  refine lv_iload_n hx hb dX10_requirePieces_11 rfl (lv_at hl 2 rfl) ?_
  refine x_iald hx hb hK hw 26 6 (Nat.lt_of_lt_of_le (Nat.le_of_ble_eq_true rfl : 26 < 191) hn) (mk_26 cA α) b rfl (by omega) (by decide) dX10_requirePieces_12 ?_
  refine lv_icmp_eq (tgt := 44) hx hb dX10_requirePieces_13 (by decide) (fun c1 => ?_) (fun c1 => ?_)
  · skip
    exact ret_v hx hb hr hlocks hK hw dX10_requirePieces_44 rfl
  · skip
    refine lv_aload_n hx hb dX10_requirePieces_16 rfl (lv_at hl 0 rfl) ?_
    refine x_get (v := .ref (α 10)) (C := RX10) (T := TX10) (N := 7) hx hb hts (fun _ h => List.mem_cons_of_mem _ (List.mem_append_left _ (List.mem_append_left _ (List.mem_append_left _ (List.mem_append_left _ (List.mem_append_left _ (List.mem_append_right _ h))))))) hown hK hw 0 (Nat.lt_of_lt_of_le (Nat.le_of_ble_eq_true rfl : 0 < 191) hn) (mk_0 cA α) rfl 4 (by decide) (hts _ (List.mem_of_getElem? (i := 6) rfl)) (fun _ h9 => h9) rfl dX10_requirePieces_17 ?_
    refine lv_aload_n hx hb dX10_requirePieces_20 rfl (lv_at hl 0 rfl) ?_
    refine x_get (v := .ref (α 3)) (C := RX10) (T := TX10) (N := 7) hx hb hts (fun _ h => List.mem_cons_of_mem _ (List.mem_append_left _ (List.mem_append_left _ (List.mem_append_left _ (List.mem_append_left _ (List.mem_append_left _ (List.mem_append_right _ h))))))) hown hK hw 0 (Nat.lt_of_lt_of_le (Nat.le_of_ble_eq_true rfl : 0 < 191) hn) (mk_0 cA α) rfl 1 (by decide) (hts _ (List.mem_of_getElem? (i := 3) rfl)) (fun _ h9 => h9) rfl dX10_requirePieces_21 ?_
    refine lv_iload_n hx hb dX10_requirePieces_24 rfl (lv_at hl 1 rfl) ?_
    refine lv_iload_n hx hb dX10_requirePieces_25 rfl (lv_at hl 2 rfl) ?_
    refine x_callVIr (q := 10) (C := RX1) (As := [.ref (α 3), .int a, .int (nI b)]) (rest := []) ⟨hx, hb, hml, hown, hts⟩ (ct_X1_piecesOf l D cA α n _ hn S a (nI b) M hM hM2) (cwV 3 hts gX10_requirePieces_X1_piecesOf rfl rfl rfl (by decide +kernel) ⟨Nat.le_of_ble_eq_true rfl, Nat.le_of_ble_eq_true rfl⟩) hK hw hAw (ws_recv hK hw (q := 10) (Nat.lt_of_lt_of_le (Nat.le_of_ble_eq_true rfl : 10 < 191) hn) (mk_10 cA α) rfl) rfl hl.1 rfl (Nat.le_of_ble_eq_true rfl) dX10_requirePieces_26 ⟨Nat.zero_le _, Nat.zero_le _⟩ (fun H locs hw => ?_)
    refine lv_iload_n hx hb dX10_requirePieces_29 rfl (lv_at hl 3 rfl) ?_
    refine lv_icmp_ge (tgt := 44) hx hb dX10_requirePieces_30 (by decide) (fun c2 => ?_) (fun c2 => ?_)
    · skip
      exact ret_v hx hb hr hlocks hK hw dX10_requirePieces_44 rfl
    · exact absurd h (by unfold cCan; rw [decide_eq_false (fun e => c1 e.symm), decide_eq_true (Int32.not_le.mp c2)]; decide)

set_option maxRecDepth 100000 in
set_option maxHeartbeats 1000000 in
theorem ct_X10_requirePiecesX (l : Launch) (hst : l.stackTraces = false) (sa : Nat → Nat) (D : va_G) (cA : Nat → ClassId) (α : Nat → Nat) (n sz : Nat) (hn : 191 ≤ n) (S : Mem) (a : Int32) (b : Nat) (q : Int32) (hb6 : b < 6) (M : Nat) (hM : S.1 74 1 = nI M) (hM2 : M ≤ 100) (h : cCan S a b q M = false) : CtX sa l yX10_requirePieces wsX10_requirePieces ({ frames := 6, cells := 1, slots := 6, locals := 100 }) D cA α n sz [.ref (α 0), .int a, .int (nI b), .int q] S eIS := by
  refine ctx_enter cX10_requirePieces 4 none (by decide) rfl (Nat.le_of_ble_eq_true rfl) ?_
  intro p e s m below meth c hx hb hr hml hlocks hown hts hK hsz hw hZ hSx hout ls hl
  have hown : s.vm.findClass RX10 = some m.cls := hown
  have hAw : ∀ z, Aw α n s.heap.size z → Aw α n sz z := by rw [hsz]; exact fun _ h => h
  have hl : lv_has ls 4 [(0, .ref (α 0)), (1, .int a), (2, .int (nI b)), (3, .int q)] := hl
  refine lv_iload_n hx hb dX10_requirePieces_0 rfl (lv_at hl 1 rfl) ?_
  refine lv_aload_n hx hb dX10_requirePieces_1 rfl (lv_at hl 0 rfl) ?_
  refine x_get (v := .ref (α 3)) (C := RX10) (T := TX10) (N := 7) hx hb hts (fun _ h => List.mem_cons_of_mem _ (List.mem_append_left _ (List.mem_append_left _ (List.mem_append_left _ (List.mem_append_left _ (List.mem_append_left _ (List.mem_append_right _ h))))))) hown hK hw 0 (Nat.lt_of_lt_of_le (Nat.le_of_ble_eq_true rfl : 0 < 191) hn) (mk_0 cA α) rfl 1 (by decide) (hts _ (List.mem_of_getElem? (i := 3) rfl)) (fun _ h9 => h9) rfl dX10_requirePieces_2 ?_
  refine x_get (v := .ref (α 23)) (C := RX0) (T := TX0) (N := 3) hx hb hts (fun _ h => List.mem_cons_of_mem _ (List.mem_append_left _ (List.mem_append_left _ (List.mem_append_left _ (List.mem_append_left _ (List.mem_append_right _ h)))))) hown hK hw 3 (Nat.lt_of_lt_of_le (Nat.le_of_ble_eq_true rfl : 3 < 191) hn) (mk_3 cA α) rfl 0 (by decide) (hts _ (List.mem_of_getElem? (i := 4) rfl)) (fun _ h9 => h9) rfl dX10_requirePieces_5 ?_
  refine x_get (v := .ref (α 26)) (C := RX2) (T := TX2) (N := 12) hx hb hts (fun _ h => List.mem_cons_of_mem _ (List.mem_append_left _ (List.mem_append_left _ (List.mem_append_left _ (List.mem_append_right _ h))))) hown hK hw 23 (Nat.lt_of_lt_of_le (Nat.le_of_ble_eq_true rfl : 23 < 191) hn) (mk_23 cA α) rfl 8 (by decide) (hts _ (List.mem_of_getElem? (i := 5) rfl)) (fun _ h9 => h9) rfl dX10_requirePieces_8 ?_
  refine lv_iload_n hx hb dX10_requirePieces_11 rfl (lv_at hl 2 rfl) ?_
  refine x_iald hx hb hK hw 26 6 (Nat.lt_of_lt_of_le (Nat.le_of_ble_eq_true rfl : 26 < 191) hn) (mk_26 cA α) b rfl (by omega) (by decide) dX10_requirePieces_12 ?_
  refine lv_icmp_eq (tgt := 44) hx hb dX10_requirePieces_13 (by decide) (fun c1 => ?_) (fun c1 => ?_)
  · exact absurd h (by unfold cCan; rw [decide_eq_true c1.symm, Bool.true_or]; decide)
  · skip
    refine lv_aload_n hx hb dX10_requirePieces_16 rfl (lv_at hl 0 rfl) ?_
    refine x_get (v := .ref (α 10)) (C := RX10) (T := TX10) (N := 7) hx hb hts (fun _ h => List.mem_cons_of_mem _ (List.mem_append_left _ (List.mem_append_left _ (List.mem_append_left _ (List.mem_append_left _ (List.mem_append_left _ (List.mem_append_right _ h))))))) hown hK hw 0 (Nat.lt_of_lt_of_le (Nat.le_of_ble_eq_true rfl : 0 < 191) hn) (mk_0 cA α) rfl 4 (by decide) (hts _ (List.mem_of_getElem? (i := 6) rfl)) (fun _ h9 => h9) rfl dX10_requirePieces_17 ?_
    refine lv_aload_n hx hb dX10_requirePieces_20 rfl (lv_at hl 0 rfl) ?_
    refine x_get (v := .ref (α 3)) (C := RX10) (T := TX10) (N := 7) hx hb hts (fun _ h => List.mem_cons_of_mem _ (List.mem_append_left _ (List.mem_append_left _ (List.mem_append_left _ (List.mem_append_left _ (List.mem_append_left _ (List.mem_append_right _ h))))))) hown hK hw 0 (Nat.lt_of_lt_of_le (Nat.le_of_ble_eq_true rfl : 0 < 191) hn) (mk_0 cA α) rfl 1 (by decide) (hts _ (List.mem_of_getElem? (i := 3) rfl)) (fun _ h9 => h9) rfl dX10_requirePieces_21 ?_
    refine lv_iload_n hx hb dX10_requirePieces_24 rfl (lv_at hl 1 rfl) ?_
    refine lv_iload_n hx hb dX10_requirePieces_25 rfl (lv_at hl 2 rfl) ?_
    refine x_callVIr (q := 10) (C := RX1) (As := [.ref (α 3), .int a, .int (nI b)]) (rest := []) ⟨hx, hb, hml, hown, hts⟩ (ct_X1_piecesOf l D cA α n _ hn S a (nI b) M hM hM2) (cwV 3 hts gX10_requirePieces_X1_piecesOf rfl rfl rfl (by decide +kernel) ⟨Nat.le_of_ble_eq_true rfl, Nat.le_of_ble_eq_true rfl⟩) hK hw hAw (ws_recv hK hw (q := 10) (Nat.lt_of_lt_of_le (Nat.le_of_ble_eq_true rfl : 10 < 191) hn) (mk_10 cA α) rfl) rfl hl.1 rfl (Nat.le_of_ble_eq_true rfl) dX10_requirePieces_26 ⟨Nat.zero_le _, Nat.zero_le _⟩ (fun H locs hw => ?_)
    refine lv_iload_n hx hb dX10_requirePieces_29 rfl (lv_at hl 3 rfl) ?_
    refine lv_icmp_ge (tgt := 44) hx hb dX10_requirePieces_30 (by decide) (fun c2 => ?_) (fun c2 => ?_)
    · exact absurd h (by unfold cCan; rw [decide_eq_false (Int32.not_lt.mpr c2), Bool.not_false, Bool.or_true]; decide)
    · skip
      exact x_throwSW (names := eUp) (rest := []) hx hb hst hown fit_IS fit_Up (hts _ (List.mem_of_getElem? (i := 1) rfl)) (hts _ (List.mem_of_getElem? (i := 2) rfl)) (hSx.1 _ (List.mem_of_getElem? (i := 19) rfl)) (at_IS hSx (fun w h => hts w ((fun _ h => List.mem_cons_of_mem _ (List.mem_append_right _ h)) w h))) ga_IS hZ hK hw (hl.1.trans hml.symm) dX10_requirePieces_33 dX10_requirePieces_36 dX10_requirePieces_37 dX10_requirePieces_40 dX10_requirePieces_43 hout (Nat.le_of_ble_eq_true rfl) (Nat.le_of_ble_eq_true rfl) (Nat.le_of_ble_eq_true rfl) (Nat.le_of_ble_eq_true rfl) hlocks rfl
