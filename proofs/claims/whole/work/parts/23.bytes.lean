/-! snapshots of the class, and the bytes that come in -/
theorem cpSt_it (S : Mem) (i j K M : Nat) : (cpSt S i j K M).1 (74 + 9 * i) 0 = S.1 (74 + 9 * j) 0 := by
  unfold cpSt
  rw [sL_1, sR_1 (by omega), sR_1 (by omega), sL_1, sL_1, sR_1 (by omega), sR_1 (by omega), sR_1 (by omega), sJ_1, sJ_1, sJ_1, sI_e, pk_un (by decide), sI_e, pk_un (by decide), sI_e, pk_us]
theorem cpSt_de (S : Mem) (i j K M : Nat) : (cpSt S i j K M).1 (74 + 9 * i) 1 = S.1 (74 + 9 * j) 1 := by
  unfold cpSt
  rw [sL_1, sR_1 (by omega), sR_1 (by omega), sL_1, sL_1, sR_1 (by omega), sR_1 (by omega), sR_1 (by omega), sJ_1, sJ_1, sJ_1, sI_e, pk_un (by decide), sI_e, pk_us]
theorem cpRw_agr (S : Mem) (i j K M : Nat) : agr S (cpRw S i j K M) (44 + 10 * i) 9 := by
  intro q hq
  unfold cpRw
  refine ⟨?_, ?_⟩
  · rw [sR_1 (by omega), sR_1 (by omega), sR_1 (by omega), sR_1 (by omega), sR_1 (by omega), sR_1 (by omega), sR_1 (by omega), sR_1 (by omega), sR_1 (by omega)]
  · rw [sR_2, sR_2, sR_2, sR_2, sR_2, sR_2, sR_2, sR_2, sR_2]

set_option maxRecDepth 100000 in
set_option maxHeartbeats 1000000 in
theorem ct_X8_keep0 (l : Launch) (D : va_G) (cA : Nat → ClassId) (α : Nat → Nat) (n sz : Nat) (hn : 191 ≤ n) (S : Mem) (K M : Nat) (hK1 : S.1 74 0 = nI K) (hKb : K ≤ 100) (hM1 : S.1 74 1 = nI M) (hMb : M ≤ 100) : CtV l yX8_keep wsX8_keep ({ frames := 2, cells := 0, slots := 0, locals := 83 }) D cA α n sz [.ref (α 14), .ref (α 3)] S (setI (cpRw (cpSt S 11 0 K M) 1 0 K M) 14 0 (nI 1)) := by
  refine ct_enter cX8_keep 2 none (by decide) rfl (Nat.le_of_ble_eq_true rfl) ?_
  intro p e s m below meth c hx hb hr hml hlocks hown hts hK hsz hw ls hl
  have hown : s.vm.findClass RX8 = some m.cls := hown
  have hAw : ∀ z, Aw α n s.heap.size z → Aw α n sz z := by rw [hsz]; exact fun _ h => h
  have hl : lv_has ls 2 [(0, .ref (α 14)), (1, .ref (α 3))] := hl
  refine lv_aload_n hx hb dX8_keep_0 rfl (lv_at hl 0 rfl) ?_
  refine x_get (v := .ref (α 173)) (C := RX8) (T := TX8) (N := 3) hx hb hts (fun _ h => List.mem_cons_of_mem _ (List.mem_append_left _ (List.mem_append_left _ (List.mem_append_left _ (List.mem_append_right _ h))))) hown hK hw 14 (Nat.lt_of_lt_of_le (Nat.le_of_ble_eq_true rfl : 14 < 191) hn) (mk_14 cA α) rfl 2 (by decide) (hts _ (List.mem_of_getElem? (i := 1) rfl)) (fun _ h9 => h9) rfl dX8_keep_1 ?_
  refine lv_aload_n hx hb dX8_keep_4 rfl (lv_at hl 1 rfl) ?_
  refine x_get (v := .ref (α 74)) (C := RX0) (T := TX0) (N := 3) hx hb hts (fun _ h => List.mem_cons_of_mem _ (List.mem_append_left _ (List.mem_append_left _ (List.mem_append_right _ h)))) hown hK hw 3 (Nat.lt_of_lt_of_le (Nat.le_of_ble_eq_true rfl : 3 < 191) hn) (mk_3 cA α) rfl 2 (by decide) (hts _ (List.mem_of_getElem? (i := 2) rfl)) (fun _ h9 => h9) rfl dX8_keep_5 ?_
  refine x_callVV (q := 173) (C := RX9) (As := [.ref (α (74 + 9 * 0))]) (rest := []) ⟨hx, hb, hml, hown, hts⟩ (ct_X9_copyFrom l D cA α n _ hn S 11 0 K M (by decide) (by decide) (by decide) hK1 hKb hM1 hMb) (cwV 1 hts gX8_keep_X9_copyFrom rfl rfl rfl (by decide +kernel) ⟨Nat.le_of_ble_eq_true rfl, Nat.le_of_ble_eq_true rfl⟩) hK hw hAw (ws_recv hK hw (q := 173) (Nat.lt_of_lt_of_le (Nat.le_of_ble_eq_true rfl : 173 < 191) hn) (mkS_0 cA α (i := 11) (by decide)) rfl) rfl hl.1 rfl (Nat.le_of_ble_eq_true rfl) dX8_keep_8 ⟨Nat.zero_le _, Nat.zero_le _⟩ (fun S1 eS1 H locs hw => ?_)
  refine lv_aload_n hx hb dX8_keep_11 rfl (lv_at hl 0 rfl) ?_
  refine x_get (v := .ref (α 54)) (C := RX8) (T := TX8) (N := 3) hx hb hts (fun _ h => List.mem_cons_of_mem _ (List.mem_append_left _ (List.mem_append_left _ (List.mem_append_left _ (List.mem_append_right _ h))))) hown hK hw 14 (Nat.lt_of_lt_of_le (Nat.le_of_ble_eq_true rfl : 14 < 191) hn) (mk_14 cA α) rfl 1 (by decide) (hts _ (List.mem_of_getElem? (i := 3) rfl)) (fun _ h9 => h9) rfl dX8_keep_12 ?_
  refine lv_aload_n hx hb dX8_keep_15 rfl (lv_at hl 1 rfl) ?_
  refine x_get (v := .ref (α 44)) (C := RX0) (T := TX0) (N := 3) hx hb hts (fun _ h => List.mem_cons_of_mem _ (List.mem_append_left _ (List.mem_append_left _ (List.mem_append_right _ h)))) hown hK hw 3 (Nat.lt_of_lt_of_le (Nat.le_of_ble_eq_true rfl : 3 < 191) hn) (mk_3 cA α) rfl 1 (by decide) (hts _ (List.mem_of_getElem? (i := 4) rfl)) (fun _ h9 => h9) rfl dX8_keep_16 ?_
  refine lv_aload_n hx hb dX8_keep_19 rfl (lv_at hl 0 rfl) ?_
  refine x_get (v := .ref (α 173)) (C := RX8) (T := TX8) (N := 3) hx hb hts (fun _ h => List.mem_cons_of_mem _ (List.mem_append_left _ (List.mem_append_left _ (List.mem_append_left _ (List.mem_append_right _ h))))) hown hK hw 14 (Nat.lt_of_lt_of_le (Nat.le_of_ble_eq_true rfl : 14 < 191) hn) (mk_14 cA α) rfl 2 (by decide) (hts _ (List.mem_of_getElem? (i := 1) rfl)) (fun _ h9 => h9) rfl dX8_keep_20 ?_
  refine x_get (v := .int (S1.1 173 0)) (C := RX9) (T := TX9) (N := 14) hx hb hts (fun _ h => List.mem_cons_of_mem _ (List.mem_append_left _ (List.mem_append_right _ h))) hown hK hw 173 (Nat.lt_of_lt_of_le (Nat.le_of_ble_eq_true rfl : 173 < 191) hn) (mkS_0 cA α (i := 11) (by decide)) rfl 0 (by decide) (hts _ (List.mem_of_getElem? (i := 5) rfl)) (fun _ h9 => h9) rfl dX8_keep_23 ?_
  refine x_topN (k := K) (by subst eS1; exact (cpSt_it S 11 0 K M).trans hK1) ?_
  refine lv_aload_n hx hb dX8_keep_26 rfl (lv_at hl 0 rfl) ?_
  refine x_get (v := .ref (α 173)) (C := RX8) (T := TX8) (N := 3) hx hb hts (fun _ h => List.mem_cons_of_mem _ (List.mem_append_left _ (List.mem_append_left _ (List.mem_append_left _ (List.mem_append_right _ h))))) hown hK hw 14 (Nat.lt_of_lt_of_le (Nat.le_of_ble_eq_true rfl : 14 < 191) hn) (mk_14 cA α) rfl 2 (by decide) (hts _ (List.mem_of_getElem? (i := 1) rfl)) (fun _ h9 => h9) rfl dX8_keep_27 ?_
  refine x_get (v := .int (S1.1 173 1)) (C := RX9) (T := TX9) (N := 14) hx hb hts (fun _ h => List.mem_cons_of_mem _ (List.mem_append_left _ (List.mem_append_right _ h))) hown hK hw 173 (Nat.lt_of_lt_of_le (Nat.le_of_ble_eq_true rfl : 173 < 191) hn) (mkS_0 cA α (i := 11) (by decide)) rfl 1 (by decide) (hts _ (List.mem_of_getElem? (i := 6) rfl)) (fun _ h9 => h9) rfl dX8_keep_30 ?_
  refine x_topN (k := M) (by subst eS1; exact (cpSt_de S 11 0 K M).trans hM1) ?_
  refine x_callVV (q := 54) (C := RX7) (As := [.ref (α (44 + 10 * 0)), .int (nI K), .int (nI M)]) (rest := []) ⟨hx, hb, hml, hown, hts⟩ (ct_X7_copyFrom l D cA α n _ hn S1 1 0 K M (by decide) (by decide) (by decide) hKb hMb) (cwV 3 hts gX8_keep_X7_copyFrom rfl rfl rfl (by decide +kernel) ⟨Nat.le_of_ble_eq_true rfl, Nat.le_of_ble_eq_true rfl⟩) hK hw hAw (ws_recv hK hw (q := 54) (Nat.lt_of_lt_of_le (Nat.le_of_ble_eq_true rfl : 54 < 191) hn) (mkR_0 cA α (i := 1) (by decide)) rfl) rfl hl.1 rfl (Nat.le_of_ble_eq_true rfl) dX8_keep_33 ⟨Nat.zero_le _, Nat.zero_le _⟩ (fun S2 eS2 H locs hw => ?_)
  refine lv_aload_n hx hb dX8_keep_36 rfl (lv_at hl 0 rfl) ?_
  refine lv_iconst (v := nI 1) hx hb dX8_keep_37 (by decide) ?_
  refine x_putI (x := nI 1) (ty := .boolean) (C := RX8) (T := TX8) (N := 3) hx hb hts (fun _ h => List.mem_cons_of_mem _ (List.mem_append_left _ (List.mem_append_left _ (List.mem_append_left _ (List.mem_append_right _ h))))) tyX8 tyX8_ok nmX8 hown hK hw 14 (Nat.lt_of_lt_of_le (Nat.le_of_ble_eq_true rfl : 14 < 191) hn) (mk_14 cA α) rfl 0 (by decide) (hts _ (List.mem_of_getElem? (i := 7) rfl)) (fun _ h9 => h9) rfl rfl (by decide) (by decide) (Nat.le_of_ble_eq_true rfl) rfl dX8_keep_38 (fun S3 eS3 H locs hw => ?_)
  exact ret_v hx hb hr hlocks hK hw dX8_keep_41 (by subst_vars; rfl)

set_option maxRecDepth 100000 in
set_option maxHeartbeats 1000000 in
theorem ct_X8_giveBack0 (l : Launch) (D : va_G) (cA : Nat → ClassId) (α : Nat → Nat) (n sz : Nat) (hn : 191 ≤ n) (S : Mem) (K M : Nat) (hK1 : S.1 173 0 = nI K) (hKb : K ≤ 100) (hM1 : S.1 173 1 = nI M) (hMb : M ≤ 100) : CtV l yX8_giveBack wsX8_giveBack ({ frames := 2, cells := 0, slots := 0, locals := 83 }) D cA α n sz [.ref (α 14), .ref (α 3)] S (cpRw (cpSt S 0 11 K M) 0 1 K M) := by
  refine ct_enter cX8_giveBack 2 none (by decide) rfl (Nat.le_of_ble_eq_true rfl) ?_
  intro p e s m below meth c hx hb hr hml hlocks hown hts hK hsz hw ls hl
  have hown : s.vm.findClass RX8 = some m.cls := hown
  have hAw : ∀ z, Aw α n s.heap.size z → Aw α n sz z := by rw [hsz]; exact fun _ h => h
  have hl : lv_has ls 2 [(0, .ref (α 14)), (1, .ref (α 3))] := hl
  refine lv_aload_n hx hb dX8_giveBack_0 rfl (lv_at hl 1 rfl) ?_
  refine x_get (v := .ref (α 74)) (C := RX0) (T := TX0) (N := 3) hx hb hts (fun _ h => List.mem_cons_of_mem _ (List.mem_append_left _ (List.mem_append_left _ (List.mem_append_left _ (List.mem_append_right _ h))))) hown hK hw 3 (Nat.lt_of_lt_of_le (Nat.le_of_ble_eq_true rfl : 3 < 191) hn) (mk_3 cA α) rfl 2 (by decide) (hts _ (List.mem_of_getElem? (i := 1) rfl)) (fun _ h9 => h9) rfl dX8_giveBack_1 ?_
  refine lv_aload_n hx hb dX8_giveBack_4 rfl (lv_at hl 0 rfl) ?_
  refine x_get (v := .ref (α 173)) (C := RX8) (T := TX8) (N := 3) hx hb hts (fun _ h => List.mem_cons_of_mem _ (List.mem_append_left _ (List.mem_append_left _ (List.mem_append_right _ h)))) hown hK hw 14 (Nat.lt_of_lt_of_le (Nat.le_of_ble_eq_true rfl : 14 < 191) hn) (mk_14 cA α) rfl 2 (by decide) (hts _ (List.mem_of_getElem? (i := 2) rfl)) (fun _ h9 => h9) rfl dX8_giveBack_5 ?_
  refine x_callVV (q := 74) (C := RX9) (As := [.ref (α (74 + 9 * 11))]) (rest := []) ⟨hx, hb, hml, hown, hts⟩ (ct_X9_copyFrom l D cA α n _ hn S 0 11 K M (by decide) (by decide) (by decide) hK1 hKb hM1 hMb) (cwV 1 hts gX8_giveBack_X9_copyFrom rfl rfl rfl (by decide +kernel) ⟨Nat.le_of_ble_eq_true rfl, Nat.le_of_ble_eq_true rfl⟩) hK hw hAw (ws_recv hK hw (q := 74) (Nat.lt_of_lt_of_le (Nat.le_of_ble_eq_true rfl : 74 < 191) hn) (mk_74 cA α) rfl) rfl hl.1 rfl (Nat.le_of_ble_eq_true rfl) dX8_giveBack_8 ⟨Nat.zero_le _, Nat.zero_le _⟩ (fun S1 eS1 H locs hw => ?_)
  refine lv_aload_n hx hb dX8_giveBack_11 rfl (lv_at hl 1 rfl) ?_
  refine x_get (v := .ref (α 44)) (C := RX0) (T := TX0) (N := 3) hx hb hts (fun _ h => List.mem_cons_of_mem _ (List.mem_append_left _ (List.mem_append_left _ (List.mem_append_left _ (List.mem_append_right _ h))))) hown hK hw 3 (Nat.lt_of_lt_of_le (Nat.le_of_ble_eq_true rfl : 3 < 191) hn) (mk_3 cA α) rfl 1 (by decide) (hts _ (List.mem_of_getElem? (i := 3) rfl)) (fun _ h9 => h9) rfl dX8_giveBack_12 ?_
  refine lv_aload_n hx hb dX8_giveBack_15 rfl (lv_at hl 0 rfl) ?_
  refine x_get (v := .ref (α 54)) (C := RX8) (T := TX8) (N := 3) hx hb hts (fun _ h => List.mem_cons_of_mem _ (List.mem_append_left _ (List.mem_append_left _ (List.mem_append_right _ h)))) hown hK hw 14 (Nat.lt_of_lt_of_le (Nat.le_of_ble_eq_true rfl : 14 < 191) hn) (mk_14 cA α) rfl 1 (by decide) (hts _ (List.mem_of_getElem? (i := 4) rfl)) (fun _ h9 => h9) rfl dX8_giveBack_16 ?_
  refine lv_aload_n hx hb dX8_giveBack_19 rfl (lv_at hl 0 rfl) ?_
  refine x_get (v := .ref (α 173)) (C := RX8) (T := TX8) (N := 3) hx hb hts (fun _ h => List.mem_cons_of_mem _ (List.mem_append_left _ (List.mem_append_left _ (List.mem_append_right _ h)))) hown hK hw 14 (Nat.lt_of_lt_of_le (Nat.le_of_ble_eq_true rfl : 14 < 191) hn) (mk_14 cA α) rfl 2 (by decide) (hts _ (List.mem_of_getElem? (i := 2) rfl)) (fun _ h9 => h9) rfl dX8_giveBack_20 ?_
  refine x_get (v := .int (S1.1 173 0)) (C := RX9) (T := TX9) (N := 14) hx hb hts (fun _ h => List.mem_cons_of_mem _ (List.mem_append_left _ (List.mem_append_right _ h))) hown hK hw 173 (Nat.lt_of_lt_of_le (Nat.le_of_ble_eq_true rfl : 173 < 191) hn) (mkS_0 cA α (i := 11) (by decide)) rfl 0 (by decide) (hts _ (List.mem_of_getElem? (i := 5) rfl)) (fun _ h9 => h9) rfl dX8_giveBack_23 ?_
  refine x_topN (k := K) (by subst eS1; exact (congrFun (cpSt_agr S 0 11 K M 173 (by omega)).1 0).trans hK1) ?_
  refine lv_aload_n hx hb dX8_giveBack_26 rfl (lv_at hl 0 rfl) ?_
  refine x_get (v := .ref (α 173)) (C := RX8) (T := TX8) (N := 3) hx hb hts (fun _ h => List.mem_cons_of_mem _ (List.mem_append_left _ (List.mem_append_left _ (List.mem_append_right _ h)))) hown hK hw 14 (Nat.lt_of_lt_of_le (Nat.le_of_ble_eq_true rfl : 14 < 191) hn) (mk_14 cA α) rfl 2 (by decide) (hts _ (List.mem_of_getElem? (i := 2) rfl)) (fun _ h9 => h9) rfl dX8_giveBack_27 ?_
  refine x_get (v := .int (S1.1 173 1)) (C := RX9) (T := TX9) (N := 14) hx hb hts (fun _ h => List.mem_cons_of_mem _ (List.mem_append_left _ (List.mem_append_right _ h))) hown hK hw 173 (Nat.lt_of_lt_of_le (Nat.le_of_ble_eq_true rfl : 173 < 191) hn) (mkS_0 cA α (i := 11) (by decide)) rfl 1 (by decide) (hts _ (List.mem_of_getElem? (i := 6) rfl)) (fun _ h9 => h9) rfl dX8_giveBack_30 ?_
  refine x_topN (k := M) (by subst eS1; exact (congrFun (cpSt_agr S 0 11 K M 173 (by omega)).1 1).trans hM1) ?_
  refine x_callVV (q := 44) (C := RX7) (As := [.ref (α (44 + 10 * 1)), .int (nI K), .int (nI M)]) (rest := []) ⟨hx, hb, hml, hown, hts⟩ (ct_X7_copyFrom l D cA α n _ hn S1 0 1 K M (by decide) (by decide) (by decide) hKb hMb) (cwV 3 hts gX8_giveBack_X7_copyFrom rfl rfl rfl (by decide +kernel) ⟨Nat.le_of_ble_eq_true rfl, Nat.le_of_ble_eq_true rfl⟩) hK hw hAw (ws_recv hK hw (q := 44) (Nat.lt_of_lt_of_le (Nat.le_of_ble_eq_true rfl : 44 < 191) hn) (mk_44 cA α) rfl) rfl hl.1 rfl (Nat.le_of_ble_eq_true rfl) dX8_giveBack_33 ⟨Nat.zero_le _, Nat.zero_le _⟩ (fun S2 eS2 H locs hw => ?_)
  exact ret_v hx hb hr hlocks hK hw dX8_giveBack_36 (by subst_vars; rfl)

set_option maxRecDepth 100000 in
set_option maxHeartbeats 1000000 in
theorem ct_X8_keep1 (l : Launch) (D : va_G) (cA : Nat → ClassId) (α : Nat → Nat) (n sz : Nat) (hn : 191 ≤ n) (S : Mem) (K M : Nat) (hK1 : S.1 74 0 = nI K) (hKb : K ≤ 100) (hM1 : S.1 74 1 = nI M) (hMb : M ≤ 100) : CtV l yX8_keep wsX8_keep ({ frames := 2, cells := 0, slots := 0, locals := 83 }) D cA α n sz [.ref (α 15), .ref (α 3)] S (setI (cpRw (cpSt S 12 0 K M) 2 0 K M) 15 0 (nI 1)) := by
  refine ct_enter cX8_keep 2 none (by decide) rfl (Nat.le_of_ble_eq_true rfl) ?_
  intro p e s m below meth c hx hb hr hml hlocks hown hts hK hsz hw ls hl
  have hown : s.vm.findClass RX8 = some m.cls := hown
  have hAw : ∀ z, Aw α n s.heap.size z → Aw α n sz z := by rw [hsz]; exact fun _ h => h
  have hl : lv_has ls 2 [(0, .ref (α 15)), (1, .ref (α 3))] := hl
  refine lv_aload_n hx hb dX8_keep_0 rfl (lv_at hl 0 rfl) ?_
  refine x_get (v := .ref (α 182)) (C := RX8) (T := TX8) (N := 3) hx hb hts (fun _ h => List.mem_cons_of_mem _ (List.mem_append_left _ (List.mem_append_left _ (List.mem_append_left _ (List.mem_append_right _ h))))) hown hK hw 15 (Nat.lt_of_lt_of_le (Nat.le_of_ble_eq_true rfl : 15 < 191) hn) (mk_15 cA α) rfl 2 (by decide) (hts _ (List.mem_of_getElem? (i := 1) rfl)) (fun _ h9 => h9) rfl dX8_keep_1 ?_
  refine lv_aload_n hx hb dX8_keep_4 rfl (lv_at hl 1 rfl) ?_
  refine x_get (v := .ref (α 74)) (C := RX0) (T := TX0) (N := 3) hx hb hts (fun _ h => List.mem_cons_of_mem _ (List.mem_append_left _ (List.mem_append_left _ (List.mem_append_right _ h)))) hown hK hw 3 (Nat.lt_of_lt_of_le (Nat.le_of_ble_eq_true rfl : 3 < 191) hn) (mk_3 cA α) rfl 2 (by decide) (hts _ (List.mem_of_getElem? (i := 2) rfl)) (fun _ h9 => h9) rfl dX8_keep_5 ?_
  refine x_callVV (q := 182) (C := RX9) (As := [.ref (α (74 + 9 * 0))]) (rest := []) ⟨hx, hb, hml, hown, hts⟩ (ct_X9_copyFrom l D cA α n _ hn S 12 0 K M (by decide) (by decide) (by decide) hK1 hKb hM1 hMb) (cwV 1 hts gX8_keep_X9_copyFrom rfl rfl rfl (by decide +kernel) ⟨Nat.le_of_ble_eq_true rfl, Nat.le_of_ble_eq_true rfl⟩) hK hw hAw (ws_recv hK hw (q := 182) (Nat.lt_of_lt_of_le (Nat.le_of_ble_eq_true rfl : 182 < 191) hn) (mkS_0 cA α (i := 12) (by decide)) rfl) rfl hl.1 rfl (Nat.le_of_ble_eq_true rfl) dX8_keep_8 ⟨Nat.zero_le _, Nat.zero_le _⟩ (fun S1 eS1 H locs hw => ?_)
  refine lv_aload_n hx hb dX8_keep_11 rfl (lv_at hl 0 rfl) ?_
  refine x_get (v := .ref (α 64)) (C := RX8) (T := TX8) (N := 3) hx hb hts (fun _ h => List.mem_cons_of_mem _ (List.mem_append_left _ (List.mem_append_left _ (List.mem_append_left _ (List.mem_append_right _ h))))) hown hK hw 15 (Nat.lt_of_lt_of_le (Nat.le_of_ble_eq_true rfl : 15 < 191) hn) (mk_15 cA α) rfl 1 (by decide) (hts _ (List.mem_of_getElem? (i := 3) rfl)) (fun _ h9 => h9) rfl dX8_keep_12 ?_
  refine lv_aload_n hx hb dX8_keep_15 rfl (lv_at hl 1 rfl) ?_
  refine x_get (v := .ref (α 44)) (C := RX0) (T := TX0) (N := 3) hx hb hts (fun _ h => List.mem_cons_of_mem _ (List.mem_append_left _ (List.mem_append_left _ (List.mem_append_right _ h)))) hown hK hw 3 (Nat.lt_of_lt_of_le (Nat.le_of_ble_eq_true rfl : 3 < 191) hn) (mk_3 cA α) rfl 1 (by decide) (hts _ (List.mem_of_getElem? (i := 4) rfl)) (fun _ h9 => h9) rfl dX8_keep_16 ?_
  refine lv_aload_n hx hb dX8_keep_19 rfl (lv_at hl 0 rfl) ?_
  refine x_get (v := .ref (α 182)) (C := RX8) (T := TX8) (N := 3) hx hb hts (fun _ h => List.mem_cons_of_mem _ (List.mem_append_left _ (List.mem_append_left _ (List.mem_append_left _ (List.mem_append_right _ h))))) hown hK hw 15 (Nat.lt_of_lt_of_le (Nat.le_of_ble_eq_true rfl : 15 < 191) hn) (mk_15 cA α) rfl 2 (by decide) (hts _ (List.mem_of_getElem? (i := 1) rfl)) (fun _ h9 => h9) rfl dX8_keep_20 ?_
  refine x_get (v := .int (S1.1 182 0)) (C := RX9) (T := TX9) (N := 14) hx hb hts (fun _ h => List.mem_cons_of_mem _ (List.mem_append_left _ (List.mem_append_right _ h))) hown hK hw 182 (Nat.lt_of_lt_of_le (Nat.le_of_ble_eq_true rfl : 182 < 191) hn) (mkS_0 cA α (i := 12) (by decide)) rfl 0 (by decide) (hts _ (List.mem_of_getElem? (i := 5) rfl)) (fun _ h9 => h9) rfl dX8_keep_23 ?_
  refine x_topN (k := K) (by subst eS1; exact (cpSt_it S 12 0 K M).trans hK1) ?_
  refine lv_aload_n hx hb dX8_keep_26 rfl (lv_at hl 0 rfl) ?_
  refine x_get (v := .ref (α 182)) (C := RX8) (T := TX8) (N := 3) hx hb hts (fun _ h => List.mem_cons_of_mem _ (List.mem_append_left _ (List.mem_append_left _ (List.mem_append_left _ (List.mem_append_right _ h))))) hown hK hw 15 (Nat.lt_of_lt_of_le (Nat.le_of_ble_eq_true rfl : 15 < 191) hn) (mk_15 cA α) rfl 2 (by decide) (hts _ (List.mem_of_getElem? (i := 1) rfl)) (fun _ h9 => h9) rfl dX8_keep_27 ?_
  refine x_get (v := .int (S1.1 182 1)) (C := RX9) (T := TX9) (N := 14) hx hb hts (fun _ h => List.mem_cons_of_mem _ (List.mem_append_left _ (List.mem_append_right _ h))) hown hK hw 182 (Nat.lt_of_lt_of_le (Nat.le_of_ble_eq_true rfl : 182 < 191) hn) (mkS_0 cA α (i := 12) (by decide)) rfl 1 (by decide) (hts _ (List.mem_of_getElem? (i := 6) rfl)) (fun _ h9 => h9) rfl dX8_keep_30 ?_
  refine x_topN (k := M) (by subst eS1; exact (cpSt_de S 12 0 K M).trans hM1) ?_
  refine x_callVV (q := 64) (C := RX7) (As := [.ref (α (44 + 10 * 0)), .int (nI K), .int (nI M)]) (rest := []) ⟨hx, hb, hml, hown, hts⟩ (ct_X7_copyFrom l D cA α n _ hn S1 2 0 K M (by decide) (by decide) (by decide) hKb hMb) (cwV 3 hts gX8_keep_X7_copyFrom rfl rfl rfl (by decide +kernel) ⟨Nat.le_of_ble_eq_true rfl, Nat.le_of_ble_eq_true rfl⟩) hK hw hAw (ws_recv hK hw (q := 64) (Nat.lt_of_lt_of_le (Nat.le_of_ble_eq_true rfl : 64 < 191) hn) (mkR_0 cA α (i := 2) (by decide)) rfl) rfl hl.1 rfl (Nat.le_of_ble_eq_true rfl) dX8_keep_33 ⟨Nat.zero_le _, Nat.zero_le _⟩ (fun S2 eS2 H locs hw => ?_)
  refine lv_aload_n hx hb dX8_keep_36 rfl (lv_at hl 0 rfl) ?_
  refine lv_iconst (v := nI 1) hx hb dX8_keep_37 (by decide) ?_
  refine x_putI (x := nI 1) (ty := .boolean) (C := RX8) (T := TX8) (N := 3) hx hb hts (fun _ h => List.mem_cons_of_mem _ (List.mem_append_left _ (List.mem_append_left _ (List.mem_append_left _ (List.mem_append_right _ h))))) tyX8 tyX8_ok nmX8 hown hK hw 15 (Nat.lt_of_lt_of_le (Nat.le_of_ble_eq_true rfl : 15 < 191) hn) (mk_15 cA α) rfl 0 (by decide) (hts _ (List.mem_of_getElem? (i := 7) rfl)) (fun _ h9 => h9) rfl rfl (by decide) (by decide) (Nat.le_of_ble_eq_true rfl) rfl dX8_keep_38 (fun S3 eS3 H locs hw => ?_)
  exact ret_v hx hb hr hlocks hK hw dX8_keep_41 (by subst_vars; rfl)

set_option maxRecDepth 100000 in
set_option maxHeartbeats 1000000 in
theorem ct_X8_giveBack1 (l : Launch) (D : va_G) (cA : Nat → ClassId) (α : Nat → Nat) (n sz : Nat) (hn : 191 ≤ n) (S : Mem) (K M : Nat) (hK1 : S.1 182 0 = nI K) (hKb : K ≤ 100) (hM1 : S.1 182 1 = nI M) (hMb : M ≤ 100) : CtV l yX8_giveBack wsX8_giveBack ({ frames := 2, cells := 0, slots := 0, locals := 83 }) D cA α n sz [.ref (α 15), .ref (α 3)] S (cpRw (cpSt S 0 12 K M) 0 2 K M) := by
  refine ct_enter cX8_giveBack 2 none (by decide) rfl (Nat.le_of_ble_eq_true rfl) ?_
  intro p e s m below meth c hx hb hr hml hlocks hown hts hK hsz hw ls hl
  have hown : s.vm.findClass RX8 = some m.cls := hown
  have hAw : ∀ z, Aw α n s.heap.size z → Aw α n sz z := by rw [hsz]; exact fun _ h => h
  have hl : lv_has ls 2 [(0, .ref (α 15)), (1, .ref (α 3))] := hl
  refine lv_aload_n hx hb dX8_giveBack_0 rfl (lv_at hl 1 rfl) ?_
  refine x_get (v := .ref (α 74)) (C := RX0) (T := TX0) (N := 3) hx hb hts (fun _ h => List.mem_cons_of_mem _ (List.mem_append_left _ (List.mem_append_left _ (List.mem_append_left _ (List.mem_append_right _ h))))) hown hK hw 3 (Nat.lt_of_lt_of_le (Nat.le_of_ble_eq_true rfl : 3 < 191) hn) (mk_3 cA α) rfl 2 (by decide) (hts _ (List.mem_of_getElem? (i := 1) rfl)) (fun _ h9 => h9) rfl dX8_giveBack_1 ?_
  refine lv_aload_n hx hb dX8_giveBack_4 rfl (lv_at hl 0 rfl) ?_
  refine x_get (v := .ref (α 182)) (C := RX8) (T := TX8) (N := 3) hx hb hts (fun _ h => List.mem_cons_of_mem _ (List.mem_append_left _ (List.mem_append_left _ (List.mem_append_right _ h)))) hown hK hw 15 (Nat.lt_of_lt_of_le (Nat.le_of_ble_eq_true rfl : 15 < 191) hn) (mk_15 cA α) rfl 2 (by decide) (hts _ (List.mem_of_getElem? (i := 2) rfl)) (fun _ h9 => h9) rfl dX8_giveBack_5 ?_
  refine x_callVV (q := 74) (C := RX9) (As := [.ref (α (74 + 9 * 12))]) (rest := []) ⟨hx, hb, hml, hown, hts⟩ (ct_X9_copyFrom l D cA α n _ hn S 0 12 K M (by decide) (by decide) (by decide) hK1 hKb hM1 hMb) (cwV 1 hts gX8_giveBack_X9_copyFrom rfl rfl rfl (by decide +kernel) ⟨Nat.le_of_ble_eq_true rfl, Nat.le_of_ble_eq_true rfl⟩) hK hw hAw (ws_recv hK hw (q := 74) (Nat.lt_of_lt_of_le (Nat.le_of_ble_eq_true rfl : 74 < 191) hn) (mk_74 cA α) rfl) rfl hl.1 rfl (Nat.le_of_ble_eq_true rfl) dX8_giveBack_8 ⟨Nat.zero_le _, Nat.zero_le _⟩ (fun S1 eS1 H locs hw => ?_)
  refine lv_aload_n hx hb dX8_giveBack_11 rfl (lv_at hl 1 rfl) ?_
  refine x_get (v := .ref (α 44)) (C := RX0) (T := TX0) (N := 3) hx hb hts (fun _ h => List.mem_cons_of_mem _ (List.mem_append_left _ (List.mem_append_left _ (List.mem_append_left _ (List.mem_append_right _ h))))) hown hK hw 3 (Nat.lt_of_lt_of_le (Nat.le_of_ble_eq_true rfl : 3 < 191) hn) (mk_3 cA α) rfl 1 (by decide) (hts _ (List.mem_of_getElem? (i := 3) rfl)) (fun _ h9 => h9) rfl dX8_giveBack_12 ?_
  refine lv_aload_n hx hb dX8_giveBack_15 rfl (lv_at hl 0 rfl) ?_
  refine x_get (v := .ref (α 64)) (C := RX8) (T := TX8) (N := 3) hx hb hts (fun _ h => List.mem_cons_of_mem _ (List.mem_append_left _ (List.mem_append_left _ (List.mem_append_right _ h)))) hown hK hw 15 (Nat.lt_of_lt_of_le (Nat.le_of_ble_eq_true rfl : 15 < 191) hn) (mk_15 cA α) rfl 1 (by decide) (hts _ (List.mem_of_getElem? (i := 4) rfl)) (fun _ h9 => h9) rfl dX8_giveBack_16 ?_
  refine lv_aload_n hx hb dX8_giveBack_19 rfl (lv_at hl 0 rfl) ?_
  refine x_get (v := .ref (α 182)) (C := RX8) (T := TX8) (N := 3) hx hb hts (fun _ h => List.mem_cons_of_mem _ (List.mem_append_left _ (List.mem_append_left _ (List.mem_append_right _ h)))) hown hK hw 15 (Nat.lt_of_lt_of_le (Nat.le_of_ble_eq_true rfl : 15 < 191) hn) (mk_15 cA α) rfl 2 (by decide) (hts _ (List.mem_of_getElem? (i := 2) rfl)) (fun _ h9 => h9) rfl dX8_giveBack_20 ?_
  refine x_get (v := .int (S1.1 182 0)) (C := RX9) (T := TX9) (N := 14) hx hb hts (fun _ h => List.mem_cons_of_mem _ (List.mem_append_left _ (List.mem_append_right _ h))) hown hK hw 182 (Nat.lt_of_lt_of_le (Nat.le_of_ble_eq_true rfl : 182 < 191) hn) (mkS_0 cA α (i := 12) (by decide)) rfl 0 (by decide) (hts _ (List.mem_of_getElem? (i := 5) rfl)) (fun _ h9 => h9) rfl dX8_giveBack_23 ?_
  refine x_topN (k := K) (by subst eS1; exact (congrFun (cpSt_agr S 0 12 K M 182 (by omega)).1 0).trans hK1) ?_
  refine lv_aload_n hx hb dX8_giveBack_26 rfl (lv_at hl 0 rfl) ?_
  refine x_get (v := .ref (α 182)) (C := RX8) (T := TX8) (N := 3) hx hb hts (fun _ h => List.mem_cons_of_mem _ (List.mem_append_left _ (List.mem_append_left _ (List.mem_append_right _ h)))) hown hK hw 15 (Nat.lt_of_lt_of_le (Nat.le_of_ble_eq_true rfl : 15 < 191) hn) (mk_15 cA α) rfl 2 (by decide) (hts _ (List.mem_of_getElem? (i := 2) rfl)) (fun _ h9 => h9) rfl dX8_giveBack_27 ?_
  refine x_get (v := .int (S1.1 182 1)) (C := RX9) (T := TX9) (N := 14) hx hb hts (fun _ h => List.mem_cons_of_mem _ (List.mem_append_left _ (List.mem_append_right _ h))) hown hK hw 182 (Nat.lt_of_lt_of_le (Nat.le_of_ble_eq_true rfl : 182 < 191) hn) (mkS_0 cA α (i := 12) (by decide)) rfl 1 (by decide) (hts _ (List.mem_of_getElem? (i := 6) rfl)) (fun _ h9 => h9) rfl dX8_giveBack_30 ?_
  refine x_topN (k := M) (by subst eS1; exact (congrFun (cpSt_agr S 0 12 K M 182 (by omega)).1 1).trans hM1) ?_
  refine x_callVV (q := 44) (C := RX7) (As := [.ref (α (44 + 10 * 2)), .int (nI K), .int (nI M)]) (rest := []) ⟨hx, hb, hml, hown, hts⟩ (ct_X7_copyFrom l D cA α n _ hn S1 0 2 K M (by decide) (by decide) (by decide) hKb hMb) (cwV 3 hts gX8_giveBack_X7_copyFrom rfl rfl rfl (by decide +kernel) ⟨Nat.le_of_ble_eq_true rfl, Nat.le_of_ble_eq_true rfl⟩) hK hw hAw (ws_recv hK hw (q := 44) (Nat.lt_of_lt_of_le (Nat.le_of_ble_eq_true rfl : 44 < 191) hn) (mk_44 cA α) rfl) rfl hl.1 rfl (Nat.le_of_ble_eq_true rfl) dX8_giveBack_33 ⟨Nat.zero_le _, Nat.zero_le _⟩ (fun S2 eS2 H locs hw => ?_)
  exact ret_v hx hb hr hlocks hK hw dX8_giveBack_36 (by subst_vars; rfl)

def shv (t : Nat) : Int32 := match t with
  | 0 => 24
  | 1 => 16
  | 2 => 8
  | 3 => 0
  | _ => -8
theorem shv_neg : ∀ t, t ≤ 4 → shv t < 0 → t = 4 := by
  intro t h
  rcases (show t = 0 ∨ t = 1 ∨ t = 2 ∨ t = 3 ∨ t = 4 by omega) with rfl | rfl | rfl | rfl | rfl <;> decide
theorem shv_pos : ∀ t, t ≤ 4 → ¬ shv t < 0 → t < 4 := by
  intro t h
  rcases (show t = 0 ∨ t = 1 ∨ t = 2 ∨ t = 3 ∨ t = 4 by omega) with rfl | rfl | rfl | rfl | rfl <;> decide
theorem shv_s : ∀ t, t < 4 → shv t + Int32.ofInt (-8) = shv (t + 1) := by
  intro t h
  rcases (show t = 0 ∨ t = 1 ∨ t = 2 ∨ t = 3 by omega) with rfl | rfl | rfl | rfl <;> decide
/-- the bytes of x put behind k others: cell q, count at place j of cell r; t of the four -/
def by4 (S : Mem) (q r j : Nat) (x : Int32) (k : Nat) : Nat → Mem
  | 0 => S
  | t + 1 => setI (setI (by4 S q r j x k t) q (k + t) (vp_nar .byte (x >>> (shv t &&& 31)).toInt8.toInt32)) r j (nI (k + (t + 1)))
theorem by4_n (S : Mem) (q r j : Nat) (x : Int32) (k : Nat) (hk : S.1 r j = nI k) (hr : r ≠ q) : ∀ t, (by4 S q r j x k t).1 r j = nI (k + t)
  | 0 => hk
  | t + 1 => by rw [by4, sI_e, pk_us]
theorem by4_k (S : Mem) (q r j : Nat) (x : Int32) (k : Nat) {z : Nat} (h1 : z ≠ q) (h2 : z ≠ r) : ∀ t, (by4 S q r j x k t).1 z = S.1 z
  | 0 => rfl
  | t + 1 => by rw [by4, sI_1 h2, sI_1 h1]; exact by4_k S q r j x k h1 h2 t

set_option maxRecDepth 100000 in
set_option maxHeartbeats 1000000 in
theorem ct_X3_addFour (l : Launch) (D : va_G) (cA : Nat → ClassId) (α : Nat → Nat) (n sz : Nat) (hn : 191 ≤ n) (S : Mem) (x : Int32) (k : Nat) (hk : S.1 1 1 = nI k) (hk2 : k + 4 ≤ 600) : CtV l yX3_addFour wsX3_addFour ({ frames := 0, cells := 0, slots := 0, locals := 0 }) D cA α n sz [.ref (α 1), .int x] S (by4 S 2 1 1 x k 4) := by
  refine ct_enter cX3_addFour 3 none (by decide) rfl (Nat.le_of_ble_eq_true rfl) ?_
  intro p e s m below meth c hx hb hr hml hlocks hown hts hK hsz hw ls hl
  have hown : s.vm.findClass RX3 = some m.cls := hown
  have hAw : ∀ z, Aw α n s.heap.size z → Aw α n sz z := by rw [hsz]; exact fun _ h => h
  have hl : lv_has ls 3 [(0, .ref (α 1)), (1, .int x)] := hl
  refine lv_bipush (v := nI 24) hx hb dX3_addFour_0 (by decide) ?_
  refine lv_istore_n (lv' := [(2, .int (nI 24)), (0, .ref (α 1)), (1, .int x)]) hx hb dX3_addFour_2 rfl hl (by decide) rfl (fun ls hl => ?_)
  have lp3 : ∀ (t : Nat) (t9 : Nat) (T : Mem) (H : Heap) (locs : List Loc) (ls : Array Slot), 4 - t9 < t → t9 ≤ 4 → T = by4 S 2 1 1 x k t9 → Ws D cA α n (Aw α n sz) s.heap T H locs → lv_has ls 3 [(0, .ref (α 1)), (1, .int x), (2, .int (shv t9))] → W p l e ({ frames := 0, cells := 0, slots := 0, locals := 0 } : Room) s m (List.toArray ([.ref (α 1), .int x] : List Value)) below meth c H locs 0 0 (MQ below (va_Qv (fun u => u = (by4 S 2 1 1 x k 4)) (Pw D cA α n) (Aw α n sz)) (List.toArray ([.ref (α 1), .int x] : List Value)) s 0 0 (Aw α n sz)) (F0 m 3 ls []) := by
    intro t
    induction t with
    | zero => intro t9 T H locs ls ht; exact absurd ht (Nat.not_lt_zero _)
    | succ t ih3 =>
      intro t9 T H locs ls ht hj hT hw hl
      refine lv_iload_n hx hb dX3_addFour_3 rfl (lv_at hl 2 rfl) ?_
      refine lv_if_lt (tgt := 36) hx hb dX3_addFour_4 (by decide) (fun c1 => ?_) (fun c1 => ?_)
      · skip
        exact ret_v hx hb hr hlocks hK hw dX3_addFour_36 (by rw [hT, shv_neg t9 hj c1])
      · skip
        have ht4 := shv_pos t9 hj c1
        refine lv_aload_n hx hb dX3_addFour_7 rfl (lv_at hl 0 rfl) ?_
        refine x_get (v := .ref (α 2)) (C := RX3) (T := TX3) (N := 11) hx hb hts (fun _ h => List.mem_cons_of_mem _ (List.mem_append_right _ h)) hown hK hw 1 (Nat.lt_of_lt_of_le (Nat.le_of_ble_eq_true rfl : 1 < 191) hn) (mk_1 cA α) rfl 2 (by decide) (hts _ (List.mem_of_getElem? (i := 1) rfl)) (fun _ h9 => h9) rfl dX3_addFour_8 ?_
        refine lv_aload_n hx hb dX3_addFour_11 rfl (lv_at hl 0 rfl) ?_
        refine x_get (v := .int (T.1 1 1)) (C := RX3) (T := TX3) (N := 11) hx hb hts (fun _ h => List.mem_cons_of_mem _ (List.mem_append_right _ h)) hown hK hw 1 (Nat.lt_of_lt_of_le (Nat.le_of_ble_eq_true rfl : 1 < 191) hn) (mk_1 cA α) rfl 1 (by decide) (hts _ (List.mem_of_getElem? (i := 2) rfl)) (fun _ h9 => h9) rfl dX3_addFour_12 ?_
        refine x_topN (k := k + t9) (by rw [hT]; exact by4_n S 2 1 1 x k hk (by decide) t9) ?_
        refine lv_iload_n hx hb dX3_addFour_15 rfl (lv_at hl 1 rfl) ?_
        refine lv_iload_n hx hb dX3_addFour_16 rfl (lv_at hl 2 rfl) ?_
        refine lv_ishr hx hb dX3_addFour_17 ?_
        refine lv_i2b hx hb dX3_addFour_18 rfl ?_
        refine x_bast (x := (x >>> ((shv t9) &&& 31)).toInt8.toInt32) hx hb hK hw 2 600 (Nat.lt_of_lt_of_le (Nat.le_of_ble_eq_true rfl : 2 < 191) hn) (mk_2 cA α) (k + t9) rfl (by omega) (by decide) dX3_addFour_19 (fun S1 eS1 H locs hw => ?_)
        refine lv_aload_n hx hb dX3_addFour_20 rfl (lv_at hl 0 rfl) ?_
        refine lv_dup hx hb dX3_addFour_21 rfl ?_
        refine x_get (v := .int (S1.1 1 1)) (C := RX3) (T := TX3) (N := 11) hx hb hts (fun _ h => List.mem_cons_of_mem _ (List.mem_append_right _ h)) hown hK hw 1 (Nat.lt_of_lt_of_le (Nat.le_of_ble_eq_true rfl : 1 < 191) hn) (mk_1 cA α) rfl 1 (by decide) (hts _ (List.mem_of_getElem? (i := 2) rfl)) (fun _ h9 => h9) rfl dX3_addFour_22 ?_
        refine x_topN (k := k + t9) (by subst eS1; rw [sI_1 (by decide), hT]; exact by4_n S 2 1 1 x k hk (by decide) t9) ?_
        refine lv_iconst (v := nI 1) hx hb dX3_addFour_25 (by decide) ?_
        refine xn_iadd hx hb dX3_addFour_26 ?_
        refine x_putI (x := nI ((k + t9) + 1)) (ty := .int) (C := RX3) (T := TX3) (N := 11) hx hb hts (fun _ h => List.mem_cons_of_mem _ (List.mem_append_right _ h)) tyX3 tyX3_ok nmX3 hown hK hw 1 (Nat.lt_of_lt_of_le (Nat.le_of_ble_eq_true rfl : 1 < 191) hn) (mk_1 cA α) rfl 1 (by decide) (hts _ (List.mem_of_getElem? (i := 2) rfl)) (fun _ h9 => h9) rfl rfl rfl rfl (Nat.le_of_ble_eq_true rfl) rfl dX3_addFour_27 (fun S2 eS2 H locs hw => ?_)
        refine lv_iinc (v := shv (t9 + 1)) (lv' := [(2, .int (shv (t9 + 1))), (0, .ref (α 1)), (1, .int x)]) hx hb dX3_addFour_30 hl (k := 2) rfl (shv_s t9 ht4) (by decide) rfl (fun ls hl => ?_)
        refine lv_goto (tgt := 3) hx hb dX3_addFour_33 (by decide) ?_
        exact ih3 (t9 + 1) S2 _ _ _ (by omega) (by omega) (by subst eS2; subst eS1; rw [hT, by4]; rfl) hw (lv_sub hl [1, 2, 0] rfl)
  exact lp3 _ 0 S _ _ _ (Nat.lt_succ_self _) (by decide) rfl hw (lv_sub hl [1, 2, 0] rfl)

set_option maxRecDepth 100000 in
set_option maxHeartbeats 1000000 in
theorem ct_X11_appendInt (l : Launch) (D : va_G) (cA : Nat → ClassId) (α : Nat → Nat) (n sz : Nat) (hn : 191 ≤ n) (S : Mem) (x : Int32) (k : Nat) (hk : S.1 30 2 = nI k) (hk2 : k + 4 ≤ 600) : CtV l yX11_appendInt wsX11_appendInt ({ frames := 0, cells := 0, slots := 0, locals := 0 }) D cA α n sz [.ref (α 30), .int x] S (by4 S 31 30 2 x k 4) := by
  refine ct_enter cX11_appendInt 3 none (by decide) rfl (Nat.le_of_ble_eq_true rfl) ?_
  intro p e s m below meth c hx hb hr hml hlocks hown hts hK hsz hw ls hl
  have hown : s.vm.findClass RX11 = some m.cls := hown
  have hAw : ∀ z, Aw α n s.heap.size z → Aw α n sz z := by rw [hsz]; exact fun _ h => h
  have hl : lv_has ls 3 [(0, .ref (α 30)), (1, .int x)] := hl
  refine lv_bipush (v := nI 24) hx hb dX11_appendInt_0 (by decide) ?_
  refine lv_istore_n (lv' := [(2, .int (nI 24)), (0, .ref (α 30)), (1, .int x)]) hx hb dX11_appendInt_2 rfl hl (by decide) rfl (fun ls hl => ?_)
  have lp3 : ∀ (t : Nat) (t9 : Nat) (T : Mem) (H : Heap) (locs : List Loc) (ls : Array Slot), 4 - t9 < t → t9 ≤ 4 → T = by4 S 31 30 2 x k t9 → Ws D cA α n (Aw α n sz) s.heap T H locs → lv_has ls 3 [(0, .ref (α 30)), (1, .int x), (2, .int (shv t9))] → W p l e ({ frames := 0, cells := 0, slots := 0, locals := 0 } : Room) s m (List.toArray ([.ref (α 30), .int x] : List Value)) below meth c H locs 0 0 (MQ below (va_Qv (fun u => u = (by4 S 31 30 2 x k 4)) (Pw D cA α n) (Aw α n sz)) (List.toArray ([.ref (α 30), .int x] : List Value)) s 0 0 (Aw α n sz)) (F0 m 3 ls []) := by
    intro t
    induction t with
    | zero => intro t9 T H locs ls ht; exact absurd ht (Nat.not_lt_zero _)
    | succ t ih3 =>
      intro t9 T H locs ls ht hj hT hw hl
      refine lv_iload_n hx hb dX11_appendInt_3 rfl (lv_at hl 2 rfl) ?_
      refine lv_if_lt (tgt := 36) hx hb dX11_appendInt_4 (by decide) (fun c1 => ?_) (fun c1 => ?_)
      · skip
        exact ret_v hx hb hr hlocks hK hw dX11_appendInt_36 (by rw [hT, shv_neg t9 hj c1])
      · skip
        have ht4 := shv_pos t9 hj c1
        refine lv_aload_n hx hb dX11_appendInt_7 rfl (lv_at hl 0 rfl) ?_
        refine x_get (v := .ref (α 31)) (C := RX11) (T := TX11) (N := 24) hx hb hts (fun _ h => List.mem_cons_of_mem _ (List.mem_append_right _ h)) hown hK hw 30 (Nat.lt_of_lt_of_le (Nat.le_of_ble_eq_true rfl : 30 < 191) hn) (mk_30 cA α) rfl 1 (by decide) (hts _ (List.mem_of_getElem? (i := 1) rfl)) (fun _ h9 => h9) rfl dX11_appendInt_8 ?_
        refine lv_aload_n hx hb dX11_appendInt_11 rfl (lv_at hl 0 rfl) ?_
        refine x_get (v := .int (T.1 30 2)) (C := RX11) (T := TX11) (N := 24) hx hb hts (fun _ h => List.mem_cons_of_mem _ (List.mem_append_right _ h)) hown hK hw 30 (Nat.lt_of_lt_of_le (Nat.le_of_ble_eq_true rfl : 30 < 191) hn) (mk_30 cA α) rfl 2 (by decide) (hts _ (List.mem_of_getElem? (i := 2) rfl)) (fun _ h9 => h9) rfl dX11_appendInt_12 ?_
        refine x_topN (k := k + t9) (by rw [hT]; exact by4_n S 31 30 2 x k hk (by decide) t9) ?_
        refine lv_iload_n hx hb dX11_appendInt_15 rfl (lv_at hl 1 rfl) ?_
        refine lv_iload_n hx hb dX11_appendInt_16 rfl (lv_at hl 2 rfl) ?_
        refine lv_ishr hx hb dX11_appendInt_17 ?_
        refine lv_i2b hx hb dX11_appendInt_18 rfl ?_
        refine x_bast (x := (x >>> ((shv t9) &&& 31)).toInt8.toInt32) hx hb hK hw 31 600 (Nat.lt_of_lt_of_le (Nat.le_of_ble_eq_true rfl : 31 < 191) hn) (mk_31 cA α) (k + t9) rfl (by omega) (by decide) dX11_appendInt_19 (fun S1 eS1 H locs hw => ?_)
        refine lv_aload_n hx hb dX11_appendInt_20 rfl (lv_at hl 0 rfl) ?_
        refine lv_dup hx hb dX11_appendInt_21 rfl ?_
        refine x_get (v := .int (S1.1 30 2)) (C := RX11) (T := TX11) (N := 24) hx hb hts (fun _ h => List.mem_cons_of_mem _ (List.mem_append_right _ h)) hown hK hw 30 (Nat.lt_of_lt_of_le (Nat.le_of_ble_eq_true rfl : 30 < 191) hn) (mk_30 cA α) rfl 2 (by decide) (hts _ (List.mem_of_getElem? (i := 2) rfl)) (fun _ h9 => h9) rfl dX11_appendInt_22 ?_
        refine x_topN (k := k + t9) (by subst eS1; rw [sI_1 (by decide), hT]; exact by4_n S 31 30 2 x k hk (by decide) t9) ?_
        refine lv_iconst (v := nI 1) hx hb dX11_appendInt_25 (by decide) ?_
        refine xn_iadd hx hb dX11_appendInt_26 ?_
        refine x_putI (x := nI ((k + t9) + 1)) (ty := .int) (C := RX11) (T := TX11) (N := 24) hx hb hts (fun _ h => List.mem_cons_of_mem _ (List.mem_append_right _ h)) tyX11 tyX11_ok nmX11 hown hK hw 30 (Nat.lt_of_lt_of_le (Nat.le_of_ble_eq_true rfl : 30 < 191) hn) (mk_30 cA α) rfl 2 (by decide) (hts _ (List.mem_of_getElem? (i := 2) rfl)) (fun _ h9 => h9) rfl rfl rfl rfl (Nat.le_of_ble_eq_true rfl) rfl dX11_appendInt_27 (fun S2 eS2 H locs hw => ?_)
        refine lv_iinc (v := shv (t9 + 1)) (lv' := [(2, .int (shv (t9 + 1))), (0, .ref (α 30)), (1, .int x)]) hx hb dX11_appendInt_30 hl (k := 2) rfl (shv_s t9 ht4) (by decide) rfl (fun ls hl => ?_)
        refine lv_goto (tgt := 3) hx hb dX11_appendInt_33 (by decide) ?_
        exact ih3 (t9 + 1) S2 _ _ _ (by omega) (by omega) (by subst eS2; subst eS1; rw [hT, by4]; rfl) hw (lv_sub hl [1, 2, 0] rfl)
  exact lp3 _ 0 S _ _ _ (Nat.lt_succ_self _) (by decide) rfl hw (lv_sub hl [1, 2, 0] rfl)

def by20 (S : Mem) (q r j : Nat) (a b c d e : Int32) (k : Nat) : Mem := by4 (by4 (by4 (by4 (by4 S q r j a k 4) q r j b (k + 4) 4) q r j c (k + 4 + 4) 4) q r j d (k + 4 + 4 + 4) 4) q r j e (k + 4 + 4 + 4 + 4) 4

set_option maxRecDepth 100000 in
set_option maxHeartbeats 1000000 in
theorem ct_X3_addTwenty (l : Launch) (D : va_G) (cA : Nat → ClassId) (α : Nat → Nat) (n sz : Nat) (hn : 191 ≤ n) (S : Mem) (a b d1 d2 d3 : Int32) (k : Nat) (hk : S.1 1 1 = nI k) (hk2 : k ≤ 580) : CtI l yX3_addTwenty wsX3_addTwenty ({ frames := 1, cells := 0, slots := 0, locals := 22 }) D cA α n sz [.ref (α 1), .int a, .int b, .int d1, .int d2, .int d3] S (nI (k + 4 + 4 + 4 + 4 + 4)) (by20 S 2 1 1 a b d1 d2 d3 k) := by
  refine ct_enter cX3_addTwenty 6 (some .int) (by decide) rfl (Nat.le_of_ble_eq_true rfl) ?_
  intro p e s m below meth c hx hb hr hml hlocks hown hts hK hsz hw ls hl
  have hown : s.vm.findClass RX3 = some m.cls := hown
  have hAw : ∀ z, Aw α n s.heap.size z → Aw α n sz z := by rw [hsz]; exact fun _ h => h
  have hl : lv_has ls 6 [(0, .ref (α 1)), (1, .int a), (2, .int b), (3, .int d1), (4, .int d2), (5, .int d3)] := hl
  refine lv_aload_n hx hb dX3_addTwenty_0 rfl (lv_at hl 0 rfl) ?_
  refine x_get (v := .int (S.1 1 1)) (C := RX3) (T := TX3) (N := 11) hx hb hts (fun _ h => List.mem_cons_of_mem _ (List.mem_append_right _ h)) hown hK hw 1 (Nat.lt_of_lt_of_le (Nat.le_of_ble_eq_true rfl : 1 < 191) hn) (mk_1 cA α) rfl 1 (by decide) (hts _ (List.mem_of_getElem? (i := 1) rfl)) (fun _ h9 => h9) rfl dX3_addTwenty_1 ?_
  refine x_topN (k := k) hk ?_
  refine lv_sipush (v := nI 580) hx hb dX3_addTwenty_4 (by decide) ?_
  refine xn_icmp_le (tgt := 12) hx hb (by omega) (by decide) dX3_addTwenty_7 (by decide) (fun c1 => ?_) (fun c1 => ?_)
  · skip
    refine lv_aload_n hx hb dX3_addTwenty_12 rfl (lv_at hl 0 rfl) ?_
    refine lv_iload_n hx hb dX3_addTwenty_13 rfl (lv_at hl 1 rfl) ?_
    refine x_callVV (q := 1) (C := RX3) (As := [.int a]) (rest := []) ⟨hx, hb, hml, hown, hts⟩ (ct_X3_addFour l D cA α n _ hn S a k (by skip; exact hk) (by omega)) (cwV 1 hts gX3_addTwenty_X3_addFour rfl rfl rfl (by decide +kernel) ⟨Nat.le_of_ble_eq_true rfl, Nat.le_of_ble_eq_true rfl⟩) hK hw hAw (ws_recv hK hw (q := 1) (Nat.lt_of_lt_of_le (Nat.le_of_ble_eq_true rfl : 1 < 191) hn) (mk_1 cA α) rfl) rfl hl.1 rfl (Nat.le_of_ble_eq_true rfl) dX3_addTwenty_14 ⟨Nat.zero_le _, Nat.zero_le _⟩ (fun S1 eS1 H locs hw => ?_)
    refine lv_aload_n hx hb dX3_addTwenty_17 rfl (lv_at hl 0 rfl) ?_
    refine lv_iload_n hx hb dX3_addTwenty_18 rfl (lv_at hl 2 rfl) ?_
    refine x_callVV (q := 1) (C := RX3) (As := [.int b]) (rest := []) ⟨hx, hb, hml, hown, hts⟩ (ct_X3_addFour l D cA α n _ hn S1 b (k + 4) (by subst eS1; exact by4_n _ 2 1 1 _ _ hk (by decide) 4) (by omega)) (cwV 1 hts gX3_addTwenty_X3_addFour rfl rfl rfl (by decide +kernel) ⟨Nat.le_of_ble_eq_true rfl, Nat.le_of_ble_eq_true rfl⟩) hK hw hAw (ws_recv hK hw (q := 1) (Nat.lt_of_lt_of_le (Nat.le_of_ble_eq_true rfl : 1 < 191) hn) (mk_1 cA α) rfl) rfl hl.1 rfl (Nat.le_of_ble_eq_true rfl) dX3_addTwenty_19 ⟨Nat.zero_le _, Nat.zero_le _⟩ (fun S2 eS2 H locs hw => ?_)
    refine lv_aload_n hx hb dX3_addTwenty_22 rfl (lv_at hl 0 rfl) ?_
    refine lv_iload_n hx hb dX3_addTwenty_23 rfl (lv_at hl 3 rfl) ?_
    refine x_callVV (q := 1) (C := RX3) (As := [.int d1]) (rest := []) ⟨hx, hb, hml, hown, hts⟩ (ct_X3_addFour l D cA α n _ hn S2 d1 (k + 4 + 4) (by subst eS2; subst eS1; exact by4_n _ 2 1 1 _ _ (by4_n _ 2 1 1 _ _ hk (by decide) 4) (by decide) 4) (by omega)) (cwV 1 hts gX3_addTwenty_X3_addFour rfl rfl rfl (by decide +kernel) ⟨Nat.le_of_ble_eq_true rfl, Nat.le_of_ble_eq_true rfl⟩) hK hw hAw (ws_recv hK hw (q := 1) (Nat.lt_of_lt_of_le (Nat.le_of_ble_eq_true rfl : 1 < 191) hn) (mk_1 cA α) rfl) rfl hl.1 rfl (Nat.le_of_ble_eq_true rfl) dX3_addTwenty_24 ⟨Nat.zero_le _, Nat.zero_le _⟩ (fun S3 eS3 H locs hw => ?_)
    refine lv_aload_n hx hb dX3_addTwenty_27 rfl (lv_at hl 0 rfl) ?_
    refine lv_iload hx hb dX3_addTwenty_28 (lv_at hl 4 rfl) ?_
    refine x_callVV (q := 1) (C := RX3) (As := [.int d2]) (rest := []) ⟨hx, hb, hml, hown, hts⟩ (ct_X3_addFour l D cA α n _ hn S3 d2 (k + 4 + 4 + 4) (by subst eS3; subst eS2; subst eS1; exact by4_n _ 2 1 1 _ _ (by4_n _ 2 1 1 _ _ (by4_n _ 2 1 1 _ _ hk (by decide) 4) (by decide) 4) (by decide) 4) (by omega)) (cwV 1 hts gX3_addTwenty_X3_addFour rfl rfl rfl (by decide +kernel) ⟨Nat.le_of_ble_eq_true rfl, Nat.le_of_ble_eq_true rfl⟩) hK hw hAw (ws_recv hK hw (q := 1) (Nat.lt_of_lt_of_le (Nat.le_of_ble_eq_true rfl : 1 < 191) hn) (mk_1 cA α) rfl) rfl hl.1 rfl (Nat.le_of_ble_eq_true rfl) dX3_addTwenty_30 ⟨Nat.zero_le _, Nat.zero_le _⟩ (fun S4 eS4 H locs hw => ?_)
    refine lv_aload_n hx hb dX3_addTwenty_33 rfl (lv_at hl 0 rfl) ?_
    refine lv_iload hx hb dX3_addTwenty_34 (lv_at hl 5 rfl) ?_
    refine x_callVV (q := 1) (C := RX3) (As := [.int d3]) (rest := []) ⟨hx, hb, hml, hown, hts⟩ (ct_X3_addFour l D cA α n _ hn S4 d3 (k + 4 + 4 + 4 + 4) (by subst eS4; subst eS3; subst eS2; subst eS1; exact by4_n _ 2 1 1 _ _ (by4_n _ 2 1 1 _ _ (by4_n _ 2 1 1 _ _ (by4_n _ 2 1 1 _ _ hk (by decide) 4) (by decide) 4) (by decide) 4) (by decide) 4) (by omega)) (cwV 1 hts gX3_addTwenty_X3_addFour rfl rfl rfl (by decide +kernel) ⟨Nat.le_of_ble_eq_true rfl, Nat.le_of_ble_eq_true rfl⟩) hK hw hAw (ws_recv hK hw (q := 1) (Nat.lt_of_lt_of_le (Nat.le_of_ble_eq_true rfl : 1 < 191) hn) (mk_1 cA α) rfl) rfl hl.1 rfl (Nat.le_of_ble_eq_true rfl) dX3_addTwenty_36 ⟨Nat.zero_le _, Nat.zero_le _⟩ (fun S5 eS5 H locs hw => ?_)
    refine lv_aload_n hx hb dX3_addTwenty_39 rfl (lv_at hl 0 rfl) ?_
    refine x_get (v := .int (S5.1 1 1)) (C := RX3) (T := TX3) (N := 11) hx hb hts (fun _ h => List.mem_cons_of_mem _ (List.mem_append_right _ h)) hown hK hw 1 (Nat.lt_of_lt_of_le (Nat.le_of_ble_eq_true rfl : 1 < 191) hn) (mk_1 cA α) rfl 1 (by decide) (hts _ (List.mem_of_getElem? (i := 1) rfl)) (fun _ h9 => h9) rfl dX3_addTwenty_40 ?_
    refine x_topN (k := k + 4 + 4 + 4 + 4 + 4) (by subst eS5; subst eS4; subst eS3; subst eS2; subst eS1; exact (by4_n _ 2 1 1 _ _ (by4_n _ 2 1 1 _ _ (by4_n _ 2 1 1 _ _ (by4_n _ 2 1 1 _ _ (by4_n _ 2 1 1 _ _ hk (by decide) 4) (by decide) 4) (by decide) 4) (by decide) 4) (by decide) 4)) ?_
    exact ret_i hx hb hr hlocks hK hw dX3_addTwenty_43 rfl (by subst_vars; rfl)
  · exact absurd c1 (by omega)

set_option maxRecDepth 100000 in
set_option maxHeartbeats 1000000 in
theorem ct_X3_addTwentyX (l : Launch) (D : va_G) (cA : Nat → ClassId) (α : Nat → Nat) (n sz : Nat) (hn : 191 ≤ n) (S : Mem) (a b d1 d2 d3 : Int32) (k : Nat) (hk : S.1 1 1 = nI k) (hk2 : 580 < k) (hk3 : k ≤ 600) : CtI l yX3_addTwenty wsX3_addTwenty ({ frames := 1, cells := 0, slots := 0, locals := 22 }) D cA α n sz [.ref (α 1), .int a, .int b, .int d1, .int d2, .int d3] S (-1) S := by
  refine ct_enter cX3_addTwenty 6 (some .int) (by decide) rfl (Nat.le_of_ble_eq_true rfl) ?_
  intro p e s m below meth c hx hb hr hml hlocks hown hts hK hsz hw ls hl
  have hown : s.vm.findClass RX3 = some m.cls := hown
  have hAw : ∀ z, Aw α n s.heap.size z → Aw α n sz z := by rw [hsz]; exact fun _ h => h
  have hl : lv_has ls 6 [(0, .ref (α 1)), (1, .int a), (2, .int b), (3, .int d1), (4, .int d2), (5, .int d3)] := hl
  refine lv_aload_n hx hb dX3_addTwenty_0 rfl (lv_at hl 0 rfl) ?_
  refine x_get (v := .int (S.1 1 1)) (C := RX3) (T := TX3) (N := 11) hx hb hts (fun _ h => List.mem_cons_of_mem _ (List.mem_append_right _ h)) hown hK hw 1 (Nat.lt_of_lt_of_le (Nat.le_of_ble_eq_true rfl : 1 < 191) hn) (mk_1 cA α) rfl 1 (by decide) (hts _ (List.mem_of_getElem? (i := 1) rfl)) (fun _ h9 => h9) rfl dX3_addTwenty_1 ?_
  refine x_topN (k := k) hk ?_
  refine lv_sipush (v := nI 580) hx hb dX3_addTwenty_4 (by decide) ?_
  refine xn_icmp_le (tgt := 12) hx hb (by omega) (by decide) dX3_addTwenty_7 (by decide) (fun c1 => ?_) (fun c1 => ?_)
  · exact absurd c1 (by omega)
  · skip
    refine lv_iconst (v := (-1)) hx hb dX3_addTwenty_10 (by decide) ?_
    exact ret_i hx hb hr hlocks hK hw dX3_addTwenty_11 rfl rfl

theorem hk30 {S : Mem} {k : Nat} {x : Int32} (h : S.1 30 2 = nI k) : (setI S 30 0 x).1 30 2 = nI k := by rw [sI_e, pk_un (by decide)]; exact h

set_option maxRecDepth 100000 in
set_option maxHeartbeats 1000000 in
theorem ct_X11_append (l : Launch) (D : va_G) (cA : Nat → ClassId) (α : Nat → Nat) (n sz : Nat) (hn : 191 ≤ n) (S : Mem) (a b d1 d2 d3 : Int32) (k : Nat) (hk : S.1 30 2 = nI k) (hk2 : k ≤ 580) : CtI l yX11_append wsX11_append ({ frames := 1, cells := 0, slots := 0, locals := 22 }) D cA α n sz [.ref (α 30), .int a, .int b, .int d1, .int d2, .int d3] S (nI (k + 4 + 4 + 4 + 4 + 4)) (by20 (setI S 30 0 (nI 0)) 31 30 2 a b d1 d2 d3 k) := by
  refine ct_enter cX11_append 6 (some .int) (by decide) rfl (Nat.le_of_ble_eq_true rfl) ?_
  intro p e s m below meth c hx hb hr hml hlocks hown hts hK hsz hw ls hl
  have hown : s.vm.findClass RX11 = some m.cls := hown
  have hAw : ∀ z, Aw α n s.heap.size z → Aw α n sz z := by rw [hsz]; exact fun _ h => h
  have hl : lv_has ls 6 [(0, .ref (α 30)), (1, .int a), (2, .int b), (3, .int d1), (4, .int d2), (5, .int d3)] := hl
  refine lv_aload_n hx hb dX11_append_0 rfl (lv_at hl 0 rfl) ?_
  refine lv_iconst (v := nI 0) hx hb dX11_append_1 (by decide) ?_
  refine x_putI (x := nI 0) (ty := .int) (C := RX11) (T := TX11) (N := 24) hx hb hts (fun _ h => List.mem_cons_of_mem _ (List.mem_append_right _ h)) tyX11 tyX11_ok nmX11 hown hK hw 30 (Nat.lt_of_lt_of_le (Nat.le_of_ble_eq_true rfl : 30 < 191) hn) (mk_30 cA α) rfl 0 (by decide) (hts _ (List.mem_of_getElem? (i := 1) rfl)) (fun _ h9 => h9) rfl rfl rfl rfl (Nat.le_of_ble_eq_true rfl) rfl dX11_append_2 (fun S1 eS1 H locs hw => ?_)
  refine lv_aload_n hx hb dX11_append_5 rfl (lv_at hl 0 rfl) ?_
  refine x_get (v := .int (S1.1 30 2)) (C := RX11) (T := TX11) (N := 24) hx hb hts (fun _ h => List.mem_cons_of_mem _ (List.mem_append_right _ h)) hown hK hw 30 (Nat.lt_of_lt_of_le (Nat.le_of_ble_eq_true rfl : 30 < 191) hn) (mk_30 cA α) rfl 2 (by decide) (hts _ (List.mem_of_getElem? (i := 2) rfl)) (fun _ h9 => h9) rfl dX11_append_6 ?_
  refine x_topN (k := k) (by subst eS1; exact hk30 hk) ?_
  refine lv_bipush (v := nI 20) hx hb dX11_append_9 (by decide) ?_
  refine xn_iadd hx hb dX11_append_11 ?_
  refine lv_sipush (v := nI 600) hx hb dX11_append_12 (by decide) ?_
  refine xn_icmp_le (tgt := 20) hx hb (by omega) (by decide) dX11_append_15 (by decide) (fun c1 => ?_) (fun c1 => ?_)
  · skip
    refine lv_aload_n hx hb dX11_append_20 rfl (lv_at hl 0 rfl) ?_
    refine lv_iload_n hx hb dX11_append_21 rfl (lv_at hl 1 rfl) ?_
    refine x_callVV (q := 30) (C := RX11) (As := [.int a]) (rest := []) ⟨hx, hb, hml, hown, hts⟩ (ct_X11_appendInt l D cA α n _ hn S1 a k (by subst eS1; exact (hk30 hk)) (by omega)) (cwV 1 hts gX11_append_X11_appendInt rfl rfl rfl (by decide +kernel) ⟨Nat.le_of_ble_eq_true rfl, Nat.le_of_ble_eq_true rfl⟩) hK hw hAw (ws_recv hK hw (q := 30) (Nat.lt_of_lt_of_le (Nat.le_of_ble_eq_true rfl : 30 < 191) hn) (mk_30 cA α) rfl) rfl hl.1 rfl (Nat.le_of_ble_eq_true rfl) dX11_append_22 ⟨Nat.zero_le _, Nat.zero_le _⟩ (fun S2 eS2 H locs hw => ?_)
    refine lv_aload_n hx hb dX11_append_25 rfl (lv_at hl 0 rfl) ?_
    refine lv_iload_n hx hb dX11_append_26 rfl (lv_at hl 2 rfl) ?_
    refine x_callVV (q := 30) (C := RX11) (As := [.int b]) (rest := []) ⟨hx, hb, hml, hown, hts⟩ (ct_X11_appendInt l D cA α n _ hn S2 b (k + 4) (by subst eS2; subst eS1; exact (by4_n _ 31 30 2 _ _ (hk30 hk) (by decide) 4)) (by omega)) (cwV 1 hts gX11_append_X11_appendInt rfl rfl rfl (by decide +kernel) ⟨Nat.le_of_ble_eq_true rfl, Nat.le_of_ble_eq_true rfl⟩) hK hw hAw (ws_recv hK hw (q := 30) (Nat.lt_of_lt_of_le (Nat.le_of_ble_eq_true rfl : 30 < 191) hn) (mk_30 cA α) rfl) rfl hl.1 rfl (Nat.le_of_ble_eq_true rfl) dX11_append_27 ⟨Nat.zero_le _, Nat.zero_le _⟩ (fun S3 eS3 H locs hw => ?_)
    refine lv_aload_n hx hb dX11_append_30 rfl (lv_at hl 0 rfl) ?_
    refine lv_iload_n hx hb dX11_append_31 rfl (lv_at hl 3 rfl) ?_
    refine x_callVV (q := 30) (C := RX11) (As := [.int d1]) (rest := []) ⟨hx, hb, hml, hown, hts⟩ (ct_X11_appendInt l D cA α n _ hn S3 d1 (k + 4 + 4) (by subst eS3; subst eS2; subst eS1; exact (by4_n _ 31 30 2 _ _ (by4_n _ 31 30 2 _ _ (hk30 hk) (by decide) 4) (by decide) 4)) (by omega)) (cwV 1 hts gX11_append_X11_appendInt rfl rfl rfl (by decide +kernel) ⟨Nat.le_of_ble_eq_true rfl, Nat.le_of_ble_eq_true rfl⟩) hK hw hAw (ws_recv hK hw (q := 30) (Nat.lt_of_lt_of_le (Nat.le_of_ble_eq_true rfl : 30 < 191) hn) (mk_30 cA α) rfl) rfl hl.1 rfl (Nat.le_of_ble_eq_true rfl) dX11_append_32 ⟨Nat.zero_le _, Nat.zero_le _⟩ (fun S4 eS4 H locs hw => ?_)
    refine lv_aload_n hx hb dX11_append_35 rfl (lv_at hl 0 rfl) ?_
    refine lv_iload hx hb dX11_append_36 (lv_at hl 4 rfl) ?_
    refine x_callVV (q := 30) (C := RX11) (As := [.int d2]) (rest := []) ⟨hx, hb, hml, hown, hts⟩ (ct_X11_appendInt l D cA α n _ hn S4 d2 (k + 4 + 4 + 4) (by subst eS4; subst eS3; subst eS2; subst eS1; exact (by4_n _ 31 30 2 _ _ (by4_n _ 31 30 2 _ _ (by4_n _ 31 30 2 _ _ (hk30 hk) (by decide) 4) (by decide) 4) (by decide) 4)) (by omega)) (cwV 1 hts gX11_append_X11_appendInt rfl rfl rfl (by decide +kernel) ⟨Nat.le_of_ble_eq_true rfl, Nat.le_of_ble_eq_true rfl⟩) hK hw hAw (ws_recv hK hw (q := 30) (Nat.lt_of_lt_of_le (Nat.le_of_ble_eq_true rfl : 30 < 191) hn) (mk_30 cA α) rfl) rfl hl.1 rfl (Nat.le_of_ble_eq_true rfl) dX11_append_38 ⟨Nat.zero_le _, Nat.zero_le _⟩ (fun S5 eS5 H locs hw => ?_)
    refine lv_aload_n hx hb dX11_append_41 rfl (lv_at hl 0 rfl) ?_
    refine lv_iload hx hb dX11_append_42 (lv_at hl 5 rfl) ?_
    refine x_callVV (q := 30) (C := RX11) (As := [.int d3]) (rest := []) ⟨hx, hb, hml, hown, hts⟩ (ct_X11_appendInt l D cA α n _ hn S5 d3 (k + 4 + 4 + 4 + 4) (by subst eS5; subst eS4; subst eS3; subst eS2; subst eS1; exact (by4_n _ 31 30 2 _ _ (by4_n _ 31 30 2 _ _ (by4_n _ 31 30 2 _ _ (by4_n _ 31 30 2 _ _ (hk30 hk) (by decide) 4) (by decide) 4) (by decide) 4) (by decide) 4)) (by omega)) (cwV 1 hts gX11_append_X11_appendInt rfl rfl rfl (by decide +kernel) ⟨Nat.le_of_ble_eq_true rfl, Nat.le_of_ble_eq_true rfl⟩) hK hw hAw (ws_recv hK hw (q := 30) (Nat.lt_of_lt_of_le (Nat.le_of_ble_eq_true rfl : 30 < 191) hn) (mk_30 cA α) rfl) rfl hl.1 rfl (Nat.le_of_ble_eq_true rfl) dX11_append_44 ⟨Nat.zero_le _, Nat.zero_le _⟩ (fun S6 eS6 H locs hw => ?_)
    refine lv_aload_n hx hb dX11_append_47 rfl (lv_at hl 0 rfl) ?_
    refine x_get (v := .int (S6.1 30 2)) (C := RX11) (T := TX11) (N := 24) hx hb hts (fun _ h => List.mem_cons_of_mem _ (List.mem_append_right _ h)) hown hK hw 30 (Nat.lt_of_lt_of_le (Nat.le_of_ble_eq_true rfl : 30 < 191) hn) (mk_30 cA α) rfl 2 (by decide) (hts _ (List.mem_of_getElem? (i := 2) rfl)) (fun _ h9 => h9) rfl dX11_append_48 ?_
    refine x_topN (k := k + 4 + 4 + 4 + 4 + 4) (by subst eS6; subst eS5; subst eS4; subst eS3; subst eS2; subst eS1; exact (by4_n _ 31 30 2 _ _ (by4_n _ 31 30 2 _ _ (by4_n _ 31 30 2 _ _ (by4_n _ 31 30 2 _ _ (by4_n _ 31 30 2 _ _ (hk30 hk) (by decide) 4) (by decide) 4) (by decide) 4) (by decide) 4) (by decide) 4)) ?_
    exact ret_i hx hb hr hlocks hK hw dX11_append_51 rfl (by subst_vars; rfl)
  · exact absurd c1 (by omega)

set_option maxRecDepth 100000 in
set_option maxHeartbeats 1000000 in
theorem ct_X11_appendX (l : Launch) (D : va_G) (cA : Nat → ClassId) (α : Nat → Nat) (n sz : Nat) (hn : 191 ≤ n) (S : Mem) (a b d1 d2 d3 : Int32) (k : Nat) (hk : S.1 30 2 = nI k) (hk2 : 580 < k) (hk3 : k ≤ 600) : CtI l yX11_append wsX11_append ({ frames := 1, cells := 0, slots := 0, locals := 22 }) D cA α n sz [.ref (α 30), .int a, .int b, .int d1, .int d2, .int d3] S (-1) (setI S 30 0 (nI 0)) := by
  refine ct_enter cX11_append 6 (some .int) (by decide) rfl (Nat.le_of_ble_eq_true rfl) ?_
  intro p e s m below meth c hx hb hr hml hlocks hown hts hK hsz hw ls hl
  have hown : s.vm.findClass RX11 = some m.cls := hown
  have hAw : ∀ z, Aw α n s.heap.size z → Aw α n sz z := by rw [hsz]; exact fun _ h => h
  have hl : lv_has ls 6 [(0, .ref (α 30)), (1, .int a), (2, .int b), (3, .int d1), (4, .int d2), (5, .int d3)] := hl
  refine lv_aload_n hx hb dX11_append_0 rfl (lv_at hl 0 rfl) ?_
  refine lv_iconst (v := nI 0) hx hb dX11_append_1 (by decide) ?_
  refine x_putI (x := nI 0) (ty := .int) (C := RX11) (T := TX11) (N := 24) hx hb hts (fun _ h => List.mem_cons_of_mem _ (List.mem_append_right _ h)) tyX11 tyX11_ok nmX11 hown hK hw 30 (Nat.lt_of_lt_of_le (Nat.le_of_ble_eq_true rfl : 30 < 191) hn) (mk_30 cA α) rfl 0 (by decide) (hts _ (List.mem_of_getElem? (i := 1) rfl)) (fun _ h9 => h9) rfl rfl rfl rfl (Nat.le_of_ble_eq_true rfl) rfl dX11_append_2 (fun S1 eS1 H locs hw => ?_)
  refine lv_aload_n hx hb dX11_append_5 rfl (lv_at hl 0 rfl) ?_
  refine x_get (v := .int (S1.1 30 2)) (C := RX11) (T := TX11) (N := 24) hx hb hts (fun _ h => List.mem_cons_of_mem _ (List.mem_append_right _ h)) hown hK hw 30 (Nat.lt_of_lt_of_le (Nat.le_of_ble_eq_true rfl : 30 < 191) hn) (mk_30 cA α) rfl 2 (by decide) (hts _ (List.mem_of_getElem? (i := 2) rfl)) (fun _ h9 => h9) rfl dX11_append_6 ?_
  refine x_topN (k := k) (by subst eS1; exact hk30 hk) ?_
  refine lv_bipush (v := nI 20) hx hb dX11_append_9 (by decide) ?_
  refine xn_iadd hx hb dX11_append_11 ?_
  refine lv_sipush (v := nI 600) hx hb dX11_append_12 (by decide) ?_
  refine xn_icmp_le (tgt := 20) hx hb (by omega) (by decide) dX11_append_15 (by decide) (fun c1 => ?_) (fun c1 => ?_)
  · exact absurd c1 (by omega)
  · skip
    refine lv_iconst (v := (-1)) hx hb dX11_append_18 (by decide) ?_
    exact ret_i hx hb hr hlocks hK hw dX11_append_19 rfl (by subst_vars; rfl)
