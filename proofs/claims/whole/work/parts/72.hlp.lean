set_option maxRecDepth 100000 in
set_option maxHeartbeats 1000000 in
theorem hN_parse (l : Launch) (sa ka va : Nat → Nat) (D : va_G) (cA : Nat → ClassId) (α : Nat → Nat) (sz : Nat) (S : Mem) (a1 : Int32) (v : Int32) (fS : Mem) (hM : ∀ z, CtIe ka va l yX10_parse wsX10_parse ({ frames := 9, cells := 0, slots := 0, locals := 190 }) D cA α 193 z [.ref (α 0), .int a1] S v fS) : CtH sa ka va l yL_parse wsL_parse ({ frames := 10, cells := 1, slots := 6, locals := 213 }) D cA α 193 sz [.ref (α 0), .int a1, .ref (α 191)] S (nI 0) (setJ fS 191 0 v.toInt64) := by
  refine cth_enter cL_parse 4 (some .int) (by decide) rfl (Nat.le_of_ble_eq_true rfl) ?_
  intro p e s m below meth c hx hb hr hml hlocks hown hts hK hsz hw hV ht ls hl
  have hown : s.vm.findClass RL = some m.cls := hown
  have hAw : ∀ z, Aw α 193 s.heap.size z → Aw α 193 sz z := by rw [hsz]; exact fun _ h => h
  have hl : lv_has ls 4 [(0, .ref (α 0)), (1, .int a1), (2, .ref (α 191))] := hl
  refine lv_aload_n hx hb dL_parse_0 rfl (lv_at hl 2 rfl) ?_
  refine lv_iconst (v := nI 0) hx hb dL_parse_1 (by decide) ?_
  refine lv_aload_n hx hb dL_parse_2 rfl (lv_at hl 0 rfl) ?_
  refine lv_iload_n hx hb dL_parse_3 rfl (lv_at hl 1 rfl) ?_
  refine x_callVIe (b := α 0) (C := RX10) (As := [.int a1]) (rest := [.int (nI 0), .ref (α 191)]) ⟨hx, hb, hml, hown, hts⟩ (hM _) (cwV 1 hts gL_parse_X10_parse rfl rfl rfl (by decide +kernel) ⟨Nat.le_of_ble_eq_true rfl, Nat.le_of_ble_eq_true rfl⟩) hK hw hsz hV.2.2.1 (ws_recv hK hw (q := 0) (Nat.le_of_ble_eq_true rfl) (mk_0 cA α) rfl) rfl hl.1 rfl (Nat.le_of_ble_eq_true rfl) dL_parse_4 ⟨Nat.zero_le _, Nat.zero_le _⟩ (fun S1 eS1 H locs hw => ?_)
  refine lv_i2l hx hb dL_parse_7 rfl ?_
  refine x_last (x := v.toInt64) hx hb hK hw 191 1 (Nat.le_of_ble_eq_true rfl) (mk_191 cA α) 0 rfl (by decide) (by decide) dL_parse_8 (fun S2 eS2 H locs hw => ?_)
  refine lv_goto (tgt := 15) hx hb dL_parse_9 (by decide) ?_
  refine lv_iconst (v := nI 0) hx hb dL_parse_15 (by decide) ?_
  exact ret_h hx hb hr hlocks hK hw dL_parse_16 (by decide) (by decide) rfl (by rw [eS2, eS1])

set_option maxRecDepth 100000 in
set_option maxHeartbeats 1000000 in
theorem hX_parse_IA (l : Launch) (sa ka va : Nat → Nat) (D : va_G) (cA : Nat → ClassId) (α : Nat → Nat) (sz : Nat) (S : Mem) (a1 : Int32) (hM : ∀ z, CtX sa l yX10_parse wsX10_parse ({ frames := 9, cells := 1, slots := 6, locals := 190 }) D cA α 193 z [.ref (α 0), .int a1] S eIA) : CtH sa ka va l yL_parse wsL_parse ({ frames := 10, cells := 1, slots := 6, locals := 213 }) D cA α 193 sz [.ref (α 0), .int a1, .ref (α 191)] S (nI 1) S := by
  refine cth_enter cL_parse 4 (some .int) (by decide) rfl (Nat.le_of_ble_eq_true rfl) ?_
  intro p e s m below meth c hx hb hr hml hlocks hown hts hK hsz hw hV ht ls hl
  have hown : s.vm.findClass RL = some m.cls := hown
  have hAw : ∀ z, Aw α 193 s.heap.size z → Aw α 193 sz z := by rw [hsz]; exact fun _ h => h
  have hl : lv_has ls 4 [(0, .ref (α 0)), (1, .int a1), (2, .ref (α 191))] := hl
  refine lv_aload_n hx hb dL_parse_0 rfl (lv_at hl 2 rfl) ?_
  refine lv_iconst (v := nI 0) hx hb dL_parse_1 (by decide) ?_
  refine lv_aload_n hx hb dL_parse_2 rfl (lv_at hl 0 rfl) ?_
  refine lv_iload_n hx hb dL_parse_3 rfl (lv_at hl 1 rfl) ?_
  refine x_callXC (q := 0) (C := RX10) (As := [.int a1]) (rest := [.int (nI 0), .ref (α 191)]) ⟨hx, hb, hml, hown, hts⟩ (hM _) (cwV 1 hts gL_parse_X10_parse rfl rfl rfl (by decide +kernel) ⟨Nat.le_of_ble_eq_true rfl, Nat.le_of_ble_eq_true rfl⟩) hK hw hsz hV (ws_recv hK hw (q := 0) (Nat.le_of_ble_eq_true rfl) (mk_0 cA α) rfl) rfl hl.1 rfl (Nat.le_of_ble_eq_true rfl) dL_parse_4 ⟨Nat.le_of_ble_eq_true rfl, Nat.le_of_ble_eq_true rfl⟩ [] ⟨0, 9, 12, 13⟩ [] (ht.trans rfl) (fun z hz => by exact absurd hz List.not_mem_nil) (by decide) (by decide) (hts _ (List.mem_of_getElem? (i := 1) rfl)) (List.mem_of_getElem? (i := 1) rfl) (fun q9 H locs hw => ?_)
  refine lv_astore_n (lv' := [(3, .ref q9), (0, .ref (α 0)), (1, .int a1), (2, .ref (α 191))]) hx hb dL_parse_12 rfl hl (by decide) rfl (fun ls hl => ?_)
  refine lv_iconst (v := nI 1) hx hb dL_parse_13 (by decide) ?_
  exact ret_h hx hb hr hlocks hK hw dL_parse_14 (by decide) (by decide) rfl rfl

set_option maxRecDepth 100000 in
set_option maxHeartbeats 1000000 in
theorem hN_size (l : Launch) (sa ka va : Nat → Nat) (D : va_G) (cA : Nat → ClassId) (α : Nat → Nat) (sz : Nat) (S : Mem) (a1 : Int32) (v : Int32) (fS : Mem) (hM : ∀ z, CtI l yX10_size wsX10_size ({ frames := 6, cells := 0, slots := 0, locals := 100 }) D cA α 193 z [.ref (α 0), .int a1] S v fS) : CtH sa ka va l yL_size wsL_size ({ frames := 7, cells := 1, slots := 6, locals := 121 }) D cA α 193 sz [.ref (α 0), .int a1, .ref (α 191)] S (nI 0) (setJ fS 191 0 v.toInt64) := by
  refine cth_enter cL_size 4 (some .int) (by decide) rfl (Nat.le_of_ble_eq_true rfl) ?_
  intro p e s m below meth c hx hb hr hml hlocks hown hts hK hsz hw hV ht ls hl
  have hown : s.vm.findClass RL = some m.cls := hown
  have hAw : ∀ z, Aw α 193 s.heap.size z → Aw α 193 sz z := by rw [hsz]; exact fun _ h => h
  have hl : lv_has ls 4 [(0, .ref (α 0)), (1, .int a1), (2, .ref (α 191))] := hl
  refine lv_aload_n hx hb dL_size_0 rfl (lv_at hl 2 rfl) ?_
  refine lv_iconst (v := nI 0) hx hb dL_size_1 (by decide) ?_
  refine lv_aload_n hx hb dL_size_2 rfl (lv_at hl 0 rfl) ?_
  refine lv_iload_n hx hb dL_size_3 rfl (lv_at hl 1 rfl) ?_
  refine x_callVI (q := 0) (C := RX10) (As := [.int a1]) (rest := [.int (nI 0), .ref (α 191)]) ⟨hx, hb, hml, hown, hts⟩ (hM _) (cwV 1 hts gL_size_X10_size rfl rfl rfl (by decide +kernel) ⟨Nat.le_of_ble_eq_true rfl, Nat.le_of_ble_eq_true rfl⟩) hK hw hAw (ws_recv hK hw (q := 0) (Nat.le_of_ble_eq_true rfl) (mk_0 cA α) rfl) rfl hl.1 rfl (Nat.le_of_ble_eq_true rfl) dL_size_4 ⟨Nat.zero_le _, Nat.zero_le _⟩ (fun S1 eS1 H locs hw => ?_)
  refine lv_i2l hx hb dL_size_7 rfl ?_
  refine x_last (x := v.toInt64) hx hb hK hw 191 1 (Nat.le_of_ble_eq_true rfl) (mk_191 cA α) 0 rfl (by decide) (by decide) dL_size_8 (fun S2 eS2 H locs hw => ?_)
  refine lv_goto (tgt := 15) hx hb dL_size_9 (by decide) ?_
  refine lv_iconst (v := nI 0) hx hb dL_size_15 (by decide) ?_
  exact ret_h hx hb hr hlocks hK hw dL_size_16 (by decide) (by decide) rfl (by rw [eS2, eS1])

set_option maxRecDepth 100000 in
set_option maxHeartbeats 1000000 in
theorem hX_size_IA (l : Launch) (sa ka va : Nat → Nat) (D : va_G) (cA : Nat → ClassId) (α : Nat → Nat) (sz : Nat) (S : Mem) (a1 : Int32) (hM : ∀ z, CtX sa l yX10_size wsX10_size ({ frames := 6, cells := 1, slots := 6, locals := 100 }) D cA α 193 z [.ref (α 0), .int a1] S eIA) : CtH sa ka va l yL_size wsL_size ({ frames := 7, cells := 1, slots := 6, locals := 121 }) D cA α 193 sz [.ref (α 0), .int a1, .ref (α 191)] S (nI 1) S := by
  refine cth_enter cL_size 4 (some .int) (by decide) rfl (Nat.le_of_ble_eq_true rfl) ?_
  intro p e s m below meth c hx hb hr hml hlocks hown hts hK hsz hw hV ht ls hl
  have hown : s.vm.findClass RL = some m.cls := hown
  have hAw : ∀ z, Aw α 193 s.heap.size z → Aw α 193 sz z := by rw [hsz]; exact fun _ h => h
  have hl : lv_has ls 4 [(0, .ref (α 0)), (1, .int a1), (2, .ref (α 191))] := hl
  refine lv_aload_n hx hb dL_size_0 rfl (lv_at hl 2 rfl) ?_
  refine lv_iconst (v := nI 0) hx hb dL_size_1 (by decide) ?_
  refine lv_aload_n hx hb dL_size_2 rfl (lv_at hl 0 rfl) ?_
  refine lv_iload_n hx hb dL_size_3 rfl (lv_at hl 1 rfl) ?_
  refine x_callXC (q := 0) (C := RX10) (As := [.int a1]) (rest := [.int (nI 0), .ref (α 191)]) ⟨hx, hb, hml, hown, hts⟩ (hM _) (cwV 1 hts gL_size_X10_size rfl rfl rfl (by decide +kernel) ⟨Nat.le_of_ble_eq_true rfl, Nat.le_of_ble_eq_true rfl⟩) hK hw hsz hV (ws_recv hK hw (q := 0) (Nat.le_of_ble_eq_true rfl) (mk_0 cA α) rfl) rfl hl.1 rfl (Nat.le_of_ble_eq_true rfl) dL_size_4 ⟨Nat.le_of_ble_eq_true rfl, Nat.le_of_ble_eq_true rfl⟩ [] ⟨0, 9, 12, 13⟩ [] (ht.trans rfl) (fun z hz => by exact absurd hz List.not_mem_nil) (by decide) (by decide) (hts _ (List.mem_of_getElem? (i := 1) rfl)) (List.mem_of_getElem? (i := 1) rfl) (fun q9 H locs hw => ?_)
  refine lv_astore_n (lv' := [(3, .ref q9), (0, .ref (α 0)), (1, .int a1), (2, .ref (α 191))]) hx hb dL_size_12 rfl hl (by decide) rfl (fun ls hl => ?_)
  refine lv_iconst (v := nI 1) hx hb dL_size_13 (by decide) ?_
  exact ret_h hx hb hr hlocks hK hw dL_size_14 (by decide) (by decide) rfl rfl

set_option maxRecDepth 100000 in
set_option maxHeartbeats 1000000 in
theorem hN_rate (l : Launch) (sa ka va : Nat → Nat) (D : va_G) (cA : Nat → ClassId) (α : Nat → Nat) (sz : Nat) (S : Mem) (a1 : Int32) (v : Int32) (fS : Mem) (hM : ∀ z, CtI l yX10_rate wsX10_rate ({ frames := 7, cells := 0, slots := 0, locals := 121 }) D cA α 193 z [.ref (α 0), .int a1] S v fS) : CtH sa ka va l yL_rate wsL_rate ({ frames := 8, cells := 1, slots := 6, locals := 142 }) D cA α 193 sz [.ref (α 0), .int a1, .ref (α 191)] S (nI 0) (setJ fS 191 0 v.toInt64) := by
  refine cth_enter cL_rate 4 (some .int) (by decide) rfl (Nat.le_of_ble_eq_true rfl) ?_
  intro p e s m below meth c hx hb hr hml hlocks hown hts hK hsz hw hV ht ls hl
  have hown : s.vm.findClass RL = some m.cls := hown
  have hAw : ∀ z, Aw α 193 s.heap.size z → Aw α 193 sz z := by rw [hsz]; exact fun _ h => h
  have hl : lv_has ls 4 [(0, .ref (α 0)), (1, .int a1), (2, .ref (α 191))] := hl
  refine lv_aload_n hx hb dL_rate_0 rfl (lv_at hl 2 rfl) ?_
  refine lv_iconst (v := nI 0) hx hb dL_rate_1 (by decide) ?_
  refine lv_aload_n hx hb dL_rate_2 rfl (lv_at hl 0 rfl) ?_
  refine lv_iload_n hx hb dL_rate_3 rfl (lv_at hl 1 rfl) ?_
  refine x_callVI (q := 0) (C := RX10) (As := [.int a1]) (rest := [.int (nI 0), .ref (α 191)]) ⟨hx, hb, hml, hown, hts⟩ (hM _) (cwV 1 hts gL_rate_X10_rate rfl rfl rfl (by decide +kernel) ⟨Nat.le_of_ble_eq_true rfl, Nat.le_of_ble_eq_true rfl⟩) hK hw hAw (ws_recv hK hw (q := 0) (Nat.le_of_ble_eq_true rfl) (mk_0 cA α) rfl) rfl hl.1 rfl (Nat.le_of_ble_eq_true rfl) dL_rate_4 ⟨Nat.zero_le _, Nat.zero_le _⟩ (fun S1 eS1 H locs hw => ?_)
  refine lv_i2l hx hb dL_rate_7 rfl ?_
  refine x_last (x := v.toInt64) hx hb hK hw 191 1 (Nat.le_of_ble_eq_true rfl) (mk_191 cA α) 0 rfl (by decide) (by decide) dL_rate_8 (fun S2 eS2 H locs hw => ?_)
  refine lv_goto (tgt := 15) hx hb dL_rate_9 (by decide) ?_
  refine lv_iconst (v := nI 0) hx hb dL_rate_15 (by decide) ?_
  exact ret_h hx hb hr hlocks hK hw dL_rate_16 (by decide) (by decide) rfl (by rw [eS2, eS1])

set_option maxRecDepth 100000 in
set_option maxHeartbeats 1000000 in
theorem hX_rate_IO (l : Launch) (sa ka va : Nat → Nat) (D : va_G) (cA : Nat → ClassId) (α : Nat → Nat) (sz : Nat) (S : Mem) (a1 : Int32) (hM : ∀ z, CtX sa l yX10_rate wsX10_rate ({ frames := 7, cells := 1, slots := 6, locals := 121 }) D cA α 193 z [.ref (α 0), .int a1] S eIO) : CtH sa ka va l yL_rate wsL_rate ({ frames := 8, cells := 1, slots := 6, locals := 142 }) D cA α 193 sz [.ref (α 0), .int a1, .ref (α 191)] S (nI 1) S := by
  refine cth_enter cL_rate 4 (some .int) (by decide) rfl (Nat.le_of_ble_eq_true rfl) ?_
  intro p e s m below meth c hx hb hr hml hlocks hown hts hK hsz hw hV ht ls hl
  have hown : s.vm.findClass RL = some m.cls := hown
  have hAw : ∀ z, Aw α 193 s.heap.size z → Aw α 193 sz z := by rw [hsz]; exact fun _ h => h
  have hl : lv_has ls 4 [(0, .ref (α 0)), (1, .int a1), (2, .ref (α 191))] := hl
  refine lv_aload_n hx hb dL_rate_0 rfl (lv_at hl 2 rfl) ?_
  refine lv_iconst (v := nI 0) hx hb dL_rate_1 (by decide) ?_
  refine lv_aload_n hx hb dL_rate_2 rfl (lv_at hl 0 rfl) ?_
  refine lv_iload_n hx hb dL_rate_3 rfl (lv_at hl 1 rfl) ?_
  refine x_callXC (q := 0) (C := RX10) (As := [.int a1]) (rest := [.int (nI 0), .ref (α 191)]) ⟨hx, hb, hml, hown, hts⟩ (hM _) (cwV 1 hts gL_rate_X10_rate rfl rfl rfl (by decide +kernel) ⟨Nat.le_of_ble_eq_true rfl, Nat.le_of_ble_eq_true rfl⟩) hK hw hsz hV (ws_recv hK hw (q := 0) (Nat.le_of_ble_eq_true rfl) (mk_0 cA α) rfl) rfl hl.1 rfl (Nat.le_of_ble_eq_true rfl) dL_rate_4 ⟨Nat.le_of_ble_eq_true rfl, Nat.le_of_ble_eq_true rfl⟩ [] ⟨0, 9, 12, 21⟩ [] (ht.trans rfl) (fun z hz => by exact absurd hz List.not_mem_nil) (by decide) (by decide) (hts _ (List.mem_of_getElem? (i := 1) rfl)) (List.mem_of_getElem? (i := 0) rfl) (fun q9 H locs hw => ?_)
  refine lv_astore_n (lv' := [(3, .ref q9), (0, .ref (α 0)), (1, .int a1), (2, .ref (α 191))]) hx hb dL_rate_12 rfl hl (by decide) rfl (fun ls hl => ?_)
  refine lv_iconst (v := nI 1) hx hb dL_rate_13 (by decide) ?_
  exact ret_h hx hb hr hlocks hK hw dL_rate_14 (by decide) (by decide) rfl rfl

set_option maxRecDepth 100000 in
set_option maxHeartbeats 1000000 in
theorem hN_currencyOf (l : Launch) (sa ka va : Nat → Nat) (D : va_G) (cA : Nat → ClassId) (α : Nat → Nat) (sz : Nat) (S : Mem) (a1 : Int32) (v : Int32) (fS : Mem) (hM : ∀ z, CtI l yX10_currencyOf wsX10_currencyOf ({ frames := 7, cells := 0, slots := 0, locals := 121 }) D cA α 193 z [.ref (α 0), .int a1] S v fS) : CtH sa ka va l yL_currencyOf wsL_currencyOf ({ frames := 8, cells := 1, slots := 6, locals := 142 }) D cA α 193 sz [.ref (α 0), .int a1, .ref (α 191)] S (nI 0) (setJ fS 191 0 v.toInt64) := by
  refine cth_enter cL_currencyOf 4 (some .int) (by decide) rfl (Nat.le_of_ble_eq_true rfl) ?_
  intro p e s m below meth c hx hb hr hml hlocks hown hts hK hsz hw hV ht ls hl
  have hown : s.vm.findClass RL = some m.cls := hown
  have hAw : ∀ z, Aw α 193 s.heap.size z → Aw α 193 sz z := by rw [hsz]; exact fun _ h => h
  have hl : lv_has ls 4 [(0, .ref (α 0)), (1, .int a1), (2, .ref (α 191))] := hl
  refine lv_aload_n hx hb dL_currencyOf_0 rfl (lv_at hl 2 rfl) ?_
  refine lv_iconst (v := nI 0) hx hb dL_currencyOf_1 (by decide) ?_
  refine lv_aload_n hx hb dL_currencyOf_2 rfl (lv_at hl 0 rfl) ?_
  refine lv_iload_n hx hb dL_currencyOf_3 rfl (lv_at hl 1 rfl) ?_
  refine x_callVI (q := 0) (C := RX10) (As := [.int a1]) (rest := [.int (nI 0), .ref (α 191)]) ⟨hx, hb, hml, hown, hts⟩ (hM _) (cwV 1 hts gL_currencyOf_X10_currencyOf rfl rfl rfl (by decide +kernel) ⟨Nat.le_of_ble_eq_true rfl, Nat.le_of_ble_eq_true rfl⟩) hK hw hAw (ws_recv hK hw (q := 0) (Nat.le_of_ble_eq_true rfl) (mk_0 cA α) rfl) rfl hl.1 rfl (Nat.le_of_ble_eq_true rfl) dL_currencyOf_4 ⟨Nat.zero_le _, Nat.zero_le _⟩ (fun S1 eS1 H locs hw => ?_)
  refine lv_i2l hx hb dL_currencyOf_7 rfl ?_
  refine x_last (x := v.toInt64) hx hb hK hw 191 1 (Nat.le_of_ble_eq_true rfl) (mk_191 cA α) 0 rfl (by decide) (by decide) dL_currencyOf_8 (fun S2 eS2 H locs hw => ?_)
  refine lv_goto (tgt := 15) hx hb dL_currencyOf_9 (by decide) ?_
  refine lv_iconst (v := nI 0) hx hb dL_currencyOf_15 (by decide) ?_
  exact ret_h hx hb hr hlocks hK hw dL_currencyOf_16 (by decide) (by decide) rfl (by rw [eS2, eS1])

set_option maxRecDepth 100000 in
set_option maxHeartbeats 1000000 in
theorem hX_currencyOf_IO (l : Launch) (sa ka va : Nat → Nat) (D : va_G) (cA : Nat → ClassId) (α : Nat → Nat) (sz : Nat) (S : Mem) (a1 : Int32) (hM : ∀ z, CtX sa l yX10_currencyOf wsX10_currencyOf ({ frames := 7, cells := 1, slots := 6, locals := 121 }) D cA α 193 z [.ref (α 0), .int a1] S eIO) : CtH sa ka va l yL_currencyOf wsL_currencyOf ({ frames := 8, cells := 1, slots := 6, locals := 142 }) D cA α 193 sz [.ref (α 0), .int a1, .ref (α 191)] S (nI 1) S := by
  refine cth_enter cL_currencyOf 4 (some .int) (by decide) rfl (Nat.le_of_ble_eq_true rfl) ?_
  intro p e s m below meth c hx hb hr hml hlocks hown hts hK hsz hw hV ht ls hl
  have hown : s.vm.findClass RL = some m.cls := hown
  have hAw : ∀ z, Aw α 193 s.heap.size z → Aw α 193 sz z := by rw [hsz]; exact fun _ h => h
  have hl : lv_has ls 4 [(0, .ref (α 0)), (1, .int a1), (2, .ref (α 191))] := hl
  refine lv_aload_n hx hb dL_currencyOf_0 rfl (lv_at hl 2 rfl) ?_
  refine lv_iconst (v := nI 0) hx hb dL_currencyOf_1 (by decide) ?_
  refine lv_aload_n hx hb dL_currencyOf_2 rfl (lv_at hl 0 rfl) ?_
  refine lv_iload_n hx hb dL_currencyOf_3 rfl (lv_at hl 1 rfl) ?_
  refine x_callXC (q := 0) (C := RX10) (As := [.int a1]) (rest := [.int (nI 0), .ref (α 191)]) ⟨hx, hb, hml, hown, hts⟩ (hM _) (cwV 1 hts gL_currencyOf_X10_currencyOf rfl rfl rfl (by decide +kernel) ⟨Nat.le_of_ble_eq_true rfl, Nat.le_of_ble_eq_true rfl⟩) hK hw hsz hV (ws_recv hK hw (q := 0) (Nat.le_of_ble_eq_true rfl) (mk_0 cA α) rfl) rfl hl.1 rfl (Nat.le_of_ble_eq_true rfl) dL_currencyOf_4 ⟨Nat.le_of_ble_eq_true rfl, Nat.le_of_ble_eq_true rfl⟩ [] ⟨0, 9, 12, 21⟩ [] (ht.trans rfl) (fun z hz => by exact absurd hz List.not_mem_nil) (by decide) (by decide) (hts _ (List.mem_of_getElem? (i := 1) rfl)) (List.mem_of_getElem? (i := 0) rfl) (fun q9 H locs hw => ?_)
  refine lv_astore_n (lv' := [(3, .ref q9), (0, .ref (α 0)), (1, .int a1), (2, .ref (α 191))]) hx hb dL_currencyOf_12 rfl hl (by decide) rfl (fun ls hl => ?_)
  refine lv_iconst (v := nI 1) hx hb dL_currencyOf_13 (by decide) ?_
  exact ret_h hx hb hr hlocks hK hw dL_currencyOf_14 (by decide) (by decide) rfl rfl

set_option maxRecDepth 100000 in
set_option maxHeartbeats 1000000 in
theorem hN_product (l : Launch) (sa ka va : Nat → Nat) (D : va_G) (cA : Nat → ClassId) (α : Nat → Nat) (sz : Nat) (S : Mem) (a1 a2 : Int32) (v : Int32) (fS : Mem) (hM : ∀ z, CtI l yX10_product wsX10_product ({ frames := 7, cells := 0, slots := 0, locals := 121 }) D cA α 193 z [.ref (α 0), .int a1, .int a2] S v fS) : CtH sa ka va l yL_product wsL_product ({ frames := 8, cells := 1, slots := 6, locals := 143 }) D cA α 193 sz [.ref (α 0), .int a1, .int a2, .ref (α 191)] S (nI 0) (setJ fS 191 0 v.toInt64) := by
  refine cth_enter cL_product 5 (some .int) (by decide) rfl (Nat.le_of_ble_eq_true rfl) ?_
  intro p e s m below meth c hx hb hr hml hlocks hown hts hK hsz hw hV ht ls hl
  have hown : s.vm.findClass RL = some m.cls := hown
  have hAw : ∀ z, Aw α 193 s.heap.size z → Aw α 193 sz z := by rw [hsz]; exact fun _ h => h
  have hl : lv_has ls 5 [(0, .ref (α 0)), (1, .int a1), (2, .int a2), (3, .ref (α 191))] := hl
  refine lv_aload_n hx hb dL_product_0 rfl (lv_at hl 3 rfl) ?_
  refine lv_iconst (v := nI 0) hx hb dL_product_1 (by decide) ?_
  refine lv_aload_n hx hb dL_product_2 rfl (lv_at hl 0 rfl) ?_
  refine lv_iload_n hx hb dL_product_3 rfl (lv_at hl 1 rfl) ?_
  refine lv_iload_n hx hb dL_product_4 rfl (lv_at hl 2 rfl) ?_
  refine x_callVI (q := 0) (C := RX10) (As := [.int a1, .int a2]) (rest := [.int (nI 0), .ref (α 191)]) ⟨hx, hb, hml, hown, hts⟩ (hM _) (cwV 2 hts gL_product_X10_product rfl rfl rfl (by decide +kernel) ⟨Nat.le_of_ble_eq_true rfl, Nat.le_of_ble_eq_true rfl⟩) hK hw hAw (ws_recv hK hw (q := 0) (Nat.le_of_ble_eq_true rfl) (mk_0 cA α) rfl) rfl hl.1 rfl (Nat.le_of_ble_eq_true rfl) dL_product_5 ⟨Nat.zero_le _, Nat.zero_le _⟩ (fun S1 eS1 H locs hw => ?_)
  refine lv_i2l hx hb dL_product_8 rfl ?_
  refine x_last (x := v.toInt64) hx hb hK hw 191 1 (Nat.le_of_ble_eq_true rfl) (mk_191 cA α) 0 rfl (by decide) (by decide) dL_product_9 (fun S2 eS2 H locs hw => ?_)
  refine lv_goto (tgt := 21) hx hb dL_product_10 (by decide) ?_
  refine lv_iconst (v := nI 0) hx hb dL_product_21 (by decide) ?_
  exact ret_h hx hb hr hlocks hK hw dL_product_22 (by decide) (by decide) rfl (by rw [eS2, eS1])

set_option maxRecDepth 100000 in
set_option maxHeartbeats 1000000 in
theorem hX_product_IO (l : Launch) (sa ka va : Nat → Nat) (D : va_G) (cA : Nat → ClassId) (α : Nat → Nat) (sz : Nat) (S : Mem) (a1 a2 : Int32) (hM : ∀ z, CtX sa l yX10_product wsX10_product ({ frames := 7, cells := 1, slots := 6, locals := 121 }) D cA α 193 z [.ref (α 0), .int a1, .int a2] S eIO) : CtH sa ka va l yL_product wsL_product ({ frames := 8, cells := 1, slots := 6, locals := 143 }) D cA α 193 sz [.ref (α 0), .int a1, .int a2, .ref (α 191)] S (nI 1) S := by
  refine cth_enter cL_product 5 (some .int) (by decide) rfl (Nat.le_of_ble_eq_true rfl) ?_
  intro p e s m below meth c hx hb hr hml hlocks hown hts hK hsz hw hV ht ls hl
  have hown : s.vm.findClass RL = some m.cls := hown
  have hAw : ∀ z, Aw α 193 s.heap.size z → Aw α 193 sz z := by rw [hsz]; exact fun _ h => h
  have hl : lv_has ls 5 [(0, .ref (α 0)), (1, .int a1), (2, .int a2), (3, .ref (α 191))] := hl
  refine lv_aload_n hx hb dL_product_0 rfl (lv_at hl 3 rfl) ?_
  refine lv_iconst (v := nI 0) hx hb dL_product_1 (by decide) ?_
  refine lv_aload_n hx hb dL_product_2 rfl (lv_at hl 0 rfl) ?_
  refine lv_iload_n hx hb dL_product_3 rfl (lv_at hl 1 rfl) ?_
  refine lv_iload_n hx hb dL_product_4 rfl (lv_at hl 2 rfl) ?_
  refine x_callXC (q := 0) (C := RX10) (As := [.int a1, .int a2]) (rest := [.int (nI 0), .ref (α 191)]) ⟨hx, hb, hml, hown, hts⟩ (hM _) (cwV 2 hts gL_product_X10_product rfl rfl rfl (by decide +kernel) ⟨Nat.le_of_ble_eq_true rfl, Nat.le_of_ble_eq_true rfl⟩) hK hw hsz hV (ws_recv hK hw (q := 0) (Nat.le_of_ble_eq_true rfl) (mk_0 cA α) rfl) rfl hl.1 rfl (Nat.le_of_ble_eq_true rfl) dL_product_5 ⟨Nat.le_of_ble_eq_true rfl, Nat.le_of_ble_eq_true rfl⟩ [] ⟨0, 10, 13, 21⟩ [⟨0, 10, 17, 13⟩] (ht.trans rfl) (fun z hz => by exact absurd hz List.not_mem_nil) (by decide) (by decide) (hts _ (List.mem_of_getElem? (i := 1) rfl)) (List.mem_of_getElem? (i := 0) rfl) (fun q9 H locs hw => ?_)
  refine lv_astore (lv' := [(4, .ref q9), (0, .ref (α 0)), (1, .int a1), (2, .int a2), (3, .ref (α 191))]) hx hb dL_product_13 hl (by decide) rfl (fun ls hl => ?_)
  refine lv_iconst (v := nI 1) hx hb dL_product_15 (by decide) ?_
  exact ret_h hx hb hr hlocks hK hw dL_product_16 (by decide) (by decide) rfl rfl

set_option maxRecDepth 100000 in
set_option maxHeartbeats 1000000 in
theorem hX_product_IA (l : Launch) (sa ka va : Nat → Nat) (D : va_G) (cA : Nat → ClassId) (α : Nat → Nat) (sz : Nat) (S : Mem) (a1 a2 : Int32) (hM : ∀ z, CtX sa l yX10_product wsX10_product ({ frames := 7, cells := 1, slots := 6, locals := 121 }) D cA α 193 z [.ref (α 0), .int a1, .int a2] S eIA) : CtH sa ka va l yL_product wsL_product ({ frames := 8, cells := 1, slots := 6, locals := 143 }) D cA α 193 sz [.ref (α 0), .int a1, .int a2, .ref (α 191)] S (nI 2) S := by
  refine cth_enter cL_product 5 (some .int) (by decide) rfl (Nat.le_of_ble_eq_true rfl) ?_
  intro p e s m below meth c hx hb hr hml hlocks hown hts hK hsz hw hV ht ls hl
  have hown : s.vm.findClass RL = some m.cls := hown
  have hAw : ∀ z, Aw α 193 s.heap.size z → Aw α 193 sz z := by rw [hsz]; exact fun _ h => h
  have hl : lv_has ls 5 [(0, .ref (α 0)), (1, .int a1), (2, .int a2), (3, .ref (α 191))] := hl
  refine lv_aload_n hx hb dL_product_0 rfl (lv_at hl 3 rfl) ?_
  refine lv_iconst (v := nI 0) hx hb dL_product_1 (by decide) ?_
  refine lv_aload_n hx hb dL_product_2 rfl (lv_at hl 0 rfl) ?_
  refine lv_iload_n hx hb dL_product_3 rfl (lv_at hl 1 rfl) ?_
  refine lv_iload_n hx hb dL_product_4 rfl (lv_at hl 2 rfl) ?_
  refine x_callXC (q := 0) (C := RX10) (As := [.int a1, .int a2]) (rest := [.int (nI 0), .ref (α 191)]) ⟨hx, hb, hml, hown, hts⟩ (hM _) (cwV 2 hts gL_product_X10_product rfl rfl rfl (by decide +kernel) ⟨Nat.le_of_ble_eq_true rfl, Nat.le_of_ble_eq_true rfl⟩) hK hw hsz hV (ws_recv hK hw (q := 0) (Nat.le_of_ble_eq_true rfl) (mk_0 cA α) rfl) rfl hl.1 rfl (Nat.le_of_ble_eq_true rfl) dL_product_5 ⟨Nat.le_of_ble_eq_true rfl, Nat.le_of_ble_eq_true rfl⟩ [⟨0, 10, 13, 21⟩] ⟨0, 10, 17, 13⟩ [] (ht.trans rfl) (fun z hz => by rcases List.mem_cons.mp hz with rfl | hz; exact Or.inr ⟨by decide, _, (hts _ (List.mem_of_getElem? (i := 1) rfl)), hV.2.2.2.1⟩; exact absurd hz List.not_mem_nil) (by decide) (by decide) (hts _ (List.mem_of_getElem? (i := 2) rfl)) (List.mem_of_getElem? (i := 1) rfl) (fun q9 H locs hw => ?_)
  refine lv_astore (lv' := [(4, .ref q9), (0, .ref (α 0)), (1, .int a1), (2, .int a2), (3, .ref (α 191))]) hx hb dL_product_17 hl (by decide) rfl (fun ls hl => ?_)
  refine lv_iconst (v := nI 2) hx hb dL_product_19 (by decide) ?_
  exact ret_h hx hb hr hlocks hK hw dL_product_20 (by decide) (by decide) rfl rfl

set_option maxRecDepth 100000 in
set_option maxHeartbeats 1000000 in
theorem hN_item (l : Launch) (sa ka va : Nat → Nat) (D : va_G) (cA : Nat → ClassId) (α : Nat → Nat) (sz : Nat) (S : Mem) (a1 a2 : Int32) (v : Int32) (fS : Mem) (hM : ∀ z, CtI l yX10_item wsX10_item ({ frames := 7, cells := 0, slots := 0, locals := 121 }) D cA α 193 z [.ref (α 0), .int a1, .int a2] S v fS) : CtH sa ka va l yL_item wsL_item ({ frames := 8, cells := 1, slots := 6, locals := 143 }) D cA α 193 sz [.ref (α 0), .int a1, .int a2, .ref (α 191)] S (nI 0) (setJ fS 191 0 v.toInt64) := by
  refine cth_enter cL_item 5 (some .int) (by decide) rfl (Nat.le_of_ble_eq_true rfl) ?_
  intro p e s m below meth c hx hb hr hml hlocks hown hts hK hsz hw hV ht ls hl
  have hown : s.vm.findClass RL = some m.cls := hown
  have hAw : ∀ z, Aw α 193 s.heap.size z → Aw α 193 sz z := by rw [hsz]; exact fun _ h => h
  have hl : lv_has ls 5 [(0, .ref (α 0)), (1, .int a1), (2, .int a2), (3, .ref (α 191))] := hl
  refine lv_aload_n hx hb dL_item_0 rfl (lv_at hl 3 rfl) ?_
  refine lv_iconst (v := nI 0) hx hb dL_item_1 (by decide) ?_
  refine lv_aload_n hx hb dL_item_2 rfl (lv_at hl 0 rfl) ?_
  refine lv_iload_n hx hb dL_item_3 rfl (lv_at hl 1 rfl) ?_
  refine lv_iload_n hx hb dL_item_4 rfl (lv_at hl 2 rfl) ?_
  refine x_callVI (q := 0) (C := RX10) (As := [.int a1, .int a2]) (rest := [.int (nI 0), .ref (α 191)]) ⟨hx, hb, hml, hown, hts⟩ (hM _) (cwV 2 hts gL_item_X10_item rfl rfl rfl (by decide +kernel) ⟨Nat.le_of_ble_eq_true rfl, Nat.le_of_ble_eq_true rfl⟩) hK hw hAw (ws_recv hK hw (q := 0) (Nat.le_of_ble_eq_true rfl) (mk_0 cA α) rfl) rfl hl.1 rfl (Nat.le_of_ble_eq_true rfl) dL_item_5 ⟨Nat.zero_le _, Nat.zero_le _⟩ (fun S1 eS1 H locs hw => ?_)
  refine lv_i2l hx hb dL_item_8 rfl ?_
  refine x_last (x := v.toInt64) hx hb hK hw 191 1 (Nat.le_of_ble_eq_true rfl) (mk_191 cA α) 0 rfl (by decide) (by decide) dL_item_9 (fun S2 eS2 H locs hw => ?_)
  refine lv_goto (tgt := 21) hx hb dL_item_10 (by decide) ?_
  refine lv_iconst (v := nI 0) hx hb dL_item_21 (by decide) ?_
  exact ret_h hx hb hr hlocks hK hw dL_item_22 (by decide) (by decide) rfl (by rw [eS2, eS1])

set_option maxRecDepth 100000 in
set_option maxHeartbeats 1000000 in
theorem hX_item_IO (l : Launch) (sa ka va : Nat → Nat) (D : va_G) (cA : Nat → ClassId) (α : Nat → Nat) (sz : Nat) (S : Mem) (a1 a2 : Int32) (hM : ∀ z, CtX sa l yX10_item wsX10_item ({ frames := 7, cells := 1, slots := 6, locals := 121 }) D cA α 193 z [.ref (α 0), .int a1, .int a2] S eIO) : CtH sa ka va l yL_item wsL_item ({ frames := 8, cells := 1, slots := 6, locals := 143 }) D cA α 193 sz [.ref (α 0), .int a1, .int a2, .ref (α 191)] S (nI 1) S := by
  refine cth_enter cL_item 5 (some .int) (by decide) rfl (Nat.le_of_ble_eq_true rfl) ?_
  intro p e s m below meth c hx hb hr hml hlocks hown hts hK hsz hw hV ht ls hl
  have hown : s.vm.findClass RL = some m.cls := hown
  have hAw : ∀ z, Aw α 193 s.heap.size z → Aw α 193 sz z := by rw [hsz]; exact fun _ h => h
  have hl : lv_has ls 5 [(0, .ref (α 0)), (1, .int a1), (2, .int a2), (3, .ref (α 191))] := hl
  refine lv_aload_n hx hb dL_item_0 rfl (lv_at hl 3 rfl) ?_
  refine lv_iconst (v := nI 0) hx hb dL_item_1 (by decide) ?_
  refine lv_aload_n hx hb dL_item_2 rfl (lv_at hl 0 rfl) ?_
  refine lv_iload_n hx hb dL_item_3 rfl (lv_at hl 1 rfl) ?_
  refine lv_iload_n hx hb dL_item_4 rfl (lv_at hl 2 rfl) ?_
  refine x_callXC (q := 0) (C := RX10) (As := [.int a1, .int a2]) (rest := [.int (nI 0), .ref (α 191)]) ⟨hx, hb, hml, hown, hts⟩ (hM _) (cwV 2 hts gL_item_X10_item rfl rfl rfl (by decide +kernel) ⟨Nat.le_of_ble_eq_true rfl, Nat.le_of_ble_eq_true rfl⟩) hK hw hsz hV (ws_recv hK hw (q := 0) (Nat.le_of_ble_eq_true rfl) (mk_0 cA α) rfl) rfl hl.1 rfl (Nat.le_of_ble_eq_true rfl) dL_item_5 ⟨Nat.le_of_ble_eq_true rfl, Nat.le_of_ble_eq_true rfl⟩ [] ⟨0, 10, 13, 21⟩ [⟨0, 10, 17, 13⟩] (ht.trans rfl) (fun z hz => by exact absurd hz List.not_mem_nil) (by decide) (by decide) (hts _ (List.mem_of_getElem? (i := 1) rfl)) (List.mem_of_getElem? (i := 0) rfl) (fun q9 H locs hw => ?_)
  refine lv_astore (lv' := [(4, .ref q9), (0, .ref (α 0)), (1, .int a1), (2, .int a2), (3, .ref (α 191))]) hx hb dL_item_13 hl (by decide) rfl (fun ls hl => ?_)
  refine lv_iconst (v := nI 1) hx hb dL_item_15 (by decide) ?_
  exact ret_h hx hb hr hlocks hK hw dL_item_16 (by decide) (by decide) rfl rfl

set_option maxRecDepth 100000 in
set_option maxHeartbeats 1000000 in
theorem hX_item_IA (l : Launch) (sa ka va : Nat → Nat) (D : va_G) (cA : Nat → ClassId) (α : Nat → Nat) (sz : Nat) (S : Mem) (a1 a2 : Int32) (hM : ∀ z, CtX sa l yX10_item wsX10_item ({ frames := 7, cells := 1, slots := 6, locals := 121 }) D cA α 193 z [.ref (α 0), .int a1, .int a2] S eIA) : CtH sa ka va l yL_item wsL_item ({ frames := 8, cells := 1, slots := 6, locals := 143 }) D cA α 193 sz [.ref (α 0), .int a1, .int a2, .ref (α 191)] S (nI 2) S := by
  refine cth_enter cL_item 5 (some .int) (by decide) rfl (Nat.le_of_ble_eq_true rfl) ?_
  intro p e s m below meth c hx hb hr hml hlocks hown hts hK hsz hw hV ht ls hl
  have hown : s.vm.findClass RL = some m.cls := hown
  have hAw : ∀ z, Aw α 193 s.heap.size z → Aw α 193 sz z := by rw [hsz]; exact fun _ h => h
  have hl : lv_has ls 5 [(0, .ref (α 0)), (1, .int a1), (2, .int a2), (3, .ref (α 191))] := hl
  refine lv_aload_n hx hb dL_item_0 rfl (lv_at hl 3 rfl) ?_
  refine lv_iconst (v := nI 0) hx hb dL_item_1 (by decide) ?_
  refine lv_aload_n hx hb dL_item_2 rfl (lv_at hl 0 rfl) ?_
  refine lv_iload_n hx hb dL_item_3 rfl (lv_at hl 1 rfl) ?_
  refine lv_iload_n hx hb dL_item_4 rfl (lv_at hl 2 rfl) ?_
  refine x_callXC (q := 0) (C := RX10) (As := [.int a1, .int a2]) (rest := [.int (nI 0), .ref (α 191)]) ⟨hx, hb, hml, hown, hts⟩ (hM _) (cwV 2 hts gL_item_X10_item rfl rfl rfl (by decide +kernel) ⟨Nat.le_of_ble_eq_true rfl, Nat.le_of_ble_eq_true rfl⟩) hK hw hsz hV (ws_recv hK hw (q := 0) (Nat.le_of_ble_eq_true rfl) (mk_0 cA α) rfl) rfl hl.1 rfl (Nat.le_of_ble_eq_true rfl) dL_item_5 ⟨Nat.le_of_ble_eq_true rfl, Nat.le_of_ble_eq_true rfl⟩ [⟨0, 10, 13, 21⟩] ⟨0, 10, 17, 13⟩ [] (ht.trans rfl) (fun z hz => by rcases List.mem_cons.mp hz with rfl | hz; exact Or.inr ⟨by decide, _, (hts _ (List.mem_of_getElem? (i := 1) rfl)), hV.2.2.2.1⟩; exact absurd hz List.not_mem_nil) (by decide) (by decide) (hts _ (List.mem_of_getElem? (i := 2) rfl)) (List.mem_of_getElem? (i := 1) rfl) (fun q9 H locs hw => ?_)
  refine lv_astore (lv' := [(4, .ref q9), (0, .ref (α 0)), (1, .int a1), (2, .int a2), (3, .ref (α 191))]) hx hb dL_item_17 hl (by decide) rfl (fun ls hl => ?_)
  refine lv_iconst (v := nI 2) hx hb dL_item_19 (by decide) ?_
  exact ret_h hx hb hr hlocks hK hw dL_item_20 (by decide) (by decide) rfl rfl

set_option maxRecDepth 100000 in
set_option maxHeartbeats 1000000 in
theorem hN_amount (l : Launch) (sa ka va : Nat → Nat) (D : va_G) (cA : Nat → ClassId) (α : Nat → Nat) (sz : Nat) (S : Mem) (a1 : Int32) (v : Int64) (fS : Mem) (hM : ∀ z, CtL l yX10_amount wsX10_amount ({ frames := 7, cells := 0, slots := 0, locals := 121 }) D cA α 193 z [.ref (α 0), .int a1] S v fS) : CtH sa ka va l yL_amount wsL_amount ({ frames := 8, cells := 1, slots := 6, locals := 142 }) D cA α 193 sz [.ref (α 0), .int a1, .ref (α 191)] S (nI 0) (setJ fS 191 0 v) := by
  refine cth_enter cL_amount 4 (some .int) (by decide) rfl (Nat.le_of_ble_eq_true rfl) ?_
  intro p e s m below meth c hx hb hr hml hlocks hown hts hK hsz hw hV ht ls hl
  have hown : s.vm.findClass RL = some m.cls := hown
  have hAw : ∀ z, Aw α 193 s.heap.size z → Aw α 193 sz z := by rw [hsz]; exact fun _ h => h
  have hl : lv_has ls 4 [(0, .ref (α 0)), (1, .int a1), (2, .ref (α 191))] := hl
  refine lv_aload_n hx hb dL_amount_0 rfl (lv_at hl 2 rfl) ?_
  refine lv_iconst (v := nI 0) hx hb dL_amount_1 (by decide) ?_
  refine lv_aload_n hx hb dL_amount_2 rfl (lv_at hl 0 rfl) ?_
  refine lv_iload_n hx hb dL_amount_3 rfl (lv_at hl 1 rfl) ?_
  refine x_callVL (q := 0) (C := RX10) (As := [.int a1]) (rest := [.int (nI 0), .ref (α 191)]) ⟨hx, hb, hml, hown, hts⟩ (hM _) (cwV 1 hts gL_amount_X10_amount rfl rfl rfl (by decide +kernel) ⟨Nat.le_of_ble_eq_true rfl, Nat.le_of_ble_eq_true rfl⟩) hK hw hAw (ws_recv hK hw (q := 0) (Nat.le_of_ble_eq_true rfl) (mk_0 cA α) rfl) rfl hl.1 rfl (Nat.le_of_ble_eq_true rfl) dL_amount_4 ⟨Nat.zero_le _, Nat.zero_le _⟩ (fun S1 eS1 H locs hw => ?_)
  refine x_last (x := v) hx hb hK hw 191 1 (Nat.le_of_ble_eq_true rfl) (mk_191 cA α) 0 rfl (by decide) (by decide) dL_amount_7 (fun S2 eS2 H locs hw => ?_)
  refine lv_goto (tgt := 14) hx hb dL_amount_8 (by decide) ?_
  refine lv_iconst (v := nI 0) hx hb dL_amount_14 (by decide) ?_
  exact ret_h hx hb hr hlocks hK hw dL_amount_15 (by decide) (by decide) rfl (by rw [eS2, eS1])

set_option maxRecDepth 100000 in
set_option maxHeartbeats 1000000 in
theorem hX_amount_IO (l : Launch) (sa ka va : Nat → Nat) (D : va_G) (cA : Nat → ClassId) (α : Nat → Nat) (sz : Nat) (S : Mem) (a1 : Int32) (hM : ∀ z, CtX sa l yX10_amount wsX10_amount ({ frames := 7, cells := 1, slots := 6, locals := 121 }) D cA α 193 z [.ref (α 0), .int a1] S eIO) : CtH sa ka va l yL_amount wsL_amount ({ frames := 8, cells := 1, slots := 6, locals := 142 }) D cA α 193 sz [.ref (α 0), .int a1, .ref (α 191)] S (nI 1) S := by
  refine cth_enter cL_amount 4 (some .int) (by decide) rfl (Nat.le_of_ble_eq_true rfl) ?_
  intro p e s m below meth c hx hb hr hml hlocks hown hts hK hsz hw hV ht ls hl
  have hown : s.vm.findClass RL = some m.cls := hown
  have hAw : ∀ z, Aw α 193 s.heap.size z → Aw α 193 sz z := by rw [hsz]; exact fun _ h => h
  have hl : lv_has ls 4 [(0, .ref (α 0)), (1, .int a1), (2, .ref (α 191))] := hl
  refine lv_aload_n hx hb dL_amount_0 rfl (lv_at hl 2 rfl) ?_
  refine lv_iconst (v := nI 0) hx hb dL_amount_1 (by decide) ?_
  refine lv_aload_n hx hb dL_amount_2 rfl (lv_at hl 0 rfl) ?_
  refine lv_iload_n hx hb dL_amount_3 rfl (lv_at hl 1 rfl) ?_
  refine x_callXC (q := 0) (C := RX10) (As := [.int a1]) (rest := [.int (nI 0), .ref (α 191)]) ⟨hx, hb, hml, hown, hts⟩ (hM _) (cwV 1 hts gL_amount_X10_amount rfl rfl rfl (by decide +kernel) ⟨Nat.le_of_ble_eq_true rfl, Nat.le_of_ble_eq_true rfl⟩) hK hw hsz hV (ws_recv hK hw (q := 0) (Nat.le_of_ble_eq_true rfl) (mk_0 cA α) rfl) rfl hl.1 rfl (Nat.le_of_ble_eq_true rfl) dL_amount_4 ⟨Nat.le_of_ble_eq_true rfl, Nat.le_of_ble_eq_true rfl⟩ [] ⟨0, 8, 11, 21⟩ [] (ht.trans rfl) (fun z hz => by exact absurd hz List.not_mem_nil) (by decide) (by decide) (hts _ (List.mem_of_getElem? (i := 1) rfl)) (List.mem_of_getElem? (i := 0) rfl) (fun q9 H locs hw => ?_)
  refine lv_astore_n (lv' := [(3, .ref q9), (0, .ref (α 0)), (1, .int a1), (2, .ref (α 191))]) hx hb dL_amount_11 rfl hl (by decide) rfl (fun ls hl => ?_)
  refine lv_iconst (v := nI 1) hx hb dL_amount_12 (by decide) ?_
  exact ret_h hx hb hr hlocks hK hw dL_amount_13 (by decide) (by decide) rfl rfl

set_option maxRecDepth 100000 in
set_option maxHeartbeats 1000000 in
theorem hN_value (l : Launch) (sa ka va : Nat → Nat) (D : va_G) (cA : Nat → ClassId) (α : Nat → Nat) (sz : Nat) (S : Mem) (a1 : Int32) (v : Int64) (fS : Mem) (hM : ∀ z, CtL l yX10_value wsX10_value ({ frames := 7, cells := 0, slots := 0, locals := 121 }) D cA α 193 z [.ref (α 0), .int a1] S v fS) : CtH sa ka va l yL_value wsL_value ({ frames := 8, cells := 1, slots := 6, locals := 142 }) D cA α 193 sz [.ref (α 0), .int a1, .ref (α 191)] S (nI 0) (setJ fS 191 0 v) := by
  refine cth_enter cL_value 4 (some .int) (by decide) rfl (Nat.le_of_ble_eq_true rfl) ?_
  intro p e s m below meth c hx hb hr hml hlocks hown hts hK hsz hw hV ht ls hl
  have hown : s.vm.findClass RL = some m.cls := hown
  have hAw : ∀ z, Aw α 193 s.heap.size z → Aw α 193 sz z := by rw [hsz]; exact fun _ h => h
  have hl : lv_has ls 4 [(0, .ref (α 0)), (1, .int a1), (2, .ref (α 191))] := hl
  refine lv_aload_n hx hb dL_value_0 rfl (lv_at hl 2 rfl) ?_
  refine lv_iconst (v := nI 0) hx hb dL_value_1 (by decide) ?_
  refine lv_aload_n hx hb dL_value_2 rfl (lv_at hl 0 rfl) ?_
  refine lv_iload_n hx hb dL_value_3 rfl (lv_at hl 1 rfl) ?_
  refine x_callVL (q := 0) (C := RX10) (As := [.int a1]) (rest := [.int (nI 0), .ref (α 191)]) ⟨hx, hb, hml, hown, hts⟩ (hM _) (cwV 1 hts gL_value_X10_value rfl rfl rfl (by decide +kernel) ⟨Nat.le_of_ble_eq_true rfl, Nat.le_of_ble_eq_true rfl⟩) hK hw hAw (ws_recv hK hw (q := 0) (Nat.le_of_ble_eq_true rfl) (mk_0 cA α) rfl) rfl hl.1 rfl (Nat.le_of_ble_eq_true rfl) dL_value_4 ⟨Nat.zero_le _, Nat.zero_le _⟩ (fun S1 eS1 H locs hw => ?_)
  refine x_last (x := v) hx hb hK hw 191 1 (Nat.le_of_ble_eq_true rfl) (mk_191 cA α) 0 rfl (by decide) (by decide) dL_value_7 (fun S2 eS2 H locs hw => ?_)
  refine lv_goto (tgt := 14) hx hb dL_value_8 (by decide) ?_
  refine lv_iconst (v := nI 0) hx hb dL_value_14 (by decide) ?_
  exact ret_h hx hb hr hlocks hK hw dL_value_15 (by decide) (by decide) rfl (by rw [eS2, eS1])

set_option maxRecDepth 100000 in
set_option maxHeartbeats 1000000 in
theorem hX_value_IO (l : Launch) (sa ka va : Nat → Nat) (D : va_G) (cA : Nat → ClassId) (α : Nat → Nat) (sz : Nat) (S : Mem) (a1 : Int32) (hM : ∀ z, CtX sa l yX10_value wsX10_value ({ frames := 7, cells := 1, slots := 6, locals := 121 }) D cA α 193 z [.ref (α 0), .int a1] S eIO) : CtH sa ka va l yL_value wsL_value ({ frames := 8, cells := 1, slots := 6, locals := 142 }) D cA α 193 sz [.ref (α 0), .int a1, .ref (α 191)] S (nI 1) S := by
  refine cth_enter cL_value 4 (some .int) (by decide) rfl (Nat.le_of_ble_eq_true rfl) ?_
  intro p e s m below meth c hx hb hr hml hlocks hown hts hK hsz hw hV ht ls hl
  have hown : s.vm.findClass RL = some m.cls := hown
  have hAw : ∀ z, Aw α 193 s.heap.size z → Aw α 193 sz z := by rw [hsz]; exact fun _ h => h
  have hl : lv_has ls 4 [(0, .ref (α 0)), (1, .int a1), (2, .ref (α 191))] := hl
  refine lv_aload_n hx hb dL_value_0 rfl (lv_at hl 2 rfl) ?_
  refine lv_iconst (v := nI 0) hx hb dL_value_1 (by decide) ?_
  refine lv_aload_n hx hb dL_value_2 rfl (lv_at hl 0 rfl) ?_
  refine lv_iload_n hx hb dL_value_3 rfl (lv_at hl 1 rfl) ?_
  refine x_callXC (q := 0) (C := RX10) (As := [.int a1]) (rest := [.int (nI 0), .ref (α 191)]) ⟨hx, hb, hml, hown, hts⟩ (hM _) (cwV 1 hts gL_value_X10_value rfl rfl rfl (by decide +kernel) ⟨Nat.le_of_ble_eq_true rfl, Nat.le_of_ble_eq_true rfl⟩) hK hw hsz hV (ws_recv hK hw (q := 0) (Nat.le_of_ble_eq_true rfl) (mk_0 cA α) rfl) rfl hl.1 rfl (Nat.le_of_ble_eq_true rfl) dL_value_4 ⟨Nat.le_of_ble_eq_true rfl, Nat.le_of_ble_eq_true rfl⟩ [] ⟨0, 8, 11, 21⟩ [] (ht.trans rfl) (fun z hz => by exact absurd hz List.not_mem_nil) (by decide) (by decide) (hts _ (List.mem_of_getElem? (i := 1) rfl)) (List.mem_of_getElem? (i := 0) rfl) (fun q9 H locs hw => ?_)
  refine lv_astore_n (lv' := [(3, .ref q9), (0, .ref (α 0)), (1, .int a1), (2, .ref (α 191))]) hx hb dL_value_11 rfl hl (by decide) rfl (fun ls hl => ?_)
  refine lv_iconst (v := nI 1) hx hb dL_value_12 (by decide) ?_
  exact ret_h hx hb hr hlocks hK hw dL_value_13 (by decide) (by decide) rfl rfl

set_option maxRecDepth 100000 in
set_option maxHeartbeats 1000000 in
theorem hN_currencyDifference (l : Launch) (sa ka va : Nat → Nat) (D : va_G) (cA : Nat → ClassId) (α : Nat → Nat) (sz : Nat) (S : Mem) (a1 : Int32) (v : Int64) (fS : Mem) (hM : ∀ z, CtL l yX10_currencyDifference wsX10_currencyDifference ({ frames := 7, cells := 0, slots := 0, locals := 121 }) D cA α 193 z [.ref (α 0), .int a1] S v fS) : CtH sa ka va l yL_currencyDifference wsL_currencyDifference ({ frames := 8, cells := 1, slots := 6, locals := 142 }) D cA α 193 sz [.ref (α 0), .int a1, .ref (α 191)] S (nI 0) (setJ fS 191 0 v) := by
  refine cth_enter cL_currencyDifference 4 (some .int) (by decide) rfl (Nat.le_of_ble_eq_true rfl) ?_
  intro p e s m below meth c hx hb hr hml hlocks hown hts hK hsz hw hV ht ls hl
  have hown : s.vm.findClass RL = some m.cls := hown
  have hAw : ∀ z, Aw α 193 s.heap.size z → Aw α 193 sz z := by rw [hsz]; exact fun _ h => h
  have hl : lv_has ls 4 [(0, .ref (α 0)), (1, .int a1), (2, .ref (α 191))] := hl
  refine lv_aload_n hx hb dL_currencyDifference_0 rfl (lv_at hl 2 rfl) ?_
  refine lv_iconst (v := nI 0) hx hb dL_currencyDifference_1 (by decide) ?_
  refine lv_aload_n hx hb dL_currencyDifference_2 rfl (lv_at hl 0 rfl) ?_
  refine lv_iload_n hx hb dL_currencyDifference_3 rfl (lv_at hl 1 rfl) ?_
  refine x_callVL (q := 0) (C := RX10) (As := [.int a1]) (rest := [.int (nI 0), .ref (α 191)]) ⟨hx, hb, hml, hown, hts⟩ (hM _) (cwV 1 hts gL_currencyDifference_X10_currencyDifference rfl rfl rfl (by decide +kernel) ⟨Nat.le_of_ble_eq_true rfl, Nat.le_of_ble_eq_true rfl⟩) hK hw hAw (ws_recv hK hw (q := 0) (Nat.le_of_ble_eq_true rfl) (mk_0 cA α) rfl) rfl hl.1 rfl (Nat.le_of_ble_eq_true rfl) dL_currencyDifference_4 ⟨Nat.zero_le _, Nat.zero_le _⟩ (fun S1 eS1 H locs hw => ?_)
  refine x_last (x := v) hx hb hK hw 191 1 (Nat.le_of_ble_eq_true rfl) (mk_191 cA α) 0 rfl (by decide) (by decide) dL_currencyDifference_7 (fun S2 eS2 H locs hw => ?_)
  refine lv_goto (tgt := 14) hx hb dL_currencyDifference_8 (by decide) ?_
  refine lv_iconst (v := nI 0) hx hb dL_currencyDifference_14 (by decide) ?_
  exact ret_h hx hb hr hlocks hK hw dL_currencyDifference_15 (by decide) (by decide) rfl (by rw [eS2, eS1])

set_option maxRecDepth 100000 in
set_option maxHeartbeats 1000000 in
theorem hX_currencyDifference_IO (l : Launch) (sa ka va : Nat → Nat) (D : va_G) (cA : Nat → ClassId) (α : Nat → Nat) (sz : Nat) (S : Mem) (a1 : Int32) (hM : ∀ z, CtX sa l yX10_currencyDifference wsX10_currencyDifference ({ frames := 7, cells := 1, slots := 6, locals := 121 }) D cA α 193 z [.ref (α 0), .int a1] S eIO) : CtH sa ka va l yL_currencyDifference wsL_currencyDifference ({ frames := 8, cells := 1, slots := 6, locals := 142 }) D cA α 193 sz [.ref (α 0), .int a1, .ref (α 191)] S (nI 1) S := by
  refine cth_enter cL_currencyDifference 4 (some .int) (by decide) rfl (Nat.le_of_ble_eq_true rfl) ?_
  intro p e s m below meth c hx hb hr hml hlocks hown hts hK hsz hw hV ht ls hl
  have hown : s.vm.findClass RL = some m.cls := hown
  have hAw : ∀ z, Aw α 193 s.heap.size z → Aw α 193 sz z := by rw [hsz]; exact fun _ h => h
  have hl : lv_has ls 4 [(0, .ref (α 0)), (1, .int a1), (2, .ref (α 191))] := hl
  refine lv_aload_n hx hb dL_currencyDifference_0 rfl (lv_at hl 2 rfl) ?_
  refine lv_iconst (v := nI 0) hx hb dL_currencyDifference_1 (by decide) ?_
  refine lv_aload_n hx hb dL_currencyDifference_2 rfl (lv_at hl 0 rfl) ?_
  refine lv_iload_n hx hb dL_currencyDifference_3 rfl (lv_at hl 1 rfl) ?_
  refine x_callXC (q := 0) (C := RX10) (As := [.int a1]) (rest := [.int (nI 0), .ref (α 191)]) ⟨hx, hb, hml, hown, hts⟩ (hM _) (cwV 1 hts gL_currencyDifference_X10_currencyDifference rfl rfl rfl (by decide +kernel) ⟨Nat.le_of_ble_eq_true rfl, Nat.le_of_ble_eq_true rfl⟩) hK hw hsz hV (ws_recv hK hw (q := 0) (Nat.le_of_ble_eq_true rfl) (mk_0 cA α) rfl) rfl hl.1 rfl (Nat.le_of_ble_eq_true rfl) dL_currencyDifference_4 ⟨Nat.le_of_ble_eq_true rfl, Nat.le_of_ble_eq_true rfl⟩ [] ⟨0, 8, 11, 21⟩ [] (ht.trans rfl) (fun z hz => by exact absurd hz List.not_mem_nil) (by decide) (by decide) (hts _ (List.mem_of_getElem? (i := 1) rfl)) (List.mem_of_getElem? (i := 0) rfl) (fun q9 H locs hw => ?_)
  refine lv_astore_n (lv' := [(3, .ref q9), (0, .ref (α 0)), (1, .int a1), (2, .ref (α 191))]) hx hb dL_currencyDifference_11 rfl hl (by decide) rfl (fun ls hl => ?_)
  refine lv_iconst (v := nI 1) hx hb dL_currencyDifference_12 (by decide) ?_
  exact ret_h hx hb hr hlocks hK hw dL_currencyDifference_13 (by decide) (by decide) rfl rfl

set_option maxRecDepth 100000 in
set_option maxHeartbeats 1000000 in
theorem hN_pairDifference (l : Launch) (sa ka va : Nat → Nat) (D : va_G) (cA : Nat → ClassId) (α : Nat → Nat) (sz : Nat) (S : Mem) (a1 : Int32) (v : Int64) (fS : Mem) (hM : ∀ z, CtL l yX10_pairDifference wsX10_pairDifference ({ frames := 7, cells := 0, slots := 0, locals := 121 }) D cA α 193 z [.ref (α 0), .int a1] S v fS) : CtH sa ka va l yL_pairDifference wsL_pairDifference ({ frames := 8, cells := 1, slots := 6, locals := 145 }) D cA α 193 sz [.ref (α 0), .int a1, .ref (α 191)] S (nI 0) (setJ fS 191 0 v) := by
  refine cth_enter cL_pairDifference 4 (some .int) (by decide) rfl (Nat.le_of_ble_eq_true rfl) ?_
  intro p e s m below meth c hx hb hr hml hlocks hown hts hK hsz hw hV ht ls hl
  have hown : s.vm.findClass RL = some m.cls := hown
  have hAw : ∀ z, Aw α 193 s.heap.size z → Aw α 193 sz z := by rw [hsz]; exact fun _ h => h
  have hl : lv_has ls 4 [(0, .ref (α 0)), (1, .int a1), (2, .ref (α 191))] := hl
  refine lv_aload_n hx hb dL_pairDifference_0 rfl (lv_at hl 2 rfl) ?_
  refine lv_iconst (v := nI 0) hx hb dL_pairDifference_1 (by decide) ?_
  refine lv_aload_n hx hb dL_pairDifference_2 rfl (lv_at hl 0 rfl) ?_
  refine lv_iload_n hx hb dL_pairDifference_3 rfl (lv_at hl 1 rfl) ?_
  refine x_callVL (q := 0) (C := RX10) (As := [.int a1]) (rest := [.int (nI 0), .ref (α 191)]) ⟨hx, hb, hml, hown, hts⟩ (hM _) (cwV 1 hts gL_pairDifference_X10_pairDifference rfl rfl rfl (by decide +kernel) ⟨Nat.le_of_ble_eq_true rfl, Nat.le_of_ble_eq_true rfl⟩) hK hw hAw (ws_recv hK hw (q := 0) (Nat.le_of_ble_eq_true rfl) (mk_0 cA α) rfl) rfl hl.1 rfl (Nat.le_of_ble_eq_true rfl) dL_pairDifference_4 ⟨Nat.zero_le _, Nat.zero_le _⟩ (fun S1 eS1 H locs hw => ?_)
  refine x_last (x := v) hx hb hK hw 191 1 (Nat.le_of_ble_eq_true rfl) (mk_191 cA α) 0 rfl (by decide) (by decide) dL_pairDifference_7 (fun S2 eS2 H locs hw => ?_)
  refine lv_goto (tgt := 17) hx hb dL_pairDifference_8 (by decide) ?_
  refine lv_iconst (v := nI 0) hx hb dL_pairDifference_17 (by decide) ?_
  exact ret_h hx hb hr hlocks hK hw dL_pairDifference_18 (by decide) (by decide) rfl (by rw [eS2, eS1])

set_option maxRecDepth 100000 in
set_option maxHeartbeats 1000000 in
theorem hX_pairDifference_IO (l : Launch) (sa ka va : Nat → Nat) (D : va_G) (cA : Nat → ClassId) (α : Nat → Nat) (sz : Nat) (S : Mem) (a1 : Int32) (hM : ∀ z, CtX sa l yX10_pairDifference wsX10_pairDifference ({ frames := 7, cells := 1, slots := 6, locals := 121 }) D cA α 193 z [.ref (α 0), .int a1] S eIO) : CtH sa ka va l yL_pairDifference wsL_pairDifference ({ frames := 8, cells := 1, slots := 6, locals := 145 }) D cA α 193 sz [.ref (α 0), .int a1, .ref (α 191)] S (nI 1) S := by
  refine cth_enter cL_pairDifference 4 (some .int) (by decide) rfl (Nat.le_of_ble_eq_true rfl) ?_
  intro p e s m below meth c hx hb hr hml hlocks hown hts hK hsz hw hV ht ls hl
  have hown : s.vm.findClass RL = some m.cls := hown
  have hAw : ∀ z, Aw α 193 s.heap.size z → Aw α 193 sz z := by rw [hsz]; exact fun _ h => h
  have hl : lv_has ls 4 [(0, .ref (α 0)), (1, .int a1), (2, .ref (α 191))] := hl
  refine lv_aload_n hx hb dL_pairDifference_0 rfl (lv_at hl 2 rfl) ?_
  refine lv_iconst (v := nI 0) hx hb dL_pairDifference_1 (by decide) ?_
  refine lv_aload_n hx hb dL_pairDifference_2 rfl (lv_at hl 0 rfl) ?_
  refine lv_iload_n hx hb dL_pairDifference_3 rfl (lv_at hl 1 rfl) ?_
  refine x_callXC (q := 0) (C := RX10) (As := [.int a1]) (rest := [.int (nI 0), .ref (α 191)]) ⟨hx, hb, hml, hown, hts⟩ (hM _) (cwV 1 hts gL_pairDifference_X10_pairDifference rfl rfl rfl (by decide +kernel) ⟨Nat.le_of_ble_eq_true rfl, Nat.le_of_ble_eq_true rfl⟩) hK hw hsz hV (ws_recv hK hw (q := 0) (Nat.le_of_ble_eq_true rfl) (mk_0 cA α) rfl) rfl hl.1 rfl (Nat.le_of_ble_eq_true rfl) dL_pairDifference_4 ⟨Nat.le_of_ble_eq_true rfl, Nat.le_of_ble_eq_true rfl⟩ [] ⟨0, 8, 11, 21⟩ [⟨0, 8, 14, 46⟩] (ht.trans rfl) (fun z hz => by exact absurd hz List.not_mem_nil) (by decide) (by decide) (hts _ (List.mem_of_getElem? (i := 1) rfl)) (List.mem_of_getElem? (i := 0) rfl) (fun q9 H locs hw => ?_)
  refine lv_astore_n (lv' := [(3, .ref q9), (0, .ref (α 0)), (1, .int a1), (2, .ref (α 191))]) hx hb dL_pairDifference_11 rfl hl (by decide) rfl (fun ls hl => ?_)
  refine lv_iconst (v := nI 1) hx hb dL_pairDifference_12 (by decide) ?_
  exact ret_h hx hb hr hlocks hK hw dL_pairDifference_13 (by decide) (by decide) rfl rfl

set_option maxRecDepth 100000 in
set_option maxHeartbeats 1000000 in
theorem hX_pairDifference_IS (l : Launch) (sa ka va : Nat → Nat) (D : va_G) (cA : Nat → ClassId) (α : Nat → Nat) (sz : Nat) (S : Mem) (a1 : Int32) (hM : ∀ z, CtX sa l yX10_pairDifference wsX10_pairDifference ({ frames := 7, cells := 1, slots := 6, locals := 121 }) D cA α 193 z [.ref (α 0), .int a1] S eIS) : CtH sa ka va l yL_pairDifference wsL_pairDifference ({ frames := 8, cells := 1, slots := 6, locals := 145 }) D cA α 193 sz [.ref (α 0), .int a1, .ref (α 191)] S (nI 2) S := by
  refine cth_enter cL_pairDifference 4 (some .int) (by decide) rfl (Nat.le_of_ble_eq_true rfl) ?_
  intro p e s m below meth c hx hb hr hml hlocks hown hts hK hsz hw hV ht ls hl
  have hown : s.vm.findClass RL = some m.cls := hown
  have hAw : ∀ z, Aw α 193 s.heap.size z → Aw α 193 sz z := by rw [hsz]; exact fun _ h => h
  have hl : lv_has ls 4 [(0, .ref (α 0)), (1, .int a1), (2, .ref (α 191))] := hl
  refine lv_aload_n hx hb dL_pairDifference_0 rfl (lv_at hl 2 rfl) ?_
  refine lv_iconst (v := nI 0) hx hb dL_pairDifference_1 (by decide) ?_
  refine lv_aload_n hx hb dL_pairDifference_2 rfl (lv_at hl 0 rfl) ?_
  refine lv_iload_n hx hb dL_pairDifference_3 rfl (lv_at hl 1 rfl) ?_
  refine x_callXC (q := 0) (C := RX10) (As := [.int a1]) (rest := [.int (nI 0), .ref (α 191)]) ⟨hx, hb, hml, hown, hts⟩ (hM _) (cwV 1 hts gL_pairDifference_X10_pairDifference rfl rfl rfl (by decide +kernel) ⟨Nat.le_of_ble_eq_true rfl, Nat.le_of_ble_eq_true rfl⟩) hK hw hsz hV (ws_recv hK hw (q := 0) (Nat.le_of_ble_eq_true rfl) (mk_0 cA α) rfl) rfl hl.1 rfl (Nat.le_of_ble_eq_true rfl) dL_pairDifference_4 ⟨Nat.le_of_ble_eq_true rfl, Nat.le_of_ble_eq_true rfl⟩ [⟨0, 8, 11, 21⟩] ⟨0, 8, 14, 46⟩ [] (ht.trans rfl) (fun z hz => by rcases List.mem_cons.mp hz with rfl | hz; exact Or.inr ⟨by decide, _, (hts _ (List.mem_of_getElem? (i := 1) rfl)), hV.2.2.2.2.1⟩; exact absurd hz List.not_mem_nil) (by decide) (by decide) (hts _ (List.mem_of_getElem? (i := 2) rfl)) (List.mem_of_getElem? (i := 2) rfl) (fun q9 H locs hw => ?_)
  refine lv_astore_n (lv' := [(3, .ref q9), (0, .ref (α 0)), (1, .int a1), (2, .ref (α 191))]) hx hb dL_pairDifference_14 rfl hl (by decide) rfl (fun ls hl => ?_)
  refine lv_iconst (v := nI 2) hx hb dL_pairDifference_15 (by decide) ?_
  exact ret_h hx hb hr hlocks hK hw dL_pairDifference_16 (by decide) (by decide) rfl rfl

set_option maxRecDepth 100000 in
set_option maxHeartbeats 1000000 in
theorem hN_candidates (l : Launch) (sa ka va : Nat → Nat) (D : va_G) (cA : Nat → ClassId) (α : Nat → Nat) (sz : Nat) (S : Mem) (a1 : Int32) (v : Int32) (fS : Mem) (hM : ∀ z, CtI l yX10_candidates wsX10_candidates ({ frames := 7, cells := 0, slots := 0, locals := 121 }) D cA α 193 z [.ref (α 0), .int a1] S v fS) : CtH sa ka va l yL_candidates wsL_candidates ({ frames := 8, cells := 1, slots := 6, locals := 142 }) D cA α 193 sz [.ref (α 0), .int a1, .ref (α 191)] S (nI 0) (setJ fS 191 0 v.toInt64) := by
  refine cth_enter cL_candidates 4 (some .int) (by decide) rfl (Nat.le_of_ble_eq_true rfl) ?_
  intro p e s m below meth c hx hb hr hml hlocks hown hts hK hsz hw hV ht ls hl
  have hown : s.vm.findClass RL = some m.cls := hown
  have hAw : ∀ z, Aw α 193 s.heap.size z → Aw α 193 sz z := by rw [hsz]; exact fun _ h => h
  have hl : lv_has ls 4 [(0, .ref (α 0)), (1, .int a1), (2, .ref (α 191))] := hl
  refine lv_aload_n hx hb dL_candidates_0 rfl (lv_at hl 2 rfl) ?_
  refine lv_iconst (v := nI 0) hx hb dL_candidates_1 (by decide) ?_
  refine lv_aload_n hx hb dL_candidates_2 rfl (lv_at hl 0 rfl) ?_
  refine lv_iload_n hx hb dL_candidates_3 rfl (lv_at hl 1 rfl) ?_
  refine x_callVI (q := 0) (C := RX10) (As := [.int a1]) (rest := [.int (nI 0), .ref (α 191)]) ⟨hx, hb, hml, hown, hts⟩ (hM _) (cwV 1 hts gL_candidates_X10_candidates rfl rfl rfl (by decide +kernel) ⟨Nat.le_of_ble_eq_true rfl, Nat.le_of_ble_eq_true rfl⟩) hK hw hAw (ws_recv hK hw (q := 0) (Nat.le_of_ble_eq_true rfl) (mk_0 cA α) rfl) rfl hl.1 rfl (Nat.le_of_ble_eq_true rfl) dL_candidates_4 ⟨Nat.zero_le _, Nat.zero_le _⟩ (fun S1 eS1 H locs hw => ?_)
  refine lv_i2l hx hb dL_candidates_7 rfl ?_
  refine x_last (x := v.toInt64) hx hb hK hw 191 1 (Nat.le_of_ble_eq_true rfl) (mk_191 cA α) 0 rfl (by decide) (by decide) dL_candidates_8 (fun S2 eS2 H locs hw => ?_)
  refine lv_goto (tgt := 15) hx hb dL_candidates_9 (by decide) ?_
  refine lv_iconst (v := nI 0) hx hb dL_candidates_15 (by decide) ?_
  exact ret_h hx hb hr hlocks hK hw dL_candidates_16 (by decide) (by decide) rfl (by rw [eS2, eS1])

set_option maxRecDepth 100000 in
set_option maxHeartbeats 1000000 in
theorem hX_candidates_IO (l : Launch) (sa ka va : Nat → Nat) (D : va_G) (cA : Nat → ClassId) (α : Nat → Nat) (sz : Nat) (S : Mem) (a1 : Int32) (hM : ∀ z, CtX sa l yX10_candidates wsX10_candidates ({ frames := 7, cells := 1, slots := 6, locals := 121 }) D cA α 193 z [.ref (α 0), .int a1] S eIO) : CtH sa ka va l yL_candidates wsL_candidates ({ frames := 8, cells := 1, slots := 6, locals := 142 }) D cA α 193 sz [.ref (α 0), .int a1, .ref (α 191)] S (nI 1) S := by
  refine cth_enter cL_candidates 4 (some .int) (by decide) rfl (Nat.le_of_ble_eq_true rfl) ?_
  intro p e s m below meth c hx hb hr hml hlocks hown hts hK hsz hw hV ht ls hl
  have hown : s.vm.findClass RL = some m.cls := hown
  have hAw : ∀ z, Aw α 193 s.heap.size z → Aw α 193 sz z := by rw [hsz]; exact fun _ h => h
  have hl : lv_has ls 4 [(0, .ref (α 0)), (1, .int a1), (2, .ref (α 191))] := hl
  refine lv_aload_n hx hb dL_candidates_0 rfl (lv_at hl 2 rfl) ?_
  refine lv_iconst (v := nI 0) hx hb dL_candidates_1 (by decide) ?_
  refine lv_aload_n hx hb dL_candidates_2 rfl (lv_at hl 0 rfl) ?_
  refine lv_iload_n hx hb dL_candidates_3 rfl (lv_at hl 1 rfl) ?_
  refine x_callXC (q := 0) (C := RX10) (As := [.int a1]) (rest := [.int (nI 0), .ref (α 191)]) ⟨hx, hb, hml, hown, hts⟩ (hM _) (cwV 1 hts gL_candidates_X10_candidates rfl rfl rfl (by decide +kernel) ⟨Nat.le_of_ble_eq_true rfl, Nat.le_of_ble_eq_true rfl⟩) hK hw hsz hV (ws_recv hK hw (q := 0) (Nat.le_of_ble_eq_true rfl) (mk_0 cA α) rfl) rfl hl.1 rfl (Nat.le_of_ble_eq_true rfl) dL_candidates_4 ⟨Nat.le_of_ble_eq_true rfl, Nat.le_of_ble_eq_true rfl⟩ [] ⟨0, 9, 12, 21⟩ [] (ht.trans rfl) (fun z hz => by exact absurd hz List.not_mem_nil) (by decide) (by decide) (hts _ (List.mem_of_getElem? (i := 1) rfl)) (List.mem_of_getElem? (i := 0) rfl) (fun q9 H locs hw => ?_)
  refine lv_astore_n (lv' := [(3, .ref q9), (0, .ref (α 0)), (1, .int a1), (2, .ref (α 191))]) hx hb dL_candidates_12 rfl hl (by decide) rfl (fun ls hl => ?_)
  refine lv_iconst (v := nI 1) hx hb dL_candidates_13 (by decide) ?_
  exact ret_h hx hb hr hlocks hK hw dL_candidates_14 (by decide) (by decide) rfl rfl

set_option maxRecDepth 100000 in
set_option maxHeartbeats 1000000 in
theorem hN_wouldPair (l : Launch) (sa ka va : Nat → Nat) (D : va_G) (cA : Nat → ClassId) (α : Nat → Nat) (sz : Nat) (S : Mem) (a1 : Int32) (v : Int32) (fS : Mem) (hM : ∀ z, CtI l yX10_wouldPair wsX10_wouldPair ({ frames := 7, cells := 0, slots := 0, locals := 133 }) D cA α 193 z [.ref (α 0), .int a1] S v fS) : CtH sa ka va l yL_wouldPair wsL_wouldPair ({ frames := 8, cells := 1, slots := 6, locals := 154 }) D cA α 193 sz [.ref (α 0), .int a1, .ref (α 191)] S (nI 0) (setJ fS 191 0 v.toInt64) := by
  refine cth_enter cL_wouldPair 4 (some .int) (by decide) rfl (Nat.le_of_ble_eq_true rfl) ?_
  intro p e s m below meth c hx hb hr hml hlocks hown hts hK hsz hw hV ht ls hl
  have hown : s.vm.findClass RL = some m.cls := hown
  have hAw : ∀ z, Aw α 193 s.heap.size z → Aw α 193 sz z := by rw [hsz]; exact fun _ h => h
  have hl : lv_has ls 4 [(0, .ref (α 0)), (1, .int a1), (2, .ref (α 191))] := hl
  refine lv_aload_n hx hb dL_wouldPair_0 rfl (lv_at hl 2 rfl) ?_
  refine lv_iconst (v := nI 0) hx hb dL_wouldPair_1 (by decide) ?_
  refine lv_aload_n hx hb dL_wouldPair_2 rfl (lv_at hl 0 rfl) ?_
  refine lv_iload_n hx hb dL_wouldPair_3 rfl (lv_at hl 1 rfl) ?_
  refine x_callVI (q := 0) (C := RX10) (As := [.int a1]) (rest := [.int (nI 0), .ref (α 191)]) ⟨hx, hb, hml, hown, hts⟩ (hM _) (cwV 1 hts gL_wouldPair_X10_wouldPair rfl rfl rfl (by decide +kernel) ⟨Nat.le_of_ble_eq_true rfl, Nat.le_of_ble_eq_true rfl⟩) hK hw hAw (ws_recv hK hw (q := 0) (Nat.le_of_ble_eq_true rfl) (mk_0 cA α) rfl) rfl hl.1 rfl (Nat.le_of_ble_eq_true rfl) dL_wouldPair_4 ⟨Nat.zero_le _, Nat.zero_le _⟩ (fun S1 eS1 H locs hw => ?_)
  refine lv_i2l hx hb dL_wouldPair_7 rfl ?_
  refine x_last (x := v.toInt64) hx hb hK hw 191 1 (Nat.le_of_ble_eq_true rfl) (mk_191 cA α) 0 rfl (by decide) (by decide) dL_wouldPair_8 (fun S2 eS2 H locs hw => ?_)
  refine lv_goto (tgt := 18) hx hb dL_wouldPair_9 (by decide) ?_
  refine lv_iconst (v := nI 0) hx hb dL_wouldPair_18 (by decide) ?_
  exact ret_h hx hb hr hlocks hK hw dL_wouldPair_19 (by decide) (by decide) rfl (by rw [eS2, eS1])

set_option maxRecDepth 100000 in
set_option maxHeartbeats 1000000 in
theorem hX_wouldPair_IO (l : Launch) (sa ka va : Nat → Nat) (D : va_G) (cA : Nat → ClassId) (α : Nat → Nat) (sz : Nat) (S : Mem) (a1 : Int32) (hM : ∀ z, CtX sa l yX10_wouldPair wsX10_wouldPair ({ frames := 7, cells := 1, slots := 6, locals := 133 }) D cA α 193 z [.ref (α 0), .int a1] S eIO) : CtH sa ka va l yL_wouldPair wsL_wouldPair ({ frames := 8, cells := 1, slots := 6, locals := 154 }) D cA α 193 sz [.ref (α 0), .int a1, .ref (α 191)] S (nI 1) S := by
  refine cth_enter cL_wouldPair 4 (some .int) (by decide) rfl (Nat.le_of_ble_eq_true rfl) ?_
  intro p e s m below meth c hx hb hr hml hlocks hown hts hK hsz hw hV ht ls hl
  have hown : s.vm.findClass RL = some m.cls := hown
  have hAw : ∀ z, Aw α 193 s.heap.size z → Aw α 193 sz z := by rw [hsz]; exact fun _ h => h
  have hl : lv_has ls 4 [(0, .ref (α 0)), (1, .int a1), (2, .ref (α 191))] := hl
  refine lv_aload_n hx hb dL_wouldPair_0 rfl (lv_at hl 2 rfl) ?_
  refine lv_iconst (v := nI 0) hx hb dL_wouldPair_1 (by decide) ?_
  refine lv_aload_n hx hb dL_wouldPair_2 rfl (lv_at hl 0 rfl) ?_
  refine lv_iload_n hx hb dL_wouldPair_3 rfl (lv_at hl 1 rfl) ?_
  refine x_callXC (q := 0) (C := RX10) (As := [.int a1]) (rest := [.int (nI 0), .ref (α 191)]) ⟨hx, hb, hml, hown, hts⟩ (hM _) (cwV 1 hts gL_wouldPair_X10_wouldPair rfl rfl rfl (by decide +kernel) ⟨Nat.le_of_ble_eq_true rfl, Nat.le_of_ble_eq_true rfl⟩) hK hw hsz hV (ws_recv hK hw (q := 0) (Nat.le_of_ble_eq_true rfl) (mk_0 cA α) rfl) rfl hl.1 rfl (Nat.le_of_ble_eq_true rfl) dL_wouldPair_4 ⟨Nat.le_of_ble_eq_true rfl, Nat.le_of_ble_eq_true rfl⟩ [] ⟨0, 9, 12, 21⟩ [⟨0, 9, 15, 46⟩] (ht.trans rfl) (fun z hz => by exact absurd hz List.not_mem_nil) (by decide) (by decide) (hts _ (List.mem_of_getElem? (i := 1) rfl)) (List.mem_of_getElem? (i := 0) rfl) (fun q9 H locs hw => ?_)
  refine lv_astore_n (lv' := [(3, .ref q9), (0, .ref (α 0)), (1, .int a1), (2, .ref (α 191))]) hx hb dL_wouldPair_12 rfl hl (by decide) rfl (fun ls hl => ?_)
  refine lv_iconst (v := nI 1) hx hb dL_wouldPair_13 (by decide) ?_
  exact ret_h hx hb hr hlocks hK hw dL_wouldPair_14 (by decide) (by decide) rfl rfl

set_option maxRecDepth 100000 in
set_option maxHeartbeats 1000000 in
theorem hX_wouldPair_IS (l : Launch) (sa ka va : Nat → Nat) (D : va_G) (cA : Nat → ClassId) (α : Nat → Nat) (sz : Nat) (S : Mem) (a1 : Int32) (hM : ∀ z, CtX sa l yX10_wouldPair wsX10_wouldPair ({ frames := 7, cells := 1, slots := 6, locals := 133 }) D cA α 193 z [.ref (α 0), .int a1] S eIS) : CtH sa ka va l yL_wouldPair wsL_wouldPair ({ frames := 8, cells := 1, slots := 6, locals := 154 }) D cA α 193 sz [.ref (α 0), .int a1, .ref (α 191)] S (nI 2) S := by
  refine cth_enter cL_wouldPair 4 (some .int) (by decide) rfl (Nat.le_of_ble_eq_true rfl) ?_
  intro p e s m below meth c hx hb hr hml hlocks hown hts hK hsz hw hV ht ls hl
  have hown : s.vm.findClass RL = some m.cls := hown
  have hAw : ∀ z, Aw α 193 s.heap.size z → Aw α 193 sz z := by rw [hsz]; exact fun _ h => h
  have hl : lv_has ls 4 [(0, .ref (α 0)), (1, .int a1), (2, .ref (α 191))] := hl
  refine lv_aload_n hx hb dL_wouldPair_0 rfl (lv_at hl 2 rfl) ?_
  refine lv_iconst (v := nI 0) hx hb dL_wouldPair_1 (by decide) ?_
  refine lv_aload_n hx hb dL_wouldPair_2 rfl (lv_at hl 0 rfl) ?_
  refine lv_iload_n hx hb dL_wouldPair_3 rfl (lv_at hl 1 rfl) ?_
  refine x_callXC (q := 0) (C := RX10) (As := [.int a1]) (rest := [.int (nI 0), .ref (α 191)]) ⟨hx, hb, hml, hown, hts⟩ (hM _) (cwV 1 hts gL_wouldPair_X10_wouldPair rfl rfl rfl (by decide +kernel) ⟨Nat.le_of_ble_eq_true rfl, Nat.le_of_ble_eq_true rfl⟩) hK hw hsz hV (ws_recv hK hw (q := 0) (Nat.le_of_ble_eq_true rfl) (mk_0 cA α) rfl) rfl hl.1 rfl (Nat.le_of_ble_eq_true rfl) dL_wouldPair_4 ⟨Nat.le_of_ble_eq_true rfl, Nat.le_of_ble_eq_true rfl⟩ [⟨0, 9, 12, 21⟩] ⟨0, 9, 15, 46⟩ [] (ht.trans rfl) (fun z hz => by rcases List.mem_cons.mp hz with rfl | hz; exact Or.inr ⟨by decide, _, (hts _ (List.mem_of_getElem? (i := 1) rfl)), hV.2.2.2.2.1⟩; exact absurd hz List.not_mem_nil) (by decide) (by decide) (hts _ (List.mem_of_getElem? (i := 2) rfl)) (List.mem_of_getElem? (i := 2) rfl) (fun q9 H locs hw => ?_)
  refine lv_astore_n (lv' := [(3, .ref q9), (0, .ref (α 0)), (1, .int a1), (2, .ref (α 191))]) hx hb dL_wouldPair_15 rfl hl (by decide) rfl (fun ls hl => ?_)
  refine lv_iconst (v := nI 2) hx hb dL_wouldPair_16 (by decide) ?_
  exact ret_h hx hb hr hlocks hK hw dL_wouldPair_17 (by decide) (by decide) rfl rfl

set_option maxRecDepth 100000 in
set_option maxHeartbeats 1000000 in
theorem hN_balance (l : Launch) (sa ka va : Nat → Nat) (D : va_G) (cA : Nat → ClassId) (α : Nat → Nat) (sz : Nat) (S : Mem) (a1 a2 : Int32) (v : Int64) (fS : Mem) (hM : ∀ z, CtL l yX10_balance wsX10_balance ({ frames := 7, cells := 0, slots := 0, locals := 121 }) D cA α 193 z [.ref (α 0), .int a1, .int a2] S v fS) : CtH sa ka va l yL_balance wsL_balance ({ frames := 8, cells := 1, slots := 6, locals := 143 }) D cA α 193 sz [.ref (α 0), .int a1, .int a2, .ref (α 191)] S (nI 0) (setJ fS 191 0 v) := by
  refine cth_enter cL_balance 5 (some .int) (by decide) rfl (Nat.le_of_ble_eq_true rfl) ?_
  intro p e s m below meth c hx hb hr hml hlocks hown hts hK hsz hw hV ht ls hl
  have hown : s.vm.findClass RL = some m.cls := hown
  have hAw : ∀ z, Aw α 193 s.heap.size z → Aw α 193 sz z := by rw [hsz]; exact fun _ h => h
  have hl : lv_has ls 5 [(0, .ref (α 0)), (1, .int a1), (2, .int a2), (3, .ref (α 191))] := hl
  refine lv_aload_n hx hb dL_balance_0 rfl (lv_at hl 3 rfl) ?_
  refine lv_iconst (v := nI 0) hx hb dL_balance_1 (by decide) ?_
  refine lv_aload_n hx hb dL_balance_2 rfl (lv_at hl 0 rfl) ?_
  refine lv_iload_n hx hb dL_balance_3 rfl (lv_at hl 1 rfl) ?_
  refine lv_iload_n hx hb dL_balance_4 rfl (lv_at hl 2 rfl) ?_
  refine x_callVL (q := 0) (C := RX10) (As := [.int a1, .int a2]) (rest := [.int (nI 0), .ref (α 191)]) ⟨hx, hb, hml, hown, hts⟩ (hM _) (cwV 2 hts gL_balance_X10_balance rfl rfl rfl (by decide +kernel) ⟨Nat.le_of_ble_eq_true rfl, Nat.le_of_ble_eq_true rfl⟩) hK hw hAw (ws_recv hK hw (q := 0) (Nat.le_of_ble_eq_true rfl) (mk_0 cA α) rfl) rfl hl.1 rfl (Nat.le_of_ble_eq_true rfl) dL_balance_5 ⟨Nat.zero_le _, Nat.zero_le _⟩ (fun S1 eS1 H locs hw => ?_)
  refine x_last (x := v) hx hb hK hw 191 1 (Nat.le_of_ble_eq_true rfl) (mk_191 cA α) 0 rfl (by decide) (by decide) dL_balance_8 (fun S2 eS2 H locs hw => ?_)
  refine lv_goto (tgt := 16) hx hb dL_balance_9 (by decide) ?_
  refine lv_iconst (v := nI 0) hx hb dL_balance_16 (by decide) ?_
  exact ret_h hx hb hr hlocks hK hw dL_balance_17 (by decide) (by decide) rfl (by rw [eS2, eS1])

set_option maxRecDepth 100000 in
set_option maxHeartbeats 1000000 in
theorem hX_balance_IO (l : Launch) (sa ka va : Nat → Nat) (D : va_G) (cA : Nat → ClassId) (α : Nat → Nat) (sz : Nat) (S : Mem) (a1 a2 : Int32) (hM : ∀ z, CtX sa l yX10_balance wsX10_balance ({ frames := 7, cells := 1, slots := 6, locals := 121 }) D cA α 193 z [.ref (α 0), .int a1, .int a2] S eIO) : CtH sa ka va l yL_balance wsL_balance ({ frames := 8, cells := 1, slots := 6, locals := 143 }) D cA α 193 sz [.ref (α 0), .int a1, .int a2, .ref (α 191)] S (nI 1) S := by
  refine cth_enter cL_balance 5 (some .int) (by decide) rfl (Nat.le_of_ble_eq_true rfl) ?_
  intro p e s m below meth c hx hb hr hml hlocks hown hts hK hsz hw hV ht ls hl
  have hown : s.vm.findClass RL = some m.cls := hown
  have hAw : ∀ z, Aw α 193 s.heap.size z → Aw α 193 sz z := by rw [hsz]; exact fun _ h => h
  have hl : lv_has ls 5 [(0, .ref (α 0)), (1, .int a1), (2, .int a2), (3, .ref (α 191))] := hl
  refine lv_aload_n hx hb dL_balance_0 rfl (lv_at hl 3 rfl) ?_
  refine lv_iconst (v := nI 0) hx hb dL_balance_1 (by decide) ?_
  refine lv_aload_n hx hb dL_balance_2 rfl (lv_at hl 0 rfl) ?_
  refine lv_iload_n hx hb dL_balance_3 rfl (lv_at hl 1 rfl) ?_
  refine lv_iload_n hx hb dL_balance_4 rfl (lv_at hl 2 rfl) ?_
  refine x_callXC (q := 0) (C := RX10) (As := [.int a1, .int a2]) (rest := [.int (nI 0), .ref (α 191)]) ⟨hx, hb, hml, hown, hts⟩ (hM _) (cwV 2 hts gL_balance_X10_balance rfl rfl rfl (by decide +kernel) ⟨Nat.le_of_ble_eq_true rfl, Nat.le_of_ble_eq_true rfl⟩) hK hw hsz hV (ws_recv hK hw (q := 0) (Nat.le_of_ble_eq_true rfl) (mk_0 cA α) rfl) rfl hl.1 rfl (Nat.le_of_ble_eq_true rfl) dL_balance_5 ⟨Nat.le_of_ble_eq_true rfl, Nat.le_of_ble_eq_true rfl⟩ [] ⟨0, 9, 12, 21⟩ [] (ht.trans rfl) (fun z hz => by exact absurd hz List.not_mem_nil) (by decide) (by decide) (hts _ (List.mem_of_getElem? (i := 1) rfl)) (List.mem_of_getElem? (i := 0) rfl) (fun q9 H locs hw => ?_)
  refine lv_astore (lv' := [(4, .ref q9), (0, .ref (α 0)), (1, .int a1), (2, .int a2), (3, .ref (α 191))]) hx hb dL_balance_12 hl (by decide) rfl (fun ls hl => ?_)
  refine lv_iconst (v := nI 1) hx hb dL_balance_14 (by decide) ?_
  exact ret_h hx hb hr hlocks hK hw dL_balance_15 (by decide) (by decide) rfl rfl

set_option maxRecDepth 100000 in
set_option maxHeartbeats 1000000 in
theorem hN_total (l : Launch) (sa ka va : Nat → Nat) (D : va_G) (cA : Nat → ClassId) (α : Nat → Nat) (sz : Nat) (S : Mem) (a1 : Int32) (v : Int64) (fS : Mem) (hM : ∀ z, CtL l yX10_total wsX10_total ({ frames := 6, cells := 0, slots := 0, locals := 100 }) D cA α 193 z [.ref (α 0), .int a1] S v fS) : CtH sa ka va l yL_total wsL_total ({ frames := 7, cells := 1, slots := 6, locals := 121 }) D cA α 193 sz [.ref (α 0), .int a1, .ref (α 191)] S (nI 0) (setJ fS 191 0 v) := by
  refine cth_enter cL_total 4 (some .int) (by decide) rfl (Nat.le_of_ble_eq_true rfl) ?_
  intro p e s m below meth c hx hb hr hml hlocks hown hts hK hsz hw hV ht ls hl
  have hown : s.vm.findClass RL = some m.cls := hown
  have hAw : ∀ z, Aw α 193 s.heap.size z → Aw α 193 sz z := by rw [hsz]; exact fun _ h => h
  have hl : lv_has ls 4 [(0, .ref (α 0)), (1, .int a1), (2, .ref (α 191))] := hl
  refine lv_aload_n hx hb dL_total_0 rfl (lv_at hl 2 rfl) ?_
  refine lv_iconst (v := nI 0) hx hb dL_total_1 (by decide) ?_
  refine lv_aload_n hx hb dL_total_2 rfl (lv_at hl 0 rfl) ?_
  refine lv_iload_n hx hb dL_total_3 rfl (lv_at hl 1 rfl) ?_
  refine x_callVL (q := 0) (C := RX10) (As := [.int a1]) (rest := [.int (nI 0), .ref (α 191)]) ⟨hx, hb, hml, hown, hts⟩ (hM _) (cwV 1 hts gL_total_X10_total rfl rfl rfl (by decide +kernel) ⟨Nat.le_of_ble_eq_true rfl, Nat.le_of_ble_eq_true rfl⟩) hK hw hAw (ws_recv hK hw (q := 0) (Nat.le_of_ble_eq_true rfl) (mk_0 cA α) rfl) rfl hl.1 rfl (Nat.le_of_ble_eq_true rfl) dL_total_4 ⟨Nat.zero_le _, Nat.zero_le _⟩ (fun S1 eS1 H locs hw => ?_)
  refine x_last (x := v) hx hb hK hw 191 1 (Nat.le_of_ble_eq_true rfl) (mk_191 cA α) 0 rfl (by decide) (by decide) dL_total_7 (fun S2 eS2 H locs hw => ?_)
  refine lv_goto (tgt := 14) hx hb dL_total_8 (by decide) ?_
  refine lv_iconst (v := nI 0) hx hb dL_total_14 (by decide) ?_
  exact ret_h hx hb hr hlocks hK hw dL_total_15 (by decide) (by decide) rfl (by rw [eS2, eS1])

set_option maxRecDepth 100000 in
set_option maxHeartbeats 1000000 in
theorem hX_total_IA (l : Launch) (sa ka va : Nat → Nat) (D : va_G) (cA : Nat → ClassId) (α : Nat → Nat) (sz : Nat) (S : Mem) (a1 : Int32) (hM : ∀ z, CtX sa l yX10_total wsX10_total ({ frames := 6, cells := 1, slots := 6, locals := 100 }) D cA α 193 z [.ref (α 0), .int a1] S eIA) : CtH sa ka va l yL_total wsL_total ({ frames := 7, cells := 1, slots := 6, locals := 121 }) D cA α 193 sz [.ref (α 0), .int a1, .ref (α 191)] S (nI 1) S := by
  refine cth_enter cL_total 4 (some .int) (by decide) rfl (Nat.le_of_ble_eq_true rfl) ?_
  intro p e s m below meth c hx hb hr hml hlocks hown hts hK hsz hw hV ht ls hl
  have hown : s.vm.findClass RL = some m.cls := hown
  have hAw : ∀ z, Aw α 193 s.heap.size z → Aw α 193 sz z := by rw [hsz]; exact fun _ h => h
  have hl : lv_has ls 4 [(0, .ref (α 0)), (1, .int a1), (2, .ref (α 191))] := hl
  refine lv_aload_n hx hb dL_total_0 rfl (lv_at hl 2 rfl) ?_
  refine lv_iconst (v := nI 0) hx hb dL_total_1 (by decide) ?_
  refine lv_aload_n hx hb dL_total_2 rfl (lv_at hl 0 rfl) ?_
  refine lv_iload_n hx hb dL_total_3 rfl (lv_at hl 1 rfl) ?_
  refine x_callXC (q := 0) (C := RX10) (As := [.int a1]) (rest := [.int (nI 0), .ref (α 191)]) ⟨hx, hb, hml, hown, hts⟩ (hM _) (cwV 1 hts gL_total_X10_total rfl rfl rfl (by decide +kernel) ⟨Nat.le_of_ble_eq_true rfl, Nat.le_of_ble_eq_true rfl⟩) hK hw hsz hV (ws_recv hK hw (q := 0) (Nat.le_of_ble_eq_true rfl) (mk_0 cA α) rfl) rfl hl.1 rfl (Nat.le_of_ble_eq_true rfl) dL_total_4 ⟨Nat.le_of_ble_eq_true rfl, Nat.le_of_ble_eq_true rfl⟩ [] ⟨0, 8, 11, 13⟩ [] (ht.trans rfl) (fun z hz => by exact absurd hz List.not_mem_nil) (by decide) (by decide) (hts _ (List.mem_of_getElem? (i := 1) rfl)) (List.mem_of_getElem? (i := 1) rfl) (fun q9 H locs hw => ?_)
  refine lv_astore_n (lv' := [(3, .ref q9), (0, .ref (α 0)), (1, .int a1), (2, .ref (α 191))]) hx hb dL_total_11 rfl hl (by decide) rfl (fun ls hl => ?_)
  refine lv_iconst (v := nI 1) hx hb dL_total_12 (by decide) ?_
  exact ret_h hx hb hr hlocks hK hw dL_total_13 (by decide) (by decide) rfl rfl

set_option maxRecDepth 100000 in
set_option maxHeartbeats 1000000 in
theorem hN_position (l : Launch) (sa ka va : Nat → Nat) (D : va_G) (cA : Nat → ClassId) (α : Nat → Nat) (sz : Nat) (S : Mem) (a1 : Int32) (v : Int64) (fS : Mem) (hM : ∀ z, CtL l yX10_position wsX10_position ({ frames := 7, cells := 0, slots := 0, locals := 121 }) D cA α 193 z [.ref (α 0), .int a1] S v fS) : CtH sa ka va l yL_position wsL_position ({ frames := 8, cells := 1, slots := 6, locals := 142 }) D cA α 193 sz [.ref (α 0), .int a1, .ref (α 191)] S (nI 0) (setJ fS 191 0 v) := by
  refine cth_enter cL_position 4 (some .int) (by decide) rfl (Nat.le_of_ble_eq_true rfl) ?_
  intro p e s m below meth c hx hb hr hml hlocks hown hts hK hsz hw hV ht ls hl
  have hown : s.vm.findClass RL = some m.cls := hown
  have hAw : ∀ z, Aw α 193 s.heap.size z → Aw α 193 sz z := by rw [hsz]; exact fun _ h => h
  have hl : lv_has ls 4 [(0, .ref (α 0)), (1, .int a1), (2, .ref (α 191))] := hl
  refine lv_aload_n hx hb dL_position_0 rfl (lv_at hl 2 rfl) ?_
  refine lv_iconst (v := nI 0) hx hb dL_position_1 (by decide) ?_
  refine lv_aload_n hx hb dL_position_2 rfl (lv_at hl 0 rfl) ?_
  refine lv_iload_n hx hb dL_position_3 rfl (lv_at hl 1 rfl) ?_
  refine x_callVL (q := 0) (C := RX10) (As := [.int a1]) (rest := [.int (nI 0), .ref (α 191)]) ⟨hx, hb, hml, hown, hts⟩ (hM _) (cwV 1 hts gL_position_X10_position rfl rfl rfl (by decide +kernel) ⟨Nat.le_of_ble_eq_true rfl, Nat.le_of_ble_eq_true rfl⟩) hK hw hAw (ws_recv hK hw (q := 0) (Nat.le_of_ble_eq_true rfl) (mk_0 cA α) rfl) rfl hl.1 rfl (Nat.le_of_ble_eq_true rfl) dL_position_4 ⟨Nat.zero_le _, Nat.zero_le _⟩ (fun S1 eS1 H locs hw => ?_)
  refine x_last (x := v) hx hb hK hw 191 1 (Nat.le_of_ble_eq_true rfl) (mk_191 cA α) 0 rfl (by decide) (by decide) dL_position_7 (fun S2 eS2 H locs hw => ?_)
  refine lv_goto (tgt := 14) hx hb dL_position_8 (by decide) ?_
  refine lv_iconst (v := nI 0) hx hb dL_position_14 (by decide) ?_
  exact ret_h hx hb hr hlocks hK hw dL_position_15 (by decide) (by decide) rfl (by rw [eS2, eS1])

set_option maxRecDepth 100000 in
set_option maxHeartbeats 1000000 in
theorem hX_position_IO (l : Launch) (sa ka va : Nat → Nat) (D : va_G) (cA : Nat → ClassId) (α : Nat → Nat) (sz : Nat) (S : Mem) (a1 : Int32) (hM : ∀ z, CtX sa l yX10_position wsX10_position ({ frames := 7, cells := 1, slots := 6, locals := 121 }) D cA α 193 z [.ref (α 0), .int a1] S eIO) : CtH sa ka va l yL_position wsL_position ({ frames := 8, cells := 1, slots := 6, locals := 142 }) D cA α 193 sz [.ref (α 0), .int a1, .ref (α 191)] S (nI 1) S := by
  refine cth_enter cL_position 4 (some .int) (by decide) rfl (Nat.le_of_ble_eq_true rfl) ?_
  intro p e s m below meth c hx hb hr hml hlocks hown hts hK hsz hw hV ht ls hl
  have hown : s.vm.findClass RL = some m.cls := hown
  have hAw : ∀ z, Aw α 193 s.heap.size z → Aw α 193 sz z := by rw [hsz]; exact fun _ h => h
  have hl : lv_has ls 4 [(0, .ref (α 0)), (1, .int a1), (2, .ref (α 191))] := hl
  refine lv_aload_n hx hb dL_position_0 rfl (lv_at hl 2 rfl) ?_
  refine lv_iconst (v := nI 0) hx hb dL_position_1 (by decide) ?_
  refine lv_aload_n hx hb dL_position_2 rfl (lv_at hl 0 rfl) ?_
  refine lv_iload_n hx hb dL_position_3 rfl (lv_at hl 1 rfl) ?_
  refine x_callXC (q := 0) (C := RX10) (As := [.int a1]) (rest := [.int (nI 0), .ref (α 191)]) ⟨hx, hb, hml, hown, hts⟩ (hM _) (cwV 1 hts gL_position_X10_position rfl rfl rfl (by decide +kernel) ⟨Nat.le_of_ble_eq_true rfl, Nat.le_of_ble_eq_true rfl⟩) hK hw hsz hV (ws_recv hK hw (q := 0) (Nat.le_of_ble_eq_true rfl) (mk_0 cA α) rfl) rfl hl.1 rfl (Nat.le_of_ble_eq_true rfl) dL_position_4 ⟨Nat.le_of_ble_eq_true rfl, Nat.le_of_ble_eq_true rfl⟩ [] ⟨0, 8, 11, 21⟩ [] (ht.trans rfl) (fun z hz => by exact absurd hz List.not_mem_nil) (by decide) (by decide) (hts _ (List.mem_of_getElem? (i := 1) rfl)) (List.mem_of_getElem? (i := 0) rfl) (fun q9 H locs hw => ?_)
  refine lv_astore_n (lv' := [(3, .ref q9), (0, .ref (α 0)), (1, .int a1), (2, .ref (α 191))]) hx hb dL_position_11 rfl hl (by decide) rfl (fun ls hl => ?_)
  refine lv_iconst (v := nI 1) hx hb dL_position_12 (by decide) ?_
  exact ret_h hx hb hr hlocks hK hw dL_position_13 (by decide) (by decide) rfl rfl

set_option maxRecDepth 100000 in
set_option maxHeartbeats 1000000 in
theorem hN_settledPosition (l : Launch) (sa ka va : Nat → Nat) (D : va_G) (cA : Nat → ClassId) (α : Nat → Nat) (sz : Nat) (S : Mem) (a1 : Int32) (v : Int64) (fS : Mem) (hM : ∀ z, CtL l yX10_settledPosition wsX10_settledPosition ({ frames := 7, cells := 0, slots := 0, locals := 121 }) D cA α 193 z [.ref (α 0), .int a1] S v fS) : CtH sa ka va l yL_settledPosition wsL_settledPosition ({ frames := 8, cells := 1, slots := 6, locals := 142 }) D cA α 193 sz [.ref (α 0), .int a1, .ref (α 191)] S (nI 0) (setJ fS 191 0 v) := by
  refine cth_enter cL_settledPosition 4 (some .int) (by decide) rfl (Nat.le_of_ble_eq_true rfl) ?_
  intro p e s m below meth c hx hb hr hml hlocks hown hts hK hsz hw hV ht ls hl
  have hown : s.vm.findClass RL = some m.cls := hown
  have hAw : ∀ z, Aw α 193 s.heap.size z → Aw α 193 sz z := by rw [hsz]; exact fun _ h => h
  have hl : lv_has ls 4 [(0, .ref (α 0)), (1, .int a1), (2, .ref (α 191))] := hl
  refine lv_aload_n hx hb dL_settledPosition_0 rfl (lv_at hl 2 rfl) ?_
  refine lv_iconst (v := nI 0) hx hb dL_settledPosition_1 (by decide) ?_
  refine lv_aload_n hx hb dL_settledPosition_2 rfl (lv_at hl 0 rfl) ?_
  refine lv_iload_n hx hb dL_settledPosition_3 rfl (lv_at hl 1 rfl) ?_
  refine x_callVL (q := 0) (C := RX10) (As := [.int a1]) (rest := [.int (nI 0), .ref (α 191)]) ⟨hx, hb, hml, hown, hts⟩ (hM _) (cwV 1 hts gL_settledPosition_X10_settledPosition rfl rfl rfl (by decide +kernel) ⟨Nat.le_of_ble_eq_true rfl, Nat.le_of_ble_eq_true rfl⟩) hK hw hAw (ws_recv hK hw (q := 0) (Nat.le_of_ble_eq_true rfl) (mk_0 cA α) rfl) rfl hl.1 rfl (Nat.le_of_ble_eq_true rfl) dL_settledPosition_4 ⟨Nat.zero_le _, Nat.zero_le _⟩ (fun S1 eS1 H locs hw => ?_)
  refine x_last (x := v) hx hb hK hw 191 1 (Nat.le_of_ble_eq_true rfl) (mk_191 cA α) 0 rfl (by decide) (by decide) dL_settledPosition_7 (fun S2 eS2 H locs hw => ?_)
  refine lv_goto (tgt := 14) hx hb dL_settledPosition_8 (by decide) ?_
  refine lv_iconst (v := nI 0) hx hb dL_settledPosition_14 (by decide) ?_
  exact ret_h hx hb hr hlocks hK hw dL_settledPosition_15 (by decide) (by decide) rfl (by rw [eS2, eS1])

set_option maxRecDepth 100000 in
set_option maxHeartbeats 1000000 in
theorem hX_settledPosition_IO (l : Launch) (sa ka va : Nat → Nat) (D : va_G) (cA : Nat → ClassId) (α : Nat → Nat) (sz : Nat) (S : Mem) (a1 : Int32) (hM : ∀ z, CtX sa l yX10_settledPosition wsX10_settledPosition ({ frames := 7, cells := 1, slots := 6, locals := 121 }) D cA α 193 z [.ref (α 0), .int a1] S eIO) : CtH sa ka va l yL_settledPosition wsL_settledPosition ({ frames := 8, cells := 1, slots := 6, locals := 142 }) D cA α 193 sz [.ref (α 0), .int a1, .ref (α 191)] S (nI 1) S := by
  refine cth_enter cL_settledPosition 4 (some .int) (by decide) rfl (Nat.le_of_ble_eq_true rfl) ?_
  intro p e s m below meth c hx hb hr hml hlocks hown hts hK hsz hw hV ht ls hl
  have hown : s.vm.findClass RL = some m.cls := hown
  have hAw : ∀ z, Aw α 193 s.heap.size z → Aw α 193 sz z := by rw [hsz]; exact fun _ h => h
  have hl : lv_has ls 4 [(0, .ref (α 0)), (1, .int a1), (2, .ref (α 191))] := hl
  refine lv_aload_n hx hb dL_settledPosition_0 rfl (lv_at hl 2 rfl) ?_
  refine lv_iconst (v := nI 0) hx hb dL_settledPosition_1 (by decide) ?_
  refine lv_aload_n hx hb dL_settledPosition_2 rfl (lv_at hl 0 rfl) ?_
  refine lv_iload_n hx hb dL_settledPosition_3 rfl (lv_at hl 1 rfl) ?_
  refine x_callXC (q := 0) (C := RX10) (As := [.int a1]) (rest := [.int (nI 0), .ref (α 191)]) ⟨hx, hb, hml, hown, hts⟩ (hM _) (cwV 1 hts gL_settledPosition_X10_settledPosition rfl rfl rfl (by decide +kernel) ⟨Nat.le_of_ble_eq_true rfl, Nat.le_of_ble_eq_true rfl⟩) hK hw hsz hV (ws_recv hK hw (q := 0) (Nat.le_of_ble_eq_true rfl) (mk_0 cA α) rfl) rfl hl.1 rfl (Nat.le_of_ble_eq_true rfl) dL_settledPosition_4 ⟨Nat.le_of_ble_eq_true rfl, Nat.le_of_ble_eq_true rfl⟩ [] ⟨0, 8, 11, 21⟩ [] (ht.trans rfl) (fun z hz => by exact absurd hz List.not_mem_nil) (by decide) (by decide) (hts _ (List.mem_of_getElem? (i := 1) rfl)) (List.mem_of_getElem? (i := 0) rfl) (fun q9 H locs hw => ?_)
  refine lv_astore_n (lv' := [(3, .ref q9), (0, .ref (α 0)), (1, .int a1), (2, .ref (α 191))]) hx hb dL_settledPosition_11 rfl hl (by decide) rfl (fun ls hl => ?_)
  refine lv_iconst (v := nI 1) hx hb dL_settledPosition_12 (by decide) ?_
  exact ret_h hx hb hr hlocks hK hw dL_settledPosition_13 (by decide) (by decide) rfl rfl

set_option maxRecDepth 100000 in
set_option maxHeartbeats 1000000 in
theorem hN_stock (l : Launch) (sa ka va : Nat → Nat) (D : va_G) (cA : Nat → ClassId) (α : Nat → Nat) (sz : Nat) (S : Mem) (a1 a2 : Int32) (v : Int32) (fS : Mem) (hM : ∀ z, CtI l yX10_stock wsX10_stock ({ frames := 7, cells := 0, slots := 0, locals := 121 }) D cA α 193 z [.ref (α 0), .int a1, .int a2] S v fS) : CtH sa ka va l yL_stock wsL_stock ({ frames := 8, cells := 1, slots := 6, locals := 143 }) D cA α 193 sz [.ref (α 0), .int a1, .int a2, .ref (α 191)] S (nI 0) (setJ fS 191 0 v.toInt64) := by
  refine cth_enter cL_stock 5 (some .int) (by decide) rfl (Nat.le_of_ble_eq_true rfl) ?_
  intro p e s m below meth c hx hb hr hml hlocks hown hts hK hsz hw hV ht ls hl
  have hown : s.vm.findClass RL = some m.cls := hown
  have hAw : ∀ z, Aw α 193 s.heap.size z → Aw α 193 sz z := by rw [hsz]; exact fun _ h => h
  have hl : lv_has ls 5 [(0, .ref (α 0)), (1, .int a1), (2, .int a2), (3, .ref (α 191))] := hl
  refine lv_aload_n hx hb dL_stock_0 rfl (lv_at hl 3 rfl) ?_
  refine lv_iconst (v := nI 0) hx hb dL_stock_1 (by decide) ?_
  refine lv_aload_n hx hb dL_stock_2 rfl (lv_at hl 0 rfl) ?_
  refine lv_iload_n hx hb dL_stock_3 rfl (lv_at hl 1 rfl) ?_
  refine lv_iload_n hx hb dL_stock_4 rfl (lv_at hl 2 rfl) ?_
  refine x_callVI (q := 0) (C := RX10) (As := [.int a1, .int a2]) (rest := [.int (nI 0), .ref (α 191)]) ⟨hx, hb, hml, hown, hts⟩ (hM _) (cwV 2 hts gL_stock_X10_stock rfl rfl rfl (by decide +kernel) ⟨Nat.le_of_ble_eq_true rfl, Nat.le_of_ble_eq_true rfl⟩) hK hw hAw (ws_recv hK hw (q := 0) (Nat.le_of_ble_eq_true rfl) (mk_0 cA α) rfl) rfl hl.1 rfl (Nat.le_of_ble_eq_true rfl) dL_stock_5 ⟨Nat.zero_le _, Nat.zero_le _⟩ (fun S1 eS1 H locs hw => ?_)
  refine lv_i2l hx hb dL_stock_8 rfl ?_
  refine x_last (x := v.toInt64) hx hb hK hw 191 1 (Nat.le_of_ble_eq_true rfl) (mk_191 cA α) 0 rfl (by decide) (by decide) dL_stock_9 (fun S2 eS2 H locs hw => ?_)
  refine lv_goto (tgt := 17) hx hb dL_stock_10 (by decide) ?_
  refine lv_iconst (v := nI 0) hx hb dL_stock_17 (by decide) ?_
  exact ret_h hx hb hr hlocks hK hw dL_stock_18 (by decide) (by decide) rfl (by rw [eS2, eS1])

set_option maxRecDepth 100000 in
set_option maxHeartbeats 1000000 in
theorem hX_stock_IO (l : Launch) (sa ka va : Nat → Nat) (D : va_G) (cA : Nat → ClassId) (α : Nat → Nat) (sz : Nat) (S : Mem) (a1 a2 : Int32) (hM : ∀ z, CtX sa l yX10_stock wsX10_stock ({ frames := 7, cells := 1, slots := 6, locals := 121 }) D cA α 193 z [.ref (α 0), .int a1, .int a2] S eIO) : CtH sa ka va l yL_stock wsL_stock ({ frames := 8, cells := 1, slots := 6, locals := 143 }) D cA α 193 sz [.ref (α 0), .int a1, .int a2, .ref (α 191)] S (nI 1) S := by
  refine cth_enter cL_stock 5 (some .int) (by decide) rfl (Nat.le_of_ble_eq_true rfl) ?_
  intro p e s m below meth c hx hb hr hml hlocks hown hts hK hsz hw hV ht ls hl
  have hown : s.vm.findClass RL = some m.cls := hown
  have hAw : ∀ z, Aw α 193 s.heap.size z → Aw α 193 sz z := by rw [hsz]; exact fun _ h => h
  have hl : lv_has ls 5 [(0, .ref (α 0)), (1, .int a1), (2, .int a2), (3, .ref (α 191))] := hl
  refine lv_aload_n hx hb dL_stock_0 rfl (lv_at hl 3 rfl) ?_
  refine lv_iconst (v := nI 0) hx hb dL_stock_1 (by decide) ?_
  refine lv_aload_n hx hb dL_stock_2 rfl (lv_at hl 0 rfl) ?_
  refine lv_iload_n hx hb dL_stock_3 rfl (lv_at hl 1 rfl) ?_
  refine lv_iload_n hx hb dL_stock_4 rfl (lv_at hl 2 rfl) ?_
  refine x_callXC (q := 0) (C := RX10) (As := [.int a1, .int a2]) (rest := [.int (nI 0), .ref (α 191)]) ⟨hx, hb, hml, hown, hts⟩ (hM _) (cwV 2 hts gL_stock_X10_stock rfl rfl rfl (by decide +kernel) ⟨Nat.le_of_ble_eq_true rfl, Nat.le_of_ble_eq_true rfl⟩) hK hw hsz hV (ws_recv hK hw (q := 0) (Nat.le_of_ble_eq_true rfl) (mk_0 cA α) rfl) rfl hl.1 rfl (Nat.le_of_ble_eq_true rfl) dL_stock_5 ⟨Nat.le_of_ble_eq_true rfl, Nat.le_of_ble_eq_true rfl⟩ [] ⟨0, 10, 13, 21⟩ [] (ht.trans rfl) (fun z hz => by exact absurd hz List.not_mem_nil) (by decide) (by decide) (hts _ (List.mem_of_getElem? (i := 1) rfl)) (List.mem_of_getElem? (i := 0) rfl) (fun q9 H locs hw => ?_)
  refine lv_astore (lv' := [(4, .ref q9), (0, .ref (α 0)), (1, .int a1), (2, .int a2), (3, .ref (α 191))]) hx hb dL_stock_13 hl (by decide) rfl (fun ls hl => ?_)
  refine lv_iconst (v := nI 1) hx hb dL_stock_15 (by decide) ?_
  exact ret_h hx hb hr hlocks hK hw dL_stock_16 (by decide) (by decide) rfl rfl

set_option maxRecDepth 100000 in
set_option maxHeartbeats 1000000 in
theorem hN_oldestPrice (l : Launch) (sa ka va : Nat → Nat) (D : va_G) (cA : Nat → ClassId) (α : Nat → Nat) (sz : Nat) (S : Mem) (a1 a2 : Int32) (v : Int32) (fS : Mem) (hM : ∀ z, CtI l yX10_oldestPrice wsX10_oldestPrice ({ frames := 7, cells := 0, slots := 0, locals := 121 }) D cA α 193 z [.ref (α 0), .int a1, .int a2] S v fS) : CtH sa ka va l yL_oldestPrice wsL_oldestPrice ({ frames := 8, cells := 1, slots := 6, locals := 143 }) D cA α 193 sz [.ref (α 0), .int a1, .int a2, .ref (α 191)] S (nI 0) (setJ fS 191 0 v.toInt64) := by
  refine cth_enter cL_oldestPrice 5 (some .int) (by decide) rfl (Nat.le_of_ble_eq_true rfl) ?_
  intro p e s m below meth c hx hb hr hml hlocks hown hts hK hsz hw hV ht ls hl
  have hown : s.vm.findClass RL = some m.cls := hown
  have hAw : ∀ z, Aw α 193 s.heap.size z → Aw α 193 sz z := by rw [hsz]; exact fun _ h => h
  have hl : lv_has ls 5 [(0, .ref (α 0)), (1, .int a1), (2, .int a2), (3, .ref (α 191))] := hl
  refine lv_aload_n hx hb dL_oldestPrice_0 rfl (lv_at hl 3 rfl) ?_
  refine lv_iconst (v := nI 0) hx hb dL_oldestPrice_1 (by decide) ?_
  refine lv_aload_n hx hb dL_oldestPrice_2 rfl (lv_at hl 0 rfl) ?_
  refine lv_iload_n hx hb dL_oldestPrice_3 rfl (lv_at hl 1 rfl) ?_
  refine lv_iload_n hx hb dL_oldestPrice_4 rfl (lv_at hl 2 rfl) ?_
  refine x_callVI (q := 0) (C := RX10) (As := [.int a1, .int a2]) (rest := [.int (nI 0), .ref (α 191)]) ⟨hx, hb, hml, hown, hts⟩ (hM _) (cwV 2 hts gL_oldestPrice_X10_oldestPrice rfl rfl rfl (by decide +kernel) ⟨Nat.le_of_ble_eq_true rfl, Nat.le_of_ble_eq_true rfl⟩) hK hw hAw (ws_recv hK hw (q := 0) (Nat.le_of_ble_eq_true rfl) (mk_0 cA α) rfl) rfl hl.1 rfl (Nat.le_of_ble_eq_true rfl) dL_oldestPrice_5 ⟨Nat.zero_le _, Nat.zero_le _⟩ (fun S1 eS1 H locs hw => ?_)
  refine lv_i2l hx hb dL_oldestPrice_8 rfl ?_
  refine x_last (x := v.toInt64) hx hb hK hw 191 1 (Nat.le_of_ble_eq_true rfl) (mk_191 cA α) 0 rfl (by decide) (by decide) dL_oldestPrice_9 (fun S2 eS2 H locs hw => ?_)
  refine lv_goto (tgt := 17) hx hb dL_oldestPrice_10 (by decide) ?_
  refine lv_iconst (v := nI 0) hx hb dL_oldestPrice_17 (by decide) ?_
  exact ret_h hx hb hr hlocks hK hw dL_oldestPrice_18 (by decide) (by decide) rfl (by rw [eS2, eS1])

set_option maxRecDepth 100000 in
set_option maxHeartbeats 1000000 in
theorem hX_oldestPrice_IO (l : Launch) (sa ka va : Nat → Nat) (D : va_G) (cA : Nat → ClassId) (α : Nat → Nat) (sz : Nat) (S : Mem) (a1 a2 : Int32) (hM : ∀ z, CtX sa l yX10_oldestPrice wsX10_oldestPrice ({ frames := 7, cells := 1, slots := 6, locals := 121 }) D cA α 193 z [.ref (α 0), .int a1, .int a2] S eIO) : CtH sa ka va l yL_oldestPrice wsL_oldestPrice ({ frames := 8, cells := 1, slots := 6, locals := 143 }) D cA α 193 sz [.ref (α 0), .int a1, .int a2, .ref (α 191)] S (nI 1) S := by
  refine cth_enter cL_oldestPrice 5 (some .int) (by decide) rfl (Nat.le_of_ble_eq_true rfl) ?_
  intro p e s m below meth c hx hb hr hml hlocks hown hts hK hsz hw hV ht ls hl
  have hown : s.vm.findClass RL = some m.cls := hown
  have hAw : ∀ z, Aw α 193 s.heap.size z → Aw α 193 sz z := by rw [hsz]; exact fun _ h => h
  have hl : lv_has ls 5 [(0, .ref (α 0)), (1, .int a1), (2, .int a2), (3, .ref (α 191))] := hl
  refine lv_aload_n hx hb dL_oldestPrice_0 rfl (lv_at hl 3 rfl) ?_
  refine lv_iconst (v := nI 0) hx hb dL_oldestPrice_1 (by decide) ?_
  refine lv_aload_n hx hb dL_oldestPrice_2 rfl (lv_at hl 0 rfl) ?_
  refine lv_iload_n hx hb dL_oldestPrice_3 rfl (lv_at hl 1 rfl) ?_
  refine lv_iload_n hx hb dL_oldestPrice_4 rfl (lv_at hl 2 rfl) ?_
  refine x_callXC (q := 0) (C := RX10) (As := [.int a1, .int a2]) (rest := [.int (nI 0), .ref (α 191)]) ⟨hx, hb, hml, hown, hts⟩ (hM _) (cwV 2 hts gL_oldestPrice_X10_oldestPrice rfl rfl rfl (by decide +kernel) ⟨Nat.le_of_ble_eq_true rfl, Nat.le_of_ble_eq_true rfl⟩) hK hw hsz hV (ws_recv hK hw (q := 0) (Nat.le_of_ble_eq_true rfl) (mk_0 cA α) rfl) rfl hl.1 rfl (Nat.le_of_ble_eq_true rfl) dL_oldestPrice_5 ⟨Nat.le_of_ble_eq_true rfl, Nat.le_of_ble_eq_true rfl⟩ [] ⟨0, 10, 13, 21⟩ [] (ht.trans rfl) (fun z hz => by exact absurd hz List.not_mem_nil) (by decide) (by decide) (hts _ (List.mem_of_getElem? (i := 1) rfl)) (List.mem_of_getElem? (i := 0) rfl) (fun q9 H locs hw => ?_)
  refine lv_astore (lv' := [(4, .ref q9), (0, .ref (α 0)), (1, .int a1), (2, .int a2), (3, .ref (α 191))]) hx hb dL_oldestPrice_13 hl (by decide) rfl (fun ls hl => ?_)
  refine lv_iconst (v := nI 1) hx hb dL_oldestPrice_15 (by decide) ?_
  exact ret_h hx hb hr hlocks hK hw dL_oldestPrice_16 (by decide) (by decide) rfl rfl

set_option maxRecDepth 100000 in
set_option maxHeartbeats 1000000 in
theorem hN_unrealized (l : Launch) (sa ka va : Nat → Nat) (D : va_G) (cA : Nat → ClassId) (α : Nat → Nat) (sz : Nat) (S : Mem) (a1 : Int32) (v : Int64) (fS : Mem) (hM : ∀ z, CtL l yX10_unrealized wsX10_unrealized ({ frames := 7, cells := 0, slots := 0, locals := 121 }) D cA α 193 z [.ref (α 0), .int a1] S v fS) : CtH sa ka va l yL_unrealized wsL_unrealized ({ frames := 8, cells := 1, slots := 6, locals := 142 }) D cA α 193 sz [.ref (α 0), .int a1, .ref (α 191)] S (nI 0) (setJ fS 191 0 v) := by
  refine cth_enter cL_unrealized 4 (some .int) (by decide) rfl (Nat.le_of_ble_eq_true rfl) ?_
  intro p e s m below meth c hx hb hr hml hlocks hown hts hK hsz hw hV ht ls hl
  have hown : s.vm.findClass RL = some m.cls := hown
  have hAw : ∀ z, Aw α 193 s.heap.size z → Aw α 193 sz z := by rw [hsz]; exact fun _ h => h
  have hl : lv_has ls 4 [(0, .ref (α 0)), (1, .int a1), (2, .ref (α 191))] := hl
  refine lv_aload_n hx hb dL_unrealized_0 rfl (lv_at hl 2 rfl) ?_
  refine lv_iconst (v := nI 0) hx hb dL_unrealized_1 (by decide) ?_
  refine lv_aload_n hx hb dL_unrealized_2 rfl (lv_at hl 0 rfl) ?_
  refine lv_iload_n hx hb dL_unrealized_3 rfl (lv_at hl 1 rfl) ?_
  refine x_callVL (q := 0) (C := RX10) (As := [.int a1]) (rest := [.int (nI 0), .ref (α 191)]) ⟨hx, hb, hml, hown, hts⟩ (hM _) (cwV 1 hts gL_unrealized_X10_unrealized rfl rfl rfl (by decide +kernel) ⟨Nat.le_of_ble_eq_true rfl, Nat.le_of_ble_eq_true rfl⟩) hK hw hAw (ws_recv hK hw (q := 0) (Nat.le_of_ble_eq_true rfl) (mk_0 cA α) rfl) rfl hl.1 rfl (Nat.le_of_ble_eq_true rfl) dL_unrealized_4 ⟨Nat.zero_le _, Nat.zero_le _⟩ (fun S1 eS1 H locs hw => ?_)
  refine x_last (x := v) hx hb hK hw 191 1 (Nat.le_of_ble_eq_true rfl) (mk_191 cA α) 0 rfl (by decide) (by decide) dL_unrealized_7 (fun S2 eS2 H locs hw => ?_)
  refine lv_goto (tgt := 14) hx hb dL_unrealized_8 (by decide) ?_
  refine lv_iconst (v := nI 0) hx hb dL_unrealized_14 (by decide) ?_
  exact ret_h hx hb hr hlocks hK hw dL_unrealized_15 (by decide) (by decide) rfl (by rw [eS2, eS1])

set_option maxRecDepth 100000 in
set_option maxHeartbeats 1000000 in
theorem hX_unrealized_IO (l : Launch) (sa ka va : Nat → Nat) (D : va_G) (cA : Nat → ClassId) (α : Nat → Nat) (sz : Nat) (S : Mem) (a1 : Int32) (hM : ∀ z, CtX sa l yX10_unrealized wsX10_unrealized ({ frames := 7, cells := 1, slots := 6, locals := 121 }) D cA α 193 z [.ref (α 0), .int a1] S eIO) : CtH sa ka va l yL_unrealized wsL_unrealized ({ frames := 8, cells := 1, slots := 6, locals := 142 }) D cA α 193 sz [.ref (α 0), .int a1, .ref (α 191)] S (nI 1) S := by
  refine cth_enter cL_unrealized 4 (some .int) (by decide) rfl (Nat.le_of_ble_eq_true rfl) ?_
  intro p e s m below meth c hx hb hr hml hlocks hown hts hK hsz hw hV ht ls hl
  have hown : s.vm.findClass RL = some m.cls := hown
  have hAw : ∀ z, Aw α 193 s.heap.size z → Aw α 193 sz z := by rw [hsz]; exact fun _ h => h
  have hl : lv_has ls 4 [(0, .ref (α 0)), (1, .int a1), (2, .ref (α 191))] := hl
  refine lv_aload_n hx hb dL_unrealized_0 rfl (lv_at hl 2 rfl) ?_
  refine lv_iconst (v := nI 0) hx hb dL_unrealized_1 (by decide) ?_
  refine lv_aload_n hx hb dL_unrealized_2 rfl (lv_at hl 0 rfl) ?_
  refine lv_iload_n hx hb dL_unrealized_3 rfl (lv_at hl 1 rfl) ?_
  refine x_callXC (q := 0) (C := RX10) (As := [.int a1]) (rest := [.int (nI 0), .ref (α 191)]) ⟨hx, hb, hml, hown, hts⟩ (hM _) (cwV 1 hts gL_unrealized_X10_unrealized rfl rfl rfl (by decide +kernel) ⟨Nat.le_of_ble_eq_true rfl, Nat.le_of_ble_eq_true rfl⟩) hK hw hsz hV (ws_recv hK hw (q := 0) (Nat.le_of_ble_eq_true rfl) (mk_0 cA α) rfl) rfl hl.1 rfl (Nat.le_of_ble_eq_true rfl) dL_unrealized_4 ⟨Nat.le_of_ble_eq_true rfl, Nat.le_of_ble_eq_true rfl⟩ [] ⟨0, 8, 11, 21⟩ [] (ht.trans rfl) (fun z hz => by exact absurd hz List.not_mem_nil) (by decide) (by decide) (hts _ (List.mem_of_getElem? (i := 1) rfl)) (List.mem_of_getElem? (i := 0) rfl) (fun q9 H locs hw => ?_)
  refine lv_astore_n (lv' := [(3, .ref q9), (0, .ref (α 0)), (1, .int a1), (2, .ref (α 191))]) hx hb dL_unrealized_11 rfl hl (by decide) rfl (fun ls hl => ?_)
  refine lv_iconst (v := nI 1) hx hb dL_unrealized_12 (by decide) ?_
  exact ret_h hx hb hr hlocks hK hw dL_unrealized_13 (by decide) (by decide) rfl rfl

set_option maxRecDepth 100000 in
set_option maxHeartbeats 1000000 in
theorem hN_unrealizedAfterSale (l : Launch) (sa ka va : Nat → Nat) (D : va_G) (cA : Nat → ClassId) (α : Nat → Nat) (sz : Nat) (S : Mem) (a1 a2 a3 : Int32) (v : Int64) (fS : Mem) (hM : ∀ z, CtL l yX10_unrealizedAfterSale wsX10_unrealizedAfterSale ({ frames := 7, cells := 0, slots := 0, locals := 123 }) D cA α 193 z [.ref (α 0), .int a1, .int a2, .int a3] S v fS) : CtH sa ka va l yL_unrealizedAfterSale wsL_unrealizedAfterSale ({ frames := 8, cells := 1, slots := 6, locals := 146 }) D cA α 193 sz [.ref (α 0), .int a1, .int a2, .int a3, .ref (α 191)] S (nI 0) (setJ fS 191 0 v) := by
  refine cth_enter cL_unrealizedAfterSale 6 (some .int) (by decide) rfl (Nat.le_of_ble_eq_true rfl) ?_
  intro p e s m below meth c hx hb hr hml hlocks hown hts hK hsz hw hV ht ls hl
  have hown : s.vm.findClass RL = some m.cls := hown
  have hAw : ∀ z, Aw α 193 s.heap.size z → Aw α 193 sz z := by rw [hsz]; exact fun _ h => h
  have hl : lv_has ls 6 [(0, .ref (α 0)), (1, .int a1), (2, .int a2), (3, .int a3), (4, .ref (α 191))] := hl
  refine lv_aload hx hb dL_unrealizedAfterSale_0 (lv_at hl 4 rfl) ?_
  refine lv_iconst (v := nI 0) hx hb dL_unrealizedAfterSale_2 (by decide) ?_
  refine lv_aload_n hx hb dL_unrealizedAfterSale_3 rfl (lv_at hl 0 rfl) ?_
  refine lv_iload_n hx hb dL_unrealizedAfterSale_4 rfl (lv_at hl 1 rfl) ?_
  refine lv_iload_n hx hb dL_unrealizedAfterSale_5 rfl (lv_at hl 2 rfl) ?_
  refine lv_iload_n hx hb dL_unrealizedAfterSale_6 rfl (lv_at hl 3 rfl) ?_
  refine x_callVL (q := 0) (C := RX10) (As := [.int a1, .int a2, .int a3]) (rest := [.int (nI 0), .ref (α 191)]) ⟨hx, hb, hml, hown, hts⟩ (hM _) (cwV 3 hts gL_unrealizedAfterSale_X10_unrealizedAfterSale rfl rfl rfl (by decide +kernel) ⟨Nat.le_of_ble_eq_true rfl, Nat.le_of_ble_eq_true rfl⟩) hK hw hAw (ws_recv hK hw (q := 0) (Nat.le_of_ble_eq_true rfl) (mk_0 cA α) rfl) rfl hl.1 rfl (Nat.le_of_ble_eq_true rfl) dL_unrealizedAfterSale_7 ⟨Nat.zero_le _, Nat.zero_le _⟩ (fun S1 eS1 H locs hw => ?_)
  refine x_last (x := v) hx hb hK hw 191 1 (Nat.le_of_ble_eq_true rfl) (mk_191 cA α) 0 rfl (by decide) (by decide) dL_unrealizedAfterSale_10 (fun S2 eS2 H locs hw => ?_)
  refine lv_goto (tgt := 26) hx hb dL_unrealizedAfterSale_11 (by decide) ?_
  refine lv_iconst (v := nI 0) hx hb dL_unrealizedAfterSale_26 (by decide) ?_
  exact ret_h hx hb hr hlocks hK hw dL_unrealizedAfterSale_27 (by decide) (by decide) rfl (by rw [eS2, eS1])

set_option maxRecDepth 100000 in
set_option maxHeartbeats 1000000 in
theorem hX_unrealizedAfterSale_IO (l : Launch) (sa ka va : Nat → Nat) (D : va_G) (cA : Nat → ClassId) (α : Nat → Nat) (sz : Nat) (S : Mem) (a1 a2 a3 : Int32) (hM : ∀ z, CtX sa l yX10_unrealizedAfterSale wsX10_unrealizedAfterSale ({ frames := 7, cells := 1, slots := 6, locals := 123 }) D cA α 193 z [.ref (α 0), .int a1, .int a2, .int a3] S eIO) : CtH sa ka va l yL_unrealizedAfterSale wsL_unrealizedAfterSale ({ frames := 8, cells := 1, slots := 6, locals := 146 }) D cA α 193 sz [.ref (α 0), .int a1, .int a2, .int a3, .ref (α 191)] S (nI 1) S := by
  refine cth_enter cL_unrealizedAfterSale 6 (some .int) (by decide) rfl (Nat.le_of_ble_eq_true rfl) ?_
  intro p e s m below meth c hx hb hr hml hlocks hown hts hK hsz hw hV ht ls hl
  have hown : s.vm.findClass RL = some m.cls := hown
  have hAw : ∀ z, Aw α 193 s.heap.size z → Aw α 193 sz z := by rw [hsz]; exact fun _ h => h
  have hl : lv_has ls 6 [(0, .ref (α 0)), (1, .int a1), (2, .int a2), (3, .int a3), (4, .ref (α 191))] := hl
  refine lv_aload hx hb dL_unrealizedAfterSale_0 (lv_at hl 4 rfl) ?_
  refine lv_iconst (v := nI 0) hx hb dL_unrealizedAfterSale_2 (by decide) ?_
  refine lv_aload_n hx hb dL_unrealizedAfterSale_3 rfl (lv_at hl 0 rfl) ?_
  refine lv_iload_n hx hb dL_unrealizedAfterSale_4 rfl (lv_at hl 1 rfl) ?_
  refine lv_iload_n hx hb dL_unrealizedAfterSale_5 rfl (lv_at hl 2 rfl) ?_
  refine lv_iload_n hx hb dL_unrealizedAfterSale_6 rfl (lv_at hl 3 rfl) ?_
  refine x_callXC (q := 0) (C := RX10) (As := [.int a1, .int a2, .int a3]) (rest := [.int (nI 0), .ref (α 191)]) ⟨hx, hb, hml, hown, hts⟩ (hM _) (cwV 3 hts gL_unrealizedAfterSale_X10_unrealizedAfterSale rfl rfl rfl (by decide +kernel) ⟨Nat.le_of_ble_eq_true rfl, Nat.le_of_ble_eq_true rfl⟩) hK hw hsz hV (ws_recv hK hw (q := 0) (Nat.le_of_ble_eq_true rfl) (mk_0 cA α) rfl) rfl hl.1 rfl (Nat.le_of_ble_eq_true rfl) dL_unrealizedAfterSale_7 ⟨Nat.le_of_ble_eq_true rfl, Nat.le_of_ble_eq_true rfl⟩ [] ⟨0, 11, 14, 21⟩ [⟨0, 11, 18, 13⟩, ⟨0, 11, 22, 46⟩] (ht.trans rfl) (fun z hz => by exact absurd hz List.not_mem_nil) (by decide) (by decide) (hts _ (List.mem_of_getElem? (i := 1) rfl)) (List.mem_of_getElem? (i := 0) rfl) (fun q9 H locs hw => ?_)
  refine lv_astore (lv' := [(5, .ref q9), (0, .ref (α 0)), (1, .int a1), (2, .int a2), (3, .int a3), (4, .ref (α 191))]) hx hb dL_unrealizedAfterSale_14 hl (by decide) rfl (fun ls hl => ?_)
  refine lv_iconst (v := nI 1) hx hb dL_unrealizedAfterSale_16 (by decide) ?_
  exact ret_h hx hb hr hlocks hK hw dL_unrealizedAfterSale_17 (by decide) (by decide) rfl rfl

set_option maxRecDepth 100000 in
set_option maxHeartbeats 1000000 in
theorem hX_unrealizedAfterSale_IA (l : Launch) (sa ka va : Nat → Nat) (D : va_G) (cA : Nat → ClassId) (α : Nat → Nat) (sz : Nat) (S : Mem) (a1 a2 a3 : Int32) (hM : ∀ z, CtX sa l yX10_unrealizedAfterSale wsX10_unrealizedAfterSale ({ frames := 7, cells := 1, slots := 6, locals := 123 }) D cA α 193 z [.ref (α 0), .int a1, .int a2, .int a3] S eIA) : CtH sa ka va l yL_unrealizedAfterSale wsL_unrealizedAfterSale ({ frames := 8, cells := 1, slots := 6, locals := 146 }) D cA α 193 sz [.ref (α 0), .int a1, .int a2, .int a3, .ref (α 191)] S (nI 2) S := by
  refine cth_enter cL_unrealizedAfterSale 6 (some .int) (by decide) rfl (Nat.le_of_ble_eq_true rfl) ?_
  intro p e s m below meth c hx hb hr hml hlocks hown hts hK hsz hw hV ht ls hl
  have hown : s.vm.findClass RL = some m.cls := hown
  have hAw : ∀ z, Aw α 193 s.heap.size z → Aw α 193 sz z := by rw [hsz]; exact fun _ h => h
  have hl : lv_has ls 6 [(0, .ref (α 0)), (1, .int a1), (2, .int a2), (3, .int a3), (4, .ref (α 191))] := hl
  refine lv_aload hx hb dL_unrealizedAfterSale_0 (lv_at hl 4 rfl) ?_
  refine lv_iconst (v := nI 0) hx hb dL_unrealizedAfterSale_2 (by decide) ?_
  refine lv_aload_n hx hb dL_unrealizedAfterSale_3 rfl (lv_at hl 0 rfl) ?_
  refine lv_iload_n hx hb dL_unrealizedAfterSale_4 rfl (lv_at hl 1 rfl) ?_
  refine lv_iload_n hx hb dL_unrealizedAfterSale_5 rfl (lv_at hl 2 rfl) ?_
  refine lv_iload_n hx hb dL_unrealizedAfterSale_6 rfl (lv_at hl 3 rfl) ?_
  refine x_callXC (q := 0) (C := RX10) (As := [.int a1, .int a2, .int a3]) (rest := [.int (nI 0), .ref (α 191)]) ⟨hx, hb, hml, hown, hts⟩ (hM _) (cwV 3 hts gL_unrealizedAfterSale_X10_unrealizedAfterSale rfl rfl rfl (by decide +kernel) ⟨Nat.le_of_ble_eq_true rfl, Nat.le_of_ble_eq_true rfl⟩) hK hw hsz hV (ws_recv hK hw (q := 0) (Nat.le_of_ble_eq_true rfl) (mk_0 cA α) rfl) rfl hl.1 rfl (Nat.le_of_ble_eq_true rfl) dL_unrealizedAfterSale_7 ⟨Nat.le_of_ble_eq_true rfl, Nat.le_of_ble_eq_true rfl⟩ [⟨0, 11, 14, 21⟩] ⟨0, 11, 18, 13⟩ [⟨0, 11, 22, 46⟩] (ht.trans rfl) (fun z hz => by rcases List.mem_cons.mp hz with rfl | hz; exact Or.inr ⟨by decide, _, (hts _ (List.mem_of_getElem? (i := 1) rfl)), hV.2.2.2.1⟩; exact absurd hz List.not_mem_nil) (by decide) (by decide) (hts _ (List.mem_of_getElem? (i := 2) rfl)) (List.mem_of_getElem? (i := 1) rfl) (fun q9 H locs hw => ?_)
  refine lv_astore (lv' := [(5, .ref q9), (0, .ref (α 0)), (1, .int a1), (2, .int a2), (3, .int a3), (4, .ref (α 191))]) hx hb dL_unrealizedAfterSale_18 hl (by decide) rfl (fun ls hl => ?_)
  refine lv_iconst (v := nI 2) hx hb dL_unrealizedAfterSale_20 (by decide) ?_
  exact ret_h hx hb hr hlocks hK hw dL_unrealizedAfterSale_21 (by decide) (by decide) rfl rfl

set_option maxRecDepth 100000 in
set_option maxHeartbeats 1000000 in
theorem hX_unrealizedAfterSale_IS (l : Launch) (sa ka va : Nat → Nat) (D : va_G) (cA : Nat → ClassId) (α : Nat → Nat) (sz : Nat) (S : Mem) (a1 a2 a3 : Int32) (hM : ∀ z, CtX sa l yX10_unrealizedAfterSale wsX10_unrealizedAfterSale ({ frames := 7, cells := 1, slots := 6, locals := 123 }) D cA α 193 z [.ref (α 0), .int a1, .int a2, .int a3] S eIS) : CtH sa ka va l yL_unrealizedAfterSale wsL_unrealizedAfterSale ({ frames := 8, cells := 1, slots := 6, locals := 146 }) D cA α 193 sz [.ref (α 0), .int a1, .int a2, .int a3, .ref (α 191)] S (nI 3) S := by
  refine cth_enter cL_unrealizedAfterSale 6 (some .int) (by decide) rfl (Nat.le_of_ble_eq_true rfl) ?_
  intro p e s m below meth c hx hb hr hml hlocks hown hts hK hsz hw hV ht ls hl
  have hown : s.vm.findClass RL = some m.cls := hown
  have hAw : ∀ z, Aw α 193 s.heap.size z → Aw α 193 sz z := by rw [hsz]; exact fun _ h => h
  have hl : lv_has ls 6 [(0, .ref (α 0)), (1, .int a1), (2, .int a2), (3, .int a3), (4, .ref (α 191))] := hl
  refine lv_aload hx hb dL_unrealizedAfterSale_0 (lv_at hl 4 rfl) ?_
  refine lv_iconst (v := nI 0) hx hb dL_unrealizedAfterSale_2 (by decide) ?_
  refine lv_aload_n hx hb dL_unrealizedAfterSale_3 rfl (lv_at hl 0 rfl) ?_
  refine lv_iload_n hx hb dL_unrealizedAfterSale_4 rfl (lv_at hl 1 rfl) ?_
  refine lv_iload_n hx hb dL_unrealizedAfterSale_5 rfl (lv_at hl 2 rfl) ?_
  refine lv_iload_n hx hb dL_unrealizedAfterSale_6 rfl (lv_at hl 3 rfl) ?_
  refine x_callXC (q := 0) (C := RX10) (As := [.int a1, .int a2, .int a3]) (rest := [.int (nI 0), .ref (α 191)]) ⟨hx, hb, hml, hown, hts⟩ (hM _) (cwV 3 hts gL_unrealizedAfterSale_X10_unrealizedAfterSale rfl rfl rfl (by decide +kernel) ⟨Nat.le_of_ble_eq_true rfl, Nat.le_of_ble_eq_true rfl⟩) hK hw hsz hV (ws_recv hK hw (q := 0) (Nat.le_of_ble_eq_true rfl) (mk_0 cA α) rfl) rfl hl.1 rfl (Nat.le_of_ble_eq_true rfl) dL_unrealizedAfterSale_7 ⟨Nat.le_of_ble_eq_true rfl, Nat.le_of_ble_eq_true rfl⟩ [⟨0, 11, 14, 21⟩, ⟨0, 11, 18, 13⟩] ⟨0, 11, 22, 46⟩ [] (ht.trans rfl) (fun z hz => by rcases List.mem_cons.mp hz with rfl | hz; exact Or.inr ⟨by decide, _, (hts _ (List.mem_of_getElem? (i := 1) rfl)), hV.2.2.2.2.1⟩; rcases List.mem_cons.mp hz with rfl | hz; exact Or.inr ⟨by decide, _, (hts _ (List.mem_of_getElem? (i := 2) rfl)), hV.2.2.2.2.2⟩; exact absurd hz List.not_mem_nil) (by decide) (by decide) (hts _ (List.mem_of_getElem? (i := 3) rfl)) (List.mem_of_getElem? (i := 2) rfl) (fun q9 H locs hw => ?_)
  refine lv_astore (lv' := [(5, .ref q9), (0, .ref (α 0)), (1, .int a1), (2, .int a2), (3, .int a3), (4, .ref (α 191))]) hx hb dL_unrealizedAfterSale_22 hl (by decide) rfl (fun ls hl => ?_)
  refine lv_iconst (v := nI 3) hx hb dL_unrealizedAfterSale_24 (by decide) ?_
  exact ret_h hx hb hr hlocks hK hw dL_unrealizedAfterSale_25 (by decide) (by decide) rfl rfl

set_option maxRecDepth 100000 in
set_option maxHeartbeats 1000000 in
theorem hN_averageMargin (l : Launch) (sa ka va : Nat → Nat) (D : va_G) (cA : Nat → ClassId) (α : Nat → Nat) (sz : Nat) (S : Mem) (a1 : Int32) (v : UInt32) (fS : Mem) (hM : ∀ z, CtF l yX10_averageMargin wsX10_averageMargin ({ frames := 7, cells := 0, slots := 0, locals := 121 }) D cA α 193 z [.ref (α 0), .int a1] S v fS) (hfn : FP.Core.val32 v ≠ .nan) : CtH sa ka va l yL_averageMargin wsL_averageMargin ({ frames := 8, cells := 1, slots := 6, locals := 144 }) D cA α 193 sz [.ref (α 0), .int a1, .ref (α 192)] S (nI 0) (setJ fS 192 0 (FP.f2d v).toInt64) := by
  refine cth_enter cL_averageMargin 4 (some .int) (by decide) rfl (Nat.le_of_ble_eq_true rfl) ?_
  intro p e s m below meth c hx hb hr hml hlocks hown hts hK hsz hw hV ht ls hl
  have hown : s.vm.findClass RL = some m.cls := hown
  have hAw : ∀ z, Aw α 193 s.heap.size z → Aw α 193 sz z := by rw [hsz]; exact fun _ h => h
  have hl : lv_has ls 4 [(0, .ref (α 0)), (1, .int a1), (2, .ref (α 192))] := hl
  refine lv_aload_n hx hb dL_averageMargin_0 rfl (lv_at hl 2 rfl) ?_
  refine lv_iconst (v := nI 0) hx hb dL_averageMargin_1 (by decide) ?_
  refine lv_aload_n hx hb dL_averageMargin_2 rfl (lv_at hl 0 rfl) ?_
  refine lv_iload_n hx hb dL_averageMargin_3 rfl (lv_at hl 1 rfl) ?_
  refine x_callVF (q := 0) (C := RX10) (As := [.int a1]) (rest := [.int (nI 0), .ref (α 192)]) ⟨hx, hb, hml, hown, hts⟩ (hM _) (cwV 1 hts gL_averageMargin_X10_averageMargin rfl rfl rfl (by decide +kernel) ⟨Nat.le_of_ble_eq_true rfl, Nat.le_of_ble_eq_true rfl⟩) hK hw hAw (ws_recv hK hw (q := 0) (Nat.le_of_ble_eq_true rfl) (mk_0 cA α) rfl) rfl hl.1 rfl (Nat.le_of_ble_eq_true rfl) dL_averageMargin_4 ⟨Nat.zero_le _, Nat.zero_le _⟩ (fun S1 eS1 H locs hw => ?_)
  refine lv_f2d hx hb dL_averageMargin_7 (fl_n64 (fl_f2d hfn)) ?_
  refine x_dast hx hb hK hw (Nat.le_of_ble_eq_true rfl) dL_averageMargin_8 (fun S2 eS2 H locs hw => ?_)
  refine lv_goto (tgt := 15) hx hb dL_averageMargin_9 (by decide) ?_
  refine lv_iconst (v := nI 0) hx hb dL_averageMargin_15 (by decide) ?_
  exact ret_h hx hb hr hlocks hK hw dL_averageMargin_16 (by decide) (by decide) rfl (by rw [eS2, eS1])

set_option maxRecDepth 100000 in
set_option maxHeartbeats 1000000 in
theorem hX_averageMargin_IO (l : Launch) (sa ka va : Nat → Nat) (D : va_G) (cA : Nat → ClassId) (α : Nat → Nat) (sz : Nat) (S : Mem) (a1 : Int32) (hM : ∀ z, CtX sa l yX10_averageMargin wsX10_averageMargin ({ frames := 7, cells := 1, slots := 6, locals := 121 }) D cA α 193 z [.ref (α 0), .int a1] S eIO) : CtH sa ka va l yL_averageMargin wsL_averageMargin ({ frames := 8, cells := 1, slots := 6, locals := 144 }) D cA α 193 sz [.ref (α 0), .int a1, .ref (α 192)] S (nI 1) S := by
  refine cth_enter cL_averageMargin 4 (some .int) (by decide) rfl (Nat.le_of_ble_eq_true rfl) ?_
  intro p e s m below meth c hx hb hr hml hlocks hown hts hK hsz hw hV ht ls hl
  have hown : s.vm.findClass RL = some m.cls := hown
  have hAw : ∀ z, Aw α 193 s.heap.size z → Aw α 193 sz z := by rw [hsz]; exact fun _ h => h
  have hl : lv_has ls 4 [(0, .ref (α 0)), (1, .int a1), (2, .ref (α 192))] := hl
  refine lv_aload_n hx hb dL_averageMargin_0 rfl (lv_at hl 2 rfl) ?_
  refine lv_iconst (v := nI 0) hx hb dL_averageMargin_1 (by decide) ?_
  refine lv_aload_n hx hb dL_averageMargin_2 rfl (lv_at hl 0 rfl) ?_
  refine lv_iload_n hx hb dL_averageMargin_3 rfl (lv_at hl 1 rfl) ?_
  refine x_callXC (q := 0) (C := RX10) (As := [.int a1]) (rest := [.int (nI 0), .ref (α 192)]) ⟨hx, hb, hml, hown, hts⟩ (hM _) (cwV 1 hts gL_averageMargin_X10_averageMargin rfl rfl rfl (by decide +kernel) ⟨Nat.le_of_ble_eq_true rfl, Nat.le_of_ble_eq_true rfl⟩) hK hw hsz hV (ws_recv hK hw (q := 0) (Nat.le_of_ble_eq_true rfl) (mk_0 cA α) rfl) rfl hl.1 rfl (Nat.le_of_ble_eq_true rfl) dL_averageMargin_4 ⟨Nat.le_of_ble_eq_true rfl, Nat.le_of_ble_eq_true rfl⟩ [] ⟨0, 9, 12, 21⟩ [] (ht.trans rfl) (fun z hz => by exact absurd hz List.not_mem_nil) (by decide) (by decide) (hts _ (List.mem_of_getElem? (i := 1) rfl)) (List.mem_of_getElem? (i := 0) rfl) (fun q9 H locs hw => ?_)
  refine lv_astore_n (lv' := [(3, .ref q9), (0, .ref (α 0)), (1, .int a1), (2, .ref (α 192))]) hx hb dL_averageMargin_12 rfl hl (by decide) rfl (fun ls hl => ?_)
  refine lv_iconst (v := nI 1) hx hb dL_averageMargin_13 (by decide) ?_
  exact ret_h hx hb hr hlocks hK hw dL_averageMargin_14 (by decide) (by decide) rfl rfl

set_option maxRecDepth 100000 in
set_option maxHeartbeats 1000000 in
theorem hN_gap (l : Launch) (sa ka va : Nat → Nat) (D : va_G) (cA : Nat → ClassId) (α : Nat → Nat) (sz : Nat) (S : Mem) (a1 : Int32) (v : Int64) (fS : Mem) (hM : ∀ z, CtL l yX10_gap wsX10_gap ({ frames := 6, cells := 0, slots := 0, locals := 100 }) D cA α 193 z [.ref (α 0), .int a1] S v fS) : CtH sa ka va l yL_gap wsL_gap ({ frames := 7, cells := 1, slots := 6, locals := 121 }) D cA α 193 sz [.ref (α 0), .int a1, .ref (α 191)] S (nI 0) (setJ fS 191 0 v) := by
  refine cth_enter cL_gap 4 (some .int) (by decide) rfl (Nat.le_of_ble_eq_true rfl) ?_
  intro p e s m below meth c hx hb hr hml hlocks hown hts hK hsz hw hV ht ls hl
  have hown : s.vm.findClass RL = some m.cls := hown
  have hAw : ∀ z, Aw α 193 s.heap.size z → Aw α 193 sz z := by rw [hsz]; exact fun _ h => h
  have hl : lv_has ls 4 [(0, .ref (α 0)), (1, .int a1), (2, .ref (α 191))] := hl
  refine lv_aload_n hx hb dL_gap_0 rfl (lv_at hl 2 rfl) ?_
  refine lv_iconst (v := nI 0) hx hb dL_gap_1 (by decide) ?_
  refine lv_aload_n hx hb dL_gap_2 rfl (lv_at hl 0 rfl) ?_
  refine lv_iload_n hx hb dL_gap_3 rfl (lv_at hl 1 rfl) ?_
  refine x_callVL (q := 0) (C := RX10) (As := [.int a1]) (rest := [.int (nI 0), .ref (α 191)]) ⟨hx, hb, hml, hown, hts⟩ (hM _) (cwV 1 hts gL_gap_X10_gap rfl rfl rfl (by decide +kernel) ⟨Nat.le_of_ble_eq_true rfl, Nat.le_of_ble_eq_true rfl⟩) hK hw hAw (ws_recv hK hw (q := 0) (Nat.le_of_ble_eq_true rfl) (mk_0 cA α) rfl) rfl hl.1 rfl (Nat.le_of_ble_eq_true rfl) dL_gap_4 ⟨Nat.zero_le _, Nat.zero_le _⟩ (fun S1 eS1 H locs hw => ?_)
  refine x_last (x := v) hx hb hK hw 191 1 (Nat.le_of_ble_eq_true rfl) (mk_191 cA α) 0 rfl (by decide) (by decide) dL_gap_7 (fun S2 eS2 H locs hw => ?_)
  refine lv_goto (tgt := 14) hx hb dL_gap_8 (by decide) ?_
  refine lv_iconst (v := nI 0) hx hb dL_gap_14 (by decide) ?_
  exact ret_h hx hb hr hlocks hK hw dL_gap_15 (by decide) (by decide) rfl (by rw [eS2, eS1])

set_option maxRecDepth 100000 in
set_option maxHeartbeats 1000000 in
theorem hX_gap_IO (l : Launch) (sa ka va : Nat → Nat) (D : va_G) (cA : Nat → ClassId) (α : Nat → Nat) (sz : Nat) (S : Mem) (a1 : Int32) (hM : ∀ z, CtX sa l yX10_gap wsX10_gap ({ frames := 6, cells := 1, slots := 6, locals := 100 }) D cA α 193 z [.ref (α 0), .int a1] S eIO) : CtH sa ka va l yL_gap wsL_gap ({ frames := 7, cells := 1, slots := 6, locals := 121 }) D cA α 193 sz [.ref (α 0), .int a1, .ref (α 191)] S (nI 1) S := by
  refine cth_enter cL_gap 4 (some .int) (by decide) rfl (Nat.le_of_ble_eq_true rfl) ?_
  intro p e s m below meth c hx hb hr hml hlocks hown hts hK hsz hw hV ht ls hl
  have hown : s.vm.findClass RL = some m.cls := hown
  have hAw : ∀ z, Aw α 193 s.heap.size z → Aw α 193 sz z := by rw [hsz]; exact fun _ h => h
  have hl : lv_has ls 4 [(0, .ref (α 0)), (1, .int a1), (2, .ref (α 191))] := hl
  refine lv_aload_n hx hb dL_gap_0 rfl (lv_at hl 2 rfl) ?_
  refine lv_iconst (v := nI 0) hx hb dL_gap_1 (by decide) ?_
  refine lv_aload_n hx hb dL_gap_2 rfl (lv_at hl 0 rfl) ?_
  refine lv_iload_n hx hb dL_gap_3 rfl (lv_at hl 1 rfl) ?_
  refine x_callXC (q := 0) (C := RX10) (As := [.int a1]) (rest := [.int (nI 0), .ref (α 191)]) ⟨hx, hb, hml, hown, hts⟩ (hM _) (cwV 1 hts gL_gap_X10_gap rfl rfl rfl (by decide +kernel) ⟨Nat.le_of_ble_eq_true rfl, Nat.le_of_ble_eq_true rfl⟩) hK hw hsz hV (ws_recv hK hw (q := 0) (Nat.le_of_ble_eq_true rfl) (mk_0 cA α) rfl) rfl hl.1 rfl (Nat.le_of_ble_eq_true rfl) dL_gap_4 ⟨Nat.le_of_ble_eq_true rfl, Nat.le_of_ble_eq_true rfl⟩ [] ⟨0, 8, 11, 21⟩ [] (ht.trans rfl) (fun z hz => by exact absurd hz List.not_mem_nil) (by decide) (by decide) (hts _ (List.mem_of_getElem? (i := 1) rfl)) (List.mem_of_getElem? (i := 0) rfl) (fun q9 H locs hw => ?_)
  refine lv_astore_n (lv' := [(3, .ref q9), (0, .ref (α 0)), (1, .int a1), (2, .ref (α 191))]) hx hb dL_gap_11 rfl hl (by decide) rfl (fun ls hl => ?_)
  refine lv_iconst (v := nI 1) hx hb dL_gap_12 (by decide) ?_
  exact ret_h hx hb hr hlocks hK hw dL_gap_13 (by decide) (by decide) rfl rfl

set_option maxRecDepth 100000 in
set_option maxHeartbeats 1000000 in
theorem hN_gapsOf (l : Launch) (sa ka va : Nat → Nat) (D : va_G) (cA : Nat → ClassId) (α : Nat → Nat) (sz : Nat) (S : Mem) (a1 : Int32) (v : Int64) (fS : Mem) (hM : ∀ z, CtL l yX10_gapsOf wsX10_gapsOf ({ frames := 7, cells := 0, slots := 0, locals := 121 }) D cA α 193 z [.ref (α 0), .int a1] S v fS) : CtH sa ka va l yL_gapsOf wsL_gapsOf ({ frames := 8, cells := 1, slots := 6, locals := 142 }) D cA α 193 sz [.ref (α 0), .int a1, .ref (α 191)] S (nI 0) (setJ fS 191 0 v) := by
  refine cth_enter cL_gapsOf 4 (some .int) (by decide) rfl (Nat.le_of_ble_eq_true rfl) ?_
  intro p e s m below meth c hx hb hr hml hlocks hown hts hK hsz hw hV ht ls hl
  have hown : s.vm.findClass RL = some m.cls := hown
  have hAw : ∀ z, Aw α 193 s.heap.size z → Aw α 193 sz z := by rw [hsz]; exact fun _ h => h
  have hl : lv_has ls 4 [(0, .ref (α 0)), (1, .int a1), (2, .ref (α 191))] := hl
  refine lv_aload_n hx hb dL_gapsOf_0 rfl (lv_at hl 2 rfl) ?_
  refine lv_iconst (v := nI 0) hx hb dL_gapsOf_1 (by decide) ?_
  refine lv_aload_n hx hb dL_gapsOf_2 rfl (lv_at hl 0 rfl) ?_
  refine lv_iload_n hx hb dL_gapsOf_3 rfl (lv_at hl 1 rfl) ?_
  refine x_callVL (q := 0) (C := RX10) (As := [.int a1]) (rest := [.int (nI 0), .ref (α 191)]) ⟨hx, hb, hml, hown, hts⟩ (hM _) (cwV 1 hts gL_gapsOf_X10_gapsOf rfl rfl rfl (by decide +kernel) ⟨Nat.le_of_ble_eq_true rfl, Nat.le_of_ble_eq_true rfl⟩) hK hw hAw (ws_recv hK hw (q := 0) (Nat.le_of_ble_eq_true rfl) (mk_0 cA α) rfl) rfl hl.1 rfl (Nat.le_of_ble_eq_true rfl) dL_gapsOf_4 ⟨Nat.zero_le _, Nat.zero_le _⟩ (fun S1 eS1 H locs hw => ?_)
  refine x_last (x := v) hx hb hK hw 191 1 (Nat.le_of_ble_eq_true rfl) (mk_191 cA α) 0 rfl (by decide) (by decide) dL_gapsOf_7 (fun S2 eS2 H locs hw => ?_)
  refine lv_goto (tgt := 14) hx hb dL_gapsOf_8 (by decide) ?_
  refine lv_iconst (v := nI 0) hx hb dL_gapsOf_14 (by decide) ?_
  exact ret_h hx hb hr hlocks hK hw dL_gapsOf_15 (by decide) (by decide) rfl (by rw [eS2, eS1])

set_option maxRecDepth 100000 in
set_option maxHeartbeats 1000000 in
theorem hX_gapsOf_IO (l : Launch) (sa ka va : Nat → Nat) (D : va_G) (cA : Nat → ClassId) (α : Nat → Nat) (sz : Nat) (S : Mem) (a1 : Int32) (hM : ∀ z, CtX sa l yX10_gapsOf wsX10_gapsOf ({ frames := 7, cells := 1, slots := 6, locals := 121 }) D cA α 193 z [.ref (α 0), .int a1] S eIO) : CtH sa ka va l yL_gapsOf wsL_gapsOf ({ frames := 8, cells := 1, slots := 6, locals := 142 }) D cA α 193 sz [.ref (α 0), .int a1, .ref (α 191)] S (nI 1) S := by
  refine cth_enter cL_gapsOf 4 (some .int) (by decide) rfl (Nat.le_of_ble_eq_true rfl) ?_
  intro p e s m below meth c hx hb hr hml hlocks hown hts hK hsz hw hV ht ls hl
  have hown : s.vm.findClass RL = some m.cls := hown
  have hAw : ∀ z, Aw α 193 s.heap.size z → Aw α 193 sz z := by rw [hsz]; exact fun _ h => h
  have hl : lv_has ls 4 [(0, .ref (α 0)), (1, .int a1), (2, .ref (α 191))] := hl
  refine lv_aload_n hx hb dL_gapsOf_0 rfl (lv_at hl 2 rfl) ?_
  refine lv_iconst (v := nI 0) hx hb dL_gapsOf_1 (by decide) ?_
  refine lv_aload_n hx hb dL_gapsOf_2 rfl (lv_at hl 0 rfl) ?_
  refine lv_iload_n hx hb dL_gapsOf_3 rfl (lv_at hl 1 rfl) ?_
  refine x_callXC (q := 0) (C := RX10) (As := [.int a1]) (rest := [.int (nI 0), .ref (α 191)]) ⟨hx, hb, hml, hown, hts⟩ (hM _) (cwV 1 hts gL_gapsOf_X10_gapsOf rfl rfl rfl (by decide +kernel) ⟨Nat.le_of_ble_eq_true rfl, Nat.le_of_ble_eq_true rfl⟩) hK hw hsz hV (ws_recv hK hw (q := 0) (Nat.le_of_ble_eq_true rfl) (mk_0 cA α) rfl) rfl hl.1 rfl (Nat.le_of_ble_eq_true rfl) dL_gapsOf_4 ⟨Nat.le_of_ble_eq_true rfl, Nat.le_of_ble_eq_true rfl⟩ [] ⟨0, 8, 11, 21⟩ [] (ht.trans rfl) (fun z hz => by exact absurd hz List.not_mem_nil) (by decide) (by decide) (hts _ (List.mem_of_getElem? (i := 1) rfl)) (List.mem_of_getElem? (i := 0) rfl) (fun q9 H locs hw => ?_)
  refine lv_astore_n (lv' := [(3, .ref q9), (0, .ref (α 0)), (1, .int a1), (2, .ref (α 191))]) hx hb dL_gapsOf_11 rfl hl (by decide) rfl (fun ls hl => ?_)
  refine lv_iconst (v := nI 1) hx hb dL_gapsOf_12 (by decide) ?_
  exact ret_h hx hb hr hlocks hK hw dL_gapsOf_13 (by decide) (by decide) rfl rfl

set_option maxRecDepth 100000 in
set_option maxHeartbeats 1000000 in
theorem hN_book (l : Launch) (sa ka va : Nat → Nat) (D : va_G) (cA : Nat → ClassId) (α : Nat → Nat) (sz : Nat) (S : Mem) (a1 a2 a3 a4 a5 : Int32) (v : Int32) (fS : Mem) (hM : ∀ z, CtI l yX10_book wsX10_book ({ frames := 7, cells := 0, slots := 0, locals := 122 }) D cA α 193 z [.ref (α 0), .int a1, .int a2, .int a3, .int a4, .int a5] S v fS) : CtH sa ka va l yL_book wsL_book ({ frames := 8, cells := 1, slots := 6, locals := 148 }) D cA α 193 sz [.ref (α 0), .int a1, .int a2, .int a3, .int a4, .int a5, .ref (α 191)] S (nI 0) (setJ fS 191 0 v.toInt64) := by
  refine cth_enter cL_book 8 (some .int) (by decide) rfl (Nat.le_of_ble_eq_true rfl) ?_
  intro p e s m below meth c hx hb hr hml hlocks hown hts hK hsz hw hV ht ls hl
  have hown : s.vm.findClass RL = some m.cls := hown
  have hAw : ∀ z, Aw α 193 s.heap.size z → Aw α 193 sz z := by rw [hsz]; exact fun _ h => h
  have hl : lv_has ls 8 [(0, .ref (α 0)), (1, .int a1), (2, .int a2), (3, .int a3), (4, .int a4), (5, .int a5), (6, .ref (α 191))] := hl
  refine lv_aload hx hb dL_book_0 (lv_at hl 6 rfl) ?_
  refine lv_iconst (v := nI 0) hx hb dL_book_2 (by decide) ?_
  refine lv_aload_n hx hb dL_book_3 rfl (lv_at hl 0 rfl) ?_
  refine lv_iload_n hx hb dL_book_4 rfl (lv_at hl 1 rfl) ?_
  refine lv_iload_n hx hb dL_book_5 rfl (lv_at hl 2 rfl) ?_
  refine lv_iload_n hx hb dL_book_6 rfl (lv_at hl 3 rfl) ?_
  refine lv_iload hx hb dL_book_7 (lv_at hl 4 rfl) ?_
  refine lv_iload hx hb dL_book_9 (lv_at hl 5 rfl) ?_
  refine x_callVI (q := 0) (C := RX10) (As := [.int a1, .int a2, .int a3, .int a4, .int a5]) (rest := [.int (nI 0), .ref (α 191)]) ⟨hx, hb, hml, hown, hts⟩ (hM _) (cwV 5 hts gL_book_X10_book rfl rfl rfl (by decide +kernel) ⟨Nat.le_of_ble_eq_true rfl, Nat.le_of_ble_eq_true rfl⟩) hK hw hAw (ws_recv hK hw (q := 0) (Nat.le_of_ble_eq_true rfl) (mk_0 cA α) rfl) rfl hl.1 rfl (Nat.le_of_ble_eq_true rfl) dL_book_11 ⟨Nat.zero_le _, Nat.zero_le _⟩ (fun S1 eS1 H locs hw => ?_)
  refine lv_i2l hx hb dL_book_14 rfl ?_
  refine x_last (x := v.toInt64) hx hb hK hw 191 1 (Nat.le_of_ble_eq_true rfl) (mk_191 cA α) 0 rfl (by decide) (by decide) dL_book_15 (fun S2 eS2 H locs hw => ?_)
  refine lv_goto (tgt := 31) hx hb dL_book_16 (by decide) ?_
  refine lv_iconst (v := nI 0) hx hb dL_book_31 (by decide) ?_
  exact ret_h hx hb hr hlocks hK hw dL_book_32 (by decide) (by decide) rfl (by rw [eS2, eS1])

set_option maxRecDepth 100000 in
set_option maxHeartbeats 1000000 in
theorem hX_book_IO (l : Launch) (sa ka va : Nat → Nat) (D : va_G) (cA : Nat → ClassId) (α : Nat → Nat) (sz : Nat) (S : Mem) (a1 a2 a3 a4 a5 : Int32) (hM : ∀ z, CtX sa l yX10_book wsX10_book ({ frames := 7, cells := 1, slots := 6, locals := 122 }) D cA α 193 z [.ref (α 0), .int a1, .int a2, .int a3, .int a4, .int a5] S eIO) : CtH sa ka va l yL_book wsL_book ({ frames := 8, cells := 1, slots := 6, locals := 148 }) D cA α 193 sz [.ref (α 0), .int a1, .int a2, .int a3, .int a4, .int a5, .ref (α 191)] S (nI 1) S := by
  refine cth_enter cL_book 8 (some .int) (by decide) rfl (Nat.le_of_ble_eq_true rfl) ?_
  intro p e s m below meth c hx hb hr hml hlocks hown hts hK hsz hw hV ht ls hl
  have hown : s.vm.findClass RL = some m.cls := hown
  have hAw : ∀ z, Aw α 193 s.heap.size z → Aw α 193 sz z := by rw [hsz]; exact fun _ h => h
  have hl : lv_has ls 8 [(0, .ref (α 0)), (1, .int a1), (2, .int a2), (3, .int a3), (4, .int a4), (5, .int a5), (6, .ref (α 191))] := hl
  refine lv_aload hx hb dL_book_0 (lv_at hl 6 rfl) ?_
  refine lv_iconst (v := nI 0) hx hb dL_book_2 (by decide) ?_
  refine lv_aload_n hx hb dL_book_3 rfl (lv_at hl 0 rfl) ?_
  refine lv_iload_n hx hb dL_book_4 rfl (lv_at hl 1 rfl) ?_
  refine lv_iload_n hx hb dL_book_5 rfl (lv_at hl 2 rfl) ?_
  refine lv_iload_n hx hb dL_book_6 rfl (lv_at hl 3 rfl) ?_
  refine lv_iload hx hb dL_book_7 (lv_at hl 4 rfl) ?_
  refine lv_iload hx hb dL_book_9 (lv_at hl 5 rfl) ?_
  refine x_callXC (q := 0) (C := RX10) (As := [.int a1, .int a2, .int a3, .int a4, .int a5]) (rest := [.int (nI 0), .ref (α 191)]) ⟨hx, hb, hml, hown, hts⟩ (hM _) (cwV 5 hts gL_book_X10_book rfl rfl rfl (by decide +kernel) ⟨Nat.le_of_ble_eq_true rfl, Nat.le_of_ble_eq_true rfl⟩) hK hw hsz hV (ws_recv hK hw (q := 0) (Nat.le_of_ble_eq_true rfl) (mk_0 cA α) rfl) rfl hl.1 rfl (Nat.le_of_ble_eq_true rfl) dL_book_11 ⟨Nat.le_of_ble_eq_true rfl, Nat.le_of_ble_eq_true rfl⟩ [] ⟨0, 16, 19, 21⟩ [⟨0, 16, 23, 13⟩, ⟨0, 16, 27, 46⟩] (ht.trans rfl) (fun z hz => by exact absurd hz List.not_mem_nil) (by decide) (by decide) (hts _ (List.mem_of_getElem? (i := 1) rfl)) (List.mem_of_getElem? (i := 0) rfl) (fun q9 H locs hw => ?_)
  refine lv_astore (lv' := [(7, .ref q9), (0, .ref (α 0)), (1, .int a1), (2, .int a2), (3, .int a3), (4, .int a4), (5, .int a5), (6, .ref (α 191))]) hx hb dL_book_19 hl (by decide) rfl (fun ls hl => ?_)
  refine lv_iconst (v := nI 1) hx hb dL_book_21 (by decide) ?_
  exact ret_h hx hb hr hlocks hK hw dL_book_22 (by decide) (by decide) rfl rfl

set_option maxRecDepth 100000 in
set_option maxHeartbeats 1000000 in
theorem hX_book_IA (l : Launch) (sa ka va : Nat → Nat) (D : va_G) (cA : Nat → ClassId) (α : Nat → Nat) (sz : Nat) (S : Mem) (a1 a2 a3 a4 a5 : Int32) (hM : ∀ z, CtX sa l yX10_book wsX10_book ({ frames := 7, cells := 1, slots := 6, locals := 122 }) D cA α 193 z [.ref (α 0), .int a1, .int a2, .int a3, .int a4, .int a5] S eIA) : CtH sa ka va l yL_book wsL_book ({ frames := 8, cells := 1, slots := 6, locals := 148 }) D cA α 193 sz [.ref (α 0), .int a1, .int a2, .int a3, .int a4, .int a5, .ref (α 191)] S (nI 2) S := by
  refine cth_enter cL_book 8 (some .int) (by decide) rfl (Nat.le_of_ble_eq_true rfl) ?_
  intro p e s m below meth c hx hb hr hml hlocks hown hts hK hsz hw hV ht ls hl
  have hown : s.vm.findClass RL = some m.cls := hown
  have hAw : ∀ z, Aw α 193 s.heap.size z → Aw α 193 sz z := by rw [hsz]; exact fun _ h => h
  have hl : lv_has ls 8 [(0, .ref (α 0)), (1, .int a1), (2, .int a2), (3, .int a3), (4, .int a4), (5, .int a5), (6, .ref (α 191))] := hl
  refine lv_aload hx hb dL_book_0 (lv_at hl 6 rfl) ?_
  refine lv_iconst (v := nI 0) hx hb dL_book_2 (by decide) ?_
  refine lv_aload_n hx hb dL_book_3 rfl (lv_at hl 0 rfl) ?_
  refine lv_iload_n hx hb dL_book_4 rfl (lv_at hl 1 rfl) ?_
  refine lv_iload_n hx hb dL_book_5 rfl (lv_at hl 2 rfl) ?_
  refine lv_iload_n hx hb dL_book_6 rfl (lv_at hl 3 rfl) ?_
  refine lv_iload hx hb dL_book_7 (lv_at hl 4 rfl) ?_
  refine lv_iload hx hb dL_book_9 (lv_at hl 5 rfl) ?_
  refine x_callXC (q := 0) (C := RX10) (As := [.int a1, .int a2, .int a3, .int a4, .int a5]) (rest := [.int (nI 0), .ref (α 191)]) ⟨hx, hb, hml, hown, hts⟩ (hM _) (cwV 5 hts gL_book_X10_book rfl rfl rfl (by decide +kernel) ⟨Nat.le_of_ble_eq_true rfl, Nat.le_of_ble_eq_true rfl⟩) hK hw hsz hV (ws_recv hK hw (q := 0) (Nat.le_of_ble_eq_true rfl) (mk_0 cA α) rfl) rfl hl.1 rfl (Nat.le_of_ble_eq_true rfl) dL_book_11 ⟨Nat.le_of_ble_eq_true rfl, Nat.le_of_ble_eq_true rfl⟩ [⟨0, 16, 19, 21⟩] ⟨0, 16, 23, 13⟩ [⟨0, 16, 27, 46⟩] (ht.trans rfl) (fun z hz => by rcases List.mem_cons.mp hz with rfl | hz; exact Or.inr ⟨by decide, _, (hts _ (List.mem_of_getElem? (i := 1) rfl)), hV.2.2.2.1⟩; exact absurd hz List.not_mem_nil) (by decide) (by decide) (hts _ (List.mem_of_getElem? (i := 2) rfl)) (List.mem_of_getElem? (i := 1) rfl) (fun q9 H locs hw => ?_)
  refine lv_astore (lv' := [(7, .ref q9), (0, .ref (α 0)), (1, .int a1), (2, .int a2), (3, .int a3), (4, .int a4), (5, .int a5), (6, .ref (α 191))]) hx hb dL_book_23 hl (by decide) rfl (fun ls hl => ?_)
  refine lv_iconst (v := nI 2) hx hb dL_book_25 (by decide) ?_
  exact ret_h hx hb hr hlocks hK hw dL_book_26 (by decide) (by decide) rfl rfl

set_option maxRecDepth 100000 in
set_option maxHeartbeats 1000000 in
theorem hX_book_IS (l : Launch) (sa ka va : Nat → Nat) (D : va_G) (cA : Nat → ClassId) (α : Nat → Nat) (sz : Nat) (S : Mem) (a1 a2 a3 a4 a5 : Int32) (hM : ∀ z, CtX sa l yX10_book wsX10_book ({ frames := 7, cells := 1, slots := 6, locals := 122 }) D cA α 193 z [.ref (α 0), .int a1, .int a2, .int a3, .int a4, .int a5] S eIS) : CtH sa ka va l yL_book wsL_book ({ frames := 8, cells := 1, slots := 6, locals := 148 }) D cA α 193 sz [.ref (α 0), .int a1, .int a2, .int a3, .int a4, .int a5, .ref (α 191)] S (nI 3) S := by
  refine cth_enter cL_book 8 (some .int) (by decide) rfl (Nat.le_of_ble_eq_true rfl) ?_
  intro p e s m below meth c hx hb hr hml hlocks hown hts hK hsz hw hV ht ls hl
  have hown : s.vm.findClass RL = some m.cls := hown
  have hAw : ∀ z, Aw α 193 s.heap.size z → Aw α 193 sz z := by rw [hsz]; exact fun _ h => h
  have hl : lv_has ls 8 [(0, .ref (α 0)), (1, .int a1), (2, .int a2), (3, .int a3), (4, .int a4), (5, .int a5), (6, .ref (α 191))] := hl
  refine lv_aload hx hb dL_book_0 (lv_at hl 6 rfl) ?_
  refine lv_iconst (v := nI 0) hx hb dL_book_2 (by decide) ?_
  refine lv_aload_n hx hb dL_book_3 rfl (lv_at hl 0 rfl) ?_
  refine lv_iload_n hx hb dL_book_4 rfl (lv_at hl 1 rfl) ?_
  refine lv_iload_n hx hb dL_book_5 rfl (lv_at hl 2 rfl) ?_
  refine lv_iload_n hx hb dL_book_6 rfl (lv_at hl 3 rfl) ?_
  refine lv_iload hx hb dL_book_7 (lv_at hl 4 rfl) ?_
  refine lv_iload hx hb dL_book_9 (lv_at hl 5 rfl) ?_
  refine x_callXC (q := 0) (C := RX10) (As := [.int a1, .int a2, .int a3, .int a4, .int a5]) (rest := [.int (nI 0), .ref (α 191)]) ⟨hx, hb, hml, hown, hts⟩ (hM _) (cwV 5 hts gL_book_X10_book rfl rfl rfl (by decide +kernel) ⟨Nat.le_of_ble_eq_true rfl, Nat.le_of_ble_eq_true rfl⟩) hK hw hsz hV (ws_recv hK hw (q := 0) (Nat.le_of_ble_eq_true rfl) (mk_0 cA α) rfl) rfl hl.1 rfl (Nat.le_of_ble_eq_true rfl) dL_book_11 ⟨Nat.le_of_ble_eq_true rfl, Nat.le_of_ble_eq_true rfl⟩ [⟨0, 16, 19, 21⟩, ⟨0, 16, 23, 13⟩] ⟨0, 16, 27, 46⟩ [] (ht.trans rfl) (fun z hz => by rcases List.mem_cons.mp hz with rfl | hz; exact Or.inr ⟨by decide, _, (hts _ (List.mem_of_getElem? (i := 1) rfl)), hV.2.2.2.2.1⟩; rcases List.mem_cons.mp hz with rfl | hz; exact Or.inr ⟨by decide, _, (hts _ (List.mem_of_getElem? (i := 2) rfl)), hV.2.2.2.2.2⟩; exact absurd hz List.not_mem_nil) (by decide) (by decide) (hts _ (List.mem_of_getElem? (i := 3) rfl)) (List.mem_of_getElem? (i := 2) rfl) (fun q9 H locs hw => ?_)
  refine lv_astore (lv' := [(7, .ref q9), (0, .ref (α 0)), (1, .int a1), (2, .int a2), (3, .int a3), (4, .int a4), (5, .int a5), (6, .ref (α 191))]) hx hb dL_book_27 hl (by decide) rfl (fun ls hl => ?_)
  refine lv_iconst (v := nI 3) hx hb dL_book_29 (by decide) ?_
  exact ret_h hx hb hr hlocks hK hw dL_book_30 (by decide) (by decide) rfl rfl

set_option maxRecDepth 100000 in
set_option maxHeartbeats 1000000 in
theorem hN_cancel (l : Launch) (sa ka va : Nat → Nat) (D : va_G) (cA : Nat → ClassId) (α : Nat → Nat) (sz : Nat) (S : Mem) (a1 : Int32) (v : Int64) (fS : Mem) (hM : ∀ z, CtL l yX10_cancel wsX10_cancel ({ frames := 7, cells := 0, slots := 0, locals := 121 }) D cA α 193 z [.ref (α 0), .int a1] S v fS) : CtH sa ka va l yL_cancel wsL_cancel ({ frames := 8, cells := 1, slots := 6, locals := 144 }) D cA α 193 sz [.ref (α 0), .int a1, .ref (α 191)] S (nI 0) (setJ fS 191 0 v) := by
  refine cth_enter cL_cancel 4 (some .int) (by decide) rfl (Nat.le_of_ble_eq_true rfl) ?_
  intro p e s m below meth c hx hb hr hml hlocks hown hts hK hsz hw hV ht ls hl
  have hown : s.vm.findClass RL = some m.cls := hown
  have hAw : ∀ z, Aw α 193 s.heap.size z → Aw α 193 sz z := by rw [hsz]; exact fun _ h => h
  have hl : lv_has ls 4 [(0, .ref (α 0)), (1, .int a1), (2, .ref (α 191))] := hl
  refine lv_aload_n hx hb dL_cancel_0 rfl (lv_at hl 2 rfl) ?_
  refine lv_iconst (v := nI 0) hx hb dL_cancel_1 (by decide) ?_
  refine lv_aload_n hx hb dL_cancel_2 rfl (lv_at hl 0 rfl) ?_
  refine lv_iload_n hx hb dL_cancel_3 rfl (lv_at hl 1 rfl) ?_
  refine x_callVL (q := 0) (C := RX10) (As := [.int a1]) (rest := [.int (nI 0), .ref (α 191)]) ⟨hx, hb, hml, hown, hts⟩ (hM _) (cwV 1 hts gL_cancel_X10_cancel rfl rfl rfl (by decide +kernel) ⟨Nat.le_of_ble_eq_true rfl, Nat.le_of_ble_eq_true rfl⟩) hK hw hAw (ws_recv hK hw (q := 0) (Nat.le_of_ble_eq_true rfl) (mk_0 cA α) rfl) rfl hl.1 rfl (Nat.le_of_ble_eq_true rfl) dL_cancel_4 ⟨Nat.zero_le _, Nat.zero_le _⟩ (fun S1 eS1 H locs hw => ?_)
  refine x_last (x := v) hx hb hK hw 191 1 (Nat.le_of_ble_eq_true rfl) (mk_191 cA α) 0 rfl (by decide) (by decide) dL_cancel_7 (fun S2 eS2 H locs hw => ?_)
  refine lv_goto (tgt := 17) hx hb dL_cancel_8 (by decide) ?_
  refine lv_iconst (v := nI 0) hx hb dL_cancel_17 (by decide) ?_
  exact ret_h hx hb hr hlocks hK hw dL_cancel_18 (by decide) (by decide) rfl (by rw [eS2, eS1])

set_option maxRecDepth 100000 in
set_option maxHeartbeats 1000000 in
theorem hX_cancel_IO (l : Launch) (sa ka va : Nat → Nat) (D : va_G) (cA : Nat → ClassId) (α : Nat → Nat) (sz : Nat) (S : Mem) (a1 : Int32) (hM : ∀ z, CtX sa l yX10_cancel wsX10_cancel ({ frames := 7, cells := 1, slots := 6, locals := 121 }) D cA α 193 z [.ref (α 0), .int a1] S eIO) : CtH sa ka va l yL_cancel wsL_cancel ({ frames := 8, cells := 1, slots := 6, locals := 144 }) D cA α 193 sz [.ref (α 0), .int a1, .ref (α 191)] S (nI 1) S := by
  refine cth_enter cL_cancel 4 (some .int) (by decide) rfl (Nat.le_of_ble_eq_true rfl) ?_
  intro p e s m below meth c hx hb hr hml hlocks hown hts hK hsz hw hV ht ls hl
  have hown : s.vm.findClass RL = some m.cls := hown
  have hAw : ∀ z, Aw α 193 s.heap.size z → Aw α 193 sz z := by rw [hsz]; exact fun _ h => h
  have hl : lv_has ls 4 [(0, .ref (α 0)), (1, .int a1), (2, .ref (α 191))] := hl
  refine lv_aload_n hx hb dL_cancel_0 rfl (lv_at hl 2 rfl) ?_
  refine lv_iconst (v := nI 0) hx hb dL_cancel_1 (by decide) ?_
  refine lv_aload_n hx hb dL_cancel_2 rfl (lv_at hl 0 rfl) ?_
  refine lv_iload_n hx hb dL_cancel_3 rfl (lv_at hl 1 rfl) ?_
  refine x_callXC (q := 0) (C := RX10) (As := [.int a1]) (rest := [.int (nI 0), .ref (α 191)]) ⟨hx, hb, hml, hown, hts⟩ (hM _) (cwV 1 hts gL_cancel_X10_cancel rfl rfl rfl (by decide +kernel) ⟨Nat.le_of_ble_eq_true rfl, Nat.le_of_ble_eq_true rfl⟩) hK hw hsz hV (ws_recv hK hw (q := 0) (Nat.le_of_ble_eq_true rfl) (mk_0 cA α) rfl) rfl hl.1 rfl (Nat.le_of_ble_eq_true rfl) dL_cancel_4 ⟨Nat.le_of_ble_eq_true rfl, Nat.le_of_ble_eq_true rfl⟩ [] ⟨0, 8, 11, 21⟩ [⟨0, 8, 14, 46⟩] (ht.trans rfl) (fun z hz => by exact absurd hz List.not_mem_nil) (by decide) (by decide) (hts _ (List.mem_of_getElem? (i := 1) rfl)) (List.mem_of_getElem? (i := 0) rfl) (fun q9 H locs hw => ?_)
  refine lv_astore_n (lv' := [(3, .ref q9), (0, .ref (α 0)), (1, .int a1), (2, .ref (α 191))]) hx hb dL_cancel_11 rfl hl (by decide) rfl (fun ls hl => ?_)
  refine lv_iconst (v := nI 1) hx hb dL_cancel_12 (by decide) ?_
  exact ret_h hx hb hr hlocks hK hw dL_cancel_13 (by decide) (by decide) rfl rfl

set_option maxRecDepth 100000 in
set_option maxHeartbeats 1000000 in
theorem hX_cancel_IS (l : Launch) (sa ka va : Nat → Nat) (D : va_G) (cA : Nat → ClassId) (α : Nat → Nat) (sz : Nat) (S : Mem) (a1 : Int32) (hM : ∀ z, CtX sa l yX10_cancel wsX10_cancel ({ frames := 7, cells := 1, slots := 6, locals := 121 }) D cA α 193 z [.ref (α 0), .int a1] S eIS) : CtH sa ka va l yL_cancel wsL_cancel ({ frames := 8, cells := 1, slots := 6, locals := 144 }) D cA α 193 sz [.ref (α 0), .int a1, .ref (α 191)] S (nI 2) S := by
  refine cth_enter cL_cancel 4 (some .int) (by decide) rfl (Nat.le_of_ble_eq_true rfl) ?_
  intro p e s m below meth c hx hb hr hml hlocks hown hts hK hsz hw hV ht ls hl
  have hown : s.vm.findClass RL = some m.cls := hown
  have hAw : ∀ z, Aw α 193 s.heap.size z → Aw α 193 sz z := by rw [hsz]; exact fun _ h => h
  have hl : lv_has ls 4 [(0, .ref (α 0)), (1, .int a1), (2, .ref (α 191))] := hl
  refine lv_aload_n hx hb dL_cancel_0 rfl (lv_at hl 2 rfl) ?_
  refine lv_iconst (v := nI 0) hx hb dL_cancel_1 (by decide) ?_
  refine lv_aload_n hx hb dL_cancel_2 rfl (lv_at hl 0 rfl) ?_
  refine lv_iload_n hx hb dL_cancel_3 rfl (lv_at hl 1 rfl) ?_
  refine x_callXC (q := 0) (C := RX10) (As := [.int a1]) (rest := [.int (nI 0), .ref (α 191)]) ⟨hx, hb, hml, hown, hts⟩ (hM _) (cwV 1 hts gL_cancel_X10_cancel rfl rfl rfl (by decide +kernel) ⟨Nat.le_of_ble_eq_true rfl, Nat.le_of_ble_eq_true rfl⟩) hK hw hsz hV (ws_recv hK hw (q := 0) (Nat.le_of_ble_eq_true rfl) (mk_0 cA α) rfl) rfl hl.1 rfl (Nat.le_of_ble_eq_true rfl) dL_cancel_4 ⟨Nat.le_of_ble_eq_true rfl, Nat.le_of_ble_eq_true rfl⟩ [⟨0, 8, 11, 21⟩] ⟨0, 8, 14, 46⟩ [] (ht.trans rfl) (fun z hz => by rcases List.mem_cons.mp hz with rfl | hz; exact Or.inr ⟨by decide, _, (hts _ (List.mem_of_getElem? (i := 1) rfl)), hV.2.2.2.2.1⟩; exact absurd hz List.not_mem_nil) (by decide) (by decide) (hts _ (List.mem_of_getElem? (i := 2) rfl)) (List.mem_of_getElem? (i := 2) rfl) (fun q9 H locs hw => ?_)
  refine lv_astore_n (lv' := [(3, .ref q9), (0, .ref (α 0)), (1, .int a1), (2, .ref (α 191))]) hx hb dL_cancel_14 rfl hl (by decide) rfl (fun ls hl => ?_)
  refine lv_iconst (v := nI 2) hx hb dL_cancel_15 (by decide) ?_
  exact ret_h hx hb hr hlocks hK hw dL_cancel_16 (by decide) (by decide) rfl rfl

set_option maxRecDepth 100000 in
set_option maxHeartbeats 1000000 in
theorem hN_release (l : Launch) (sa ka va : Nat → Nat) (D : va_G) (cA : Nat → ClassId) (α : Nat → Nat) (sz : Nat) (S : Mem) (a1 : Int32) (v : Int32) (fS : Mem) (hM : ∀ z, CtI l yX10_release wsX10_release ({ frames := 7, cells := 0, slots := 0, locals := 121 }) D cA α 193 z [.ref (α 0), .int a1] S v fS) : CtH sa ka va l yL_release wsL_release ({ frames := 8, cells := 1, slots := 6, locals := 144 }) D cA α 193 sz [.ref (α 0), .int a1, .ref (α 191)] S (nI 0) (setJ fS 191 0 v.toInt64) := by
  refine cth_enter cL_release 4 (some .int) (by decide) rfl (Nat.le_of_ble_eq_true rfl) ?_
  intro p e s m below meth c hx hb hr hml hlocks hown hts hK hsz hw hV ht ls hl
  have hown : s.vm.findClass RL = some m.cls := hown
  have hAw : ∀ z, Aw α 193 s.heap.size z → Aw α 193 sz z := by rw [hsz]; exact fun _ h => h
  have hl : lv_has ls 4 [(0, .ref (α 0)), (1, .int a1), (2, .ref (α 191))] := hl
  refine lv_aload_n hx hb dL_release_0 rfl (lv_at hl 2 rfl) ?_
  refine lv_iconst (v := nI 0) hx hb dL_release_1 (by decide) ?_
  refine lv_aload_n hx hb dL_release_2 rfl (lv_at hl 0 rfl) ?_
  refine lv_iload_n hx hb dL_release_3 rfl (lv_at hl 1 rfl) ?_
  refine x_callVI (q := 0) (C := RX10) (As := [.int a1]) (rest := [.int (nI 0), .ref (α 191)]) ⟨hx, hb, hml, hown, hts⟩ (hM _) (cwV 1 hts gL_release_X10_release rfl rfl rfl (by decide +kernel) ⟨Nat.le_of_ble_eq_true rfl, Nat.le_of_ble_eq_true rfl⟩) hK hw hAw (ws_recv hK hw (q := 0) (Nat.le_of_ble_eq_true rfl) (mk_0 cA α) rfl) rfl hl.1 rfl (Nat.le_of_ble_eq_true rfl) dL_release_4 ⟨Nat.zero_le _, Nat.zero_le _⟩ (fun S1 eS1 H locs hw => ?_)
  refine lv_i2l hx hb dL_release_7 rfl ?_
  refine x_last (x := v.toInt64) hx hb hK hw 191 1 (Nat.le_of_ble_eq_true rfl) (mk_191 cA α) 0 rfl (by decide) (by decide) dL_release_8 (fun S2 eS2 H locs hw => ?_)
  refine lv_goto (tgt := 18) hx hb dL_release_9 (by decide) ?_
  refine lv_iconst (v := nI 0) hx hb dL_release_18 (by decide) ?_
  exact ret_h hx hb hr hlocks hK hw dL_release_19 (by decide) (by decide) rfl (by rw [eS2, eS1])

set_option maxRecDepth 100000 in
set_option maxHeartbeats 1000000 in
theorem hX_release_IO (l : Launch) (sa ka va : Nat → Nat) (D : va_G) (cA : Nat → ClassId) (α : Nat → Nat) (sz : Nat) (S : Mem) (a1 : Int32) (hM : ∀ z, CtX sa l yX10_release wsX10_release ({ frames := 7, cells := 1, slots := 6, locals := 121 }) D cA α 193 z [.ref (α 0), .int a1] S eIO) : CtH sa ka va l yL_release wsL_release ({ frames := 8, cells := 1, slots := 6, locals := 144 }) D cA α 193 sz [.ref (α 0), .int a1, .ref (α 191)] S (nI 1) S := by
  refine cth_enter cL_release 4 (some .int) (by decide) rfl (Nat.le_of_ble_eq_true rfl) ?_
  intro p e s m below meth c hx hb hr hml hlocks hown hts hK hsz hw hV ht ls hl
  have hown : s.vm.findClass RL = some m.cls := hown
  have hAw : ∀ z, Aw α 193 s.heap.size z → Aw α 193 sz z := by rw [hsz]; exact fun _ h => h
  have hl : lv_has ls 4 [(0, .ref (α 0)), (1, .int a1), (2, .ref (α 191))] := hl
  refine lv_aload_n hx hb dL_release_0 rfl (lv_at hl 2 rfl) ?_
  refine lv_iconst (v := nI 0) hx hb dL_release_1 (by decide) ?_
  refine lv_aload_n hx hb dL_release_2 rfl (lv_at hl 0 rfl) ?_
  refine lv_iload_n hx hb dL_release_3 rfl (lv_at hl 1 rfl) ?_
  refine x_callXC (q := 0) (C := RX10) (As := [.int a1]) (rest := [.int (nI 0), .ref (α 191)]) ⟨hx, hb, hml, hown, hts⟩ (hM _) (cwV 1 hts gL_release_X10_release rfl rfl rfl (by decide +kernel) ⟨Nat.le_of_ble_eq_true rfl, Nat.le_of_ble_eq_true rfl⟩) hK hw hsz hV (ws_recv hK hw (q := 0) (Nat.le_of_ble_eq_true rfl) (mk_0 cA α) rfl) rfl hl.1 rfl (Nat.le_of_ble_eq_true rfl) dL_release_4 ⟨Nat.le_of_ble_eq_true rfl, Nat.le_of_ble_eq_true rfl⟩ [] ⟨0, 9, 12, 21⟩ [⟨0, 9, 15, 46⟩] (ht.trans rfl) (fun z hz => by exact absurd hz List.not_mem_nil) (by decide) (by decide) (hts _ (List.mem_of_getElem? (i := 1) rfl)) (List.mem_of_getElem? (i := 0) rfl) (fun q9 H locs hw => ?_)
  refine lv_astore_n (lv' := [(3, .ref q9), (0, .ref (α 0)), (1, .int a1), (2, .ref (α 191))]) hx hb dL_release_12 rfl hl (by decide) rfl (fun ls hl => ?_)
  refine lv_iconst (v := nI 1) hx hb dL_release_13 (by decide) ?_
  exact ret_h hx hb hr hlocks hK hw dL_release_14 (by decide) (by decide) rfl rfl

set_option maxRecDepth 100000 in
set_option maxHeartbeats 1000000 in
theorem hX_release_IS (l : Launch) (sa ka va : Nat → Nat) (D : va_G) (cA : Nat → ClassId) (α : Nat → Nat) (sz : Nat) (S : Mem) (a1 : Int32) (hM : ∀ z, CtX sa l yX10_release wsX10_release ({ frames := 7, cells := 1, slots := 6, locals := 121 }) D cA α 193 z [.ref (α 0), .int a1] S eIS) : CtH sa ka va l yL_release wsL_release ({ frames := 8, cells := 1, slots := 6, locals := 144 }) D cA α 193 sz [.ref (α 0), .int a1, .ref (α 191)] S (nI 2) S := by
  refine cth_enter cL_release 4 (some .int) (by decide) rfl (Nat.le_of_ble_eq_true rfl) ?_
  intro p e s m below meth c hx hb hr hml hlocks hown hts hK hsz hw hV ht ls hl
  have hown : s.vm.findClass RL = some m.cls := hown
  have hAw : ∀ z, Aw α 193 s.heap.size z → Aw α 193 sz z := by rw [hsz]; exact fun _ h => h
  have hl : lv_has ls 4 [(0, .ref (α 0)), (1, .int a1), (2, .ref (α 191))] := hl
  refine lv_aload_n hx hb dL_release_0 rfl (lv_at hl 2 rfl) ?_
  refine lv_iconst (v := nI 0) hx hb dL_release_1 (by decide) ?_
  refine lv_aload_n hx hb dL_release_2 rfl (lv_at hl 0 rfl) ?_
  refine lv_iload_n hx hb dL_release_3 rfl (lv_at hl 1 rfl) ?_
  refine x_callXC (q := 0) (C := RX10) (As := [.int a1]) (rest := [.int (nI 0), .ref (α 191)]) ⟨hx, hb, hml, hown, hts⟩ (hM _) (cwV 1 hts gL_release_X10_release rfl rfl rfl (by decide +kernel) ⟨Nat.le_of_ble_eq_true rfl, Nat.le_of_ble_eq_true rfl⟩) hK hw hsz hV (ws_recv hK hw (q := 0) (Nat.le_of_ble_eq_true rfl) (mk_0 cA α) rfl) rfl hl.1 rfl (Nat.le_of_ble_eq_true rfl) dL_release_4 ⟨Nat.le_of_ble_eq_true rfl, Nat.le_of_ble_eq_true rfl⟩ [⟨0, 9, 12, 21⟩] ⟨0, 9, 15, 46⟩ [] (ht.trans rfl) (fun z hz => by rcases List.mem_cons.mp hz with rfl | hz; exact Or.inr ⟨by decide, _, (hts _ (List.mem_of_getElem? (i := 1) rfl)), hV.2.2.2.2.1⟩; exact absurd hz List.not_mem_nil) (by decide) (by decide) (hts _ (List.mem_of_getElem? (i := 2) rfl)) (List.mem_of_getElem? (i := 2) rfl) (fun q9 H locs hw => ?_)
  refine lv_astore_n (lv' := [(3, .ref q9), (0, .ref (α 0)), (1, .int a1), (2, .ref (α 191))]) hx hb dL_release_15 rfl hl (by decide) rfl (fun ls hl => ?_)
  refine lv_iconst (v := nI 2) hx hb dL_release_16 (by decide) ?_
  exact ret_h hx hb hr hlocks hK hw dL_release_17 (by decide) (by decide) rfl rfl

set_option maxRecDepth 100000 in
set_option maxHeartbeats 1000000 in
theorem hN_accept (l : Launch) (sa ka va : Nat → Nat) (D : va_G) (cA : Nat → ClassId) (α : Nat → Nat) (sz : Nat) (S : Mem) (a1 : Int32) (v : Int64) (fS : Mem) (hM : ∀ z, CtL l yX10_accept wsX10_accept ({ frames := 7, cells := 0, slots := 0, locals := 121 }) D cA α 193 z [.ref (α 0), .int a1] S v fS) : CtH sa ka va l yL_accept wsL_accept ({ frames := 8, cells := 1, slots := 6, locals := 145 }) D cA α 193 sz [.ref (α 0), .int a1, .ref (α 191)] S (nI 0) (setJ fS 191 0 v) := by
  refine cth_enter cL_accept 4 (some .int) (by decide) rfl (Nat.le_of_ble_eq_true rfl) ?_
  intro p e s m below meth c hx hb hr hml hlocks hown hts hK hsz hw hV ht ls hl
  have hown : s.vm.findClass RL = some m.cls := hown
  have hAw : ∀ z, Aw α 193 s.heap.size z → Aw α 193 sz z := by rw [hsz]; exact fun _ h => h
  have hl : lv_has ls 4 [(0, .ref (α 0)), (1, .int a1), (2, .ref (α 191))] := hl
  refine lv_aload_n hx hb dL_accept_0 rfl (lv_at hl 2 rfl) ?_
  refine lv_iconst (v := nI 0) hx hb dL_accept_1 (by decide) ?_
  refine lv_aload_n hx hb dL_accept_2 rfl (lv_at hl 0 rfl) ?_
  refine lv_iload_n hx hb dL_accept_3 rfl (lv_at hl 1 rfl) ?_
  refine x_callVL (q := 0) (C := RX10) (As := [.int a1]) (rest := [.int (nI 0), .ref (α 191)]) ⟨hx, hb, hml, hown, hts⟩ (hM _) (cwV 1 hts gL_accept_X10_accept rfl rfl rfl (by decide +kernel) ⟨Nat.le_of_ble_eq_true rfl, Nat.le_of_ble_eq_true rfl⟩) hK hw hAw (ws_recv hK hw (q := 0) (Nat.le_of_ble_eq_true rfl) (mk_0 cA α) rfl) rfl hl.1 rfl (Nat.le_of_ble_eq_true rfl) dL_accept_4 ⟨Nat.zero_le _, Nat.zero_le _⟩ (fun S1 eS1 H locs hw => ?_)
  refine x_last (x := v) hx hb hK hw 191 1 (Nat.le_of_ble_eq_true rfl) (mk_191 cA α) 0 rfl (by decide) (by decide) dL_accept_7 (fun S2 eS2 H locs hw => ?_)
  refine lv_goto (tgt := 17) hx hb dL_accept_8 (by decide) ?_
  refine lv_iconst (v := nI 0) hx hb dL_accept_17 (by decide) ?_
  exact ret_h hx hb hr hlocks hK hw dL_accept_18 (by decide) (by decide) rfl (by rw [eS2, eS1])

set_option maxRecDepth 100000 in
set_option maxHeartbeats 1000000 in
theorem hX_accept_IO (l : Launch) (sa ka va : Nat → Nat) (D : va_G) (cA : Nat → ClassId) (α : Nat → Nat) (sz : Nat) (S : Mem) (a1 : Int32) (hM : ∀ z, CtX sa l yX10_accept wsX10_accept ({ frames := 7, cells := 1, slots := 6, locals := 121 }) D cA α 193 z [.ref (α 0), .int a1] S eIO) : CtH sa ka va l yL_accept wsL_accept ({ frames := 8, cells := 1, slots := 6, locals := 145 }) D cA α 193 sz [.ref (α 0), .int a1, .ref (α 191)] S (nI 1) S := by
  refine cth_enter cL_accept 4 (some .int) (by decide) rfl (Nat.le_of_ble_eq_true rfl) ?_
  intro p e s m below meth c hx hb hr hml hlocks hown hts hK hsz hw hV ht ls hl
  have hown : s.vm.findClass RL = some m.cls := hown
  have hAw : ∀ z, Aw α 193 s.heap.size z → Aw α 193 sz z := by rw [hsz]; exact fun _ h => h
  have hl : lv_has ls 4 [(0, .ref (α 0)), (1, .int a1), (2, .ref (α 191))] := hl
  refine lv_aload_n hx hb dL_accept_0 rfl (lv_at hl 2 rfl) ?_
  refine lv_iconst (v := nI 0) hx hb dL_accept_1 (by decide) ?_
  refine lv_aload_n hx hb dL_accept_2 rfl (lv_at hl 0 rfl) ?_
  refine lv_iload_n hx hb dL_accept_3 rfl (lv_at hl 1 rfl) ?_
  refine x_callXC (q := 0) (C := RX10) (As := [.int a1]) (rest := [.int (nI 0), .ref (α 191)]) ⟨hx, hb, hml, hown, hts⟩ (hM _) (cwV 1 hts gL_accept_X10_accept rfl rfl rfl (by decide +kernel) ⟨Nat.le_of_ble_eq_true rfl, Nat.le_of_ble_eq_true rfl⟩) hK hw hsz hV (ws_recv hK hw (q := 0) (Nat.le_of_ble_eq_true rfl) (mk_0 cA α) rfl) rfl hl.1 rfl (Nat.le_of_ble_eq_true rfl) dL_accept_4 ⟨Nat.le_of_ble_eq_true rfl, Nat.le_of_ble_eq_true rfl⟩ [] ⟨0, 8, 11, 21⟩ [⟨0, 8, 14, 46⟩] (ht.trans rfl) (fun z hz => by exact absurd hz List.not_mem_nil) (by decide) (by decide) (hts _ (List.mem_of_getElem? (i := 1) rfl)) (List.mem_of_getElem? (i := 0) rfl) (fun q9 H locs hw => ?_)
  refine lv_astore_n (lv' := [(3, .ref q9), (0, .ref (α 0)), (1, .int a1), (2, .ref (α 191))]) hx hb dL_accept_11 rfl hl (by decide) rfl (fun ls hl => ?_)
  refine lv_iconst (v := nI 1) hx hb dL_accept_12 (by decide) ?_
  exact ret_h hx hb hr hlocks hK hw dL_accept_13 (by decide) (by decide) rfl rfl

set_option maxRecDepth 100000 in
set_option maxHeartbeats 1000000 in
theorem hX_accept_IS (l : Launch) (sa ka va : Nat → Nat) (D : va_G) (cA : Nat → ClassId) (α : Nat → Nat) (sz : Nat) (S : Mem) (a1 : Int32) (hM : ∀ z, CtX sa l yX10_accept wsX10_accept ({ frames := 7, cells := 1, slots := 6, locals := 121 }) D cA α 193 z [.ref (α 0), .int a1] S eIS) : CtH sa ka va l yL_accept wsL_accept ({ frames := 8, cells := 1, slots := 6, locals := 145 }) D cA α 193 sz [.ref (α 0), .int a1, .ref (α 191)] S (nI 2) S := by
  refine cth_enter cL_accept 4 (some .int) (by decide) rfl (Nat.le_of_ble_eq_true rfl) ?_
  intro p e s m below meth c hx hb hr hml hlocks hown hts hK hsz hw hV ht ls hl
  have hown : s.vm.findClass RL = some m.cls := hown
  have hAw : ∀ z, Aw α 193 s.heap.size z → Aw α 193 sz z := by rw [hsz]; exact fun _ h => h
  have hl : lv_has ls 4 [(0, .ref (α 0)), (1, .int a1), (2, .ref (α 191))] := hl
  refine lv_aload_n hx hb dL_accept_0 rfl (lv_at hl 2 rfl) ?_
  refine lv_iconst (v := nI 0) hx hb dL_accept_1 (by decide) ?_
  refine lv_aload_n hx hb dL_accept_2 rfl (lv_at hl 0 rfl) ?_
  refine lv_iload_n hx hb dL_accept_3 rfl (lv_at hl 1 rfl) ?_
  refine x_callXC (q := 0) (C := RX10) (As := [.int a1]) (rest := [.int (nI 0), .ref (α 191)]) ⟨hx, hb, hml, hown, hts⟩ (hM _) (cwV 1 hts gL_accept_X10_accept rfl rfl rfl (by decide +kernel) ⟨Nat.le_of_ble_eq_true rfl, Nat.le_of_ble_eq_true rfl⟩) hK hw hsz hV (ws_recv hK hw (q := 0) (Nat.le_of_ble_eq_true rfl) (mk_0 cA α) rfl) rfl hl.1 rfl (Nat.le_of_ble_eq_true rfl) dL_accept_4 ⟨Nat.le_of_ble_eq_true rfl, Nat.le_of_ble_eq_true rfl⟩ [⟨0, 8, 11, 21⟩] ⟨0, 8, 14, 46⟩ [] (ht.trans rfl) (fun z hz => by rcases List.mem_cons.mp hz with rfl | hz; exact Or.inr ⟨by decide, _, (hts _ (List.mem_of_getElem? (i := 1) rfl)), hV.2.2.2.2.1⟩; exact absurd hz List.not_mem_nil) (by decide) (by decide) (hts _ (List.mem_of_getElem? (i := 2) rfl)) (List.mem_of_getElem? (i := 2) rfl) (fun q9 H locs hw => ?_)
  refine lv_astore_n (lv' := [(3, .ref q9), (0, .ref (α 0)), (1, .int a1), (2, .ref (α 191))]) hx hb dL_accept_14 rfl hl (by decide) rfl (fun ls hl => ?_)
  refine lv_iconst (v := nI 2) hx hb dL_accept_15 (by decide) ?_
  exact ret_h hx hb hr hlocks hK hw dL_accept_16 (by decide) (by decide) rfl rfl

set_option maxRecDepth 100000 in
set_option maxHeartbeats 1000000 in
theorem hN_setRate (l : Launch) (sa ka va : Nat → Nat) (D : va_G) (cA : Nat → ClassId) (α : Nat → Nat) (sz : Nat) (S : Mem) (a1 a2 : Int32) (v : Int32) (fS : Mem) (hM : ∀ z, CtI l yX10_setRate wsX10_setRate ({ frames := 7, cells := 0, slots := 0, locals := 122 }) D cA α 193 z [.ref (α 0), .int a1, .int a2] S v fS) : CtH sa ka va l yL_setRate wsL_setRate ({ frames := 8, cells := 1, slots := 6, locals := 145 }) D cA α 193 sz [.ref (α 0), .int a1, .int a2, .ref (α 191)] S (nI 0) (setJ fS 191 0 v.toInt64) := by
  refine cth_enter cL_setRate 5 (some .int) (by decide) rfl (Nat.le_of_ble_eq_true rfl) ?_
  intro p e s m below meth c hx hb hr hml hlocks hown hts hK hsz hw hV ht ls hl
  have hown : s.vm.findClass RL = some m.cls := hown
  have hAw : ∀ z, Aw α 193 s.heap.size z → Aw α 193 sz z := by rw [hsz]; exact fun _ h => h
  have hl : lv_has ls 5 [(0, .ref (α 0)), (1, .int a1), (2, .int a2), (3, .ref (α 191))] := hl
  refine lv_aload_n hx hb dL_setRate_0 rfl (lv_at hl 3 rfl) ?_
  refine lv_iconst (v := nI 0) hx hb dL_setRate_1 (by decide) ?_
  refine lv_aload_n hx hb dL_setRate_2 rfl (lv_at hl 0 rfl) ?_
  refine lv_iload_n hx hb dL_setRate_3 rfl (lv_at hl 1 rfl) ?_
  refine lv_iload_n hx hb dL_setRate_4 rfl (lv_at hl 2 rfl) ?_
  refine x_callVI (q := 0) (C := RX10) (As := [.int a1, .int a2]) (rest := [.int (nI 0), .ref (α 191)]) ⟨hx, hb, hml, hown, hts⟩ (hM _) (cwV 2 hts gL_setRate_X10_setRate rfl rfl rfl (by decide +kernel) ⟨Nat.le_of_ble_eq_true rfl, Nat.le_of_ble_eq_true rfl⟩) hK hw hAw (ws_recv hK hw (q := 0) (Nat.le_of_ble_eq_true rfl) (mk_0 cA α) rfl) rfl hl.1 rfl (Nat.le_of_ble_eq_true rfl) dL_setRate_5 ⟨Nat.zero_le _, Nat.zero_le _⟩ (fun S1 eS1 H locs hw => ?_)
  refine lv_i2l hx hb dL_setRate_8 rfl ?_
  refine x_last (x := v.toInt64) hx hb hK hw 191 1 (Nat.le_of_ble_eq_true rfl) (mk_191 cA α) 0 rfl (by decide) (by decide) dL_setRate_9 (fun S2 eS2 H locs hw => ?_)
  refine lv_goto (tgt := 21) hx hb dL_setRate_10 (by decide) ?_
  refine lv_iconst (v := nI 0) hx hb dL_setRate_21 (by decide) ?_
  exact ret_h hx hb hr hlocks hK hw dL_setRate_22 (by decide) (by decide) rfl (by rw [eS2, eS1])

set_option maxRecDepth 100000 in
set_option maxHeartbeats 1000000 in
theorem hX_setRate_IO (l : Launch) (sa ka va : Nat → Nat) (D : va_G) (cA : Nat → ClassId) (α : Nat → Nat) (sz : Nat) (S : Mem) (a1 a2 : Int32) (hM : ∀ z, CtX sa l yX10_setRate wsX10_setRate ({ frames := 7, cells := 1, slots := 6, locals := 122 }) D cA α 193 z [.ref (α 0), .int a1, .int a2] S eIO) : CtH sa ka va l yL_setRate wsL_setRate ({ frames := 8, cells := 1, slots := 6, locals := 145 }) D cA α 193 sz [.ref (α 0), .int a1, .int a2, .ref (α 191)] S (nI 1) S := by
  refine cth_enter cL_setRate 5 (some .int) (by decide) rfl (Nat.le_of_ble_eq_true rfl) ?_
  intro p e s m below meth c hx hb hr hml hlocks hown hts hK hsz hw hV ht ls hl
  have hown : s.vm.findClass RL = some m.cls := hown
  have hAw : ∀ z, Aw α 193 s.heap.size z → Aw α 193 sz z := by rw [hsz]; exact fun _ h => h
  have hl : lv_has ls 5 [(0, .ref (α 0)), (1, .int a1), (2, .int a2), (3, .ref (α 191))] := hl
  refine lv_aload_n hx hb dL_setRate_0 rfl (lv_at hl 3 rfl) ?_
  refine lv_iconst (v := nI 0) hx hb dL_setRate_1 (by decide) ?_
  refine lv_aload_n hx hb dL_setRate_2 rfl (lv_at hl 0 rfl) ?_
  refine lv_iload_n hx hb dL_setRate_3 rfl (lv_at hl 1 rfl) ?_
  refine lv_iload_n hx hb dL_setRate_4 rfl (lv_at hl 2 rfl) ?_
  refine x_callXC (q := 0) (C := RX10) (As := [.int a1, .int a2]) (rest := [.int (nI 0), .ref (α 191)]) ⟨hx, hb, hml, hown, hts⟩ (hM _) (cwV 2 hts gL_setRate_X10_setRate rfl rfl rfl (by decide +kernel) ⟨Nat.le_of_ble_eq_true rfl, Nat.le_of_ble_eq_true rfl⟩) hK hw hsz hV (ws_recv hK hw (q := 0) (Nat.le_of_ble_eq_true rfl) (mk_0 cA α) rfl) rfl hl.1 rfl (Nat.le_of_ble_eq_true rfl) dL_setRate_5 ⟨Nat.le_of_ble_eq_true rfl, Nat.le_of_ble_eq_true rfl⟩ [] ⟨0, 10, 13, 21⟩ [⟨0, 10, 17, 13⟩] (ht.trans rfl) (fun z hz => by exact absurd hz List.not_mem_nil) (by decide) (by decide) (hts _ (List.mem_of_getElem? (i := 1) rfl)) (List.mem_of_getElem? (i := 0) rfl) (fun q9 H locs hw => ?_)
  refine lv_astore (lv' := [(4, .ref q9), (0, .ref (α 0)), (1, .int a1), (2, .int a2), (3, .ref (α 191))]) hx hb dL_setRate_13 hl (by decide) rfl (fun ls hl => ?_)
  refine lv_iconst (v := nI 1) hx hb dL_setRate_15 (by decide) ?_
  exact ret_h hx hb hr hlocks hK hw dL_setRate_16 (by decide) (by decide) rfl rfl

set_option maxRecDepth 100000 in
set_option maxHeartbeats 1000000 in
theorem hX_setRate_IA (l : Launch) (sa ka va : Nat → Nat) (D : va_G) (cA : Nat → ClassId) (α : Nat → Nat) (sz : Nat) (S : Mem) (a1 a2 : Int32) (hM : ∀ z, CtX sa l yX10_setRate wsX10_setRate ({ frames := 7, cells := 1, slots := 6, locals := 122 }) D cA α 193 z [.ref (α 0), .int a1, .int a2] S eIA) : CtH sa ka va l yL_setRate wsL_setRate ({ frames := 8, cells := 1, slots := 6, locals := 145 }) D cA α 193 sz [.ref (α 0), .int a1, .int a2, .ref (α 191)] S (nI 2) S := by
  refine cth_enter cL_setRate 5 (some .int) (by decide) rfl (Nat.le_of_ble_eq_true rfl) ?_
  intro p e s m below meth c hx hb hr hml hlocks hown hts hK hsz hw hV ht ls hl
  have hown : s.vm.findClass RL = some m.cls := hown
  have hAw : ∀ z, Aw α 193 s.heap.size z → Aw α 193 sz z := by rw [hsz]; exact fun _ h => h
  have hl : lv_has ls 5 [(0, .ref (α 0)), (1, .int a1), (2, .int a2), (3, .ref (α 191))] := hl
  refine lv_aload_n hx hb dL_setRate_0 rfl (lv_at hl 3 rfl) ?_
  refine lv_iconst (v := nI 0) hx hb dL_setRate_1 (by decide) ?_
  refine lv_aload_n hx hb dL_setRate_2 rfl (lv_at hl 0 rfl) ?_
  refine lv_iload_n hx hb dL_setRate_3 rfl (lv_at hl 1 rfl) ?_
  refine lv_iload_n hx hb dL_setRate_4 rfl (lv_at hl 2 rfl) ?_
  refine x_callXC (q := 0) (C := RX10) (As := [.int a1, .int a2]) (rest := [.int (nI 0), .ref (α 191)]) ⟨hx, hb, hml, hown, hts⟩ (hM _) (cwV 2 hts gL_setRate_X10_setRate rfl rfl rfl (by decide +kernel) ⟨Nat.le_of_ble_eq_true rfl, Nat.le_of_ble_eq_true rfl⟩) hK hw hsz hV (ws_recv hK hw (q := 0) (Nat.le_of_ble_eq_true rfl) (mk_0 cA α) rfl) rfl hl.1 rfl (Nat.le_of_ble_eq_true rfl) dL_setRate_5 ⟨Nat.le_of_ble_eq_true rfl, Nat.le_of_ble_eq_true rfl⟩ [⟨0, 10, 13, 21⟩] ⟨0, 10, 17, 13⟩ [] (ht.trans rfl) (fun z hz => by rcases List.mem_cons.mp hz with rfl | hz; exact Or.inr ⟨by decide, _, (hts _ (List.mem_of_getElem? (i := 1) rfl)), hV.2.2.2.1⟩; exact absurd hz List.not_mem_nil) (by decide) (by decide) (hts _ (List.mem_of_getElem? (i := 2) rfl)) (List.mem_of_getElem? (i := 1) rfl) (fun q9 H locs hw => ?_)
  refine lv_astore (lv' := [(4, .ref q9), (0, .ref (α 0)), (1, .int a1), (2, .int a2), (3, .ref (α 191))]) hx hb dL_setRate_17 hl (by decide) rfl (fun ls hl => ?_)
  refine lv_iconst (v := nI 2) hx hb dL_setRate_19 (by decide) ?_
  exact ret_h hx hb hr hlocks hK hw dL_setRate_20 (by decide) (by decide) rfl rfl

set_option maxRecDepth 100000 in
set_option maxHeartbeats 1000000 in
theorem hN_setTolerance (l : Launch) (sa ka va : Nat → Nat) (D : va_G) (cA : Nat → ClassId) (α : Nat → Nat) (sz : Nat) (S : Mem) (a1 : Int32) (v : Int32) (fS : Mem) (hM : ∀ z, CtI l yX10_setTolerance wsX10_setTolerance ({ frames := 7, cells := 0, slots := 0, locals := 122 }) D cA α 193 z [.ref (α 0), .int a1] S v fS) : CtH sa ka va l yL_setTolerance wsL_setTolerance ({ frames := 8, cells := 1, slots := 6, locals := 144 }) D cA α 193 sz [.ref (α 0), .int a1, .ref (α 191)] S (nI 0) (setJ fS 191 0 v.toInt64) := by
  refine cth_enter cL_setTolerance 4 (some .int) (by decide) rfl (Nat.le_of_ble_eq_true rfl) ?_
  intro p e s m below meth c hx hb hr hml hlocks hown hts hK hsz hw hV ht ls hl
  have hown : s.vm.findClass RL = some m.cls := hown
  have hAw : ∀ z, Aw α 193 s.heap.size z → Aw α 193 sz z := by rw [hsz]; exact fun _ h => h
  have hl : lv_has ls 4 [(0, .ref (α 0)), (1, .int a1), (2, .ref (α 191))] := hl
  refine lv_aload_n hx hb dL_setTolerance_0 rfl (lv_at hl 2 rfl) ?_
  refine lv_iconst (v := nI 0) hx hb dL_setTolerance_1 (by decide) ?_
  refine lv_aload_n hx hb dL_setTolerance_2 rfl (lv_at hl 0 rfl) ?_
  refine lv_iload_n hx hb dL_setTolerance_3 rfl (lv_at hl 1 rfl) ?_
  refine x_callVI (q := 0) (C := RX10) (As := [.int a1]) (rest := [.int (nI 0), .ref (α 191)]) ⟨hx, hb, hml, hown, hts⟩ (hM _) (cwV 1 hts gL_setTolerance_X10_setTolerance rfl rfl rfl (by decide +kernel) ⟨Nat.le_of_ble_eq_true rfl, Nat.le_of_ble_eq_true rfl⟩) hK hw hAw (ws_recv hK hw (q := 0) (Nat.le_of_ble_eq_true rfl) (mk_0 cA α) rfl) rfl hl.1 rfl (Nat.le_of_ble_eq_true rfl) dL_setTolerance_4 ⟨Nat.zero_le _, Nat.zero_le _⟩ (fun S1 eS1 H locs hw => ?_)
  refine lv_i2l hx hb dL_setTolerance_7 rfl ?_
  refine x_last (x := v.toInt64) hx hb hK hw 191 1 (Nat.le_of_ble_eq_true rfl) (mk_191 cA α) 0 rfl (by decide) (by decide) dL_setTolerance_8 (fun S2 eS2 H locs hw => ?_)
  refine lv_goto (tgt := 15) hx hb dL_setTolerance_9 (by decide) ?_
  refine lv_iconst (v := nI 0) hx hb dL_setTolerance_15 (by decide) ?_
  exact ret_h hx hb hr hlocks hK hw dL_setTolerance_16 (by decide) (by decide) rfl (by rw [eS2, eS1])

set_option maxRecDepth 100000 in
set_option maxHeartbeats 1000000 in
theorem hX_setTolerance_IA (l : Launch) (sa ka va : Nat → Nat) (D : va_G) (cA : Nat → ClassId) (α : Nat → Nat) (sz : Nat) (S : Mem) (a1 : Int32) (hM : ∀ z, CtX sa l yX10_setTolerance wsX10_setTolerance ({ frames := 7, cells := 1, slots := 6, locals := 122 }) D cA α 193 z [.ref (α 0), .int a1] S eIA) : CtH sa ka va l yL_setTolerance wsL_setTolerance ({ frames := 8, cells := 1, slots := 6, locals := 144 }) D cA α 193 sz [.ref (α 0), .int a1, .ref (α 191)] S (nI 1) S := by
  refine cth_enter cL_setTolerance 4 (some .int) (by decide) rfl (Nat.le_of_ble_eq_true rfl) ?_
  intro p e s m below meth c hx hb hr hml hlocks hown hts hK hsz hw hV ht ls hl
  have hown : s.vm.findClass RL = some m.cls := hown
  have hAw : ∀ z, Aw α 193 s.heap.size z → Aw α 193 sz z := by rw [hsz]; exact fun _ h => h
  have hl : lv_has ls 4 [(0, .ref (α 0)), (1, .int a1), (2, .ref (α 191))] := hl
  refine lv_aload_n hx hb dL_setTolerance_0 rfl (lv_at hl 2 rfl) ?_
  refine lv_iconst (v := nI 0) hx hb dL_setTolerance_1 (by decide) ?_
  refine lv_aload_n hx hb dL_setTolerance_2 rfl (lv_at hl 0 rfl) ?_
  refine lv_iload_n hx hb dL_setTolerance_3 rfl (lv_at hl 1 rfl) ?_
  refine x_callXC (q := 0) (C := RX10) (As := [.int a1]) (rest := [.int (nI 0), .ref (α 191)]) ⟨hx, hb, hml, hown, hts⟩ (hM _) (cwV 1 hts gL_setTolerance_X10_setTolerance rfl rfl rfl (by decide +kernel) ⟨Nat.le_of_ble_eq_true rfl, Nat.le_of_ble_eq_true rfl⟩) hK hw hsz hV (ws_recv hK hw (q := 0) (Nat.le_of_ble_eq_true rfl) (mk_0 cA α) rfl) rfl hl.1 rfl (Nat.le_of_ble_eq_true rfl) dL_setTolerance_4 ⟨Nat.le_of_ble_eq_true rfl, Nat.le_of_ble_eq_true rfl⟩ [] ⟨0, 9, 12, 13⟩ [] (ht.trans rfl) (fun z hz => by exact absurd hz List.not_mem_nil) (by decide) (by decide) (hts _ (List.mem_of_getElem? (i := 1) rfl)) (List.mem_of_getElem? (i := 1) rfl) (fun q9 H locs hw => ?_)
  refine lv_astore_n (lv' := [(3, .ref q9), (0, .ref (α 0)), (1, .int a1), (2, .ref (α 191))]) hx hb dL_setTolerance_12 rfl hl (by decide) rfl (fun ls hl => ?_)
  refine lv_iconst (v := nI 1) hx hb dL_setTolerance_13 (by decide) ?_
  exact ret_h hx hb hr hlocks hK hw dL_setTolerance_14 (by decide) (by decide) rfl rfl

set_option maxRecDepth 100000 in
set_option maxHeartbeats 1000000 in
theorem hN_net (l : Launch) (sa ka va : Nat → Nat) (D : va_G) (cA : Nat → ClassId) (α : Nat → Nat) (sz : Nat) (S : Mem) (v : Int32) (fS : Mem) (hM : ∀ z, CtI l yX10_net wsX10_net ({ frames := 6, cells := 0, slots := 0, locals := 102 }) D cA α 193 z [.ref (α 0)] S v fS) : CtH sa ka va l yL_net wsL_net ({ frames := 7, cells := 1, slots := 6, locals := 122 }) D cA α 193 sz [.ref (α 0), .ref (α 191)] S (nI 0) (setJ fS 191 0 v.toInt64) := by
  refine cth_enter cL_net 3 (some .int) (by decide) rfl (Nat.le_of_ble_eq_true rfl) ?_
  intro p e s m below meth c hx hb hr hml hlocks hown hts hK hsz hw hV ht ls hl
  have hown : s.vm.findClass RL = some m.cls := hown
  have hAw : ∀ z, Aw α 193 s.heap.size z → Aw α 193 sz z := by rw [hsz]; exact fun _ h => h
  have hl : lv_has ls 3 [(0, .ref (α 0)), (1, .ref (α 191))] := hl
  refine lv_aload_n hx hb dL_net_0 rfl (lv_at hl 1 rfl) ?_
  refine lv_iconst (v := nI 0) hx hb dL_net_1 (by decide) ?_
  refine lv_aload_n hx hb dL_net_2 rfl (lv_at hl 0 rfl) ?_
  refine x_callVI (q := 0) (C := RX10) (As := []) (rest := [.int (nI 0), .ref (α 191)]) ⟨hx, hb, hml, hown, hts⟩ (hM _) (cwV 0 hts gL_net_X10_net rfl rfl rfl (by decide +kernel) ⟨Nat.le_of_ble_eq_true rfl, Nat.le_of_ble_eq_true rfl⟩) hK hw hAw (ws_recv hK hw (q := 0) (Nat.le_of_ble_eq_true rfl) (mk_0 cA α) rfl) rfl hl.1 rfl (Nat.le_of_ble_eq_true rfl) dL_net_3 ⟨Nat.zero_le _, Nat.zero_le _⟩ (fun S1 eS1 H locs hw => ?_)
  refine lv_i2l hx hb dL_net_6 rfl ?_
  refine x_last (x := v.toInt64) hx hb hK hw 191 1 (Nat.le_of_ble_eq_true rfl) (mk_191 cA α) 0 rfl (by decide) (by decide) dL_net_7 (fun S2 eS2 H locs hw => ?_)
  refine lv_goto (tgt := 14) hx hb dL_net_8 (by decide) ?_
  refine lv_iconst (v := nI 0) hx hb dL_net_14 (by decide) ?_
  exact ret_h hx hb hr hlocks hK hw dL_net_15 (by decide) (by decide) rfl (by rw [eS2, eS1])

set_option maxRecDepth 100000 in
set_option maxHeartbeats 1000000 in
theorem hX_net_IS (l : Launch) (sa ka va : Nat → Nat) (D : va_G) (cA : Nat → ClassId) (α : Nat → Nat) (sz : Nat) (S : Mem) (hM : ∀ z, CtX sa l yX10_net wsX10_net ({ frames := 6, cells := 1, slots := 6, locals := 102 }) D cA α 193 z [.ref (α 0)] S eIS) : CtH sa ka va l yL_net wsL_net ({ frames := 7, cells := 1, slots := 6, locals := 122 }) D cA α 193 sz [.ref (α 0), .ref (α 191)] S (nI 1) S := by
  refine cth_enter cL_net 3 (some .int) (by decide) rfl (Nat.le_of_ble_eq_true rfl) ?_
  intro p e s m below meth c hx hb hr hml hlocks hown hts hK hsz hw hV ht ls hl
  have hown : s.vm.findClass RL = some m.cls := hown
  have hAw : ∀ z, Aw α 193 s.heap.size z → Aw α 193 sz z := by rw [hsz]; exact fun _ h => h
  have hl : lv_has ls 3 [(0, .ref (α 0)), (1, .ref (α 191))] := hl
  refine lv_aload_n hx hb dL_net_0 rfl (lv_at hl 1 rfl) ?_
  refine lv_iconst (v := nI 0) hx hb dL_net_1 (by decide) ?_
  refine lv_aload_n hx hb dL_net_2 rfl (lv_at hl 0 rfl) ?_
  refine x_callXC (q := 0) (C := RX10) (As := []) (rest := [.int (nI 0), .ref (α 191)]) ⟨hx, hb, hml, hown, hts⟩ (hM _) (cwV 0 hts gL_net_X10_net rfl rfl rfl (by decide +kernel) ⟨Nat.le_of_ble_eq_true rfl, Nat.le_of_ble_eq_true rfl⟩) hK hw hsz hV (ws_recv hK hw (q := 0) (Nat.le_of_ble_eq_true rfl) (mk_0 cA α) rfl) rfl hl.1 rfl (Nat.le_of_ble_eq_true rfl) dL_net_3 ⟨Nat.le_of_ble_eq_true rfl, Nat.le_of_ble_eq_true rfl⟩ [] ⟨0, 8, 11, 46⟩ [] (ht.trans rfl) (fun z hz => by exact absurd hz List.not_mem_nil) (by decide) (by decide) (hts _ (List.mem_of_getElem? (i := 1) rfl)) (List.mem_of_getElem? (i := 2) rfl) (fun q9 H locs hw => ?_)
  refine lv_astore_n (lv' := [(2, .ref q9), (0, .ref (α 0)), (1, .ref (α 191))]) hx hb dL_net_11 rfl hl (by decide) rfl (fun ls hl => ?_)
  refine lv_iconst (v := nI 1) hx hb dL_net_12 (by decide) ?_
  exact ret_h hx hb hr hlocks hK hw dL_net_13 (by decide) (by decide) rfl rfl

set_option maxRecDepth 100000 in
set_option maxHeartbeats 1000000 in
theorem hN_deliver (l : Launch) (sa ka va : Nat → Nat) (D : va_G) (cA : Nat → ClassId) (α : Nat → Nat) (sz : Nat) (S : Mem) (a1 a2 a3 a4 a5 : Int32) (v : Int32) (fS : Mem) (hM : ∀ z, CtI l yX10_deliver wsX10_deliver ({ frames := 7, cells := 0, slots := 0, locals := 123 }) D cA α 193 z [.ref (α 0), .int a1, .int a2, .int a3, .int a4, .int a5] S v fS) : CtH sa ka va l yL_deliver wsL_deliver ({ frames := 8, cells := 1, slots := 6, locals := 149 }) D cA α 193 sz [.ref (α 0), .int a1, .int a2, .int a3, .int a4, .int a5, .ref (α 191)] S (nI 0) (setJ fS 191 0 v.toInt64) := by
  refine cth_enter cL_deliver 8 (some .int) (by decide) rfl (Nat.le_of_ble_eq_true rfl) ?_
  intro p e s m below meth c hx hb hr hml hlocks hown hts hK hsz hw hV ht ls hl
  have hown : s.vm.findClass RL = some m.cls := hown
  have hAw : ∀ z, Aw α 193 s.heap.size z → Aw α 193 sz z := by rw [hsz]; exact fun _ h => h
  have hl : lv_has ls 8 [(0, .ref (α 0)), (1, .int a1), (2, .int a2), (3, .int a3), (4, .int a4), (5, .int a5), (6, .ref (α 191))] := hl
  refine lv_aload hx hb dL_deliver_0 (lv_at hl 6 rfl) ?_
  refine lv_iconst (v := nI 0) hx hb dL_deliver_2 (by decide) ?_
  refine lv_aload_n hx hb dL_deliver_3 rfl (lv_at hl 0 rfl) ?_
  refine lv_iload_n hx hb dL_deliver_4 rfl (lv_at hl 1 rfl) ?_
  refine lv_iload_n hx hb dL_deliver_5 rfl (lv_at hl 2 rfl) ?_
  refine lv_iload_n hx hb dL_deliver_6 rfl (lv_at hl 3 rfl) ?_
  refine lv_iload hx hb dL_deliver_7 (lv_at hl 4 rfl) ?_
  refine lv_iload hx hb dL_deliver_9 (lv_at hl 5 rfl) ?_
  refine x_callVI (q := 0) (C := RX10) (As := [.int a1, .int a2, .int a3, .int a4, .int a5]) (rest := [.int (nI 0), .ref (α 191)]) ⟨hx, hb, hml, hown, hts⟩ (hM _) (cwV 5 hts gL_deliver_X10_deliver rfl rfl rfl (by decide +kernel) ⟨Nat.le_of_ble_eq_true rfl, Nat.le_of_ble_eq_true rfl⟩) hK hw hAw (ws_recv hK hw (q := 0) (Nat.le_of_ble_eq_true rfl) (mk_0 cA α) rfl) rfl hl.1 rfl (Nat.le_of_ble_eq_true rfl) dL_deliver_11 ⟨Nat.zero_le _, Nat.zero_le _⟩ (fun S1 eS1 H locs hw => ?_)
  refine lv_i2l hx hb dL_deliver_14 rfl ?_
  refine x_last (x := v.toInt64) hx hb hK hw 191 1 (Nat.le_of_ble_eq_true rfl) (mk_191 cA α) 0 rfl (by decide) (by decide) dL_deliver_15 (fun S2 eS2 H locs hw => ?_)
  refine lv_goto (tgt := 31) hx hb dL_deliver_16 (by decide) ?_
  refine lv_iconst (v := nI 0) hx hb dL_deliver_31 (by decide) ?_
  exact ret_h hx hb hr hlocks hK hw dL_deliver_32 (by decide) (by decide) rfl (by rw [eS2, eS1])

set_option maxRecDepth 100000 in
set_option maxHeartbeats 1000000 in
theorem hX_deliver_IO (l : Launch) (sa ka va : Nat → Nat) (D : va_G) (cA : Nat → ClassId) (α : Nat → Nat) (sz : Nat) (S : Mem) (a1 a2 a3 a4 a5 : Int32) (hM : ∀ z, CtX sa l yX10_deliver wsX10_deliver ({ frames := 7, cells := 1, slots := 6, locals := 123 }) D cA α 193 z [.ref (α 0), .int a1, .int a2, .int a3, .int a4, .int a5] S eIO) : CtH sa ka va l yL_deliver wsL_deliver ({ frames := 8, cells := 1, slots := 6, locals := 149 }) D cA α 193 sz [.ref (α 0), .int a1, .int a2, .int a3, .int a4, .int a5, .ref (α 191)] S (nI 1) S := by
  refine cth_enter cL_deliver 8 (some .int) (by decide) rfl (Nat.le_of_ble_eq_true rfl) ?_
  intro p e s m below meth c hx hb hr hml hlocks hown hts hK hsz hw hV ht ls hl
  have hown : s.vm.findClass RL = some m.cls := hown
  have hAw : ∀ z, Aw α 193 s.heap.size z → Aw α 193 sz z := by rw [hsz]; exact fun _ h => h
  have hl : lv_has ls 8 [(0, .ref (α 0)), (1, .int a1), (2, .int a2), (3, .int a3), (4, .int a4), (5, .int a5), (6, .ref (α 191))] := hl
  refine lv_aload hx hb dL_deliver_0 (lv_at hl 6 rfl) ?_
  refine lv_iconst (v := nI 0) hx hb dL_deliver_2 (by decide) ?_
  refine lv_aload_n hx hb dL_deliver_3 rfl (lv_at hl 0 rfl) ?_
  refine lv_iload_n hx hb dL_deliver_4 rfl (lv_at hl 1 rfl) ?_
  refine lv_iload_n hx hb dL_deliver_5 rfl (lv_at hl 2 rfl) ?_
  refine lv_iload_n hx hb dL_deliver_6 rfl (lv_at hl 3 rfl) ?_
  refine lv_iload hx hb dL_deliver_7 (lv_at hl 4 rfl) ?_
  refine lv_iload hx hb dL_deliver_9 (lv_at hl 5 rfl) ?_
  refine x_callXC (q := 0) (C := RX10) (As := [.int a1, .int a2, .int a3, .int a4, .int a5]) (rest := [.int (nI 0), .ref (α 191)]) ⟨hx, hb, hml, hown, hts⟩ (hM _) (cwV 5 hts gL_deliver_X10_deliver rfl rfl rfl (by decide +kernel) ⟨Nat.le_of_ble_eq_true rfl, Nat.le_of_ble_eq_true rfl⟩) hK hw hsz hV (ws_recv hK hw (q := 0) (Nat.le_of_ble_eq_true rfl) (mk_0 cA α) rfl) rfl hl.1 rfl (Nat.le_of_ble_eq_true rfl) dL_deliver_11 ⟨Nat.le_of_ble_eq_true rfl, Nat.le_of_ble_eq_true rfl⟩ [] ⟨0, 16, 19, 21⟩ [⟨0, 16, 23, 13⟩, ⟨0, 16, 27, 46⟩] (ht.trans rfl) (fun z hz => by exact absurd hz List.not_mem_nil) (by decide) (by decide) (hts _ (List.mem_of_getElem? (i := 1) rfl)) (List.mem_of_getElem? (i := 0) rfl) (fun q9 H locs hw => ?_)
  refine lv_astore (lv' := [(7, .ref q9), (0, .ref (α 0)), (1, .int a1), (2, .int a2), (3, .int a3), (4, .int a4), (5, .int a5), (6, .ref (α 191))]) hx hb dL_deliver_19 hl (by decide) rfl (fun ls hl => ?_)
  refine lv_iconst (v := nI 1) hx hb dL_deliver_21 (by decide) ?_
  exact ret_h hx hb hr hlocks hK hw dL_deliver_22 (by decide) (by decide) rfl rfl

set_option maxRecDepth 100000 in
set_option maxHeartbeats 1000000 in
theorem hX_deliver_IA (l : Launch) (sa ka va : Nat → Nat) (D : va_G) (cA : Nat → ClassId) (α : Nat → Nat) (sz : Nat) (S : Mem) (a1 a2 a3 a4 a5 : Int32) (hM : ∀ z, CtX sa l yX10_deliver wsX10_deliver ({ frames := 7, cells := 1, slots := 6, locals := 123 }) D cA α 193 z [.ref (α 0), .int a1, .int a2, .int a3, .int a4, .int a5] S eIA) : CtH sa ka va l yL_deliver wsL_deliver ({ frames := 8, cells := 1, slots := 6, locals := 149 }) D cA α 193 sz [.ref (α 0), .int a1, .int a2, .int a3, .int a4, .int a5, .ref (α 191)] S (nI 2) S := by
  refine cth_enter cL_deliver 8 (some .int) (by decide) rfl (Nat.le_of_ble_eq_true rfl) ?_
  intro p e s m below meth c hx hb hr hml hlocks hown hts hK hsz hw hV ht ls hl
  have hown : s.vm.findClass RL = some m.cls := hown
  have hAw : ∀ z, Aw α 193 s.heap.size z → Aw α 193 sz z := by rw [hsz]; exact fun _ h => h
  have hl : lv_has ls 8 [(0, .ref (α 0)), (1, .int a1), (2, .int a2), (3, .int a3), (4, .int a4), (5, .int a5), (6, .ref (α 191))] := hl
  refine lv_aload hx hb dL_deliver_0 (lv_at hl 6 rfl) ?_
  refine lv_iconst (v := nI 0) hx hb dL_deliver_2 (by decide) ?_
  refine lv_aload_n hx hb dL_deliver_3 rfl (lv_at hl 0 rfl) ?_
  refine lv_iload_n hx hb dL_deliver_4 rfl (lv_at hl 1 rfl) ?_
  refine lv_iload_n hx hb dL_deliver_5 rfl (lv_at hl 2 rfl) ?_
  refine lv_iload_n hx hb dL_deliver_6 rfl (lv_at hl 3 rfl) ?_
  refine lv_iload hx hb dL_deliver_7 (lv_at hl 4 rfl) ?_
  refine lv_iload hx hb dL_deliver_9 (lv_at hl 5 rfl) ?_
  refine x_callXC (q := 0) (C := RX10) (As := [.int a1, .int a2, .int a3, .int a4, .int a5]) (rest := [.int (nI 0), .ref (α 191)]) ⟨hx, hb, hml, hown, hts⟩ (hM _) (cwV 5 hts gL_deliver_X10_deliver rfl rfl rfl (by decide +kernel) ⟨Nat.le_of_ble_eq_true rfl, Nat.le_of_ble_eq_true rfl⟩) hK hw hsz hV (ws_recv hK hw (q := 0) (Nat.le_of_ble_eq_true rfl) (mk_0 cA α) rfl) rfl hl.1 rfl (Nat.le_of_ble_eq_true rfl) dL_deliver_11 ⟨Nat.le_of_ble_eq_true rfl, Nat.le_of_ble_eq_true rfl⟩ [⟨0, 16, 19, 21⟩] ⟨0, 16, 23, 13⟩ [⟨0, 16, 27, 46⟩] (ht.trans rfl) (fun z hz => by rcases List.mem_cons.mp hz with rfl | hz; exact Or.inr ⟨by decide, _, (hts _ (List.mem_of_getElem? (i := 1) rfl)), hV.2.2.2.1⟩; exact absurd hz List.not_mem_nil) (by decide) (by decide) (hts _ (List.mem_of_getElem? (i := 2) rfl)) (List.mem_of_getElem? (i := 1) rfl) (fun q9 H locs hw => ?_)
  refine lv_astore (lv' := [(7, .ref q9), (0, .ref (α 0)), (1, .int a1), (2, .int a2), (3, .int a3), (4, .int a4), (5, .int a5), (6, .ref (α 191))]) hx hb dL_deliver_23 hl (by decide) rfl (fun ls hl => ?_)
  refine lv_iconst (v := nI 2) hx hb dL_deliver_25 (by decide) ?_
  exact ret_h hx hb hr hlocks hK hw dL_deliver_26 (by decide) (by decide) rfl rfl

set_option maxRecDepth 100000 in
set_option maxHeartbeats 1000000 in
theorem hX_deliver_IS (l : Launch) (sa ka va : Nat → Nat) (D : va_G) (cA : Nat → ClassId) (α : Nat → Nat) (sz : Nat) (S : Mem) (a1 a2 a3 a4 a5 : Int32) (hM : ∀ z, CtX sa l yX10_deliver wsX10_deliver ({ frames := 7, cells := 1, slots := 6, locals := 123 }) D cA α 193 z [.ref (α 0), .int a1, .int a2, .int a3, .int a4, .int a5] S eIS) : CtH sa ka va l yL_deliver wsL_deliver ({ frames := 8, cells := 1, slots := 6, locals := 149 }) D cA α 193 sz [.ref (α 0), .int a1, .int a2, .int a3, .int a4, .int a5, .ref (α 191)] S (nI 3) S := by
  refine cth_enter cL_deliver 8 (some .int) (by decide) rfl (Nat.le_of_ble_eq_true rfl) ?_
  intro p e s m below meth c hx hb hr hml hlocks hown hts hK hsz hw hV ht ls hl
  have hown : s.vm.findClass RL = some m.cls := hown
  have hAw : ∀ z, Aw α 193 s.heap.size z → Aw α 193 sz z := by rw [hsz]; exact fun _ h => h
  have hl : lv_has ls 8 [(0, .ref (α 0)), (1, .int a1), (2, .int a2), (3, .int a3), (4, .int a4), (5, .int a5), (6, .ref (α 191))] := hl
  refine lv_aload hx hb dL_deliver_0 (lv_at hl 6 rfl) ?_
  refine lv_iconst (v := nI 0) hx hb dL_deliver_2 (by decide) ?_
  refine lv_aload_n hx hb dL_deliver_3 rfl (lv_at hl 0 rfl) ?_
  refine lv_iload_n hx hb dL_deliver_4 rfl (lv_at hl 1 rfl) ?_
  refine lv_iload_n hx hb dL_deliver_5 rfl (lv_at hl 2 rfl) ?_
  refine lv_iload_n hx hb dL_deliver_6 rfl (lv_at hl 3 rfl) ?_
  refine lv_iload hx hb dL_deliver_7 (lv_at hl 4 rfl) ?_
  refine lv_iload hx hb dL_deliver_9 (lv_at hl 5 rfl) ?_
  refine x_callXC (q := 0) (C := RX10) (As := [.int a1, .int a2, .int a3, .int a4, .int a5]) (rest := [.int (nI 0), .ref (α 191)]) ⟨hx, hb, hml, hown, hts⟩ (hM _) (cwV 5 hts gL_deliver_X10_deliver rfl rfl rfl (by decide +kernel) ⟨Nat.le_of_ble_eq_true rfl, Nat.le_of_ble_eq_true rfl⟩) hK hw hsz hV (ws_recv hK hw (q := 0) (Nat.le_of_ble_eq_true rfl) (mk_0 cA α) rfl) rfl hl.1 rfl (Nat.le_of_ble_eq_true rfl) dL_deliver_11 ⟨Nat.le_of_ble_eq_true rfl, Nat.le_of_ble_eq_true rfl⟩ [⟨0, 16, 19, 21⟩, ⟨0, 16, 23, 13⟩] ⟨0, 16, 27, 46⟩ [] (ht.trans rfl) (fun z hz => by rcases List.mem_cons.mp hz with rfl | hz; exact Or.inr ⟨by decide, _, (hts _ (List.mem_of_getElem? (i := 1) rfl)), hV.2.2.2.2.1⟩; rcases List.mem_cons.mp hz with rfl | hz; exact Or.inr ⟨by decide, _, (hts _ (List.mem_of_getElem? (i := 2) rfl)), hV.2.2.2.2.2⟩; exact absurd hz List.not_mem_nil) (by decide) (by decide) (hts _ (List.mem_of_getElem? (i := 3) rfl)) (List.mem_of_getElem? (i := 2) rfl) (fun q9 H locs hw => ?_)
  refine lv_astore (lv' := [(7, .ref q9), (0, .ref (α 0)), (1, .int a1), (2, .int a2), (3, .int a3), (4, .int a4), (5, .int a5), (6, .ref (α 191))]) hx hb dL_deliver_27 hl (by decide) rfl (fun ls hl => ?_)
  refine lv_iconst (v := nI 3) hx hb dL_deliver_29 (by decide) ?_
  exact ret_h hx hb hr hlocks hK hw dL_deliver_30 (by decide) (by decide) rfl rfl

set_option maxRecDepth 100000 in
set_option maxHeartbeats 1000000 in
theorem hN_sell (l : Launch) (sa ka va : Nat → Nat) (D : va_G) (cA : Nat → ClassId) (α : Nat → Nat) (sz : Nat) (S : Mem) (a1 a2 a3 a4 : Int32) (v : Int64) (fS : Mem) (hM : ∀ z, CtL l yX10_sell wsX10_sell ({ frames := 7, cells := 0, slots := 0, locals := 123 }) D cA α 193 z [.ref (α 0), .int a1, .int a2, .int a3, .int a4] S v fS) : CtH sa ka va l yL_sell wsL_sell ({ frames := 8, cells := 1, slots := 6, locals := 149 }) D cA α 193 sz [.ref (α 0), .int a1, .int a2, .int a3, .int a4, .ref (α 191)] S (nI 0) (setJ fS 191 0 v) := by
  refine cth_enter cL_sell 7 (some .int) (by decide) rfl (Nat.le_of_ble_eq_true rfl) ?_
  intro p e s m below meth c hx hb hr hml hlocks hown hts hK hsz hw hV ht ls hl
  have hown : s.vm.findClass RL = some m.cls := hown
  have hAw : ∀ z, Aw α 193 s.heap.size z → Aw α 193 sz z := by rw [hsz]; exact fun _ h => h
  have hl : lv_has ls 7 [(0, .ref (α 0)), (1, .int a1), (2, .int a2), (3, .int a3), (4, .int a4), (5, .ref (α 191))] := hl
  refine lv_aload hx hb dL_sell_0 (lv_at hl 5 rfl) ?_
  refine lv_iconst (v := nI 0) hx hb dL_sell_2 (by decide) ?_
  refine lv_aload_n hx hb dL_sell_3 rfl (lv_at hl 0 rfl) ?_
  refine lv_iload_n hx hb dL_sell_4 rfl (lv_at hl 1 rfl) ?_
  refine lv_iload_n hx hb dL_sell_5 rfl (lv_at hl 2 rfl) ?_
  refine lv_iload_n hx hb dL_sell_6 rfl (lv_at hl 3 rfl) ?_
  refine lv_iload hx hb dL_sell_7 (lv_at hl 4 rfl) ?_
  refine x_callVL (q := 0) (C := RX10) (As := [.int a1, .int a2, .int a3, .int a4]) (rest := [.int (nI 0), .ref (α 191)]) ⟨hx, hb, hml, hown, hts⟩ (hM _) (cwV 4 hts gL_sell_X10_sell rfl rfl rfl (by decide +kernel) ⟨Nat.le_of_ble_eq_true rfl, Nat.le_of_ble_eq_true rfl⟩) hK hw hAw (ws_recv hK hw (q := 0) (Nat.le_of_ble_eq_true rfl) (mk_0 cA α) rfl) rfl hl.1 rfl (Nat.le_of_ble_eq_true rfl) dL_sell_9 ⟨Nat.zero_le _, Nat.zero_le _⟩ (fun S1 eS1 H locs hw => ?_)
  refine x_last (x := v) hx hb hK hw 191 1 (Nat.le_of_ble_eq_true rfl) (mk_191 cA α) 0 rfl (by decide) (by decide) dL_sell_12 (fun S2 eS2 H locs hw => ?_)
  refine lv_goto (tgt := 28) hx hb dL_sell_13 (by decide) ?_
  refine lv_iconst (v := nI 0) hx hb dL_sell_28 (by decide) ?_
  exact ret_h hx hb hr hlocks hK hw dL_sell_29 (by decide) (by decide) rfl (by rw [eS2, eS1])

set_option maxRecDepth 100000 in
set_option maxHeartbeats 1000000 in
theorem hX_sell_IO (l : Launch) (sa ka va : Nat → Nat) (D : va_G) (cA : Nat → ClassId) (α : Nat → Nat) (sz : Nat) (S : Mem) (a1 a2 a3 a4 : Int32) (hM : ∀ z, CtX sa l yX10_sell wsX10_sell ({ frames := 7, cells := 1, slots := 6, locals := 123 }) D cA α 193 z [.ref (α 0), .int a1, .int a2, .int a3, .int a4] S eIO) : CtH sa ka va l yL_sell wsL_sell ({ frames := 8, cells := 1, slots := 6, locals := 149 }) D cA α 193 sz [.ref (α 0), .int a1, .int a2, .int a3, .int a4, .ref (α 191)] S (nI 1) S := by
  refine cth_enter cL_sell 7 (some .int) (by decide) rfl (Nat.le_of_ble_eq_true rfl) ?_
  intro p e s m below meth c hx hb hr hml hlocks hown hts hK hsz hw hV ht ls hl
  have hown : s.vm.findClass RL = some m.cls := hown
  have hAw : ∀ z, Aw α 193 s.heap.size z → Aw α 193 sz z := by rw [hsz]; exact fun _ h => h
  have hl : lv_has ls 7 [(0, .ref (α 0)), (1, .int a1), (2, .int a2), (3, .int a3), (4, .int a4), (5, .ref (α 191))] := hl
  refine lv_aload hx hb dL_sell_0 (lv_at hl 5 rfl) ?_
  refine lv_iconst (v := nI 0) hx hb dL_sell_2 (by decide) ?_
  refine lv_aload_n hx hb dL_sell_3 rfl (lv_at hl 0 rfl) ?_
  refine lv_iload_n hx hb dL_sell_4 rfl (lv_at hl 1 rfl) ?_
  refine lv_iload_n hx hb dL_sell_5 rfl (lv_at hl 2 rfl) ?_
  refine lv_iload_n hx hb dL_sell_6 rfl (lv_at hl 3 rfl) ?_
  refine lv_iload hx hb dL_sell_7 (lv_at hl 4 rfl) ?_
  refine x_callXC (q := 0) (C := RX10) (As := [.int a1, .int a2, .int a3, .int a4]) (rest := [.int (nI 0), .ref (α 191)]) ⟨hx, hb, hml, hown, hts⟩ (hM _) (cwV 4 hts gL_sell_X10_sell rfl rfl rfl (by decide +kernel) ⟨Nat.le_of_ble_eq_true rfl, Nat.le_of_ble_eq_true rfl⟩) hK hw hsz hV (ws_recv hK hw (q := 0) (Nat.le_of_ble_eq_true rfl) (mk_0 cA α) rfl) rfl hl.1 rfl (Nat.le_of_ble_eq_true rfl) dL_sell_9 ⟨Nat.le_of_ble_eq_true rfl, Nat.le_of_ble_eq_true rfl⟩ [] ⟨0, 13, 16, 21⟩ [⟨0, 13, 20, 13⟩, ⟨0, 13, 24, 46⟩] (ht.trans rfl) (fun z hz => by exact absurd hz List.not_mem_nil) (by decide) (by decide) (hts _ (List.mem_of_getElem? (i := 1) rfl)) (List.mem_of_getElem? (i := 0) rfl) (fun q9 H locs hw => ?_)
  refine lv_astore (lv' := [(6, .ref q9), (0, .ref (α 0)), (1, .int a1), (2, .int a2), (3, .int a3), (4, .int a4), (5, .ref (α 191))]) hx hb dL_sell_16 hl (by decide) rfl (fun ls hl => ?_)
  refine lv_iconst (v := nI 1) hx hb dL_sell_18 (by decide) ?_
  exact ret_h hx hb hr hlocks hK hw dL_sell_19 (by decide) (by decide) rfl rfl

set_option maxRecDepth 100000 in
set_option maxHeartbeats 1000000 in
theorem hX_sell_IA (l : Launch) (sa ka va : Nat → Nat) (D : va_G) (cA : Nat → ClassId) (α : Nat → Nat) (sz : Nat) (S : Mem) (a1 a2 a3 a4 : Int32) (hM : ∀ z, CtX sa l yX10_sell wsX10_sell ({ frames := 7, cells := 1, slots := 6, locals := 123 }) D cA α 193 z [.ref (α 0), .int a1, .int a2, .int a3, .int a4] S eIA) : CtH sa ka va l yL_sell wsL_sell ({ frames := 8, cells := 1, slots := 6, locals := 149 }) D cA α 193 sz [.ref (α 0), .int a1, .int a2, .int a3, .int a4, .ref (α 191)] S (nI 2) S := by
  refine cth_enter cL_sell 7 (some .int) (by decide) rfl (Nat.le_of_ble_eq_true rfl) ?_
  intro p e s m below meth c hx hb hr hml hlocks hown hts hK hsz hw hV ht ls hl
  have hown : s.vm.findClass RL = some m.cls := hown
  have hAw : ∀ z, Aw α 193 s.heap.size z → Aw α 193 sz z := by rw [hsz]; exact fun _ h => h
  have hl : lv_has ls 7 [(0, .ref (α 0)), (1, .int a1), (2, .int a2), (3, .int a3), (4, .int a4), (5, .ref (α 191))] := hl
  refine lv_aload hx hb dL_sell_0 (lv_at hl 5 rfl) ?_
  refine lv_iconst (v := nI 0) hx hb dL_sell_2 (by decide) ?_
  refine lv_aload_n hx hb dL_sell_3 rfl (lv_at hl 0 rfl) ?_
  refine lv_iload_n hx hb dL_sell_4 rfl (lv_at hl 1 rfl) ?_
  refine lv_iload_n hx hb dL_sell_5 rfl (lv_at hl 2 rfl) ?_
  refine lv_iload_n hx hb dL_sell_6 rfl (lv_at hl 3 rfl) ?_
  refine lv_iload hx hb dL_sell_7 (lv_at hl 4 rfl) ?_
  refine x_callXC (q := 0) (C := RX10) (As := [.int a1, .int a2, .int a3, .int a4]) (rest := [.int (nI 0), .ref (α 191)]) ⟨hx, hb, hml, hown, hts⟩ (hM _) (cwV 4 hts gL_sell_X10_sell rfl rfl rfl (by decide +kernel) ⟨Nat.le_of_ble_eq_true rfl, Nat.le_of_ble_eq_true rfl⟩) hK hw hsz hV (ws_recv hK hw (q := 0) (Nat.le_of_ble_eq_true rfl) (mk_0 cA α) rfl) rfl hl.1 rfl (Nat.le_of_ble_eq_true rfl) dL_sell_9 ⟨Nat.le_of_ble_eq_true rfl, Nat.le_of_ble_eq_true rfl⟩ [⟨0, 13, 16, 21⟩] ⟨0, 13, 20, 13⟩ [⟨0, 13, 24, 46⟩] (ht.trans rfl) (fun z hz => by rcases List.mem_cons.mp hz with rfl | hz; exact Or.inr ⟨by decide, _, (hts _ (List.mem_of_getElem? (i := 1) rfl)), hV.2.2.2.1⟩; exact absurd hz List.not_mem_nil) (by decide) (by decide) (hts _ (List.mem_of_getElem? (i := 2) rfl)) (List.mem_of_getElem? (i := 1) rfl) (fun q9 H locs hw => ?_)
  refine lv_astore (lv' := [(6, .ref q9), (0, .ref (α 0)), (1, .int a1), (2, .int a2), (3, .int a3), (4, .int a4), (5, .ref (α 191))]) hx hb dL_sell_20 hl (by decide) rfl (fun ls hl => ?_)
  refine lv_iconst (v := nI 2) hx hb dL_sell_22 (by decide) ?_
  exact ret_h hx hb hr hlocks hK hw dL_sell_23 (by decide) (by decide) rfl rfl

set_option maxRecDepth 100000 in
set_option maxHeartbeats 1000000 in
theorem hX_sell_IS (l : Launch) (sa ka va : Nat → Nat) (D : va_G) (cA : Nat → ClassId) (α : Nat → Nat) (sz : Nat) (S : Mem) (a1 a2 a3 a4 : Int32) (hM : ∀ z, CtX sa l yX10_sell wsX10_sell ({ frames := 7, cells := 1, slots := 6, locals := 123 }) D cA α 193 z [.ref (α 0), .int a1, .int a2, .int a3, .int a4] S eIS) : CtH sa ka va l yL_sell wsL_sell ({ frames := 8, cells := 1, slots := 6, locals := 149 }) D cA α 193 sz [.ref (α 0), .int a1, .int a2, .int a3, .int a4, .ref (α 191)] S (nI 3) S := by
  refine cth_enter cL_sell 7 (some .int) (by decide) rfl (Nat.le_of_ble_eq_true rfl) ?_
  intro p e s m below meth c hx hb hr hml hlocks hown hts hK hsz hw hV ht ls hl
  have hown : s.vm.findClass RL = some m.cls := hown
  have hAw : ∀ z, Aw α 193 s.heap.size z → Aw α 193 sz z := by rw [hsz]; exact fun _ h => h
  have hl : lv_has ls 7 [(0, .ref (α 0)), (1, .int a1), (2, .int a2), (3, .int a3), (4, .int a4), (5, .ref (α 191))] := hl
  refine lv_aload hx hb dL_sell_0 (lv_at hl 5 rfl) ?_
  refine lv_iconst (v := nI 0) hx hb dL_sell_2 (by decide) ?_
  refine lv_aload_n hx hb dL_sell_3 rfl (lv_at hl 0 rfl) ?_
  refine lv_iload_n hx hb dL_sell_4 rfl (lv_at hl 1 rfl) ?_
  refine lv_iload_n hx hb dL_sell_5 rfl (lv_at hl 2 rfl) ?_
  refine lv_iload_n hx hb dL_sell_6 rfl (lv_at hl 3 rfl) ?_
  refine lv_iload hx hb dL_sell_7 (lv_at hl 4 rfl) ?_
  refine x_callXC (q := 0) (C := RX10) (As := [.int a1, .int a2, .int a3, .int a4]) (rest := [.int (nI 0), .ref (α 191)]) ⟨hx, hb, hml, hown, hts⟩ (hM _) (cwV 4 hts gL_sell_X10_sell rfl rfl rfl (by decide +kernel) ⟨Nat.le_of_ble_eq_true rfl, Nat.le_of_ble_eq_true rfl⟩) hK hw hsz hV (ws_recv hK hw (q := 0) (Nat.le_of_ble_eq_true rfl) (mk_0 cA α) rfl) rfl hl.1 rfl (Nat.le_of_ble_eq_true rfl) dL_sell_9 ⟨Nat.le_of_ble_eq_true rfl, Nat.le_of_ble_eq_true rfl⟩ [⟨0, 13, 16, 21⟩, ⟨0, 13, 20, 13⟩] ⟨0, 13, 24, 46⟩ [] (ht.trans rfl) (fun z hz => by rcases List.mem_cons.mp hz with rfl | hz; exact Or.inr ⟨by decide, _, (hts _ (List.mem_of_getElem? (i := 1) rfl)), hV.2.2.2.2.1⟩; rcases List.mem_cons.mp hz with rfl | hz; exact Or.inr ⟨by decide, _, (hts _ (List.mem_of_getElem? (i := 2) rfl)), hV.2.2.2.2.2⟩; exact absurd hz List.not_mem_nil) (by decide) (by decide) (hts _ (List.mem_of_getElem? (i := 3) rfl)) (List.mem_of_getElem? (i := 2) rfl) (fun q9 H locs hw => ?_)
  refine lv_astore (lv' := [(6, .ref q9), (0, .ref (α 0)), (1, .int a1), (2, .int a2), (3, .int a3), (4, .int a4), (5, .ref (α 191))]) hx hb dL_sell_24 hl (by decide) rfl (fun ls hl => ?_)
  refine lv_iconst (v := nI 3) hx hb dL_sell_26 (by decide) ?_
  exact ret_h hx hb hr hlocks hK hw dL_sell_27 (by decide) (by decide) rfl rfl
