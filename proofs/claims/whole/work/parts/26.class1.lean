/-! the class's methods -/
theorem cRem_1 {S : Mem} {t k K M q : Nat} (h : q < 83) (h2 : q ≠ 11) : (cRem S t k K M).1 q = S.1 q := by
  unfold cRem
  rw [sI_1 h2, sI_1 h2]
  exact (cpSt_agr S (t + 1) 0 K M q (Or.inl (by omega))).1
theorem cRem_2 {S : Mem} {t k K M q : Nat} (h : q < 83) : (cRem S t k K M).2 q = S.2 q := by
  unfold cRem
  rw [sI_2, sI_2]
  exact (cpSt_agr S (t + 1) 0 K M q (Or.inl (by omega))).2
theorem cVal_of {S T : Mem} {j : Nat} (e1 : T.1 45 = S.1 45) (e2 : T.1 25 = S.1 25) (e3 : T.1 81 = S.1 81) (e4 : T.1 76 = S.1 76) (e5 : T.1 75 = S.1 75) (e6 : T.2 79 = S.2 79) : cVal T j = cVal S j := by
  unfold cVal cRate; rw [e1, e2, e3, e4, e5, e6]
theorem cRem_ok {S : Mem} {t k K M j : Nat} (h : okC S j) : okC (cRem S t k K M) j := okC_of h (cRem_1 (by decide) (by decide)) (cRem_1 (by decide) (by decide))
theorem cRem_val {S : Mem} {t k K M j : Nat} : cVal (cRem S t k K M) j = cVal S j := cVal_of (cRem_1 (by decide) (by decide)) (cRem_1 (by decide) (by decide)) (cRem_1 (by decide) (by decide)) (cRem_1 (by decide) (by decide)) (cRem_1 (by decide) (by decide)) (cRem_2 (by decide))

set_option maxRecDepth 100000 in
set_option maxHeartbeats 1000000 in
theorem ct_X10_append (l : Launch) (D : va_G) (cA : Nat → ClassId) (α : Nat → Nat) (n sz : Nat) (hn : 191 ≤ n) (S : Mem) (a b d1 d2 d3 : Int32) (k : Nat) (hk : S.1 1 1 = nI k) (hk2 : k ≤ 580) : CtI l yX10_append wsX10_append ({ frames := 2, cells := 0, slots := 0, locals := 47 }) D cA α n sz [.ref (α 0), .int a, .int b, .int d1, .int d2, .int d3] S (nI (k + 4 + 4 + 4 + 4 + 4)) (by20 S 2 1 1 a b d1 d2 d3 k) := by
  refine ct_enter cX10_append 6 (some .int) (by decide) rfl (Nat.le_of_ble_eq_true rfl) ?_
  intro p e s m below meth c hx hb hr hml hlocks hown hts hK hsz hw ls hl
  have hown : s.vm.findClass RX10 = some m.cls := hown
  have hAw : ∀ z, Aw α n s.heap.size z → Aw α n sz z := by rw [hsz]; exact fun _ h => h
  have hl : lv_has ls 6 [(0, .ref (α 0)), (1, .int a), (2, .int b), (3, .int d1), (4, .int d2), (5, .int d3)] := hl
  refine lv_aload_n hx hb dX10_append_0 rfl (lv_at hl 0 rfl) ?_
  refine x_get (v := .ref (α 1)) (C := RX10) (T := TX10) (N := 7) hx hb hts (fun _ h => List.mem_cons_of_mem _ (List.mem_append_left _ (List.mem_append_right _ h))) hown hK hw 0 (Nat.lt_of_lt_of_le (Nat.le_of_ble_eq_true rfl : 0 < 191) hn) (mk_0 cA α) rfl 0 (by decide) (hts _ (List.mem_of_getElem? (i := 1) rfl)) (fun _ h9 => h9) rfl dX10_append_1 ?_
  refine lv_iload_n hx hb dX10_append_4 rfl (lv_at hl 1 rfl) ?_
  refine lv_iload_n hx hb dX10_append_5 rfl (lv_at hl 2 rfl) ?_
  refine lv_iload_n hx hb dX10_append_6 rfl (lv_at hl 3 rfl) ?_
  refine lv_iload hx hb dX10_append_7 (lv_at hl 4 rfl) ?_
  refine lv_iload hx hb dX10_append_9 (lv_at hl 5 rfl) ?_
  refine x_callVI (q := 1) (C := RX3) (As := [.int a, .int b, .int d1, .int d2, .int d3]) (rest := []) ⟨hx, hb, hml, hown, hts⟩ (ct_X3_addTwenty l D cA α n _ hn S a b d1 d2 d3 k hk hk2) (cwV 5 hts gX10_append_X3_addTwenty rfl rfl rfl (by decide +kernel) ⟨Nat.le_of_ble_eq_true rfl, Nat.le_of_ble_eq_true rfl⟩) hK hw hAw (ws_recv hK hw (q := 1) (Nat.lt_of_lt_of_le (Nat.le_of_ble_eq_true rfl : 1 < 191) hn) (mk_1 cA α) rfl) rfl hl.1 rfl (Nat.le_of_ble_eq_true rfl) dX10_append_11 ⟨Nat.zero_le _, Nat.zero_le _⟩ (fun S1 eS1 H locs hw => ?_)
  exact ret_i hx hb hr hlocks hK hw dX10_append_14 rfl (by subst_vars; rfl)

set_option maxRecDepth 100000 in
set_option maxHeartbeats 1000000 in
theorem ct_X10_appendX (l : Launch) (D : va_G) (cA : Nat → ClassId) (α : Nat → Nat) (n sz : Nat) (hn : 191 ≤ n) (S : Mem) (a b d1 d2 d3 : Int32) (k : Nat) (hk : S.1 1 1 = nI k) (hk2 : 580 < k) (hk3 : k ≤ 600) : CtI l yX10_append wsX10_append ({ frames := 2, cells := 0, slots := 0, locals := 47 }) D cA α n sz [.ref (α 0), .int a, .int b, .int d1, .int d2, .int d3] S (-1) S := by
  refine ct_enter cX10_append 6 (some .int) (by decide) rfl (Nat.le_of_ble_eq_true rfl) ?_
  intro p e s m below meth c hx hb hr hml hlocks hown hts hK hsz hw ls hl
  have hown : s.vm.findClass RX10 = some m.cls := hown
  have hAw : ∀ z, Aw α n s.heap.size z → Aw α n sz z := by rw [hsz]; exact fun _ h => h
  have hl : lv_has ls 6 [(0, .ref (α 0)), (1, .int a), (2, .int b), (3, .int d1), (4, .int d2), (5, .int d3)] := hl
  refine lv_aload_n hx hb dX10_append_0 rfl (lv_at hl 0 rfl) ?_
  refine x_get (v := .ref (α 1)) (C := RX10) (T := TX10) (N := 7) hx hb hts (fun _ h => List.mem_cons_of_mem _ (List.mem_append_left _ (List.mem_append_right _ h))) hown hK hw 0 (Nat.lt_of_lt_of_le (Nat.le_of_ble_eq_true rfl : 0 < 191) hn) (mk_0 cA α) rfl 0 (by decide) (hts _ (List.mem_of_getElem? (i := 1) rfl)) (fun _ h9 => h9) rfl dX10_append_1 ?_
  refine lv_iload_n hx hb dX10_append_4 rfl (lv_at hl 1 rfl) ?_
  refine lv_iload_n hx hb dX10_append_5 rfl (lv_at hl 2 rfl) ?_
  refine lv_iload_n hx hb dX10_append_6 rfl (lv_at hl 3 rfl) ?_
  refine lv_iload hx hb dX10_append_7 (lv_at hl 4 rfl) ?_
  refine lv_iload hx hb dX10_append_9 (lv_at hl 5 rfl) ?_
  refine x_callVIr (q := 1) (C := RX3) (As := [.int a, .int b, .int d1, .int d2, .int d3]) (rest := []) ⟨hx, hb, hml, hown, hts⟩ (ct_X3_addTwentyX l D cA α n _ hn S a b d1 d2 d3 k hk hk2 hk3) (cwV 5 hts gX10_append_X3_addTwenty rfl rfl rfl (by decide +kernel) ⟨Nat.le_of_ble_eq_true rfl, Nat.le_of_ble_eq_true rfl⟩) hK hw hAw (ws_recv hK hw (q := 1) (Nat.lt_of_lt_of_le (Nat.le_of_ble_eq_true rfl : 1 < 191) hn) (mk_1 cA α) rfl) rfl hl.1 rfl (Nat.le_of_ble_eq_true rfl) dX10_append_11 ⟨Nat.zero_le _, Nat.zero_le _⟩ (fun H locs hw => ?_)
  exact ret_i hx hb hr hlocks hK hw dX10_append_14 rfl rfl

set_option maxRecDepth 100000 in
set_option maxHeartbeats 1000000 in
theorem ct_X10_size0 (l : Launch) (D : va_G) (cA : Nat → ClassId) (α : Nat → Nat) (n sz : Nat) (hn : 191 ≤ n) (S : Mem)  : CtI l yX10_size wsX10_size ({ frames := 6, cells := 0, slots := 0, locals := 100 }) D cA α n sz [.ref (α 0), .int (nI 0)] S (S.1 23 0) S := by
  refine ct_enter cX10_size 2 (some .int) (by decide) rfl (Nat.le_of_ble_eq_true rfl) ?_
  intro p e s m below meth c hx hb hr hml hlocks hown hts hK hsz hw ls hl
  have hown : s.vm.findClass RX10 = some m.cls := hown
  have hAw : ∀ z, Aw α n s.heap.size z → Aw α n sz z := by rw [hsz]; exact fun _ h => h
  have hl : lv_has ls 2 [(0, .ref (α 0)), (1, .int (nI 0))] := hl
  refine lv_iload_n hx hb dX10_size_0 rfl (lv_at hl 1 rfl) ?_
  refine lv_tableIn (tgt := 36) (off := 35) hx hb dX10_size_1 (by decide) (by decide) (by decide) (by decide) ?_
  refine lv_aload_n hx hb dX10_size_36 rfl (lv_at hl 0 rfl) ?_
  refine x_get (v := .ref (α 3)) (C := RX10) (T := TX10) (N := 7) hx hb hts (fun _ h => List.mem_cons_of_mem _ (List.mem_append_left _ (List.mem_append_left _ (List.mem_append_left _ (List.mem_append_left _ (List.mem_append_right _ h)))))) hown hK hw 0 (Nat.lt_of_lt_of_le (Nat.le_of_ble_eq_true rfl : 0 < 191) hn) (mk_0 cA α) rfl 1 (by decide) (hts _ (List.mem_of_getElem? (i := 3) rfl)) (fun _ h9 => h9) rfl dX10_size_37 ?_
  refine x_get (v := .ref (α 23)) (C := RX0) (T := TX0) (N := 3) hx hb hts (fun _ h => List.mem_cons_of_mem _ (List.mem_append_left _ (List.mem_append_left _ (List.mem_append_left _ (List.mem_append_right _ h))))) hown hK hw 3 (Nat.lt_of_lt_of_le (Nat.le_of_ble_eq_true rfl : 3 < 191) hn) (mk_3 cA α) rfl 0 (by decide) (hts _ (List.mem_of_getElem? (i := 4) rfl)) (fun _ h9 => h9) rfl dX10_size_40 ?_
  refine x_get (v := .int (S.1 23 0)) (C := RX2) (T := TX2) (N := 12) hx hb hts (fun _ h => List.mem_cons_of_mem _ (List.mem_append_left _ (List.mem_append_left _ (List.mem_append_right _ h)))) hown hK hw 23 (Nat.lt_of_lt_of_le (Nat.le_of_ble_eq_true rfl : 23 < 191) hn) (mk_23 cA α) rfl 0 (by decide) (hts _ (List.mem_of_getElem? (i := 5) rfl)) (fun _ h9 => h9) rfl dX10_size_43 ?_
  exact ret_i hx hb hr hlocks hK hw dX10_size_46 rfl rfl

set_option maxRecDepth 100000 in
set_option maxHeartbeats 1000000 in
theorem ct_X10_size1 (l : Launch) (D : va_G) (cA : Nat → ClassId) (α : Nat → Nat) (n sz : Nat) (hn : 191 ≤ n) (S : Mem)  : CtI l yX10_size wsX10_size ({ frames := 6, cells := 0, slots := 0, locals := 100 }) D cA α n sz [.ref (α 0), .int (nI 1)] S (S.1 23 1) S := by
  refine ct_enter cX10_size 2 (some .int) (by decide) rfl (Nat.le_of_ble_eq_true rfl) ?_
  intro p e s m below meth c hx hb hr hml hlocks hown hts hK hsz hw ls hl
  have hown : s.vm.findClass RX10 = some m.cls := hown
  have hAw : ∀ z, Aw α n s.heap.size z → Aw α n sz z := by rw [hsz]; exact fun _ h => h
  have hl : lv_has ls 2 [(0, .ref (α 0)), (1, .int (nI 1))] := hl
  refine lv_iload_n hx hb dX10_size_0 rfl (lv_at hl 1 rfl) ?_
  refine lv_tableIn (tgt := 47) (off := 46) hx hb dX10_size_1 (by decide) (by decide) (by decide) (by decide) ?_
  refine lv_aload_n hx hb dX10_size_47 rfl (lv_at hl 0 rfl) ?_
  refine x_get (v := .ref (α 3)) (C := RX10) (T := TX10) (N := 7) hx hb hts (fun _ h => List.mem_cons_of_mem _ (List.mem_append_left _ (List.mem_append_left _ (List.mem_append_left _ (List.mem_append_left _ (List.mem_append_right _ h)))))) hown hK hw 0 (Nat.lt_of_lt_of_le (Nat.le_of_ble_eq_true rfl : 0 < 191) hn) (mk_0 cA α) rfl 1 (by decide) (hts _ (List.mem_of_getElem? (i := 3) rfl)) (fun _ h9 => h9) rfl dX10_size_48 ?_
  refine x_get (v := .ref (α 23)) (C := RX0) (T := TX0) (N := 3) hx hb hts (fun _ h => List.mem_cons_of_mem _ (List.mem_append_left _ (List.mem_append_left _ (List.mem_append_left _ (List.mem_append_right _ h))))) hown hK hw 3 (Nat.lt_of_lt_of_le (Nat.le_of_ble_eq_true rfl : 3 < 191) hn) (mk_3 cA α) rfl 0 (by decide) (hts _ (List.mem_of_getElem? (i := 4) rfl)) (fun _ h9 => h9) rfl dX10_size_51 ?_
  refine x_get (v := .int (S.1 23 1)) (C := RX2) (T := TX2) (N := 12) hx hb hts (fun _ h => List.mem_cons_of_mem _ (List.mem_append_left _ (List.mem_append_left _ (List.mem_append_right _ h)))) hown hK hw 23 (Nat.lt_of_lt_of_le (Nat.le_of_ble_eq_true rfl : 23 < 191) hn) (mk_23 cA α) rfl 1 (by decide) (hts _ (List.mem_of_getElem? (i := 6) rfl)) (fun _ h9 => h9) rfl dX10_size_54 ?_
  exact ret_i hx hb hr hlocks hK hw dX10_size_57 rfl rfl

set_option maxRecDepth 100000 in
set_option maxHeartbeats 1000000 in
theorem ct_X10_size2 (l : Launch) (D : va_G) (cA : Nat → ClassId) (α : Nat → Nat) (n sz : Nat) (hn : 191 ≤ n) (S : Mem)  : CtI l yX10_size wsX10_size ({ frames := 6, cells := 0, slots := 0, locals := 100 }) D cA α n sz [.ref (α 0), .int (nI 2)] S (S.1 23 2) S := by
  refine ct_enter cX10_size 2 (some .int) (by decide) rfl (Nat.le_of_ble_eq_true rfl) ?_
  intro p e s m below meth c hx hb hr hml hlocks hown hts hK hsz hw ls hl
  have hown : s.vm.findClass RX10 = some m.cls := hown
  have hAw : ∀ z, Aw α n s.heap.size z → Aw α n sz z := by rw [hsz]; exact fun _ h => h
  have hl : lv_has ls 2 [(0, .ref (α 0)), (1, .int (nI 2))] := hl
  refine lv_iload_n hx hb dX10_size_0 rfl (lv_at hl 1 rfl) ?_
  refine lv_tableIn (tgt := 58) (off := 57) hx hb dX10_size_1 (by decide) (by decide) (by decide) (by decide) ?_
  refine lv_aload_n hx hb dX10_size_58 rfl (lv_at hl 0 rfl) ?_
  refine x_get (v := .ref (α 3)) (C := RX10) (T := TX10) (N := 7) hx hb hts (fun _ h => List.mem_cons_of_mem _ (List.mem_append_left _ (List.mem_append_left _ (List.mem_append_left _ (List.mem_append_left _ (List.mem_append_right _ h)))))) hown hK hw 0 (Nat.lt_of_lt_of_le (Nat.le_of_ble_eq_true rfl : 0 < 191) hn) (mk_0 cA α) rfl 1 (by decide) (hts _ (List.mem_of_getElem? (i := 3) rfl)) (fun _ h9 => h9) rfl dX10_size_59 ?_
  refine x_get (v := .ref (α 23)) (C := RX0) (T := TX0) (N := 3) hx hb hts (fun _ h => List.mem_cons_of_mem _ (List.mem_append_left _ (List.mem_append_left _ (List.mem_append_left _ (List.mem_append_right _ h))))) hown hK hw 3 (Nat.lt_of_lt_of_le (Nat.le_of_ble_eq_true rfl : 3 < 191) hn) (mk_3 cA α) rfl 0 (by decide) (hts _ (List.mem_of_getElem? (i := 4) rfl)) (fun _ h9 => h9) rfl dX10_size_62 ?_
  refine x_get (v := .int (S.1 23 2)) (C := RX2) (T := TX2) (N := 12) hx hb hts (fun _ h => List.mem_cons_of_mem _ (List.mem_append_left _ (List.mem_append_left _ (List.mem_append_right _ h)))) hown hK hw 23 (Nat.lt_of_lt_of_le (Nat.le_of_ble_eq_true rfl : 23 < 191) hn) (mk_23 cA α) rfl 2 (by decide) (hts _ (List.mem_of_getElem? (i := 7) rfl)) (fun _ h9 => h9) rfl dX10_size_65 ?_
  exact ret_i hx hb hr hlocks hK hw dX10_size_68 rfl rfl

set_option maxRecDepth 100000 in
set_option maxHeartbeats 1000000 in
theorem ct_X10_size3 (l : Launch) (D : va_G) (cA : Nat → ClassId) (α : Nat → Nat) (n sz : Nat) (hn : 191 ≤ n) (S : Mem)  : CtI l yX10_size wsX10_size ({ frames := 6, cells := 0, slots := 0, locals := 100 }) D cA α n sz [.ref (α 0), .int (nI 3)] S (S.1 74 0) S := by
  refine ct_enter cX10_size 2 (some .int) (by decide) rfl (Nat.le_of_ble_eq_true rfl) ?_
  intro p e s m below meth c hx hb hr hml hlocks hown hts hK hsz hw ls hl
  have hown : s.vm.findClass RX10 = some m.cls := hown
  have hAw : ∀ z, Aw α n s.heap.size z → Aw α n sz z := by rw [hsz]; exact fun _ h => h
  have hl : lv_has ls 2 [(0, .ref (α 0)), (1, .int (nI 3))] := hl
  refine lv_iload_n hx hb dX10_size_0 rfl (lv_at hl 1 rfl) ?_
  refine lv_tableIn (tgt := 69) (off := 68) hx hb dX10_size_1 (by decide) (by decide) (by decide) (by decide) ?_
  refine lv_aload_n hx hb dX10_size_69 rfl (lv_at hl 0 rfl) ?_
  refine x_get (v := .ref (α 3)) (C := RX10) (T := TX10) (N := 7) hx hb hts (fun _ h => List.mem_cons_of_mem _ (List.mem_append_left _ (List.mem_append_left _ (List.mem_append_left _ (List.mem_append_left _ (List.mem_append_right _ h)))))) hown hK hw 0 (Nat.lt_of_lt_of_le (Nat.le_of_ble_eq_true rfl : 0 < 191) hn) (mk_0 cA α) rfl 1 (by decide) (hts _ (List.mem_of_getElem? (i := 3) rfl)) (fun _ h9 => h9) rfl dX10_size_70 ?_
  refine x_get (v := .ref (α 74)) (C := RX0) (T := TX0) (N := 3) hx hb hts (fun _ h => List.mem_cons_of_mem _ (List.mem_append_left _ (List.mem_append_left _ (List.mem_append_left _ (List.mem_append_right _ h))))) hown hK hw 3 (Nat.lt_of_lt_of_le (Nat.le_of_ble_eq_true rfl : 3 < 191) hn) (mk_3 cA α) rfl 2 (by decide) (hts _ (List.mem_of_getElem? (i := 8) rfl)) (fun _ h9 => h9) rfl dX10_size_73 ?_
  refine x_get (v := .int (S.1 74 0)) (C := RX9) (T := TX9) (N := 14) hx hb hts (fun _ h => List.mem_cons_of_mem _ (List.mem_append_left _ (List.mem_append_right _ h))) hown hK hw 74 (Nat.lt_of_lt_of_le (Nat.le_of_ble_eq_true rfl : 74 < 191) hn) (mk_74 cA α) rfl 0 (by decide) (hts _ (List.mem_of_getElem? (i := 9) rfl)) (fun _ h9 => h9) rfl dX10_size_76 ?_
  exact ret_i hx hb hr hlocks hK hw dX10_size_79 rfl rfl

set_option maxRecDepth 100000 in
set_option maxHeartbeats 1000000 in
theorem ct_X10_size4 (l : Launch) (D : va_G) (cA : Nat → ClassId) (α : Nat → Nat) (n sz : Nat) (hn : 191 ≤ n) (S : Mem)  : CtI l yX10_size wsX10_size ({ frames := 6, cells := 0, slots := 0, locals := 100 }) D cA α n sz [.ref (α 0), .int (nI 4)] S (S.1 74 1) S := by
  refine ct_enter cX10_size 2 (some .int) (by decide) rfl (Nat.le_of_ble_eq_true rfl) ?_
  intro p e s m below meth c hx hb hr hml hlocks hown hts hK hsz hw ls hl
  have hown : s.vm.findClass RX10 = some m.cls := hown
  have hAw : ∀ z, Aw α n s.heap.size z → Aw α n sz z := by rw [hsz]; exact fun _ h => h
  have hl : lv_has ls 2 [(0, .ref (α 0)), (1, .int (nI 4))] := hl
  refine lv_iload_n hx hb dX10_size_0 rfl (lv_at hl 1 rfl) ?_
  refine lv_tableIn (tgt := 80) (off := 79) hx hb dX10_size_1 (by decide) (by decide) (by decide) (by decide) ?_
  refine lv_aload_n hx hb dX10_size_80 rfl (lv_at hl 0 rfl) ?_
  refine x_get (v := .ref (α 3)) (C := RX10) (T := TX10) (N := 7) hx hb hts (fun _ h => List.mem_cons_of_mem _ (List.mem_append_left _ (List.mem_append_left _ (List.mem_append_left _ (List.mem_append_left _ (List.mem_append_right _ h)))))) hown hK hw 0 (Nat.lt_of_lt_of_le (Nat.le_of_ble_eq_true rfl : 0 < 191) hn) (mk_0 cA α) rfl 1 (by decide) (hts _ (List.mem_of_getElem? (i := 3) rfl)) (fun _ h9 => h9) rfl dX10_size_81 ?_
  refine x_get (v := .ref (α 74)) (C := RX0) (T := TX0) (N := 3) hx hb hts (fun _ h => List.mem_cons_of_mem _ (List.mem_append_left _ (List.mem_append_left _ (List.mem_append_left _ (List.mem_append_right _ h))))) hown hK hw 3 (Nat.lt_of_lt_of_le (Nat.le_of_ble_eq_true rfl : 3 < 191) hn) (mk_3 cA α) rfl 2 (by decide) (hts _ (List.mem_of_getElem? (i := 8) rfl)) (fun _ h9 => h9) rfl dX10_size_84 ?_
  refine x_get (v := .int (S.1 74 1)) (C := RX9) (T := TX9) (N := 14) hx hb hts (fun _ h => List.mem_cons_of_mem _ (List.mem_append_left _ (List.mem_append_right _ h))) hown hK hw 74 (Nat.lt_of_lt_of_le (Nat.le_of_ble_eq_true rfl : 74 < 191) hn) (mk_74 cA α) rfl 1 (by decide) (hts _ (List.mem_of_getElem? (i := 10) rfl)) (fun _ h9 => h9) rfl dX10_size_87 ?_
  exact ret_i hx hb hr hlocks hK hw dX10_size_90 rfl rfl

set_option maxRecDepth 100000 in
set_option maxHeartbeats 1000000 in
theorem ct_X10_sizeX (l : Launch) (hst : l.stackTraces = false) (sa : Nat → Nat) (D : va_G) (cA : Nat → ClassId) (α : Nat → Nat) (n sz : Nat) (hn : 191 ≤ n) (S : Mem) (x : Int32) (hx9 : x.toInt < 0 ∨ 4 < x.toInt) : CtX sa l yX10_size wsX10_size ({ frames := 6, cells := 1, slots := 6, locals := 100 }) D cA α n sz [.ref (α 0), .int x] S eIA := by
  refine ctx_enter cX10_size 2 (some .int) (by decide) rfl (Nat.le_of_ble_eq_true rfl) ?_
  intro p e s m below meth c hx hb hr hml hlocks hown hts hK hsz hw hZ hSx hout ls hl
  have hown : s.vm.findClass RX10 = some m.cls := hown
  have hAw : ∀ z, Aw α n s.heap.size z → Aw α n sz z := by rw [hsz]; exact fun _ h => h
  have hl : lv_has ls 2 [(0, .ref (α 0)), (1, .int x)] := hl
  refine lv_iload_n hx hb dX10_size_0 rfl (lv_at hl 1 rfl) ?_
  refine lv_tableOut (tgt := 91) hx hb dX10_size_1 hx9 (by decide) ?_
  exact x_throwS (names := eUp) (rest := []) hx hb hst hown fit_IA fit_Up (hts _ (List.mem_of_getElem? (i := 1) rfl)) (hts _ (List.mem_of_getElem? (i := 2) rfl)) (hSx.1 _ (List.mem_of_getElem? (i := 1) rfl)) (at_IA hSx (fun w h => hts w ((fun _ h => List.mem_cons_of_mem _ (List.mem_append_right _ h)) w h))) ga_IA hZ hK hw (hl.1.trans hml.symm) dX10_size_91 dX10_size_94 dX10_size_95 dX10_size_97 dX10_size_100 hout (Nat.le_of_ble_eq_true rfl) (Nat.le_of_ble_eq_true rfl) (Nat.le_of_ble_eq_true rfl) (Nat.le_of_ble_eq_true rfl) hlocks rfl

set_option maxRecDepth 100000 in
set_option maxHeartbeats 1000000 in
theorem ct_X10_rate (l : Launch) (D : va_G) (cA : Nat → ClassId) (α : Nat → Nat) (n sz : Nat) (hn : 191 ≤ n) (S : Mem) (Un : Nat) (hU : S.1 23 0 = nI Un) (hU2 : Un ≤ 4) (i : Nat) (hi : i < Un) : CtI l yX10_rate wsX10_rate ({ frames := 7, cells := 0, slots := 0, locals := 121 }) D cA α n sz [.ref (α 0), .int (nI i)] S (S.1 81 i) S := by
  refine ct_enter cX10_rate 2 (some .int) (by decide) rfl (Nat.le_of_ble_eq_true rfl) ?_
  intro p e s m below meth c hx hb hr hml hlocks hown hts hK hsz hw ls hl
  have hown : s.vm.findClass RX10 = some m.cls := hown
  have hAw : ∀ z, Aw α n s.heap.size z → Aw α n sz z := by rw [hsz]; exact fun _ h => h
  have hl : lv_has ls 2 [(0, .ref (α 0)), (1, .int (nI i))] := hl
  refine lv_aload_n hx hb dX10_rate_0 rfl (lv_at hl 0 rfl) ?_
  refine lv_iload_n hx hb dX10_rate_1 rfl (lv_at hl 1 rfl) ?_
  refine x_callVVr (q := 0) (C := RX10) (As := [.int (nI i)]) (rest := []) ⟨hx, hb, hml, hown, hts⟩ (ct_X10_requireCurrency l D cA α n _ hn S Un hU hU2 i hi) (cwV 1 hts gX10_rate_X10_requireCurrency rfl rfl rfl (by decide +kernel) ⟨Nat.le_of_ble_eq_true rfl, Nat.le_of_ble_eq_true rfl⟩) hK hw hAw (ws_recv hK hw (q := 0) (Nat.lt_of_lt_of_le (Nat.le_of_ble_eq_true rfl : 0 < 191) hn) (mk_0 cA α) rfl) rfl hl.1 rfl (Nat.le_of_ble_eq_true rfl) dX10_rate_2 ⟨Nat.zero_le _, Nat.zero_le _⟩ (fun H locs hw => ?_)
  refine lv_aload_n hx hb dX10_rate_5 rfl (lv_at hl 0 rfl) ?_
  refine x_get (v := .ref (α 3)) (C := RX10) (T := TX10) (N := 7) hx hb hts (fun _ h => List.mem_cons_of_mem _ (List.mem_append_left _ (List.mem_append_left _ (List.mem_append_left _ (List.mem_append_left _ (List.mem_append_right _ h)))))) hown hK hw 0 (Nat.lt_of_lt_of_le (Nat.le_of_ble_eq_true rfl : 0 < 191) hn) (mk_0 cA α) rfl 1 (by decide) (hts _ (List.mem_of_getElem? (i := 1) rfl)) (fun _ h9 => h9) rfl dX10_rate_6 ?_
  refine x_get (v := .ref (α 74)) (C := RX0) (T := TX0) (N := 3) hx hb hts (fun _ h => List.mem_cons_of_mem _ (List.mem_append_left _ (List.mem_append_left _ (List.mem_append_left _ (List.mem_append_right _ h))))) hown hK hw 3 (Nat.lt_of_lt_of_le (Nat.le_of_ble_eq_true rfl : 3 < 191) hn) (mk_3 cA α) rfl 2 (by decide) (hts _ (List.mem_of_getElem? (i := 2) rfl)) (fun _ h9 => h9) rfl dX10_rate_9 ?_
  refine x_get (v := .ref (α 81)) (C := RX9) (T := TX9) (N := 14) hx hb hts (fun _ h => List.mem_cons_of_mem _ (List.mem_append_left _ (List.mem_append_left _ (List.mem_append_right _ h)))) hown hK hw 74 (Nat.lt_of_lt_of_le (Nat.le_of_ble_eq_true rfl : 74 < 191) hn) (mk_74 cA α) rfl 12 (by decide) (hts _ (List.mem_of_getElem? (i := 3) rfl)) (fun _ h9 => h9) rfl dX10_rate_12 ?_
  refine lv_iload_n hx hb dX10_rate_15 rfl (lv_at hl 1 rfl) ?_
  refine x_iald hx hb hK hw 81 4 (Nat.lt_of_lt_of_le (Nat.le_of_ble_eq_true rfl : 81 < 191) hn) (mk_81 cA α) i rfl (by omega) (by decide) dX10_rate_16 ?_
  exact ret_i hx hb hr hlocks hK hw dX10_rate_17 rfl rfl

set_option maxRecDepth 100000 in
set_option maxHeartbeats 1000000 in
theorem ct_X10_rateX (l : Launch) (hst : l.stackTraces = false) (sa : Nat → Nat) (D : va_G) (cA : Nat → ClassId) (α : Nat → Nat) (n sz : Nat) (hn : 191 ≤ n) (S : Mem) (Un : Nat) (hU : S.1 23 0 = nI Un) (hU2 : Un ≤ 4) (x : Int32) (hx9 : ¬ ∃ i, i < Un ∧ x = nI i) : CtX sa l yX10_rate wsX10_rate ({ frames := 7, cells := 1, slots := 6, locals := 121 }) D cA α n sz [.ref (α 0), .int x] S eIO := by
  refine ctx_enter cX10_rate 2 (some .int) (by decide) rfl (Nat.le_of_ble_eq_true rfl) ?_
  intro p e s m below meth c hx hb hr hml hlocks hown hts hK hsz hw hZ hSx hout ls hl
  have hown : s.vm.findClass RX10 = some m.cls := hown
  have hAw : ∀ z, Aw α n s.heap.size z → Aw α n sz z := by rw [hsz]; exact fun _ h => h
  have hl : lv_has ls 2 [(0, .ref (α 0)), (1, .int x)] := hl
  refine lv_aload_n hx hb dX10_rate_0 rfl (lv_at hl 0 rfl) ?_
  refine lv_iload_n hx hb dX10_rate_1 rfl (lv_at hl 1 rfl) ?_
  exact x_callXV (q := 0) (C := RX10) (As := [.int x]) (rest := []) ⟨hx, hb, hml, hown, hts⟩ (ct_X10_requireCurrencyX l hst sa D cA α n _ hn S Un hU hU2 x hx9) (cwV 1 hts gX10_rate_X10_requireCurrency rfl rfl rfl (by decide +kernel) ⟨Nat.le_of_ble_eq_true rfl, Nat.le_of_ble_eq_true rfl⟩) hK hw hsz hZ hSx (ws_recv hK hw (q := 0) (Nat.lt_of_lt_of_le (Nat.le_of_ble_eq_true rfl : 0 < 191) hn) (mk_0 cA α) rfl) rfl hl.1 rfl (Nat.le_of_ble_eq_true rfl) dX10_rate_2 ⟨Nat.le_of_ble_eq_true rfl, Nat.le_of_ble_eq_true rfl⟩ hout hlocks rfl

set_option maxRecDepth 100000 in
set_option maxHeartbeats 1000000 in
theorem ct_X10_currencyOf (l : Launch) (D : va_G) (cA : Nat → ClassId) (α : Nat → Nat) (n sz : Nat) (hn : 191 ≤ n) (S : Mem) (Cn : Nat) (hC : S.1 23 1 = nI Cn) (hC2 : Cn ≤ 6) (i : Nat) (hi : i < Cn) : CtI l yX10_currencyOf wsX10_currencyOf ({ frames := 7, cells := 0, slots := 0, locals := 121 }) D cA α n sz [.ref (α 0), .int (nI i)] S (S.1 25 i) S := by
  refine ct_enter cX10_currencyOf 2 (some .int) (by decide) rfl (Nat.le_of_ble_eq_true rfl) ?_
  intro p e s m below meth c hx hb hr hml hlocks hown hts hK hsz hw ls hl
  have hown : s.vm.findClass RX10 = some m.cls := hown
  have hAw : ∀ z, Aw α n s.heap.size z → Aw α n sz z := by rw [hsz]; exact fun _ h => h
  have hl : lv_has ls 2 [(0, .ref (α 0)), (1, .int (nI i))] := hl
  refine lv_aload_n hx hb dX10_currencyOf_0 rfl (lv_at hl 0 rfl) ?_
  refine lv_iload_n hx hb dX10_currencyOf_1 rfl (lv_at hl 1 rfl) ?_
  refine x_callVVr (q := 0) (C := RX10) (As := [.int (nI i)]) (rest := []) ⟨hx, hb, hml, hown, hts⟩ (ct_X10_requireCompany l D cA α n _ hn S Cn hC hC2 i hi) (cwV 1 hts gX10_currencyOf_X10_requireCompany rfl rfl rfl (by decide +kernel) ⟨Nat.le_of_ble_eq_true rfl, Nat.le_of_ble_eq_true rfl⟩) hK hw hAw (ws_recv hK hw (q := 0) (Nat.lt_of_lt_of_le (Nat.le_of_ble_eq_true rfl : 0 < 191) hn) (mk_0 cA α) rfl) rfl hl.1 rfl (Nat.le_of_ble_eq_true rfl) dX10_currencyOf_2 ⟨Nat.zero_le _, Nat.zero_le _⟩ (fun H locs hw => ?_)
  refine lv_aload_n hx hb dX10_currencyOf_5 rfl (lv_at hl 0 rfl) ?_
  refine x_get (v := .ref (α 3)) (C := RX10) (T := TX10) (N := 7) hx hb hts (fun _ h => List.mem_cons_of_mem _ (List.mem_append_left _ (List.mem_append_left _ (List.mem_append_left _ (List.mem_append_right _ h))))) hown hK hw 0 (Nat.lt_of_lt_of_le (Nat.le_of_ble_eq_true rfl : 0 < 191) hn) (mk_0 cA α) rfl 1 (by decide) (hts _ (List.mem_of_getElem? (i := 1) rfl)) (fun _ h9 => h9) rfl dX10_currencyOf_6 ?_
  refine x_get (v := .ref (α 23)) (C := RX0) (T := TX0) (N := 3) hx hb hts (fun _ h => List.mem_cons_of_mem _ (List.mem_append_left _ (List.mem_append_left _ (List.mem_append_right _ h)))) hown hK hw 3 (Nat.lt_of_lt_of_le (Nat.le_of_ble_eq_true rfl : 3 < 191) hn) (mk_3 cA α) rfl 0 (by decide) (hts _ (List.mem_of_getElem? (i := 2) rfl)) (fun _ h9 => h9) rfl dX10_currencyOf_9 ?_
  refine x_get (v := .ref (α 25)) (C := RX2) (T := TX2) (N := 12) hx hb hts (fun _ h => List.mem_cons_of_mem _ (List.mem_append_left _ (List.mem_append_right _ h))) hown hK hw 23 (Nat.lt_of_lt_of_le (Nat.le_of_ble_eq_true rfl : 23 < 191) hn) (mk_23 cA α) rfl 7 (by decide) (hts _ (List.mem_of_getElem? (i := 3) rfl)) (fun _ h9 => h9) rfl dX10_currencyOf_12 ?_
  refine lv_iload_n hx hb dX10_currencyOf_15 rfl (lv_at hl 1 rfl) ?_
  refine x_iald hx hb hK hw 25 6 (Nat.lt_of_lt_of_le (Nat.le_of_ble_eq_true rfl : 25 < 191) hn) (mk_25 cA α) i rfl (by omega) (by decide) dX10_currencyOf_16 ?_
  exact ret_i hx hb hr hlocks hK hw dX10_currencyOf_17 rfl rfl

set_option maxRecDepth 100000 in
set_option maxHeartbeats 1000000 in
theorem ct_X10_currencyOfX (l : Launch) (hst : l.stackTraces = false) (sa : Nat → Nat) (D : va_G) (cA : Nat → ClassId) (α : Nat → Nat) (n sz : Nat) (hn : 191 ≤ n) (S : Mem) (Cn : Nat) (hC : S.1 23 1 = nI Cn) (hC2 : Cn ≤ 6) (x : Int32) (hx9 : ¬ ∃ i, i < Cn ∧ x = nI i) : CtX sa l yX10_currencyOf wsX10_currencyOf ({ frames := 7, cells := 1, slots := 6, locals := 121 }) D cA α n sz [.ref (α 0), .int x] S eIO := by
  refine ctx_enter cX10_currencyOf 2 (some .int) (by decide) rfl (Nat.le_of_ble_eq_true rfl) ?_
  intro p e s m below meth c hx hb hr hml hlocks hown hts hK hsz hw hZ hSx hout ls hl
  have hown : s.vm.findClass RX10 = some m.cls := hown
  have hAw : ∀ z, Aw α n s.heap.size z → Aw α n sz z := by rw [hsz]; exact fun _ h => h
  have hl : lv_has ls 2 [(0, .ref (α 0)), (1, .int x)] := hl
  refine lv_aload_n hx hb dX10_currencyOf_0 rfl (lv_at hl 0 rfl) ?_
  refine lv_iload_n hx hb dX10_currencyOf_1 rfl (lv_at hl 1 rfl) ?_
  exact x_callXV (q := 0) (C := RX10) (As := [.int x]) (rest := []) ⟨hx, hb, hml, hown, hts⟩ (ct_X10_requireCompanyX l hst sa D cA α n _ hn S Cn hC hC2 x hx9) (cwV 1 hts gX10_currencyOf_X10_requireCompany rfl rfl rfl (by decide +kernel) ⟨Nat.le_of_ble_eq_true rfl, Nat.le_of_ble_eq_true rfl⟩) hK hw hsz hZ hSx (ws_recv hK hw (q := 0) (Nat.lt_of_lt_of_le (Nat.le_of_ble_eq_true rfl : 0 < 191) hn) (mk_0 cA α) rfl) rfl hl.1 rfl (Nat.le_of_ble_eq_true rfl) dX10_currencyOf_2 ⟨Nat.le_of_ble_eq_true rfl, Nat.le_of_ble_eq_true rfl⟩ hout hlocks rfl

set_option maxRecDepth 100000 in
set_option maxHeartbeats 1000000 in
theorem ct_X10_amount (l : Launch) (D : va_G) (cA : Nat → ClassId) (α : Nat → Nat) (n sz : Nat) (hn : 191 ≤ n) (S : Mem) (N : Nat) (hN : S.1 74 0 = nI N) (hN2 : N ≤ 100) (i : Nat) (hi : i < N) : CtL l yX10_amount wsX10_amount ({ frames := 7, cells := 0, slots := 0, locals := 121 }) D cA α n sz [.ref (α 0), .int (nI i)] S ((S.1 75 i).toInt64) S := by
  refine ct_enter cX10_amount 2 (some .long) (by decide) rfl (Nat.le_of_ble_eq_true rfl) ?_
  intro p e s m below meth c hx hb hr hml hlocks hown hts hK hsz hw ls hl
  have hown : s.vm.findClass RX10 = some m.cls := hown
  have hAw : ∀ z, Aw α n s.heap.size z → Aw α n sz z := by rw [hsz]; exact fun _ h => h
  have hl : lv_has ls 2 [(0, .ref (α 0)), (1, .int (nI i))] := hl
  refine lv_aload_n hx hb dX10_amount_0 rfl (lv_at hl 0 rfl) ?_
  refine lv_iload_n hx hb dX10_amount_1 rfl (lv_at hl 1 rfl) ?_
  refine x_callVVr (q := 0) (C := RX10) (As := [.int (nI i)]) (rest := []) ⟨hx, hb, hml, hown, hts⟩ (ct_X10_requireItem l D cA α n _ hn S N hN hN2 i hi) (cwV 1 hts gX10_amount_X10_requireItem rfl rfl rfl (by decide +kernel) ⟨Nat.le_of_ble_eq_true rfl, Nat.le_of_ble_eq_true rfl⟩) hK hw hAw (ws_recv hK hw (q := 0) (Nat.lt_of_lt_of_le (Nat.le_of_ble_eq_true rfl : 0 < 191) hn) (mk_0 cA α) rfl) rfl hl.1 rfl (Nat.le_of_ble_eq_true rfl) dX10_amount_2 ⟨Nat.zero_le _, Nat.zero_le _⟩ (fun H locs hw => ?_)
  refine lv_aload_n hx hb dX10_amount_5 rfl (lv_at hl 0 rfl) ?_
  refine x_get (v := .ref (α 3)) (C := RX10) (T := TX10) (N := 7) hx hb hts (fun _ h => List.mem_cons_of_mem _ (List.mem_append_left _ (List.mem_append_left _ (List.mem_append_left _ (List.mem_append_right _ h))))) hown hK hw 0 (Nat.lt_of_lt_of_le (Nat.le_of_ble_eq_true rfl : 0 < 191) hn) (mk_0 cA α) rfl 1 (by decide) (hts _ (List.mem_of_getElem? (i := 1) rfl)) (fun _ h9 => h9) rfl dX10_amount_6 ?_
  refine x_get (v := .ref (α 74)) (C := RX0) (T := TX0) (N := 3) hx hb hts (fun _ h => List.mem_cons_of_mem _ (List.mem_append_left _ (List.mem_append_left _ (List.mem_append_right _ h)))) hown hK hw 3 (Nat.lt_of_lt_of_le (Nat.le_of_ble_eq_true rfl : 3 < 191) hn) (mk_3 cA α) rfl 2 (by decide) (hts _ (List.mem_of_getElem? (i := 2) rfl)) (fun _ h9 => h9) rfl dX10_amount_9 ?_
  refine x_get (v := .ref (α 75)) (C := RX9) (T := TX9) (N := 14) hx hb hts (fun _ h => List.mem_cons_of_mem _ (List.mem_append_left _ (List.mem_append_right _ h))) hown hK hw 74 (Nat.lt_of_lt_of_le (Nat.le_of_ble_eq_true rfl : 74 < 191) hn) (mk_74 cA α) rfl 6 (by decide) (hts _ (List.mem_of_getElem? (i := 3) rfl)) (fun _ h9 => h9) rfl dX10_amount_12 ?_
  refine lv_iload_n hx hb dX10_amount_15 rfl (lv_at hl 1 rfl) ?_
  refine x_iald hx hb hK hw 75 100 (Nat.lt_of_lt_of_le (Nat.le_of_ble_eq_true rfl : 75 < 191) hn) (mk_75 cA α) i rfl (by omega) (by decide) dX10_amount_16 ?_
  refine lv_i2l hx hb dX10_amount_17 rfl ?_
  exact ret_l hx hb hr hlocks hK hw dX10_amount_18 rfl rfl

set_option maxRecDepth 100000 in
set_option maxHeartbeats 1000000 in
theorem ct_X10_amountX (l : Launch) (hst : l.stackTraces = false) (sa : Nat → Nat) (D : va_G) (cA : Nat → ClassId) (α : Nat → Nat) (n sz : Nat) (hn : 191 ≤ n) (S : Mem) (N : Nat) (hN : S.1 74 0 = nI N) (hN2 : N ≤ 100) (x : Int32) (hx9 : ¬ ∃ i, i < N ∧ x = nI i) : CtX sa l yX10_amount wsX10_amount ({ frames := 7, cells := 1, slots := 6, locals := 121 }) D cA α n sz [.ref (α 0), .int x] S eIO := by
  refine ctx_enter cX10_amount 2 (some .long) (by decide) rfl (Nat.le_of_ble_eq_true rfl) ?_
  intro p e s m below meth c hx hb hr hml hlocks hown hts hK hsz hw hZ hSx hout ls hl
  have hown : s.vm.findClass RX10 = some m.cls := hown
  have hAw : ∀ z, Aw α n s.heap.size z → Aw α n sz z := by rw [hsz]; exact fun _ h => h
  have hl : lv_has ls 2 [(0, .ref (α 0)), (1, .int x)] := hl
  refine lv_aload_n hx hb dX10_amount_0 rfl (lv_at hl 0 rfl) ?_
  refine lv_iload_n hx hb dX10_amount_1 rfl (lv_at hl 1 rfl) ?_
  exact x_callXV (q := 0) (C := RX10) (As := [.int x]) (rest := []) ⟨hx, hb, hml, hown, hts⟩ (ct_X10_requireItemX l hst sa D cA α n _ hn S N hN hN2 x hx9) (cwV 1 hts gX10_amount_X10_requireItem rfl rfl rfl (by decide +kernel) ⟨Nat.le_of_ble_eq_true rfl, Nat.le_of_ble_eq_true rfl⟩) hK hw hsz hZ hSx (ws_recv hK hw (q := 0) (Nat.lt_of_lt_of_le (Nat.le_of_ble_eq_true rfl : 0 < 191) hn) (mk_0 cA α) rfl) rfl hl.1 rfl (Nat.le_of_ble_eq_true rfl) dX10_amount_2 ⟨Nat.le_of_ble_eq_true rfl, Nat.le_of_ble_eq_true rfl⟩ hout hlocks rfl

set_option maxRecDepth 100000 in
set_option maxHeartbeats 1000000 in
theorem ct_X10_value (l : Launch) (D : va_G) (cA : Nat → ClassId) (α : Nat → Nat) (n sz : Nat) (hn : 191 ≤ n) (S : Mem) (N : Nat) (hN : S.1 74 0 = nI N) (hN2 : N ≤ 100) (i : Nat) (hi : i < N) (ho : okC S i) : CtL l yX10_value wsX10_value ({ frames := 7, cells := 0, slots := 0, locals := 121 }) D cA α n sz [.ref (α 0), .int (nI i)] S (cVal S i) S := by
  refine ct_enter cX10_value 2 (some .long) (by decide) rfl (Nat.le_of_ble_eq_true rfl) ?_
  intro p e s m below meth c hx hb hr hml hlocks hown hts hK hsz hw ls hl
  have hown : s.vm.findClass RX10 = some m.cls := hown
  have hAw : ∀ z, Aw α n s.heap.size z → Aw α n sz z := by rw [hsz]; exact fun _ h => h
  have hl : lv_has ls 2 [(0, .ref (α 0)), (1, .int (nI i))] := hl
  refine lv_aload_n hx hb dX10_value_0 rfl (lv_at hl 0 rfl) ?_
  refine lv_iload_n hx hb dX10_value_1 rfl (lv_at hl 1 rfl) ?_
  refine x_callVVr (q := 0) (C := RX10) (As := [.int (nI i)]) (rest := []) ⟨hx, hb, hml, hown, hts⟩ (ct_X10_requireItem l D cA α n _ hn S N hN hN2 i hi) (cwV 1 hts gX10_value_X10_requireItem rfl rfl rfl (by decide +kernel) ⟨Nat.le_of_ble_eq_true rfl, Nat.le_of_ble_eq_true rfl⟩) hK hw hAw (ws_recv hK hw (q := 0) (Nat.lt_of_lt_of_le (Nat.le_of_ble_eq_true rfl : 0 < 191) hn) (mk_0 cA α) rfl) rfl hl.1 rfl (Nat.le_of_ble_eq_true rfl) dX10_value_2 ⟨Nat.zero_le _, Nat.zero_le _⟩ (fun H locs hw => ?_)
  refine lv_aload_n hx hb dX10_value_5 rfl (lv_at hl 0 rfl) ?_
  refine x_get (v := .ref (α 3)) (C := RX10) (T := TX10) (N := 7) hx hb hts (fun _ h => List.mem_cons_of_mem _ (List.mem_append_left _ (List.mem_append_left _ (List.mem_append_left _ (List.mem_append_left _ (List.mem_append_left _ (List.mem_append_right _ h))))))) hown hK hw 0 (Nat.lt_of_lt_of_le (Nat.le_of_ble_eq_true rfl : 0 < 191) hn) (mk_0 cA α) rfl 1 (by decide) (hts _ (List.mem_of_getElem? (i := 1) rfl)) (fun _ h9 => h9) rfl dX10_value_6 ?_
  refine lv_iload_n hx hb dX10_value_9 rfl (lv_at hl 1 rfl) ?_
  refine x_callVLr (q := 3) (C := RX0) (As := [.int (nI i)]) (rest := []) ⟨hx, hb, hml, hown, hts⟩ (ct_X0_valueOf l D cA α n _ hn S i ho) (cwV 1 hts gX10_value_X0_valueOf rfl rfl rfl (by decide +kernel) ⟨Nat.le_of_ble_eq_true rfl, Nat.le_of_ble_eq_true rfl⟩) hK hw hAw (ws_recv hK hw (q := 3) (Nat.lt_of_lt_of_le (Nat.le_of_ble_eq_true rfl : 3 < 191) hn) (mk_3 cA α) rfl) rfl hl.1 rfl (Nat.le_of_ble_eq_true rfl) dX10_value_10 ⟨Nat.zero_le _, Nat.zero_le _⟩ (fun H locs hw => ?_)
  exact ret_l hx hb hr hlocks hK hw dX10_value_13 rfl rfl

set_option maxRecDepth 100000 in
set_option maxHeartbeats 1000000 in
theorem ct_X10_valueX (l : Launch) (hst : l.stackTraces = false) (sa : Nat → Nat) (D : va_G) (cA : Nat → ClassId) (α : Nat → Nat) (n sz : Nat) (hn : 191 ≤ n) (S : Mem) (N : Nat) (hN : S.1 74 0 = nI N) (hN2 : N ≤ 100) (x : Int32) (hx9 : ¬ ∃ i, i < N ∧ x = nI i) : CtX sa l yX10_value wsX10_value ({ frames := 7, cells := 1, slots := 6, locals := 121 }) D cA α n sz [.ref (α 0), .int x] S eIO := by
  refine ctx_enter cX10_value 2 (some .long) (by decide) rfl (Nat.le_of_ble_eq_true rfl) ?_
  intro p e s m below meth c hx hb hr hml hlocks hown hts hK hsz hw hZ hSx hout ls hl
  have hown : s.vm.findClass RX10 = some m.cls := hown
  have hAw : ∀ z, Aw α n s.heap.size z → Aw α n sz z := by rw [hsz]; exact fun _ h => h
  have hl : lv_has ls 2 [(0, .ref (α 0)), (1, .int x)] := hl
  refine lv_aload_n hx hb dX10_value_0 rfl (lv_at hl 0 rfl) ?_
  refine lv_iload_n hx hb dX10_value_1 rfl (lv_at hl 1 rfl) ?_
  exact x_callXV (q := 0) (C := RX10) (As := [.int x]) (rest := []) ⟨hx, hb, hml, hown, hts⟩ (ct_X10_requireItemX l hst sa D cA α n _ hn S N hN hN2 x hx9) (cwV 1 hts gX10_value_X10_requireItem rfl rfl rfl (by decide +kernel) ⟨Nat.le_of_ble_eq_true rfl, Nat.le_of_ble_eq_true rfl⟩) hK hw hsz hZ hSx (ws_recv hK hw (q := 0) (Nat.lt_of_lt_of_le (Nat.le_of_ble_eq_true rfl : 0 < 191) hn) (mk_0 cA α) rfl) rfl hl.1 rfl (Nat.le_of_ble_eq_true rfl) dX10_value_2 ⟨Nat.le_of_ble_eq_true rfl, Nat.le_of_ble_eq_true rfl⟩ hout hlocks rfl

set_option maxRecDepth 100000 in
set_option maxHeartbeats 1000000 in
theorem ct_X10_candidates (l : Launch) (D : va_G) (cA : Nat → ClassId) (α : Nat → Nat) (n sz : Nat) (hn : 191 ≤ n) (S : Mem) (N : Nat) (hN : S.1 74 0 = nI N) (hN2 : N ≤ 100) (i : Nat) (hi : i < N) : CtI l yX10_candidates wsX10_candidates ({ frames := 7, cells := 0, slots := 0, locals := 121 }) D cA α n sz [.ref (α 0), .int (nI i)] S (nI (cnt (fun j => decide (S.1 76 j = 0) && cMir S i j) N)) S := by
  refine ct_enter cX10_candidates 2 (some .int) (by decide) rfl (Nat.le_of_ble_eq_true rfl) ?_
  intro p e s m below meth c hx hb hr hml hlocks hown hts hK hsz hw ls hl
  have hown : s.vm.findClass RX10 = some m.cls := hown
  have hAw : ∀ z, Aw α n s.heap.size z → Aw α n sz z := by rw [hsz]; exact fun _ h => h
  have hl : lv_has ls 2 [(0, .ref (α 0)), (1, .int (nI i))] := hl
  refine lv_aload_n hx hb dX10_candidates_0 rfl (lv_at hl 0 rfl) ?_
  refine lv_iload_n hx hb dX10_candidates_1 rfl (lv_at hl 1 rfl) ?_
  refine x_callVVr (q := 0) (C := RX10) (As := [.int (nI i)]) (rest := []) ⟨hx, hb, hml, hown, hts⟩ (ct_X10_requireItem l D cA α n _ hn S N hN hN2 i hi) (cwV 1 hts gX10_candidates_X10_requireItem rfl rfl rfl (by decide +kernel) ⟨Nat.le_of_ble_eq_true rfl, Nat.le_of_ble_eq_true rfl⟩) hK hw hAw (ws_recv hK hw (q := 0) (Nat.lt_of_lt_of_le (Nat.le_of_ble_eq_true rfl : 0 < 191) hn) (mk_0 cA α) rfl) rfl hl.1 rfl (Nat.le_of_ble_eq_true rfl) dX10_candidates_2 ⟨Nat.zero_le _, Nat.zero_le _⟩ (fun H locs hw => ?_)
  refine lv_aload_n hx hb dX10_candidates_5 rfl (lv_at hl 0 rfl) ?_
  refine x_get (v := .ref (α 4)) (C := RX10) (T := TX10) (N := 7) hx hb hts (fun _ h => List.mem_cons_of_mem _ (List.mem_append_left _ (List.mem_append_left _ (List.mem_append_left _ (List.mem_append_left _ (List.mem_append_right _ h)))))) hown hK hw 0 (Nat.lt_of_lt_of_le (Nat.le_of_ble_eq_true rfl : 0 < 191) hn) (mk_0 cA α) rfl 2 (by decide) (hts _ (List.mem_of_getElem? (i := 1) rfl)) (fun _ h9 => h9) rfl dX10_candidates_6 ?_
  refine lv_aload_n hx hb dX10_candidates_9 rfl (lv_at hl 0 rfl) ?_
  refine x_get (v := .ref (α 3)) (C := RX10) (T := TX10) (N := 7) hx hb hts (fun _ h => List.mem_cons_of_mem _ (List.mem_append_left _ (List.mem_append_left _ (List.mem_append_left _ (List.mem_append_left _ (List.mem_append_right _ h)))))) hown hK hw 0 (Nat.lt_of_lt_of_le (Nat.le_of_ble_eq_true rfl : 0 < 191) hn) (mk_0 cA α) rfl 1 (by decide) (hts _ (List.mem_of_getElem? (i := 2) rfl)) (fun _ h9 => h9) rfl dX10_candidates_10 ?_
  refine lv_iload_n hx hb dX10_candidates_13 rfl (lv_at hl 1 rfl) ?_
  refine x_callVIr (q := 4) (C := RX5) (As := [.ref (α 3), .int (nI i)]) (rest := []) ⟨hx, hb, hml, hown, hts⟩ (ct_X5_openMirrors l D cA α n _ hn S i (by omega) N hN hN2) (cwV 2 hts gX10_candidates_X5_openMirrors rfl rfl rfl (by decide +kernel) ⟨Nat.le_of_ble_eq_true rfl, Nat.le_of_ble_eq_true rfl⟩) hK hw hAw (ws_recv hK hw (q := 4) (Nat.lt_of_lt_of_le (Nat.le_of_ble_eq_true rfl : 4 < 191) hn) (mk_4 cA α) rfl) rfl hl.1 rfl (Nat.le_of_ble_eq_true rfl) dX10_candidates_14 ⟨Nat.zero_le _, Nat.zero_le _⟩ (fun H locs hw => ?_)
  exact ret_i hx hb hr hlocks hK hw dX10_candidates_17 rfl rfl

set_option maxRecDepth 100000 in
set_option maxHeartbeats 1000000 in
theorem ct_X10_candidatesX (l : Launch) (hst : l.stackTraces = false) (sa : Nat → Nat) (D : va_G) (cA : Nat → ClassId) (α : Nat → Nat) (n sz : Nat) (hn : 191 ≤ n) (S : Mem) (N : Nat) (hN : S.1 74 0 = nI N) (hN2 : N ≤ 100) (x : Int32) (hx9 : ¬ ∃ i, i < N ∧ x = nI i) : CtX sa l yX10_candidates wsX10_candidates ({ frames := 7, cells := 1, slots := 6, locals := 121 }) D cA α n sz [.ref (α 0), .int x] S eIO := by
  refine ctx_enter cX10_candidates 2 (some .int) (by decide) rfl (Nat.le_of_ble_eq_true rfl) ?_
  intro p e s m below meth c hx hb hr hml hlocks hown hts hK hsz hw hZ hSx hout ls hl
  have hown : s.vm.findClass RX10 = some m.cls := hown
  have hAw : ∀ z, Aw α n s.heap.size z → Aw α n sz z := by rw [hsz]; exact fun _ h => h
  have hl : lv_has ls 2 [(0, .ref (α 0)), (1, .int x)] := hl
  refine lv_aload_n hx hb dX10_candidates_0 rfl (lv_at hl 0 rfl) ?_
  refine lv_iload_n hx hb dX10_candidates_1 rfl (lv_at hl 1 rfl) ?_
  exact x_callXV (q := 0) (C := RX10) (As := [.int x]) (rest := []) ⟨hx, hb, hml, hown, hts⟩ (ct_X10_requireItemX l hst sa D cA α n _ hn S N hN hN2 x hx9) (cwV 1 hts gX10_candidates_X10_requireItem rfl rfl rfl (by decide +kernel) ⟨Nat.le_of_ble_eq_true rfl, Nat.le_of_ble_eq_true rfl⟩) hK hw hsz hZ hSx (ws_recv hK hw (q := 0) (Nat.lt_of_lt_of_le (Nat.le_of_ble_eq_true rfl : 0 < 191) hn) (mk_0 cA α) rfl) rfl hl.1 rfl (Nat.le_of_ble_eq_true rfl) dX10_candidates_2 ⟨Nat.le_of_ble_eq_true rfl, Nat.le_of_ble_eq_true rfl⟩ hout hlocks rfl

set_option maxRecDepth 100000 in
set_option maxHeartbeats 1000000 in
theorem ct_X10_settledPosition (l : Launch) (D : va_G) (cA : Nat → ClassId) (α : Nat → Nat) (n sz : Nat) (hn : 191 ≤ n) (S : Mem) (Cn : Nat) (hC : S.1 23 1 = nI Cn) (hC2 : Cn ≤ 6) (i : Nat) (hi : i < Cn) : CtL l yX10_settledPosition wsX10_settledPosition ({ frames := 7, cells := 0, slots := 0, locals := 121 }) D cA α n sz [.ref (α 0), .int (nI i)] S (S.2 82 i) S := by
  refine ct_enter cX10_settledPosition 2 (some .long) (by decide) rfl (Nat.le_of_ble_eq_true rfl) ?_
  intro p e s m below meth c hx hb hr hml hlocks hown hts hK hsz hw ls hl
  have hown : s.vm.findClass RX10 = some m.cls := hown
  have hAw : ∀ z, Aw α n s.heap.size z → Aw α n sz z := by rw [hsz]; exact fun _ h => h
  have hl : lv_has ls 2 [(0, .ref (α 0)), (1, .int (nI i))] := hl
  refine lv_aload_n hx hb dX10_settledPosition_0 rfl (lv_at hl 0 rfl) ?_
  refine lv_iload_n hx hb dX10_settledPosition_1 rfl (lv_at hl 1 rfl) ?_
  refine x_callVVr (q := 0) (C := RX10) (As := [.int (nI i)]) (rest := []) ⟨hx, hb, hml, hown, hts⟩ (ct_X10_requireCompany l D cA α n _ hn S Cn hC hC2 i hi) (cwV 1 hts gX10_settledPosition_X10_requireCompany rfl rfl rfl (by decide +kernel) ⟨Nat.le_of_ble_eq_true rfl, Nat.le_of_ble_eq_true rfl⟩) hK hw hAw (ws_recv hK hw (q := 0) (Nat.lt_of_lt_of_le (Nat.le_of_ble_eq_true rfl : 0 < 191) hn) (mk_0 cA α) rfl) rfl hl.1 rfl (Nat.le_of_ble_eq_true rfl) dX10_settledPosition_2 ⟨Nat.zero_le _, Nat.zero_le _⟩ (fun H locs hw => ?_)
  refine lv_aload_n hx hb dX10_settledPosition_5 rfl (lv_at hl 0 rfl) ?_
  refine x_get (v := .ref (α 3)) (C := RX10) (T := TX10) (N := 7) hx hb hts (fun _ h => List.mem_cons_of_mem _ (List.mem_append_left _ (List.mem_append_left _ (List.mem_append_left _ (List.mem_append_left _ (List.mem_append_right _ h)))))) hown hK hw 0 (Nat.lt_of_lt_of_le (Nat.le_of_ble_eq_true rfl : 0 < 191) hn) (mk_0 cA α) rfl 1 (by decide) (hts _ (List.mem_of_getElem? (i := 1) rfl)) (fun _ h9 => h9) rfl dX10_settledPosition_6 ?_
  refine x_get (v := .ref (α 74)) (C := RX0) (T := TX0) (N := 3) hx hb hts (fun _ h => List.mem_cons_of_mem _ (List.mem_append_left _ (List.mem_append_left _ (List.mem_append_left _ (List.mem_append_right _ h))))) hown hK hw 3 (Nat.lt_of_lt_of_le (Nat.le_of_ble_eq_true rfl : 3 < 191) hn) (mk_3 cA α) rfl 2 (by decide) (hts _ (List.mem_of_getElem? (i := 2) rfl)) (fun _ h9 => h9) rfl dX10_settledPosition_9 ?_
  refine x_get (v := .ref (α 82)) (C := RX9) (T := TX9) (N := 14) hx hb hts (fun _ h => List.mem_cons_of_mem _ (List.mem_append_left _ (List.mem_append_left _ (List.mem_append_right _ h)))) hown hK hw 74 (Nat.lt_of_lt_of_le (Nat.le_of_ble_eq_true rfl : 74 < 191) hn) (mk_74 cA α) rfl 13 (by decide) (hts _ (List.mem_of_getElem? (i := 3) rfl)) (fun _ h9 => h9) rfl dX10_settledPosition_12 ?_
  refine lv_iload_n hx hb dX10_settledPosition_15 rfl (lv_at hl 1 rfl) ?_
  refine x_lald hx hb hK hw 82 6 (Nat.lt_of_lt_of_le (Nat.le_of_ble_eq_true rfl : 82 < 191) hn) (mk_82 cA α) i rfl (by omega) (by decide) dX10_settledPosition_16 ?_
  exact ret_l hx hb hr hlocks hK hw dX10_settledPosition_17 rfl rfl

set_option maxRecDepth 100000 in
set_option maxHeartbeats 1000000 in
theorem ct_X10_settledPositionX (l : Launch) (hst : l.stackTraces = false) (sa : Nat → Nat) (D : va_G) (cA : Nat → ClassId) (α : Nat → Nat) (n sz : Nat) (hn : 191 ≤ n) (S : Mem) (Cn : Nat) (hC : S.1 23 1 = nI Cn) (hC2 : Cn ≤ 6) (x : Int32) (hx9 : ¬ ∃ i, i < Cn ∧ x = nI i) : CtX sa l yX10_settledPosition wsX10_settledPosition ({ frames := 7, cells := 1, slots := 6, locals := 121 }) D cA α n sz [.ref (α 0), .int x] S eIO := by
  refine ctx_enter cX10_settledPosition 2 (some .long) (by decide) rfl (Nat.le_of_ble_eq_true rfl) ?_
  intro p e s m below meth c hx hb hr hml hlocks hown hts hK hsz hw hZ hSx hout ls hl
  have hown : s.vm.findClass RX10 = some m.cls := hown
  have hAw : ∀ z, Aw α n s.heap.size z → Aw α n sz z := by rw [hsz]; exact fun _ h => h
  have hl : lv_has ls 2 [(0, .ref (α 0)), (1, .int x)] := hl
  refine lv_aload_n hx hb dX10_settledPosition_0 rfl (lv_at hl 0 rfl) ?_
  refine lv_iload_n hx hb dX10_settledPosition_1 rfl (lv_at hl 1 rfl) ?_
  exact x_callXV (q := 0) (C := RX10) (As := [.int x]) (rest := []) ⟨hx, hb, hml, hown, hts⟩ (ct_X10_requireCompanyX l hst sa D cA α n _ hn S Cn hC hC2 x hx9) (cwV 1 hts gX10_settledPosition_X10_requireCompany rfl rfl rfl (by decide +kernel) ⟨Nat.le_of_ble_eq_true rfl, Nat.le_of_ble_eq_true rfl⟩) hK hw hsz hZ hSx (ws_recv hK hw (q := 0) (Nat.lt_of_lt_of_le (Nat.le_of_ble_eq_true rfl : 0 < 191) hn) (mk_0 cA α) rfl) rfl hl.1 rfl (Nat.le_of_ble_eq_true rfl) dX10_settledPosition_2 ⟨Nat.le_of_ble_eq_true rfl, Nat.le_of_ble_eq_true rfl⟩ hout hlocks rfl

set_option maxRecDepth 100000 in
set_option maxHeartbeats 1000000 in
theorem ct_X10_unrealized (l : Launch) (D : va_G) (cA : Nat → ClassId) (α : Nat → Nat) (n sz : Nat) (hn : 191 ≤ n) (S : Mem) (Cn : Nat) (hC : S.1 23 1 = nI Cn) (hC2 : Cn ≤ 6) (i : Nat) (hi : i < Cn) (M : Nat) (hM : S.1 74 1 = nI M) (hM2 : M ≤ 100) (hod : ∀ d, d < M → okI (S.1 49 d) 6) : CtL l yX10_unrealized wsX10_unrealized ({ frames := 7, cells := 0, slots := 0, locals := 121 }) D cA α n sz [.ref (α 0), .int (nI i)] S ((cPA S (nI i) (-1) (nI 0) M).2) S := by
  refine ct_enter cX10_unrealized 2 (some .long) (by decide) rfl (Nat.le_of_ble_eq_true rfl) ?_
  intro p e s m below meth c hx hb hr hml hlocks hown hts hK hsz hw ls hl
  have hown : s.vm.findClass RX10 = some m.cls := hown
  have hAw : ∀ z, Aw α n s.heap.size z → Aw α n sz z := by rw [hsz]; exact fun _ h => h
  have hl : lv_has ls 2 [(0, .ref (α 0)), (1, .int (nI i))] := hl
  refine lv_aload_n hx hb dX10_unrealized_0 rfl (lv_at hl 0 rfl) ?_
  refine lv_iload_n hx hb dX10_unrealized_1 rfl (lv_at hl 1 rfl) ?_
  refine x_callVVr (q := 0) (C := RX10) (As := [.int (nI i)]) (rest := []) ⟨hx, hb, hml, hown, hts⟩ (ct_X10_requireCompany l D cA α n _ hn S Cn hC hC2 i hi) (cwV 1 hts gX10_unrealized_X10_requireCompany rfl rfl rfl (by decide +kernel) ⟨Nat.le_of_ble_eq_true rfl, Nat.le_of_ble_eq_true rfl⟩) hK hw hAw (ws_recv hK hw (q := 0) (Nat.lt_of_lt_of_le (Nat.le_of_ble_eq_true rfl : 0 < 191) hn) (mk_0 cA α) rfl) rfl hl.1 rfl (Nat.le_of_ble_eq_true rfl) dX10_unrealized_2 ⟨Nat.zero_le _, Nat.zero_le _⟩ (fun H locs hw => ?_)
  refine lv_aload_n hx hb dX10_unrealized_5 rfl (lv_at hl 0 rfl) ?_
  refine x_get (v := .ref (α 10)) (C := RX10) (T := TX10) (N := 7) hx hb hts (fun _ h => List.mem_cons_of_mem _ (List.mem_append_left _ (List.mem_append_left _ (List.mem_append_left _ (List.mem_append_left _ (List.mem_append_left _ (List.mem_append_right _ h))))))) hown hK hw 0 (Nat.lt_of_lt_of_le (Nat.le_of_ble_eq_true rfl : 0 < 191) hn) (mk_0 cA α) rfl 4 (by decide) (hts _ (List.mem_of_getElem? (i := 1) rfl)) (fun _ h9 => h9) rfl dX10_unrealized_6 ?_
  refine lv_aload_n hx hb dX10_unrealized_9 rfl (lv_at hl 0 rfl) ?_
  refine x_get (v := .ref (α 3)) (C := RX10) (T := TX10) (N := 7) hx hb hts (fun _ h => List.mem_cons_of_mem _ (List.mem_append_left _ (List.mem_append_left _ (List.mem_append_left _ (List.mem_append_left _ (List.mem_append_left _ (List.mem_append_right _ h))))))) hown hK hw 0 (Nat.lt_of_lt_of_le (Nat.le_of_ble_eq_true rfl : 0 < 191) hn) (mk_0 cA α) rfl 1 (by decide) (hts _ (List.mem_of_getElem? (i := 2) rfl)) (fun _ h9 => h9) rfl dX10_unrealized_10 ?_
  refine lv_iload_n hx hb dX10_unrealized_13 rfl (lv_at hl 1 rfl) ?_
  refine lv_iconst (v := (-1)) hx hb dX10_unrealized_14 (by decide) ?_
  refine lv_iconst (v := nI 0) hx hb dX10_unrealized_15 (by decide) ?_
  refine x_callVLr (q := 10) (C := RX1) (As := [.ref (α 3), .int (nI i), .int (-1), .int (nI 0)]) (rest := []) ⟨hx, hb, hml, hown, hts⟩ (ct_X1_profitAfter l D cA α n _ hn S (nI i) (-1) (nI 0) M hM hM2 hod) (cwV 4 hts gX10_unrealized_X1_profitAfter rfl rfl rfl (by decide +kernel) ⟨Nat.le_of_ble_eq_true rfl, Nat.le_of_ble_eq_true rfl⟩) hK hw hAw (ws_recv hK hw (q := 10) (Nat.lt_of_lt_of_le (Nat.le_of_ble_eq_true rfl : 10 < 191) hn) (mk_10 cA α) rfl) rfl hl.1 rfl (Nat.le_of_ble_eq_true rfl) dX10_unrealized_16 ⟨Nat.zero_le _, Nat.zero_le _⟩ (fun H locs hw => ?_)
  exact ret_l hx hb hr hlocks hK hw dX10_unrealized_19 rfl rfl

set_option maxRecDepth 100000 in
set_option maxHeartbeats 1000000 in
theorem ct_X10_unrealizedX (l : Launch) (hst : l.stackTraces = false) (sa : Nat → Nat) (D : va_G) (cA : Nat → ClassId) (α : Nat → Nat) (n sz : Nat) (hn : 191 ≤ n) (S : Mem) (Cn : Nat) (hC : S.1 23 1 = nI Cn) (hC2 : Cn ≤ 6) (x : Int32) (hx9 : ¬ ∃ i, i < Cn ∧ x = nI i) : CtX sa l yX10_unrealized wsX10_unrealized ({ frames := 7, cells := 1, slots := 6, locals := 121 }) D cA α n sz [.ref (α 0), .int x] S eIO := by
  refine ctx_enter cX10_unrealized 2 (some .long) (by decide) rfl (Nat.le_of_ble_eq_true rfl) ?_
  intro p e s m below meth c hx hb hr hml hlocks hown hts hK hsz hw hZ hSx hout ls hl
  have hown : s.vm.findClass RX10 = some m.cls := hown
  have hAw : ∀ z, Aw α n s.heap.size z → Aw α n sz z := by rw [hsz]; exact fun _ h => h
  have hl : lv_has ls 2 [(0, .ref (α 0)), (1, .int x)] := hl
  refine lv_aload_n hx hb dX10_unrealized_0 rfl (lv_at hl 0 rfl) ?_
  refine lv_iload_n hx hb dX10_unrealized_1 rfl (lv_at hl 1 rfl) ?_
  exact x_callXV (q := 0) (C := RX10) (As := [.int x]) (rest := []) ⟨hx, hb, hml, hown, hts⟩ (ct_X10_requireCompanyX l hst sa D cA α n _ hn S Cn hC hC2 x hx9) (cwV 1 hts gX10_unrealized_X10_requireCompany rfl rfl rfl (by decide +kernel) ⟨Nat.le_of_ble_eq_true rfl, Nat.le_of_ble_eq_true rfl⟩) hK hw hsz hZ hSx (ws_recv hK hw (q := 0) (Nat.lt_of_lt_of_le (Nat.le_of_ble_eq_true rfl : 0 < 191) hn) (mk_0 cA α) rfl) rfl hl.1 rfl (Nat.le_of_ble_eq_true rfl) dX10_unrealized_2 ⟨Nat.le_of_ble_eq_true rfl, Nat.le_of_ble_eq_true rfl⟩ hout hlocks rfl

set_option maxRecDepth 100000 in
set_option maxHeartbeats 1000000 in
theorem ct_X10_gapsOf (l : Launch) (D : va_G) (cA : Nat → ClassId) (α : Nat → Nat) (n sz : Nat) (hn : 191 ≤ n) (S : Mem) (Cn : Nat) (hC : S.1 23 1 = nI Cn) (hC2 : Cn ≤ 6) (i : Nat) (hi : i < Cn) (M : Nat) (hM : S.1 74 1 = nI M) (hM2 : M ≤ 100) (hod : ∀ d, d < M → okI (S.1 49 d) 6) : CtL l yX10_gapsOf wsX10_gapsOf ({ frames := 7, cells := 0, slots := 0, locals := 121 }) D cA α n sz [.ref (α 0), .int (nI i)] S (sumL (fGap S (nI i)) M) S := by
  refine ct_enter cX10_gapsOf 2 (some .long) (by decide) rfl (Nat.le_of_ble_eq_true rfl) ?_
  intro p e s m below meth c hx hb hr hml hlocks hown hts hK hsz hw ls hl
  have hown : s.vm.findClass RX10 = some m.cls := hown
  have hAw : ∀ z, Aw α n s.heap.size z → Aw α n sz z := by rw [hsz]; exact fun _ h => h
  have hl : lv_has ls 2 [(0, .ref (α 0)), (1, .int (nI i))] := hl
  refine lv_aload_n hx hb dX10_gapsOf_0 rfl (lv_at hl 0 rfl) ?_
  refine lv_iload_n hx hb dX10_gapsOf_1 rfl (lv_at hl 1 rfl) ?_
  refine x_callVVr (q := 0) (C := RX10) (As := [.int (nI i)]) (rest := []) ⟨hx, hb, hml, hown, hts⟩ (ct_X10_requireCompany l D cA α n _ hn S Cn hC hC2 i hi) (cwV 1 hts gX10_gapsOf_X10_requireCompany rfl rfl rfl (by decide +kernel) ⟨Nat.le_of_ble_eq_true rfl, Nat.le_of_ble_eq_true rfl⟩) hK hw hAw (ws_recv hK hw (q := 0) (Nat.lt_of_lt_of_le (Nat.le_of_ble_eq_true rfl : 0 < 191) hn) (mk_0 cA α) rfl) rfl hl.1 rfl (Nat.le_of_ble_eq_true rfl) dX10_gapsOf_2 ⟨Nat.zero_le _, Nat.zero_le _⟩ (fun H locs hw => ?_)
  refine lv_aload_n hx hb dX10_gapsOf_5 rfl (lv_at hl 0 rfl) ?_
  refine x_get (v := .ref (α 10)) (C := RX10) (T := TX10) (N := 7) hx hb hts (fun _ h => List.mem_cons_of_mem _ (List.mem_append_left _ (List.mem_append_left _ (List.mem_append_left _ (List.mem_append_left _ (List.mem_append_left _ (List.mem_append_right _ h))))))) hown hK hw 0 (Nat.lt_of_lt_of_le (Nat.le_of_ble_eq_true rfl : 0 < 191) hn) (mk_0 cA α) rfl 4 (by decide) (hts _ (List.mem_of_getElem? (i := 1) rfl)) (fun _ h9 => h9) rfl dX10_gapsOf_6 ?_
  refine lv_aload_n hx hb dX10_gapsOf_9 rfl (lv_at hl 0 rfl) ?_
  refine x_get (v := .ref (α 3)) (C := RX10) (T := TX10) (N := 7) hx hb hts (fun _ h => List.mem_cons_of_mem _ (List.mem_append_left _ (List.mem_append_left _ (List.mem_append_left _ (List.mem_append_left _ (List.mem_append_left _ (List.mem_append_right _ h))))))) hown hK hw 0 (Nat.lt_of_lt_of_le (Nat.le_of_ble_eq_true rfl : 0 < 191) hn) (mk_0 cA α) rfl 1 (by decide) (hts _ (List.mem_of_getElem? (i := 2) rfl)) (fun _ h9 => h9) rfl dX10_gapsOf_10 ?_
  refine lv_iload_n hx hb dX10_gapsOf_13 rfl (lv_at hl 1 rfl) ?_
  refine x_callVLr (q := 10) (C := RX1) (As := [.ref (α 3), .int (nI i)]) (rest := []) ⟨hx, hb, hml, hown, hts⟩ (ct_X1_netGaps l D cA α n _ hn S (nI i) M hM hM2 hod) (cwV 2 hts gX10_gapsOf_X1_netGaps rfl rfl rfl (by decide +kernel) ⟨Nat.le_of_ble_eq_true rfl, Nat.le_of_ble_eq_true rfl⟩) hK hw hAw (ws_recv hK hw (q := 10) (Nat.lt_of_lt_of_le (Nat.le_of_ble_eq_true rfl : 10 < 191) hn) (mk_10 cA α) rfl) rfl hl.1 rfl (Nat.le_of_ble_eq_true rfl) dX10_gapsOf_14 ⟨Nat.zero_le _, Nat.zero_le _⟩ (fun H locs hw => ?_)
  exact ret_l hx hb hr hlocks hK hw dX10_gapsOf_17 rfl rfl

set_option maxRecDepth 100000 in
set_option maxHeartbeats 1000000 in
theorem ct_X10_gapsOfX (l : Launch) (hst : l.stackTraces = false) (sa : Nat → Nat) (D : va_G) (cA : Nat → ClassId) (α : Nat → Nat) (n sz : Nat) (hn : 191 ≤ n) (S : Mem) (Cn : Nat) (hC : S.1 23 1 = nI Cn) (hC2 : Cn ≤ 6) (x : Int32) (hx9 : ¬ ∃ i, i < Cn ∧ x = nI i) : CtX sa l yX10_gapsOf wsX10_gapsOf ({ frames := 7, cells := 1, slots := 6, locals := 121 }) D cA α n sz [.ref (α 0), .int x] S eIO := by
  refine ctx_enter cX10_gapsOf 2 (some .long) (by decide) rfl (Nat.le_of_ble_eq_true rfl) ?_
  intro p e s m below meth c hx hb hr hml hlocks hown hts hK hsz hw hZ hSx hout ls hl
  have hown : s.vm.findClass RX10 = some m.cls := hown
  have hAw : ∀ z, Aw α n s.heap.size z → Aw α n sz z := by rw [hsz]; exact fun _ h => h
  have hl : lv_has ls 2 [(0, .ref (α 0)), (1, .int x)] := hl
  refine lv_aload_n hx hb dX10_gapsOf_0 rfl (lv_at hl 0 rfl) ?_
  refine lv_iload_n hx hb dX10_gapsOf_1 rfl (lv_at hl 1 rfl) ?_
  exact x_callXV (q := 0) (C := RX10) (As := [.int x]) (rest := []) ⟨hx, hb, hml, hown, hts⟩ (ct_X10_requireCompanyX l hst sa D cA α n _ hn S Cn hC hC2 x hx9) (cwV 1 hts gX10_gapsOf_X10_requireCompany rfl rfl rfl (by decide +kernel) ⟨Nat.le_of_ble_eq_true rfl, Nat.le_of_ble_eq_true rfl⟩) hK hw hsz hZ hSx (ws_recv hK hw (q := 0) (Nat.lt_of_lt_of_le (Nat.le_of_ble_eq_true rfl : 0 < 191) hn) (mk_0 cA α) rfl) rfl hl.1 rfl (Nat.le_of_ble_eq_true rfl) dX10_gapsOf_2 ⟨Nat.le_of_ble_eq_true rfl, Nat.le_of_ble_eq_true rfl⟩ hout hlocks rfl

def cCd (S : Mem) (i : Nat) : Int64 := if ¬ S.1 76 i = nI 4 then cVal S i - S.2 78 i else 0

set_option maxRecDepth 100000 in
set_option maxHeartbeats 1000000 in
theorem ct_X10_currencyDifference (l : Launch) (D : va_G) (cA : Nat → ClassId) (α : Nat → Nat) (n sz : Nat) (hn : 191 ≤ n) (S : Mem) (N : Nat) (hN : S.1 74 0 = nI N) (hN2 : N ≤ 100) (i : Nat) (hi : i < N) (ho : okC S i) : CtL l yX10_currencyDifference wsX10_currencyDifference ({ frames := 7, cells := 0, slots := 0, locals := 121 }) D cA α n sz [.ref (α 0), .int (nI i)] S (cCd S i) S := by
  refine ct_enter cX10_currencyDifference 2 (some .long) (by decide) rfl (Nat.le_of_ble_eq_true rfl) ?_
  intro p e s m below meth c hx hb hr hml hlocks hown hts hK hsz hw ls hl
  have hown : s.vm.findClass RX10 = some m.cls := hown
  have hAw : ∀ z, Aw α n s.heap.size z → Aw α n sz z := by rw [hsz]; exact fun _ h => h
  have hl : lv_has ls 2 [(0, .ref (α 0)), (1, .int (nI i))] := hl
  refine lv_aload_n hx hb dX10_currencyDifference_0 rfl (lv_at hl 0 rfl) ?_
  refine lv_iload_n hx hb dX10_currencyDifference_1 rfl (lv_at hl 1 rfl) ?_
  refine x_callVVr (q := 0) (C := RX10) (As := [.int (nI i)]) (rest := []) ⟨hx, hb, hml, hown, hts⟩ (ct_X10_requireItem l D cA α n _ hn S N hN hN2 i hi) (cwV 1 hts gX10_currencyDifference_X10_requireItem rfl rfl rfl (by decide +kernel) ⟨Nat.le_of_ble_eq_true rfl, Nat.le_of_ble_eq_true rfl⟩) hK hw hAw (ws_recv hK hw (q := 0) (Nat.lt_of_lt_of_le (Nat.le_of_ble_eq_true rfl : 0 < 191) hn) (mk_0 cA α) rfl) rfl hl.1 rfl (Nat.le_of_ble_eq_true rfl) dX10_currencyDifference_2 ⟨Nat.zero_le _, Nat.zero_le _⟩ (fun H locs hw => ?_)
  refine lv_aload_n hx hb dX10_currencyDifference_5 rfl (lv_at hl 0 rfl) ?_
  refine x_get (v := .ref (α 3)) (C := RX10) (T := TX10) (N := 7) hx hb hts (fun _ h => List.mem_cons_of_mem _ (List.mem_append_left _ (List.mem_append_left _ (List.mem_append_left _ (List.mem_append_left _ (List.mem_append_left _ (List.mem_append_right _ h))))))) hown hK hw 0 (Nat.lt_of_lt_of_le (Nat.le_of_ble_eq_true rfl : 0 < 191) hn) (mk_0 cA α) rfl 1 (by decide) (hts _ (List.mem_of_getElem? (i := 1) rfl)) (fun _ h9 => h9) rfl dX10_currencyDifference_6 ?_
  refine x_get (v := .ref (α 74)) (C := RX0) (T := TX0) (N := 3) hx hb hts (fun _ h => List.mem_cons_of_mem _ (List.mem_append_left _ (List.mem_append_left _ (List.mem_append_left _ (List.mem_append_left _ (List.mem_append_right _ h)))))) hown hK hw 3 (Nat.lt_of_lt_of_le (Nat.le_of_ble_eq_true rfl : 3 < 191) hn) (mk_3 cA α) rfl 2 (by decide) (hts _ (List.mem_of_getElem? (i := 2) rfl)) (fun _ h9 => h9) rfl dX10_currencyDifference_9 ?_
  refine x_get (v := .ref (α 76)) (C := RX9) (T := TX9) (N := 14) hx hb hts (fun _ h => List.mem_cons_of_mem _ (List.mem_append_left _ (List.mem_append_left _ (List.mem_append_left _ (List.mem_append_right _ h))))) hown hK hw 74 (Nat.lt_of_lt_of_le (Nat.le_of_ble_eq_true rfl : 74 < 191) hn) (mk_74 cA α) rfl 7 (by decide) (hts _ (List.mem_of_getElem? (i := 3) rfl)) (fun _ h9 => h9) rfl dX10_currencyDifference_12 ?_
  refine lv_iload_n hx hb dX10_currencyDifference_15 rfl (lv_at hl 1 rfl) ?_
  refine x_iald hx hb hK hw 76 100 (Nat.lt_of_lt_of_le (Nat.le_of_ble_eq_true rfl : 76 < 191) hn) (mk_76 cA α) i rfl (by omega) (by decide) dX10_currencyDifference_16 ?_
  refine lv_iconst (v := nI 4) hx hb dX10_currencyDifference_17 (by decide) ?_
  refine lv_icmp_ne (tgt := 23) hx hb dX10_currencyDifference_18 (by decide) (fun c1 => ?_) (fun c1 => ?_)
  · skip
    refine lv_aload_n hx hb dX10_currencyDifference_23 rfl (lv_at hl 0 rfl) ?_
    refine x_get (v := .ref (α 3)) (C := RX10) (T := TX10) (N := 7) hx hb hts (fun _ h => List.mem_cons_of_mem _ (List.mem_append_left _ (List.mem_append_left _ (List.mem_append_left _ (List.mem_append_left _ (List.mem_append_left _ (List.mem_append_right _ h))))))) hown hK hw 0 (Nat.lt_of_lt_of_le (Nat.le_of_ble_eq_true rfl : 0 < 191) hn) (mk_0 cA α) rfl 1 (by decide) (hts _ (List.mem_of_getElem? (i := 1) rfl)) (fun _ h9 => h9) rfl dX10_currencyDifference_24 ?_
    refine lv_iload_n hx hb dX10_currencyDifference_27 rfl (lv_at hl 1 rfl) ?_
    refine x_callVLr (q := 3) (C := RX0) (As := [.int (nI i)]) (rest := []) ⟨hx, hb, hml, hown, hts⟩ (ct_X0_valueOf l D cA α n _ hn S i ho) (cwV 1 hts gX10_currencyDifference_X0_valueOf rfl rfl rfl (by decide +kernel) ⟨Nat.le_of_ble_eq_true rfl, Nat.le_of_ble_eq_true rfl⟩) hK hw hAw (ws_recv hK hw (q := 3) (Nat.lt_of_lt_of_le (Nat.le_of_ble_eq_true rfl : 3 < 191) hn) (mk_3 cA α) rfl) rfl hl.1 rfl (Nat.le_of_ble_eq_true rfl) dX10_currencyDifference_28 ⟨Nat.zero_le _, Nat.zero_le _⟩ (fun H locs hw => ?_)
    refine lv_aload_n hx hb dX10_currencyDifference_31 rfl (lv_at hl 0 rfl) ?_
    refine x_get (v := .ref (α 3)) (C := RX10) (T := TX10) (N := 7) hx hb hts (fun _ h => List.mem_cons_of_mem _ (List.mem_append_left _ (List.mem_append_left _ (List.mem_append_left _ (List.mem_append_left _ (List.mem_append_left _ (List.mem_append_right _ h))))))) hown hK hw 0 (Nat.lt_of_lt_of_le (Nat.le_of_ble_eq_true rfl : 0 < 191) hn) (mk_0 cA α) rfl 1 (by decide) (hts _ (List.mem_of_getElem? (i := 1) rfl)) (fun _ h9 => h9) rfl dX10_currencyDifference_32 ?_
    refine x_get (v := .ref (α 74)) (C := RX0) (T := TX0) (N := 3) hx hb hts (fun _ h => List.mem_cons_of_mem _ (List.mem_append_left _ (List.mem_append_left _ (List.mem_append_left _ (List.mem_append_left _ (List.mem_append_right _ h)))))) hown hK hw 3 (Nat.lt_of_lt_of_le (Nat.le_of_ble_eq_true rfl : 3 < 191) hn) (mk_3 cA α) rfl 2 (by decide) (hts _ (List.mem_of_getElem? (i := 2) rfl)) (fun _ h9 => h9) rfl dX10_currencyDifference_35 ?_
    refine x_get (v := .ref (α 78)) (C := RX9) (T := TX9) (N := 14) hx hb hts (fun _ h => List.mem_cons_of_mem _ (List.mem_append_left _ (List.mem_append_left _ (List.mem_append_left _ (List.mem_append_right _ h))))) hown hK hw 74 (Nat.lt_of_lt_of_le (Nat.le_of_ble_eq_true rfl : 74 < 191) hn) (mk_74 cA α) rfl 9 (by decide) (hts _ (List.mem_of_getElem? (i := 4) rfl)) (fun _ h9 => h9) rfl dX10_currencyDifference_38 ?_
    refine lv_iload_n hx hb dX10_currencyDifference_41 rfl (lv_at hl 1 rfl) ?_
    refine x_lald hx hb hK hw 78 100 (Nat.lt_of_lt_of_le (Nat.le_of_ble_eq_true rfl : 78 < 191) hn) (mk_78 cA α) i rfl (by omega) (by decide) dX10_currencyDifference_42 ?_
    refine lv_lsub hx hb dX10_currencyDifference_43 ?_
    exact ret_l hx hb hr hlocks hK hw dX10_currencyDifference_44 (by first | (simp only [cCd, if_neg c1, if_pos c1, decide_eq_false c1, if_true, if_false, eq_self, Bool.false_eq_true, not_true_eq_false, not_false_eq_true, decide_true, decide_false, Bool.and_true, Bool.true_and, Bool.and_false, Bool.false_and, Bool.not_true, Bool.not_false, Bool.or_true, Bool.true_or, Bool.or_false, Bool.false_or, reduceIte, b2i_t, b2i_f]; done) | rfl | (simp [cCd, if_neg c1, if_pos c1, decide_eq_false c1, b2i, nI_0, nI_one]; done)) rfl
  · skip
    refine lv_lconst (v := 0) hx hb dX10_currencyDifference_21 (by decide) ?_
    exact ret_l hx hb hr hlocks hK hw dX10_currencyDifference_22 (by first | (simp only [cCd, if_pos c1, if_neg (not_not_intro c1), decide_eq_true c1, if_true, if_false, eq_self, Bool.false_eq_true, not_true_eq_false, not_false_eq_true, decide_true, decide_false, Bool.and_true, Bool.true_and, Bool.and_false, Bool.false_and, Bool.not_true, Bool.not_false, Bool.or_true, Bool.true_or, Bool.or_false, Bool.false_or, reduceIte, b2i_t, b2i_f]; done) | rfl | (simp [cCd, if_pos c1, if_neg (not_not_intro c1), decide_eq_true c1, b2i, nI_0, nI_one]; done)) rfl

set_option maxRecDepth 100000 in
set_option maxHeartbeats 1000000 in
theorem ct_X10_currencyDifferenceX (l : Launch) (hst : l.stackTraces = false) (sa : Nat → Nat) (D : va_G) (cA : Nat → ClassId) (α : Nat → Nat) (n sz : Nat) (hn : 191 ≤ n) (S : Mem) (N : Nat) (hN : S.1 74 0 = nI N) (hN2 : N ≤ 100) (x : Int32) (hx9 : ¬ ∃ i, i < N ∧ x = nI i) : CtX sa l yX10_currencyDifference wsX10_currencyDifference ({ frames := 7, cells := 1, slots := 6, locals := 121 }) D cA α n sz [.ref (α 0), .int x] S eIO := by
  refine ctx_enter cX10_currencyDifference 2 (some .long) (by decide) rfl (Nat.le_of_ble_eq_true rfl) ?_
  intro p e s m below meth c hx hb hr hml hlocks hown hts hK hsz hw hZ hSx hout ls hl
  have hown : s.vm.findClass RX10 = some m.cls := hown
  have hAw : ∀ z, Aw α n s.heap.size z → Aw α n sz z := by rw [hsz]; exact fun _ h => h
  have hl : lv_has ls 2 [(0, .ref (α 0)), (1, .int x)] := hl
  refine lv_aload_n hx hb dX10_currencyDifference_0 rfl (lv_at hl 0 rfl) ?_
  refine lv_iload_n hx hb dX10_currencyDifference_1 rfl (lv_at hl 1 rfl) ?_
  exact x_callXV (q := 0) (C := RX10) (As := [.int x]) (rest := []) ⟨hx, hb, hml, hown, hts⟩ (ct_X10_requireItemX l hst sa D cA α n _ hn S N hN hN2 x hx9) (cwV 1 hts gX10_currencyDifference_X10_requireItem rfl rfl rfl (by decide +kernel) ⟨Nat.le_of_ble_eq_true rfl, Nat.le_of_ble_eq_true rfl⟩) hK hw hsz hZ hSx (ws_recv hK hw (q := 0) (Nat.lt_of_lt_of_le (Nat.le_of_ble_eq_true rfl : 0 < 191) hn) (mk_0 cA α) rfl) rfl hl.1 rfl (Nat.le_of_ble_eq_true rfl) dX10_currencyDifference_2 ⟨Nat.le_of_ble_eq_true rfl, Nat.le_of_ble_eq_true rfl⟩ hout hlocks rfl

set_option maxRecDepth 100000 in
set_option maxHeartbeats 1000000 in
theorem ct_X10_position (l : Launch) (D : va_G) (cA : Nat → ClassId) (α : Nat → Nat) (n sz : Nat) (hn : 191 ≤ n) (S : Mem) (Cn : Nat) (hC : S.1 23 1 = nI Cn) (hC2 : Cn ≤ 6) (i : Nat) (hi : i < Cn) (N : Nat) (hN : S.1 74 0 = nI N) (hN2 : N ≤ 100) (ho : ∀ j, j < N → okC S j) (hpa : ∀ j, j < N → okI (S.1 46 j) 6) : CtL l yX10_position wsX10_position ({ frames := 7, cells := 0, slots := 0, locals := 121 }) D cA α n sz [.ref (α 0), .int (nI i)] S (cPos S N i) (setL S 7 (cPos S N)) := by
  refine ct_enter cX10_position 2 (some .long) (by decide) rfl (Nat.le_of_ble_eq_true rfl) ?_
  intro p e s m below meth c hx hb hr hml hlocks hown hts hK hsz hw ls hl
  have hown : s.vm.findClass RX10 = some m.cls := hown
  have hAw : ∀ z, Aw α n s.heap.size z → Aw α n sz z := by rw [hsz]; exact fun _ h => h
  have hl : lv_has ls 2 [(0, .ref (α 0)), (1, .int (nI i))] := hl
  refine lv_aload_n hx hb dX10_position_0 rfl (lv_at hl 0 rfl) ?_
  refine lv_iload_n hx hb dX10_position_1 rfl (lv_at hl 1 rfl) ?_
  refine x_callVVr (q := 0) (C := RX10) (As := [.int (nI i)]) (rest := []) ⟨hx, hb, hml, hown, hts⟩ (ct_X10_requireCompany l D cA α n _ hn S Cn hC hC2 i hi) (cwV 1 hts gX10_position_X10_requireCompany rfl rfl rfl (by decide +kernel) ⟨Nat.le_of_ble_eq_true rfl, Nat.le_of_ble_eq_true rfl⟩) hK hw hAw (ws_recv hK hw (q := 0) (Nat.lt_of_lt_of_le (Nat.le_of_ble_eq_true rfl : 0 < 191) hn) (mk_0 cA α) rfl) rfl hl.1 rfl (Nat.le_of_ble_eq_true rfl) dX10_position_2 ⟨Nat.zero_le _, Nat.zero_le _⟩ (fun H locs hw => ?_)
  refine lv_aload_n hx hb dX10_position_5 rfl (lv_at hl 0 rfl) ?_
  refine x_get (v := .ref (α 6)) (C := RX10) (T := TX10) (N := 7) hx hb hts (fun _ h => List.mem_cons_of_mem _ (List.mem_append_left _ (List.mem_append_left _ (List.mem_append_left _ (List.mem_append_left _ (List.mem_append_left _ (List.mem_append_left _ (List.mem_append_right _ h)))))))) hown hK hw 0 (Nat.lt_of_lt_of_le (Nat.le_of_ble_eq_true rfl : 0 < 191) hn) (mk_0 cA α) rfl 3 (by decide) (hts _ (List.mem_of_getElem? (i := 1) rfl)) (fun _ h9 => h9) rfl dX10_position_6 ?_
  refine lv_aload_n hx hb dX10_position_9 rfl (lv_at hl 0 rfl) ?_
  refine x_get (v := .ref (α 3)) (C := RX10) (T := TX10) (N := 7) hx hb hts (fun _ h => List.mem_cons_of_mem _ (List.mem_append_left _ (List.mem_append_left _ (List.mem_append_left _ (List.mem_append_left _ (List.mem_append_left _ (List.mem_append_left _ (List.mem_append_right _ h)))))))) hown hK hw 0 (Nat.lt_of_lt_of_le (Nat.le_of_ble_eq_true rfl : 0 < 191) hn) (mk_0 cA α) rfl 1 (by decide) (hts _ (List.mem_of_getElem? (i := 2) rfl)) (fun _ h9 => h9) rfl dX10_position_10 ?_
  refine x_callVV (q := 6) (C := RX6) (As := [.ref (α 3)]) (rest := []) ⟨hx, hb, hml, hown, hts⟩ (ct_X6_findPositions l D cA α n _ hn S N hN hN2 ho hpa) (cwV 1 hts gX10_position_X6_findPositions rfl rfl rfl (by decide +kernel) ⟨Nat.le_of_ble_eq_true rfl, Nat.le_of_ble_eq_true rfl⟩) hK hw hAw (ws_recv hK hw (q := 6) (Nat.lt_of_lt_of_le (Nat.le_of_ble_eq_true rfl : 6 < 191) hn) (mk_6 cA α) rfl) rfl hl.1 rfl (Nat.le_of_ble_eq_true rfl) dX10_position_13 ⟨Nat.zero_le _, Nat.zero_le _⟩ (fun S1 eS1 H locs hw => ?_)
  refine lv_aload_n hx hb dX10_position_16 rfl (lv_at hl 0 rfl) ?_
  refine x_get (v := .ref (α 6)) (C := RX10) (T := TX10) (N := 7) hx hb hts (fun _ h => List.mem_cons_of_mem _ (List.mem_append_left _ (List.mem_append_left _ (List.mem_append_left _ (List.mem_append_left _ (List.mem_append_left _ (List.mem_append_left _ (List.mem_append_right _ h)))))))) hown hK hw 0 (Nat.lt_of_lt_of_le (Nat.le_of_ble_eq_true rfl : 0 < 191) hn) (mk_0 cA α) rfl 3 (by decide) (hts _ (List.mem_of_getElem? (i := 1) rfl)) (fun _ h9 => h9) rfl dX10_position_17 ?_
  refine x_get (v := .ref (α 7)) (C := RX6) (T := TX6) (N := 3) hx hb hts (fun _ h => List.mem_cons_of_mem _ (List.mem_append_left _ (List.mem_append_left _ (List.mem_append_left _ (List.mem_append_left _ (List.mem_append_left _ (List.mem_append_right _ h))))))) hown hK hw 6 (Nat.lt_of_lt_of_le (Nat.le_of_ble_eq_true rfl : 6 < 191) hn) (mk_6 cA α) rfl 0 (by decide) (hts _ (List.mem_of_getElem? (i := 3) rfl)) (fun _ h9 => h9) rfl dX10_position_20 ?_
  refine lv_iload_n hx hb dX10_position_23 rfl (lv_at hl 1 rfl) ?_
  refine x_lald hx hb hK hw 7 6 (Nat.lt_of_lt_of_le (Nat.le_of_ble_eq_true rfl : 7 < 191) hn) (mk_7 cA α) i rfl (by omega) (by decide) dX10_position_24 ?_
  exact ret_l hx hb hr hlocks hK hw dX10_position_25 (by subst_vars; rw [sL_e]) (by subst_vars; rfl)

set_option maxRecDepth 100000 in
set_option maxHeartbeats 1000000 in
theorem ct_X10_positionX (l : Launch) (hst : l.stackTraces = false) (sa : Nat → Nat) (D : va_G) (cA : Nat → ClassId) (α : Nat → Nat) (n sz : Nat) (hn : 191 ≤ n) (S : Mem) (Cn : Nat) (hC : S.1 23 1 = nI Cn) (hC2 : Cn ≤ 6) (x : Int32) (hx9 : ¬ ∃ i, i < Cn ∧ x = nI i) : CtX sa l yX10_position wsX10_position ({ frames := 7, cells := 1, slots := 6, locals := 121 }) D cA α n sz [.ref (α 0), .int x] S eIO := by
  refine ctx_enter cX10_position 2 (some .long) (by decide) rfl (Nat.le_of_ble_eq_true rfl) ?_
  intro p e s m below meth c hx hb hr hml hlocks hown hts hK hsz hw hZ hSx hout ls hl
  have hown : s.vm.findClass RX10 = some m.cls := hown
  have hAw : ∀ z, Aw α n s.heap.size z → Aw α n sz z := by rw [hsz]; exact fun _ h => h
  have hl : lv_has ls 2 [(0, .ref (α 0)), (1, .int x)] := hl
  refine lv_aload_n hx hb dX10_position_0 rfl (lv_at hl 0 rfl) ?_
  refine lv_iload_n hx hb dX10_position_1 rfl (lv_at hl 1 rfl) ?_
  exact x_callXV (q := 0) (C := RX10) (As := [.int x]) (rest := []) ⟨hx, hb, hml, hown, hts⟩ (ct_X10_requireCompanyX l hst sa D cA α n _ hn S Cn hC hC2 x hx9) (cwV 1 hts gX10_position_X10_requireCompany rfl rfl rfl (by decide +kernel) ⟨Nat.le_of_ble_eq_true rfl, Nat.le_of_ble_eq_true rfl⟩) hK hw hsz hZ hSx (ws_recv hK hw (q := 0) (Nat.lt_of_lt_of_le (Nat.le_of_ble_eq_true rfl : 0 < 191) hn) (mk_0 cA α) rfl) rfl hl.1 rfl (Nat.le_of_ble_eq_true rfl) dX10_position_2 ⟨Nat.le_of_ble_eq_true rfl, Nat.le_of_ble_eq_true rfl⟩ hout hlocks rfl

set_option maxRecDepth 100000 in
set_option maxHeartbeats 1000000 in
theorem ct_X10_product0 (l : Launch) (D : va_G) (cA : Nat → ClassId) (α : Nat → Nat) (n sz : Nat) (hn : 191 ≤ n) (S : Mem) (Pn : Nat) (hP9 : S.1 23 2 = nI Pn) (hP2 : Pn ≤ 6) (i : Nat) (hi : i < Pn) : CtI l yX10_product wsX10_product ({ frames := 7, cells := 0, slots := 0, locals := 121 }) D cA α n sz [.ref (α 0), .int (nI i), .int (nI 0)] S (S.1 26 i) S := by
  refine ct_enter cX10_product 3 (some .int) (by decide) rfl (Nat.le_of_ble_eq_true rfl) ?_
  intro p e s m below meth c hx hb hr hml hlocks hown hts hK hsz hw ls hl
  have hown : s.vm.findClass RX10 = some m.cls := hown
  have hAw : ∀ z, Aw α n s.heap.size z → Aw α n sz z := by rw [hsz]; exact fun _ h => h
  have hl : lv_has ls 3 [(0, .ref (α 0)), (1, .int (nI i)), (2, .int (nI 0))] := hl
  refine lv_aload_n hx hb dX10_product_0 rfl (lv_at hl 0 rfl) ?_
  refine lv_iload_n hx hb dX10_product_1 rfl (lv_at hl 1 rfl) ?_
  refine x_callVVr (q := 0) (C := RX10) (As := [.int (nI i)]) (rest := []) ⟨hx, hb, hml, hown, hts⟩ (ct_X10_requireProduct l D cA α n _ hn S Pn hP9 hP2 i hi) (cwV 1 hts gX10_product_X10_requireProduct rfl rfl rfl (by decide +kernel) ⟨Nat.le_of_ble_eq_true rfl, Nat.le_of_ble_eq_true rfl⟩) hK hw hAw (ws_recv hK hw (q := 0) (Nat.lt_of_lt_of_le (Nat.le_of_ble_eq_true rfl : 0 < 191) hn) (mk_0 cA α) rfl) rfl hl.1 rfl (Nat.le_of_ble_eq_true rfl) dX10_product_2 ⟨Nat.zero_le _, Nat.zero_le _⟩ (fun H locs hw => ?_)
  refine lv_iload_n hx hb dX10_product_5 rfl (lv_at hl 2 rfl) ?_
  refine lv_tableIn (tgt := 36) (off := 30) hx hb dX10_product_6 (by decide) (by decide) (by decide) (by decide) ?_
  refine lv_aload_n hx hb dX10_product_36 rfl (lv_at hl 0 rfl) ?_
  refine x_get (v := .ref (α 3)) (C := RX10) (T := TX10) (N := 7) hx hb hts (fun _ h => List.mem_cons_of_mem _ (List.mem_append_left _ (List.mem_append_left _ (List.mem_append_left _ (List.mem_append_left _ (List.mem_append_right _ h)))))) hown hK hw 0 (Nat.lt_of_lt_of_le (Nat.le_of_ble_eq_true rfl : 0 < 191) hn) (mk_0 cA α) rfl 1 (by decide) (hts _ (List.mem_of_getElem? (i := 3) rfl)) (fun _ h9 => h9) rfl dX10_product_37 ?_
  refine x_get (v := .ref (α 23)) (C := RX0) (T := TX0) (N := 3) hx hb hts (fun _ h => List.mem_cons_of_mem _ (List.mem_append_left _ (List.mem_append_left _ (List.mem_append_left _ (List.mem_append_right _ h))))) hown hK hw 3 (Nat.lt_of_lt_of_le (Nat.le_of_ble_eq_true rfl : 3 < 191) hn) (mk_3 cA α) rfl 0 (by decide) (hts _ (List.mem_of_getElem? (i := 4) rfl)) (fun _ h9 => h9) rfl dX10_product_40 ?_
  refine x_get (v := .ref (α 26)) (C := RX2) (T := TX2) (N := 12) hx hb hts (fun _ h => List.mem_cons_of_mem _ (List.mem_append_left _ (List.mem_append_left _ (List.mem_append_right _ h)))) hown hK hw 23 (Nat.lt_of_lt_of_le (Nat.le_of_ble_eq_true rfl : 23 < 191) hn) (mk_23 cA α) rfl 8 (by decide) (hts _ (List.mem_of_getElem? (i := 5) rfl)) (fun _ h9 => h9) rfl dX10_product_43 ?_
  refine lv_iload_n hx hb dX10_product_46 rfl (lv_at hl 1 rfl) ?_
  refine x_iald hx hb hK hw 26 6 (Nat.lt_of_lt_of_le (Nat.le_of_ble_eq_true rfl : 26 < 191) hn) (mk_26 cA α) i rfl (by omega) (by decide) dX10_product_47 ?_
  exact ret_i hx hb hr hlocks hK hw dX10_product_48 rfl rfl

set_option maxRecDepth 100000 in
set_option maxHeartbeats 1000000 in
theorem ct_X10_product1 (l : Launch) (D : va_G) (cA : Nat → ClassId) (α : Nat → Nat) (n sz : Nat) (hn : 191 ≤ n) (S : Mem) (Pn : Nat) (hP9 : S.1 23 2 = nI Pn) (hP2 : Pn ≤ 6) (i : Nat) (hi : i < Pn) : CtI l yX10_product wsX10_product ({ frames := 7, cells := 0, slots := 0, locals := 121 }) D cA α n sz [.ref (α 0), .int (nI i), .int (nI 1)] S (S.1 27 i) S := by
  refine ct_enter cX10_product 3 (some .int) (by decide) rfl (Nat.le_of_ble_eq_true rfl) ?_
  intro p e s m below meth c hx hb hr hml hlocks hown hts hK hsz hw ls hl
  have hown : s.vm.findClass RX10 = some m.cls := hown
  have hAw : ∀ z, Aw α n s.heap.size z → Aw α n sz z := by rw [hsz]; exact fun _ h => h
  have hl : lv_has ls 3 [(0, .ref (α 0)), (1, .int (nI i)), (2, .int (nI 1))] := hl
  refine lv_aload_n hx hb dX10_product_0 rfl (lv_at hl 0 rfl) ?_
  refine lv_iload_n hx hb dX10_product_1 rfl (lv_at hl 1 rfl) ?_
  refine x_callVVr (q := 0) (C := RX10) (As := [.int (nI i)]) (rest := []) ⟨hx, hb, hml, hown, hts⟩ (ct_X10_requireProduct l D cA α n _ hn S Pn hP9 hP2 i hi) (cwV 1 hts gX10_product_X10_requireProduct rfl rfl rfl (by decide +kernel) ⟨Nat.le_of_ble_eq_true rfl, Nat.le_of_ble_eq_true rfl⟩) hK hw hAw (ws_recv hK hw (q := 0) (Nat.lt_of_lt_of_le (Nat.le_of_ble_eq_true rfl : 0 < 191) hn) (mk_0 cA α) rfl) rfl hl.1 rfl (Nat.le_of_ble_eq_true rfl) dX10_product_2 ⟨Nat.zero_le _, Nat.zero_le _⟩ (fun H locs hw => ?_)
  refine lv_iload_n hx hb dX10_product_5 rfl (lv_at hl 2 rfl) ?_
  refine lv_tableIn (tgt := 49) (off := 43) hx hb dX10_product_6 (by decide) (by decide) (by decide) (by decide) ?_
  refine lv_aload_n hx hb dX10_product_49 rfl (lv_at hl 0 rfl) ?_
  refine x_get (v := .ref (α 3)) (C := RX10) (T := TX10) (N := 7) hx hb hts (fun _ h => List.mem_cons_of_mem _ (List.mem_append_left _ (List.mem_append_left _ (List.mem_append_left _ (List.mem_append_left _ (List.mem_append_right _ h)))))) hown hK hw 0 (Nat.lt_of_lt_of_le (Nat.le_of_ble_eq_true rfl : 0 < 191) hn) (mk_0 cA α) rfl 1 (by decide) (hts _ (List.mem_of_getElem? (i := 3) rfl)) (fun _ h9 => h9) rfl dX10_product_50 ?_
  refine x_get (v := .ref (α 23)) (C := RX0) (T := TX0) (N := 3) hx hb hts (fun _ h => List.mem_cons_of_mem _ (List.mem_append_left _ (List.mem_append_left _ (List.mem_append_left _ (List.mem_append_right _ h))))) hown hK hw 3 (Nat.lt_of_lt_of_le (Nat.le_of_ble_eq_true rfl : 3 < 191) hn) (mk_3 cA α) rfl 0 (by decide) (hts _ (List.mem_of_getElem? (i := 4) rfl)) (fun _ h9 => h9) rfl dX10_product_53 ?_
  refine x_get (v := .ref (α 27)) (C := RX2) (T := TX2) (N := 12) hx hb hts (fun _ h => List.mem_cons_of_mem _ (List.mem_append_left _ (List.mem_append_left _ (List.mem_append_right _ h)))) hown hK hw 23 (Nat.lt_of_lt_of_le (Nat.le_of_ble_eq_true rfl : 23 < 191) hn) (mk_23 cA α) rfl 9 (by decide) (hts _ (List.mem_of_getElem? (i := 6) rfl)) (fun _ h9 => h9) rfl dX10_product_56 ?_
  refine lv_iload_n hx hb dX10_product_59 rfl (lv_at hl 1 rfl) ?_
  refine x_iald hx hb hK hw 27 6 (Nat.lt_of_lt_of_le (Nat.le_of_ble_eq_true rfl : 27 < 191) hn) (mk_27 cA α) i rfl (by omega) (by decide) dX10_product_60 ?_
  exact ret_i hx hb hr hlocks hK hw dX10_product_61 rfl rfl

set_option maxRecDepth 100000 in
set_option maxHeartbeats 1000000 in
theorem ct_X10_product2 (l : Launch) (D : va_G) (cA : Nat → ClassId) (α : Nat → Nat) (n sz : Nat) (hn : 191 ≤ n) (S : Mem) (Pn : Nat) (hP9 : S.1 23 2 = nI Pn) (hP2 : Pn ≤ 6) (i : Nat) (hi : i < Pn) : CtI l yX10_product wsX10_product ({ frames := 7, cells := 0, slots := 0, locals := 121 }) D cA α n sz [.ref (α 0), .int (nI i), .int (nI 2)] S (S.1 28 i) S := by
  refine ct_enter cX10_product 3 (some .int) (by decide) rfl (Nat.le_of_ble_eq_true rfl) ?_
  intro p e s m below meth c hx hb hr hml hlocks hown hts hK hsz hw ls hl
  have hown : s.vm.findClass RX10 = some m.cls := hown
  have hAw : ∀ z, Aw α n s.heap.size z → Aw α n sz z := by rw [hsz]; exact fun _ h => h
  have hl : lv_has ls 3 [(0, .ref (α 0)), (1, .int (nI i)), (2, .int (nI 2))] := hl
  refine lv_aload_n hx hb dX10_product_0 rfl (lv_at hl 0 rfl) ?_
  refine lv_iload_n hx hb dX10_product_1 rfl (lv_at hl 1 rfl) ?_
  refine x_callVVr (q := 0) (C := RX10) (As := [.int (nI i)]) (rest := []) ⟨hx, hb, hml, hown, hts⟩ (ct_X10_requireProduct l D cA α n _ hn S Pn hP9 hP2 i hi) (cwV 1 hts gX10_product_X10_requireProduct rfl rfl rfl (by decide +kernel) ⟨Nat.le_of_ble_eq_true rfl, Nat.le_of_ble_eq_true rfl⟩) hK hw hAw (ws_recv hK hw (q := 0) (Nat.lt_of_lt_of_le (Nat.le_of_ble_eq_true rfl : 0 < 191) hn) (mk_0 cA α) rfl) rfl hl.1 rfl (Nat.le_of_ble_eq_true rfl) dX10_product_2 ⟨Nat.zero_le _, Nat.zero_le _⟩ (fun H locs hw => ?_)
  refine lv_iload_n hx hb dX10_product_5 rfl (lv_at hl 2 rfl) ?_
  refine lv_tableIn (tgt := 62) (off := 56) hx hb dX10_product_6 (by decide) (by decide) (by decide) (by decide) ?_
  refine lv_aload_n hx hb dX10_product_62 rfl (lv_at hl 0 rfl) ?_
  refine x_get (v := .ref (α 3)) (C := RX10) (T := TX10) (N := 7) hx hb hts (fun _ h => List.mem_cons_of_mem _ (List.mem_append_left _ (List.mem_append_left _ (List.mem_append_left _ (List.mem_append_left _ (List.mem_append_right _ h)))))) hown hK hw 0 (Nat.lt_of_lt_of_le (Nat.le_of_ble_eq_true rfl : 0 < 191) hn) (mk_0 cA α) rfl 1 (by decide) (hts _ (List.mem_of_getElem? (i := 3) rfl)) (fun _ h9 => h9) rfl dX10_product_63 ?_
  refine x_get (v := .ref (α 23)) (C := RX0) (T := TX0) (N := 3) hx hb hts (fun _ h => List.mem_cons_of_mem _ (List.mem_append_left _ (List.mem_append_left _ (List.mem_append_left _ (List.mem_append_right _ h))))) hown hK hw 3 (Nat.lt_of_lt_of_le (Nat.le_of_ble_eq_true rfl : 3 < 191) hn) (mk_3 cA α) rfl 0 (by decide) (hts _ (List.mem_of_getElem? (i := 4) rfl)) (fun _ h9 => h9) rfl dX10_product_66 ?_
  refine x_get (v := .ref (α 28)) (C := RX2) (T := TX2) (N := 12) hx hb hts (fun _ h => List.mem_cons_of_mem _ (List.mem_append_left _ (List.mem_append_left _ (List.mem_append_right _ h)))) hown hK hw 23 (Nat.lt_of_lt_of_le (Nat.le_of_ble_eq_true rfl : 23 < 191) hn) (mk_23 cA α) rfl 10 (by decide) (hts _ (List.mem_of_getElem? (i := 7) rfl)) (fun _ h9 => h9) rfl dX10_product_69 ?_
  refine lv_iload_n hx hb dX10_product_72 rfl (lv_at hl 1 rfl) ?_
  refine x_iald hx hb hK hw 28 6 (Nat.lt_of_lt_of_le (Nat.le_of_ble_eq_true rfl : 28 < 191) hn) (mk_28 cA α) i rfl (by omega) (by decide) dX10_product_73 ?_
  exact ret_i hx hb hr hlocks hK hw dX10_product_74 rfl rfl

set_option maxRecDepth 100000 in
set_option maxHeartbeats 1000000 in
theorem ct_X10_product3 (l : Launch) (D : va_G) (cA : Nat → ClassId) (α : Nat → Nat) (n sz : Nat) (hn : 191 ≤ n) (S : Mem) (Pn : Nat) (hP9 : S.1 23 2 = nI Pn) (hP2 : Pn ≤ 6) (i : Nat) (hi : i < Pn) : CtI l yX10_product wsX10_product ({ frames := 7, cells := 0, slots := 0, locals := 121 }) D cA α n sz [.ref (α 0), .int (nI i), .int (nI 3)] S (S.1 29 i) S := by
  refine ct_enter cX10_product 3 (some .int) (by decide) rfl (Nat.le_of_ble_eq_true rfl) ?_
  intro p e s m below meth c hx hb hr hml hlocks hown hts hK hsz hw ls hl
  have hown : s.vm.findClass RX10 = some m.cls := hown
  have hAw : ∀ z, Aw α n s.heap.size z → Aw α n sz z := by rw [hsz]; exact fun _ h => h
  have hl : lv_has ls 3 [(0, .ref (α 0)), (1, .int (nI i)), (2, .int (nI 3))] := hl
  refine lv_aload_n hx hb dX10_product_0 rfl (lv_at hl 0 rfl) ?_
  refine lv_iload_n hx hb dX10_product_1 rfl (lv_at hl 1 rfl) ?_
  refine x_callVVr (q := 0) (C := RX10) (As := [.int (nI i)]) (rest := []) ⟨hx, hb, hml, hown, hts⟩ (ct_X10_requireProduct l D cA α n _ hn S Pn hP9 hP2 i hi) (cwV 1 hts gX10_product_X10_requireProduct rfl rfl rfl (by decide +kernel) ⟨Nat.le_of_ble_eq_true rfl, Nat.le_of_ble_eq_true rfl⟩) hK hw hAw (ws_recv hK hw (q := 0) (Nat.lt_of_lt_of_le (Nat.le_of_ble_eq_true rfl : 0 < 191) hn) (mk_0 cA α) rfl) rfl hl.1 rfl (Nat.le_of_ble_eq_true rfl) dX10_product_2 ⟨Nat.zero_le _, Nat.zero_le _⟩ (fun H locs hw => ?_)
  refine lv_iload_n hx hb dX10_product_5 rfl (lv_at hl 2 rfl) ?_
  refine lv_tableIn (tgt := 75) (off := 69) hx hb dX10_product_6 (by decide) (by decide) (by decide) (by decide) ?_
  refine lv_aload_n hx hb dX10_product_75 rfl (lv_at hl 0 rfl) ?_
  refine x_get (v := .ref (α 3)) (C := RX10) (T := TX10) (N := 7) hx hb hts (fun _ h => List.mem_cons_of_mem _ (List.mem_append_left _ (List.mem_append_left _ (List.mem_append_left _ (List.mem_append_left _ (List.mem_append_right _ h)))))) hown hK hw 0 (Nat.lt_of_lt_of_le (Nat.le_of_ble_eq_true rfl : 0 < 191) hn) (mk_0 cA α) rfl 1 (by decide) (hts _ (List.mem_of_getElem? (i := 3) rfl)) (fun _ h9 => h9) rfl dX10_product_76 ?_
  refine x_get (v := .ref (α 23)) (C := RX0) (T := TX0) (N := 3) hx hb hts (fun _ h => List.mem_cons_of_mem _ (List.mem_append_left _ (List.mem_append_left _ (List.mem_append_left _ (List.mem_append_right _ h))))) hown hK hw 3 (Nat.lt_of_lt_of_le (Nat.le_of_ble_eq_true rfl : 3 < 191) hn) (mk_3 cA α) rfl 0 (by decide) (hts _ (List.mem_of_getElem? (i := 4) rfl)) (fun _ h9 => h9) rfl dX10_product_79 ?_
  refine x_get (v := .ref (α 29)) (C := RX2) (T := TX2) (N := 12) hx hb hts (fun _ h => List.mem_cons_of_mem _ (List.mem_append_left _ (List.mem_append_left _ (List.mem_append_right _ h)))) hown hK hw 23 (Nat.lt_of_lt_of_le (Nat.le_of_ble_eq_true rfl : 23 < 191) hn) (mk_23 cA α) rfl 11 (by decide) (hts _ (List.mem_of_getElem? (i := 8) rfl)) (fun _ h9 => h9) rfl dX10_product_82 ?_
  refine lv_iload_n hx hb dX10_product_85 rfl (lv_at hl 1 rfl) ?_
  refine x_iald hx hb hK hw 29 6 (Nat.lt_of_lt_of_le (Nat.le_of_ble_eq_true rfl : 29 < 191) hn) (mk_29 cA α) i rfl (by omega) (by decide) dX10_product_86 ?_
  exact ret_i hx hb hr hlocks hK hw dX10_product_87 rfl rfl

set_option maxRecDepth 100000 in
set_option maxHeartbeats 1000000 in
theorem ct_X10_productX (l : Launch) (hst : l.stackTraces = false) (sa : Nat → Nat) (D : va_G) (cA : Nat → ClassId) (α : Nat → Nat) (n sz : Nat) (hn : 191 ≤ n) (S : Mem) (Pn : Nat) (hP9 : S.1 23 2 = nI Pn) (hP2 : Pn ≤ 6) (x y : Int32) (hx9 : ¬ ∃ i, i < Pn ∧ x = nI i) : CtX sa l yX10_product wsX10_product ({ frames := 7, cells := 1, slots := 6, locals := 121 }) D cA α n sz [.ref (α 0), .int x, .int y] S eIO := by
  refine ctx_enter cX10_product 3 (some .int) (by decide) rfl (Nat.le_of_ble_eq_true rfl) ?_
  intro p e s m below meth c hx hb hr hml hlocks hown hts hK hsz hw hZ hSx hout ls hl
  have hown : s.vm.findClass RX10 = some m.cls := hown
  have hAw : ∀ z, Aw α n s.heap.size z → Aw α n sz z := by rw [hsz]; exact fun _ h => h
  have hl : lv_has ls 3 [(0, .ref (α 0)), (1, .int x), (2, .int y)] := hl
  refine lv_aload_n hx hb dX10_product_0 rfl (lv_at hl 0 rfl) ?_
  refine lv_iload_n hx hb dX10_product_1 rfl (lv_at hl 1 rfl) ?_
  exact x_callXV (q := 0) (C := RX10) (As := [.int x]) (rest := []) ⟨hx, hb, hml, hown, hts⟩ (ct_X10_requireProductX l hst sa D cA α n _ hn S Pn hP9 hP2 x hx9) (cwV 1 hts gX10_product_X10_requireProduct rfl rfl rfl (by decide +kernel) ⟨Nat.le_of_ble_eq_true rfl, Nat.le_of_ble_eq_true rfl⟩) hK hw hsz hZ hSx (ws_recv hK hw (q := 0) (Nat.lt_of_lt_of_le (Nat.le_of_ble_eq_true rfl : 0 < 191) hn) (mk_0 cA α) rfl) rfl hl.1 rfl (Nat.le_of_ble_eq_true rfl) dX10_product_2 ⟨Nat.le_of_ble_eq_true rfl, Nat.le_of_ble_eq_true rfl⟩ hout hlocks rfl

set_option maxRecDepth 100000 in
set_option maxHeartbeats 1000000 in
theorem ct_X10_productY (l : Launch) (hst : l.stackTraces = false) (sa : Nat → Nat) (D : va_G) (cA : Nat → ClassId) (α : Nat → Nat) (n sz : Nat) (hn : 191 ≤ n) (S : Mem) (Pn : Nat) (hP9 : S.1 23 2 = nI Pn) (hP2 : Pn ≤ 6) (i : Nat) (hi : i < Pn) (y : Int32) (hy9 : y.toInt < 0 ∨ 3 < y.toInt) : CtX sa l yX10_product wsX10_product ({ frames := 7, cells := 1, slots := 6, locals := 121 }) D cA α n sz [.ref (α 0), .int (nI i), .int y] S eIA := by
  refine ctx_enter cX10_product 3 (some .int) (by decide) rfl (Nat.le_of_ble_eq_true rfl) ?_
  intro p e s m below meth c hx hb hr hml hlocks hown hts hK hsz hw hZ hSx hout ls hl
  have hown : s.vm.findClass RX10 = some m.cls := hown
  have hAw : ∀ z, Aw α n s.heap.size z → Aw α n sz z := by rw [hsz]; exact fun _ h => h
  have hl : lv_has ls 3 [(0, .ref (α 0)), (1, .int (nI i)), (2, .int y)] := hl
  refine lv_aload_n hx hb dX10_product_0 rfl (lv_at hl 0 rfl) ?_
  refine lv_iload_n hx hb dX10_product_1 rfl (lv_at hl 1 rfl) ?_
  refine x_callVVr (q := 0) (C := RX10) (As := [.int (nI i)]) (rest := []) ⟨hx, hb, hml, hown, hts⟩ (ct_X10_requireProduct l D cA α n _ hn S Pn hP9 hP2 i hi) (cwV 1 hts gX10_product_X10_requireProduct rfl rfl rfl (by decide +kernel) ⟨Nat.le_of_ble_eq_true rfl, Nat.le_of_ble_eq_true rfl⟩) hK hw hAw (ws_recv hK hw (q := 0) (Nat.lt_of_lt_of_le (Nat.le_of_ble_eq_true rfl : 0 < 191) hn) (mk_0 cA α) rfl) rfl hl.1 rfl (Nat.le_of_ble_eq_true rfl) dX10_product_2 ⟨Nat.zero_le _, Nat.zero_le _⟩ (fun H locs hw => ?_)
  refine lv_iload_n hx hb dX10_product_5 rfl (lv_at hl 2 rfl) ?_
  refine lv_tableOut (tgt := 88) hx hb dX10_product_6 hy9 (by decide) ?_
  exact x_throwS (names := eUp) (rest := []) hx hb hst hown fit_IA fit_Up (hts _ (List.mem_of_getElem? (i := 1) rfl)) (hts _ (List.mem_of_getElem? (i := 2) rfl)) (hSx.1 _ (List.mem_of_getElem? (i := 1) rfl)) (at_IA hSx (fun w h => hts w ((fun _ h => List.mem_cons_of_mem _ (List.mem_append_left _ (List.mem_append_right _ h))) w h))) ga_IA hZ hK hw (hl.1.trans hml.symm) dX10_product_88 dX10_product_91 dX10_product_92 dX10_product_94 dX10_product_97 hout (Nat.le_of_ble_eq_true rfl) (Nat.le_of_ble_eq_true rfl) (Nat.le_of_ble_eq_true rfl) (Nat.le_of_ble_eq_true rfl) hlocks rfl

set_option maxRecDepth 100000 in
set_option maxHeartbeats 1000000 in
theorem ct_X10_item0 (l : Launch) (D : va_G) (cA : Nat → ClassId) (α : Nat → Nat) (n sz : Nat) (hn : 191 ≤ n) (S : Mem) (N : Nat) (hN : S.1 74 0 = nI N) (hN2 : N ≤ 100) (i : Nat) (hi : i < N) : CtI l yX10_item wsX10_item ({ frames := 7, cells := 0, slots := 0, locals := 121 }) D cA α n sz [.ref (α 0), .int (nI i), .int (nI 0)] S (S.1 45 i) S := by
  refine ct_enter cX10_item 3 (some .int) (by decide) rfl (Nat.le_of_ble_eq_true rfl) ?_
  intro p e s m below meth c hx hb hr hml hlocks hown hts hK hsz hw ls hl
  have hown : s.vm.findClass RX10 = some m.cls := hown
  have hAw : ∀ z, Aw α n s.heap.size z → Aw α n sz z := by rw [hsz]; exact fun _ h => h
  have hl : lv_has ls 3 [(0, .ref (α 0)), (1, .int (nI i)), (2, .int (nI 0))] := hl
  refine lv_aload_n hx hb dX10_item_0 rfl (lv_at hl 0 rfl) ?_
  refine lv_iload_n hx hb dX10_item_1 rfl (lv_at hl 1 rfl) ?_
  refine x_callVVr (q := 0) (C := RX10) (As := [.int (nI i)]) (rest := []) ⟨hx, hb, hml, hown, hts⟩ (ct_X10_requireItem l D cA α n _ hn S N hN hN2 i hi) (cwV 1 hts gX10_item_X10_requireItem rfl rfl rfl (by decide +kernel) ⟨Nat.le_of_ble_eq_true rfl, Nat.le_of_ble_eq_true rfl⟩) hK hw hAw (ws_recv hK hw (q := 0) (Nat.lt_of_lt_of_le (Nat.le_of_ble_eq_true rfl : 0 < 191) hn) (mk_0 cA α) rfl) rfl hl.1 rfl (Nat.le_of_ble_eq_true rfl) dX10_item_2 ⟨Nat.zero_le _, Nat.zero_le _⟩ (fun H locs hw => ?_)
  refine lv_iload_n hx hb dX10_item_5 rfl (lv_at hl 2 rfl) ?_
  refine lv_tableIn (tgt := 44) (off := 38) hx hb dX10_item_6 (by decide) (by decide) (by decide) (by decide) ?_
  refine lv_aload_n hx hb dX10_item_44 rfl (lv_at hl 0 rfl) ?_
  refine x_get (v := .ref (α 3)) (C := RX10) (T := TX10) (N := 7) hx hb hts (fun _ h => List.mem_cons_of_mem _ (List.mem_append_left _ (List.mem_append_left _ (List.mem_append_left _ (List.mem_append_left _ (List.mem_append_left _ (List.mem_append_right _ h))))))) hown hK hw 0 (Nat.lt_of_lt_of_le (Nat.le_of_ble_eq_true rfl : 0 < 191) hn) (mk_0 cA α) rfl 1 (by decide) (hts _ (List.mem_of_getElem? (i := 3) rfl)) (fun _ h9 => h9) rfl dX10_item_45 ?_
  refine x_get (v := .ref (α 44)) (C := RX0) (T := TX0) (N := 3) hx hb hts (fun _ h => List.mem_cons_of_mem _ (List.mem_append_left _ (List.mem_append_left _ (List.mem_append_left _ (List.mem_append_left _ (List.mem_append_right _ h)))))) hown hK hw 3 (Nat.lt_of_lt_of_le (Nat.le_of_ble_eq_true rfl : 3 < 191) hn) (mk_3 cA α) rfl 1 (by decide) (hts _ (List.mem_of_getElem? (i := 4) rfl)) (fun _ h9 => h9) rfl dX10_item_48 ?_
  refine x_get (v := .ref (α 45)) (C := RX7) (T := TX7) (N := 9) hx hb hts (fun _ h => List.mem_cons_of_mem _ (List.mem_append_left _ (List.mem_append_left _ (List.mem_append_left _ (List.mem_append_right _ h))))) hown hK hw 44 (Nat.lt_of_lt_of_le (Nat.le_of_ble_eq_true rfl : 44 < 191) hn) (mk_44 cA α) rfl 0 (by decide) (hts _ (List.mem_of_getElem? (i := 5) rfl)) (fun _ h9 => h9) rfl dX10_item_51 ?_
  refine lv_iload_n hx hb dX10_item_54 rfl (lv_at hl 1 rfl) ?_
  refine x_iald hx hb hK hw 45 100 (Nat.lt_of_lt_of_le (Nat.le_of_ble_eq_true rfl : 45 < 191) hn) (mk_45 cA α) i rfl (by omega) (by decide) dX10_item_55 ?_
  exact ret_i hx hb hr hlocks hK hw dX10_item_56 rfl rfl

set_option maxRecDepth 100000 in
set_option maxHeartbeats 1000000 in
theorem ct_X10_item1 (l : Launch) (D : va_G) (cA : Nat → ClassId) (α : Nat → Nat) (n sz : Nat) (hn : 191 ≤ n) (S : Mem) (N : Nat) (hN : S.1 74 0 = nI N) (hN2 : N ≤ 100) (i : Nat) (hi : i < N) : CtI l yX10_item wsX10_item ({ frames := 7, cells := 0, slots := 0, locals := 121 }) D cA α n sz [.ref (α 0), .int (nI i), .int (nI 1)] S (S.1 46 i) S := by
  refine ct_enter cX10_item 3 (some .int) (by decide) rfl (Nat.le_of_ble_eq_true rfl) ?_
  intro p e s m below meth c hx hb hr hml hlocks hown hts hK hsz hw ls hl
  have hown : s.vm.findClass RX10 = some m.cls := hown
  have hAw : ∀ z, Aw α n s.heap.size z → Aw α n sz z := by rw [hsz]; exact fun _ h => h
  have hl : lv_has ls 3 [(0, .ref (α 0)), (1, .int (nI i)), (2, .int (nI 1))] := hl
  refine lv_aload_n hx hb dX10_item_0 rfl (lv_at hl 0 rfl) ?_
  refine lv_iload_n hx hb dX10_item_1 rfl (lv_at hl 1 rfl) ?_
  refine x_callVVr (q := 0) (C := RX10) (As := [.int (nI i)]) (rest := []) ⟨hx, hb, hml, hown, hts⟩ (ct_X10_requireItem l D cA α n _ hn S N hN hN2 i hi) (cwV 1 hts gX10_item_X10_requireItem rfl rfl rfl (by decide +kernel) ⟨Nat.le_of_ble_eq_true rfl, Nat.le_of_ble_eq_true rfl⟩) hK hw hAw (ws_recv hK hw (q := 0) (Nat.lt_of_lt_of_le (Nat.le_of_ble_eq_true rfl : 0 < 191) hn) (mk_0 cA α) rfl) rfl hl.1 rfl (Nat.le_of_ble_eq_true rfl) dX10_item_2 ⟨Nat.zero_le _, Nat.zero_le _⟩ (fun H locs hw => ?_)
  refine lv_iload_n hx hb dX10_item_5 rfl (lv_at hl 2 rfl) ?_
  refine lv_tableIn (tgt := 57) (off := 51) hx hb dX10_item_6 (by decide) (by decide) (by decide) (by decide) ?_
  refine lv_aload_n hx hb dX10_item_57 rfl (lv_at hl 0 rfl) ?_
  refine x_get (v := .ref (α 3)) (C := RX10) (T := TX10) (N := 7) hx hb hts (fun _ h => List.mem_cons_of_mem _ (List.mem_append_left _ (List.mem_append_left _ (List.mem_append_left _ (List.mem_append_left _ (List.mem_append_left _ (List.mem_append_right _ h))))))) hown hK hw 0 (Nat.lt_of_lt_of_le (Nat.le_of_ble_eq_true rfl : 0 < 191) hn) (mk_0 cA α) rfl 1 (by decide) (hts _ (List.mem_of_getElem? (i := 3) rfl)) (fun _ h9 => h9) rfl dX10_item_58 ?_
  refine x_get (v := .ref (α 44)) (C := RX0) (T := TX0) (N := 3) hx hb hts (fun _ h => List.mem_cons_of_mem _ (List.mem_append_left _ (List.mem_append_left _ (List.mem_append_left _ (List.mem_append_left _ (List.mem_append_right _ h)))))) hown hK hw 3 (Nat.lt_of_lt_of_le (Nat.le_of_ble_eq_true rfl : 3 < 191) hn) (mk_3 cA α) rfl 1 (by decide) (hts _ (List.mem_of_getElem? (i := 4) rfl)) (fun _ h9 => h9) rfl dX10_item_61 ?_
  refine x_get (v := .ref (α 46)) (C := RX7) (T := TX7) (N := 9) hx hb hts (fun _ h => List.mem_cons_of_mem _ (List.mem_append_left _ (List.mem_append_left _ (List.mem_append_left _ (List.mem_append_right _ h))))) hown hK hw 44 (Nat.lt_of_lt_of_le (Nat.le_of_ble_eq_true rfl : 44 < 191) hn) (mk_44 cA α) rfl 1 (by decide) (hts _ (List.mem_of_getElem? (i := 6) rfl)) (fun _ h9 => h9) rfl dX10_item_64 ?_
  refine lv_iload_n hx hb dX10_item_67 rfl (lv_at hl 1 rfl) ?_
  refine x_iald hx hb hK hw 46 100 (Nat.lt_of_lt_of_le (Nat.le_of_ble_eq_true rfl : 46 < 191) hn) (mk_46 cA α) i rfl (by omega) (by decide) dX10_item_68 ?_
  exact ret_i hx hb hr hlocks hK hw dX10_item_69 rfl rfl

set_option maxRecDepth 100000 in
set_option maxHeartbeats 1000000 in
theorem ct_X10_item2 (l : Launch) (D : va_G) (cA : Nat → ClassId) (α : Nat → Nat) (n sz : Nat) (hn : 191 ≤ n) (S : Mem) (N : Nat) (hN : S.1 74 0 = nI N) (hN2 : N ≤ 100) (i : Nat) (hi : i < N) : CtI l yX10_item wsX10_item ({ frames := 7, cells := 0, slots := 0, locals := 121 }) D cA α n sz [.ref (α 0), .int (nI i), .int (nI 2)] S (S.1 47 i) S := by
  refine ct_enter cX10_item 3 (some .int) (by decide) rfl (Nat.le_of_ble_eq_true rfl) ?_
  intro p e s m below meth c hx hb hr hml hlocks hown hts hK hsz hw ls hl
  have hown : s.vm.findClass RX10 = some m.cls := hown
  have hAw : ∀ z, Aw α n s.heap.size z → Aw α n sz z := by rw [hsz]; exact fun _ h => h
  have hl : lv_has ls 3 [(0, .ref (α 0)), (1, .int (nI i)), (2, .int (nI 2))] := hl
  refine lv_aload_n hx hb dX10_item_0 rfl (lv_at hl 0 rfl) ?_
  refine lv_iload_n hx hb dX10_item_1 rfl (lv_at hl 1 rfl) ?_
  refine x_callVVr (q := 0) (C := RX10) (As := [.int (nI i)]) (rest := []) ⟨hx, hb, hml, hown, hts⟩ (ct_X10_requireItem l D cA α n _ hn S N hN hN2 i hi) (cwV 1 hts gX10_item_X10_requireItem rfl rfl rfl (by decide +kernel) ⟨Nat.le_of_ble_eq_true rfl, Nat.le_of_ble_eq_true rfl⟩) hK hw hAw (ws_recv hK hw (q := 0) (Nat.lt_of_lt_of_le (Nat.le_of_ble_eq_true rfl : 0 < 191) hn) (mk_0 cA α) rfl) rfl hl.1 rfl (Nat.le_of_ble_eq_true rfl) dX10_item_2 ⟨Nat.zero_le _, Nat.zero_le _⟩ (fun H locs hw => ?_)
  refine lv_iload_n hx hb dX10_item_5 rfl (lv_at hl 2 rfl) ?_
  refine lv_tableIn (tgt := 70) (off := 64) hx hb dX10_item_6 (by decide) (by decide) (by decide) (by decide) ?_
  refine lv_aload_n hx hb dX10_item_70 rfl (lv_at hl 0 rfl) ?_
  refine x_get (v := .ref (α 3)) (C := RX10) (T := TX10) (N := 7) hx hb hts (fun _ h => List.mem_cons_of_mem _ (List.mem_append_left _ (List.mem_append_left _ (List.mem_append_left _ (List.mem_append_left _ (List.mem_append_left _ (List.mem_append_right _ h))))))) hown hK hw 0 (Nat.lt_of_lt_of_le (Nat.le_of_ble_eq_true rfl : 0 < 191) hn) (mk_0 cA α) rfl 1 (by decide) (hts _ (List.mem_of_getElem? (i := 3) rfl)) (fun _ h9 => h9) rfl dX10_item_71 ?_
  refine x_get (v := .ref (α 44)) (C := RX0) (T := TX0) (N := 3) hx hb hts (fun _ h => List.mem_cons_of_mem _ (List.mem_append_left _ (List.mem_append_left _ (List.mem_append_left _ (List.mem_append_left _ (List.mem_append_right _ h)))))) hown hK hw 3 (Nat.lt_of_lt_of_le (Nat.le_of_ble_eq_true rfl : 3 < 191) hn) (mk_3 cA α) rfl 1 (by decide) (hts _ (List.mem_of_getElem? (i := 4) rfl)) (fun _ h9 => h9) rfl dX10_item_74 ?_
  refine x_get (v := .ref (α 47)) (C := RX7) (T := TX7) (N := 9) hx hb hts (fun _ h => List.mem_cons_of_mem _ (List.mem_append_left _ (List.mem_append_left _ (List.mem_append_left _ (List.mem_append_right _ h))))) hown hK hw 44 (Nat.lt_of_lt_of_le (Nat.le_of_ble_eq_true rfl : 44 < 191) hn) (mk_44 cA α) rfl 2 (by decide) (hts _ (List.mem_of_getElem? (i := 7) rfl)) (fun _ h9 => h9) rfl dX10_item_77 ?_
  refine lv_iload_n hx hb dX10_item_80 rfl (lv_at hl 1 rfl) ?_
  refine x_iald hx hb hK hw 47 100 (Nat.lt_of_lt_of_le (Nat.le_of_ble_eq_true rfl : 47 < 191) hn) (mk_47 cA α) i rfl (by omega) (by decide) dX10_item_81 ?_
  exact ret_i hx hb hr hlocks hK hw dX10_item_82 rfl rfl

set_option maxRecDepth 100000 in
set_option maxHeartbeats 1000000 in
theorem ct_X10_item3 (l : Launch) (D : va_G) (cA : Nat → ClassId) (α : Nat → Nat) (n sz : Nat) (hn : 191 ≤ n) (S : Mem) (N : Nat) (hN : S.1 74 0 = nI N) (hN2 : N ≤ 100) (i : Nat) (hi : i < N) : CtI l yX10_item wsX10_item ({ frames := 7, cells := 0, slots := 0, locals := 121 }) D cA α n sz [.ref (α 0), .int (nI i), .int (nI 3)] S (S.1 48 i) S := by
  refine ct_enter cX10_item 3 (some .int) (by decide) rfl (Nat.le_of_ble_eq_true rfl) ?_
  intro p e s m below meth c hx hb hr hml hlocks hown hts hK hsz hw ls hl
  have hown : s.vm.findClass RX10 = some m.cls := hown
  have hAw : ∀ z, Aw α n s.heap.size z → Aw α n sz z := by rw [hsz]; exact fun _ h => h
  have hl : lv_has ls 3 [(0, .ref (α 0)), (1, .int (nI i)), (2, .int (nI 3))] := hl
  refine lv_aload_n hx hb dX10_item_0 rfl (lv_at hl 0 rfl) ?_
  refine lv_iload_n hx hb dX10_item_1 rfl (lv_at hl 1 rfl) ?_
  refine x_callVVr (q := 0) (C := RX10) (As := [.int (nI i)]) (rest := []) ⟨hx, hb, hml, hown, hts⟩ (ct_X10_requireItem l D cA α n _ hn S N hN hN2 i hi) (cwV 1 hts gX10_item_X10_requireItem rfl rfl rfl (by decide +kernel) ⟨Nat.le_of_ble_eq_true rfl, Nat.le_of_ble_eq_true rfl⟩) hK hw hAw (ws_recv hK hw (q := 0) (Nat.lt_of_lt_of_le (Nat.le_of_ble_eq_true rfl : 0 < 191) hn) (mk_0 cA α) rfl) rfl hl.1 rfl (Nat.le_of_ble_eq_true rfl) dX10_item_2 ⟨Nat.zero_le _, Nat.zero_le _⟩ (fun H locs hw => ?_)
  refine lv_iload_n hx hb dX10_item_5 rfl (lv_at hl 2 rfl) ?_
  refine lv_tableIn (tgt := 83) (off := 77) hx hb dX10_item_6 (by decide) (by decide) (by decide) (by decide) ?_
  refine lv_aload_n hx hb dX10_item_83 rfl (lv_at hl 0 rfl) ?_
  refine x_get (v := .ref (α 3)) (C := RX10) (T := TX10) (N := 7) hx hb hts (fun _ h => List.mem_cons_of_mem _ (List.mem_append_left _ (List.mem_append_left _ (List.mem_append_left _ (List.mem_append_left _ (List.mem_append_left _ (List.mem_append_right _ h))))))) hown hK hw 0 (Nat.lt_of_lt_of_le (Nat.le_of_ble_eq_true rfl : 0 < 191) hn) (mk_0 cA α) rfl 1 (by decide) (hts _ (List.mem_of_getElem? (i := 3) rfl)) (fun _ h9 => h9) rfl dX10_item_84 ?_
  refine x_get (v := .ref (α 44)) (C := RX0) (T := TX0) (N := 3) hx hb hts (fun _ h => List.mem_cons_of_mem _ (List.mem_append_left _ (List.mem_append_left _ (List.mem_append_left _ (List.mem_append_left _ (List.mem_append_right _ h)))))) hown hK hw 3 (Nat.lt_of_lt_of_le (Nat.le_of_ble_eq_true rfl : 3 < 191) hn) (mk_3 cA α) rfl 1 (by decide) (hts _ (List.mem_of_getElem? (i := 4) rfl)) (fun _ h9 => h9) rfl dX10_item_87 ?_
  refine x_get (v := .ref (α 48)) (C := RX7) (T := TX7) (N := 9) hx hb hts (fun _ h => List.mem_cons_of_mem _ (List.mem_append_left _ (List.mem_append_left _ (List.mem_append_left _ (List.mem_append_right _ h))))) hown hK hw 44 (Nat.lt_of_lt_of_le (Nat.le_of_ble_eq_true rfl : 44 < 191) hn) (mk_44 cA α) rfl 3 (by decide) (hts _ (List.mem_of_getElem? (i := 8) rfl)) (fun _ h9 => h9) rfl dX10_item_90 ?_
  refine lv_iload_n hx hb dX10_item_93 rfl (lv_at hl 1 rfl) ?_
  refine x_iald hx hb hK hw 48 100 (Nat.lt_of_lt_of_le (Nat.le_of_ble_eq_true rfl : 48 < 191) hn) (mk_48 cA α) i rfl (by omega) (by decide) dX10_item_94 ?_
  exact ret_i hx hb hr hlocks hK hw dX10_item_95 rfl rfl

set_option maxRecDepth 100000 in
set_option maxHeartbeats 1000000 in
theorem ct_X10_item4 (l : Launch) (D : va_G) (cA : Nat → ClassId) (α : Nat → Nat) (n sz : Nat) (hn : 191 ≤ n) (S : Mem) (N : Nat) (hN : S.1 74 0 = nI N) (hN2 : N ≤ 100) (i : Nat) (hi : i < N) : CtI l yX10_item wsX10_item ({ frames := 7, cells := 0, slots := 0, locals := 121 }) D cA α n sz [.ref (α 0), .int (nI i), .int (nI 4)] S (S.1 76 i) S := by
  refine ct_enter cX10_item 3 (some .int) (by decide) rfl (Nat.le_of_ble_eq_true rfl) ?_
  intro p e s m below meth c hx hb hr hml hlocks hown hts hK hsz hw ls hl
  have hown : s.vm.findClass RX10 = some m.cls := hown
  have hAw : ∀ z, Aw α n s.heap.size z → Aw α n sz z := by rw [hsz]; exact fun _ h => h
  have hl : lv_has ls 3 [(0, .ref (α 0)), (1, .int (nI i)), (2, .int (nI 4))] := hl
  refine lv_aload_n hx hb dX10_item_0 rfl (lv_at hl 0 rfl) ?_
  refine lv_iload_n hx hb dX10_item_1 rfl (lv_at hl 1 rfl) ?_
  refine x_callVVr (q := 0) (C := RX10) (As := [.int (nI i)]) (rest := []) ⟨hx, hb, hml, hown, hts⟩ (ct_X10_requireItem l D cA α n _ hn S N hN hN2 i hi) (cwV 1 hts gX10_item_X10_requireItem rfl rfl rfl (by decide +kernel) ⟨Nat.le_of_ble_eq_true rfl, Nat.le_of_ble_eq_true rfl⟩) hK hw hAw (ws_recv hK hw (q := 0) (Nat.lt_of_lt_of_le (Nat.le_of_ble_eq_true rfl : 0 < 191) hn) (mk_0 cA α) rfl) rfl hl.1 rfl (Nat.le_of_ble_eq_true rfl) dX10_item_2 ⟨Nat.zero_le _, Nat.zero_le _⟩ (fun H locs hw => ?_)
  refine lv_iload_n hx hb dX10_item_5 rfl (lv_at hl 2 rfl) ?_
  refine lv_tableIn (tgt := 96) (off := 90) hx hb dX10_item_6 (by decide) (by decide) (by decide) (by decide) ?_
  refine lv_aload_n hx hb dX10_item_96 rfl (lv_at hl 0 rfl) ?_
  refine x_get (v := .ref (α 3)) (C := RX10) (T := TX10) (N := 7) hx hb hts (fun _ h => List.mem_cons_of_mem _ (List.mem_append_left _ (List.mem_append_left _ (List.mem_append_left _ (List.mem_append_left _ (List.mem_append_left _ (List.mem_append_right _ h))))))) hown hK hw 0 (Nat.lt_of_lt_of_le (Nat.le_of_ble_eq_true rfl : 0 < 191) hn) (mk_0 cA α) rfl 1 (by decide) (hts _ (List.mem_of_getElem? (i := 3) rfl)) (fun _ h9 => h9) rfl dX10_item_97 ?_
  refine x_get (v := .ref (α 74)) (C := RX0) (T := TX0) (N := 3) hx hb hts (fun _ h => List.mem_cons_of_mem _ (List.mem_append_left _ (List.mem_append_left _ (List.mem_append_left _ (List.mem_append_left _ (List.mem_append_right _ h)))))) hown hK hw 3 (Nat.lt_of_lt_of_le (Nat.le_of_ble_eq_true rfl : 3 < 191) hn) (mk_3 cA α) rfl 2 (by decide) (hts _ (List.mem_of_getElem? (i := 9) rfl)) (fun _ h9 => h9) rfl dX10_item_100 ?_
  refine x_get (v := .ref (α 76)) (C := RX9) (T := TX9) (N := 14) hx hb hts (fun _ h => List.mem_cons_of_mem _ (List.mem_append_left _ (List.mem_append_left _ (List.mem_append_right _ h)))) hown hK hw 74 (Nat.lt_of_lt_of_le (Nat.le_of_ble_eq_true rfl : 74 < 191) hn) (mk_74 cA α) rfl 7 (by decide) (hts _ (List.mem_of_getElem? (i := 10) rfl)) (fun _ h9 => h9) rfl dX10_item_103 ?_
  refine lv_iload_n hx hb dX10_item_106 rfl (lv_at hl 1 rfl) ?_
  refine x_iald hx hb hK hw 76 100 (Nat.lt_of_lt_of_le (Nat.le_of_ble_eq_true rfl : 76 < 191) hn) (mk_76 cA α) i rfl (by omega) (by decide) dX10_item_107 ?_
  exact ret_i hx hb hr hlocks hK hw dX10_item_108 rfl rfl

set_option maxRecDepth 100000 in
set_option maxHeartbeats 1000000 in
theorem ct_X10_item5 (l : Launch) (D : va_G) (cA : Nat → ClassId) (α : Nat → Nat) (n sz : Nat) (hn : 191 ≤ n) (S : Mem) (N : Nat) (hN : S.1 74 0 = nI N) (hN2 : N ≤ 100) (i : Nat) (hi : i < N) : CtI l yX10_item wsX10_item ({ frames := 7, cells := 0, slots := 0, locals := 121 }) D cA α n sz [.ref (α 0), .int (nI i), .int (nI 5)] S (S.1 77 i) S := by
  refine ct_enter cX10_item 3 (some .int) (by decide) rfl (Nat.le_of_ble_eq_true rfl) ?_
  intro p e s m below meth c hx hb hr hml hlocks hown hts hK hsz hw ls hl
  have hown : s.vm.findClass RX10 = some m.cls := hown
  have hAw : ∀ z, Aw α n s.heap.size z → Aw α n sz z := by rw [hsz]; exact fun _ h => h
  have hl : lv_has ls 3 [(0, .ref (α 0)), (1, .int (nI i)), (2, .int (nI 5))] := hl
  refine lv_aload_n hx hb dX10_item_0 rfl (lv_at hl 0 rfl) ?_
  refine lv_iload_n hx hb dX10_item_1 rfl (lv_at hl 1 rfl) ?_
  refine x_callVVr (q := 0) (C := RX10) (As := [.int (nI i)]) (rest := []) ⟨hx, hb, hml, hown, hts⟩ (ct_X10_requireItem l D cA α n _ hn S N hN hN2 i hi) (cwV 1 hts gX10_item_X10_requireItem rfl rfl rfl (by decide +kernel) ⟨Nat.le_of_ble_eq_true rfl, Nat.le_of_ble_eq_true rfl⟩) hK hw hAw (ws_recv hK hw (q := 0) (Nat.lt_of_lt_of_le (Nat.le_of_ble_eq_true rfl : 0 < 191) hn) (mk_0 cA α) rfl) rfl hl.1 rfl (Nat.le_of_ble_eq_true rfl) dX10_item_2 ⟨Nat.zero_le _, Nat.zero_le _⟩ (fun H locs hw => ?_)
  refine lv_iload_n hx hb dX10_item_5 rfl (lv_at hl 2 rfl) ?_
  refine lv_tableIn (tgt := 109) (off := 103) hx hb dX10_item_6 (by decide) (by decide) (by decide) (by decide) ?_
  refine lv_aload_n hx hb dX10_item_109 rfl (lv_at hl 0 rfl) ?_
  refine x_get (v := .ref (α 3)) (C := RX10) (T := TX10) (N := 7) hx hb hts (fun _ h => List.mem_cons_of_mem _ (List.mem_append_left _ (List.mem_append_left _ (List.mem_append_left _ (List.mem_append_left _ (List.mem_append_left _ (List.mem_append_right _ h))))))) hown hK hw 0 (Nat.lt_of_lt_of_le (Nat.le_of_ble_eq_true rfl : 0 < 191) hn) (mk_0 cA α) rfl 1 (by decide) (hts _ (List.mem_of_getElem? (i := 3) rfl)) (fun _ h9 => h9) rfl dX10_item_110 ?_
  refine x_get (v := .ref (α 74)) (C := RX0) (T := TX0) (N := 3) hx hb hts (fun _ h => List.mem_cons_of_mem _ (List.mem_append_left _ (List.mem_append_left _ (List.mem_append_left _ (List.mem_append_left _ (List.mem_append_right _ h)))))) hown hK hw 3 (Nat.lt_of_lt_of_le (Nat.le_of_ble_eq_true rfl : 3 < 191) hn) (mk_3 cA α) rfl 2 (by decide) (hts _ (List.mem_of_getElem? (i := 9) rfl)) (fun _ h9 => h9) rfl dX10_item_113 ?_
  refine x_get (v := .ref (α 77)) (C := RX9) (T := TX9) (N := 14) hx hb hts (fun _ h => List.mem_cons_of_mem _ (List.mem_append_left _ (List.mem_append_left _ (List.mem_append_right _ h)))) hown hK hw 74 (Nat.lt_of_lt_of_le (Nat.le_of_ble_eq_true rfl : 74 < 191) hn) (mk_74 cA α) rfl 8 (by decide) (hts _ (List.mem_of_getElem? (i := 11) rfl)) (fun _ h9 => h9) rfl dX10_item_116 ?_
  refine lv_iload_n hx hb dX10_item_119 rfl (lv_at hl 1 rfl) ?_
  refine x_iald hx hb hK hw 77 100 (Nat.lt_of_lt_of_le (Nat.le_of_ble_eq_true rfl : 77 < 191) hn) (mk_77 cA α) i rfl (by omega) (by decide) dX10_item_120 ?_
  exact ret_i hx hb hr hlocks hK hw dX10_item_121 rfl rfl

set_option maxRecDepth 100000 in
set_option maxHeartbeats 1000000 in
theorem ct_X10_itemX (l : Launch) (hst : l.stackTraces = false) (sa : Nat → Nat) (D : va_G) (cA : Nat → ClassId) (α : Nat → Nat) (n sz : Nat) (hn : 191 ≤ n) (S : Mem) (N : Nat) (hN : S.1 74 0 = nI N) (hN2 : N ≤ 100) (x y : Int32) (hx9 : ¬ ∃ i, i < N ∧ x = nI i) : CtX sa l yX10_item wsX10_item ({ frames := 7, cells := 1, slots := 6, locals := 121 }) D cA α n sz [.ref (α 0), .int x, .int y] S eIO := by
  refine ctx_enter cX10_item 3 (some .int) (by decide) rfl (Nat.le_of_ble_eq_true rfl) ?_
  intro p e s m below meth c hx hb hr hml hlocks hown hts hK hsz hw hZ hSx hout ls hl
  have hown : s.vm.findClass RX10 = some m.cls := hown
  have hAw : ∀ z, Aw α n s.heap.size z → Aw α n sz z := by rw [hsz]; exact fun _ h => h
  have hl : lv_has ls 3 [(0, .ref (α 0)), (1, .int x), (2, .int y)] := hl
  refine lv_aload_n hx hb dX10_item_0 rfl (lv_at hl 0 rfl) ?_
  refine lv_iload_n hx hb dX10_item_1 rfl (lv_at hl 1 rfl) ?_
  exact x_callXV (q := 0) (C := RX10) (As := [.int x]) (rest := []) ⟨hx, hb, hml, hown, hts⟩ (ct_X10_requireItemX l hst sa D cA α n _ hn S N hN hN2 x hx9) (cwV 1 hts gX10_item_X10_requireItem rfl rfl rfl (by decide +kernel) ⟨Nat.le_of_ble_eq_true rfl, Nat.le_of_ble_eq_true rfl⟩) hK hw hsz hZ hSx (ws_recv hK hw (q := 0) (Nat.lt_of_lt_of_le (Nat.le_of_ble_eq_true rfl : 0 < 191) hn) (mk_0 cA α) rfl) rfl hl.1 rfl (Nat.le_of_ble_eq_true rfl) dX10_item_2 ⟨Nat.le_of_ble_eq_true rfl, Nat.le_of_ble_eq_true rfl⟩ hout hlocks rfl

set_option maxRecDepth 100000 in
set_option maxHeartbeats 1000000 in
theorem ct_X10_itemY (l : Launch) (hst : l.stackTraces = false) (sa : Nat → Nat) (D : va_G) (cA : Nat → ClassId) (α : Nat → Nat) (n sz : Nat) (hn : 191 ≤ n) (S : Mem) (N : Nat) (hN : S.1 74 0 = nI N) (hN2 : N ≤ 100) (i : Nat) (hi : i < N) (y : Int32) (hy9 : y.toInt < 0 ∨ 5 < y.toInt) : CtX sa l yX10_item wsX10_item ({ frames := 7, cells := 1, slots := 6, locals := 121 }) D cA α n sz [.ref (α 0), .int (nI i), .int y] S eIA := by
  refine ctx_enter cX10_item 3 (some .int) (by decide) rfl (Nat.le_of_ble_eq_true rfl) ?_
  intro p e s m below meth c hx hb hr hml hlocks hown hts hK hsz hw hZ hSx hout ls hl
  have hown : s.vm.findClass RX10 = some m.cls := hown
  have hAw : ∀ z, Aw α n s.heap.size z → Aw α n sz z := by rw [hsz]; exact fun _ h => h
  have hl : lv_has ls 3 [(0, .ref (α 0)), (1, .int (nI i)), (2, .int y)] := hl
  refine lv_aload_n hx hb dX10_item_0 rfl (lv_at hl 0 rfl) ?_
  refine lv_iload_n hx hb dX10_item_1 rfl (lv_at hl 1 rfl) ?_
  refine x_callVVr (q := 0) (C := RX10) (As := [.int (nI i)]) (rest := []) ⟨hx, hb, hml, hown, hts⟩ (ct_X10_requireItem l D cA α n _ hn S N hN hN2 i hi) (cwV 1 hts gX10_item_X10_requireItem rfl rfl rfl (by decide +kernel) ⟨Nat.le_of_ble_eq_true rfl, Nat.le_of_ble_eq_true rfl⟩) hK hw hAw (ws_recv hK hw (q := 0) (Nat.lt_of_lt_of_le (Nat.le_of_ble_eq_true rfl : 0 < 191) hn) (mk_0 cA α) rfl) rfl hl.1 rfl (Nat.le_of_ble_eq_true rfl) dX10_item_2 ⟨Nat.zero_le _, Nat.zero_le _⟩ (fun H locs hw => ?_)
  refine lv_iload_n hx hb dX10_item_5 rfl (lv_at hl 2 rfl) ?_
  refine lv_tableOut (tgt := 122) hx hb dX10_item_6 hy9 (by decide) ?_
  exact x_throwS (names := eUp) (rest := []) hx hb hst hown fit_IA fit_Up (hts _ (List.mem_of_getElem? (i := 1) rfl)) (hts _ (List.mem_of_getElem? (i := 2) rfl)) (hSx.1 _ (List.mem_of_getElem? (i := 1) rfl)) (at_IA hSx (fun w h => hts w ((fun _ h => List.mem_cons_of_mem _ (List.mem_append_left _ (List.mem_append_right _ h))) w h))) ga_IA hZ hK hw (hl.1.trans hml.symm) dX10_item_122 dX10_item_125 dX10_item_126 dX10_item_128 dX10_item_131 hout (Nat.le_of_ble_eq_true rfl) (Nat.le_of_ble_eq_true rfl) (Nat.le_of_ble_eq_true rfl) (Nat.le_of_ble_eq_true rfl) hlocks rfl

def cPd (S : Mem) (i b : Nat) : Int64 := if ¬ S.1 47 i = 0 then -(cVal S i - cVal S b) else cVal S i - cVal S b

set_option maxRecDepth 100000 in
set_option maxHeartbeats 1000000 in
theorem ct_X10_pairDifference (l : Launch) (D : va_G) (cA : Nat → ClassId) (α : Nat → Nat) (n sz : Nat) (hn : 191 ≤ n) (S : Mem) (N : Nat) (hN : S.1 74 0 = nI N) (hN2 : N ≤ 100) (i : Nat) (hi : i < N) (b : Nat) (hb9 : S.1 77 i = nI b) (ho : okC S i) (ho2 : okC S b) : CtL l yX10_pairDifference wsX10_pairDifference ({ frames := 7, cells := 0, slots := 0, locals := 121 }) D cA α n sz [.ref (α 0), .int (nI i)] S (cPd S i b) S := by
  refine ct_enter cX10_pairDifference 5 (some .long) (by decide) rfl (Nat.le_of_ble_eq_true rfl) ?_
  intro p e s m below meth c hx hb hr hml hlocks hown hts hK hsz hw ls hl
  have hown : s.vm.findClass RX10 = some m.cls := hown
  have hAw : ∀ z, Aw α n s.heap.size z → Aw α n sz z := by rw [hsz]; exact fun _ h => h
  have hl : lv_has ls 5 [(0, .ref (α 0)), (1, .int (nI i))] := hl
  have hb7 := ho2.1
  refine lv_aload_n hx hb dX10_pairDifference_0 rfl (lv_at hl 0 rfl) ?_
  refine lv_iload_n hx hb dX10_pairDifference_1 rfl (lv_at hl 1 rfl) ?_
  refine x_callVVr (q := 0) (C := RX10) (As := [.int (nI i)]) (rest := []) ⟨hx, hb, hml, hown, hts⟩ (ct_X10_requireItem l D cA α n _ hn S N hN hN2 i hi) (cwV 1 hts gX10_pairDifference_X10_requireItem rfl rfl rfl (by decide +kernel) ⟨Nat.le_of_ble_eq_true rfl, Nat.le_of_ble_eq_true rfl⟩) hK hw hAw (ws_recv hK hw (q := 0) (Nat.lt_of_lt_of_le (Nat.le_of_ble_eq_true rfl : 0 < 191) hn) (mk_0 cA α) rfl) rfl hl.1 rfl (Nat.le_of_ble_eq_true rfl) dX10_pairDifference_2 ⟨Nat.zero_le _, Nat.zero_le _⟩ (fun H locs hw => ?_)
  refine lv_aload_n hx hb dX10_pairDifference_5 rfl (lv_at hl 0 rfl) ?_
  refine x_get (v := .ref (α 3)) (C := RX10) (T := TX10) (N := 7) hx hb hts (fun _ h => List.mem_cons_of_mem _ (List.mem_append_left _ (List.mem_append_left _ (List.mem_append_left _ (List.mem_append_left _ (List.mem_append_left _ (List.mem_append_left _ (List.mem_append_right _ h)))))))) hown hK hw 0 (Nat.lt_of_lt_of_le (Nat.le_of_ble_eq_true rfl : 0 < 191) hn) (mk_0 cA α) rfl 1 (by decide) (hts _ (List.mem_of_getElem? (i := 3) rfl)) (fun _ h9 => h9) rfl dX10_pairDifference_6 ?_
  refine x_get (v := .ref (α 74)) (C := RX0) (T := TX0) (N := 3) hx hb hts (fun _ h => List.mem_cons_of_mem _ (List.mem_append_left _ (List.mem_append_left _ (List.mem_append_left _ (List.mem_append_left _ (List.mem_append_left _ (List.mem_append_right _ h))))))) hown hK hw 3 (Nat.lt_of_lt_of_le (Nat.le_of_ble_eq_true rfl : 3 < 191) hn) (mk_3 cA α) rfl 2 (by decide) (hts _ (List.mem_of_getElem? (i := 4) rfl)) (fun _ h9 => h9) rfl dX10_pairDifference_9 ?_
  refine x_get (v := .ref (α 77)) (C := RX9) (T := TX9) (N := 14) hx hb hts (fun _ h => List.mem_cons_of_mem _ (List.mem_append_left _ (List.mem_append_left _ (List.mem_append_left _ (List.mem_append_left _ (List.mem_append_right _ h)))))) hown hK hw 74 (Nat.lt_of_lt_of_le (Nat.le_of_ble_eq_true rfl : 74 < 191) hn) (mk_74 cA α) rfl 8 (by decide) (hts _ (List.mem_of_getElem? (i := 5) rfl)) (fun _ h9 => h9) rfl dX10_pairDifference_12 ?_
  refine lv_iload_n hx hb dX10_pairDifference_15 rfl (lv_at hl 1 rfl) ?_
  refine x_iald hx hb hK hw 77 100 (Nat.lt_of_lt_of_le (Nat.le_of_ble_eq_true rfl : 77 < 191) hn) (mk_77 cA α) i rfl (by omega) (by decide) dX10_pairDifference_16 ?_
  refine x_topN (k := b) hb9 ?_
  refine lv_istore_n (lv' := [(2, .int (nI b)), (0, .ref (α 0)), (1, .int (nI i))]) hx hb dX10_pairDifference_17 rfl hl (by decide) rfl (fun ls hl => ?_)
  refine lv_iload_n hx hb dX10_pairDifference_18 rfl (lv_at hl 0 rfl) ?_
  refine lv_if_ge (tgt := 32) hx hb dX10_pairDifference_19 (by decide) (fun c1 => ?_) (fun c1 => ?_)
  · skip
    refine lv_aload_n hx hb dX10_pairDifference_32 rfl (lv_at hl 1 rfl) ?_
    refine x_get (v := .ref (α 3)) (C := RX10) (T := TX10) (N := 7) hx hb hts (fun _ h => List.mem_cons_of_mem _ (List.mem_append_left _ (List.mem_append_left _ (List.mem_append_left _ (List.mem_append_left _ (List.mem_append_left _ (List.mem_append_left _ (List.mem_append_right _ h)))))))) hown hK hw 0 (Nat.lt_of_lt_of_le (Nat.le_of_ble_eq_true rfl : 0 < 191) hn) (mk_0 cA α) rfl 1 (by decide) (hts _ (List.mem_of_getElem? (i := 3) rfl)) (fun _ h9 => h9) rfl dX10_pairDifference_33 ?_
    refine lv_iload_n hx hb dX10_pairDifference_36 rfl (lv_at hl 2 rfl) ?_
    refine x_callVLr (q := 3) (C := RX0) (As := [.int (nI i)]) (rest := []) ⟨hx, hb, hml, hown, hts⟩ (ct_X0_valueOf l D cA α n _ hn S i ho) (cwV 1 hts gX10_pairDifference_X0_valueOf rfl rfl rfl (by decide +kernel) ⟨Nat.le_of_ble_eq_true rfl, Nat.le_of_ble_eq_true rfl⟩) hK hw hAw (ws_recv hK hw (q := 3) (Nat.lt_of_lt_of_le (Nat.le_of_ble_eq_true rfl : 3 < 191) hn) (mk_3 cA α) rfl) rfl hl.1 rfl (Nat.le_of_ble_eq_true rfl) dX10_pairDifference_37 ⟨Nat.zero_le _, Nat.zero_le _⟩ (fun H locs hw => ?_)
    refine lv_aload_n hx hb dX10_pairDifference_40 rfl (lv_at hl 1 rfl) ?_
    refine x_get (v := .ref (α 3)) (C := RX10) (T := TX10) (N := 7) hx hb hts (fun _ h => List.mem_cons_of_mem _ (List.mem_append_left _ (List.mem_append_left _ (List.mem_append_left _ (List.mem_append_left _ (List.mem_append_left _ (List.mem_append_left _ (List.mem_append_right _ h)))))))) hown hK hw 0 (Nat.lt_of_lt_of_le (Nat.le_of_ble_eq_true rfl : 0 < 191) hn) (mk_0 cA α) rfl 1 (by decide) (hts _ (List.mem_of_getElem? (i := 3) rfl)) (fun _ h9 => h9) rfl dX10_pairDifference_41 ?_
    refine lv_iload_n hx hb dX10_pairDifference_44 rfl (lv_at hl 0 rfl) ?_
    refine x_callVLr (q := 3) (C := RX0) (As := [.int (nI b)]) (rest := [.long (cVal S i)]) ⟨hx, hb, hml, hown, hts⟩ (ct_X0_valueOf l D cA α n _ hn S b ho2) (cwV 1 hts gX10_pairDifference_X0_valueOf rfl rfl rfl (by decide +kernel) ⟨Nat.le_of_ble_eq_true rfl, Nat.le_of_ble_eq_true rfl⟩) hK hw hAw (ws_recv hK hw (q := 3) (Nat.lt_of_lt_of_le (Nat.le_of_ble_eq_true rfl : 3 < 191) hn) (mk_3 cA α) rfl) rfl hl.1 rfl (Nat.le_of_ble_eq_true rfl) dX10_pairDifference_45 ⟨Nat.zero_le _, Nat.zero_le _⟩ (fun H locs hw => ?_)
    refine lv_lsub hx hb dX10_pairDifference_48 ?_
    refine lv_lstore_n (lv' := [(3, .long ((cVal S i) - (cVal S b))), (2, .int (nI b)), (0, .ref (α 0)), (1, .int (nI i))]) hx hb dX10_pairDifference_49 rfl hl (by decide) rfl (fun ls hl => ?_)
    refine lv_aload_n hx hb dX10_pairDifference_50 rfl (lv_at hl 2 rfl) ?_
    refine x_get (v := .ref (α 3)) (C := RX10) (T := TX10) (N := 7) hx hb hts (fun _ h => List.mem_cons_of_mem _ (List.mem_append_left _ (List.mem_append_left _ (List.mem_append_left _ (List.mem_append_left _ (List.mem_append_left _ (List.mem_append_left _ (List.mem_append_right _ h)))))))) hown hK hw 0 (Nat.lt_of_lt_of_le (Nat.le_of_ble_eq_true rfl : 0 < 191) hn) (mk_0 cA α) rfl 1 (by decide) (hts _ (List.mem_of_getElem? (i := 3) rfl)) (fun _ h9 => h9) rfl dX10_pairDifference_51 ?_
    refine x_get (v := .ref (α 44)) (C := RX0) (T := TX0) (N := 3) hx hb hts (fun _ h => List.mem_cons_of_mem _ (List.mem_append_left _ (List.mem_append_left _ (List.mem_append_left _ (List.mem_append_left _ (List.mem_append_left _ (List.mem_append_right _ h))))))) hown hK hw 3 (Nat.lt_of_lt_of_le (Nat.le_of_ble_eq_true rfl : 3 < 191) hn) (mk_3 cA α) rfl 1 (by decide) (hts _ (List.mem_of_getElem? (i := 6) rfl)) (fun _ h9 => h9) rfl dX10_pairDifference_54 ?_
    refine x_get (v := .ref (α 47)) (C := RX7) (T := TX7) (N := 9) hx hb hts (fun _ h => List.mem_cons_of_mem _ (List.mem_append_left _ (List.mem_append_left _ (List.mem_append_left _ (List.mem_append_right _ h))))) hown hK hw 44 (Nat.lt_of_lt_of_le (Nat.le_of_ble_eq_true rfl : 44 < 191) hn) (mk_44 cA α) rfl 2 (by decide) (hts _ (List.mem_of_getElem? (i := 7) rfl)) (fun _ h9 => h9) rfl dX10_pairDifference_57 ?_
    refine lv_iload_n hx hb dX10_pairDifference_60 rfl (lv_at hl 3 rfl) ?_
    refine x_iald hx hb hK hw 47 100 (Nat.lt_of_lt_of_le (Nat.le_of_ble_eq_true rfl : 47 < 191) hn) (mk_47 cA α) i rfl (by omega) (by decide) dX10_pairDifference_61 ?_
    refine lv_if_ne (tgt := 69) hx hb dX10_pairDifference_62 (by decide) (fun c2 => ?_) (fun c2 => ?_)
    · skip
      refine lv_lload_n hx hb dX10_pairDifference_69 rfl (lv_at hl 0 rfl) ?_
      refine lv_lneg hx hb dX10_pairDifference_70 ?_
      exact ret_l hx hb hr hlocks hK hw dX10_pairDifference_71 (by first | (simp only [cPd, if_pos c1, if_neg (not_not_intro c1), decide_eq_true c1, if_neg c2, if_pos c2, decide_eq_false c2, if_true, if_false, eq_self, Bool.false_eq_true, not_true_eq_false, not_false_eq_true, decide_true, decide_false, Bool.and_true, Bool.true_and, Bool.and_false, Bool.false_and, Bool.not_true, Bool.not_false, Bool.or_true, Bool.true_or, Bool.or_false, Bool.false_or, reduceIte, b2i_t, b2i_f]; done) | rfl | (simp [cPd, if_pos c1, if_neg (not_not_intro c1), decide_eq_true c1, if_neg c2, if_pos c2, decide_eq_false c2, b2i, nI_0, nI_one]; done)) rfl
    · skip
      refine lv_lload_n hx hb dX10_pairDifference_65 rfl (lv_at hl 0 rfl) ?_
      refine lv_goto (tgt := 71) hx hb dX10_pairDifference_66 (by decide) ?_
      exact ret_l hx hb hr hlocks hK hw dX10_pairDifference_71 (by first | (simp only [cPd, if_pos c1, if_neg (not_not_intro c1), decide_eq_true c1, if_pos c2, if_neg (not_not_intro c2), decide_eq_true c2, if_true, if_false, eq_self, Bool.false_eq_true, not_true_eq_false, not_false_eq_true, decide_true, decide_false, Bool.and_true, Bool.true_and, Bool.and_false, Bool.false_and, Bool.not_true, Bool.not_false, Bool.or_true, Bool.true_or, Bool.or_false, Bool.false_or, reduceIte, b2i_t, b2i_f]; done) | rfl | (simp [cPd, if_pos c1, if_neg (not_not_intro c1), decide_eq_true c1, if_pos c2, if_neg (not_not_intro c2), decide_eq_true c2, b2i, nI_0, nI_one]; done)) rfl
  · exact absurd (show (0 : Int32) ≤ nI b from nI_pos' (by omega)) c1

set_option maxRecDepth 100000 in
set_option maxHeartbeats 1000000 in
theorem ct_X10_pairDifferenceX (l : Launch) (hst : l.stackTraces = false) (sa : Nat → Nat) (D : va_G) (cA : Nat → ClassId) (α : Nat → Nat) (n sz : Nat) (hn : 191 ≤ n) (S : Mem) (N : Nat) (hN : S.1 74 0 = nI N) (hN2 : N ≤ 100) (x : Int32) (hx9 : ¬ ∃ i, i < N ∧ x = nI i) : CtX sa l yX10_pairDifference wsX10_pairDifference ({ frames := 7, cells := 1, slots := 6, locals := 121 }) D cA α n sz [.ref (α 0), .int x] S eIO := by
  refine ctx_enter cX10_pairDifference 5 (some .long) (by decide) rfl (Nat.le_of_ble_eq_true rfl) ?_
  intro p e s m below meth c hx hb hr hml hlocks hown hts hK hsz hw hZ hSx hout ls hl
  have hown : s.vm.findClass RX10 = some m.cls := hown
  have hAw : ∀ z, Aw α n s.heap.size z → Aw α n sz z := by rw [hsz]; exact fun _ h => h
  have hl : lv_has ls 5 [(0, .ref (α 0)), (1, .int x)] := hl
  refine lv_aload_n hx hb dX10_pairDifference_0 rfl (lv_at hl 0 rfl) ?_
  refine lv_iload_n hx hb dX10_pairDifference_1 rfl (lv_at hl 1 rfl) ?_
  exact x_callXV (q := 0) (C := RX10) (As := [.int x]) (rest := []) ⟨hx, hb, hml, hown, hts⟩ (ct_X10_requireItemX l hst sa D cA α n _ hn S N hN hN2 x hx9) (cwV 1 hts gX10_pairDifference_X10_requireItem rfl rfl rfl (by decide +kernel) ⟨Nat.le_of_ble_eq_true rfl, Nat.le_of_ble_eq_true rfl⟩) hK hw hsz hZ hSx (ws_recv hK hw (q := 0) (Nat.lt_of_lt_of_le (Nat.le_of_ble_eq_true rfl : 0 < 191) hn) (mk_0 cA α) rfl) rfl hl.1 rfl (Nat.le_of_ble_eq_true rfl) dX10_pairDifference_2 ⟨Nat.le_of_ble_eq_true rfl, Nat.le_of_ble_eq_true rfl⟩ hout hlocks rfl

set_option maxRecDepth 100000 in
set_option maxHeartbeats 1000000 in
theorem ct_X10_pairDifferenceY (l : Launch) (hst : l.stackTraces = false) (sa : Nat → Nat) (D : va_G) (cA : Nat → ClassId) (α : Nat → Nat) (n sz : Nat) (hn : 191 ≤ n) (S : Mem) (N : Nat) (hN : S.1 74 0 = nI N) (hN2 : N ≤ 100) (i : Nat) (hi : i < N) (hb9 : S.1 77 i < 0) : CtX sa l yX10_pairDifference wsX10_pairDifference ({ frames := 7, cells := 1, slots := 6, locals := 121 }) D cA α n sz [.ref (α 0), .int (nI i)] S eIS := by
  refine ctx_enter cX10_pairDifference 5 (some .long) (by decide) rfl (Nat.le_of_ble_eq_true rfl) ?_
  intro p e s m below meth c hx hb hr hml hlocks hown hts hK hsz hw hZ hSx hout ls hl
  have hown : s.vm.findClass RX10 = some m.cls := hown
  have hAw : ∀ z, Aw α n s.heap.size z → Aw α n sz z := by rw [hsz]; exact fun _ h => h
  have hl : lv_has ls 5 [(0, .ref (α 0)), (1, .int (nI i))] := hl
  refine lv_aload_n hx hb dX10_pairDifference_0 rfl (lv_at hl 0 rfl) ?_
  refine lv_iload_n hx hb dX10_pairDifference_1 rfl (lv_at hl 1 rfl) ?_
  refine x_callVVr (q := 0) (C := RX10) (As := [.int (nI i)]) (rest := []) ⟨hx, hb, hml, hown, hts⟩ (ct_X10_requireItem l D cA α n _ hn S N hN hN2 i hi) (cwV 1 hts gX10_pairDifference_X10_requireItem rfl rfl rfl (by decide +kernel) ⟨Nat.le_of_ble_eq_true rfl, Nat.le_of_ble_eq_true rfl⟩) hK hw hAw (ws_recv hK hw (q := 0) (Nat.lt_of_lt_of_le (Nat.le_of_ble_eq_true rfl : 0 < 191) hn) (mk_0 cA α) rfl) rfl hl.1 rfl (Nat.le_of_ble_eq_true rfl) dX10_pairDifference_2 ⟨Nat.zero_le _, Nat.zero_le _⟩ (fun H locs hw => ?_)
  refine lv_aload_n hx hb dX10_pairDifference_5 rfl (lv_at hl 0 rfl) ?_
  refine x_get (v := .ref (α 3)) (C := RX10) (T := TX10) (N := 7) hx hb hts (fun _ h => List.mem_cons_of_mem _ (List.mem_append_left _ (List.mem_append_left _ (List.mem_append_left _ (List.mem_append_left _ (List.mem_append_left _ (List.mem_append_left _ (List.mem_append_right _ h)))))))) hown hK hw 0 (Nat.lt_of_lt_of_le (Nat.le_of_ble_eq_true rfl : 0 < 191) hn) (mk_0 cA α) rfl 1 (by decide) (hts _ (List.mem_of_getElem? (i := 3) rfl)) (fun _ h9 => h9) rfl dX10_pairDifference_6 ?_
  refine x_get (v := .ref (α 74)) (C := RX0) (T := TX0) (N := 3) hx hb hts (fun _ h => List.mem_cons_of_mem _ (List.mem_append_left _ (List.mem_append_left _ (List.mem_append_left _ (List.mem_append_left _ (List.mem_append_left _ (List.mem_append_right _ h))))))) hown hK hw 3 (Nat.lt_of_lt_of_le (Nat.le_of_ble_eq_true rfl : 3 < 191) hn) (mk_3 cA α) rfl 2 (by decide) (hts _ (List.mem_of_getElem? (i := 4) rfl)) (fun _ h9 => h9) rfl dX10_pairDifference_9 ?_
  refine x_get (v := .ref (α 77)) (C := RX9) (T := TX9) (N := 14) hx hb hts (fun _ h => List.mem_cons_of_mem _ (List.mem_append_left _ (List.mem_append_left _ (List.mem_append_left _ (List.mem_append_left _ (List.mem_append_right _ h)))))) hown hK hw 74 (Nat.lt_of_lt_of_le (Nat.le_of_ble_eq_true rfl : 74 < 191) hn) (mk_74 cA α) rfl 8 (by decide) (hts _ (List.mem_of_getElem? (i := 5) rfl)) (fun _ h9 => h9) rfl dX10_pairDifference_12 ?_
  refine lv_iload_n hx hb dX10_pairDifference_15 rfl (lv_at hl 1 rfl) ?_
  refine x_iald hx hb hK hw 77 100 (Nat.lt_of_lt_of_le (Nat.le_of_ble_eq_true rfl : 77 < 191) hn) (mk_77 cA α) i rfl (by omega) (by decide) dX10_pairDifference_16 ?_
  refine lv_istore_n (lv' := [(2, .int (S.1 77 i)), (0, .ref (α 0)), (1, .int (nI i))]) hx hb dX10_pairDifference_17 rfl hl (by decide) rfl (fun ls hl => ?_)
  refine lv_iload_n hx hb dX10_pairDifference_18 rfl (lv_at hl 0 rfl) ?_
  refine lv_if_ge (tgt := 32) hx hb dX10_pairDifference_19 (by decide) (fun c1 => ?_) (fun c1 => ?_)
  · exact absurd c1 (Int32.not_le.mpr hb9)
  · skip
    exact x_throwS (names := eUp) (rest := []) hx hb hst hown fit_IS fit_Up (hts _ (List.mem_of_getElem? (i := 1) rfl)) (hts _ (List.mem_of_getElem? (i := 2) rfl)) (hSx.1 _ (List.mem_of_getElem? (i := 2) rfl)) (at_IS hSx (fun w h => hts w ((fun _ h => List.mem_cons_of_mem _ (List.mem_append_left _ (List.mem_append_right _ h))) w h))) ga_IS hZ hK hw (hl.1.trans hml.symm) dX10_pairDifference_22 dX10_pairDifference_25 dX10_pairDifference_26 dX10_pairDifference_28 dX10_pairDifference_31 hout (Nat.le_of_ble_eq_true rfl) (Nat.le_of_ble_eq_true rfl) (Nat.le_of_ble_eq_true rfl) (Nat.le_of_ble_eq_true rfl) hlocks rfl

theorem cPlan_ok (S : Mem) {N : Nat} (hN : N ≤ 100) : ∀ i, i ≤ N → ∀ j, j < N → cPlan S N i j < 0 ∨ okI (cPlan S N i j) N
  | 0, _, j, hj => by
    left
    rw [cPlan]
    unfold fI
    rw [if_pos hj]
    decide
  | i + 1, hi, j, hj => by
    have ih := cPlan_ok S hN i (by omega)
    cases hs : cIs S i (nI 0) (nI 0) with
    | false => rw [cPlan_no hs]; exact ih j hj
    | true =>
      cases hb : bestOf (cFree (setR S 5 (cPlan S N i)) i) (cDst S i) N with
      | none => rw [cPlan_none hb]; exact ih j hj
      | some b =>
        have hb2 := (bestOf_lt N b hb).1
        rw [cPlan_some hs hb]
        unfold upd
        split
        · exact Or.inr (okI_nI (by omega) (by omega))
        · split
          · exact Or.inr (okI_nI hb2 (by omega))
          · exact ih j hj
theorem cPlan_pl (S : Mem) {N : Nat} (hN : N ≤ 100) : okPl (setR S 5 (cPlan S N N)) N := by
  intro i hi
  rw [sR_e]
  exact cPlan_ok S hN N (Nat.le_refl _) i hi

set_option maxRecDepth 100000 in
set_option maxHeartbeats 1000000 in
theorem ct_X10_wouldPair (l : Launch) (D : va_G) (cA : Nat → ClassId) (α : Nat → Nat) (n sz : Nat) (hn : 191 ≤ n) (S : Mem) (N : Nat) (hN : S.1 74 0 = nI N) (hN2 : N ≤ 100) (i : Nat) (hi : i < N) (ho : ∀ j, j < N → okC S j) (hs1 : S.1 47 i = 0) (hs2 : S.1 76 i = 0) : CtI l yX10_wouldPair wsX10_wouldPair ({ frames := 7, cells := 0, slots := 0, locals := 133 }) D cA α n sz [.ref (α 0), .int (nI i)] S (cPlan S N N i) (setR S 5 (cPlan S N N)) := by
  refine ct_enter cX10_wouldPair 2 (some .int) (by decide) rfl (Nat.le_of_ble_eq_true rfl) ?_
  intro p e s m below meth c hx hb hr hml hlocks hown hts hK hsz hw ls hl
  have hown : s.vm.findClass RX10 = some m.cls := hown
  have hAw : ∀ z, Aw α n s.heap.size z → Aw α n sz z := by rw [hsz]; exact fun _ h => h
  have hl : lv_has ls 2 [(0, .ref (α 0)), (1, .int (nI i))] := hl
  refine lv_aload_n hx hb dX10_wouldPair_0 rfl (lv_at hl 0 rfl) ?_
  refine lv_iload_n hx hb dX10_wouldPair_1 rfl (lv_at hl 1 rfl) ?_
  refine x_callVVr (q := 0) (C := RX10) (As := [.int (nI i)]) (rest := []) ⟨hx, hb, hml, hown, hts⟩ (ct_X10_requireItem l D cA α n _ hn S N hN hN2 i hi) (cwV 1 hts gX10_wouldPair_X10_requireItem rfl rfl rfl (by decide +kernel) ⟨Nat.le_of_ble_eq_true rfl, Nat.le_of_ble_eq_true rfl⟩) hK hw hAw (ws_recv hK hw (q := 0) (Nat.lt_of_lt_of_le (Nat.le_of_ble_eq_true rfl : 0 < 191) hn) (mk_0 cA α) rfl) rfl hl.1 rfl (Nat.le_of_ble_eq_true rfl) dX10_wouldPair_2 ⟨Nat.zero_le _, Nat.zero_le _⟩ (fun H locs hw => ?_)
  refine lv_aload_n hx hb dX10_wouldPair_5 rfl (lv_at hl 0 rfl) ?_
  refine x_get (v := .ref (α 3)) (C := RX10) (T := TX10) (N := 7) hx hb hts (fun _ h => List.mem_cons_of_mem _ (List.mem_append_left _ (List.mem_append_left _ (List.mem_append_left _ (List.mem_append_left _ (List.mem_append_left _ (List.mem_append_left _ (List.mem_append_left _ (List.mem_append_right _ h))))))))) hown hK hw 0 (Nat.lt_of_lt_of_le (Nat.le_of_ble_eq_true rfl : 0 < 191) hn) (mk_0 cA α) rfl 1 (by decide) (hts _ (List.mem_of_getElem? (i := 3) rfl)) (fun _ h9 => h9) rfl dX10_wouldPair_6 ?_
  refine x_get (v := .ref (α 44)) (C := RX0) (T := TX0) (N := 3) hx hb hts (fun _ h => List.mem_cons_of_mem _ (List.mem_append_left _ (List.mem_append_left _ (List.mem_append_left _ (List.mem_append_left _ (List.mem_append_left _ (List.mem_append_left _ (List.mem_append_right _ h)))))))) hown hK hw 3 (Nat.lt_of_lt_of_le (Nat.le_of_ble_eq_true rfl : 3 < 191) hn) (mk_3 cA α) rfl 1 (by decide) (hts _ (List.mem_of_getElem? (i := 4) rfl)) (fun _ h9 => h9) rfl dX10_wouldPair_9 ?_
  refine x_get (v := .ref (α 47)) (C := RX7) (T := TX7) (N := 9) hx hb hts (fun _ h => List.mem_cons_of_mem _ (List.mem_append_left _ (List.mem_append_left _ (List.mem_append_left _ (List.mem_append_left _ (List.mem_append_left _ (List.mem_append_right _ h))))))) hown hK hw 44 (Nat.lt_of_lt_of_le (Nat.le_of_ble_eq_true rfl : 44 < 191) hn) (mk_44 cA α) rfl 2 (by decide) (hts _ (List.mem_of_getElem? (i := 5) rfl)) (fun _ h9 => h9) rfl dX10_wouldPair_12 ?_
  refine lv_iload_n hx hb dX10_wouldPair_15 rfl (lv_at hl 1 rfl) ?_
  refine x_iald hx hb hK hw 47 100 (Nat.lt_of_lt_of_le (Nat.le_of_ble_eq_true rfl : 47 < 191) hn) (mk_47 cA α) i rfl (by omega) (by decide) dX10_wouldPair_16 ?_
  refine lv_if_ne (tgt := 35) hx hb dX10_wouldPair_17 (by decide) (fun c1 => ?_) (fun c1 => ?_)
  · exact absurd hs1 c1
  · skip
    refine lv_aload_n hx hb dX10_wouldPair_20 rfl (lv_at hl 0 rfl) ?_
    refine x_get (v := .ref (α 3)) (C := RX10) (T := TX10) (N := 7) hx hb hts (fun _ h => List.mem_cons_of_mem _ (List.mem_append_left _ (List.mem_append_left _ (List.mem_append_left _ (List.mem_append_left _ (List.mem_append_left _ (List.mem_append_left _ (List.mem_append_left _ (List.mem_append_right _ h))))))))) hown hK hw 0 (Nat.lt_of_lt_of_le (Nat.le_of_ble_eq_true rfl : 0 < 191) hn) (mk_0 cA α) rfl 1 (by decide) (hts _ (List.mem_of_getElem? (i := 3) rfl)) (fun _ h9 => h9) rfl dX10_wouldPair_21 ?_
    refine x_get (v := .ref (α 74)) (C := RX0) (T := TX0) (N := 3) hx hb hts (fun _ h => List.mem_cons_of_mem _ (List.mem_append_left _ (List.mem_append_left _ (List.mem_append_left _ (List.mem_append_left _ (List.mem_append_left _ (List.mem_append_left _ (List.mem_append_right _ h)))))))) hown hK hw 3 (Nat.lt_of_lt_of_le (Nat.le_of_ble_eq_true rfl : 3 < 191) hn) (mk_3 cA α) rfl 2 (by decide) (hts _ (List.mem_of_getElem? (i := 6) rfl)) (fun _ h9 => h9) rfl dX10_wouldPair_24 ?_
    refine x_get (v := .ref (α 76)) (C := RX9) (T := TX9) (N := 14) hx hb hts (fun _ h => List.mem_cons_of_mem _ (List.mem_append_left _ (List.mem_append_left _ (List.mem_append_left _ (List.mem_append_left _ (List.mem_append_right _ h)))))) hown hK hw 74 (Nat.lt_of_lt_of_le (Nat.le_of_ble_eq_true rfl : 74 < 191) hn) (mk_74 cA α) rfl 7 (by decide) (hts _ (List.mem_of_getElem? (i := 7) rfl)) (fun _ h9 => h9) rfl dX10_wouldPair_27 ?_
    refine lv_iload_n hx hb dX10_wouldPair_30 rfl (lv_at hl 1 rfl) ?_
    refine x_iald hx hb hK hw 76 100 (Nat.lt_of_lt_of_le (Nat.le_of_ble_eq_true rfl : 76 < 191) hn) (mk_76 cA α) i rfl (by omega) (by decide) dX10_wouldPair_31 ?_
    refine lv_if_eq (tgt := 45) hx hb dX10_wouldPair_32 (by decide) (fun c2 => ?_) (fun c2 => ?_)
    · skip
      refine lv_aload_n hx hb dX10_wouldPair_45 rfl (lv_at hl 0 rfl) ?_
      refine x_get (v := .ref (α 4)) (C := RX10) (T := TX10) (N := 7) hx hb hts (fun _ h => List.mem_cons_of_mem _ (List.mem_append_left _ (List.mem_append_left _ (List.mem_append_left _ (List.mem_append_left _ (List.mem_append_left _ (List.mem_append_left _ (List.mem_append_left _ (List.mem_append_right _ h))))))))) hown hK hw 0 (Nat.lt_of_lt_of_le (Nat.le_of_ble_eq_true rfl : 0 < 191) hn) (mk_0 cA α) rfl 2 (by decide) (hts _ (List.mem_of_getElem? (i := 8) rfl)) (fun _ h9 => h9) rfl dX10_wouldPair_46 ?_
      refine lv_aload_n hx hb dX10_wouldPair_49 rfl (lv_at hl 0 rfl) ?_
      refine x_get (v := .ref (α 3)) (C := RX10) (T := TX10) (N := 7) hx hb hts (fun _ h => List.mem_cons_of_mem _ (List.mem_append_left _ (List.mem_append_left _ (List.mem_append_left _ (List.mem_append_left _ (List.mem_append_left _ (List.mem_append_left _ (List.mem_append_left _ (List.mem_append_right _ h))))))))) hown hK hw 0 (Nat.lt_of_lt_of_le (Nat.le_of_ble_eq_true rfl : 0 < 191) hn) (mk_0 cA α) rfl 1 (by decide) (hts _ (List.mem_of_getElem? (i := 3) rfl)) (fun _ h9 => h9) rfl dX10_wouldPair_50 ?_
      refine x_callVV (q := 4) (C := RX5) (As := [.ref (α 3)]) (rest := []) ⟨hx, hb, hml, hown, hts⟩ (ct_X5_planRun l D cA α n _ hn S N hN hN2 ho) (cwV 1 hts gX10_wouldPair_X5_planRun rfl rfl rfl (by decide +kernel) ⟨Nat.le_of_ble_eq_true rfl, Nat.le_of_ble_eq_true rfl⟩) hK hw hAw (ws_recv hK hw (q := 4) (Nat.lt_of_lt_of_le (Nat.le_of_ble_eq_true rfl : 4 < 191) hn) (mk_4 cA α) rfl) rfl hl.1 rfl (Nat.le_of_ble_eq_true rfl) dX10_wouldPair_53 ⟨Nat.zero_le _, Nat.zero_le _⟩ (fun S1 eS1 H locs hw => ?_)
      refine lv_aload_n hx hb dX10_wouldPair_56 rfl (lv_at hl 0 rfl) ?_
      refine x_get (v := .ref (α 4)) (C := RX10) (T := TX10) (N := 7) hx hb hts (fun _ h => List.mem_cons_of_mem _ (List.mem_append_left _ (List.mem_append_left _ (List.mem_append_left _ (List.mem_append_left _ (List.mem_append_left _ (List.mem_append_left _ (List.mem_append_left _ (List.mem_append_right _ h))))))))) hown hK hw 0 (Nat.lt_of_lt_of_le (Nat.le_of_ble_eq_true rfl : 0 < 191) hn) (mk_0 cA α) rfl 2 (by decide) (hts _ (List.mem_of_getElem? (i := 8) rfl)) (fun _ h9 => h9) rfl dX10_wouldPair_57 ?_
      refine x_get (v := .ref (α 5)) (C := RX5) (T := TX5) (N := 1) hx hb hts (fun _ h => List.mem_cons_of_mem _ (List.mem_append_left _ (List.mem_append_left _ (List.mem_append_left _ (List.mem_append_right _ h))))) hown hK hw 4 (Nat.lt_of_lt_of_le (Nat.le_of_ble_eq_true rfl : 4 < 191) hn) (mk_4 cA α) rfl 0 (by decide) (hts _ (List.mem_of_getElem? (i := 9) rfl)) (fun _ h9 => h9) rfl dX10_wouldPair_60 ?_
      refine lv_iload_n hx hb dX10_wouldPair_63 rfl (lv_at hl 1 rfl) ?_
      refine x_iald hx hb hK hw 5 100 (Nat.lt_of_lt_of_le (Nat.le_of_ble_eq_true rfl : 5 < 191) hn) (mk_5 cA α) i rfl (by omega) (by decide) dX10_wouldPair_64 ?_
      exact ret_i hx hb hr hlocks hK hw dX10_wouldPair_65 (by subst_vars; rw [sR_e]) (by subst eS1; rfl)
    · exact absurd hs2 c2

set_option maxRecDepth 100000 in
set_option maxHeartbeats 1000000 in
theorem ct_X10_wouldPairX (l : Launch) (hst : l.stackTraces = false) (sa : Nat → Nat) (D : va_G) (cA : Nat → ClassId) (α : Nat → Nat) (n sz : Nat) (hn : 191 ≤ n) (S : Mem) (N : Nat) (hN : S.1 74 0 = nI N) (hN2 : N ≤ 100) (x : Int32) (hx9 : ¬ ∃ i, i < N ∧ x = nI i) : CtX sa l yX10_wouldPair wsX10_wouldPair ({ frames := 7, cells := 1, slots := 6, locals := 133 }) D cA α n sz [.ref (α 0), .int x] S eIO := by
  refine ctx_enter cX10_wouldPair 2 (some .int) (by decide) rfl (Nat.le_of_ble_eq_true rfl) ?_
  intro p e s m below meth c hx hb hr hml hlocks hown hts hK hsz hw hZ hSx hout ls hl
  have hown : s.vm.findClass RX10 = some m.cls := hown
  have hAw : ∀ z, Aw α n s.heap.size z → Aw α n sz z := by rw [hsz]; exact fun _ h => h
  have hl : lv_has ls 2 [(0, .ref (α 0)), (1, .int x)] := hl
  refine lv_aload_n hx hb dX10_wouldPair_0 rfl (lv_at hl 0 rfl) ?_
  refine lv_iload_n hx hb dX10_wouldPair_1 rfl (lv_at hl 1 rfl) ?_
  exact x_callXV (q := 0) (C := RX10) (As := [.int x]) (rest := []) ⟨hx, hb, hml, hown, hts⟩ (ct_X10_requireItemX l hst sa D cA α n _ hn S N hN hN2 x hx9) (cwV 1 hts gX10_wouldPair_X10_requireItem rfl rfl rfl (by decide +kernel) ⟨Nat.le_of_ble_eq_true rfl, Nat.le_of_ble_eq_true rfl⟩) hK hw hsz hZ hSx (ws_recv hK hw (q := 0) (Nat.lt_of_lt_of_le (Nat.le_of_ble_eq_true rfl : 0 < 191) hn) (mk_0 cA α) rfl) rfl hl.1 rfl (Nat.le_of_ble_eq_true rfl) dX10_wouldPair_2 ⟨Nat.le_of_ble_eq_true rfl, Nat.le_of_ble_eq_true rfl⟩ hout hlocks rfl

set_option maxRecDepth 100000 in
set_option maxHeartbeats 1000000 in
theorem ct_X10_wouldPairY (l : Launch) (hst : l.stackTraces = false) (sa : Nat → Nat) (D : va_G) (cA : Nat → ClassId) (α : Nat → Nat) (n sz : Nat) (hn : 191 ≤ n) (S : Mem) (N : Nat) (hN : S.1 74 0 = nI N) (hN2 : N ≤ 100) (i : Nat) (hi : i < N) (hs : ¬ (S.1 47 i = 0 ∧ S.1 76 i = 0)) : CtX sa l yX10_wouldPair wsX10_wouldPair ({ frames := 7, cells := 1, slots := 6, locals := 133 }) D cA α n sz [.ref (α 0), .int (nI i)] S eIS := by
  refine ctx_enter cX10_wouldPair 2 (some .int) (by decide) rfl (Nat.le_of_ble_eq_true rfl) ?_
  intro p e s m below meth c hx hb hr hml hlocks hown hts hK hsz hw hZ hSx hout ls hl
  have hown : s.vm.findClass RX10 = some m.cls := hown
  have hAw : ∀ z, Aw α n s.heap.size z → Aw α n sz z := by rw [hsz]; exact fun _ h => h
  have hl : lv_has ls 2 [(0, .ref (α 0)), (1, .int (nI i))] := hl
  refine lv_aload_n hx hb dX10_wouldPair_0 rfl (lv_at hl 0 rfl) ?_
  refine lv_iload_n hx hb dX10_wouldPair_1 rfl (lv_at hl 1 rfl) ?_
  refine x_callVVr (q := 0) (C := RX10) (As := [.int (nI i)]) (rest := []) ⟨hx, hb, hml, hown, hts⟩ (ct_X10_requireItem l D cA α n _ hn S N hN hN2 i hi) (cwV 1 hts gX10_wouldPair_X10_requireItem rfl rfl rfl (by decide +kernel) ⟨Nat.le_of_ble_eq_true rfl, Nat.le_of_ble_eq_true rfl⟩) hK hw hAw (ws_recv hK hw (q := 0) (Nat.lt_of_lt_of_le (Nat.le_of_ble_eq_true rfl : 0 < 191) hn) (mk_0 cA α) rfl) rfl hl.1 rfl (Nat.le_of_ble_eq_true rfl) dX10_wouldPair_2 ⟨Nat.zero_le _, Nat.zero_le _⟩ (fun H locs hw => ?_)
  refine lv_aload_n hx hb dX10_wouldPair_5 rfl (lv_at hl 0 rfl) ?_
  refine x_get (v := .ref (α 3)) (C := RX10) (T := TX10) (N := 7) hx hb hts (fun _ h => List.mem_cons_of_mem _ (List.mem_append_left _ (List.mem_append_left _ (List.mem_append_left _ (List.mem_append_left _ (List.mem_append_left _ (List.mem_append_left _ (List.mem_append_left _ (List.mem_append_right _ h))))))))) hown hK hw 0 (Nat.lt_of_lt_of_le (Nat.le_of_ble_eq_true rfl : 0 < 191) hn) (mk_0 cA α) rfl 1 (by decide) (hts _ (List.mem_of_getElem? (i := 3) rfl)) (fun _ h9 => h9) rfl dX10_wouldPair_6 ?_
  refine x_get (v := .ref (α 44)) (C := RX0) (T := TX0) (N := 3) hx hb hts (fun _ h => List.mem_cons_of_mem _ (List.mem_append_left _ (List.mem_append_left _ (List.mem_append_left _ (List.mem_append_left _ (List.mem_append_left _ (List.mem_append_left _ (List.mem_append_right _ h)))))))) hown hK hw 3 (Nat.lt_of_lt_of_le (Nat.le_of_ble_eq_true rfl : 3 < 191) hn) (mk_3 cA α) rfl 1 (by decide) (hts _ (List.mem_of_getElem? (i := 4) rfl)) (fun _ h9 => h9) rfl dX10_wouldPair_9 ?_
  refine x_get (v := .ref (α 47)) (C := RX7) (T := TX7) (N := 9) hx hb hts (fun _ h => List.mem_cons_of_mem _ (List.mem_append_left _ (List.mem_append_left _ (List.mem_append_left _ (List.mem_append_left _ (List.mem_append_left _ (List.mem_append_right _ h))))))) hown hK hw 44 (Nat.lt_of_lt_of_le (Nat.le_of_ble_eq_true rfl : 44 < 191) hn) (mk_44 cA α) rfl 2 (by decide) (hts _ (List.mem_of_getElem? (i := 5) rfl)) (fun _ h9 => h9) rfl dX10_wouldPair_12 ?_
  refine lv_iload_n hx hb dX10_wouldPair_15 rfl (lv_at hl 1 rfl) ?_
  refine x_iald hx hb hK hw 47 100 (Nat.lt_of_lt_of_le (Nat.le_of_ble_eq_true rfl : 47 < 191) hn) (mk_47 cA α) i rfl (by omega) (by decide) dX10_wouldPair_16 ?_
  refine lv_if_ne (tgt := 35) hx hb dX10_wouldPair_17 (by decide) (fun c1 => ?_) (fun c1 => ?_)
  · skip
    exact x_throwS (names := eUp) (rest := []) hx hb hst hown fit_IS fit_Up (hts _ (List.mem_of_getElem? (i := 1) rfl)) (hts _ (List.mem_of_getElem? (i := 2) rfl)) (hSx.1 _ (List.mem_of_getElem? (i := 3) rfl)) (at_IS hSx (fun w h => hts w ((fun _ h => List.mem_cons_of_mem _ (List.mem_append_left _ (List.mem_append_right _ h))) w h))) ga_IS hZ hK hw (hl.1.trans hml.symm) dX10_wouldPair_35 dX10_wouldPair_38 dX10_wouldPair_39 dX10_wouldPair_41 dX10_wouldPair_44 hout (Nat.le_of_ble_eq_true rfl) (Nat.le_of_ble_eq_true rfl) (Nat.le_of_ble_eq_true rfl) (Nat.le_of_ble_eq_true rfl) hlocks rfl
  · skip
    refine lv_aload_n hx hb dX10_wouldPair_20 rfl (lv_at hl 0 rfl) ?_
    refine x_get (v := .ref (α 3)) (C := RX10) (T := TX10) (N := 7) hx hb hts (fun _ h => List.mem_cons_of_mem _ (List.mem_append_left _ (List.mem_append_left _ (List.mem_append_left _ (List.mem_append_left _ (List.mem_append_left _ (List.mem_append_left _ (List.mem_append_left _ (List.mem_append_right _ h))))))))) hown hK hw 0 (Nat.lt_of_lt_of_le (Nat.le_of_ble_eq_true rfl : 0 < 191) hn) (mk_0 cA α) rfl 1 (by decide) (hts _ (List.mem_of_getElem? (i := 3) rfl)) (fun _ h9 => h9) rfl dX10_wouldPair_21 ?_
    refine x_get (v := .ref (α 74)) (C := RX0) (T := TX0) (N := 3) hx hb hts (fun _ h => List.mem_cons_of_mem _ (List.mem_append_left _ (List.mem_append_left _ (List.mem_append_left _ (List.mem_append_left _ (List.mem_append_left _ (List.mem_append_left _ (List.mem_append_right _ h)))))))) hown hK hw 3 (Nat.lt_of_lt_of_le (Nat.le_of_ble_eq_true rfl : 3 < 191) hn) (mk_3 cA α) rfl 2 (by decide) (hts _ (List.mem_of_getElem? (i := 6) rfl)) (fun _ h9 => h9) rfl dX10_wouldPair_24 ?_
    refine x_get (v := .ref (α 76)) (C := RX9) (T := TX9) (N := 14) hx hb hts (fun _ h => List.mem_cons_of_mem _ (List.mem_append_left _ (List.mem_append_left _ (List.mem_append_left _ (List.mem_append_left _ (List.mem_append_right _ h)))))) hown hK hw 74 (Nat.lt_of_lt_of_le (Nat.le_of_ble_eq_true rfl : 74 < 191) hn) (mk_74 cA α) rfl 7 (by decide) (hts _ (List.mem_of_getElem? (i := 7) rfl)) (fun _ h9 => h9) rfl dX10_wouldPair_27 ?_
    refine lv_iload_n hx hb dX10_wouldPair_30 rfl (lv_at hl 1 rfl) ?_
    refine x_iald hx hb hK hw 76 100 (Nat.lt_of_lt_of_le (Nat.le_of_ble_eq_true rfl : 76 < 191) hn) (mk_76 cA α) i rfl (by omega) (by decide) dX10_wouldPair_31 ?_
    refine lv_if_eq (tgt := 45) hx hb dX10_wouldPair_32 (by decide) (fun c2 => ?_) (fun c2 => ?_)
    · exact absurd ⟨c1, c2⟩ hs
    · skip
      exact x_throwS (names := eUp) (rest := []) hx hb hst hown fit_IS fit_Up (hts _ (List.mem_of_getElem? (i := 1) rfl)) (hts _ (List.mem_of_getElem? (i := 2) rfl)) (hSx.1 _ (List.mem_of_getElem? (i := 3) rfl)) (at_IS hSx (fun w h => hts w ((fun _ h => List.mem_cons_of_mem _ (List.mem_append_left _ (List.mem_append_right _ h))) w h))) ga_IS hZ hK hw (hl.1.trans hml.symm) dX10_wouldPair_35 dX10_wouldPair_38 dX10_wouldPair_39 dX10_wouldPair_41 dX10_wouldPair_44 hout (Nat.le_of_ble_eq_true rfl) (Nat.le_of_ble_eq_true rfl) (Nat.le_of_ble_eq_true rfl) (Nat.le_of_ble_eq_true rfl) hlocks rfl

set_option maxRecDepth 100000 in
set_option maxHeartbeats 1000000 in
theorem ct_X10_toleranceNeeded (l : Launch) (D : va_G) (cA : Nat → ClassId) (α : Nat → Nat) (n sz : Nat) (hn : 191 ≤ n) (S : Mem) (N : Nat) (hN : S.1 74 0 = nI N) (hN2 : N ≤ 100) (ho : ∀ j, j < N → okC S j) : CtL l yX10_toleranceNeeded wsX10_toleranceNeeded ({ frames := 5, cells := 0, slots := 0, locals := 133 }) D cA α n sz [.ref (α 0)] S (cWid (setR S 5 (cPlan S N N)) N) (setR S 5 (cPlan S N N)) := by
  refine ct_enter cX10_toleranceNeeded 1 (some .long) (by decide) rfl (Nat.le_of_ble_eq_true rfl) ?_
  intro p e s m below meth c hx hb hr hml hlocks hown hts hK hsz hw ls hl
  have hown : s.vm.findClass RX10 = some m.cls := hown
  have hAw : ∀ z, Aw α n s.heap.size z → Aw α n sz z := by rw [hsz]; exact fun _ h => h
  have hl : lv_has ls 1 [(0, .ref (α 0))] := hl
  refine lv_aload_n hx hb dX10_toleranceNeeded_0 rfl (lv_at hl 0 rfl) ?_
  refine x_get (v := .ref (α 4)) (C := RX10) (T := TX10) (N := 7) hx hb hts (fun _ h => List.mem_cons_of_mem _ (List.mem_append_left _ (List.mem_append_left _ (List.mem_append_left _ (List.mem_append_left _ (List.mem_append_left _ (List.mem_append_right _ h))))))) hown hK hw 0 (Nat.lt_of_lt_of_le (Nat.le_of_ble_eq_true rfl : 0 < 191) hn) (mk_0 cA α) rfl 2 (by decide) (hts _ (List.mem_of_getElem? (i := 1) rfl)) (fun _ h9 => h9) rfl dX10_toleranceNeeded_1 ?_
  refine lv_aload_n hx hb dX10_toleranceNeeded_4 rfl (lv_at hl 0 rfl) ?_
  refine x_get (v := .ref (α 3)) (C := RX10) (T := TX10) (N := 7) hx hb hts (fun _ h => List.mem_cons_of_mem _ (List.mem_append_left _ (List.mem_append_left _ (List.mem_append_left _ (List.mem_append_left _ (List.mem_append_left _ (List.mem_append_right _ h))))))) hown hK hw 0 (Nat.lt_of_lt_of_le (Nat.le_of_ble_eq_true rfl : 0 < 191) hn) (mk_0 cA α) rfl 1 (by decide) (hts _ (List.mem_of_getElem? (i := 2) rfl)) (fun _ h9 => h9) rfl dX10_toleranceNeeded_5 ?_
  refine x_callVV (q := 4) (C := RX5) (As := [.ref (α 3)]) (rest := []) ⟨hx, hb, hml, hown, hts⟩ (ct_X5_planRun l D cA α n _ hn S N hN hN2 ho) (cwV 1 hts gX10_toleranceNeeded_X5_planRun rfl rfl rfl (by decide +kernel) ⟨Nat.le_of_ble_eq_true rfl, Nat.le_of_ble_eq_true rfl⟩) hK hw hAw (ws_recv hK hw (q := 4) (Nat.lt_of_lt_of_le (Nat.le_of_ble_eq_true rfl : 4 < 191) hn) (mk_4 cA α) rfl) rfl hl.1 rfl (Nat.le_of_ble_eq_true rfl) dX10_toleranceNeeded_8 ⟨Nat.zero_le _, Nat.zero_le _⟩ (fun S1 eS1 H locs hw => ?_)
  refine lv_aload_n hx hb dX10_toleranceNeeded_11 rfl (lv_at hl 0 rfl) ?_
  refine x_get (v := .ref (α 4)) (C := RX10) (T := TX10) (N := 7) hx hb hts (fun _ h => List.mem_cons_of_mem _ (List.mem_append_left _ (List.mem_append_left _ (List.mem_append_left _ (List.mem_append_left _ (List.mem_append_left _ (List.mem_append_right _ h))))))) hown hK hw 0 (Nat.lt_of_lt_of_le (Nat.le_of_ble_eq_true rfl : 0 < 191) hn) (mk_0 cA α) rfl 2 (by decide) (hts _ (List.mem_of_getElem? (i := 1) rfl)) (fun _ h9 => h9) rfl dX10_toleranceNeeded_12 ?_
  refine lv_aload_n hx hb dX10_toleranceNeeded_15 rfl (lv_at hl 0 rfl) ?_
  refine x_get (v := .ref (α 3)) (C := RX10) (T := TX10) (N := 7) hx hb hts (fun _ h => List.mem_cons_of_mem _ (List.mem_append_left _ (List.mem_append_left _ (List.mem_append_left _ (List.mem_append_left _ (List.mem_append_left _ (List.mem_append_right _ h))))))) hown hK hw 0 (Nat.lt_of_lt_of_le (Nat.le_of_ble_eq_true rfl : 0 < 191) hn) (mk_0 cA α) rfl 1 (by decide) (hts _ (List.mem_of_getElem? (i := 2) rfl)) (fun _ h9 => h9) rfl dX10_toleranceNeeded_16 ?_
  refine x_callVLr (q := 4) (C := RX5) (As := [.ref (α 3)]) (rest := []) ⟨hx, hb, hml, hown, hts⟩ (ct_X5_widestPlanned l D cA α n _ hn S1 N (by subst eS1; exact hN) hN2 (by subst eS1; exact ho) (by subst eS1; exact cPlan_pl S hN2)) (cwV 1 hts gX10_toleranceNeeded_X5_widestPlanned rfl rfl rfl (by decide +kernel) ⟨Nat.le_of_ble_eq_true rfl, Nat.le_of_ble_eq_true rfl⟩) hK hw hAw (ws_recv hK hw (q := 4) (Nat.lt_of_lt_of_le (Nat.le_of_ble_eq_true rfl : 4 < 191) hn) (mk_4 cA α) rfl) rfl hl.1 rfl (Nat.le_of_ble_eq_true rfl) dX10_toleranceNeeded_19 ⟨Nat.zero_le _, Nat.zero_le _⟩ (fun H locs hw => ?_)
  exact ret_l hx hb hr hlocks hK hw dX10_toleranceNeeded_22 (by subst_vars; rfl) (by subst_vars; rfl)

set_option maxRecDepth 100000 in
set_option maxHeartbeats 1000000 in
theorem ct_X10_balance (l : Launch) (D : va_G) (cA : Nat → ClassId) (α : Nat → Nat) (n sz : Nat) (hn : 191 ≤ n) (S : Mem) (Cn : Nat) (hC : S.1 23 1 = nI Cn) (hC2 : Cn ≤ 6) (a b : Nat) (ha : a < Cn) (hb0 : b < Cn) (N : Nat) (hN : S.1 74 0 = nI N) (hN2 : N ≤ 100) (ho : ∀ j, j < N → okC S j) : CtL l yX10_balance wsX10_balance ({ frames := 7, cells := 0, slots := 0, locals := 121 }) D cA α n sz [.ref (α 0), .int (nI a), .int (nI b)] S (sumL (fBal S (nI a) (nI b)) N) S := by
  refine ct_enter cX10_balance 3 (some .long) (by decide) rfl (Nat.le_of_ble_eq_true rfl) ?_
  intro p e s m below meth c hx hb hr hml hlocks hown hts hK hsz hw ls hl
  have hown : s.vm.findClass RX10 = some m.cls := hown
  have hAw : ∀ z, Aw α n s.heap.size z → Aw α n sz z := by rw [hsz]; exact fun _ h => h
  have hl : lv_has ls 3 [(0, .ref (α 0)), (1, .int (nI a)), (2, .int (nI b))] := hl
  refine lv_aload_n hx hb dX10_balance_0 rfl (lv_at hl 0 rfl) ?_
  refine lv_iload_n hx hb dX10_balance_1 rfl (lv_at hl 1 rfl) ?_
  refine x_callVVr (q := 0) (C := RX10) (As := [.int (nI a)]) (rest := []) ⟨hx, hb, hml, hown, hts⟩ (ct_X10_requireCompany l D cA α n _ hn S Cn hC hC2 a ha) (cwV 1 hts gX10_balance_X10_requireCompany rfl rfl rfl (by decide +kernel) ⟨Nat.le_of_ble_eq_true rfl, Nat.le_of_ble_eq_true rfl⟩) hK hw hAw (ws_recv hK hw (q := 0) (Nat.lt_of_lt_of_le (Nat.le_of_ble_eq_true rfl : 0 < 191) hn) (mk_0 cA α) rfl) rfl hl.1 rfl (Nat.le_of_ble_eq_true rfl) dX10_balance_2 ⟨Nat.zero_le _, Nat.zero_le _⟩ (fun H locs hw => ?_)
  refine lv_aload_n hx hb dX10_balance_5 rfl (lv_at hl 0 rfl) ?_
  refine lv_iload_n hx hb dX10_balance_6 rfl (lv_at hl 2 rfl) ?_
  refine x_callVVr (q := 0) (C := RX10) (As := [.int (nI b)]) (rest := []) ⟨hx, hb, hml, hown, hts⟩ (ct_X10_requireCompany l D cA α n _ hn S Cn hC hC2 b hb0) (cwV 1 hts gX10_balance_X10_requireCompany rfl rfl rfl (by decide +kernel) ⟨Nat.le_of_ble_eq_true rfl, Nat.le_of_ble_eq_true rfl⟩) hK hw hAw (ws_recv hK hw (q := 0) (Nat.lt_of_lt_of_le (Nat.le_of_ble_eq_true rfl : 0 < 191) hn) (mk_0 cA α) rfl) rfl hl.1 rfl (Nat.le_of_ble_eq_true rfl) dX10_balance_7 ⟨Nat.zero_le _, Nat.zero_le _⟩ (fun H locs hw => ?_)
  refine lv_aload_n hx hb dX10_balance_10 rfl (lv_at hl 0 rfl) ?_
  refine x_get (v := .ref (α 3)) (C := RX10) (T := TX10) (N := 7) hx hb hts (fun _ h => List.mem_cons_of_mem _ (List.mem_append_left _ (List.mem_append_left _ (List.mem_append_left _ (List.mem_append_left _ (List.mem_append_left _ (List.mem_append_right _ h))))))) hown hK hw 0 (Nat.lt_of_lt_of_le (Nat.le_of_ble_eq_true rfl : 0 < 191) hn) (mk_0 cA α) rfl 1 (by decide) (hts _ (List.mem_of_getElem? (i := 1) rfl)) (fun _ h9 => h9) rfl dX10_balance_11 ?_
  refine lv_iload_n hx hb dX10_balance_14 rfl (lv_at hl 1 rfl) ?_
  refine lv_iload_n hx hb dX10_balance_15 rfl (lv_at hl 2 rfl) ?_
  refine x_callVLr (q := 3) (C := RX0) (As := [.int (nI a), .int (nI b)]) (rest := []) ⟨hx, hb, hml, hown, hts⟩ (ct_X0_balanceBetween l D cA α n _ hn S (nI a) (nI b) N hN hN2 ho) (cwV 2 hts gX10_balance_X0_balanceBetween rfl rfl rfl (by decide +kernel) ⟨Nat.le_of_ble_eq_true rfl, Nat.le_of_ble_eq_true rfl⟩) hK hw hAw (ws_recv hK hw (q := 3) (Nat.lt_of_lt_of_le (Nat.le_of_ble_eq_true rfl : 3 < 191) hn) (mk_3 cA α) rfl) rfl hl.1 rfl (Nat.le_of_ble_eq_true rfl) dX10_balance_16 ⟨Nat.zero_le _, Nat.zero_le _⟩ (fun H locs hw => ?_)
  exact ret_l hx hb hr hlocks hK hw dX10_balance_19 rfl rfl

set_option maxRecDepth 100000 in
set_option maxHeartbeats 1000000 in
theorem ct_X10_balanceX (l : Launch) (hst : l.stackTraces = false) (sa : Nat → Nat) (D : va_G) (cA : Nat → ClassId) (α : Nat → Nat) (n sz : Nat) (hn : 191 ≤ n) (S : Mem) (Cn : Nat) (hC : S.1 23 1 = nI Cn) (hC2 : Cn ≤ 6) (x y : Int32) (hx9 : ¬ ∃ i, i < Cn ∧ x = nI i) : CtX sa l yX10_balance wsX10_balance ({ frames := 7, cells := 1, slots := 6, locals := 121 }) D cA α n sz [.ref (α 0), .int x, .int y] S eIO := by
  refine ctx_enter cX10_balance 3 (some .long) (by decide) rfl (Nat.le_of_ble_eq_true rfl) ?_
  intro p e s m below meth c hx hb hr hml hlocks hown hts hK hsz hw hZ hSx hout ls hl
  have hown : s.vm.findClass RX10 = some m.cls := hown
  have hAw : ∀ z, Aw α n s.heap.size z → Aw α n sz z := by rw [hsz]; exact fun _ h => h
  have hl : lv_has ls 3 [(0, .ref (α 0)), (1, .int x), (2, .int y)] := hl
  refine lv_aload_n hx hb dX10_balance_0 rfl (lv_at hl 0 rfl) ?_
  refine lv_iload_n hx hb dX10_balance_1 rfl (lv_at hl 1 rfl) ?_
  exact x_callXV (q := 0) (C := RX10) (As := [.int x]) (rest := []) ⟨hx, hb, hml, hown, hts⟩ (ct_X10_requireCompanyX l hst sa D cA α n _ hn S Cn hC hC2 x hx9) (cwV 1 hts gX10_balance_X10_requireCompany rfl rfl rfl (by decide +kernel) ⟨Nat.le_of_ble_eq_true rfl, Nat.le_of_ble_eq_true rfl⟩) hK hw hsz hZ hSx (ws_recv hK hw (q := 0) (Nat.lt_of_lt_of_le (Nat.le_of_ble_eq_true rfl : 0 < 191) hn) (mk_0 cA α) rfl) rfl hl.1 rfl (Nat.le_of_ble_eq_true rfl) dX10_balance_2 ⟨Nat.le_of_ble_eq_true rfl, Nat.le_of_ble_eq_true rfl⟩ hout hlocks rfl

set_option maxRecDepth 100000 in
set_option maxHeartbeats 1000000 in
theorem ct_X10_balanceX2 (l : Launch) (hst : l.stackTraces = false) (sa : Nat → Nat) (D : va_G) (cA : Nat → ClassId) (α : Nat → Nat) (n sz : Nat) (hn : 191 ≤ n) (S : Mem) (Cn : Nat) (hC : S.1 23 1 = nI Cn) (hC2 : Cn ≤ 6) (a : Nat) (ha : a < Cn) (y : Int32) (hx9 : ¬ ∃ i, i < Cn ∧ y = nI i) : CtX sa l yX10_balance wsX10_balance ({ frames := 7, cells := 1, slots := 6, locals := 121 }) D cA α n sz [.ref (α 0), .int (nI a), .int y] S eIO := by
  refine ctx_enter cX10_balance 3 (some .long) (by decide) rfl (Nat.le_of_ble_eq_true rfl) ?_
  intro p e s m below meth c hx hb hr hml hlocks hown hts hK hsz hw hZ hSx hout ls hl
  have hown : s.vm.findClass RX10 = some m.cls := hown
  have hAw : ∀ z, Aw α n s.heap.size z → Aw α n sz z := by rw [hsz]; exact fun _ h => h
  have hl : lv_has ls 3 [(0, .ref (α 0)), (1, .int (nI a)), (2, .int y)] := hl
  refine lv_aload_n hx hb dX10_balance_0 rfl (lv_at hl 0 rfl) ?_
  refine lv_iload_n hx hb dX10_balance_1 rfl (lv_at hl 1 rfl) ?_
  refine x_callVVr (q := 0) (C := RX10) (As := [.int (nI a)]) (rest := []) ⟨hx, hb, hml, hown, hts⟩ (ct_X10_requireCompany l D cA α n _ hn S Cn hC hC2 a ha) (cwV 1 hts gX10_balance_X10_requireCompany rfl rfl rfl (by decide +kernel) ⟨Nat.le_of_ble_eq_true rfl, Nat.le_of_ble_eq_true rfl⟩) hK hw hAw (ws_recv hK hw (q := 0) (Nat.lt_of_lt_of_le (Nat.le_of_ble_eq_true rfl : 0 < 191) hn) (mk_0 cA α) rfl) rfl hl.1 rfl (Nat.le_of_ble_eq_true rfl) dX10_balance_2 ⟨Nat.zero_le _, Nat.zero_le _⟩ (fun H locs hw => ?_)
  refine lv_aload_n hx hb dX10_balance_5 rfl (lv_at hl 0 rfl) ?_
  refine lv_iload_n hx hb dX10_balance_6 rfl (lv_at hl 2 rfl) ?_
  exact x_callXV (q := 0) (C := RX10) (As := [.int y]) (rest := []) ⟨hx, hb, hml, hown, hts⟩ (ct_X10_requireCompanyX l hst sa D cA α n _ hn S Cn hC hC2 y hx9) (cwV 1 hts gX10_balance_X10_requireCompany rfl rfl rfl (by decide +kernel) ⟨Nat.le_of_ble_eq_true rfl, Nat.le_of_ble_eq_true rfl⟩) hK hw hsz hZ hSx (ws_recv hK hw (q := 0) (Nat.lt_of_lt_of_le (Nat.le_of_ble_eq_true rfl : 0 < 191) hn) (mk_0 cA α) rfl) rfl hl.1 rfl (Nat.le_of_ble_eq_true rfl) dX10_balance_7 ⟨Nat.le_of_ble_eq_true rfl, Nat.le_of_ble_eq_true rfl⟩ hout hlocks rfl

set_option maxRecDepth 100000 in
set_option maxHeartbeats 1000000 in
theorem ct_X10_total0 (l : Launch) (D : va_G) (cA : Nat → ClassId) (α : Nat → Nat) (n sz : Nat) (hn : 191 ≤ n) (S : Mem) (N : Nat) (hN : S.1 74 0 = nI N) (hN2 : N ≤ 100) (ho : ∀ j, j < N → okC S j) : CtL l yX10_total wsX10_total ({ frames := 6, cells := 0, slots := 0, locals := 100 }) D cA α n sz [.ref (α 0), .int (nI 0)] S (sumL (fNet S (nI 0) (nI 2)) N) S := by
  refine ct_enter cX10_total 2 (some .long) (by decide) rfl (Nat.le_of_ble_eq_true rfl) ?_
  intro p e s m below meth c hx hb hr hml hlocks hown hts hK hsz hw ls hl
  have hown : s.vm.findClass RX10 = some m.cls := hown
  have hAw : ∀ z, Aw α n s.heap.size z → Aw α n sz z := by rw [hsz]; exact fun _ h => h
  have hl : lv_has ls 2 [(0, .ref (α 0)), (1, .int (nI 0))] := hl
  refine lv_iload_n hx hb dX10_total_0 rfl (lv_at hl 1 rfl) ?_
  refine lv_tableIn (tgt := 48) (off := 47) hx hb dX10_total_1 (by decide) (by decide) (by decide) (by decide) ?_
  refine lv_aload_n hx hb dX10_total_48 rfl (lv_at hl 0 rfl) ?_
  refine x_get (v := .ref (α 3)) (C := RX10) (T := TX10) (N := 7) hx hb hts (fun _ h => List.mem_cons_of_mem _ (List.mem_append_left _ (List.mem_append_left _ (List.mem_append_left _ (List.mem_append_left _ (List.mem_append_left _ (List.mem_append_right _ h))))))) hown hK hw 0 (Nat.lt_of_lt_of_le (Nat.le_of_ble_eq_true rfl : 0 < 191) hn) (mk_0 cA α) rfl 1 (by decide) (hts _ (List.mem_of_getElem? (i := 3) rfl)) (fun _ h9 => h9) rfl dX10_total_49 ?_
  refine lv_iconst (v := nI 0) hx hb dX10_total_52 (by decide) ?_
  refine lv_iconst (v := nI 2) hx hb dX10_total_53 (by decide) ?_
  refine x_callVLr (q := 3) (C := RX0) (As := [.int (nI 0), .int (nI 2)]) (rest := []) ⟨hx, hb, hml, hown, hts⟩ (ct_X0_netOfStates l D cA α n _ hn S (nI 0) (nI 2) N hN hN2 ho) (cwV 2 hts gX10_total_X0_netOfStates rfl rfl rfl (by decide +kernel) ⟨Nat.le_of_ble_eq_true rfl, Nat.le_of_ble_eq_true rfl⟩) hK hw hAw (ws_recv hK hw (q := 3) (Nat.lt_of_lt_of_le (Nat.le_of_ble_eq_true rfl : 3 < 191) hn) (mk_3 cA α) rfl) rfl hl.1 rfl (Nat.le_of_ble_eq_true rfl) dX10_total_54 ⟨Nat.zero_le _, Nat.zero_le _⟩ (fun H locs hw => ?_)
  exact ret_l hx hb hr hlocks hK hw dX10_total_57 rfl rfl

set_option maxRecDepth 100000 in
set_option maxHeartbeats 1000000 in
theorem ct_X10_total1 (l : Launch) (D : va_G) (cA : Nat → ClassId) (α : Nat → Nat) (n sz : Nat) (hn : 191 ≤ n) (S : Mem) (N : Nat) (hN : S.1 74 0 = nI N) (hN2 : N ≤ 100) (ho : ∀ j, j < N → okC S j) : CtL l yX10_total wsX10_total ({ frames := 6, cells := 0, slots := 0, locals := 100 }) D cA α n sz [.ref (α 0), .int (nI 1)] S (sumL (fNet S (nI 0) (nI 0)) N) S := by
  refine ct_enter cX10_total 2 (some .long) (by decide) rfl (Nat.le_of_ble_eq_true rfl) ?_
  intro p e s m below meth c hx hb hr hml hlocks hown hts hK hsz hw ls hl
  have hown : s.vm.findClass RX10 = some m.cls := hown
  have hAw : ∀ z, Aw α n s.heap.size z → Aw α n sz z := by rw [hsz]; exact fun _ h => h
  have hl : lv_has ls 2 [(0, .ref (α 0)), (1, .int (nI 1))] := hl
  refine lv_iload_n hx hb dX10_total_0 rfl (lv_at hl 1 rfl) ?_
  refine lv_tableIn (tgt := 58) (off := 57) hx hb dX10_total_1 (by decide) (by decide) (by decide) (by decide) ?_
  refine lv_aload_n hx hb dX10_total_58 rfl (lv_at hl 0 rfl) ?_
  refine x_get (v := .ref (α 3)) (C := RX10) (T := TX10) (N := 7) hx hb hts (fun _ h => List.mem_cons_of_mem _ (List.mem_append_left _ (List.mem_append_left _ (List.mem_append_left _ (List.mem_append_left _ (List.mem_append_left _ (List.mem_append_right _ h))))))) hown hK hw 0 (Nat.lt_of_lt_of_le (Nat.le_of_ble_eq_true rfl : 0 < 191) hn) (mk_0 cA α) rfl 1 (by decide) (hts _ (List.mem_of_getElem? (i := 3) rfl)) (fun _ h9 => h9) rfl dX10_total_59 ?_
  refine lv_iconst (v := nI 0) hx hb dX10_total_62 (by decide) ?_
  refine lv_iconst (v := nI 0) hx hb dX10_total_63 (by decide) ?_
  refine x_callVLr (q := 3) (C := RX0) (As := [.int (nI 0), .int (nI 0)]) (rest := []) ⟨hx, hb, hml, hown, hts⟩ (ct_X0_netOfStates l D cA α n _ hn S (nI 0) (nI 0) N hN hN2 ho) (cwV 2 hts gX10_total_X0_netOfStates rfl rfl rfl (by decide +kernel) ⟨Nat.le_of_ble_eq_true rfl, Nat.le_of_ble_eq_true rfl⟩) hK hw hAw (ws_recv hK hw (q := 3) (Nat.lt_of_lt_of_le (Nat.le_of_ble_eq_true rfl : 3 < 191) hn) (mk_3 cA α) rfl) rfl hl.1 rfl (Nat.le_of_ble_eq_true rfl) dX10_total_64 ⟨Nat.zero_le _, Nat.zero_le _⟩ (fun H locs hw => ?_)
  exact ret_l hx hb hr hlocks hK hw dX10_total_67 rfl rfl

set_option maxRecDepth 100000 in
set_option maxHeartbeats 1000000 in
theorem ct_X10_total2 (l : Launch) (D : va_G) (cA : Nat → ClassId) (α : Nat → Nat) (n sz : Nat) (hn : 191 ≤ n) (S : Mem) (N : Nat) (hN : S.1 74 0 = nI N) (hN2 : N ≤ 100) (ho : ∀ j, j < N → okC S j) : CtL l yX10_total wsX10_total ({ frames := 6, cells := 0, slots := 0, locals := 100 }) D cA α n sz [.ref (α 0), .int (nI 2)] S (sumL (fNet S (nI 1) (nI 1)) N) S := by
  refine ct_enter cX10_total 2 (some .long) (by decide) rfl (Nat.le_of_ble_eq_true rfl) ?_
  intro p e s m below meth c hx hb hr hml hlocks hown hts hK hsz hw ls hl
  have hown : s.vm.findClass RX10 = some m.cls := hown
  have hAw : ∀ z, Aw α n s.heap.size z → Aw α n sz z := by rw [hsz]; exact fun _ h => h
  have hl : lv_has ls 2 [(0, .ref (α 0)), (1, .int (nI 2))] := hl
  refine lv_iload_n hx hb dX10_total_0 rfl (lv_at hl 1 rfl) ?_
  refine lv_tableIn (tgt := 68) (off := 67) hx hb dX10_total_1 (by decide) (by decide) (by decide) (by decide) ?_
  refine lv_aload_n hx hb dX10_total_68 rfl (lv_at hl 0 rfl) ?_
  refine x_get (v := .ref (α 3)) (C := RX10) (T := TX10) (N := 7) hx hb hts (fun _ h => List.mem_cons_of_mem _ (List.mem_append_left _ (List.mem_append_left _ (List.mem_append_left _ (List.mem_append_left _ (List.mem_append_left _ (List.mem_append_right _ h))))))) hown hK hw 0 (Nat.lt_of_lt_of_le (Nat.le_of_ble_eq_true rfl : 0 < 191) hn) (mk_0 cA α) rfl 1 (by decide) (hts _ (List.mem_of_getElem? (i := 3) rfl)) (fun _ h9 => h9) rfl dX10_total_69 ?_
  refine lv_iconst (v := nI 1) hx hb dX10_total_72 (by decide) ?_
  refine lv_iconst (v := nI 1) hx hb dX10_total_73 (by decide) ?_
  refine x_callVLr (q := 3) (C := RX0) (As := [.int (nI 1), .int (nI 1)]) (rest := []) ⟨hx, hb, hml, hown, hts⟩ (ct_X0_netOfStates l D cA α n _ hn S (nI 1) (nI 1) N hN hN2 ho) (cwV 2 hts gX10_total_X0_netOfStates rfl rfl rfl (by decide +kernel) ⟨Nat.le_of_ble_eq_true rfl, Nat.le_of_ble_eq_true rfl⟩) hK hw hAw (ws_recv hK hw (q := 3) (Nat.lt_of_lt_of_le (Nat.le_of_ble_eq_true rfl : 3 < 191) hn) (mk_3 cA α) rfl) rfl hl.1 rfl (Nat.le_of_ble_eq_true rfl) dX10_total_74 ⟨Nat.zero_le _, Nat.zero_le _⟩ (fun H locs hw => ?_)
  exact ret_l hx hb hr hlocks hK hw dX10_total_77 rfl rfl

set_option maxRecDepth 100000 in
set_option maxHeartbeats 1000000 in
theorem ct_X10_total3 (l : Launch) (D : va_G) (cA : Nat → ClassId) (α : Nat → Nat) (n sz : Nat) (hn : 191 ≤ n) (S : Mem) (N : Nat) (hN : S.1 74 0 = nI N) (hN2 : N ≤ 100) (ho : ∀ j, j < N → okC S j) : CtL l yX10_total wsX10_total ({ frames := 6, cells := 0, slots := 0, locals := 100 }) D cA α n sz [.ref (α 0), .int (nI 3)] S (sumL (fNet S (nI 2) (nI 2)) N) S := by
  refine ct_enter cX10_total 2 (some .long) (by decide) rfl (Nat.le_of_ble_eq_true rfl) ?_
  intro p e s m below meth c hx hb hr hml hlocks hown hts hK hsz hw ls hl
  have hown : s.vm.findClass RX10 = some m.cls := hown
  have hAw : ∀ z, Aw α n s.heap.size z → Aw α n sz z := by rw [hsz]; exact fun _ h => h
  have hl : lv_has ls 2 [(0, .ref (α 0)), (1, .int (nI 3))] := hl
  refine lv_iload_n hx hb dX10_total_0 rfl (lv_at hl 1 rfl) ?_
  refine lv_tableIn (tgt := 78) (off := 77) hx hb dX10_total_1 (by decide) (by decide) (by decide) (by decide) ?_
  refine lv_aload_n hx hb dX10_total_78 rfl (lv_at hl 0 rfl) ?_
  refine x_get (v := .ref (α 3)) (C := RX10) (T := TX10) (N := 7) hx hb hts (fun _ h => List.mem_cons_of_mem _ (List.mem_append_left _ (List.mem_append_left _ (List.mem_append_left _ (List.mem_append_left _ (List.mem_append_left _ (List.mem_append_right _ h))))))) hown hK hw 0 (Nat.lt_of_lt_of_le (Nat.le_of_ble_eq_true rfl : 0 < 191) hn) (mk_0 cA α) rfl 1 (by decide) (hts _ (List.mem_of_getElem? (i := 3) rfl)) (fun _ h9 => h9) rfl dX10_total_79 ?_
  refine lv_iconst (v := nI 2) hx hb dX10_total_82 (by decide) ?_
  refine lv_iconst (v := nI 2) hx hb dX10_total_83 (by decide) ?_
  refine x_callVLr (q := 3) (C := RX0) (As := [.int (nI 2), .int (nI 2)]) (rest := []) ⟨hx, hb, hml, hown, hts⟩ (ct_X0_netOfStates l D cA α n _ hn S (nI 2) (nI 2) N hN hN2 ho) (cwV 2 hts gX10_total_X0_netOfStates rfl rfl rfl (by decide +kernel) ⟨Nat.le_of_ble_eq_true rfl, Nat.le_of_ble_eq_true rfl⟩) hK hw hAw (ws_recv hK hw (q := 3) (Nat.lt_of_lt_of_le (Nat.le_of_ble_eq_true rfl : 3 < 191) hn) (mk_3 cA α) rfl) rfl hl.1 rfl (Nat.le_of_ble_eq_true rfl) dX10_total_84 ⟨Nat.zero_le _, Nat.zero_le _⟩ (fun H locs hw => ?_)
  exact ret_l hx hb hr hlocks hK hw dX10_total_87 rfl rfl

set_option maxRecDepth 100000 in
set_option maxHeartbeats 1000000 in
theorem ct_X10_total4 (l : Launch) (D : va_G) (cA : Nat → ClassId) (α : Nat → Nat) (n sz : Nat) (hn : 191 ≤ n) (S : Mem)  : CtL l yX10_total wsX10_total ({ frames := 6, cells := 0, slots := 0, locals := 100 }) D cA α n sz [.ref (α 0), .int (nI 4)] S (S.2 74 3) S := by
  refine ct_enter cX10_total 2 (some .long) (by decide) rfl (Nat.le_of_ble_eq_true rfl) ?_
  intro p e s m below meth c hx hb hr hml hlocks hown hts hK hsz hw ls hl
  have hown : s.vm.findClass RX10 = some m.cls := hown
  have hAw : ∀ z, Aw α n s.heap.size z → Aw α n sz z := by rw [hsz]; exact fun _ h => h
  have hl : lv_has ls 2 [(0, .ref (α 0)), (1, .int (nI 4))] := hl
  refine lv_iload_n hx hb dX10_total_0 rfl (lv_at hl 1 rfl) ?_
  refine lv_tableIn (tgt := 88) (off := 87) hx hb dX10_total_1 (by decide) (by decide) (by decide) (by decide) ?_
  refine lv_aload_n hx hb dX10_total_88 rfl (lv_at hl 0 rfl) ?_
  refine x_get (v := .ref (α 3)) (C := RX10) (T := TX10) (N := 7) hx hb hts (fun _ h => List.mem_cons_of_mem _ (List.mem_append_left _ (List.mem_append_left _ (List.mem_append_left _ (List.mem_append_left _ (List.mem_append_left _ (List.mem_append_right _ h))))))) hown hK hw 0 (Nat.lt_of_lt_of_le (Nat.le_of_ble_eq_true rfl : 0 < 191) hn) (mk_0 cA α) rfl 1 (by decide) (hts _ (List.mem_of_getElem? (i := 3) rfl)) (fun _ h9 => h9) rfl dX10_total_89 ?_
  refine x_get (v := .ref (α 74)) (C := RX0) (T := TX0) (N := 3) hx hb hts (fun _ h => List.mem_cons_of_mem _ (List.mem_append_left _ (List.mem_append_left _ (List.mem_append_left _ (List.mem_append_left _ (List.mem_append_right _ h)))))) hown hK hw 3 (Nat.lt_of_lt_of_le (Nat.le_of_ble_eq_true rfl : 3 < 191) hn) (mk_3 cA α) rfl 2 (by decide) (hts _ (List.mem_of_getElem? (i := 4) rfl)) (fun _ h9 => h9) rfl dX10_total_92 ?_
  refine x_get (v := .long (S.2 74 3)) (C := RX9) (T := TX9) (N := 14) hx hb hts (fun _ h => List.mem_cons_of_mem _ (List.mem_append_left _ (List.mem_append_left _ (List.mem_append_left _ (List.mem_append_right _ h))))) hown hK hw 74 (Nat.lt_of_lt_of_le (Nat.le_of_ble_eq_true rfl : 74 < 191) hn) (mk_74 cA α) rfl 3 (by decide) (hts _ (List.mem_of_getElem? (i := 5) rfl)) (fun _ h9 => h9) rfl dX10_total_95 ?_
  exact ret_l hx hb hr hlocks hK hw dX10_total_98 rfl rfl

set_option maxRecDepth 100000 in
set_option maxHeartbeats 1000000 in
theorem ct_X10_total5 (l : Launch) (D : va_G) (cA : Nat → ClassId) (α : Nat → Nat) (n sz : Nat) (hn : 191 ≤ n) (S : Mem)  : CtL l yX10_total wsX10_total ({ frames := 6, cells := 0, slots := 0, locals := 100 }) D cA α n sz [.ref (α 0), .int (nI 5)] S (S.2 74 4) S := by
  refine ct_enter cX10_total 2 (some .long) (by decide) rfl (Nat.le_of_ble_eq_true rfl) ?_
  intro p e s m below meth c hx hb hr hml hlocks hown hts hK hsz hw ls hl
  have hown : s.vm.findClass RX10 = some m.cls := hown
  have hAw : ∀ z, Aw α n s.heap.size z → Aw α n sz z := by rw [hsz]; exact fun _ h => h
  have hl : lv_has ls 2 [(0, .ref (α 0)), (1, .int (nI 5))] := hl
  refine lv_iload_n hx hb dX10_total_0 rfl (lv_at hl 1 rfl) ?_
  refine lv_tableIn (tgt := 99) (off := 98) hx hb dX10_total_1 (by decide) (by decide) (by decide) (by decide) ?_
  refine lv_aload_n hx hb dX10_total_99 rfl (lv_at hl 0 rfl) ?_
  refine x_get (v := .ref (α 3)) (C := RX10) (T := TX10) (N := 7) hx hb hts (fun _ h => List.mem_cons_of_mem _ (List.mem_append_left _ (List.mem_append_left _ (List.mem_append_left _ (List.mem_append_left _ (List.mem_append_left _ (List.mem_append_right _ h))))))) hown hK hw 0 (Nat.lt_of_lt_of_le (Nat.le_of_ble_eq_true rfl : 0 < 191) hn) (mk_0 cA α) rfl 1 (by decide) (hts _ (List.mem_of_getElem? (i := 3) rfl)) (fun _ h9 => h9) rfl dX10_total_100 ?_
  refine x_get (v := .ref (α 74)) (C := RX0) (T := TX0) (N := 3) hx hb hts (fun _ h => List.mem_cons_of_mem _ (List.mem_append_left _ (List.mem_append_left _ (List.mem_append_left _ (List.mem_append_left _ (List.mem_append_right _ h)))))) hown hK hw 3 (Nat.lt_of_lt_of_le (Nat.le_of_ble_eq_true rfl : 3 < 191) hn) (mk_3 cA α) rfl 2 (by decide) (hts _ (List.mem_of_getElem? (i := 4) rfl)) (fun _ h9 => h9) rfl dX10_total_103 ?_
  refine x_get (v := .long (S.2 74 4)) (C := RX9) (T := TX9) (N := 14) hx hb hts (fun _ h => List.mem_cons_of_mem _ (List.mem_append_left _ (List.mem_append_left _ (List.mem_append_left _ (List.mem_append_right _ h))))) hown hK hw 74 (Nat.lt_of_lt_of_le (Nat.le_of_ble_eq_true rfl : 74 < 191) hn) (mk_74 cA α) rfl 4 (by decide) (hts _ (List.mem_of_getElem? (i := 6) rfl)) (fun _ h9 => h9) rfl dX10_total_106 ?_
  exact ret_l hx hb hr hlocks hK hw dX10_total_109 rfl rfl

set_option maxRecDepth 100000 in
set_option maxHeartbeats 1000000 in
theorem ct_X10_total6 (l : Launch) (D : va_G) (cA : Nat → ClassId) (α : Nat → Nat) (n sz : Nat) (hn : 191 ≤ n) (S : Mem)  : CtL l yX10_total wsX10_total ({ frames := 6, cells := 0, slots := 0, locals := 100 }) D cA α n sz [.ref (α 0), .int (nI 6)] S (S.2 74 5) S := by
  refine ct_enter cX10_total 2 (some .long) (by decide) rfl (Nat.le_of_ble_eq_true rfl) ?_
  intro p e s m below meth c hx hb hr hml hlocks hown hts hK hsz hw ls hl
  have hown : s.vm.findClass RX10 = some m.cls := hown
  have hAw : ∀ z, Aw α n s.heap.size z → Aw α n sz z := by rw [hsz]; exact fun _ h => h
  have hl : lv_has ls 2 [(0, .ref (α 0)), (1, .int (nI 6))] := hl
  refine lv_iload_n hx hb dX10_total_0 rfl (lv_at hl 1 rfl) ?_
  refine lv_tableIn (tgt := 110) (off := 109) hx hb dX10_total_1 (by decide) (by decide) (by decide) (by decide) ?_
  refine lv_aload_n hx hb dX10_total_110 rfl (lv_at hl 0 rfl) ?_
  refine x_get (v := .ref (α 3)) (C := RX10) (T := TX10) (N := 7) hx hb hts (fun _ h => List.mem_cons_of_mem _ (List.mem_append_left _ (List.mem_append_left _ (List.mem_append_left _ (List.mem_append_left _ (List.mem_append_left _ (List.mem_append_right _ h))))))) hown hK hw 0 (Nat.lt_of_lt_of_le (Nat.le_of_ble_eq_true rfl : 0 < 191) hn) (mk_0 cA α) rfl 1 (by decide) (hts _ (List.mem_of_getElem? (i := 3) rfl)) (fun _ h9 => h9) rfl dX10_total_111 ?_
  refine x_get (v := .ref (α 74)) (C := RX0) (T := TX0) (N := 3) hx hb hts (fun _ h => List.mem_cons_of_mem _ (List.mem_append_left _ (List.mem_append_left _ (List.mem_append_left _ (List.mem_append_left _ (List.mem_append_right _ h)))))) hown hK hw 3 (Nat.lt_of_lt_of_le (Nat.le_of_ble_eq_true rfl : 3 < 191) hn) (mk_3 cA α) rfl 2 (by decide) (hts _ (List.mem_of_getElem? (i := 4) rfl)) (fun _ h9 => h9) rfl dX10_total_114 ?_
  refine x_get (v := .long (S.2 74 5)) (C := RX9) (T := TX9) (N := 14) hx hb hts (fun _ h => List.mem_cons_of_mem _ (List.mem_append_left _ (List.mem_append_left _ (List.mem_append_left _ (List.mem_append_right _ h))))) hown hK hw 74 (Nat.lt_of_lt_of_le (Nat.le_of_ble_eq_true rfl : 74 < 191) hn) (mk_74 cA α) rfl 5 (by decide) (hts _ (List.mem_of_getElem? (i := 7) rfl)) (fun _ h9 => h9) rfl dX10_total_117 ?_
  exact ret_l hx hb hr hlocks hK hw dX10_total_120 rfl rfl

set_option maxRecDepth 100000 in
set_option maxHeartbeats 1000000 in
theorem ct_X10_total7 (l : Launch) (D : va_G) (cA : Nat → ClassId) (α : Nat → Nat) (n sz : Nat) (hn : 191 ≤ n) (S : Mem) (M : Nat) (hM : S.1 74 1 = nI M) (hM2 : M ≤ 100) (hod : ∀ d, d < M → okI (S.1 49 d) 6) : CtL l yX10_total wsX10_total ({ frames := 6, cells := 0, slots := 0, locals := 100 }) D cA α n sz [.ref (α 0), .int (nI 7)] S (sumL (fAll S) M) S := by
  refine ct_enter cX10_total 2 (some .long) (by decide) rfl (Nat.le_of_ble_eq_true rfl) ?_
  intro p e s m below meth c hx hb hr hml hlocks hown hts hK hsz hw ls hl
  have hown : s.vm.findClass RX10 = some m.cls := hown
  have hAw : ∀ z, Aw α n s.heap.size z → Aw α n sz z := by rw [hsz]; exact fun _ h => h
  have hl : lv_has ls 2 [(0, .ref (α 0)), (1, .int (nI 7))] := hl
  refine lv_iload_n hx hb dX10_total_0 rfl (lv_at hl 1 rfl) ?_
  refine lv_tableIn (tgt := 121) (off := 120) hx hb dX10_total_1 (by decide) (by decide) (by decide) (by decide) ?_
  refine lv_aload_n hx hb dX10_total_121 rfl (lv_at hl 0 rfl) ?_
  refine x_get (v := .ref (α 10)) (C := RX10) (T := TX10) (N := 7) hx hb hts (fun _ h => List.mem_cons_of_mem _ (List.mem_append_left _ (List.mem_append_left _ (List.mem_append_left _ (List.mem_append_left _ (List.mem_append_left _ (List.mem_append_right _ h))))))) hown hK hw 0 (Nat.lt_of_lt_of_le (Nat.le_of_ble_eq_true rfl : 0 < 191) hn) (mk_0 cA α) rfl 4 (by decide) (hts _ (List.mem_of_getElem? (i := 8) rfl)) (fun _ h9 => h9) rfl dX10_total_122 ?_
  refine lv_aload_n hx hb dX10_total_125 rfl (lv_at hl 0 rfl) ?_
  refine x_get (v := .ref (α 3)) (C := RX10) (T := TX10) (N := 7) hx hb hts (fun _ h => List.mem_cons_of_mem _ (List.mem_append_left _ (List.mem_append_left _ (List.mem_append_left _ (List.mem_append_left _ (List.mem_append_left _ (List.mem_append_right _ h))))))) hown hK hw 0 (Nat.lt_of_lt_of_le (Nat.le_of_ble_eq_true rfl : 0 < 191) hn) (mk_0 cA α) rfl 1 (by decide) (hts _ (List.mem_of_getElem? (i := 3) rfl)) (fun _ h9 => h9) rfl dX10_total_126 ?_
  refine x_callVLr (q := 10) (C := RX1) (As := [.ref (α 3)]) (rest := []) ⟨hx, hb, hml, hown, hts⟩ (ct_X1_profitOfAll l D cA α n _ hn S M hM hM2 hod) (cwV 1 hts gX10_total_X1_profitOfAll rfl rfl rfl (by decide +kernel) ⟨Nat.le_of_ble_eq_true rfl, Nat.le_of_ble_eq_true rfl⟩) hK hw hAw (ws_recv hK hw (q := 10) (Nat.lt_of_lt_of_le (Nat.le_of_ble_eq_true rfl : 10 < 191) hn) (mk_10 cA α) rfl) rfl hl.1 rfl (Nat.le_of_ble_eq_true rfl) dX10_total_129 ⟨Nat.zero_le _, Nat.zero_le _⟩ (fun H locs hw => ?_)
  exact ret_l hx hb hr hlocks hK hw dX10_total_132 rfl rfl

set_option maxRecDepth 100000 in
set_option maxHeartbeats 1000000 in
theorem ct_X10_totalX (l : Launch) (hst : l.stackTraces = false) (sa : Nat → Nat) (D : va_G) (cA : Nat → ClassId) (α : Nat → Nat) (n sz : Nat) (hn : 191 ≤ n) (S : Mem) (x : Int32) (hx9 : x.toInt < 0 ∨ 7 < x.toInt) : CtX sa l yX10_total wsX10_total ({ frames := 6, cells := 1, slots := 6, locals := 100 }) D cA α n sz [.ref (α 0), .int x] S eIA := by
  refine ctx_enter cX10_total 2 (some .long) (by decide) rfl (Nat.le_of_ble_eq_true rfl) ?_
  intro p e s m below meth c hx hb hr hml hlocks hown hts hK hsz hw hZ hSx hout ls hl
  have hown : s.vm.findClass RX10 = some m.cls := hown
  have hAw : ∀ z, Aw α n s.heap.size z → Aw α n sz z := by rw [hsz]; exact fun _ h => h
  have hl : lv_has ls 2 [(0, .ref (α 0)), (1, .int x)] := hl
  refine lv_iload_n hx hb dX10_total_0 rfl (lv_at hl 1 rfl) ?_
  refine lv_tableOut (tgt := 133) hx hb dX10_total_1 hx9 (by decide) ?_
  exact x_throwS (names := eUp) (rest := []) hx hb hst hown fit_IA fit_Up (hts _ (List.mem_of_getElem? (i := 1) rfl)) (hts _ (List.mem_of_getElem? (i := 2) rfl)) (hSx.1 _ (List.mem_of_getElem? (i := 1) rfl)) (at_IA hSx (fun w h => hts w ((fun _ h => List.mem_cons_of_mem _ (List.mem_append_right _ h)) w h))) ga_IA hZ hK hw (hl.1.trans hml.symm) dX10_total_133 dX10_total_136 dX10_total_137 dX10_total_139 dX10_total_142 hout (Nat.le_of_ble_eq_true rfl) (Nat.le_of_ble_eq_true rfl) (Nat.le_of_ble_eq_true rfl) (Nat.le_of_ble_eq_true rfl) hlocks rfl

set_option maxRecDepth 100000 in
set_option maxHeartbeats 1000000 in
theorem ct_X10_directPayments (l : Launch) (D : va_G) (cA : Nat → ClassId) (α : Nat → Nat) (n sz : Nat) (hn : 191 ≤ n) (S : Mem) (N : Nat) (hN : S.1 74 0 = nI N) (hN2 : N ≤ 100) (ho : ∀ j, j < N → okC S j) (Cn : Nat) (hC : S.1 23 1 = nI Cn) (hC2 : Cn ≤ 6) : CtI l yX10_directPayments wsX10_directPayments ({ frames := 4, cells := 0, slots := 0, locals := 92 }) D cA α n sz [.ref (α 0)] S (nI (sumN (fun a => cnt (cUr S N a) Cn) Cn)) S := by
  refine ct_enter cX10_directPayments 1 (some .int) (by decide) rfl (Nat.le_of_ble_eq_true rfl) ?_
  intro p e s m below meth c hx hb hr hml hlocks hown hts hK hsz hw ls hl
  have hown : s.vm.findClass RX10 = some m.cls := hown
  have hAw : ∀ z, Aw α n s.heap.size z → Aw α n sz z := by rw [hsz]; exact fun _ h => h
  have hl : lv_has ls 1 [(0, .ref (α 0))] := hl
  refine lv_aload_n hx hb dX10_directPayments_0 rfl (lv_at hl 0 rfl) ?_
  refine x_get (v := .ref (α 6)) (C := RX10) (T := TX10) (N := 7) hx hb hts (fun _ h => List.mem_cons_of_mem _ (List.mem_append_left _ (List.mem_append_left _ (List.mem_append_left _ (List.mem_append_left _ (List.mem_append_right _ h)))))) hown hK hw 0 (Nat.lt_of_lt_of_le (Nat.le_of_ble_eq_true rfl : 0 < 191) hn) (mk_0 cA α) rfl 3 (by decide) (hts _ (List.mem_of_getElem? (i := 1) rfl)) (fun _ h9 => h9) rfl dX10_directPayments_1 ?_
  refine lv_aload_n hx hb dX10_directPayments_4 rfl (lv_at hl 0 rfl) ?_
  refine x_get (v := .ref (α 3)) (C := RX10) (T := TX10) (N := 7) hx hb hts (fun _ h => List.mem_cons_of_mem _ (List.mem_append_left _ (List.mem_append_left _ (List.mem_append_left _ (List.mem_append_left _ (List.mem_append_right _ h)))))) hown hK hw 0 (Nat.lt_of_lt_of_le (Nat.le_of_ble_eq_true rfl : 0 < 191) hn) (mk_0 cA α) rfl 1 (by decide) (hts _ (List.mem_of_getElem? (i := 2) rfl)) (fun _ h9 => h9) rfl dX10_directPayments_5 ?_
  refine x_callVIr (q := 6) (C := RX6) (As := [.ref (α 3)]) (rest := []) ⟨hx, hb, hml, hown, hts⟩ (ct_X6_unevenPairs l D cA α n _ hn S N hN hN2 ho Cn hC hC2) (cwV 1 hts gX10_directPayments_X6_unevenPairs rfl rfl rfl (by decide +kernel) ⟨Nat.le_of_ble_eq_true rfl, Nat.le_of_ble_eq_true rfl⟩) hK hw hAw (ws_recv hK hw (q := 6) (Nat.lt_of_lt_of_le (Nat.le_of_ble_eq_true rfl : 6 < 191) hn) (mk_6 cA α) rfl) rfl hl.1 rfl (Nat.le_of_ble_eq_true rfl) dX10_directPayments_8 ⟨Nat.zero_le _, Nat.zero_le _⟩ (fun H locs hw => ?_)
  exact ret_i hx hb hr hlocks hK hw dX10_directPayments_11 rfl rfl

set_option maxRecDepth 100000 in
set_option maxHeartbeats 1000000 in
theorem ct_X10_stock (l : Launch) (D : va_G) (cA : Nat → ClassId) (α : Nat → Nat) (n sz : Nat) (hn : 191 ≤ n) (S : Mem) (Cn : Nat) (hC : S.1 23 1 = nI Cn) (hC2 : Cn ≤ 6) (Pn : Nat) (hP9 : S.1 23 2 = nI Pn) (hP2 : Pn ≤ 6) (a b : Nat) (ha : a < Cn) (hb0 : b < Pn) (M : Nat) (hM : S.1 74 1 = nI M) (hM2 : M ≤ 100) : CtI l yX10_stock wsX10_stock ({ frames := 7, cells := 0, slots := 0, locals := 121 }) D cA α n sz [.ref (α 0), .int (nI a), .int (nI b)] S (sumI (cPcs S (nI a) (nI b)) M) S := by
  refine ct_enter cX10_stock 3 (some .int) (by decide) rfl (Nat.le_of_ble_eq_true rfl) ?_
  intro p e s m below meth c hx hb hr hml hlocks hown hts hK hsz hw ls hl
  have hown : s.vm.findClass RX10 = some m.cls := hown
  have hAw : ∀ z, Aw α n s.heap.size z → Aw α n sz z := by rw [hsz]; exact fun _ h => h
  have hl : lv_has ls 3 [(0, .ref (α 0)), (1, .int (nI a)), (2, .int (nI b))] := hl
  refine lv_aload_n hx hb dX10_stock_0 rfl (lv_at hl 0 rfl) ?_
  refine lv_iload_n hx hb dX10_stock_1 rfl (lv_at hl 1 rfl) ?_
  refine x_callVVr (q := 0) (C := RX10) (As := [.int (nI a)]) (rest := []) ⟨hx, hb, hml, hown, hts⟩ (ct_X10_requireCompany l D cA α n _ hn S Cn hC hC2 a ha) (cwV 1 hts gX10_stock_X10_requireCompany rfl rfl rfl (by decide +kernel) ⟨Nat.le_of_ble_eq_true rfl, Nat.le_of_ble_eq_true rfl⟩) hK hw hAw (ws_recv hK hw (q := 0) (Nat.lt_of_lt_of_le (Nat.le_of_ble_eq_true rfl : 0 < 191) hn) (mk_0 cA α) rfl) rfl hl.1 rfl (Nat.le_of_ble_eq_true rfl) dX10_stock_2 ⟨Nat.zero_le _, Nat.zero_le _⟩ (fun H locs hw => ?_)
  refine lv_aload_n hx hb dX10_stock_5 rfl (lv_at hl 0 rfl) ?_
  refine lv_iload_n hx hb dX10_stock_6 rfl (lv_at hl 2 rfl) ?_
  refine x_callVVr (q := 0) (C := RX10) (As := [.int (nI b)]) (rest := []) ⟨hx, hb, hml, hown, hts⟩ (ct_X10_requireProduct l D cA α n _ hn S Pn hP9 hP2 b hb0) (cwV 1 hts gX10_stock_X10_requireProduct rfl rfl rfl (by decide +kernel) ⟨Nat.le_of_ble_eq_true rfl, Nat.le_of_ble_eq_true rfl⟩) hK hw hAw (ws_recv hK hw (q := 0) (Nat.lt_of_lt_of_le (Nat.le_of_ble_eq_true rfl : 0 < 191) hn) (mk_0 cA α) rfl) rfl hl.1 rfl (Nat.le_of_ble_eq_true rfl) dX10_stock_7 ⟨Nat.zero_le _, Nat.zero_le _⟩ (fun H locs hw => ?_)
  refine lv_aload_n hx hb dX10_stock_10 rfl (lv_at hl 0 rfl) ?_
  refine x_get (v := .ref (α 10)) (C := RX10) (T := TX10) (N := 7) hx hb hts (fun _ h => List.mem_cons_of_mem _ (List.mem_append_left _ (List.mem_append_left _ (List.mem_append_left _ (List.mem_append_left _ (List.mem_append_left _ (List.mem_append_right _ h))))))) hown hK hw 0 (Nat.lt_of_lt_of_le (Nat.le_of_ble_eq_true rfl : 0 < 191) hn) (mk_0 cA α) rfl 4 (by decide) (hts _ (List.mem_of_getElem? (i := 1) rfl)) (fun _ h9 => h9) rfl dX10_stock_11 ?_
  refine lv_aload_n hx hb dX10_stock_14 rfl (lv_at hl 0 rfl) ?_
  refine x_get (v := .ref (α 3)) (C := RX10) (T := TX10) (N := 7) hx hb hts (fun _ h => List.mem_cons_of_mem _ (List.mem_append_left _ (List.mem_append_left _ (List.mem_append_left _ (List.mem_append_left _ (List.mem_append_left _ (List.mem_append_right _ h))))))) hown hK hw 0 (Nat.lt_of_lt_of_le (Nat.le_of_ble_eq_true rfl : 0 < 191) hn) (mk_0 cA α) rfl 1 (by decide) (hts _ (List.mem_of_getElem? (i := 2) rfl)) (fun _ h9 => h9) rfl dX10_stock_15 ?_
  refine lv_iload_n hx hb dX10_stock_18 rfl (lv_at hl 1 rfl) ?_
  refine lv_iload_n hx hb dX10_stock_19 rfl (lv_at hl 2 rfl) ?_
  refine x_callVIr (q := 10) (C := RX1) (As := [.ref (α 3), .int (nI a), .int (nI b)]) (rest := []) ⟨hx, hb, hml, hown, hts⟩ (ct_X1_piecesOf l D cA α n _ hn S (nI a) (nI b) M hM hM2) (cwV 3 hts gX10_stock_X1_piecesOf rfl rfl rfl (by decide +kernel) ⟨Nat.le_of_ble_eq_true rfl, Nat.le_of_ble_eq_true rfl⟩) hK hw hAw (ws_recv hK hw (q := 10) (Nat.lt_of_lt_of_le (Nat.le_of_ble_eq_true rfl : 10 < 191) hn) (mk_10 cA α) rfl) rfl hl.1 rfl (Nat.le_of_ble_eq_true rfl) dX10_stock_20 ⟨Nat.zero_le _, Nat.zero_le _⟩ (fun H locs hw => ?_)
  exact ret_i hx hb hr hlocks hK hw dX10_stock_23 rfl rfl

set_option maxRecDepth 100000 in
set_option maxHeartbeats 1000000 in
theorem ct_X10_stockX (l : Launch) (hst : l.stackTraces = false) (sa : Nat → Nat) (D : va_G) (cA : Nat → ClassId) (α : Nat → Nat) (n sz : Nat) (hn : 191 ≤ n) (S : Mem) (Cn : Nat) (hC : S.1 23 1 = nI Cn) (hC2 : Cn ≤ 6) (x y : Int32) (hx9 : ¬ ∃ i, i < Cn ∧ x = nI i) : CtX sa l yX10_stock wsX10_stock ({ frames := 7, cells := 1, slots := 6, locals := 121 }) D cA α n sz [.ref (α 0), .int x, .int y] S eIO := by
  refine ctx_enter cX10_stock 3 (some .int) (by decide) rfl (Nat.le_of_ble_eq_true rfl) ?_
  intro p e s m below meth c hx hb hr hml hlocks hown hts hK hsz hw hZ hSx hout ls hl
  have hown : s.vm.findClass RX10 = some m.cls := hown
  have hAw : ∀ z, Aw α n s.heap.size z → Aw α n sz z := by rw [hsz]; exact fun _ h => h
  have hl : lv_has ls 3 [(0, .ref (α 0)), (1, .int x), (2, .int y)] := hl
  refine lv_aload_n hx hb dX10_stock_0 rfl (lv_at hl 0 rfl) ?_
  refine lv_iload_n hx hb dX10_stock_1 rfl (lv_at hl 1 rfl) ?_
  exact x_callXV (q := 0) (C := RX10) (As := [.int x]) (rest := []) ⟨hx, hb, hml, hown, hts⟩ (ct_X10_requireCompanyX l hst sa D cA α n _ hn S Cn hC hC2 x hx9) (cwV 1 hts gX10_stock_X10_requireCompany rfl rfl rfl (by decide +kernel) ⟨Nat.le_of_ble_eq_true rfl, Nat.le_of_ble_eq_true rfl⟩) hK hw hsz hZ hSx (ws_recv hK hw (q := 0) (Nat.lt_of_lt_of_le (Nat.le_of_ble_eq_true rfl : 0 < 191) hn) (mk_0 cA α) rfl) rfl hl.1 rfl (Nat.le_of_ble_eq_true rfl) dX10_stock_2 ⟨Nat.le_of_ble_eq_true rfl, Nat.le_of_ble_eq_true rfl⟩ hout hlocks rfl

set_option maxRecDepth 100000 in
set_option maxHeartbeats 1000000 in
theorem ct_X10_stockX2 (l : Launch) (hst : l.stackTraces = false) (sa : Nat → Nat) (D : va_G) (cA : Nat → ClassId) (α : Nat → Nat) (n sz : Nat) (hn : 191 ≤ n) (S : Mem) (Cn : Nat) (hC : S.1 23 1 = nI Cn) (hC2 : Cn ≤ 6) (Pn : Nat) (hP9 : S.1 23 2 = nI Pn) (hP2 : Pn ≤ 6) (a : Nat) (ha : a < Cn) (y : Int32) (hx9 : ¬ ∃ i, i < Pn ∧ y = nI i) : CtX sa l yX10_stock wsX10_stock ({ frames := 7, cells := 1, slots := 6, locals := 121 }) D cA α n sz [.ref (α 0), .int (nI a), .int y] S eIO := by
  refine ctx_enter cX10_stock 3 (some .int) (by decide) rfl (Nat.le_of_ble_eq_true rfl) ?_
  intro p e s m below meth c hx hb hr hml hlocks hown hts hK hsz hw hZ hSx hout ls hl
  have hown : s.vm.findClass RX10 = some m.cls := hown
  have hAw : ∀ z, Aw α n s.heap.size z → Aw α n sz z := by rw [hsz]; exact fun _ h => h
  have hl : lv_has ls 3 [(0, .ref (α 0)), (1, .int (nI a)), (2, .int y)] := hl
  refine lv_aload_n hx hb dX10_stock_0 rfl (lv_at hl 0 rfl) ?_
  refine lv_iload_n hx hb dX10_stock_1 rfl (lv_at hl 1 rfl) ?_
  refine x_callVVr (q := 0) (C := RX10) (As := [.int (nI a)]) (rest := []) ⟨hx, hb, hml, hown, hts⟩ (ct_X10_requireCompany l D cA α n _ hn S Cn hC hC2 a ha) (cwV 1 hts gX10_stock_X10_requireCompany rfl rfl rfl (by decide +kernel) ⟨Nat.le_of_ble_eq_true rfl, Nat.le_of_ble_eq_true rfl⟩) hK hw hAw (ws_recv hK hw (q := 0) (Nat.lt_of_lt_of_le (Nat.le_of_ble_eq_true rfl : 0 < 191) hn) (mk_0 cA α) rfl) rfl hl.1 rfl (Nat.le_of_ble_eq_true rfl) dX10_stock_2 ⟨Nat.zero_le _, Nat.zero_le _⟩ (fun H locs hw => ?_)
  refine lv_aload_n hx hb dX10_stock_5 rfl (lv_at hl 0 rfl) ?_
  refine lv_iload_n hx hb dX10_stock_6 rfl (lv_at hl 2 rfl) ?_
  exact x_callXV (q := 0) (C := RX10) (As := [.int y]) (rest := []) ⟨hx, hb, hml, hown, hts⟩ (ct_X10_requireProductX l hst sa D cA α n _ hn S Pn hP9 hP2 y hx9) (cwV 1 hts gX10_stock_X10_requireProduct rfl rfl rfl (by decide +kernel) ⟨Nat.le_of_ble_eq_true rfl, Nat.le_of_ble_eq_true rfl⟩) hK hw hsz hZ hSx (ws_recv hK hw (q := 0) (Nat.lt_of_lt_of_le (Nat.le_of_ble_eq_true rfl : 0 < 191) hn) (mk_0 cA α) rfl) rfl hl.1 rfl (Nat.le_of_ble_eq_true rfl) dX10_stock_7 ⟨Nat.le_of_ble_eq_true rfl, Nat.le_of_ble_eq_true rfl⟩ hout hlocks rfl

set_option maxRecDepth 100000 in
set_option maxHeartbeats 1000000 in
theorem ct_X10_oldestPrice (l : Launch) (D : va_G) (cA : Nat → ClassId) (α : Nat → Nat) (n sz : Nat) (hn : 191 ≤ n) (S : Mem) (Cn : Nat) (hC : S.1 23 1 = nI Cn) (hC2 : Cn ≤ 6) (Pn : Nat) (hP9 : S.1 23 2 = nI Pn) (hP2 : Pn ≤ 6) (a b : Nat) (ha : a < Cn) (hb0 : b < Pn) (M : Nat) (hM : S.1 74 1 = nI M) (hM2 : M ≤ 100) : CtI l yX10_oldestPrice wsX10_oldestPrice ({ frames := 7, cells := 0, slots := 0, locals := 121 }) D cA α n sz [.ref (α 0), .int (nI a), .int (nI b)] S (fstP (fun d => cLot S d (nI a) (nI b)) (fun d => S.1 53 d) M 0) S := by
  refine ct_enter cX10_oldestPrice 3 (some .int) (by decide) rfl (Nat.le_of_ble_eq_true rfl) ?_
  intro p e s m below meth c hx hb hr hml hlocks hown hts hK hsz hw ls hl
  have hown : s.vm.findClass RX10 = some m.cls := hown
  have hAw : ∀ z, Aw α n s.heap.size z → Aw α n sz z := by rw [hsz]; exact fun _ h => h
  have hl : lv_has ls 3 [(0, .ref (α 0)), (1, .int (nI a)), (2, .int (nI b))] := hl
  refine lv_aload_n hx hb dX10_oldestPrice_0 rfl (lv_at hl 0 rfl) ?_
  refine lv_iload_n hx hb dX10_oldestPrice_1 rfl (lv_at hl 1 rfl) ?_
  refine x_callVVr (q := 0) (C := RX10) (As := [.int (nI a)]) (rest := []) ⟨hx, hb, hml, hown, hts⟩ (ct_X10_requireCompany l D cA α n _ hn S Cn hC hC2 a ha) (cwV 1 hts gX10_oldestPrice_X10_requireCompany rfl rfl rfl (by decide +kernel) ⟨Nat.le_of_ble_eq_true rfl, Nat.le_of_ble_eq_true rfl⟩) hK hw hAw (ws_recv hK hw (q := 0) (Nat.lt_of_lt_of_le (Nat.le_of_ble_eq_true rfl : 0 < 191) hn) (mk_0 cA α) rfl) rfl hl.1 rfl (Nat.le_of_ble_eq_true rfl) dX10_oldestPrice_2 ⟨Nat.zero_le _, Nat.zero_le _⟩ (fun H locs hw => ?_)
  refine lv_aload_n hx hb dX10_oldestPrice_5 rfl (lv_at hl 0 rfl) ?_
  refine lv_iload_n hx hb dX10_oldestPrice_6 rfl (lv_at hl 2 rfl) ?_
  refine x_callVVr (q := 0) (C := RX10) (As := [.int (nI b)]) (rest := []) ⟨hx, hb, hml, hown, hts⟩ (ct_X10_requireProduct l D cA α n _ hn S Pn hP9 hP2 b hb0) (cwV 1 hts gX10_oldestPrice_X10_requireProduct rfl rfl rfl (by decide +kernel) ⟨Nat.le_of_ble_eq_true rfl, Nat.le_of_ble_eq_true rfl⟩) hK hw hAw (ws_recv hK hw (q := 0) (Nat.lt_of_lt_of_le (Nat.le_of_ble_eq_true rfl : 0 < 191) hn) (mk_0 cA α) rfl) rfl hl.1 rfl (Nat.le_of_ble_eq_true rfl) dX10_oldestPrice_7 ⟨Nat.zero_le _, Nat.zero_le _⟩ (fun H locs hw => ?_)
  refine lv_aload_n hx hb dX10_oldestPrice_10 rfl (lv_at hl 0 rfl) ?_
  refine x_get (v := .ref (α 10)) (C := RX10) (T := TX10) (N := 7) hx hb hts (fun _ h => List.mem_cons_of_mem _ (List.mem_append_left _ (List.mem_append_left _ (List.mem_append_left _ (List.mem_append_left _ (List.mem_append_left _ (List.mem_append_right _ h))))))) hown hK hw 0 (Nat.lt_of_lt_of_le (Nat.le_of_ble_eq_true rfl : 0 < 191) hn) (mk_0 cA α) rfl 4 (by decide) (hts _ (List.mem_of_getElem? (i := 1) rfl)) (fun _ h9 => h9) rfl dX10_oldestPrice_11 ?_
  refine lv_aload_n hx hb dX10_oldestPrice_14 rfl (lv_at hl 0 rfl) ?_
  refine x_get (v := .ref (α 3)) (C := RX10) (T := TX10) (N := 7) hx hb hts (fun _ h => List.mem_cons_of_mem _ (List.mem_append_left _ (List.mem_append_left _ (List.mem_append_left _ (List.mem_append_left _ (List.mem_append_left _ (List.mem_append_right _ h))))))) hown hK hw 0 (Nat.lt_of_lt_of_le (Nat.le_of_ble_eq_true rfl : 0 < 191) hn) (mk_0 cA α) rfl 1 (by decide) (hts _ (List.mem_of_getElem? (i := 2) rfl)) (fun _ h9 => h9) rfl dX10_oldestPrice_15 ?_
  refine lv_iload_n hx hb dX10_oldestPrice_18 rfl (lv_at hl 1 rfl) ?_
  refine lv_iload_n hx hb dX10_oldestPrice_19 rfl (lv_at hl 2 rfl) ?_
  refine x_callVIr (q := 10) (C := RX1) (As := [.ref (α 3), .int (nI a), .int (nI b)]) (rest := []) ⟨hx, hb, hml, hown, hts⟩ (ct_X1_firstPrice l D cA α n _ hn S (nI a) (nI b) M hM hM2) (cwV 3 hts gX10_oldestPrice_X1_firstPrice rfl rfl rfl (by decide +kernel) ⟨Nat.le_of_ble_eq_true rfl, Nat.le_of_ble_eq_true rfl⟩) hK hw hAw (ws_recv hK hw (q := 10) (Nat.lt_of_lt_of_le (Nat.le_of_ble_eq_true rfl : 10 < 191) hn) (mk_10 cA α) rfl) rfl hl.1 rfl (Nat.le_of_ble_eq_true rfl) dX10_oldestPrice_20 ⟨Nat.zero_le _, Nat.zero_le _⟩ (fun H locs hw => ?_)
  exact ret_i hx hb hr hlocks hK hw dX10_oldestPrice_23 rfl rfl

set_option maxRecDepth 100000 in
set_option maxHeartbeats 1000000 in
theorem ct_X10_oldestPriceX (l : Launch) (hst : l.stackTraces = false) (sa : Nat → Nat) (D : va_G) (cA : Nat → ClassId) (α : Nat → Nat) (n sz : Nat) (hn : 191 ≤ n) (S : Mem) (Cn : Nat) (hC : S.1 23 1 = nI Cn) (hC2 : Cn ≤ 6) (x y : Int32) (hx9 : ¬ ∃ i, i < Cn ∧ x = nI i) : CtX sa l yX10_oldestPrice wsX10_oldestPrice ({ frames := 7, cells := 1, slots := 6, locals := 121 }) D cA α n sz [.ref (α 0), .int x, .int y] S eIO := by
  refine ctx_enter cX10_oldestPrice 3 (some .int) (by decide) rfl (Nat.le_of_ble_eq_true rfl) ?_
  intro p e s m below meth c hx hb hr hml hlocks hown hts hK hsz hw hZ hSx hout ls hl
  have hown : s.vm.findClass RX10 = some m.cls := hown
  have hAw : ∀ z, Aw α n s.heap.size z → Aw α n sz z := by rw [hsz]; exact fun _ h => h
  have hl : lv_has ls 3 [(0, .ref (α 0)), (1, .int x), (2, .int y)] := hl
  refine lv_aload_n hx hb dX10_oldestPrice_0 rfl (lv_at hl 0 rfl) ?_
  refine lv_iload_n hx hb dX10_oldestPrice_1 rfl (lv_at hl 1 rfl) ?_
  exact x_callXV (q := 0) (C := RX10) (As := [.int x]) (rest := []) ⟨hx, hb, hml, hown, hts⟩ (ct_X10_requireCompanyX l hst sa D cA α n _ hn S Cn hC hC2 x hx9) (cwV 1 hts gX10_oldestPrice_X10_requireCompany rfl rfl rfl (by decide +kernel) ⟨Nat.le_of_ble_eq_true rfl, Nat.le_of_ble_eq_true rfl⟩) hK hw hsz hZ hSx (ws_recv hK hw (q := 0) (Nat.lt_of_lt_of_le (Nat.le_of_ble_eq_true rfl : 0 < 191) hn) (mk_0 cA α) rfl) rfl hl.1 rfl (Nat.le_of_ble_eq_true rfl) dX10_oldestPrice_2 ⟨Nat.le_of_ble_eq_true rfl, Nat.le_of_ble_eq_true rfl⟩ hout hlocks rfl

set_option maxRecDepth 100000 in
set_option maxHeartbeats 1000000 in
theorem ct_X10_oldestPriceX2 (l : Launch) (hst : l.stackTraces = false) (sa : Nat → Nat) (D : va_G) (cA : Nat → ClassId) (α : Nat → Nat) (n sz : Nat) (hn : 191 ≤ n) (S : Mem) (Cn : Nat) (hC : S.1 23 1 = nI Cn) (hC2 : Cn ≤ 6) (Pn : Nat) (hP9 : S.1 23 2 = nI Pn) (hP2 : Pn ≤ 6) (a : Nat) (ha : a < Cn) (y : Int32) (hx9 : ¬ ∃ i, i < Pn ∧ y = nI i) : CtX sa l yX10_oldestPrice wsX10_oldestPrice ({ frames := 7, cells := 1, slots := 6, locals := 121 }) D cA α n sz [.ref (α 0), .int (nI a), .int y] S eIO := by
  refine ctx_enter cX10_oldestPrice 3 (some .int) (by decide) rfl (Nat.le_of_ble_eq_true rfl) ?_
  intro p e s m below meth c hx hb hr hml hlocks hown hts hK hsz hw hZ hSx hout ls hl
  have hown : s.vm.findClass RX10 = some m.cls := hown
  have hAw : ∀ z, Aw α n s.heap.size z → Aw α n sz z := by rw [hsz]; exact fun _ h => h
  have hl : lv_has ls 3 [(0, .ref (α 0)), (1, .int (nI a)), (2, .int y)] := hl
  refine lv_aload_n hx hb dX10_oldestPrice_0 rfl (lv_at hl 0 rfl) ?_
  refine lv_iload_n hx hb dX10_oldestPrice_1 rfl (lv_at hl 1 rfl) ?_
  refine x_callVVr (q := 0) (C := RX10) (As := [.int (nI a)]) (rest := []) ⟨hx, hb, hml, hown, hts⟩ (ct_X10_requireCompany l D cA α n _ hn S Cn hC hC2 a ha) (cwV 1 hts gX10_oldestPrice_X10_requireCompany rfl rfl rfl (by decide +kernel) ⟨Nat.le_of_ble_eq_true rfl, Nat.le_of_ble_eq_true rfl⟩) hK hw hAw (ws_recv hK hw (q := 0) (Nat.lt_of_lt_of_le (Nat.le_of_ble_eq_true rfl : 0 < 191) hn) (mk_0 cA α) rfl) rfl hl.1 rfl (Nat.le_of_ble_eq_true rfl) dX10_oldestPrice_2 ⟨Nat.zero_le _, Nat.zero_le _⟩ (fun H locs hw => ?_)
  refine lv_aload_n hx hb dX10_oldestPrice_5 rfl (lv_at hl 0 rfl) ?_
  refine lv_iload_n hx hb dX10_oldestPrice_6 rfl (lv_at hl 2 rfl) ?_
  exact x_callXV (q := 0) (C := RX10) (As := [.int y]) (rest := []) ⟨hx, hb, hml, hown, hts⟩ (ct_X10_requireProductX l hst sa D cA α n _ hn S Pn hP9 hP2 y hx9) (cwV 1 hts gX10_oldestPrice_X10_requireProduct rfl rfl rfl (by decide +kernel) ⟨Nat.le_of_ble_eq_true rfl, Nat.le_of_ble_eq_true rfl⟩) hK hw hsz hZ hSx (ws_recv hK hw (q := 0) (Nat.lt_of_lt_of_le (Nat.le_of_ble_eq_true rfl : 0 < 191) hn) (mk_0 cA α) rfl) rfl hl.1 rfl (Nat.le_of_ble_eq_true rfl) dX10_oldestPrice_7 ⟨Nat.le_of_ble_eq_true rfl, Nat.le_of_ble_eq_true rfl⟩ hout hlocks rfl

set_option maxRecDepth 100000 in
set_option maxHeartbeats 1000000 in
theorem ct_X10_gap (l : Launch) (D : va_G) (cA : Nat → ClassId) (α : Nat → Nat) (n sz : Nat) (hn : 191 ≤ n) (S : Mem) (M : Nat) (hM : S.1 74 1 = nI M) (hM2 : M ≤ 100) (d : Nat) (hd : d < M) (h9 : okI (S.1 49 d) 6) : CtL l yX10_gap wsX10_gap ({ frames := 6, cells := 0, slots := 0, locals := 100 }) D cA α n sz [.ref (α 0), .int (nI d)] S (cGap S d) S := by
  refine ct_enter cX10_gap 2 (some .long) (by decide) rfl (Nat.le_of_ble_eq_true rfl) ?_
  intro p e s m below meth c hx hb hr hml hlocks hown hts hK hsz hw ls hl
  have hown : s.vm.findClass RX10 = some m.cls := hown
  have hAw : ∀ z, Aw α n s.heap.size z → Aw α n sz z := by rw [hsz]; exact fun _ h => h
  have hl : lv_has ls 2 [(0, .ref (α 0)), (1, .int (nI d))] := hl
  refine lv_iload_n hx hb dX10_gap_0 rfl (lv_at hl 1 rfl) ?_
  refine lv_if_lt (tgt := 18) hx hb dX10_gap_1 (by decide) (fun c1 => ?_) (fun c1 => ?_)
  · exact absurd c1 (cpo (by omega))
  · skip
    refine lv_iload_n hx hb dX10_gap_4 rfl (lv_at hl 1 rfl) ?_
    refine lv_aload_n hx hb dX10_gap_5 rfl (lv_at hl 0 rfl) ?_
    refine x_get (v := .ref (α 3)) (C := RX10) (T := TX10) (N := 7) hx hb hts (fun _ h => List.mem_cons_of_mem _ (List.mem_append_left _ (List.mem_append_left _ (List.mem_append_left _ (List.mem_append_left _ (List.mem_append_left _ (List.mem_append_right _ h))))))) hown hK hw 0 (Nat.lt_of_lt_of_le (Nat.le_of_ble_eq_true rfl : 0 < 191) hn) (mk_0 cA α) rfl 1 (by decide) (hts _ (List.mem_of_getElem? (i := 3) rfl)) (fun _ h9 => h9) rfl dX10_gap_6 ?_
    refine x_get (v := .ref (α 74)) (C := RX0) (T := TX0) (N := 3) hx hb hts (fun _ h => List.mem_cons_of_mem _ (List.mem_append_left _ (List.mem_append_left _ (List.mem_append_left _ (List.mem_append_left _ (List.mem_append_right _ h)))))) hown hK hw 3 (Nat.lt_of_lt_of_le (Nat.le_of_ble_eq_true rfl : 3 < 191) hn) (mk_3 cA α) rfl 2 (by decide) (hts _ (List.mem_of_getElem? (i := 4) rfl)) (fun _ h9 => h9) rfl dX10_gap_9 ?_
    refine x_get (v := .int (S.1 74 1)) (C := RX9) (T := TX9) (N := 14) hx hb hts (fun _ h => List.mem_cons_of_mem _ (List.mem_append_left _ (List.mem_append_left _ (List.mem_append_left _ (List.mem_append_right _ h))))) hown hK hw 74 (Nat.lt_of_lt_of_le (Nat.le_of_ble_eq_true rfl : 74 < 191) hn) (mk_74 cA α) rfl 1 (by decide) (hts _ (List.mem_of_getElem? (i := 5) rfl)) (fun _ h9 => h9) rfl dX10_gap_12 ?_
    refine x_topN (k := M) hM ?_
    refine xn_icmp_lt (tgt := 29) hx hb (by omega) (by omega) dX10_gap_15 (by decide) (fun c2 => ?_) (fun c2 => ?_)
    · skip
      refine lv_aload_n hx hb dX10_gap_29 rfl (lv_at hl 0 rfl) ?_
      refine x_get (v := .ref (α 10)) (C := RX10) (T := TX10) (N := 7) hx hb hts (fun _ h => List.mem_cons_of_mem _ (List.mem_append_left _ (List.mem_append_left _ (List.mem_append_left _ (List.mem_append_left _ (List.mem_append_left _ (List.mem_append_right _ h))))))) hown hK hw 0 (Nat.lt_of_lt_of_le (Nat.le_of_ble_eq_true rfl : 0 < 191) hn) (mk_0 cA α) rfl 4 (by decide) (hts _ (List.mem_of_getElem? (i := 6) rfl)) (fun _ h9 => h9) rfl dX10_gap_30 ?_
      refine lv_aload_n hx hb dX10_gap_33 rfl (lv_at hl 0 rfl) ?_
      refine x_get (v := .ref (α 3)) (C := RX10) (T := TX10) (N := 7) hx hb hts (fun _ h => List.mem_cons_of_mem _ (List.mem_append_left _ (List.mem_append_left _ (List.mem_append_left _ (List.mem_append_left _ (List.mem_append_left _ (List.mem_append_right _ h))))))) hown hK hw 0 (Nat.lt_of_lt_of_le (Nat.le_of_ble_eq_true rfl : 0 < 191) hn) (mk_0 cA α) rfl 1 (by decide) (hts _ (List.mem_of_getElem? (i := 3) rfl)) (fun _ h9 => h9) rfl dX10_gap_34 ?_
      refine lv_iload_n hx hb dX10_gap_37 rfl (lv_at hl 1 rfl) ?_
      refine x_callVLr (q := 10) (C := RX1) (As := [.ref (α 3), .int (nI d)]) (rest := []) ⟨hx, hb, hml, hown, hts⟩ (ct_X1_gapOf l D cA α n _ hn S d (by omega) h9) (cwV 2 hts gX10_gap_X1_gapOf rfl rfl rfl (by decide +kernel) ⟨Nat.le_of_ble_eq_true rfl, Nat.le_of_ble_eq_true rfl⟩) hK hw hAw (ws_recv hK hw (q := 10) (Nat.lt_of_lt_of_le (Nat.le_of_ble_eq_true rfl : 10 < 191) hn) (mk_10 cA α) rfl) rfl hl.1 rfl (Nat.le_of_ble_eq_true rfl) dX10_gap_38 ⟨Nat.zero_le _, Nat.zero_le _⟩ (fun H locs hw => ?_)
      exact ret_l hx hb hr hlocks hK hw dX10_gap_41 (by first | (simp only [eq_self, if_neg c1, if_pos c1, decide_eq_false c1, if_pos c2, if_neg (not_not_intro c2), decide_eq_true c2, if_true, if_false, eq_self, Bool.false_eq_true, not_true_eq_false, not_false_eq_true, decide_true, decide_false, Bool.and_true, Bool.true_and, Bool.and_false, Bool.false_and, Bool.not_true, Bool.not_false, Bool.or_true, Bool.true_or, Bool.or_false, Bool.false_or, reduceIte, b2i_t, b2i_f]; done) | rfl | (simp [eq_self, if_neg c1, if_pos c1, decide_eq_false c1, if_pos c2, if_neg (not_not_intro c2), decide_eq_true c2, b2i, nI_0, nI_one]; done)) rfl
    · exact absurd hd (by omega)

set_option maxRecDepth 100000 in
set_option maxHeartbeats 1000000 in
theorem ct_X10_gapX (l : Launch) (hst : l.stackTraces = false) (sa : Nat → Nat) (D : va_G) (cA : Nat → ClassId) (α : Nat → Nat) (n sz : Nat) (hn : 191 ≤ n) (S : Mem) (M : Nat) (hM : S.1 74 1 = nI M) (hM2 : M ≤ 100) (x : Int32) (hx9 : ¬ ∃ i, i < M ∧ x = nI i) : CtX sa l yX10_gap wsX10_gap ({ frames := 6, cells := 1, slots := 6, locals := 100 }) D cA α n sz [.ref (α 0), .int x] S eIO := by
  refine ctx_enter cX10_gap 2 (some .long) (by decide) rfl (Nat.le_of_ble_eq_true rfl) ?_
  intro p e s m below meth c hx hb hr hml hlocks hown hts hK hsz hw hZ hSx hout ls hl
  have hown : s.vm.findClass RX10 = some m.cls := hown
  have hAw : ∀ z, Aw α n s.heap.size z → Aw α n sz z := by rw [hsz]; exact fun _ h => h
  have hl : lv_has ls 2 [(0, .ref (α 0)), (1, .int x)] := hl
  refine lv_iload_n hx hb dX10_gap_0 rfl (lv_at hl 1 rfl) ?_
  refine lv_if_lt (tgt := 18) hx hb dX10_gap_1 (by decide) (fun c1 => ?_) (fun c1 => ?_)
  · skip
    exact x_throwSW (names := eUp) (rest := []) hx hb hst hown fit_IO fit_Up (hts _ (List.mem_of_getElem? (i := 1) rfl)) (hts _ (List.mem_of_getElem? (i := 2) rfl)) (hSx.1 _ (List.mem_of_getElem? (i := 4) rfl)) (at_IO hSx (fun w h => hts w ((fun _ h => List.mem_cons_of_mem _ (List.mem_append_right _ h)) w h))) ga_IO hZ hK hw (hl.1.trans hml.symm) dX10_gap_18 dX10_gap_21 dX10_gap_22 dX10_gap_25 dX10_gap_28 hout (Nat.le_of_ble_eq_true rfl) (Nat.le_of_ble_eq_true rfl) (Nat.le_of_ble_eq_true rfl) (Nat.le_of_ble_eq_true rfl) hlocks rfl
  · skip
    refine lv_iload_n hx hb dX10_gap_4 rfl (lv_at hl 1 rfl) ?_
    refine lv_aload_n hx hb dX10_gap_5 rfl (lv_at hl 0 rfl) ?_
    refine x_get (v := .ref (α 3)) (C := RX10) (T := TX10) (N := 7) hx hb hts (fun _ h => List.mem_cons_of_mem _ (List.mem_append_left _ (List.mem_append_left _ (List.mem_append_left _ (List.mem_append_left _ (List.mem_append_left _ (List.mem_append_right _ h))))))) hown hK hw 0 (Nat.lt_of_lt_of_le (Nat.le_of_ble_eq_true rfl : 0 < 191) hn) (mk_0 cA α) rfl 1 (by decide) (hts _ (List.mem_of_getElem? (i := 3) rfl)) (fun _ h9 => h9) rfl dX10_gap_6 ?_
    refine x_get (v := .ref (α 74)) (C := RX0) (T := TX0) (N := 3) hx hb hts (fun _ h => List.mem_cons_of_mem _ (List.mem_append_left _ (List.mem_append_left _ (List.mem_append_left _ (List.mem_append_left _ (List.mem_append_right _ h)))))) hown hK hw 3 (Nat.lt_of_lt_of_le (Nat.le_of_ble_eq_true rfl : 3 < 191) hn) (mk_3 cA α) rfl 2 (by decide) (hts _ (List.mem_of_getElem? (i := 4) rfl)) (fun _ h9 => h9) rfl dX10_gap_9 ?_
    refine x_get (v := .int (S.1 74 1)) (C := RX9) (T := TX9) (N := 14) hx hb hts (fun _ h => List.mem_cons_of_mem _ (List.mem_append_left _ (List.mem_append_left _ (List.mem_append_left _ (List.mem_append_right _ h))))) hown hK hw 74 (Nat.lt_of_lt_of_le (Nat.le_of_ble_eq_true rfl : 74 < 191) hn) (mk_74 cA α) rfl 1 (by decide) (hts _ (List.mem_of_getElem? (i := 5) rfl)) (fun _ h9 => h9) rfl dX10_gap_12 ?_
    refine x_topN (k := M) hM ?_
    refine lv_icmp_lt (tgt := 29) hx hb dX10_gap_15 (by decide) (fun c2 => ?_) (fun c2 => ?_)
    · exact absurd (in_ex c1 c2 (by omega)) hx9
    · skip
      exact x_throwSW (names := eUp) (rest := []) hx hb hst hown fit_IO fit_Up (hts _ (List.mem_of_getElem? (i := 1) rfl)) (hts _ (List.mem_of_getElem? (i := 2) rfl)) (hSx.1 _ (List.mem_of_getElem? (i := 4) rfl)) (at_IO hSx (fun w h => hts w ((fun _ h => List.mem_cons_of_mem _ (List.mem_append_right _ h)) w h))) ga_IO hZ hK hw (hl.1.trans hml.symm) dX10_gap_18 dX10_gap_21 dX10_gap_22 dX10_gap_25 dX10_gap_28 hout (Nat.le_of_ble_eq_true rfl) (Nat.le_of_ble_eq_true rfl) (Nat.le_of_ble_eq_true rfl) (Nat.le_of_ble_eq_true rfl) hlocks rfl

set_option maxRecDepth 100000 in
set_option maxHeartbeats 1000000 in
theorem ct_X10_unrealizedAfterSale (l : Launch) (D : va_G) (cA : Nat → ClassId) (α : Nat → Nat) (n sz : Nat) (hn : 191 ≤ n) (S : Mem) (Cn : Nat) (hC : S.1 23 1 = nI Cn) (hC2 : Cn ≤ 6) (Pn : Nat) (hP9 : S.1 23 2 = nI Pn) (hP2 : Pn ≤ 6) (a b : Nat) (ha : a < Cn) (hb0 : b < Pn) (q9 : Int32) (h1 : ∃ i, 0 ≤ i ∧ i ≤ 9999 ∧ q9 = nI i) (M : Nat) (hM : S.1 74 1 = nI M) (hM2 : M ≤ 100) (hod : ∀ d, d < M → okI (S.1 49 d) 6) (hct : cCan S (nI a) b q9 M = true) : CtL l yX10_unrealizedAfterSale wsX10_unrealizedAfterSale ({ frames := 7, cells := 0, slots := 0, locals := 123 }) D cA α n sz [.ref (α 0), .int (nI a), .int (nI b), .int q9] S ((cPA S (nI a) (nI b) q9 M).2) S := by
  refine ct_enter cX10_unrealizedAfterSale 4 (some .long) (by decide) rfl (Nat.le_of_ble_eq_true rfl) ?_
  intro p e s m below meth c hx hb hr hml hlocks hown hts hK hsz hw ls hl
  have hown : s.vm.findClass RX10 = some m.cls := hown
  have hAw : ∀ z, Aw α n s.heap.size z → Aw α n sz z := by rw [hsz]; exact fun _ h => h
  have hl : lv_has ls 4 [(0, .ref (α 0)), (1, .int (nI a)), (2, .int (nI b)), (3, .int q9)] := hl
  refine lv_aload_n hx hb dX10_unrealizedAfterSale_0 rfl (lv_at hl 0 rfl) ?_
  refine lv_iload_n hx hb dX10_unrealizedAfterSale_1 rfl (lv_at hl 1 rfl) ?_
  refine x_callVVr (q := 0) (C := RX10) (As := [.int (nI a)]) (rest := []) ⟨hx, hb, hml, hown, hts⟩ (ct_X10_requireCompany l D cA α n _ hn S Cn hC hC2 a ha) (cwV 1 hts gX10_unrealizedAfterSale_X10_requireCompany rfl rfl rfl (by decide +kernel) ⟨Nat.le_of_ble_eq_true rfl, Nat.le_of_ble_eq_true rfl⟩) hK hw hAw (ws_recv hK hw (q := 0) (Nat.lt_of_lt_of_le (Nat.le_of_ble_eq_true rfl : 0 < 191) hn) (mk_0 cA α) rfl) rfl hl.1 rfl (Nat.le_of_ble_eq_true rfl) dX10_unrealizedAfterSale_2 ⟨Nat.zero_le _, Nat.zero_le _⟩ (fun H locs hw => ?_)
  refine lv_aload_n hx hb dX10_unrealizedAfterSale_5 rfl (lv_at hl 0 rfl) ?_
  refine lv_iload_n hx hb dX10_unrealizedAfterSale_6 rfl (lv_at hl 2 rfl) ?_
  refine x_callVVr (q := 0) (C := RX10) (As := [.int (nI b)]) (rest := []) ⟨hx, hb, hml, hown, hts⟩ (ct_X10_requireProduct l D cA α n _ hn S Pn hP9 hP2 b hb0) (cwV 1 hts gX10_unrealizedAfterSale_X10_requireProduct rfl rfl rfl (by decide +kernel) ⟨Nat.le_of_ble_eq_true rfl, Nat.le_of_ble_eq_true rfl⟩) hK hw hAw (ws_recv hK hw (q := 0) (Nat.lt_of_lt_of_le (Nat.le_of_ble_eq_true rfl : 0 < 191) hn) (mk_0 cA α) rfl) rfl hl.1 rfl (Nat.le_of_ble_eq_true rfl) dX10_unrealizedAfterSale_7 ⟨Nat.zero_le _, Nat.zero_le _⟩ (fun H locs hw => ?_)
  refine lv_iload_n hx hb dX10_unrealizedAfterSale_10 rfl (lv_at hl 3 rfl) ?_
  refine lv_iconst (v := nI 0) hx hb dX10_unrealizedAfterSale_11 (by decide) ?_
  refine lv_sipush (v := nI 9999) hx hb dX10_unrealizedAfterSale_12 (by decide) ?_
  refine x_callSVr (q := 0) (C := RX0) (As := [.int q9, .int (nI 0), .int (nI 9999)]) (rest := []) ⟨hx, hb, hml, hown, hts⟩ (ct_X10_requireRange l D cA α n _ hn S q9 0 9999 (by decide) (by decide) h1) (va_cwS 3 hts gX10_unrealizedAfterSale_X10_requireRange rfl rfl rfl (by decide +kernel) ⟨Nat.le_of_ble_eq_true rfl, Nat.le_of_ble_eq_true rfl⟩) hK hw hAw rfl hl.1 rfl (Nat.le_of_ble_eq_true rfl) dX10_unrealizedAfterSale_15 ⟨Nat.zero_le _, Nat.zero_le _⟩ (fun H locs hw => ?_)
  refine lv_aload_n hx hb dX10_unrealizedAfterSale_18 rfl (lv_at hl 0 rfl) ?_
  refine lv_iload_n hx hb dX10_unrealizedAfterSale_19 rfl (lv_at hl 1 rfl) ?_
  refine lv_iload_n hx hb dX10_unrealizedAfterSale_20 rfl (lv_at hl 2 rfl) ?_
  refine lv_iload_n hx hb dX10_unrealizedAfterSale_21 rfl (lv_at hl 3 rfl) ?_
  refine x_callVVr (q := 0) (C := RX10) (As := [.int (nI a), .int (nI b), .int q9]) (rest := []) ⟨hx, hb, hml, hown, hts⟩ (ct_X10_requirePieces l D cA α n _ hn S (nI a) b q9 (by omega) M hM hM2 hct) (cwV 3 hts gX10_unrealizedAfterSale_X10_requirePieces rfl rfl rfl (by decide +kernel) ⟨Nat.le_of_ble_eq_true rfl, Nat.le_of_ble_eq_true rfl⟩) hK hw hAw (ws_recv hK hw (q := 0) (Nat.lt_of_lt_of_le (Nat.le_of_ble_eq_true rfl : 0 < 191) hn) (mk_0 cA α) rfl) rfl hl.1 rfl (Nat.le_of_ble_eq_true rfl) dX10_unrealizedAfterSale_22 ⟨Nat.zero_le _, Nat.zero_le _⟩ (fun H locs hw => ?_)
  refine lv_aload_n hx hb dX10_unrealizedAfterSale_25 rfl (lv_at hl 0 rfl) ?_
  refine x_get (v := .ref (α 10)) (C := RX10) (T := TX10) (N := 7) hx hb hts (fun _ h => List.mem_cons_of_mem _ (List.mem_append_left _ (List.mem_append_left _ (List.mem_append_left _ (List.mem_append_left _ (List.mem_append_left _ (List.mem_append_left _ (List.mem_append_left _ (List.mem_append_right _ h))))))))) hown hK hw 0 (Nat.lt_of_lt_of_le (Nat.le_of_ble_eq_true rfl : 0 < 191) hn) (mk_0 cA α) rfl 4 (by decide) (hts _ (List.mem_of_getElem? (i := 1) rfl)) (fun _ h9 => h9) rfl dX10_unrealizedAfterSale_26 ?_
  refine lv_aload_n hx hb dX10_unrealizedAfterSale_29 rfl (lv_at hl 0 rfl) ?_
  refine x_get (v := .ref (α 3)) (C := RX10) (T := TX10) (N := 7) hx hb hts (fun _ h => List.mem_cons_of_mem _ (List.mem_append_left _ (List.mem_append_left _ (List.mem_append_left _ (List.mem_append_left _ (List.mem_append_left _ (List.mem_append_left _ (List.mem_append_left _ (List.mem_append_right _ h))))))))) hown hK hw 0 (Nat.lt_of_lt_of_le (Nat.le_of_ble_eq_true rfl : 0 < 191) hn) (mk_0 cA α) rfl 1 (by decide) (hts _ (List.mem_of_getElem? (i := 2) rfl)) (fun _ h9 => h9) rfl dX10_unrealizedAfterSale_30 ?_
  refine lv_iload_n hx hb dX10_unrealizedAfterSale_33 rfl (lv_at hl 1 rfl) ?_
  refine lv_iload_n hx hb dX10_unrealizedAfterSale_34 rfl (lv_at hl 2 rfl) ?_
  refine lv_iload_n hx hb dX10_unrealizedAfterSale_35 rfl (lv_at hl 3 rfl) ?_
  refine x_callVLr (q := 10) (C := RX1) (As := [.ref (α 3), .int (nI a), .int (nI b), .int q9]) (rest := []) ⟨hx, hb, hml, hown, hts⟩ (ct_X1_profitAfter l D cA α n _ hn S (nI a) (nI b) q9 M hM hM2 hod) (cwV 4 hts gX10_unrealizedAfterSale_X1_profitAfter rfl rfl rfl (by decide +kernel) ⟨Nat.le_of_ble_eq_true rfl, Nat.le_of_ble_eq_true rfl⟩) hK hw hAw (ws_recv hK hw (q := 10) (Nat.lt_of_lt_of_le (Nat.le_of_ble_eq_true rfl : 10 < 191) hn) (mk_10 cA α) rfl) rfl hl.1 rfl (Nat.le_of_ble_eq_true rfl) dX10_unrealizedAfterSale_36 ⟨Nat.zero_le _, Nat.zero_le _⟩ (fun H locs hw => ?_)
  exact ret_l hx hb hr hlocks hK hw dX10_unrealizedAfterSale_39 rfl rfl

set_option maxRecDepth 100000 in
set_option maxHeartbeats 1000000 in
theorem ct_X10_unrealizedAfterSaleX (l : Launch) (hst : l.stackTraces = false) (sa : Nat → Nat) (D : va_G) (cA : Nat → ClassId) (α : Nat → Nat) (n sz : Nat) (hn : 191 ≤ n) (S : Mem) (Cn : Nat) (hC : S.1 23 1 = nI Cn) (hC2 : Cn ≤ 6) (x y : Int32) (hx9 : ¬ ∃ i, i < Cn ∧ x = nI i) (q9 : Int32) : CtX sa l yX10_unrealizedAfterSale wsX10_unrealizedAfterSale ({ frames := 7, cells := 1, slots := 6, locals := 123 }) D cA α n sz [.ref (α 0), .int x, .int y, .int q9] S eIO := by
  refine ctx_enter cX10_unrealizedAfterSale 4 (some .long) (by decide) rfl (Nat.le_of_ble_eq_true rfl) ?_
  intro p e s m below meth c hx hb hr hml hlocks hown hts hK hsz hw hZ hSx hout ls hl
  have hown : s.vm.findClass RX10 = some m.cls := hown
  have hAw : ∀ z, Aw α n s.heap.size z → Aw α n sz z := by rw [hsz]; exact fun _ h => h
  have hl : lv_has ls 4 [(0, .ref (α 0)), (1, .int x), (2, .int y), (3, .int q9)] := hl
  refine lv_aload_n hx hb dX10_unrealizedAfterSale_0 rfl (lv_at hl 0 rfl) ?_
  refine lv_iload_n hx hb dX10_unrealizedAfterSale_1 rfl (lv_at hl 1 rfl) ?_
  exact x_callXV (q := 0) (C := RX10) (As := [.int x]) (rest := []) ⟨hx, hb, hml, hown, hts⟩ (ct_X10_requireCompanyX l hst sa D cA α n _ hn S Cn hC hC2 x hx9) (cwV 1 hts gX10_unrealizedAfterSale_X10_requireCompany rfl rfl rfl (by decide +kernel) ⟨Nat.le_of_ble_eq_true rfl, Nat.le_of_ble_eq_true rfl⟩) hK hw hsz hZ hSx (ws_recv hK hw (q := 0) (Nat.lt_of_lt_of_le (Nat.le_of_ble_eq_true rfl : 0 < 191) hn) (mk_0 cA α) rfl) rfl hl.1 rfl (Nat.le_of_ble_eq_true rfl) dX10_unrealizedAfterSale_2 ⟨Nat.le_of_ble_eq_true rfl, Nat.le_of_ble_eq_true rfl⟩ hout hlocks rfl

set_option maxRecDepth 100000 in
set_option maxHeartbeats 1000000 in
theorem ct_X10_unrealizedAfterSaleX2 (l : Launch) (hst : l.stackTraces = false) (sa : Nat → Nat) (D : va_G) (cA : Nat → ClassId) (α : Nat → Nat) (n sz : Nat) (hn : 191 ≤ n) (S : Mem) (Cn : Nat) (hC : S.1 23 1 = nI Cn) (hC2 : Cn ≤ 6) (Pn : Nat) (hP9 : S.1 23 2 = nI Pn) (hP2 : Pn ≤ 6) (a : Nat) (ha : a < Cn) (y : Int32) (hx9 : ¬ ∃ i, i < Pn ∧ y = nI i) (q9 : Int32) : CtX sa l yX10_unrealizedAfterSale wsX10_unrealizedAfterSale ({ frames := 7, cells := 1, slots := 6, locals := 123 }) D cA α n sz [.ref (α 0), .int (nI a), .int y, .int q9] S eIO := by
  refine ctx_enter cX10_unrealizedAfterSale 4 (some .long) (by decide) rfl (Nat.le_of_ble_eq_true rfl) ?_
  intro p e s m below meth c hx hb hr hml hlocks hown hts hK hsz hw hZ hSx hout ls hl
  have hown : s.vm.findClass RX10 = some m.cls := hown
  have hAw : ∀ z, Aw α n s.heap.size z → Aw α n sz z := by rw [hsz]; exact fun _ h => h
  have hl : lv_has ls 4 [(0, .ref (α 0)), (1, .int (nI a)), (2, .int y), (3, .int q9)] := hl
  refine lv_aload_n hx hb dX10_unrealizedAfterSale_0 rfl (lv_at hl 0 rfl) ?_
  refine lv_iload_n hx hb dX10_unrealizedAfterSale_1 rfl (lv_at hl 1 rfl) ?_
  refine x_callVVr (q := 0) (C := RX10) (As := [.int (nI a)]) (rest := []) ⟨hx, hb, hml, hown, hts⟩ (ct_X10_requireCompany l D cA α n _ hn S Cn hC hC2 a ha) (cwV 1 hts gX10_unrealizedAfterSale_X10_requireCompany rfl rfl rfl (by decide +kernel) ⟨Nat.le_of_ble_eq_true rfl, Nat.le_of_ble_eq_true rfl⟩) hK hw hAw (ws_recv hK hw (q := 0) (Nat.lt_of_lt_of_le (Nat.le_of_ble_eq_true rfl : 0 < 191) hn) (mk_0 cA α) rfl) rfl hl.1 rfl (Nat.le_of_ble_eq_true rfl) dX10_unrealizedAfterSale_2 ⟨Nat.zero_le _, Nat.zero_le _⟩ (fun H locs hw => ?_)
  refine lv_aload_n hx hb dX10_unrealizedAfterSale_5 rfl (lv_at hl 0 rfl) ?_
  refine lv_iload_n hx hb dX10_unrealizedAfterSale_6 rfl (lv_at hl 2 rfl) ?_
  exact x_callXV (q := 0) (C := RX10) (As := [.int y]) (rest := []) ⟨hx, hb, hml, hown, hts⟩ (ct_X10_requireProductX l hst sa D cA α n _ hn S Pn hP9 hP2 y hx9) (cwV 1 hts gX10_unrealizedAfterSale_X10_requireProduct rfl rfl rfl (by decide +kernel) ⟨Nat.le_of_ble_eq_true rfl, Nat.le_of_ble_eq_true rfl⟩) hK hw hsz hZ hSx (ws_recv hK hw (q := 0) (Nat.lt_of_lt_of_le (Nat.le_of_ble_eq_true rfl : 0 < 191) hn) (mk_0 cA α) rfl) rfl hl.1 rfl (Nat.le_of_ble_eq_true rfl) dX10_unrealizedAfterSale_7 ⟨Nat.le_of_ble_eq_true rfl, Nat.le_of_ble_eq_true rfl⟩ hout hlocks rfl

set_option maxRecDepth 100000 in
set_option maxHeartbeats 1000000 in
theorem ct_X10_unrealizedAfterSaleY (l : Launch) (hst : l.stackTraces = false) (sa : Nat → Nat) (D : va_G) (cA : Nat → ClassId) (α : Nat → Nat) (n sz : Nat) (hn : 191 ≤ n) (S : Mem) (Cn : Nat) (hC : S.1 23 1 = nI Cn) (hC2 : Cn ≤ 6) (Pn : Nat) (hP9 : S.1 23 2 = nI Pn) (hP2 : Pn ≤ 6) (a b : Nat) (ha : a < Cn) (hb0 : b < Pn) (q9 : Int32) (hx9 : ¬ ∃ i, 0 ≤ i ∧ i ≤ 9999 ∧ q9 = nI i) : CtX sa l yX10_unrealizedAfterSale wsX10_unrealizedAfterSale ({ frames := 7, cells := 1, slots := 6, locals := 123 }) D cA α n sz [.ref (α 0), .int (nI a), .int (nI b), .int q9] S eIA := by
  refine ctx_enter cX10_unrealizedAfterSale 4 (some .long) (by decide) rfl (Nat.le_of_ble_eq_true rfl) ?_
  intro p e s m below meth c hx hb hr hml hlocks hown hts hK hsz hw hZ hSx hout ls hl
  have hown : s.vm.findClass RX10 = some m.cls := hown
  have hAw : ∀ z, Aw α n s.heap.size z → Aw α n sz z := by rw [hsz]; exact fun _ h => h
  have hl : lv_has ls 4 [(0, .ref (α 0)), (1, .int (nI a)), (2, .int (nI b)), (3, .int q9)] := hl
  refine lv_aload_n hx hb dX10_unrealizedAfterSale_0 rfl (lv_at hl 0 rfl) ?_
  refine lv_iload_n hx hb dX10_unrealizedAfterSale_1 rfl (lv_at hl 1 rfl) ?_
  refine x_callVVr (q := 0) (C := RX10) (As := [.int (nI a)]) (rest := []) ⟨hx, hb, hml, hown, hts⟩ (ct_X10_requireCompany l D cA α n _ hn S Cn hC hC2 a ha) (cwV 1 hts gX10_unrealizedAfterSale_X10_requireCompany rfl rfl rfl (by decide +kernel) ⟨Nat.le_of_ble_eq_true rfl, Nat.le_of_ble_eq_true rfl⟩) hK hw hAw (ws_recv hK hw (q := 0) (Nat.lt_of_lt_of_le (Nat.le_of_ble_eq_true rfl : 0 < 191) hn) (mk_0 cA α) rfl) rfl hl.1 rfl (Nat.le_of_ble_eq_true rfl) dX10_unrealizedAfterSale_2 ⟨Nat.zero_le _, Nat.zero_le _⟩ (fun H locs hw => ?_)
  refine lv_aload_n hx hb dX10_unrealizedAfterSale_5 rfl (lv_at hl 0 rfl) ?_
  refine lv_iload_n hx hb dX10_unrealizedAfterSale_6 rfl (lv_at hl 2 rfl) ?_
  refine x_callVVr (q := 0) (C := RX10) (As := [.int (nI b)]) (rest := []) ⟨hx, hb, hml, hown, hts⟩ (ct_X10_requireProduct l D cA α n _ hn S Pn hP9 hP2 b hb0) (cwV 1 hts gX10_unrealizedAfterSale_X10_requireProduct rfl rfl rfl (by decide +kernel) ⟨Nat.le_of_ble_eq_true rfl, Nat.le_of_ble_eq_true rfl⟩) hK hw hAw (ws_recv hK hw (q := 0) (Nat.lt_of_lt_of_le (Nat.le_of_ble_eq_true rfl : 0 < 191) hn) (mk_0 cA α) rfl) rfl hl.1 rfl (Nat.le_of_ble_eq_true rfl) dX10_unrealizedAfterSale_7 ⟨Nat.zero_le _, Nat.zero_le _⟩ (fun H locs hw => ?_)
  refine lv_iload_n hx hb dX10_unrealizedAfterSale_10 rfl (lv_at hl 3 rfl) ?_
  refine lv_iconst (v := nI 0) hx hb dX10_unrealizedAfterSale_11 (by decide) ?_
  refine lv_sipush (v := nI 9999) hx hb dX10_unrealizedAfterSale_12 (by decide) ?_
  exact x_callXS (As := [.int q9, .int (nI 0), .int (nI 9999)]) (rest := []) ⟨hx, hb, hml, hown, hts⟩ (ct_X10_requireRangeX l hst sa D cA α n _ hn S q9 0 9999 (by decide) (by decide) hx9) (va_cwS 3 hts gX10_unrealizedAfterSale_X10_requireRange rfl rfl rfl (by decide +kernel) ⟨Nat.le_of_ble_eq_true rfl, Nat.le_of_ble_eq_true rfl⟩) hK hw hsz hZ hSx rfl hl.1 rfl (Nat.le_of_ble_eq_true rfl) dX10_unrealizedAfterSale_15 ⟨Nat.le_of_ble_eq_true rfl, Nat.le_of_ble_eq_true rfl⟩ hout hlocks rfl

set_option maxRecDepth 100000 in
set_option maxHeartbeats 1000000 in
theorem ct_X10_unrealizedAfterSaleZ (l : Launch) (hst : l.stackTraces = false) (sa : Nat → Nat) (D : va_G) (cA : Nat → ClassId) (α : Nat → Nat) (n sz : Nat) (hn : 191 ≤ n) (S : Mem) (Cn : Nat) (hC : S.1 23 1 = nI Cn) (hC2 : Cn ≤ 6) (Pn : Nat) (hP9 : S.1 23 2 = nI Pn) (hP2 : Pn ≤ 6) (a b : Nat) (ha : a < Cn) (hb0 : b < Pn) (q9 : Int32) (h1 : ∃ i, 0 ≤ i ∧ i ≤ 9999 ∧ q9 = nI i) (M : Nat) (hM : S.1 74 1 = nI M) (hM2 : M ≤ 100) (hct : cCan S (nI a) b q9 M = false) : CtX sa l yX10_unrealizedAfterSale wsX10_unrealizedAfterSale ({ frames := 7, cells := 1, slots := 6, locals := 123 }) D cA α n sz [.ref (α 0), .int (nI a), .int (nI b), .int q9] S eIS := by
  refine ctx_enter cX10_unrealizedAfterSale 4 (some .long) (by decide) rfl (Nat.le_of_ble_eq_true rfl) ?_
  intro p e s m below meth c hx hb hr hml hlocks hown hts hK hsz hw hZ hSx hout ls hl
  have hown : s.vm.findClass RX10 = some m.cls := hown
  have hAw : ∀ z, Aw α n s.heap.size z → Aw α n sz z := by rw [hsz]; exact fun _ h => h
  have hl : lv_has ls 4 [(0, .ref (α 0)), (1, .int (nI a)), (2, .int (nI b)), (3, .int q9)] := hl
  refine lv_aload_n hx hb dX10_unrealizedAfterSale_0 rfl (lv_at hl 0 rfl) ?_
  refine lv_iload_n hx hb dX10_unrealizedAfterSale_1 rfl (lv_at hl 1 rfl) ?_
  refine x_callVVr (q := 0) (C := RX10) (As := [.int (nI a)]) (rest := []) ⟨hx, hb, hml, hown, hts⟩ (ct_X10_requireCompany l D cA α n _ hn S Cn hC hC2 a ha) (cwV 1 hts gX10_unrealizedAfterSale_X10_requireCompany rfl rfl rfl (by decide +kernel) ⟨Nat.le_of_ble_eq_true rfl, Nat.le_of_ble_eq_true rfl⟩) hK hw hAw (ws_recv hK hw (q := 0) (Nat.lt_of_lt_of_le (Nat.le_of_ble_eq_true rfl : 0 < 191) hn) (mk_0 cA α) rfl) rfl hl.1 rfl (Nat.le_of_ble_eq_true rfl) dX10_unrealizedAfterSale_2 ⟨Nat.zero_le _, Nat.zero_le _⟩ (fun H locs hw => ?_)
  refine lv_aload_n hx hb dX10_unrealizedAfterSale_5 rfl (lv_at hl 0 rfl) ?_
  refine lv_iload_n hx hb dX10_unrealizedAfterSale_6 rfl (lv_at hl 2 rfl) ?_
  refine x_callVVr (q := 0) (C := RX10) (As := [.int (nI b)]) (rest := []) ⟨hx, hb, hml, hown, hts⟩ (ct_X10_requireProduct l D cA α n _ hn S Pn hP9 hP2 b hb0) (cwV 1 hts gX10_unrealizedAfterSale_X10_requireProduct rfl rfl rfl (by decide +kernel) ⟨Nat.le_of_ble_eq_true rfl, Nat.le_of_ble_eq_true rfl⟩) hK hw hAw (ws_recv hK hw (q := 0) (Nat.lt_of_lt_of_le (Nat.le_of_ble_eq_true rfl : 0 < 191) hn) (mk_0 cA α) rfl) rfl hl.1 rfl (Nat.le_of_ble_eq_true rfl) dX10_unrealizedAfterSale_7 ⟨Nat.zero_le _, Nat.zero_le _⟩ (fun H locs hw => ?_)
  refine lv_iload_n hx hb dX10_unrealizedAfterSale_10 rfl (lv_at hl 3 rfl) ?_
  refine lv_iconst (v := nI 0) hx hb dX10_unrealizedAfterSale_11 (by decide) ?_
  refine lv_sipush (v := nI 9999) hx hb dX10_unrealizedAfterSale_12 (by decide) ?_
  refine x_callSVr (q := 0) (C := RX0) (As := [.int q9, .int (nI 0), .int (nI 9999)]) (rest := []) ⟨hx, hb, hml, hown, hts⟩ (ct_X10_requireRange l D cA α n _ hn S q9 0 9999 (by decide) (by decide) h1) (va_cwS 3 hts gX10_unrealizedAfterSale_X10_requireRange rfl rfl rfl (by decide +kernel) ⟨Nat.le_of_ble_eq_true rfl, Nat.le_of_ble_eq_true rfl⟩) hK hw hAw rfl hl.1 rfl (Nat.le_of_ble_eq_true rfl) dX10_unrealizedAfterSale_15 ⟨Nat.zero_le _, Nat.zero_le _⟩ (fun H locs hw => ?_)
  refine lv_aload_n hx hb dX10_unrealizedAfterSale_18 rfl (lv_at hl 0 rfl) ?_
  refine lv_iload_n hx hb dX10_unrealizedAfterSale_19 rfl (lv_at hl 1 rfl) ?_
  refine lv_iload_n hx hb dX10_unrealizedAfterSale_20 rfl (lv_at hl 2 rfl) ?_
  refine lv_iload_n hx hb dX10_unrealizedAfterSale_21 rfl (lv_at hl 3 rfl) ?_
  exact x_callXV (q := 0) (C := RX10) (As := [.int (nI a), .int (nI b), .int q9]) (rest := []) ⟨hx, hb, hml, hown, hts⟩ (ct_X10_requirePiecesX l hst sa D cA α n _ hn S (nI a) b q9 (by omega) M hM hM2 hct) (cwV 3 hts gX10_unrealizedAfterSale_X10_requirePieces rfl rfl rfl (by decide +kernel) ⟨Nat.le_of_ble_eq_true rfl, Nat.le_of_ble_eq_true rfl⟩) hK hw hsz hZ hSx (ws_recv hK hw (q := 0) (Nat.lt_of_lt_of_le (Nat.le_of_ble_eq_true rfl : 0 < 191) hn) (mk_0 cA α) rfl) rfl hl.1 rfl (Nat.le_of_ble_eq_true rfl) dX10_unrealizedAfterSale_22 ⟨Nat.le_of_ble_eq_true rfl, Nat.le_of_ble_eq_true rfl⟩ hout hlocks rfl
