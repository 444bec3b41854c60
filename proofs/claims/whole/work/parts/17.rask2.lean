/-! the reference: further answers -/

set_option maxRecDepth 100000 in
set_option maxHeartbeats 1000000 in
theorem ct_X11_size0 (l : Launch) (D : va_G) (cA : Nat → ClassId) (α : Nat → Nat) (n sz : Nat) (hn : 191 ≤ n) (S : Mem)  : CtI l yX11_size wsX11_size ({ frames := 1, cells := 0, slots := 0, locals := 21 }) D cA α n sz [.ref (α 30), .int (nI 0)] S (S.1 33 0) (setI S 30 0 (nI 0)) := by
  refine ct_enter cX11_size 2 (some .int) (by decide) rfl (Nat.le_of_ble_eq_true rfl) ?_
  intro p e s m below meth c hx hb hr hml hlocks hown hts hK hsz hw ls hl
  have hown : s.vm.findClass RX11 = some m.cls := hown
  have hAw : ∀ z, Aw α n s.heap.size z → Aw α n sz z := by rw [hsz]; exact fun _ h => h
  have hl : lv_has ls 2 [(0, .ref (α 30)), (1, .int (nI 0))] := hl
  refine lv_aload_n hx hb dX11_size_0 rfl (lv_at hl 0 rfl) ?_
  refine lv_iconst (v := nI 0) hx hb dX11_size_1 (by decide) ?_
  refine x_putI (x := nI 0) (ty := .int) (C := RX11) (T := TX11) (N := 24) hx hb hts (fun _ h => List.mem_cons_of_mem _ (List.mem_append_right _ h)) tyX11 tyX11_ok nmX11 hown hK hw 30 (Nat.lt_of_lt_of_le (Nat.le_of_ble_eq_true rfl : 30 < 191) hn) (mk_30 cA α) rfl 0 (by decide) (hts _ (List.mem_of_getElem? (i := 1) rfl)) (fun _ h9 => h9) rfl rfl rfl rfl (Nat.le_of_ble_eq_true rfl) rfl dX11_size_2 (fun S1 eS1 H locs hw => ?_)
  refine lv_iload_n hx hb dX11_size_5 rfl (lv_at hl 1 rfl) ?_
  refine lv_tableIn (tgt := 40) (off := 34) hx hb dX11_size_6 (by decide) (by decide) (by decide) (by decide) ?_
  refine lv_aload_n hx hb dX11_size_40 rfl (lv_at hl 0 rfl) ?_
  refine x_get (v := .ref (α 33)) (C := RX11) (T := TX11) (N := 24) hx hb hts (fun _ h => List.mem_cons_of_mem _ (List.mem_append_right _ h)) hown hK hw 30 (Nat.lt_of_lt_of_le (Nat.le_of_ble_eq_true rfl : 30 < 191) hn) (mk_30 cA α) rfl 11 (by decide) (hts _ (List.mem_of_getElem? (i := 2) rfl)) (fun _ h9 => h9) rfl dX11_size_41 ?_
  refine lv_iconst (v := nI 0) hx hb dX11_size_44 (by decide) ?_
  refine x_iald hx hb hK hw 33 40 (Nat.lt_of_lt_of_le (Nat.le_of_ble_eq_true rfl : 33 < 191) hn) (mk_33 cA α) 0 rfl (by decide) (by decide) dX11_size_45 ?_
  exact ret_i hx hb hr hlocks hK hw dX11_size_46 (by subst_vars; rfl) (by subst_vars; rfl)

set_option maxRecDepth 100000 in
set_option maxHeartbeats 1000000 in
theorem ct_X11_size1 (l : Launch) (D : va_G) (cA : Nat → ClassId) (α : Nat → Nat) (n sz : Nat) (hn : 191 ≤ n) (S : Mem)  : CtI l yX11_size wsX11_size ({ frames := 1, cells := 0, slots := 0, locals := 21 }) D cA α n sz [.ref (α 30), .int (nI 1)] S (S.1 33 1) (setI S 30 0 (nI 0)) := by
  refine ct_enter cX11_size 2 (some .int) (by decide) rfl (Nat.le_of_ble_eq_true rfl) ?_
  intro p e s m below meth c hx hb hr hml hlocks hown hts hK hsz hw ls hl
  have hown : s.vm.findClass RX11 = some m.cls := hown
  have hAw : ∀ z, Aw α n s.heap.size z → Aw α n sz z := by rw [hsz]; exact fun _ h => h
  have hl : lv_has ls 2 [(0, .ref (α 30)), (1, .int (nI 1))] := hl
  refine lv_aload_n hx hb dX11_size_0 rfl (lv_at hl 0 rfl) ?_
  refine lv_iconst (v := nI 0) hx hb dX11_size_1 (by decide) ?_
  refine x_putI (x := nI 0) (ty := .int) (C := RX11) (T := TX11) (N := 24) hx hb hts (fun _ h => List.mem_cons_of_mem _ (List.mem_append_right _ h)) tyX11 tyX11_ok nmX11 hown hK hw 30 (Nat.lt_of_lt_of_le (Nat.le_of_ble_eq_true rfl : 30 < 191) hn) (mk_30 cA α) rfl 0 (by decide) (hts _ (List.mem_of_getElem? (i := 1) rfl)) (fun _ h9 => h9) rfl rfl rfl rfl (Nat.le_of_ble_eq_true rfl) rfl dX11_size_2 (fun S1 eS1 H locs hw => ?_)
  refine lv_iload_n hx hb dX11_size_5 rfl (lv_at hl 1 rfl) ?_
  refine lv_tableIn (tgt := 47) (off := 41) hx hb dX11_size_6 (by decide) (by decide) (by decide) (by decide) ?_
  refine lv_aload_n hx hb dX11_size_47 rfl (lv_at hl 0 rfl) ?_
  refine x_get (v := .ref (α 33)) (C := RX11) (T := TX11) (N := 24) hx hb hts (fun _ h => List.mem_cons_of_mem _ (List.mem_append_right _ h)) hown hK hw 30 (Nat.lt_of_lt_of_le (Nat.le_of_ble_eq_true rfl : 30 < 191) hn) (mk_30 cA α) rfl 11 (by decide) (hts _ (List.mem_of_getElem? (i := 2) rfl)) (fun _ h9 => h9) rfl dX11_size_48 ?_
  refine lv_iconst (v := nI 1) hx hb dX11_size_51 (by decide) ?_
  refine x_iald hx hb hK hw 33 40 (Nat.lt_of_lt_of_le (Nat.le_of_ble_eq_true rfl : 33 < 191) hn) (mk_33 cA α) 1 rfl (by decide) (by decide) dX11_size_52 ?_
  exact ret_i hx hb hr hlocks hK hw dX11_size_53 (by subst_vars; rfl) (by subst_vars; rfl)

set_option maxRecDepth 100000 in
set_option maxHeartbeats 1000000 in
theorem ct_X11_size2 (l : Launch) (D : va_G) (cA : Nat → ClassId) (α : Nat → Nat) (n sz : Nat) (hn : 191 ≤ n) (S : Mem)  : CtI l yX11_size wsX11_size ({ frames := 1, cells := 0, slots := 0, locals := 21 }) D cA α n sz [.ref (α 30), .int (nI 2)] S (S.1 33 2) (setI S 30 0 (nI 0)) := by
  refine ct_enter cX11_size 2 (some .int) (by decide) rfl (Nat.le_of_ble_eq_true rfl) ?_
  intro p e s m below meth c hx hb hr hml hlocks hown hts hK hsz hw ls hl
  have hown : s.vm.findClass RX11 = some m.cls := hown
  have hAw : ∀ z, Aw α n s.heap.size z → Aw α n sz z := by rw [hsz]; exact fun _ h => h
  have hl : lv_has ls 2 [(0, .ref (α 30)), (1, .int (nI 2))] := hl
  refine lv_aload_n hx hb dX11_size_0 rfl (lv_at hl 0 rfl) ?_
  refine lv_iconst (v := nI 0) hx hb dX11_size_1 (by decide) ?_
  refine x_putI (x := nI 0) (ty := .int) (C := RX11) (T := TX11) (N := 24) hx hb hts (fun _ h => List.mem_cons_of_mem _ (List.mem_append_right _ h)) tyX11 tyX11_ok nmX11 hown hK hw 30 (Nat.lt_of_lt_of_le (Nat.le_of_ble_eq_true rfl : 30 < 191) hn) (mk_30 cA α) rfl 0 (by decide) (hts _ (List.mem_of_getElem? (i := 1) rfl)) (fun _ h9 => h9) rfl rfl rfl rfl (Nat.le_of_ble_eq_true rfl) rfl dX11_size_2 (fun S1 eS1 H locs hw => ?_)
  refine lv_iload_n hx hb dX11_size_5 rfl (lv_at hl 1 rfl) ?_
  refine lv_tableIn (tgt := 54) (off := 48) hx hb dX11_size_6 (by decide) (by decide) (by decide) (by decide) ?_
  refine lv_aload_n hx hb dX11_size_54 rfl (lv_at hl 0 rfl) ?_
  refine x_get (v := .ref (α 33)) (C := RX11) (T := TX11) (N := 24) hx hb hts (fun _ h => List.mem_cons_of_mem _ (List.mem_append_right _ h)) hown hK hw 30 (Nat.lt_of_lt_of_le (Nat.le_of_ble_eq_true rfl : 30 < 191) hn) (mk_30 cA α) rfl 11 (by decide) (hts _ (List.mem_of_getElem? (i := 2) rfl)) (fun _ h9 => h9) rfl dX11_size_55 ?_
  refine lv_iconst (v := nI 2) hx hb dX11_size_58 (by decide) ?_
  refine x_iald hx hb hK hw 33 40 (Nat.lt_of_lt_of_le (Nat.le_of_ble_eq_true rfl : 33 < 191) hn) (mk_33 cA α) 2 rfl (by decide) (by decide) dX11_size_59 ?_
  exact ret_i hx hb hr hlocks hK hw dX11_size_60 (by subst_vars; rfl) (by subst_vars; rfl)

set_option maxRecDepth 100000 in
set_option maxHeartbeats 1000000 in
theorem ct_X11_size3 (l : Launch) (D : va_G) (cA : Nat → ClassId) (α : Nat → Nat) (n sz : Nat) (hn : 191 ≤ n) (S : Mem)  : CtI l yX11_size wsX11_size ({ frames := 1, cells := 0, slots := 0, locals := 21 }) D cA α n sz [.ref (α 30), .int (nI 3)] S (S.1 34 0) (setI S 30 0 (nI 0)) := by
  refine ct_enter cX11_size 2 (some .int) (by decide) rfl (Nat.le_of_ble_eq_true rfl) ?_
  intro p e s m below meth c hx hb hr hml hlocks hown hts hK hsz hw ls hl
  have hown : s.vm.findClass RX11 = some m.cls := hown
  have hAw : ∀ z, Aw α n s.heap.size z → Aw α n sz z := by rw [hsz]; exact fun _ h => h
  have hl : lv_has ls 2 [(0, .ref (α 30)), (1, .int (nI 3))] := hl
  refine lv_aload_n hx hb dX11_size_0 rfl (lv_at hl 0 rfl) ?_
  refine lv_iconst (v := nI 0) hx hb dX11_size_1 (by decide) ?_
  refine x_putI (x := nI 0) (ty := .int) (C := RX11) (T := TX11) (N := 24) hx hb hts (fun _ h => List.mem_cons_of_mem _ (List.mem_append_right _ h)) tyX11 tyX11_ok nmX11 hown hK hw 30 (Nat.lt_of_lt_of_le (Nat.le_of_ble_eq_true rfl : 30 < 191) hn) (mk_30 cA α) rfl 0 (by decide) (hts _ (List.mem_of_getElem? (i := 1) rfl)) (fun _ h9 => h9) rfl rfl rfl rfl (Nat.le_of_ble_eq_true rfl) rfl dX11_size_2 (fun S1 eS1 H locs hw => ?_)
  refine lv_iload_n hx hb dX11_size_5 rfl (lv_at hl 1 rfl) ?_
  refine lv_tableIn (tgt := 61) (off := 55) hx hb dX11_size_6 (by decide) (by decide) (by decide) (by decide) ?_
  refine lv_aload_n hx hb dX11_size_61 rfl (lv_at hl 0 rfl) ?_
  refine x_get (v := .ref (α 34)) (C := RX11) (T := TX11) (N := 24) hx hb hts (fun _ h => List.mem_cons_of_mem _ (List.mem_append_right _ h)) hown hK hw 30 (Nat.lt_of_lt_of_le (Nat.le_of_ble_eq_true rfl : 30 < 191) hn) (mk_30 cA α) rfl 13 (by decide) (hts _ (List.mem_of_getElem? (i := 3) rfl)) (fun _ h9 => h9) rfl dX11_size_62 ?_
  refine lv_iconst (v := nI 0) hx hb dX11_size_65 (by decide) ?_
  refine x_iald hx hb hK hw 34 1508 (Nat.lt_of_lt_of_le (Nat.le_of_ble_eq_true rfl : 34 < 191) hn) (mk_34 cA α) 0 rfl (by decide) (by decide) dX11_size_66 ?_
  exact ret_i hx hb hr hlocks hK hw dX11_size_67 (by subst_vars; rfl) (by subst_vars; rfl)

set_option maxRecDepth 100000 in
set_option maxHeartbeats 1000000 in
theorem ct_X11_size4 (l : Launch) (D : va_G) (cA : Nat → ClassId) (α : Nat → Nat) (n sz : Nat) (hn : 191 ≤ n) (S : Mem)  : CtI l yX11_size wsX11_size ({ frames := 1, cells := 0, slots := 0, locals := 21 }) D cA α n sz [.ref (α 30), .int (nI 4)] S (S.1 34 2) (setI S 30 0 (nI 0)) := by
  refine ct_enter cX11_size 2 (some .int) (by decide) rfl (Nat.le_of_ble_eq_true rfl) ?_
  intro p e s m below meth c hx hb hr hml hlocks hown hts hK hsz hw ls hl
  have hown : s.vm.findClass RX11 = some m.cls := hown
  have hAw : ∀ z, Aw α n s.heap.size z → Aw α n sz z := by rw [hsz]; exact fun _ h => h
  have hl : lv_has ls 2 [(0, .ref (α 30)), (1, .int (nI 4))] := hl
  refine lv_aload_n hx hb dX11_size_0 rfl (lv_at hl 0 rfl) ?_
  refine lv_iconst (v := nI 0) hx hb dX11_size_1 (by decide) ?_
  refine x_putI (x := nI 0) (ty := .int) (C := RX11) (T := TX11) (N := 24) hx hb hts (fun _ h => List.mem_cons_of_mem _ (List.mem_append_right _ h)) tyX11 tyX11_ok nmX11 hown hK hw 30 (Nat.lt_of_lt_of_le (Nat.le_of_ble_eq_true rfl : 30 < 191) hn) (mk_30 cA α) rfl 0 (by decide) (hts _ (List.mem_of_getElem? (i := 1) rfl)) (fun _ h9 => h9) rfl rfl rfl rfl (Nat.le_of_ble_eq_true rfl) rfl dX11_size_2 (fun S1 eS1 H locs hw => ?_)
  refine lv_iload_n hx hb dX11_size_5 rfl (lv_at hl 1 rfl) ?_
  refine lv_tableIn (tgt := 68) (off := 62) hx hb dX11_size_6 (by decide) (by decide) (by decide) (by decide) ?_
  refine lv_aload_n hx hb dX11_size_68 rfl (lv_at hl 0 rfl) ?_
  refine x_get (v := .ref (α 34)) (C := RX11) (T := TX11) (N := 24) hx hb hts (fun _ h => List.mem_cons_of_mem _ (List.mem_append_right _ h)) hown hK hw 30 (Nat.lt_of_lt_of_le (Nat.le_of_ble_eq_true rfl : 30 < 191) hn) (mk_30 cA α) rfl 13 (by decide) (hts _ (List.mem_of_getElem? (i := 3) rfl)) (fun _ h9 => h9) rfl dX11_size_69 ?_
  refine lv_iconst (v := nI 2) hx hb dX11_size_72 (by decide) ?_
  refine x_iald hx hb hK hw 34 1508 (Nat.lt_of_lt_of_le (Nat.le_of_ble_eq_true rfl : 34 < 191) hn) (mk_34 cA α) 2 rfl (by decide) (by decide) dX11_size_73 ?_
  exact ret_i hx hb hr hlocks hK hw dX11_size_74 (by subst_vars; rfl) (by subst_vars; rfl)

set_option maxRecDepth 100000 in
set_option maxHeartbeats 1000000 in
theorem ct_X11_sizeX (l : Launch) (D : va_G) (cA : Nat → ClassId) (α : Nat → Nat) (n sz : Nat) (hn : 191 ≤ n) (S : Mem) (x : Int32) (hx9 : x.toInt < 0 ∨ 4 < x.toInt) : CtI l yX11_size wsX11_size ({ frames := 1, cells := 0, slots := 0, locals := 21 }) D cA α n sz [.ref (α 30), .int x] S (nI 0) (setI (setI S 30 0 (nI 0)) 30 0 (nI 1)) := by
  refine ct_enter cX11_size 2 (some .int) (by decide) rfl (Nat.le_of_ble_eq_true rfl) ?_
  intro p e s m below meth c hx hb hr hml hlocks hown hts hK hsz hw ls hl
  have hown : s.vm.findClass RX11 = some m.cls := hown
  have hAw : ∀ z, Aw α n s.heap.size z → Aw α n sz z := by rw [hsz]; exact fun _ h => h
  have hl : lv_has ls 2 [(0, .ref (α 30)), (1, .int x)] := hl
  refine lv_aload_n hx hb dX11_size_0 rfl (lv_at hl 0 rfl) ?_
  refine lv_iconst (v := nI 0) hx hb dX11_size_1 (by decide) ?_
  refine x_putI (x := nI 0) (ty := .int) (C := RX11) (T := TX11) (N := 24) hx hb hts (fun _ h => List.mem_cons_of_mem _ (List.mem_append_right _ h)) tyX11 tyX11_ok nmX11 hown hK hw 30 (Nat.lt_of_lt_of_le (Nat.le_of_ble_eq_true rfl : 30 < 191) hn) (mk_30 cA α) rfl 0 (by decide) (hts _ (List.mem_of_getElem? (i := 1) rfl)) (fun _ h9 => h9) rfl rfl rfl rfl (Nat.le_of_ble_eq_true rfl) rfl dX11_size_2 (fun S1 eS1 H locs hw => ?_)
  refine lv_iload_n hx hb dX11_size_5 rfl (lv_at hl 1 rfl) ?_
  refine lv_tableOut (tgt := 75) hx hb dX11_size_6 hx9 (by decide) ?_
  refine lv_aload_n hx hb dX11_size_75 rfl (lv_at hl 0 rfl) ?_
  refine lv_iconst (v := nI 1) hx hb dX11_size_76 (by decide) ?_
  refine x_callVI (q := 30) (C := RX11) (As := [.int (nI 1)]) (rest := []) ⟨hx, hb, hml, hown, hts⟩ (ct_X11_fail l D cA α n _ hn S1 (nI 1)) (cwV 1 hts gX11_size_X11_fail rfl rfl rfl (by decide +kernel) ⟨Nat.le_of_ble_eq_true rfl, Nat.le_of_ble_eq_true rfl⟩) hK hw hAw (ws_recv hK hw (q := 30) (Nat.lt_of_lt_of_le (Nat.le_of_ble_eq_true rfl : 30 < 191) hn) (mk_30 cA α) rfl) rfl hl.1 rfl (Nat.le_of_ble_eq_true rfl) dX11_size_77 ⟨Nat.zero_le _, Nat.zero_le _⟩ (fun S2 eS2 H locs hw => ?_)
  exact ret_i hx hb hr hlocks hK hw dX11_size_80 rfl (by subst_vars; rfl)

set_option maxRecDepth 100000 in
set_option maxHeartbeats 1000000 in
theorem ct_X11_product0 (l : Launch) (D : va_G) (cA : Nat → ClassId) (α : Nat → Nat) (n sz : Nat) (hn : 191 ≤ n) (S : Mem) (Pn : Nat) (hP9 : S.1 33 2 = nI Pn) (hP2 : Pn ≤ 6) (i : Nat) (hi : i < Pn) : CtI l yX11_product wsX11_product ({ frames := 2, cells := 0, slots := 0, locals := 46 }) D cA α n sz [.ref (α 30), .int (nI i), .int (nI 0)] S (S.1 33 (16 + i)) (setI S 30 0 (nI 0)) := by
  refine ct_enter cX11_product 3 (some .int) (by decide) rfl (Nat.le_of_ble_eq_true rfl) ?_
  intro p e s m below meth c hx hb hr hml hlocks hown hts hK hsz hw ls hl
  have hown : s.vm.findClass RX11 = some m.cls := hown
  have hAw : ∀ z, Aw α n s.heap.size z → Aw α n sz z := by rw [hsz]; exact fun _ h => h
  have hl : lv_has ls 3 [(0, .ref (α 30)), (1, .int (nI i)), (2, .int (nI 0))] := hl
  refine lv_aload_n hx hb dX11_product_0 rfl (lv_at hl 0 rfl) ?_
  refine lv_iconst (v := nI 0) hx hb dX11_product_1 (by decide) ?_
  refine x_putI (x := nI 0) (ty := .int) (C := RX11) (T := TX11) (N := 24) hx hb hts (fun _ h => List.mem_cons_of_mem _ (List.mem_append_right _ h)) tyX11 tyX11_ok nmX11 hown hK hw 30 (Nat.lt_of_lt_of_le (Nat.le_of_ble_eq_true rfl : 30 < 191) hn) (mk_30 cA α) rfl 0 (by decide) (hts _ (List.mem_of_getElem? (i := 1) rfl)) (fun _ h9 => h9) rfl rfl rfl rfl (Nat.le_of_ble_eq_true rfl) rfl dX11_product_2 (fun S1 eS1 H locs hw => ?_)
  refine lv_aload_n hx hb dX11_product_5 rfl (lv_at hl 0 rfl) ?_
  refine lv_iload_n hx hb dX11_product_6 rfl (lv_at hl 1 rfl) ?_
  refine x_callVIr (q := 30) (C := RX11) (As := [.int (nI i)]) (rest := []) ⟨hx, hb, hml, hown, hts⟩ (ct_X11_isProduct l D cA α n _ hn S1 (nI i)) (cwV 1 hts gX11_product_X11_isProduct rfl rfl rfl (by decide +kernel) ⟨Nat.le_of_ble_eq_true rfl, Nat.le_of_ble_eq_true rfl⟩) hK hw hAw (ws_recv hK hw (q := 30) (Nat.lt_of_lt_of_le (Nat.le_of_ble_eq_true rfl : 30 < 191) hn) (mk_30 cA α) rfl) rfl hl.1 rfl (Nat.le_of_ble_eq_true rfl) dX11_product_7 ⟨Nat.zero_le _, Nat.zero_le _⟩ (fun H locs hw => ?_)
  refine xb_ne (b := (isPrR S1 (nI i))) (tgt := 19) hx hb dX11_product_10 (by decide) (fun c1 => ?_) (fun c1 => ?_)
  · skip
    refine lv_iload_n hx hb dX11_product_19 rfl (lv_at hl 2 rfl) ?_
    refine lv_tableIn (tgt := 52) (off := 32) hx hb dX11_product_20 (by decide) (by decide) (by decide) (by decide) ?_
    refine lv_aload_n hx hb dX11_product_52 rfl (lv_at hl 0 rfl) ?_
    refine x_get (v := .ref (α 33)) (C := RX11) (T := TX11) (N := 24) hx hb hts (fun _ h => List.mem_cons_of_mem _ (List.mem_append_right _ h)) hown hK hw 30 (Nat.lt_of_lt_of_le (Nat.le_of_ble_eq_true rfl : 30 < 191) hn) (mk_30 cA α) rfl 11 (by decide) (hts _ (List.mem_of_getElem? (i := 2) rfl)) (fun _ h9 => h9) rfl dX11_product_53 ?_
    refine lv_bipush (v := nI 16) hx hb dX11_product_56 (by decide) ?_
    refine lv_iload_n hx hb dX11_product_58 rfl (lv_at hl 1 rfl) ?_
    refine xn_iadd hx hb dX11_product_59 ?_
    refine x_iald hx hb hK hw 33 40 (Nat.lt_of_lt_of_le (Nat.le_of_ble_eq_true rfl : 33 < 191) hn) (mk_33 cA α) (16 + i) rfl (by omega) (by decide) dX11_product_60 ?_
    exact ret_i hx hb hr hlocks hK hw dX11_product_61 (by subst_vars; rfl) (by subst_vars; rfl)
  · exact absurd (isPr_t (S := S1) (by subst eS1; exact hP9) hP2 hi) (by rw [c1]; decide)

set_option maxRecDepth 100000 in
set_option maxHeartbeats 1000000 in
theorem ct_X11_product1 (l : Launch) (D : va_G) (cA : Nat → ClassId) (α : Nat → Nat) (n sz : Nat) (hn : 191 ≤ n) (S : Mem) (Pn : Nat) (hP9 : S.1 33 2 = nI Pn) (hP2 : Pn ≤ 6) (i : Nat) (hi : i < Pn) : CtI l yX11_product wsX11_product ({ frames := 2, cells := 0, slots := 0, locals := 46 }) D cA α n sz [.ref (α 30), .int (nI i), .int (nI 1)] S (S.1 33 (22 + i)) (setI S 30 0 (nI 0)) := by
  refine ct_enter cX11_product 3 (some .int) (by decide) rfl (Nat.le_of_ble_eq_true rfl) ?_
  intro p e s m below meth c hx hb hr hml hlocks hown hts hK hsz hw ls hl
  have hown : s.vm.findClass RX11 = some m.cls := hown
  have hAw : ∀ z, Aw α n s.heap.size z → Aw α n sz z := by rw [hsz]; exact fun _ h => h
  have hl : lv_has ls 3 [(0, .ref (α 30)), (1, .int (nI i)), (2, .int (nI 1))] := hl
  refine lv_aload_n hx hb dX11_product_0 rfl (lv_at hl 0 rfl) ?_
  refine lv_iconst (v := nI 0) hx hb dX11_product_1 (by decide) ?_
  refine x_putI (x := nI 0) (ty := .int) (C := RX11) (T := TX11) (N := 24) hx hb hts (fun _ h => List.mem_cons_of_mem _ (List.mem_append_right _ h)) tyX11 tyX11_ok nmX11 hown hK hw 30 (Nat.lt_of_lt_of_le (Nat.le_of_ble_eq_true rfl : 30 < 191) hn) (mk_30 cA α) rfl 0 (by decide) (hts _ (List.mem_of_getElem? (i := 1) rfl)) (fun _ h9 => h9) rfl rfl rfl rfl (Nat.le_of_ble_eq_true rfl) rfl dX11_product_2 (fun S1 eS1 H locs hw => ?_)
  refine lv_aload_n hx hb dX11_product_5 rfl (lv_at hl 0 rfl) ?_
  refine lv_iload_n hx hb dX11_product_6 rfl (lv_at hl 1 rfl) ?_
  refine x_callVIr (q := 30) (C := RX11) (As := [.int (nI i)]) (rest := []) ⟨hx, hb, hml, hown, hts⟩ (ct_X11_isProduct l D cA α n _ hn S1 (nI i)) (cwV 1 hts gX11_product_X11_isProduct rfl rfl rfl (by decide +kernel) ⟨Nat.le_of_ble_eq_true rfl, Nat.le_of_ble_eq_true rfl⟩) hK hw hAw (ws_recv hK hw (q := 30) (Nat.lt_of_lt_of_le (Nat.le_of_ble_eq_true rfl : 30 < 191) hn) (mk_30 cA α) rfl) rfl hl.1 rfl (Nat.le_of_ble_eq_true rfl) dX11_product_7 ⟨Nat.zero_le _, Nat.zero_le _⟩ (fun H locs hw => ?_)
  refine xb_ne (b := (isPrR S1 (nI i))) (tgt := 19) hx hb dX11_product_10 (by decide) (fun c1 => ?_) (fun c1 => ?_)
  · skip
    refine lv_iload_n hx hb dX11_product_19 rfl (lv_at hl 2 rfl) ?_
    refine lv_tableIn (tgt := 62) (off := 42) hx hb dX11_product_20 (by decide) (by decide) (by decide) (by decide) ?_
    refine lv_aload_n hx hb dX11_product_62 rfl (lv_at hl 0 rfl) ?_
    refine x_get (v := .ref (α 33)) (C := RX11) (T := TX11) (N := 24) hx hb hts (fun _ h => List.mem_cons_of_mem _ (List.mem_append_right _ h)) hown hK hw 30 (Nat.lt_of_lt_of_le (Nat.le_of_ble_eq_true rfl : 30 < 191) hn) (mk_30 cA α) rfl 11 (by decide) (hts _ (List.mem_of_getElem? (i := 2) rfl)) (fun _ h9 => h9) rfl dX11_product_63 ?_
    refine lv_bipush (v := nI 22) hx hb dX11_product_66 (by decide) ?_
    refine lv_iload_n hx hb dX11_product_68 rfl (lv_at hl 1 rfl) ?_
    refine xn_iadd hx hb dX11_product_69 ?_
    refine x_iald hx hb hK hw 33 40 (Nat.lt_of_lt_of_le (Nat.le_of_ble_eq_true rfl : 33 < 191) hn) (mk_33 cA α) (22 + i) rfl (by omega) (by decide) dX11_product_70 ?_
    exact ret_i hx hb hr hlocks hK hw dX11_product_71 (by subst_vars; rfl) (by subst_vars; rfl)
  · exact absurd (isPr_t (S := S1) (by subst eS1; exact hP9) hP2 hi) (by rw [c1]; decide)

set_option maxRecDepth 100000 in
set_option maxHeartbeats 1000000 in
theorem ct_X11_product2 (l : Launch) (D : va_G) (cA : Nat → ClassId) (α : Nat → Nat) (n sz : Nat) (hn : 191 ≤ n) (S : Mem) (Pn : Nat) (hP9 : S.1 33 2 = nI Pn) (hP2 : Pn ≤ 6) (i : Nat) (hi : i < Pn) : CtI l yX11_product wsX11_product ({ frames := 2, cells := 0, slots := 0, locals := 46 }) D cA α n sz [.ref (α 30), .int (nI i), .int (nI 2)] S (rBnd S i 28) (setI S 30 0 (nI 0)) := by
  refine ct_enter cX11_product 3 (some .int) (by decide) rfl (Nat.le_of_ble_eq_true rfl) ?_
  intro p e s m below meth c hx hb hr hml hlocks hown hts hK hsz hw ls hl
  have hown : s.vm.findClass RX11 = some m.cls := hown
  have hAw : ∀ z, Aw α n s.heap.size z → Aw α n sz z := by rw [hsz]; exact fun _ h => h
  have hl : lv_has ls 3 [(0, .ref (α 30)), (1, .int (nI i)), (2, .int (nI 2))] := hl
  refine lv_aload_n hx hb dX11_product_0 rfl (lv_at hl 0 rfl) ?_
  refine lv_iconst (v := nI 0) hx hb dX11_product_1 (by decide) ?_
  refine x_putI (x := nI 0) (ty := .int) (C := RX11) (T := TX11) (N := 24) hx hb hts (fun _ h => List.mem_cons_of_mem _ (List.mem_append_right _ h)) tyX11 tyX11_ok nmX11 hown hK hw 30 (Nat.lt_of_lt_of_le (Nat.le_of_ble_eq_true rfl : 30 < 191) hn) (mk_30 cA α) rfl 0 (by decide) (hts _ (List.mem_of_getElem? (i := 1) rfl)) (fun _ h9 => h9) rfl rfl rfl rfl (Nat.le_of_ble_eq_true rfl) rfl dX11_product_2 (fun S1 eS1 H locs hw => ?_)
  refine lv_aload_n hx hb dX11_product_5 rfl (lv_at hl 0 rfl) ?_
  refine lv_iload_n hx hb dX11_product_6 rfl (lv_at hl 1 rfl) ?_
  refine x_callVIr (q := 30) (C := RX11) (As := [.int (nI i)]) (rest := []) ⟨hx, hb, hml, hown, hts⟩ (ct_X11_isProduct l D cA α n _ hn S1 (nI i)) (cwV 1 hts gX11_product_X11_isProduct rfl rfl rfl (by decide +kernel) ⟨Nat.le_of_ble_eq_true rfl, Nat.le_of_ble_eq_true rfl⟩) hK hw hAw (ws_recv hK hw (q := 30) (Nat.lt_of_lt_of_le (Nat.le_of_ble_eq_true rfl : 30 < 191) hn) (mk_30 cA α) rfl) rfl hl.1 rfl (Nat.le_of_ble_eq_true rfl) dX11_product_7 ⟨Nat.zero_le _, Nat.zero_le _⟩ (fun H locs hw => ?_)
  refine xb_ne (b := (isPrR S1 (nI i))) (tgt := 19) hx hb dX11_product_10 (by decide) (fun c1 => ?_) (fun c1 => ?_)
  · skip
    refine lv_iload_n hx hb dX11_product_19 rfl (lv_at hl 2 rfl) ?_
    refine lv_tableIn (tgt := 72) (off := 52) hx hb dX11_product_20 (by decide) (by decide) (by decide) (by decide) ?_
    refine lv_aload_n hx hb dX11_product_72 rfl (lv_at hl 0 rfl) ?_
    refine lv_iload_n hx hb dX11_product_73 rfl (lv_at hl 1 rfl) ?_
    refine lv_bipush (v := nI 28) hx hb dX11_product_74 (by decide) ?_
    refine x_callVIr (q := 30) (C := RX11) (As := [.int (nI i), .int (nI 28)]) (rest := []) ⟨hx, hb, hml, hown, hts⟩ (ct_X11_bound l D cA α n _ hn S1 i 28 (by omega) (by decide)) (cwV 2 hts gX11_product_X11_bound rfl rfl rfl (by decide +kernel) ⟨Nat.le_of_ble_eq_true rfl, Nat.le_of_ble_eq_true rfl⟩) hK hw hAw (ws_recv hK hw (q := 30) (Nat.lt_of_lt_of_le (Nat.le_of_ble_eq_true rfl : 30 < 191) hn) (mk_30 cA α) rfl) rfl hl.1 rfl (Nat.le_of_ble_eq_true rfl) dX11_product_76 ⟨Nat.zero_le _, Nat.zero_le _⟩ (fun H locs hw => ?_)
    exact ret_i hx hb hr hlocks hK hw dX11_product_79 (by subst_vars; rfl) (by subst_vars; rfl)
  · exact absurd (isPr_t (S := S1) (by subst eS1; exact hP9) hP2 hi) (by rw [c1]; decide)

set_option maxRecDepth 100000 in
set_option maxHeartbeats 1000000 in
theorem ct_X11_product3 (l : Launch) (D : va_G) (cA : Nat → ClassId) (α : Nat → Nat) (n sz : Nat) (hn : 191 ≤ n) (S : Mem) (Pn : Nat) (hP9 : S.1 33 2 = nI Pn) (hP2 : Pn ≤ 6) (i : Nat) (hi : i < Pn) : CtI l yX11_product wsX11_product ({ frames := 2, cells := 0, slots := 0, locals := 46 }) D cA α n sz [.ref (α 30), .int (nI i), .int (nI 3)] S (rBnd S i 34) (setI S 30 0 (nI 0)) := by
  refine ct_enter cX11_product 3 (some .int) (by decide) rfl (Nat.le_of_ble_eq_true rfl) ?_
  intro p e s m below meth c hx hb hr hml hlocks hown hts hK hsz hw ls hl
  have hown : s.vm.findClass RX11 = some m.cls := hown
  have hAw : ∀ z, Aw α n s.heap.size z → Aw α n sz z := by rw [hsz]; exact fun _ h => h
  have hl : lv_has ls 3 [(0, .ref (α 30)), (1, .int (nI i)), (2, .int (nI 3))] := hl
  refine lv_aload_n hx hb dX11_product_0 rfl (lv_at hl 0 rfl) ?_
  refine lv_iconst (v := nI 0) hx hb dX11_product_1 (by decide) ?_
  refine x_putI (x := nI 0) (ty := .int) (C := RX11) (T := TX11) (N := 24) hx hb hts (fun _ h => List.mem_cons_of_mem _ (List.mem_append_right _ h)) tyX11 tyX11_ok nmX11 hown hK hw 30 (Nat.lt_of_lt_of_le (Nat.le_of_ble_eq_true rfl : 30 < 191) hn) (mk_30 cA α) rfl 0 (by decide) (hts _ (List.mem_of_getElem? (i := 1) rfl)) (fun _ h9 => h9) rfl rfl rfl rfl (Nat.le_of_ble_eq_true rfl) rfl dX11_product_2 (fun S1 eS1 H locs hw => ?_)
  refine lv_aload_n hx hb dX11_product_5 rfl (lv_at hl 0 rfl) ?_
  refine lv_iload_n hx hb dX11_product_6 rfl (lv_at hl 1 rfl) ?_
  refine x_callVIr (q := 30) (C := RX11) (As := [.int (nI i)]) (rest := []) ⟨hx, hb, hml, hown, hts⟩ (ct_X11_isProduct l D cA α n _ hn S1 (nI i)) (cwV 1 hts gX11_product_X11_isProduct rfl rfl rfl (by decide +kernel) ⟨Nat.le_of_ble_eq_true rfl, Nat.le_of_ble_eq_true rfl⟩) hK hw hAw (ws_recv hK hw (q := 30) (Nat.lt_of_lt_of_le (Nat.le_of_ble_eq_true rfl : 30 < 191) hn) (mk_30 cA α) rfl) rfl hl.1 rfl (Nat.le_of_ble_eq_true rfl) dX11_product_7 ⟨Nat.zero_le _, Nat.zero_le _⟩ (fun H locs hw => ?_)
  refine xb_ne (b := (isPrR S1 (nI i))) (tgt := 19) hx hb dX11_product_10 (by decide) (fun c1 => ?_) (fun c1 => ?_)
  · skip
    refine lv_iload_n hx hb dX11_product_19 rfl (lv_at hl 2 rfl) ?_
    refine lv_tableIn (tgt := 80) (off := 60) hx hb dX11_product_20 (by decide) (by decide) (by decide) (by decide) ?_
    refine lv_aload_n hx hb dX11_product_80 rfl (lv_at hl 0 rfl) ?_
    refine lv_iload_n hx hb dX11_product_81 rfl (lv_at hl 1 rfl) ?_
    refine lv_bipush (v := nI 34) hx hb dX11_product_82 (by decide) ?_
    refine x_callVIr (q := 30) (C := RX11) (As := [.int (nI i), .int (nI 34)]) (rest := []) ⟨hx, hb, hml, hown, hts⟩ (ct_X11_bound l D cA α n _ hn S1 i 34 (by omega) (by decide)) (cwV 2 hts gX11_product_X11_bound rfl rfl rfl (by decide +kernel) ⟨Nat.le_of_ble_eq_true rfl, Nat.le_of_ble_eq_true rfl⟩) hK hw hAw (ws_recv hK hw (q := 30) (Nat.lt_of_lt_of_le (Nat.le_of_ble_eq_true rfl : 30 < 191) hn) (mk_30 cA α) rfl) rfl hl.1 rfl (Nat.le_of_ble_eq_true rfl) dX11_product_84 ⟨Nat.zero_le _, Nat.zero_le _⟩ (fun H locs hw => ?_)
    exact ret_i hx hb hr hlocks hK hw dX11_product_87 (by subst_vars; rfl) (by subst_vars; rfl)
  · exact absurd (isPr_t (S := S1) (by subst eS1; exact hP9) hP2 hi) (by rw [c1]; decide)

set_option maxRecDepth 100000 in
set_option maxHeartbeats 1000000 in
theorem ct_X11_productX (l : Launch) (D : va_G) (cA : Nat → ClassId) (α : Nat → Nat) (n sz : Nat) (hn : 191 ≤ n) (S : Mem) (Pn : Nat) (hP9 : S.1 33 2 = nI Pn) (hP2 : Pn ≤ 6) (x y : Int32) (hx9 : ¬ ∃ i, i < Pn ∧ x = nI i) : CtI l yX11_product wsX11_product ({ frames := 2, cells := 0, slots := 0, locals := 46 }) D cA α n sz [.ref (α 30), .int x, .int y] S (nI 0) (setI (setI S 30 0 (nI 0)) 30 0 (nI 1)) := by
  refine ct_enter cX11_product 3 (some .int) (by decide) rfl (Nat.le_of_ble_eq_true rfl) ?_
  intro p e s m below meth c hx hb hr hml hlocks hown hts hK hsz hw ls hl
  have hown : s.vm.findClass RX11 = some m.cls := hown
  have hAw : ∀ z, Aw α n s.heap.size z → Aw α n sz z := by rw [hsz]; exact fun _ h => h
  have hl : lv_has ls 3 [(0, .ref (α 30)), (1, .int x), (2, .int y)] := hl
  refine lv_aload_n hx hb dX11_product_0 rfl (lv_at hl 0 rfl) ?_
  refine lv_iconst (v := nI 0) hx hb dX11_product_1 (by decide) ?_
  refine x_putI (x := nI 0) (ty := .int) (C := RX11) (T := TX11) (N := 24) hx hb hts (fun _ h => List.mem_cons_of_mem _ (List.mem_append_right _ h)) tyX11 tyX11_ok nmX11 hown hK hw 30 (Nat.lt_of_lt_of_le (Nat.le_of_ble_eq_true rfl : 30 < 191) hn) (mk_30 cA α) rfl 0 (by decide) (hts _ (List.mem_of_getElem? (i := 1) rfl)) (fun _ h9 => h9) rfl rfl rfl rfl (Nat.le_of_ble_eq_true rfl) rfl dX11_product_2 (fun S1 eS1 H locs hw => ?_)
  refine lv_aload_n hx hb dX11_product_5 rfl (lv_at hl 0 rfl) ?_
  refine lv_iload_n hx hb dX11_product_6 rfl (lv_at hl 1 rfl) ?_
  refine x_callVIr (q := 30) (C := RX11) (As := [.int x]) (rest := []) ⟨hx, hb, hml, hown, hts⟩ (ct_X11_isProduct l D cA α n _ hn S1 x) (cwV 1 hts gX11_product_X11_isProduct rfl rfl rfl (by decide +kernel) ⟨Nat.le_of_ble_eq_true rfl, Nat.le_of_ble_eq_true rfl⟩) hK hw hAw (ws_recv hK hw (q := 30) (Nat.lt_of_lt_of_le (Nat.le_of_ble_eq_true rfl : 30 < 191) hn) (mk_30 cA α) rfl) rfl hl.1 rfl (Nat.le_of_ble_eq_true rfl) dX11_product_7 ⟨Nat.zero_le _, Nat.zero_le _⟩ (fun H locs hw => ?_)
  refine xb_ne (b := (isPrR S1 x)) (tgt := 19) hx hb dX11_product_10 (by decide) (fun c1 => ?_) (fun c1 => ?_)
  · exact absurd (isPr_f (S := S1) (by subst eS1; exact hP9) hP2 hx9) (by rw [c1]; decide)
  · skip
    refine lv_aload_n hx hb dX11_product_13 rfl (lv_at hl 0 rfl) ?_
    refine lv_iconst (v := nI 1) hx hb dX11_product_14 (by decide) ?_
    refine x_callVI (q := 30) (C := RX11) (As := [.int (nI 1)]) (rest := []) ⟨hx, hb, hml, hown, hts⟩ (ct_X11_fail l D cA α n _ hn S1 (nI 1)) (cwV 1 hts gX11_product_X11_fail rfl rfl rfl (by decide +kernel) ⟨Nat.le_of_ble_eq_true rfl, Nat.le_of_ble_eq_true rfl⟩) hK hw hAw (ws_recv hK hw (q := 30) (Nat.lt_of_lt_of_le (Nat.le_of_ble_eq_true rfl : 30 < 191) hn) (mk_30 cA α) rfl) rfl hl.1 rfl (Nat.le_of_ble_eq_true rfl) dX11_product_15 ⟨Nat.zero_le _, Nat.zero_le _⟩ (fun S2 eS2 H locs hw => ?_)
    exact ret_i hx hb hr hlocks hK hw dX11_product_18 rfl (by subst_vars; rfl)

set_option maxRecDepth 100000 in
set_option maxHeartbeats 1000000 in
theorem ct_X11_productY (l : Launch) (D : va_G) (cA : Nat → ClassId) (α : Nat → Nat) (n sz : Nat) (hn : 191 ≤ n) (S : Mem) (Pn : Nat) (hP9 : S.1 33 2 = nI Pn) (hP2 : Pn ≤ 6) (i : Nat) (hi : i < Pn) (y : Int32) (hy9 : y.toInt < 0 ∨ 3 < y.toInt) : CtI l yX11_product wsX11_product ({ frames := 2, cells := 0, slots := 0, locals := 46 }) D cA α n sz [.ref (α 30), .int (nI i), .int y] S (nI 0) (setI (setI S 30 0 (nI 0)) 30 0 (nI 2)) := by
  refine ct_enter cX11_product 3 (some .int) (by decide) rfl (Nat.le_of_ble_eq_true rfl) ?_
  intro p e s m below meth c hx hb hr hml hlocks hown hts hK hsz hw ls hl
  have hown : s.vm.findClass RX11 = some m.cls := hown
  have hAw : ∀ z, Aw α n s.heap.size z → Aw α n sz z := by rw [hsz]; exact fun _ h => h
  have hl : lv_has ls 3 [(0, .ref (α 30)), (1, .int (nI i)), (2, .int y)] := hl
  refine lv_aload_n hx hb dX11_product_0 rfl (lv_at hl 0 rfl) ?_
  refine lv_iconst (v := nI 0) hx hb dX11_product_1 (by decide) ?_
  refine x_putI (x := nI 0) (ty := .int) (C := RX11) (T := TX11) (N := 24) hx hb hts (fun _ h => List.mem_cons_of_mem _ (List.mem_append_right _ h)) tyX11 tyX11_ok nmX11 hown hK hw 30 (Nat.lt_of_lt_of_le (Nat.le_of_ble_eq_true rfl : 30 < 191) hn) (mk_30 cA α) rfl 0 (by decide) (hts _ (List.mem_of_getElem? (i := 1) rfl)) (fun _ h9 => h9) rfl rfl rfl rfl (Nat.le_of_ble_eq_true rfl) rfl dX11_product_2 (fun S1 eS1 H locs hw => ?_)
  refine lv_aload_n hx hb dX11_product_5 rfl (lv_at hl 0 rfl) ?_
  refine lv_iload_n hx hb dX11_product_6 rfl (lv_at hl 1 rfl) ?_
  refine x_callVIr (q := 30) (C := RX11) (As := [.int (nI i)]) (rest := []) ⟨hx, hb, hml, hown, hts⟩ (ct_X11_isProduct l D cA α n _ hn S1 (nI i)) (cwV 1 hts gX11_product_X11_isProduct rfl rfl rfl (by decide +kernel) ⟨Nat.le_of_ble_eq_true rfl, Nat.le_of_ble_eq_true rfl⟩) hK hw hAw (ws_recv hK hw (q := 30) (Nat.lt_of_lt_of_le (Nat.le_of_ble_eq_true rfl : 30 < 191) hn) (mk_30 cA α) rfl) rfl hl.1 rfl (Nat.le_of_ble_eq_true rfl) dX11_product_7 ⟨Nat.zero_le _, Nat.zero_le _⟩ (fun H locs hw => ?_)
  refine xb_ne (b := (isPrR S1 (nI i))) (tgt := 19) hx hb dX11_product_10 (by decide) (fun c1 => ?_) (fun c1 => ?_)
  · skip
    refine lv_iload_n hx hb dX11_product_19 rfl (lv_at hl 2 rfl) ?_
    refine lv_tableOut (tgt := 88) hx hb dX11_product_20 hy9 (by decide) ?_
    refine lv_aload_n hx hb dX11_product_88 rfl (lv_at hl 0 rfl) ?_
    refine lv_iconst (v := nI 2) hx hb dX11_product_89 (by decide) ?_
    refine x_callVI (q := 30) (C := RX11) (As := [.int (nI 2)]) (rest := []) ⟨hx, hb, hml, hown, hts⟩ (ct_X11_fail l D cA α n _ hn S1 (nI 2)) (cwV 1 hts gX11_product_X11_fail rfl rfl rfl (by decide +kernel) ⟨Nat.le_of_ble_eq_true rfl, Nat.le_of_ble_eq_true rfl⟩) hK hw hAw (ws_recv hK hw (q := 30) (Nat.lt_of_lt_of_le (Nat.le_of_ble_eq_true rfl : 30 < 191) hn) (mk_30 cA α) rfl) rfl hl.1 rfl (Nat.le_of_ble_eq_true rfl) dX11_product_90 ⟨Nat.zero_le _, Nat.zero_le _⟩ (fun S2 eS2 H locs hw => ?_)
    exact ret_i hx hb hr hlocks hK hw dX11_product_93 rfl (by subst_vars; rfl)
  · exact absurd (isPr_t (S := S1) (by subst eS1; exact hP9) hP2 hi) (by rw [c1]; decide)

set_option maxRecDepth 100000 in
set_option maxHeartbeats 1000000 in
theorem ct_X11_item (l : Launch) (D : va_G) (cA : Nat → ClassId) (α : Nat → Nat) (n sz : Nat) (hn : 191 ≤ n) (S : Mem) (N : Nat) (hN : S.1 34 0 = nI N) (hN2 : N ≤ 100) (i : Nat) (hi : i < N) (w : Nat) (hw9 : w ≤ 5) : CtI l yX11_item wsX11_item ({ frames := 2, cells := 0, slots := 0, locals := 46 }) D cA α n sz [.ref (α 30), .int (nI i), .int (nI w)] S (S.1 34 (8 + 6 * i + w)) (setI S 30 0 (nI 0)) := by
  refine ct_enter cX11_item 3 (some .int) (by decide) rfl (Nat.le_of_ble_eq_true rfl) ?_
  intro p e s m below meth c hx hb hr hml hlocks hown hts hK hsz hw ls hl
  have hown : s.vm.findClass RX11 = some m.cls := hown
  have hAw : ∀ z, Aw α n s.heap.size z → Aw α n sz z := by rw [hsz]; exact fun _ h => h
  have hl : lv_has ls 3 [(0, .ref (α 30)), (1, .int (nI i)), (2, .int (nI w))] := hl
  refine lv_aload_n hx hb dX11_item_0 rfl (lv_at hl 0 rfl) ?_
  refine lv_iconst (v := nI 0) hx hb dX11_item_1 (by decide) ?_
  refine x_putI (x := nI 0) (ty := .int) (C := RX11) (T := TX11) (N := 24) hx hb hts (fun _ h => List.mem_cons_of_mem _ (List.mem_append_right _ h)) tyX11 tyX11_ok nmX11 hown hK hw 30 (Nat.lt_of_lt_of_le (Nat.le_of_ble_eq_true rfl : 30 < 191) hn) (mk_30 cA α) rfl 0 (by decide) (hts _ (List.mem_of_getElem? (i := 1) rfl)) (fun _ h9 => h9) rfl rfl rfl rfl (Nat.le_of_ble_eq_true rfl) rfl dX11_item_2 (fun S1 eS1 H locs hw => ?_)
  refine lv_aload_n hx hb dX11_item_5 rfl (lv_at hl 0 rfl) ?_
  refine lv_iload_n hx hb dX11_item_6 rfl (lv_at hl 1 rfl) ?_
  refine x_callVIr (q := 30) (C := RX11) (As := [.int (nI i)]) (rest := []) ⟨hx, hb, hml, hown, hts⟩ (ct_X11_isItem l D cA α n _ hn S1 (nI i)) (cwV 1 hts gX11_item_X11_isItem rfl rfl rfl (by decide +kernel) ⟨Nat.le_of_ble_eq_true rfl, Nat.le_of_ble_eq_true rfl⟩) hK hw hAw (ws_recv hK hw (q := 30) (Nat.lt_of_lt_of_le (Nat.le_of_ble_eq_true rfl : 30 < 191) hn) (mk_30 cA α) rfl) rfl hl.1 rfl (Nat.le_of_ble_eq_true rfl) dX11_item_7 ⟨Nat.zero_le _, Nat.zero_le _⟩ (fun H locs hw => ?_)
  refine xb_ne (b := (isItR S1 (nI i))) (tgt := 19) hx hb dX11_item_10 (by decide) (fun c1 => ?_) (fun c1 => ?_)
  · skip
    refine lv_iload_n hx hb dX11_item_19 rfl (lv_at hl 2 rfl) ?_
    refine lv_i2l hx hb dX11_item_20 rfl ?_
    refine lv_lconst (v := 0) hx hb dX11_item_21 (by decide) ?_
    refine lv_ldc2 (v := 5) hx hb hown (hts _ (List.mem_of_getElem? (i := 2) rfl)) dX11_item_22 ?_
    refine x_callSIr (q := 0) (C := RX0) (As := [.long ((nI w).toInt64), .long (0), .long (5)]) (rest := []) ⟨hx, hb, hml, hown, hts⟩ (ct_X11_within l D cA α n _ hn S1 ((nI w).toInt64) (0) (5)) (va_cwS 3 hts gX11_item_X11_within rfl rfl rfl (by decide +kernel) ⟨Nat.le_of_ble_eq_true rfl, Nat.le_of_ble_eq_true rfl⟩) hK hw hAw rfl hl.1 rfl (Nat.le_of_ble_eq_true rfl) dX11_item_25 ⟨Nat.zero_le _, Nat.zero_le _⟩ (fun H locs hw => ?_)
    refine xb_eq (b := (wiL ((nI w).toInt64) (0) (5))) (tgt := 40) hx hb dX11_item_28 (by decide) (fun c2 => ?_) (fun c2 => ?_)
    · exact absurd (show wiL (nI w).toInt64 0 5 = true from w2t (a := 0) (b := 5) (Nat.zero_le _) hw9 (by decide) (by decide)) (by rw [c2]; decide)
    · skip
      refine lv_aload_n hx hb dX11_item_31 rfl (lv_at hl 0 rfl) ?_
      refine lv_iload_n hx hb dX11_item_32 rfl (lv_at hl 1 rfl) ?_
      refine lv_iload_n hx hb dX11_item_33 rfl (lv_at hl 2 rfl) ?_
      refine x_callVIr (q := 30) (C := RX11) (As := [.int (nI i), .int (nI w)]) (rest := []) ⟨hx, hb, hml, hown, hts⟩ (ct_X11_of l D cA α n _ hn S1 i w (by omega)) (cwV 2 hts gX11_item_X11_of rfl rfl rfl (by decide +kernel) ⟨Nat.le_of_ble_eq_true rfl, Nat.le_of_ble_eq_true rfl⟩) hK hw hAw (ws_recv hK hw (q := 30) (Nat.lt_of_lt_of_le (Nat.le_of_ble_eq_true rfl : 30 < 191) hn) (mk_30 cA α) rfl) rfl hl.1 rfl (Nat.le_of_ble_eq_true rfl) dX11_item_34 ⟨Nat.zero_le _, Nat.zero_le _⟩ (fun H locs hw => ?_)
      refine lv_goto (tgt := 45) hx hb dX11_item_37 (by decide) ?_
      exact ret_i hx hb hr hlocks hK hw dX11_item_45 (by subst_vars; rfl) (by subst_vars; rfl)
  · exact absurd (isIt_t (S := S1) (by subst eS1; exact hN) hN2 hi) (by rw [c1]; decide)

set_option maxRecDepth 100000 in
set_option maxHeartbeats 1000000 in
theorem ct_X11_itemX (l : Launch) (D : va_G) (cA : Nat → ClassId) (α : Nat → Nat) (n sz : Nat) (hn : 191 ≤ n) (S : Mem) (N : Nat) (hN : S.1 34 0 = nI N) (hN2 : N ≤ 100) (x y : Int32) (hx9 : ¬ ∃ i, i < N ∧ x = nI i) : CtI l yX11_item wsX11_item ({ frames := 2, cells := 0, slots := 0, locals := 46 }) D cA α n sz [.ref (α 30), .int x, .int y] S (nI 0) (setI (setI S 30 0 (nI 0)) 30 0 (nI 1)) := by
  refine ct_enter cX11_item 3 (some .int) (by decide) rfl (Nat.le_of_ble_eq_true rfl) ?_
  intro p e s m below meth c hx hb hr hml hlocks hown hts hK hsz hw ls hl
  have hown : s.vm.findClass RX11 = some m.cls := hown
  have hAw : ∀ z, Aw α n s.heap.size z → Aw α n sz z := by rw [hsz]; exact fun _ h => h
  have hl : lv_has ls 3 [(0, .ref (α 30)), (1, .int x), (2, .int y)] := hl
  refine lv_aload_n hx hb dX11_item_0 rfl (lv_at hl 0 rfl) ?_
  refine lv_iconst (v := nI 0) hx hb dX11_item_1 (by decide) ?_
  refine x_putI (x := nI 0) (ty := .int) (C := RX11) (T := TX11) (N := 24) hx hb hts (fun _ h => List.mem_cons_of_mem _ (List.mem_append_right _ h)) tyX11 tyX11_ok nmX11 hown hK hw 30 (Nat.lt_of_lt_of_le (Nat.le_of_ble_eq_true rfl : 30 < 191) hn) (mk_30 cA α) rfl 0 (by decide) (hts _ (List.mem_of_getElem? (i := 1) rfl)) (fun _ h9 => h9) rfl rfl rfl rfl (Nat.le_of_ble_eq_true rfl) rfl dX11_item_2 (fun S1 eS1 H locs hw => ?_)
  refine lv_aload_n hx hb dX11_item_5 rfl (lv_at hl 0 rfl) ?_
  refine lv_iload_n hx hb dX11_item_6 rfl (lv_at hl 1 rfl) ?_
  refine x_callVIr (q := 30) (C := RX11) (As := [.int x]) (rest := []) ⟨hx, hb, hml, hown, hts⟩ (ct_X11_isItem l D cA α n _ hn S1 x) (cwV 1 hts gX11_item_X11_isItem rfl rfl rfl (by decide +kernel) ⟨Nat.le_of_ble_eq_true rfl, Nat.le_of_ble_eq_true rfl⟩) hK hw hAw (ws_recv hK hw (q := 30) (Nat.lt_of_lt_of_le (Nat.le_of_ble_eq_true rfl : 30 < 191) hn) (mk_30 cA α) rfl) rfl hl.1 rfl (Nat.le_of_ble_eq_true rfl) dX11_item_7 ⟨Nat.zero_le _, Nat.zero_le _⟩ (fun H locs hw => ?_)
  refine xb_ne (b := (isItR S1 x)) (tgt := 19) hx hb dX11_item_10 (by decide) (fun c1 => ?_) (fun c1 => ?_)
  · exact absurd (isIt_f (S := S1) (by subst eS1; exact hN) hN2 hx9) (by rw [c1]; decide)
  · skip
    refine lv_aload_n hx hb dX11_item_13 rfl (lv_at hl 0 rfl) ?_
    refine lv_iconst (v := nI 1) hx hb dX11_item_14 (by decide) ?_
    refine x_callVI (q := 30) (C := RX11) (As := [.int (nI 1)]) (rest := []) ⟨hx, hb, hml, hown, hts⟩ (ct_X11_fail l D cA α n _ hn S1 (nI 1)) (cwV 1 hts gX11_item_X11_fail rfl rfl rfl (by decide +kernel) ⟨Nat.le_of_ble_eq_true rfl, Nat.le_of_ble_eq_true rfl⟩) hK hw hAw (ws_recv hK hw (q := 30) (Nat.lt_of_lt_of_le (Nat.le_of_ble_eq_true rfl : 30 < 191) hn) (mk_30 cA α) rfl) rfl hl.1 rfl (Nat.le_of_ble_eq_true rfl) dX11_item_15 ⟨Nat.zero_le _, Nat.zero_le _⟩ (fun S2 eS2 H locs hw => ?_)
    exact ret_i hx hb hr hlocks hK hw dX11_item_18 rfl (by subst_vars; rfl)

set_option maxRecDepth 100000 in
set_option maxHeartbeats 1000000 in
theorem ct_X11_itemY (l : Launch) (D : va_G) (cA : Nat → ClassId) (α : Nat → Nat) (n sz : Nat) (hn : 191 ≤ n) (S : Mem) (N : Nat) (hN : S.1 34 0 = nI N) (hN2 : N ≤ 100) (i : Nat) (hi : i < N) (y : Int32) (hy9 : ¬ ∃ i, 0 ≤ i ∧ i ≤ 5 ∧ y = nI i) : CtI l yX11_item wsX11_item ({ frames := 2, cells := 0, slots := 0, locals := 46 }) D cA α n sz [.ref (α 30), .int (nI i), .int y] S (nI 0) (setI (setI S 30 0 (nI 0)) 30 0 (nI 2)) := by
  refine ct_enter cX11_item 3 (some .int) (by decide) rfl (Nat.le_of_ble_eq_true rfl) ?_
  intro p e s m below meth c hx hb hr hml hlocks hown hts hK hsz hw ls hl
  have hown : s.vm.findClass RX11 = some m.cls := hown
  have hAw : ∀ z, Aw α n s.heap.size z → Aw α n sz z := by rw [hsz]; exact fun _ h => h
  have hl : lv_has ls 3 [(0, .ref (α 30)), (1, .int (nI i)), (2, .int y)] := hl
  refine lv_aload_n hx hb dX11_item_0 rfl (lv_at hl 0 rfl) ?_
  refine lv_iconst (v := nI 0) hx hb dX11_item_1 (by decide) ?_
  refine x_putI (x := nI 0) (ty := .int) (C := RX11) (T := TX11) (N := 24) hx hb hts (fun _ h => List.mem_cons_of_mem _ (List.mem_append_right _ h)) tyX11 tyX11_ok nmX11 hown hK hw 30 (Nat.lt_of_lt_of_le (Nat.le_of_ble_eq_true rfl : 30 < 191) hn) (mk_30 cA α) rfl 0 (by decide) (hts _ (List.mem_of_getElem? (i := 1) rfl)) (fun _ h9 => h9) rfl rfl rfl rfl (Nat.le_of_ble_eq_true rfl) rfl dX11_item_2 (fun S1 eS1 H locs hw => ?_)
  refine lv_aload_n hx hb dX11_item_5 rfl (lv_at hl 0 rfl) ?_
  refine lv_iload_n hx hb dX11_item_6 rfl (lv_at hl 1 rfl) ?_
  refine x_callVIr (q := 30) (C := RX11) (As := [.int (nI i)]) (rest := []) ⟨hx, hb, hml, hown, hts⟩ (ct_X11_isItem l D cA α n _ hn S1 (nI i)) (cwV 1 hts gX11_item_X11_isItem rfl rfl rfl (by decide +kernel) ⟨Nat.le_of_ble_eq_true rfl, Nat.le_of_ble_eq_true rfl⟩) hK hw hAw (ws_recv hK hw (q := 30) (Nat.lt_of_lt_of_le (Nat.le_of_ble_eq_true rfl : 30 < 191) hn) (mk_30 cA α) rfl) rfl hl.1 rfl (Nat.le_of_ble_eq_true rfl) dX11_item_7 ⟨Nat.zero_le _, Nat.zero_le _⟩ (fun H locs hw => ?_)
  refine xb_ne (b := (isItR S1 (nI i))) (tgt := 19) hx hb dX11_item_10 (by decide) (fun c1 => ?_) (fun c1 => ?_)
  · skip
    refine lv_iload_n hx hb dX11_item_19 rfl (lv_at hl 2 rfl) ?_
    refine lv_i2l hx hb dX11_item_20 rfl ?_
    refine lv_lconst (v := 0) hx hb dX11_item_21 (by decide) ?_
    refine lv_ldc2 (v := 5) hx hb hown (hts _ (List.mem_of_getElem? (i := 2) rfl)) dX11_item_22 ?_
    refine x_callSIr (q := 0) (C := RX0) (As := [.long (y.toInt64), .long (0), .long (5)]) (rest := []) ⟨hx, hb, hml, hown, hts⟩ (ct_X11_within l D cA α n _ hn S1 (y.toInt64) (0) (5)) (va_cwS 3 hts gX11_item_X11_within rfl rfl rfl (by decide +kernel) ⟨Nat.le_of_ble_eq_true rfl, Nat.le_of_ble_eq_true rfl⟩) hK hw hAw rfl hl.1 rfl (Nat.le_of_ble_eq_true rfl) dX11_item_25 ⟨Nat.zero_le _, Nat.zero_le _⟩ (fun H locs hw => ?_)
    refine xb_eq (b := (wiL (y.toInt64) (0) (5))) (tgt := 40) hx hb dX11_item_28 (by decide) (fun c2 => ?_) (fun c2 => ?_)
    · skip
      refine lv_aload_n hx hb dX11_item_40 rfl (lv_at hl 0 rfl) ?_
      refine lv_iconst (v := nI 2) hx hb dX11_item_41 (by decide) ?_
      refine x_callVI (q := 30) (C := RX11) (As := [.int (nI 2)]) (rest := []) ⟨hx, hb, hml, hown, hts⟩ (ct_X11_fail l D cA α n _ hn S1 (nI 2)) (cwV 1 hts gX11_item_X11_fail rfl rfl rfl (by decide +kernel) ⟨Nat.le_of_ble_eq_true rfl, Nat.le_of_ble_eq_true rfl⟩) hK hw hAw (ws_recv hK hw (q := 30) (Nat.lt_of_lt_of_le (Nat.le_of_ble_eq_true rfl : 30 < 191) hn) (mk_30 cA α) rfl) rfl hl.1 rfl (Nat.le_of_ble_eq_true rfl) dX11_item_42 ⟨Nat.zero_le _, Nat.zero_le _⟩ (fun S2 eS2 H locs hw => ?_)
      exact ret_i hx hb hr hlocks hK hw dX11_item_45 rfl (by subst_vars; rfl)
    · exact absurd (show wiL y.toInt64 0 5 = false from w2f (a := 0) (b := 5) hy9 (by decide) (by decide)) (by rw [c2]; decide)
  · exact absurd (isIt_t (S := S1) (by subst eS1; exact hN) hN2 hi) (by rw [c1]; decide)

def rPd (S : Mem) (i b : Nat) : Int64 := if ¬ S.1 34 (8 + 6 * i + 2) = 0 then rVal S b - rVal S i else rVal S i - rVal S b

set_option maxRecDepth 100000 in
set_option maxHeartbeats 1000000 in
theorem ct_X11_pairDifference (l : Launch) (D : va_G) (cA : Nat → ClassId) (α : Nat → Nat) (n sz : Nat) (hn : 191 ≤ n) (S : Mem) (N : Nat) (hN : S.1 34 0 = nI N) (hN2 : N ≤ 100) (i : Nat) (hi : i < N) (b : Nat) (hb9 : S.1 34 (8 + 6 * i + 5) = nI b) (hb8 : S.1 34 (8 + 6 * b + 5) = nI i) (ho : okR S i) (ho2 : okR S b) : CtL l yX11_pairDifference wsX11_pairDifference ({ frames := 4, cells := 0, slots := 0, locals := 85 }) D cA α n sz [.ref (α 30), .int (nI i)] S (rPd S i b) (setI S 30 0 (nI 0)) := by
  refine ct_enter cX11_pairDifference 2 (some .long) (by decide) rfl (Nat.le_of_ble_eq_true rfl) ?_
  intro p e s m below meth c hx hb hr hml hlocks hown hts hK hsz hw ls hl
  have hown : s.vm.findClass RX11 = some m.cls := hown
  have hAw : ∀ z, Aw α n s.heap.size z → Aw α n sz z := by rw [hsz]; exact fun _ h => h
  have hl : lv_has ls 2 [(0, .ref (α 30)), (1, .int (nI i))] := hl
  have hb7 := ho2.1
  refine lv_aload_n hx hb dX11_pairDifference_0 rfl (lv_at hl 0 rfl) ?_
  refine lv_aload_n hx hb dX11_pairDifference_1 rfl (lv_at hl 0 rfl) ?_
  refine lv_iload_n hx hb dX11_pairDifference_2 rfl (lv_at hl 1 rfl) ?_
  refine x_callVIr (q := 30) (C := RX11) (As := [.int (nI i)]) (rest := [.ref (α 30)]) ⟨hx, hb, hml, hown, hts⟩ (ct_X11_isItem l D cA α n _ hn S (nI i)) (cwV 1 hts gX11_pairDifference_X11_isItem rfl rfl rfl (by decide +kernel) ⟨Nat.le_of_ble_eq_true rfl, Nat.le_of_ble_eq_true rfl⟩) hK hw hAw (ws_recv hK hw (q := 30) (Nat.lt_of_lt_of_le (Nat.le_of_ble_eq_true rfl : 30 < 191) hn) (mk_30 cA α) rfl) rfl hl.1 rfl (Nat.le_of_ble_eq_true rfl) dX11_pairDifference_3 ⟨Nat.zero_le _, Nat.zero_le _⟩ (fun H locs hw => ?_)
  refine xb_ne (b := (isItR S (nI i))) (tgt := 13) hx hb dX11_pairDifference_6 (by decide) (fun c1 => ?_) (fun c1 => ?_)
  · skip
    refine lv_aload_n hx hb dX11_pairDifference_13 rfl (lv_at hl 0 rfl) ?_
    refine lv_iload_n hx hb dX11_pairDifference_14 rfl (lv_at hl 1 rfl) ?_
    refine lv_iconst (v := nI 5) hx hb dX11_pairDifference_15 (by decide) ?_
    refine x_callVIr (q := 30) (C := RX11) (As := [.int (nI i), .int (nI 5)]) (rest := [.ref (α 30)]) ⟨hx, hb, hml, hown, hts⟩ (ct_X11_of l D cA α n _ hn S i 5 (by omega)) (cwV 2 hts gX11_pairDifference_X11_of rfl rfl rfl (by decide +kernel) ⟨Nat.le_of_ble_eq_true rfl, Nat.le_of_ble_eq_true rfl⟩) hK hw hAw (ws_recv hK hw (q := 30) (Nat.lt_of_lt_of_le (Nat.le_of_ble_eq_true rfl : 30 < 191) hn) (mk_30 cA α) rfl) rfl hl.1 rfl (Nat.le_of_ble_eq_true rfl) dX11_pairDifference_16 ⟨Nat.zero_le _, Nat.zero_le _⟩ (fun H locs hw => ?_)
    refine lv_if_ge (tgt := 26) hx hb dX11_pairDifference_19 (by decide) (fun c2 => ?_) (fun c2 => ?_)
    · skip
      refine lv_iconst (v := nI 0) hx hb dX11_pairDifference_26 (by decide) ?_
      refine x_putI (x := nI 0) (ty := .int) (C := RX11) (T := TX11) (N := 24) hx hb hts (fun _ h => List.mem_cons_of_mem _ (List.mem_append_right _ h)) tyX11 tyX11_ok nmX11 hown hK hw 30 (Nat.lt_of_lt_of_le (Nat.le_of_ble_eq_true rfl : 30 < 191) hn) (mk_30 cA α) rfl 0 (by decide) (hts _ (List.mem_of_getElem? (i := 1) rfl)) (fun _ h9 => h9) rfl rfl rfl rfl (Nat.le_of_ble_eq_true rfl) rfl dX11_pairDifference_27 (fun S1 eS1 H locs hw => ?_)
      refine lv_aload_n hx hb dX11_pairDifference_30 rfl (lv_at hl 0 rfl) ?_
      refine x_get (v := .int (S1.1 30 0)) (C := RX11) (T := TX11) (N := 24) hx hb hts (fun _ h => List.mem_cons_of_mem _ (List.mem_append_right _ h)) hown hK hw 30 (Nat.lt_of_lt_of_le (Nat.le_of_ble_eq_true rfl : 30 < 191) hn) (mk_30 cA α) rfl 0 (by decide) (hts _ (List.mem_of_getElem? (i := 1) rfl)) (fun _ h9 => h9) rfl dX11_pairDifference_31 ?_
      refine x_topN (k := 0) (by subst eS1; simp [sI_e, upd]) ?_
      refine lv_if_le (tgt := 39) hx hb dX11_pairDifference_34 (by decide) (fun c3 => ?_) (fun c3 => ?_)
      · skip
        refine lv_aload_n hx hb dX11_pairDifference_39 rfl (lv_at hl 0 rfl) ?_
        refine lv_aload_n hx hb dX11_pairDifference_40 rfl (lv_at hl 0 rfl) ?_
        refine lv_iload_n hx hb dX11_pairDifference_41 rfl (lv_at hl 1 rfl) ?_
        refine lv_iconst (v := nI 2) hx hb dX11_pairDifference_42 (by decide) ?_
        refine x_callVIr (q := 30) (C := RX11) (As := [.int (nI i), .int (nI 2)]) (rest := [.ref (α 30)]) ⟨hx, hb, hml, hown, hts⟩ (ct_X11_of l D cA α n _ hn S1 i 2 (by omega)) (cwV 2 hts gX11_pairDifference_X11_of rfl rfl rfl (by decide +kernel) ⟨Nat.le_of_ble_eq_true rfl, Nat.le_of_ble_eq_true rfl⟩) hK hw hAw (ws_recv hK hw (q := 30) (Nat.lt_of_lt_of_le (Nat.le_of_ble_eq_true rfl : 30 < 191) hn) (mk_30 cA α) rfl) rfl hl.1 rfl (Nat.le_of_ble_eq_true rfl) dX11_pairDifference_43 ⟨Nat.zero_le _, Nat.zero_le _⟩ (fun H locs hw => ?_)
        refine x_topE (y := S.1 34 (8 + 6 * i + 2)) (by subst_vars; rfl) ?_
        refine lv_if_ne (tgt := 53) hx hb dX11_pairDifference_46 (by decide) (fun c4 => ?_) (fun c4 => ?_)
        · skip
          refine lv_aload_n hx hb dX11_pairDifference_53 rfl (lv_at hl 0 rfl) ?_
          refine lv_iload_n hx hb dX11_pairDifference_54 rfl (lv_at hl 1 rfl) ?_
          refine lv_iconst (v := nI 5) hx hb dX11_pairDifference_55 (by decide) ?_
          refine x_callVIr (q := 30) (C := RX11) (As := [.int (nI i), .int (nI 5)]) (rest := [.ref (α 30)]) ⟨hx, hb, hml, hown, hts⟩ (ct_X11_of l D cA α n _ hn S1 i 5 (by omega)) (cwV 2 hts gX11_pairDifference_X11_of rfl rfl rfl (by decide +kernel) ⟨Nat.le_of_ble_eq_true rfl, Nat.le_of_ble_eq_true rfl⟩) hK hw hAw (ws_recv hK hw (q := 30) (Nat.lt_of_lt_of_le (Nat.le_of_ble_eq_true rfl : 30 < 191) hn) (mk_30 cA α) rfl) rfl hl.1 rfl (Nat.le_of_ble_eq_true rfl) dX11_pairDifference_56 ⟨Nat.zero_le _, Nat.zero_le _⟩ (fun H locs hw => ?_)
          refine x_topN (k := b) (by subst eS1; exact hb9) ?_
          refine x_callVLr (q := 30) (C := RX11) (As := [.int (nI b)]) (rest := []) ⟨hx, hb, hml, hown, hts⟩ (ct_X11_differenceOf l D cA α n _ hn S1 b i (by subst eS1; exact ho2) (by subst eS1; exact hb8) (by subst eS1; exact ho)) (cwV 1 hts gX11_pairDifference_X11_differenceOf rfl rfl rfl (by decide +kernel) ⟨Nat.le_of_ble_eq_true rfl, Nat.le_of_ble_eq_true rfl⟩) hK hw hAw (ws_recv hK hw (q := 30) (Nat.lt_of_lt_of_le (Nat.le_of_ble_eq_true rfl : 30 < 191) hn) (mk_30 cA α) rfl) rfl hl.1 rfl (Nat.le_of_ble_eq_true rfl) dX11_pairDifference_59 ⟨Nat.zero_le _, Nat.zero_le _⟩ (fun H locs hw => ?_)
          exact ret_l hx hb hr hlocks hK hw dX11_pairDifference_62 (by subst eS1; unfold rPd; simp only [c1, if_pos c2, if_neg (not_not_intro c2), decide_eq_true c2, if_pos c3, if_neg (not_not_intro c3), decide_eq_true c3, if_neg c4, if_pos c4, decide_eq_false c4, reduceIte]; rfl) (by subst_vars; rfl)
        · skip
          refine lv_iload_n hx hb dX11_pairDifference_49 rfl (lv_at hl 1 rfl) ?_
          refine lv_goto (tgt := 59) hx hb dX11_pairDifference_50 (by decide) ?_
          refine x_callVLr (q := 30) (C := RX11) (As := [.int (nI i)]) (rest := []) ⟨hx, hb, hml, hown, hts⟩ (ct_X11_differenceOf l D cA α n _ hn S1 i b (by subst eS1; exact ho) (by subst eS1; exact hb9) (by subst eS1; exact ho2)) (cwV 1 hts gX11_pairDifference_X11_differenceOf rfl rfl rfl (by decide +kernel) ⟨Nat.le_of_ble_eq_true rfl, Nat.le_of_ble_eq_true rfl⟩) hK hw hAw (ws_recv hK hw (q := 30) (Nat.lt_of_lt_of_le (Nat.le_of_ble_eq_true rfl : 30 < 191) hn) (mk_30 cA α) rfl) rfl hl.1 rfl (Nat.le_of_ble_eq_true rfl) dX11_pairDifference_59 ⟨Nat.zero_le _, Nat.zero_le _⟩ (fun H locs hw => ?_)
          exact ret_l hx hb hr hlocks hK hw dX11_pairDifference_62 (by subst eS1; unfold rPd; simp only [c1, if_pos c2, if_neg (not_not_intro c2), decide_eq_true c2, if_pos c3, if_neg (not_not_intro c3), decide_eq_true c3, if_pos c4, if_neg (not_not_intro c4), decide_eq_true c4, reduceIte]; rfl) (by subst_vars; rfl)
      · exact absurd (by decide) c3
    · exact absurd (show (0 : Int32) ≤ _ by rw [hb9]; exact nI_pos' (by omega)) c2
  · exact absurd (isIt_t (S := S) (by skip; exact hN) hN2 hi) (by rw [c1]; decide)

set_option maxRecDepth 100000 in
set_option maxHeartbeats 1000000 in
theorem ct_X11_pairDifferenceX (l : Launch) (D : va_G) (cA : Nat → ClassId) (α : Nat → Nat) (n sz : Nat) (hn : 191 ≤ n) (S : Mem) (N : Nat) (hN : S.1 34 0 = nI N) (hN2 : N ≤ 100) (x : Int32) (hx9 : ¬ ∃ i, i < N ∧ x = nI i) : CtL l yX11_pairDifference wsX11_pairDifference ({ frames := 4, cells := 0, slots := 0, locals := 85 }) D cA α n sz [.ref (α 30), .int x] S 0 (setI S 30 0 (nI 1)) := by
  refine ct_enter cX11_pairDifference 2 (some .long) (by decide) rfl (Nat.le_of_ble_eq_true rfl) ?_
  intro p e s m below meth c hx hb hr hml hlocks hown hts hK hsz hw ls hl
  have hown : s.vm.findClass RX11 = some m.cls := hown
  have hAw : ∀ z, Aw α n s.heap.size z → Aw α n sz z := by rw [hsz]; exact fun _ h => h
  have hl : lv_has ls 2 [(0, .ref (α 30)), (1, .int x)] := hl
  refine lv_aload_n hx hb dX11_pairDifference_0 rfl (lv_at hl 0 rfl) ?_
  refine lv_aload_n hx hb dX11_pairDifference_1 rfl (lv_at hl 0 rfl) ?_
  refine lv_iload_n hx hb dX11_pairDifference_2 rfl (lv_at hl 1 rfl) ?_
  refine x_callVIr (q := 30) (C := RX11) (As := [.int x]) (rest := [.ref (α 30)]) ⟨hx, hb, hml, hown, hts⟩ (ct_X11_isItem l D cA α n _ hn S x) (cwV 1 hts gX11_pairDifference_X11_isItem rfl rfl rfl (by decide +kernel) ⟨Nat.le_of_ble_eq_true rfl, Nat.le_of_ble_eq_true rfl⟩) hK hw hAw (ws_recv hK hw (q := 30) (Nat.lt_of_lt_of_le (Nat.le_of_ble_eq_true rfl : 30 < 191) hn) (mk_30 cA α) rfl) rfl hl.1 rfl (Nat.le_of_ble_eq_true rfl) dX11_pairDifference_3 ⟨Nat.zero_le _, Nat.zero_le _⟩ (fun H locs hw => ?_)
  refine xb_ne (b := (isItR S x)) (tgt := 13) hx hb dX11_pairDifference_6 (by decide) (fun c1 => ?_) (fun c1 => ?_)
  · exact absurd (isIt_f (S := S) (by skip; exact hN) hN2 hx9) (by rw [c1]; decide)
  · skip
    refine lv_iconst (v := nI 1) hx hb dX11_pairDifference_9 (by decide) ?_
    refine lv_goto (tgt := 27) hx hb dX11_pairDifference_10 (by decide) ?_
    refine x_putI (x := nI 1) (ty := .int) (C := RX11) (T := TX11) (N := 24) hx hb hts (fun _ h => List.mem_cons_of_mem _ (List.mem_append_right _ h)) tyX11 tyX11_ok nmX11 hown hK hw 30 (Nat.lt_of_lt_of_le (Nat.le_of_ble_eq_true rfl : 30 < 191) hn) (mk_30 cA α) rfl 0 (by decide) (hts _ (List.mem_of_getElem? (i := 1) rfl)) (fun _ h9 => h9) rfl rfl rfl rfl (Nat.le_of_ble_eq_true rfl) rfl dX11_pairDifference_27 (fun S1 eS1 H locs hw => ?_)
    refine lv_aload_n hx hb dX11_pairDifference_30 rfl (lv_at hl 0 rfl) ?_
    refine x_get (v := .int (S1.1 30 0)) (C := RX11) (T := TX11) (N := 24) hx hb hts (fun _ h => List.mem_cons_of_mem _ (List.mem_append_right _ h)) hown hK hw 30 (Nat.lt_of_lt_of_le (Nat.le_of_ble_eq_true rfl : 30 < 191) hn) (mk_30 cA α) rfl 0 (by decide) (hts _ (List.mem_of_getElem? (i := 1) rfl)) (fun _ h9 => h9) rfl dX11_pairDifference_31 ?_
    refine x_topN (k := 1) (by subst eS1; simp [sI_e, upd]) ?_
    refine lv_if_le (tgt := 39) hx hb dX11_pairDifference_34 (by decide) (fun c2 => ?_) (fun c2 => ?_)
    · exact absurd c2 (by decide)
    · skip
      refine lv_lconst (v := 0) hx hb dX11_pairDifference_37 (by decide) ?_
      exact ret_l hx hb hr hlocks hK hw dX11_pairDifference_38 rfl (by subst_vars; rfl)

set_option maxRecDepth 100000 in
set_option maxHeartbeats 1000000 in
theorem ct_X11_pairDifferenceY (l : Launch) (D : va_G) (cA : Nat → ClassId) (α : Nat → Nat) (n sz : Nat) (hn : 191 ≤ n) (S : Mem) (N : Nat) (hN : S.1 34 0 = nI N) (hN2 : N ≤ 100) (i : Nat) (hi : i < N) (hb9 : S.1 34 (8 + 6 * i + 5) < 0) : CtL l yX11_pairDifference wsX11_pairDifference ({ frames := 4, cells := 0, slots := 0, locals := 85 }) D cA α n sz [.ref (α 30), .int (nI i)] S 0 (setI S 30 0 (nI 2)) := by
  refine ct_enter cX11_pairDifference 2 (some .long) (by decide) rfl (Nat.le_of_ble_eq_true rfl) ?_
  intro p e s m below meth c hx hb hr hml hlocks hown hts hK hsz hw ls hl
  have hown : s.vm.findClass RX11 = some m.cls := hown
  have hAw : ∀ z, Aw α n s.heap.size z → Aw α n sz z := by rw [hsz]; exact fun _ h => h
  have hl : lv_has ls 2 [(0, .ref (α 30)), (1, .int (nI i))] := hl
  refine lv_aload_n hx hb dX11_pairDifference_0 rfl (lv_at hl 0 rfl) ?_
  refine lv_aload_n hx hb dX11_pairDifference_1 rfl (lv_at hl 0 rfl) ?_
  refine lv_iload_n hx hb dX11_pairDifference_2 rfl (lv_at hl 1 rfl) ?_
  refine x_callVIr (q := 30) (C := RX11) (As := [.int (nI i)]) (rest := [.ref (α 30)]) ⟨hx, hb, hml, hown, hts⟩ (ct_X11_isItem l D cA α n _ hn S (nI i)) (cwV 1 hts gX11_pairDifference_X11_isItem rfl rfl rfl (by decide +kernel) ⟨Nat.le_of_ble_eq_true rfl, Nat.le_of_ble_eq_true rfl⟩) hK hw hAw (ws_recv hK hw (q := 30) (Nat.lt_of_lt_of_le (Nat.le_of_ble_eq_true rfl : 30 < 191) hn) (mk_30 cA α) rfl) rfl hl.1 rfl (Nat.le_of_ble_eq_true rfl) dX11_pairDifference_3 ⟨Nat.zero_le _, Nat.zero_le _⟩ (fun H locs hw => ?_)
  refine xb_ne (b := (isItR S (nI i))) (tgt := 13) hx hb dX11_pairDifference_6 (by decide) (fun c1 => ?_) (fun c1 => ?_)
  · skip
    refine lv_aload_n hx hb dX11_pairDifference_13 rfl (lv_at hl 0 rfl) ?_
    refine lv_iload_n hx hb dX11_pairDifference_14 rfl (lv_at hl 1 rfl) ?_
    refine lv_iconst (v := nI 5) hx hb dX11_pairDifference_15 (by decide) ?_
    refine x_callVIr (q := 30) (C := RX11) (As := [.int (nI i), .int (nI 5)]) (rest := [.ref (α 30)]) ⟨hx, hb, hml, hown, hts⟩ (ct_X11_of l D cA α n _ hn S i 5 (by omega)) (cwV 2 hts gX11_pairDifference_X11_of rfl rfl rfl (by decide +kernel) ⟨Nat.le_of_ble_eq_true rfl, Nat.le_of_ble_eq_true rfl⟩) hK hw hAw (ws_recv hK hw (q := 30) (Nat.lt_of_lt_of_le (Nat.le_of_ble_eq_true rfl : 30 < 191) hn) (mk_30 cA α) rfl) rfl hl.1 rfl (Nat.le_of_ble_eq_true rfl) dX11_pairDifference_16 ⟨Nat.zero_le _, Nat.zero_le _⟩ (fun H locs hw => ?_)
    refine lv_if_ge (tgt := 26) hx hb dX11_pairDifference_19 (by decide) (fun c2 => ?_) (fun c2 => ?_)
    · exact absurd c2 (Int32.not_le.mpr hb9)
    · skip
      refine lv_iconst (v := nI 2) hx hb dX11_pairDifference_22 (by decide) ?_
      refine lv_goto (tgt := 27) hx hb dX11_pairDifference_23 (by decide) ?_
      refine x_putI (x := nI 2) (ty := .int) (C := RX11) (T := TX11) (N := 24) hx hb hts (fun _ h => List.mem_cons_of_mem _ (List.mem_append_right _ h)) tyX11 tyX11_ok nmX11 hown hK hw 30 (Nat.lt_of_lt_of_le (Nat.le_of_ble_eq_true rfl : 30 < 191) hn) (mk_30 cA α) rfl 0 (by decide) (hts _ (List.mem_of_getElem? (i := 1) rfl)) (fun _ h9 => h9) rfl rfl rfl rfl (Nat.le_of_ble_eq_true rfl) rfl dX11_pairDifference_27 (fun S1 eS1 H locs hw => ?_)
      refine lv_aload_n hx hb dX11_pairDifference_30 rfl (lv_at hl 0 rfl) ?_
      refine x_get (v := .int (S1.1 30 0)) (C := RX11) (T := TX11) (N := 24) hx hb hts (fun _ h => List.mem_cons_of_mem _ (List.mem_append_right _ h)) hown hK hw 30 (Nat.lt_of_lt_of_le (Nat.le_of_ble_eq_true rfl : 30 < 191) hn) (mk_30 cA α) rfl 0 (by decide) (hts _ (List.mem_of_getElem? (i := 1) rfl)) (fun _ h9 => h9) rfl dX11_pairDifference_31 ?_
      refine x_topN (k := 2) (by subst eS1; simp [sI_e, upd]) ?_
      refine lv_if_le (tgt := 39) hx hb dX11_pairDifference_34 (by decide) (fun c3 => ?_) (fun c3 => ?_)
      · exact absurd c3 (by decide)
      · skip
        refine lv_lconst (v := 0) hx hb dX11_pairDifference_37 (by decide) ?_
        exact ret_l hx hb hr hlocks hK hw dX11_pairDifference_38 rfl (by subst_vars; rfl)
  · exact absurd (isIt_t (S := S) (by skip; exact hN) hN2 hi) (by rw [c1]; decide)

def gBal (S : Mem) (x y : Int32) (j : Nat) : Int64 := if rCnt S j then (if ¬ S.1 34 (8 + 6 * j + 2) = 0 then 0 else if ¬ S.1 34 (8 + 6 * j + 0) = x then 0 else if ¬ S.1 34 (8 + 6 * j + 1) = y then 0 else rVal S j) + (if ¬ S.1 34 (8 + 6 * j + 2) = nI 1 then 0 else if ¬ S.1 34 (8 + 6 * j + 0) = y then 0 else if ¬ S.1 34 (8 + 6 * j + 1) = x then 0 else -(rVal S j)) else 0
theorem rVal_30 (S : Mem) (x : Int32) : rVal (setI S 30 0 x) = rVal S := rfl
theorem rCnt_30 (S : Mem) (x : Int32) : rCnt (setI S 30 0 x) = rCnt S := rfl

set_option maxRecDepth 100000 in
set_option maxHeartbeats 1000000 in
theorem ct_X11_balance (l : Launch) (D : va_G) (cA : Nat → ClassId) (α : Nat → Nat) (n sz : Nat) (hn : 191 ≤ n) (S : Mem) (Cn : Nat) (hC : S.1 33 1 = nI Cn) (hC2 : Cn ≤ 6) (a b : Nat) (ha : a < Cn) (hb0 : b < Cn) (hab : a ≠ b) (N : Nat) (hN : S.1 34 0 = nI N) (hN2 : N ≤ 100) (ho : ∀ j, j < N → okR S j) : CtL l yX11_balance wsX11_balance ({ frames := 3, cells := 0, slots := 0, locals := 64 }) D cA α n sz [.ref (α 30), .int (nI a), .int (nI b)] S (sumL (gBal S (nI a) (nI b)) N) (setI S 30 0 (nI 0)) := by
  refine ct_enter cX11_balance 6 (some .long) (by decide) rfl (Nat.le_of_ble_eq_true rfl) ?_
  intro p e s m below meth c hx hb hr hml hlocks hown hts hK hsz hw ls hl
  have hown : s.vm.findClass RX11 = some m.cls := hown
  have hAw : ∀ z, Aw α n s.heap.size z → Aw α n sz z := by rw [hsz]; exact fun _ h => h
  have hl : lv_has ls 6 [(0, .ref (α 30)), (1, .int (nI a)), (2, .int (nI b))] := hl
  refine lv_aload_n hx hb dX11_balance_0 rfl (lv_at hl 0 rfl) ?_
  refine lv_aload_n hx hb dX11_balance_1 rfl (lv_at hl 0 rfl) ?_
  refine lv_iload_n hx hb dX11_balance_2 rfl (lv_at hl 1 rfl) ?_
  refine x_callVIr (q := 30) (C := RX11) (As := [.int (nI a)]) (rest := [.ref (α 30)]) ⟨hx, hb, hml, hown, hts⟩ (ct_X11_isCompany l D cA α n _ hn S (nI a)) (cwV 1 hts gX11_balance_X11_isCompany rfl rfl rfl (by decide +kernel) ⟨Nat.le_of_ble_eq_true rfl, Nat.le_of_ble_eq_true rfl⟩) hK hw hAw (ws_recv hK hw (q := 30) (Nat.lt_of_lt_of_le (Nat.le_of_ble_eq_true rfl : 30 < 191) hn) (mk_30 cA α) rfl) rfl hl.1 rfl (Nat.le_of_ble_eq_true rfl) dX11_balance_3 ⟨Nat.zero_le _, Nat.zero_le _⟩ (fun H locs hw => ?_)
  refine xb_eq (b := (isCoR S (nI a))) (tgt := 21) hx hb dX11_balance_6 (by decide) (fun c1 => ?_) (fun c1 => ?_)
  · exact absurd (isCo_t (S := S) (by skip; exact hC) hC2 ha) (by rw [c1]; decide)
  · skip
    refine lv_aload_n hx hb dX11_balance_9 rfl (lv_at hl 0 rfl) ?_
    refine lv_iload_n hx hb dX11_balance_10 rfl (lv_at hl 2 rfl) ?_
    refine x_callVIr (q := 30) (C := RX11) (As := [.int (nI b)]) (rest := [.ref (α 30)]) ⟨hx, hb, hml, hown, hts⟩ (ct_X11_isCompany l D cA α n _ hn S (nI b)) (cwV 1 hts gX11_balance_X11_isCompany rfl rfl rfl (by decide +kernel) ⟨Nat.le_of_ble_eq_true rfl, Nat.le_of_ble_eq_true rfl⟩) hK hw hAw (ws_recv hK hw (q := 30) (Nat.lt_of_lt_of_le (Nat.le_of_ble_eq_true rfl : 30 < 191) hn) (mk_30 cA α) rfl) rfl hl.1 rfl (Nat.le_of_ble_eq_true rfl) dX11_balance_11 ⟨Nat.zero_le _, Nat.zero_le _⟩ (fun H locs hw => ?_)
    refine xb_eq (b := (isCoR S (nI b))) (tgt := 21) hx hb dX11_balance_14 (by decide) (fun c2 => ?_) (fun c2 => ?_)
    · exact absurd (isCo_t (S := S) (by skip; exact hC) hC2 hb0) (by rw [c2]; decide)
    · skip
      refine lv_iconst (v := nI 0) hx hb dX11_balance_17 (by decide) ?_
      refine lv_goto (tgt := 22) hx hb dX11_balance_18 (by decide) ?_
      refine x_putI (x := nI 0) (ty := .int) (C := RX11) (T := TX11) (N := 24) hx hb hts (fun _ h => List.mem_cons_of_mem _ (List.mem_append_right _ h)) tyX11 tyX11_ok nmX11 hown hK hw 30 (Nat.lt_of_lt_of_le (Nat.le_of_ble_eq_true rfl : 30 < 191) hn) (mk_30 cA α) rfl 0 (by decide) (hts _ (List.mem_of_getElem? (i := 1) rfl)) (fun _ h9 => h9) rfl rfl rfl rfl (Nat.le_of_ble_eq_true rfl) rfl dX11_balance_22 (fun S1 eS1 H locs hw => ?_)
      refine lv_aload_n hx hb dX11_balance_25 rfl (lv_at hl 0 rfl) ?_
      refine x_get (v := .int (S1.1 30 0)) (C := RX11) (T := TX11) (N := 24) hx hb hts (fun _ h => List.mem_cons_of_mem _ (List.mem_append_right _ h)) hown hK hw 30 (Nat.lt_of_lt_of_le (Nat.le_of_ble_eq_true rfl : 30 < 191) hn) (mk_30 cA α) rfl 0 (by decide) (hts _ (List.mem_of_getElem? (i := 1) rfl)) (fun _ h9 => h9) rfl dX11_balance_26 ?_
      refine x_topN (k := 0) (by subst eS1; simp [sI_e, upd]) ?_
      refine lv_iconst (v := nI 1) hx hb dX11_balance_29 (by decide) ?_
      refine xn_icmp_eq (tgt := 38) hx hb (by decide) (by decide) dX11_balance_30 (by decide) (fun c3 => ?_) (fun c3 => ?_)
      · exact absurd c3 (by decide)
      · skip
        refine lv_iload_n hx hb dX11_balance_33 rfl (lv_at hl 1 rfl) ?_
        refine lv_iload_n hx hb dX11_balance_34 rfl (lv_at hl 2 rfl) ?_
        refine xn_icmp_ne (tgt := 40) hx hb (by omega) (by omega) dX11_balance_35 (by decide) (fun c4 => ?_) (fun c4 => ?_)
        · skip
          refine lv_lconst (v := 0) hx hb dX11_balance_40 (by decide) ?_
          refine lv_lstore_n (lv' := [(3, .long 0), (0, .ref (α 30)), (1, .int (nI a)), (2, .int (nI b))]) hx hb dX11_balance_41 rfl hl (by decide) rfl (fun ls hl => ?_)
          refine lv_iconst (v := nI 0) hx hb dX11_balance_42 (by decide) ?_
          refine lv_istore (lv' := [(5, .int (nI 0)), (3, .long 0), (0, .ref (α 30)), (1, .int (nI a)), (2, .int (nI b))]) hx hb dX11_balance_43 hl (by decide) rfl (fun ls hl => ?_)
          have lp45 : ∀ (t : Nat) (j : Nat) (acc : Int64) (H : Heap) (locs : List Loc) (ls : Array Slot), N - j < t → j ≤ N → acc = sumL (gBal S (nI a) (nI b)) j → Ws D cA α n (Aw α n sz) s.heap S1 H locs → lv_has ls 6 [(0, .ref (α 30)), (1, .int (nI a)), (2, .int (nI b)), (5, .int (nI j)), (3, .long acc)] → W p l e ({ frames := 3, cells := 0, slots := 0, locals := 64 } : Room) s m (List.toArray ([.ref (α 30), .int (nI a), .int (nI b)] : List Value)) below meth c H locs 0 0 (MQ below (va_Ql (fun r u => r = (sumL (gBal S (nI a) (nI b)) N) ∧ u = (setI S 30 0 (nI 0))) (Pw D cA α n) (Aw α n sz)) (List.toArray ([.ref (α 30), .int (nI a), .int (nI b)] : List Value)) s 0 0 (Aw α n sz)) (F0 m 45 ls []) := by
            intro t
            induction t with
            | zero => intro j acc H locs ls ht; exact absurd ht (Nat.not_lt_zero _)
            | succ t ih45 =>
              intro j acc H locs ls ht hj hk hw hl
              refine lv_iload hx hb dX11_balance_45 (lv_at hl 3 rfl) ?_
              refine lv_aload_n hx hb dX11_balance_47 rfl (lv_at hl 0 rfl) ?_
              refine x_get (v := .ref (α 34)) (C := RX11) (T := TX11) (N := 24) hx hb hts (fun _ h => List.mem_cons_of_mem _ (List.mem_append_right _ h)) hown hK hw 30 (Nat.lt_of_lt_of_le (Nat.le_of_ble_eq_true rfl : 30 < 191) hn) (mk_30 cA α) rfl 13 (by decide) (hts _ (List.mem_of_getElem? (i := 2) rfl)) (fun _ h9 => h9) rfl dX11_balance_48 ?_
              refine lv_iconst (v := nI 0) hx hb dX11_balance_51 (by decide) ?_
              refine x_iald hx hb hK hw 34 1508 (Nat.lt_of_lt_of_le (Nat.le_of_ble_eq_true rfl : 34 < 191) hn) (mk_34 cA α) 0 rfl (by decide) (by decide) dX11_balance_52 ?_
              refine x_topN (k := N) (by subst eS1; exact hN) ?_
              refine xn_icmp_ge (tgt := 157) hx hb (by omega) (by omega) dX11_balance_53 (by decide) (fun c5 => ?_) (fun c5 => ?_)
              · skip
                refine lv_lload_n hx hb dX11_balance_157 rfl (lv_at hl 4 rfl) ?_
                exact ret_l hx hb hr hlocks hK hw dX11_balance_158 (by rw [hk, show j = N by omega]) (by subst_vars; rfl)
              · skip
                refine lv_aload_n hx hb dX11_balance_56 rfl (lv_at hl 0 rfl) ?_
                refine lv_iload hx hb dX11_balance_57 (lv_at hl 3 rfl) ?_
                refine x_callVIr (q := 30) (C := RX11) (As := [.int (nI j)]) (rest := []) ⟨hx, hb, hml, hown, hts⟩ (ct_X11_counts l D cA α n _ hn S1 j (by omega)) (cwV 1 hts gX11_balance_X11_counts rfl rfl rfl (by decide +kernel) ⟨Nat.le_of_ble_eq_true rfl, Nat.le_of_ble_eq_true rfl⟩) hK hw hAw (ws_recv hK hw (q := 30) (Nat.lt_of_lt_of_le (Nat.le_of_ble_eq_true rfl : 30 < 191) hn) (mk_30 cA α) rfl) rfl hl.1 rfl (Nat.le_of_ble_eq_true rfl) dX11_balance_59 ⟨Nat.zero_le _, Nat.zero_le _⟩ (fun H locs hw => ?_)
                refine x_topE (y := b2i (rCnt S j)) (by rw [eS1, rCnt_30]) ?_
                refine xb_ne (b := (rCnt S j)) (tgt := 68) hx hb dX11_balance_62 (by decide) (fun c6 => ?_) (fun c6 => ?_)
                · skip
                  refine lv_aload_n hx hb dX11_balance_68 rfl (lv_at hl 0 rfl) ?_
                  refine lv_iload hx hb dX11_balance_69 (lv_at hl 3 rfl) ?_
                  refine lv_iconst (v := nI 2) hx hb dX11_balance_71 (by decide) ?_
                  refine x_callVIr (q := 30) (C := RX11) (As := [.int (nI j), .int (nI 2)]) (rest := []) ⟨hx, hb, hml, hown, hts⟩ (ct_X11_of l D cA α n _ hn S1 j 2 (by omega)) (cwV 2 hts gX11_balance_X11_of rfl rfl rfl (by decide +kernel) ⟨Nat.le_of_ble_eq_true rfl, Nat.le_of_ble_eq_true rfl⟩) hK hw hAw (ws_recv hK hw (q := 30) (Nat.lt_of_lt_of_le (Nat.le_of_ble_eq_true rfl : 30 < 191) hn) (mk_30 cA α) rfl) rfl hl.1 rfl (Nat.le_of_ble_eq_true rfl) dX11_balance_72 ⟨Nat.zero_le _, Nat.zero_le _⟩ (fun H locs hw => ?_)
                  refine x_topE (y := S.1 34 (8 + 6 * j + 2)) (by subst_vars; rfl) ?_
                  refine lv_if_ne (tgt := 109) hx hb dX11_balance_75 (by decide) (fun c7 => ?_) (fun c7 => ?_)
                  · skip
                    refine lv_aload_n hx hb dX11_balance_109 rfl (lv_at hl 0 rfl) ?_
                    refine lv_iload hx hb dX11_balance_110 (lv_at hl 3 rfl) ?_
                    refine lv_iconst (v := nI 2) hx hb dX11_balance_112 (by decide) ?_
                    refine x_callVIr (q := 30) (C := RX11) (As := [.int (nI j), .int (nI 2)]) (rest := []) ⟨hx, hb, hml, hown, hts⟩ (ct_X11_of l D cA α n _ hn S1 j 2 (by omega)) (cwV 2 hts gX11_balance_X11_of rfl rfl rfl (by decide +kernel) ⟨Nat.le_of_ble_eq_true rfl, Nat.le_of_ble_eq_true rfl⟩) hK hw hAw (ws_recv hK hw (q := 30) (Nat.lt_of_lt_of_le (Nat.le_of_ble_eq_true rfl : 30 < 191) hn) (mk_30 cA α) rfl) rfl hl.1 rfl (Nat.le_of_ble_eq_true rfl) dX11_balance_113 ⟨Nat.zero_le _, Nat.zero_le _⟩ (fun H locs hw => ?_)
                    refine x_topE (y := S.1 34 (8 + 6 * j + 2)) (by subst_vars; rfl) ?_
                    refine lv_iconst (v := nI 1) hx hb dX11_balance_116 (by decide) ?_
                    refine lv_icmp_ne (tgt := 151) hx hb dX11_balance_117 (by decide) (fun c8 => ?_) (fun c8 => ?_)
                    · skip
                      refine lv_iinc (v := nI (j + 1)) (lv' := [(5, .int (nI (j + 1))), (0, .ref (α 30)), (1, .int (nI a)), (2, .int (nI b)), (3, .long acc)]) hx hb dX11_balance_151 hl (k := 3) rfl (nI_1 _) (by decide) rfl (fun ls hl => ?_)
                      refine lv_goto (tgt := 45) hx hb dX11_balance_154 (by decide) ?_
                      exact ih45 (j + 1) acc _ _ _ (by omega) (by omega) (by rw [sumL, ← hk]; unfold gBal; simp only [c1, c2, if_neg c3, if_pos c3, decide_eq_false c3, if_neg c4, if_pos c4, decide_eq_false c4, if_pos c5, if_neg (not_not_intro c5), decide_eq_true c5, c6, if_neg c7, if_pos c7, decide_eq_false c7, if_neg c8, if_pos c8, decide_eq_false c8, if_true, if_false, eq_self, Bool.false_eq_true, not_true_eq_false, not_false_eq_true, decide_true, decide_false, Bool.and_true, Bool.true_and, Bool.and_false, Bool.false_and, Bool.not_true, Bool.not_false, Bool.or_true, Bool.true_or, Bool.or_false, Bool.false_or, reduceIte, b2i_t, b2i_f, Int64.add_zero, Int64.zero_add, Int64.sub_eq_add_neg, Int64.add_assoc]) hw (lv_sub hl [1, 2, 3, 0, 4] rfl)
                    · skip
                      refine lv_aload_n hx hb dX11_balance_120 rfl (lv_at hl 0 rfl) ?_
                      refine lv_iload hx hb dX11_balance_121 (lv_at hl 3 rfl) ?_
                      refine lv_iconst (v := nI 0) hx hb dX11_balance_123 (by decide) ?_
                      refine x_callVIr (q := 30) (C := RX11) (As := [.int (nI j), .int (nI 0)]) (rest := []) ⟨hx, hb, hml, hown, hts⟩ (ct_X11_of l D cA α n _ hn S1 j 0 (by omega)) (cwV 2 hts gX11_balance_X11_of rfl rfl rfl (by decide +kernel) ⟨Nat.le_of_ble_eq_true rfl, Nat.le_of_ble_eq_true rfl⟩) hK hw hAw (ws_recv hK hw (q := 30) (Nat.lt_of_lt_of_le (Nat.le_of_ble_eq_true rfl : 30 < 191) hn) (mk_30 cA α) rfl) rfl hl.1 rfl (Nat.le_of_ble_eq_true rfl) dX11_balance_124 ⟨Nat.zero_le _, Nat.zero_le _⟩ (fun H locs hw => ?_)
                      refine x_topE (y := S.1 34 (8 + 6 * j + 0)) (by subst_vars; rfl) ?_
                      refine lv_iload_n hx hb dX11_balance_127 rfl (lv_at hl 2 rfl) ?_
                      refine lv_icmp_ne (tgt := 151) hx hb dX11_balance_128 (by decide) (fun c9 => ?_) (fun c9 => ?_)
                      · skip
                        refine lv_iinc (v := nI (j + 1)) (lv' := [(5, .int (nI (j + 1))), (0, .ref (α 30)), (1, .int (nI a)), (2, .int (nI b)), (3, .long acc)]) hx hb dX11_balance_151 hl (k := 3) rfl (nI_1 _) (by decide) rfl (fun ls hl => ?_)
                        refine lv_goto (tgt := 45) hx hb dX11_balance_154 (by decide) ?_
                        exact ih45 (j + 1) acc _ _ _ (by omega) (by omega) (by rw [sumL, ← hk]; unfold gBal; simp only [c1, c2, if_neg c3, if_pos c3, decide_eq_false c3, if_neg c4, if_pos c4, decide_eq_false c4, if_pos c5, if_neg (not_not_intro c5), decide_eq_true c5, c6, if_neg c7, if_pos c7, decide_eq_false c7, if_pos c8, if_neg (not_not_intro c8), decide_eq_true c8, if_neg c9, if_pos c9, decide_eq_false c9, if_true, if_false, eq_self, Bool.false_eq_true, not_true_eq_false, not_false_eq_true, decide_true, decide_false, Bool.and_true, Bool.true_and, Bool.and_false, Bool.false_and, Bool.not_true, Bool.not_false, Bool.or_true, Bool.true_or, Bool.or_false, Bool.false_or, reduceIte, b2i_t, b2i_f, Int64.add_zero, Int64.zero_add, Int64.sub_eq_add_neg, Int64.add_assoc]) hw (lv_sub hl [1, 2, 3, 0, 4] rfl)
                      · skip
                        refine lv_aload_n hx hb dX11_balance_131 rfl (lv_at hl 0 rfl) ?_
                        refine lv_iload hx hb dX11_balance_132 (lv_at hl 3 rfl) ?_
                        refine lv_iconst (v := nI 1) hx hb dX11_balance_134 (by decide) ?_
                        refine x_callVIr (q := 30) (C := RX11) (As := [.int (nI j), .int (nI 1)]) (rest := []) ⟨hx, hb, hml, hown, hts⟩ (ct_X11_of l D cA α n _ hn S1 j 1 (by omega)) (cwV 2 hts gX11_balance_X11_of rfl rfl rfl (by decide +kernel) ⟨Nat.le_of_ble_eq_true rfl, Nat.le_of_ble_eq_true rfl⟩) hK hw hAw (ws_recv hK hw (q := 30) (Nat.lt_of_lt_of_le (Nat.le_of_ble_eq_true rfl : 30 < 191) hn) (mk_30 cA α) rfl) rfl hl.1 rfl (Nat.le_of_ble_eq_true rfl) dX11_balance_135 ⟨Nat.zero_le _, Nat.zero_le _⟩ (fun H locs hw => ?_)
                        refine x_topE (y := S.1 34 (8 + 6 * j + 1)) (by subst_vars; rfl) ?_
                        refine lv_iload_n hx hb dX11_balance_138 rfl (lv_at hl 1 rfl) ?_
                        refine lv_icmp_ne (tgt := 151) hx hb dX11_balance_139 (by decide) (fun c10 => ?_) (fun c10 => ?_)
                        · skip
                          refine lv_iinc (v := nI (j + 1)) (lv' := [(5, .int (nI (j + 1))), (0, .ref (α 30)), (1, .int (nI a)), (2, .int (nI b)), (3, .long acc)]) hx hb dX11_balance_151 hl (k := 3) rfl (nI_1 _) (by decide) rfl (fun ls hl => ?_)
                          refine lv_goto (tgt := 45) hx hb dX11_balance_154 (by decide) ?_
                          exact ih45 (j + 1) acc _ _ _ (by omega) (by omega) (by rw [sumL, ← hk]; unfold gBal; simp only [c1, c2, if_neg c3, if_pos c3, decide_eq_false c3, if_neg c4, if_pos c4, decide_eq_false c4, if_pos c5, if_neg (not_not_intro c5), decide_eq_true c5, c6, if_neg c7, if_pos c7, decide_eq_false c7, if_pos c8, if_neg (not_not_intro c8), decide_eq_true c8, if_pos c9, if_neg (not_not_intro c9), decide_eq_true c9, if_neg c10, if_pos c10, decide_eq_false c10, if_true, if_false, eq_self, Bool.false_eq_true, not_true_eq_false, not_false_eq_true, decide_true, decide_false, Bool.and_true, Bool.true_and, Bool.and_false, Bool.false_and, Bool.not_true, Bool.not_false, Bool.or_true, Bool.true_or, Bool.or_false, Bool.false_or, reduceIte, b2i_t, b2i_f, Int64.add_zero, Int64.zero_add, Int64.sub_eq_add_neg, Int64.add_assoc]) hw (lv_sub hl [1, 2, 3, 0, 4] rfl)
                        · skip
                          refine lv_lload_n hx hb dX11_balance_142 rfl (lv_at hl 4 rfl) ?_
                          refine lv_aload_n hx hb dX11_balance_143 rfl (lv_at hl 0 rfl) ?_
                          refine lv_iload hx hb dX11_balance_144 (lv_at hl 3 rfl) ?_
                          refine x_callVLr (q := 30) (C := RX11) (As := [.int (nI j)]) (rest := [.long acc]) ⟨hx, hb, hml, hown, hts⟩ (ct_X11_valueOf l D cA α n _ hn S1 j (by subst eS1; exact ho j (by omega))) (cwV 1 hts gX11_balance_X11_valueOf rfl rfl rfl (by decide +kernel) ⟨Nat.le_of_ble_eq_true rfl, Nat.le_of_ble_eq_true rfl⟩) hK hw hAw (ws_recv hK hw (q := 30) (Nat.lt_of_lt_of_le (Nat.le_of_ble_eq_true rfl : 30 < 191) hn) (mk_30 cA α) rfl) rfl hl.1 rfl (Nat.le_of_ble_eq_true rfl) dX11_balance_146 ⟨Nat.zero_le _, Nat.zero_le _⟩ (fun H locs hw => ?_)
                          refine x_topEL (y := rVal S j) (by rw [eS1, rVal_30]) ?_
                          refine lv_lsub hx hb dX11_balance_149 ?_
                          refine lv_lstore_n (lv' := [(3, .long (acc - (rVal S j))), (0, .ref (α 30)), (1, .int (nI a)), (2, .int (nI b)), (5, .int (nI j))]) hx hb dX11_balance_150 rfl hl (by decide) rfl (fun ls hl => ?_)
                          refine lv_iinc (v := nI (j + 1)) (lv' := [(5, .int (nI (j + 1))), (3, .long (acc - (rVal S j))), (0, .ref (α 30)), (1, .int (nI a)), (2, .int (nI b))]) hx hb dX11_balance_151 hl (k := 4) rfl (nI_1 _) (by decide) rfl (fun ls hl => ?_)
                          refine lv_goto (tgt := 45) hx hb dX11_balance_154 (by decide) ?_
                          exact ih45 (j + 1) (acc - (rVal S j)) _ _ _ (by omega) (by omega) (by rw [sumL, ← hk]; unfold gBal; simp only [c1, c2, if_neg c3, if_pos c3, decide_eq_false c3, if_neg c4, if_pos c4, decide_eq_false c4, if_pos c5, if_neg (not_not_intro c5), decide_eq_true c5, c6, if_neg c7, if_pos c7, decide_eq_false c7, if_pos c8, if_neg (not_not_intro c8), decide_eq_true c8, if_pos c9, if_neg (not_not_intro c9), decide_eq_true c9, if_pos c10, if_neg (not_not_intro c10), decide_eq_true c10, if_true, if_false, eq_self, Bool.false_eq_true, not_true_eq_false, not_false_eq_true, decide_true, decide_false, Bool.and_true, Bool.true_and, Bool.and_false, Bool.false_and, Bool.not_true, Bool.not_false, Bool.or_true, Bool.true_or, Bool.or_false, Bool.false_or, reduceIte, b2i_t, b2i_f, Int64.add_zero, Int64.zero_add, Int64.sub_eq_add_neg, Int64.add_assoc]) hw (lv_sub hl [2, 3, 4, 0, 1] rfl)
                  · skip
                    refine lv_aload_n hx hb dX11_balance_78 rfl (lv_at hl 0 rfl) ?_
                    refine lv_iload hx hb dX11_balance_79 (lv_at hl 3 rfl) ?_
                    refine lv_iconst (v := nI 0) hx hb dX11_balance_81 (by decide) ?_
                    refine x_callVIr (q := 30) (C := RX11) (As := [.int (nI j), .int (nI 0)]) (rest := []) ⟨hx, hb, hml, hown, hts⟩ (ct_X11_of l D cA α n _ hn S1 j 0 (by omega)) (cwV 2 hts gX11_balance_X11_of rfl rfl rfl (by decide +kernel) ⟨Nat.le_of_ble_eq_true rfl, Nat.le_of_ble_eq_true rfl⟩) hK hw hAw (ws_recv hK hw (q := 30) (Nat.lt_of_lt_of_le (Nat.le_of_ble_eq_true rfl : 30 < 191) hn) (mk_30 cA α) rfl) rfl hl.1 rfl (Nat.le_of_ble_eq_true rfl) dX11_balance_82 ⟨Nat.zero_le _, Nat.zero_le _⟩ (fun H locs hw => ?_)
                    refine x_topE (y := S.1 34 (8 + 6 * j + 0)) (by subst_vars; rfl) ?_
                    refine lv_iload_n hx hb dX11_balance_85 rfl (lv_at hl 1 rfl) ?_
                    refine lv_icmp_ne (tgt := 109) hx hb dX11_balance_86 (by decide) (fun c11 => ?_) (fun c11 => ?_)
                    · skip
                      refine lv_aload_n hx hb dX11_balance_109 rfl (lv_at hl 0 rfl) ?_
                      refine lv_iload hx hb dX11_balance_110 (lv_at hl 3 rfl) ?_
                      refine lv_iconst (v := nI 2) hx hb dX11_balance_112 (by decide) ?_
                      refine x_callVIr (q := 30) (C := RX11) (As := [.int (nI j), .int (nI 2)]) (rest := []) ⟨hx, hb, hml, hown, hts⟩ (ct_X11_of l D cA α n _ hn S1 j 2 (by omega)) (cwV 2 hts gX11_balance_X11_of rfl rfl rfl (by decide +kernel) ⟨Nat.le_of_ble_eq_true rfl, Nat.le_of_ble_eq_true rfl⟩) hK hw hAw (ws_recv hK hw (q := 30) (Nat.lt_of_lt_of_le (Nat.le_of_ble_eq_true rfl : 30 < 191) hn) (mk_30 cA α) rfl) rfl hl.1 rfl (Nat.le_of_ble_eq_true rfl) dX11_balance_113 ⟨Nat.zero_le _, Nat.zero_le _⟩ (fun H locs hw => ?_)
                      refine x_topE (y := S.1 34 (8 + 6 * j + 2)) (by subst_vars; rfl) ?_
                      refine lv_iconst (v := nI 1) hx hb dX11_balance_116 (by decide) ?_
                      refine lv_icmp_ne (tgt := 151) hx hb dX11_balance_117 (by decide) (fun c12 => ?_) (fun c12 => ?_)
                      · skip
                        refine lv_iinc (v := nI (j + 1)) (lv' := [(5, .int (nI (j + 1))), (0, .ref (α 30)), (1, .int (nI a)), (2, .int (nI b)), (3, .long acc)]) hx hb dX11_balance_151 hl (k := 3) rfl (nI_1 _) (by decide) rfl (fun ls hl => ?_)
                        refine lv_goto (tgt := 45) hx hb dX11_balance_154 (by decide) ?_
                        exact ih45 (j + 1) acc _ _ _ (by omega) (by omega) (by rw [sumL, ← hk]; unfold gBal; simp only [c1, c2, if_neg c3, if_pos c3, decide_eq_false c3, if_neg c4, if_pos c4, decide_eq_false c4, if_pos c5, if_neg (not_not_intro c5), decide_eq_true c5, c6, if_pos c7, if_neg (not_not_intro c7), decide_eq_true c7, if_neg c11, if_pos c11, decide_eq_false c11, if_neg c12, if_pos c12, decide_eq_false c12, if_true, if_false, eq_self, Bool.false_eq_true, not_true_eq_false, not_false_eq_true, decide_true, decide_false, Bool.and_true, Bool.true_and, Bool.and_false, Bool.false_and, Bool.not_true, Bool.not_false, Bool.or_true, Bool.true_or, Bool.or_false, Bool.false_or, reduceIte, b2i_t, b2i_f, Int64.add_zero, Int64.zero_add, Int64.sub_eq_add_neg, Int64.add_assoc]) hw (lv_sub hl [1, 2, 3, 0, 4] rfl)
                      · skip
                        refine lv_aload_n hx hb dX11_balance_120 rfl (lv_at hl 0 rfl) ?_
                        refine lv_iload hx hb dX11_balance_121 (lv_at hl 3 rfl) ?_
                        refine lv_iconst (v := nI 0) hx hb dX11_balance_123 (by decide) ?_
                        refine x_callVIr (q := 30) (C := RX11) (As := [.int (nI j), .int (nI 0)]) (rest := []) ⟨hx, hb, hml, hown, hts⟩ (ct_X11_of l D cA α n _ hn S1 j 0 (by omega)) (cwV 2 hts gX11_balance_X11_of rfl rfl rfl (by decide +kernel) ⟨Nat.le_of_ble_eq_true rfl, Nat.le_of_ble_eq_true rfl⟩) hK hw hAw (ws_recv hK hw (q := 30) (Nat.lt_of_lt_of_le (Nat.le_of_ble_eq_true rfl : 30 < 191) hn) (mk_30 cA α) rfl) rfl hl.1 rfl (Nat.le_of_ble_eq_true rfl) dX11_balance_124 ⟨Nat.zero_le _, Nat.zero_le _⟩ (fun H locs hw => ?_)
                        refine x_topE (y := S.1 34 (8 + 6 * j + 0)) (by subst_vars; rfl) ?_
                        refine lv_iload_n hx hb dX11_balance_127 rfl (lv_at hl 2 rfl) ?_
                        refine lv_icmp_ne (tgt := 151) hx hb dX11_balance_128 (by decide) (fun c13 => ?_) (fun c13 => ?_)
                        · skip
                          refine lv_iinc (v := nI (j + 1)) (lv' := [(5, .int (nI (j + 1))), (0, .ref (α 30)), (1, .int (nI a)), (2, .int (nI b)), (3, .long acc)]) hx hb dX11_balance_151 hl (k := 3) rfl (nI_1 _) (by decide) rfl (fun ls hl => ?_)
                          refine lv_goto (tgt := 45) hx hb dX11_balance_154 (by decide) ?_
                          exact ih45 (j + 1) acc _ _ _ (by omega) (by omega) (by rw [sumL, ← hk]; unfold gBal; simp only [c1, c2, if_neg c3, if_pos c3, decide_eq_false c3, if_neg c4, if_pos c4, decide_eq_false c4, if_pos c5, if_neg (not_not_intro c5), decide_eq_true c5, c6, if_pos c7, if_neg (not_not_intro c7), decide_eq_true c7, if_neg c11, if_pos c11, decide_eq_false c11, if_pos c12, if_neg (not_not_intro c12), decide_eq_true c12, if_neg c13, if_pos c13, decide_eq_false c13, if_true, if_false, eq_self, Bool.false_eq_true, not_true_eq_false, not_false_eq_true, decide_true, decide_false, Bool.and_true, Bool.true_and, Bool.and_false, Bool.false_and, Bool.not_true, Bool.not_false, Bool.or_true, Bool.true_or, Bool.or_false, Bool.false_or, reduceIte, b2i_t, b2i_f, Int64.add_zero, Int64.zero_add, Int64.sub_eq_add_neg, Int64.add_assoc]) hw (lv_sub hl [1, 2, 3, 0, 4] rfl)
                        · skip
                          refine lv_aload_n hx hb dX11_balance_131 rfl (lv_at hl 0 rfl) ?_
                          refine lv_iload hx hb dX11_balance_132 (lv_at hl 3 rfl) ?_
                          refine lv_iconst (v := nI 1) hx hb dX11_balance_134 (by decide) ?_
                          refine x_callVIr (q := 30) (C := RX11) (As := [.int (nI j), .int (nI 1)]) (rest := []) ⟨hx, hb, hml, hown, hts⟩ (ct_X11_of l D cA α n _ hn S1 j 1 (by omega)) (cwV 2 hts gX11_balance_X11_of rfl rfl rfl (by decide +kernel) ⟨Nat.le_of_ble_eq_true rfl, Nat.le_of_ble_eq_true rfl⟩) hK hw hAw (ws_recv hK hw (q := 30) (Nat.lt_of_lt_of_le (Nat.le_of_ble_eq_true rfl : 30 < 191) hn) (mk_30 cA α) rfl) rfl hl.1 rfl (Nat.le_of_ble_eq_true rfl) dX11_balance_135 ⟨Nat.zero_le _, Nat.zero_le _⟩ (fun H locs hw => ?_)
                          refine x_topE (y := S.1 34 (8 + 6 * j + 1)) (by subst_vars; rfl) ?_
                          refine lv_iload_n hx hb dX11_balance_138 rfl (lv_at hl 1 rfl) ?_
                          refine lv_icmp_ne (tgt := 151) hx hb dX11_balance_139 (by decide) (fun c14 => ?_) (fun c14 => ?_)
                          · skip
                            refine lv_iinc (v := nI (j + 1)) (lv' := [(5, .int (nI (j + 1))), (0, .ref (α 30)), (1, .int (nI a)), (2, .int (nI b)), (3, .long acc)]) hx hb dX11_balance_151 hl (k := 3) rfl (nI_1 _) (by decide) rfl (fun ls hl => ?_)
                            refine lv_goto (tgt := 45) hx hb dX11_balance_154 (by decide) ?_
                            exact ih45 (j + 1) acc _ _ _ (by omega) (by omega) (by rw [sumL, ← hk]; unfold gBal; simp only [c1, c2, if_neg c3, if_pos c3, decide_eq_false c3, if_neg c4, if_pos c4, decide_eq_false c4, if_pos c5, if_neg (not_not_intro c5), decide_eq_true c5, c6, if_pos c7, if_neg (not_not_intro c7), decide_eq_true c7, if_neg c11, if_pos c11, decide_eq_false c11, if_pos c12, if_neg (not_not_intro c12), decide_eq_true c12, if_pos c13, if_neg (not_not_intro c13), decide_eq_true c13, if_neg c14, if_pos c14, decide_eq_false c14, if_true, if_false, eq_self, Bool.false_eq_true, not_true_eq_false, not_false_eq_true, decide_true, decide_false, Bool.and_true, Bool.true_and, Bool.and_false, Bool.false_and, Bool.not_true, Bool.not_false, Bool.or_true, Bool.true_or, Bool.or_false, Bool.false_or, reduceIte, b2i_t, b2i_f, Int64.add_zero, Int64.zero_add, Int64.sub_eq_add_neg, Int64.add_assoc]) hw (lv_sub hl [1, 2, 3, 0, 4] rfl)
                          · skip
                            refine lv_lload_n hx hb dX11_balance_142 rfl (lv_at hl 4 rfl) ?_
                            refine lv_aload_n hx hb dX11_balance_143 rfl (lv_at hl 0 rfl) ?_
                            refine lv_iload hx hb dX11_balance_144 (lv_at hl 3 rfl) ?_
                            refine x_callVLr (q := 30) (C := RX11) (As := [.int (nI j)]) (rest := [.long acc]) ⟨hx, hb, hml, hown, hts⟩ (ct_X11_valueOf l D cA α n _ hn S1 j (by subst eS1; exact ho j (by omega))) (cwV 1 hts gX11_balance_X11_valueOf rfl rfl rfl (by decide +kernel) ⟨Nat.le_of_ble_eq_true rfl, Nat.le_of_ble_eq_true rfl⟩) hK hw hAw (ws_recv hK hw (q := 30) (Nat.lt_of_lt_of_le (Nat.le_of_ble_eq_true rfl : 30 < 191) hn) (mk_30 cA α) rfl) rfl hl.1 rfl (Nat.le_of_ble_eq_true rfl) dX11_balance_146 ⟨Nat.zero_le _, Nat.zero_le _⟩ (fun H locs hw => ?_)
                            refine x_topEL (y := rVal S j) (by rw [eS1, rVal_30]) ?_
                            refine lv_lsub hx hb dX11_balance_149 ?_
                            refine lv_lstore_n (lv' := [(3, .long (acc - (rVal S j))), (0, .ref (α 30)), (1, .int (nI a)), (2, .int (nI b)), (5, .int (nI j))]) hx hb dX11_balance_150 rfl hl (by decide) rfl (fun ls hl => ?_)
                            refine lv_iinc (v := nI (j + 1)) (lv' := [(5, .int (nI (j + 1))), (3, .long (acc - (rVal S j))), (0, .ref (α 30)), (1, .int (nI a)), (2, .int (nI b))]) hx hb dX11_balance_151 hl (k := 4) rfl (nI_1 _) (by decide) rfl (fun ls hl => ?_)
                            refine lv_goto (tgt := 45) hx hb dX11_balance_154 (by decide) ?_
                            exact ih45 (j + 1) (acc - (rVal S j)) _ _ _ (by omega) (by omega) (by rw [sumL, ← hk]; unfold gBal; simp only [c1, c2, if_neg c3, if_pos c3, decide_eq_false c3, if_neg c4, if_pos c4, decide_eq_false c4, if_pos c5, if_neg (not_not_intro c5), decide_eq_true c5, c6, if_pos c7, if_neg (not_not_intro c7), decide_eq_true c7, if_neg c11, if_pos c11, decide_eq_false c11, if_pos c12, if_neg (not_not_intro c12), decide_eq_true c12, if_pos c13, if_neg (not_not_intro c13), decide_eq_true c13, if_pos c14, if_neg (not_not_intro c14), decide_eq_true c14, if_true, if_false, eq_self, Bool.false_eq_true, not_true_eq_false, not_false_eq_true, decide_true, decide_false, Bool.and_true, Bool.true_and, Bool.and_false, Bool.false_and, Bool.not_true, Bool.not_false, Bool.or_true, Bool.true_or, Bool.or_false, Bool.false_or, reduceIte, b2i_t, b2i_f, Int64.add_zero, Int64.zero_add, Int64.sub_eq_add_neg, Int64.add_assoc]) hw (lv_sub hl [2, 3, 4, 0, 1] rfl)
                    · skip
                      refine lv_aload_n hx hb dX11_balance_89 rfl (lv_at hl 0 rfl) ?_
                      refine lv_iload hx hb dX11_balance_90 (lv_at hl 3 rfl) ?_
                      refine lv_iconst (v := nI 1) hx hb dX11_balance_92 (by decide) ?_
                      refine x_callVIr (q := 30) (C := RX11) (As := [.int (nI j), .int (nI 1)]) (rest := []) ⟨hx, hb, hml, hown, hts⟩ (ct_X11_of l D cA α n _ hn S1 j 1 (by omega)) (cwV 2 hts gX11_balance_X11_of rfl rfl rfl (by decide +kernel) ⟨Nat.le_of_ble_eq_true rfl, Nat.le_of_ble_eq_true rfl⟩) hK hw hAw (ws_recv hK hw (q := 30) (Nat.lt_of_lt_of_le (Nat.le_of_ble_eq_true rfl : 30 < 191) hn) (mk_30 cA α) rfl) rfl hl.1 rfl (Nat.le_of_ble_eq_true rfl) dX11_balance_93 ⟨Nat.zero_le _, Nat.zero_le _⟩ (fun H locs hw => ?_)
                      refine x_topE (y := S.1 34 (8 + 6 * j + 1)) (by subst_vars; rfl) ?_
                      refine lv_iload_n hx hb dX11_balance_96 rfl (lv_at hl 2 rfl) ?_
                      refine lv_icmp_ne (tgt := 109) hx hb dX11_balance_97 (by decide) (fun c15 => ?_) (fun c15 => ?_)
                      · skip
                        refine lv_aload_n hx hb dX11_balance_109 rfl (lv_at hl 0 rfl) ?_
                        refine lv_iload hx hb dX11_balance_110 (lv_at hl 3 rfl) ?_
                        refine lv_iconst (v := nI 2) hx hb dX11_balance_112 (by decide) ?_
                        refine x_callVIr (q := 30) (C := RX11) (As := [.int (nI j), .int (nI 2)]) (rest := []) ⟨hx, hb, hml, hown, hts⟩ (ct_X11_of l D cA α n _ hn S1 j 2 (by omega)) (cwV 2 hts gX11_balance_X11_of rfl rfl rfl (by decide +kernel) ⟨Nat.le_of_ble_eq_true rfl, Nat.le_of_ble_eq_true rfl⟩) hK hw hAw (ws_recv hK hw (q := 30) (Nat.lt_of_lt_of_le (Nat.le_of_ble_eq_true rfl : 30 < 191) hn) (mk_30 cA α) rfl) rfl hl.1 rfl (Nat.le_of_ble_eq_true rfl) dX11_balance_113 ⟨Nat.zero_le _, Nat.zero_le _⟩ (fun H locs hw => ?_)
                        refine x_topE (y := S.1 34 (8 + 6 * j + 2)) (by subst_vars; rfl) ?_
                        refine lv_iconst (v := nI 1) hx hb dX11_balance_116 (by decide) ?_
                        refine lv_icmp_ne (tgt := 151) hx hb dX11_balance_117 (by decide) (fun c16 => ?_) (fun c16 => ?_)
                        · skip
                          refine lv_iinc (v := nI (j + 1)) (lv' := [(5, .int (nI (j + 1))), (0, .ref (α 30)), (1, .int (nI a)), (2, .int (nI b)), (3, .long acc)]) hx hb dX11_balance_151 hl (k := 3) rfl (nI_1 _) (by decide) rfl (fun ls hl => ?_)
                          refine lv_goto (tgt := 45) hx hb dX11_balance_154 (by decide) ?_
                          exact ih45 (j + 1) acc _ _ _ (by omega) (by omega) (by rw [sumL, ← hk]; unfold gBal; simp only [c1, c2, if_neg c3, if_pos c3, decide_eq_false c3, if_neg c4, if_pos c4, decide_eq_false c4, if_pos c5, if_neg (not_not_intro c5), decide_eq_true c5, c6, if_pos c7, if_neg (not_not_intro c7), decide_eq_true c7, if_pos c11, if_neg (not_not_intro c11), decide_eq_true c11, if_neg c15, if_pos c15, decide_eq_false c15, if_neg c16, if_pos c16, decide_eq_false c16, if_true, if_false, eq_self, Bool.false_eq_true, not_true_eq_false, not_false_eq_true, decide_true, decide_false, Bool.and_true, Bool.true_and, Bool.and_false, Bool.false_and, Bool.not_true, Bool.not_false, Bool.or_true, Bool.true_or, Bool.or_false, Bool.false_or, reduceIte, b2i_t, b2i_f, Int64.add_zero, Int64.zero_add, Int64.sub_eq_add_neg, Int64.add_assoc]) hw (lv_sub hl [1, 2, 3, 0, 4] rfl)
                        · skip
                          refine lv_aload_n hx hb dX11_balance_120 rfl (lv_at hl 0 rfl) ?_
                          refine lv_iload hx hb dX11_balance_121 (lv_at hl 3 rfl) ?_
                          refine lv_iconst (v := nI 0) hx hb dX11_balance_123 (by decide) ?_
                          refine x_callVIr (q := 30) (C := RX11) (As := [.int (nI j), .int (nI 0)]) (rest := []) ⟨hx, hb, hml, hown, hts⟩ (ct_X11_of l D cA α n _ hn S1 j 0 (by omega)) (cwV 2 hts gX11_balance_X11_of rfl rfl rfl (by decide +kernel) ⟨Nat.le_of_ble_eq_true rfl, Nat.le_of_ble_eq_true rfl⟩) hK hw hAw (ws_recv hK hw (q := 30) (Nat.lt_of_lt_of_le (Nat.le_of_ble_eq_true rfl : 30 < 191) hn) (mk_30 cA α) rfl) rfl hl.1 rfl (Nat.le_of_ble_eq_true rfl) dX11_balance_124 ⟨Nat.zero_le _, Nat.zero_le _⟩ (fun H locs hw => ?_)
                          refine x_topE (y := S.1 34 (8 + 6 * j + 0)) (by subst_vars; rfl) ?_
                          refine lv_iload_n hx hb dX11_balance_127 rfl (lv_at hl 2 rfl) ?_
                          refine lv_icmp_ne (tgt := 151) hx hb dX11_balance_128 (by decide) (fun c17 => ?_) (fun c17 => ?_)
                          · skip
                            refine lv_iinc (v := nI (j + 1)) (lv' := [(5, .int (nI (j + 1))), (0, .ref (α 30)), (1, .int (nI a)), (2, .int (nI b)), (3, .long acc)]) hx hb dX11_balance_151 hl (k := 3) rfl (nI_1 _) (by decide) rfl (fun ls hl => ?_)
                            refine lv_goto (tgt := 45) hx hb dX11_balance_154 (by decide) ?_
                            exact ih45 (j + 1) acc _ _ _ (by omega) (by omega) (by rw [sumL, ← hk]; unfold gBal; simp only [c1, c2, if_neg c3, if_pos c3, decide_eq_false c3, if_neg c4, if_pos c4, decide_eq_false c4, if_pos c5, if_neg (not_not_intro c5), decide_eq_true c5, c6, if_pos c7, if_neg (not_not_intro c7), decide_eq_true c7, if_pos c11, if_neg (not_not_intro c11), decide_eq_true c11, if_neg c15, if_pos c15, decide_eq_false c15, if_pos c16, if_neg (not_not_intro c16), decide_eq_true c16, if_neg c17, if_pos c17, decide_eq_false c17, if_true, if_false, eq_self, Bool.false_eq_true, not_true_eq_false, not_false_eq_true, decide_true, decide_false, Bool.and_true, Bool.true_and, Bool.and_false, Bool.false_and, Bool.not_true, Bool.not_false, Bool.or_true, Bool.true_or, Bool.or_false, Bool.false_or, reduceIte, b2i_t, b2i_f, Int64.add_zero, Int64.zero_add, Int64.sub_eq_add_neg, Int64.add_assoc]) hw (lv_sub hl [1, 2, 3, 0, 4] rfl)
                          · skip
                            refine lv_aload_n hx hb dX11_balance_131 rfl (lv_at hl 0 rfl) ?_
                            refine lv_iload hx hb dX11_balance_132 (lv_at hl 3 rfl) ?_
                            refine lv_iconst (v := nI 1) hx hb dX11_balance_134 (by decide) ?_
                            refine x_callVIr (q := 30) (C := RX11) (As := [.int (nI j), .int (nI 1)]) (rest := []) ⟨hx, hb, hml, hown, hts⟩ (ct_X11_of l D cA α n _ hn S1 j 1 (by omega)) (cwV 2 hts gX11_balance_X11_of rfl rfl rfl (by decide +kernel) ⟨Nat.le_of_ble_eq_true rfl, Nat.le_of_ble_eq_true rfl⟩) hK hw hAw (ws_recv hK hw (q := 30) (Nat.lt_of_lt_of_le (Nat.le_of_ble_eq_true rfl : 30 < 191) hn) (mk_30 cA α) rfl) rfl hl.1 rfl (Nat.le_of_ble_eq_true rfl) dX11_balance_135 ⟨Nat.zero_le _, Nat.zero_le _⟩ (fun H locs hw => ?_)
                            refine x_topE (y := S.1 34 (8 + 6 * j + 1)) (by subst_vars; rfl) ?_
                            refine lv_iload_n hx hb dX11_balance_138 rfl (lv_at hl 1 rfl) ?_
                            refine lv_icmp_ne (tgt := 151) hx hb dX11_balance_139 (by decide) (fun c18 => ?_) (fun c18 => ?_)
                            · skip
                              refine lv_iinc (v := nI (j + 1)) (lv' := [(5, .int (nI (j + 1))), (0, .ref (α 30)), (1, .int (nI a)), (2, .int (nI b)), (3, .long acc)]) hx hb dX11_balance_151 hl (k := 3) rfl (nI_1 _) (by decide) rfl (fun ls hl => ?_)
                              refine lv_goto (tgt := 45) hx hb dX11_balance_154 (by decide) ?_
                              exact ih45 (j + 1) acc _ _ _ (by omega) (by omega) (by rw [sumL, ← hk]; unfold gBal; simp only [c1, c2, if_neg c3, if_pos c3, decide_eq_false c3, if_neg c4, if_pos c4, decide_eq_false c4, if_pos c5, if_neg (not_not_intro c5), decide_eq_true c5, c6, if_pos c7, if_neg (not_not_intro c7), decide_eq_true c7, if_pos c11, if_neg (not_not_intro c11), decide_eq_true c11, if_neg c15, if_pos c15, decide_eq_false c15, if_pos c16, if_neg (not_not_intro c16), decide_eq_true c16, if_pos c17, if_neg (not_not_intro c17), decide_eq_true c17, if_neg c18, if_pos c18, decide_eq_false c18, if_true, if_false, eq_self, Bool.false_eq_true, not_true_eq_false, not_false_eq_true, decide_true, decide_false, Bool.and_true, Bool.true_and, Bool.and_false, Bool.false_and, Bool.not_true, Bool.not_false, Bool.or_true, Bool.true_or, Bool.or_false, Bool.false_or, reduceIte, b2i_t, b2i_f, Int64.add_zero, Int64.zero_add, Int64.sub_eq_add_neg, Int64.add_assoc]) hw (lv_sub hl [1, 2, 3, 0, 4] rfl)
                            · skip
                              refine lv_lload_n hx hb dX11_balance_142 rfl (lv_at hl 4 rfl) ?_
                              refine lv_aload_n hx hb dX11_balance_143 rfl (lv_at hl 0 rfl) ?_
                              refine lv_iload hx hb dX11_balance_144 (lv_at hl 3 rfl) ?_
                              refine x_callVLr (q := 30) (C := RX11) (As := [.int (nI j)]) (rest := [.long acc]) ⟨hx, hb, hml, hown, hts⟩ (ct_X11_valueOf l D cA α n _ hn S1 j (by subst eS1; exact ho j (by omega))) (cwV 1 hts gX11_balance_X11_valueOf rfl rfl rfl (by decide +kernel) ⟨Nat.le_of_ble_eq_true rfl, Nat.le_of_ble_eq_true rfl⟩) hK hw hAw (ws_recv hK hw (q := 30) (Nat.lt_of_lt_of_le (Nat.le_of_ble_eq_true rfl : 30 < 191) hn) (mk_30 cA α) rfl) rfl hl.1 rfl (Nat.le_of_ble_eq_true rfl) dX11_balance_146 ⟨Nat.zero_le _, Nat.zero_le _⟩ (fun H locs hw => ?_)
                              refine x_topEL (y := rVal S j) (by rw [eS1, rVal_30]) ?_
                              refine lv_lsub hx hb dX11_balance_149 ?_
                              refine lv_lstore_n (lv' := [(3, .long (acc - (rVal S j))), (0, .ref (α 30)), (1, .int (nI a)), (2, .int (nI b)), (5, .int (nI j))]) hx hb dX11_balance_150 rfl hl (by decide) rfl (fun ls hl => ?_)
                              refine lv_iinc (v := nI (j + 1)) (lv' := [(5, .int (nI (j + 1))), (3, .long (acc - (rVal S j))), (0, .ref (α 30)), (1, .int (nI a)), (2, .int (nI b))]) hx hb dX11_balance_151 hl (k := 4) rfl (nI_1 _) (by decide) rfl (fun ls hl => ?_)
                              refine lv_goto (tgt := 45) hx hb dX11_balance_154 (by decide) ?_
                              exact ih45 (j + 1) (acc - (rVal S j)) _ _ _ (by omega) (by omega) (by rw [sumL, ← hk]; unfold gBal; simp only [c1, c2, if_neg c3, if_pos c3, decide_eq_false c3, if_neg c4, if_pos c4, decide_eq_false c4, if_pos c5, if_neg (not_not_intro c5), decide_eq_true c5, c6, if_pos c7, if_neg (not_not_intro c7), decide_eq_true c7, if_pos c11, if_neg (not_not_intro c11), decide_eq_true c11, if_neg c15, if_pos c15, decide_eq_false c15, if_pos c16, if_neg (not_not_intro c16), decide_eq_true c16, if_pos c17, if_neg (not_not_intro c17), decide_eq_true c17, if_pos c18, if_neg (not_not_intro c18), decide_eq_true c18, if_true, if_false, eq_self, Bool.false_eq_true, not_true_eq_false, not_false_eq_true, decide_true, decide_false, Bool.and_true, Bool.true_and, Bool.and_false, Bool.false_and, Bool.not_true, Bool.not_false, Bool.or_true, Bool.true_or, Bool.or_false, Bool.false_or, reduceIte, b2i_t, b2i_f, Int64.add_zero, Int64.zero_add, Int64.sub_eq_add_neg, Int64.add_assoc]) hw (lv_sub hl [2, 3, 4, 0, 1] rfl)
                      · skip
                        refine lv_lload_n hx hb dX11_balance_100 rfl (lv_at hl 4 rfl) ?_
                        refine lv_aload_n hx hb dX11_balance_101 rfl (lv_at hl 0 rfl) ?_
                        refine lv_iload hx hb dX11_balance_102 (lv_at hl 3 rfl) ?_
                        refine x_callVLr (q := 30) (C := RX11) (As := [.int (nI j)]) (rest := [.long acc]) ⟨hx, hb, hml, hown, hts⟩ (ct_X11_valueOf l D cA α n _ hn S1 j (by subst eS1; exact ho j (by omega))) (cwV 1 hts gX11_balance_X11_valueOf rfl rfl rfl (by decide +kernel) ⟨Nat.le_of_ble_eq_true rfl, Nat.le_of_ble_eq_true rfl⟩) hK hw hAw (ws_recv hK hw (q := 30) (Nat.lt_of_lt_of_le (Nat.le_of_ble_eq_true rfl : 30 < 191) hn) (mk_30 cA α) rfl) rfl hl.1 rfl (Nat.le_of_ble_eq_true rfl) dX11_balance_104 ⟨Nat.zero_le _, Nat.zero_le _⟩ (fun H locs hw => ?_)
                        refine x_topEL (y := rVal S j) (by rw [eS1, rVal_30]) ?_
                        refine lv_ladd hx hb dX11_balance_107 ?_
                        refine lv_lstore_n (lv' := [(3, .long (acc + (rVal S j))), (0, .ref (α 30)), (1, .int (nI a)), (2, .int (nI b)), (5, .int (nI j))]) hx hb dX11_balance_108 rfl hl (by decide) rfl (fun ls hl => ?_)
                        refine lv_aload_n hx hb dX11_balance_109 rfl (lv_at hl 1 rfl) ?_
                        refine lv_iload hx hb dX11_balance_110 (lv_at hl 4 rfl) ?_
                        refine lv_iconst (v := nI 2) hx hb dX11_balance_112 (by decide) ?_
                        refine x_callVIr (q := 30) (C := RX11) (As := [.int (nI j), .int (nI 2)]) (rest := []) ⟨hx, hb, hml, hown, hts⟩ (ct_X11_of l D cA α n _ hn S1 j 2 (by omega)) (cwV 2 hts gX11_balance_X11_of rfl rfl rfl (by decide +kernel) ⟨Nat.le_of_ble_eq_true rfl, Nat.le_of_ble_eq_true rfl⟩) hK hw hAw (ws_recv hK hw (q := 30) (Nat.lt_of_lt_of_le (Nat.le_of_ble_eq_true rfl : 30 < 191) hn) (mk_30 cA α) rfl) rfl hl.1 rfl (Nat.le_of_ble_eq_true rfl) dX11_balance_113 ⟨Nat.zero_le _, Nat.zero_le _⟩ (fun H locs hw => ?_)
                        refine x_topE (y := S.1 34 (8 + 6 * j + 2)) (by subst_vars; rfl) ?_
                        refine lv_iconst (v := nI 1) hx hb dX11_balance_116 (by decide) ?_
                        refine lv_icmp_ne (tgt := 151) hx hb dX11_balance_117 (by decide) (fun c19 => ?_) (fun c19 => ?_)
                        · skip
                          refine lv_iinc (v := nI (j + 1)) (lv' := [(5, .int (nI (j + 1))), (3, .long (acc + (rVal S j))), (0, .ref (α 30)), (1, .int (nI a)), (2, .int (nI b))]) hx hb dX11_balance_151 hl (k := 4) rfl (nI_1 _) (by decide) rfl (fun ls hl => ?_)
                          refine lv_goto (tgt := 45) hx hb dX11_balance_154 (by decide) ?_
                          exact ih45 (j + 1) (acc + (rVal S j)) _ _ _ (by omega) (by omega) (by rw [sumL, ← hk]; unfold gBal; simp only [c1, c2, if_neg c3, if_pos c3, decide_eq_false c3, if_neg c4, if_pos c4, decide_eq_false c4, if_pos c5, if_neg (not_not_intro c5), decide_eq_true c5, c6, if_pos c7, if_neg (not_not_intro c7), decide_eq_true c7, if_pos c11, if_neg (not_not_intro c11), decide_eq_true c11, if_pos c15, if_neg (not_not_intro c15), decide_eq_true c15, if_neg c19, if_pos c19, decide_eq_false c19, if_true, if_false, eq_self, Bool.false_eq_true, not_true_eq_false, not_false_eq_true, decide_true, decide_false, Bool.and_true, Bool.true_and, Bool.and_false, Bool.false_and, Bool.not_true, Bool.not_false, Bool.or_true, Bool.true_or, Bool.or_false, Bool.false_or, reduceIte, b2i_t, b2i_f, Int64.add_zero, Int64.zero_add, Int64.sub_eq_add_neg, Int64.add_assoc]) hw (lv_sub hl [2, 3, 4, 0, 1] rfl)
                        · skip
                          refine lv_aload_n hx hb dX11_balance_120 rfl (lv_at hl 1 rfl) ?_
                          refine lv_iload hx hb dX11_balance_121 (lv_at hl 4 rfl) ?_
                          refine lv_iconst (v := nI 0) hx hb dX11_balance_123 (by decide) ?_
                          refine x_callVIr (q := 30) (C := RX11) (As := [.int (nI j), .int (nI 0)]) (rest := []) ⟨hx, hb, hml, hown, hts⟩ (ct_X11_of l D cA α n _ hn S1 j 0 (by omega)) (cwV 2 hts gX11_balance_X11_of rfl rfl rfl (by decide +kernel) ⟨Nat.le_of_ble_eq_true rfl, Nat.le_of_ble_eq_true rfl⟩) hK hw hAw (ws_recv hK hw (q := 30) (Nat.lt_of_lt_of_le (Nat.le_of_ble_eq_true rfl : 30 < 191) hn) (mk_30 cA α) rfl) rfl hl.1 rfl (Nat.le_of_ble_eq_true rfl) dX11_balance_124 ⟨Nat.zero_le _, Nat.zero_le _⟩ (fun H locs hw => ?_)
                          refine x_topE (y := S.1 34 (8 + 6 * j + 0)) (by subst_vars; rfl) ?_
                          refine lv_iload_n hx hb dX11_balance_127 rfl (lv_at hl 3 rfl) ?_
                          refine lv_icmp_ne (tgt := 151) hx hb dX11_balance_128 (by decide) (fun c20 => ?_) (fun c20 => ?_)
                          · skip
                            refine lv_iinc (v := nI (j + 1)) (lv' := [(5, .int (nI (j + 1))), (3, .long (acc + (rVal S j))), (0, .ref (α 30)), (1, .int (nI a)), (2, .int (nI b))]) hx hb dX11_balance_151 hl (k := 4) rfl (nI_1 _) (by decide) rfl (fun ls hl => ?_)
                            refine lv_goto (tgt := 45) hx hb dX11_balance_154 (by decide) ?_
                            exact ih45 (j + 1) (acc + (rVal S j)) _ _ _ (by omega) (by omega) (by rw [sumL, ← hk]; unfold gBal; simp only [c1, c2, if_neg c3, if_pos c3, decide_eq_false c3, if_neg c4, if_pos c4, decide_eq_false c4, if_pos c5, if_neg (not_not_intro c5), decide_eq_true c5, c6, if_pos c7, if_neg (not_not_intro c7), decide_eq_true c7, if_pos c11, if_neg (not_not_intro c11), decide_eq_true c11, if_pos c15, if_neg (not_not_intro c15), decide_eq_true c15, if_pos c19, if_neg (not_not_intro c19), decide_eq_true c19, if_neg c20, if_pos c20, decide_eq_false c20, if_true, if_false, eq_self, Bool.false_eq_true, not_true_eq_false, not_false_eq_true, decide_true, decide_false, Bool.and_true, Bool.true_and, Bool.and_false, Bool.false_and, Bool.not_true, Bool.not_false, Bool.or_true, Bool.true_or, Bool.or_false, Bool.false_or, reduceIte, b2i_t, b2i_f, Int64.add_zero, Int64.zero_add, Int64.sub_eq_add_neg, Int64.add_assoc]) hw (lv_sub hl [2, 3, 4, 0, 1] rfl)
                          · skip
                            refine lv_aload_n hx hb dX11_balance_131 rfl (lv_at hl 1 rfl) ?_
                            refine lv_iload hx hb dX11_balance_132 (lv_at hl 4 rfl) ?_
                            refine lv_iconst (v := nI 1) hx hb dX11_balance_134 (by decide) ?_
                            refine x_callVIr (q := 30) (C := RX11) (As := [.int (nI j), .int (nI 1)]) (rest := []) ⟨hx, hb, hml, hown, hts⟩ (ct_X11_of l D cA α n _ hn S1 j 1 (by omega)) (cwV 2 hts gX11_balance_X11_of rfl rfl rfl (by decide +kernel) ⟨Nat.le_of_ble_eq_true rfl, Nat.le_of_ble_eq_true rfl⟩) hK hw hAw (ws_recv hK hw (q := 30) (Nat.lt_of_lt_of_le (Nat.le_of_ble_eq_true rfl : 30 < 191) hn) (mk_30 cA α) rfl) rfl hl.1 rfl (Nat.le_of_ble_eq_true rfl) dX11_balance_135 ⟨Nat.zero_le _, Nat.zero_le _⟩ (fun H locs hw => ?_)
                            refine x_topE (y := S.1 34 (8 + 6 * j + 1)) (by subst_vars; rfl) ?_
                            refine lv_iload_n hx hb dX11_balance_138 rfl (lv_at hl 2 rfl) ?_
                            refine lv_icmp_ne (tgt := 151) hx hb dX11_balance_139 (by decide) (fun c21 => ?_) (fun c21 => ?_)
                            · skip
                              refine lv_iinc (v := nI (j + 1)) (lv' := [(5, .int (nI (j + 1))), (3, .long (acc + (rVal S j))), (0, .ref (α 30)), (1, .int (nI a)), (2, .int (nI b))]) hx hb dX11_balance_151 hl (k := 4) rfl (nI_1 _) (by decide) rfl (fun ls hl => ?_)
                              refine lv_goto (tgt := 45) hx hb dX11_balance_154 (by decide) ?_
                              exact ih45 (j + 1) (acc + (rVal S j)) _ _ _ (by omega) (by omega) (by rw [sumL, ← hk]; unfold gBal; simp only [c1, c2, if_neg c3, if_pos c3, decide_eq_false c3, if_neg c4, if_pos c4, decide_eq_false c4, if_pos c5, if_neg (not_not_intro c5), decide_eq_true c5, c6, if_pos c7, if_neg (not_not_intro c7), decide_eq_true c7, if_pos c11, if_neg (not_not_intro c11), decide_eq_true c11, if_pos c15, if_neg (not_not_intro c15), decide_eq_true c15, if_pos c19, if_neg (not_not_intro c19), decide_eq_true c19, if_pos c20, if_neg (not_not_intro c20), decide_eq_true c20, if_neg c21, if_pos c21, decide_eq_false c21, if_true, if_false, eq_self, Bool.false_eq_true, not_true_eq_false, not_false_eq_true, decide_true, decide_false, Bool.and_true, Bool.true_and, Bool.and_false, Bool.false_and, Bool.not_true, Bool.not_false, Bool.or_true, Bool.true_or, Bool.or_false, Bool.false_or, reduceIte, b2i_t, b2i_f, Int64.add_zero, Int64.zero_add, Int64.sub_eq_add_neg, Int64.add_assoc]) hw (lv_sub hl [2, 3, 4, 0, 1] rfl)
                            · skip
                              refine lv_lload_n hx hb dX11_balance_142 rfl (lv_at hl 0 rfl) ?_
                              refine lv_aload_n hx hb dX11_balance_143 rfl (lv_at hl 1 rfl) ?_
                              refine lv_iload hx hb dX11_balance_144 (lv_at hl 4 rfl) ?_
                              refine x_callVLr (q := 30) (C := RX11) (As := [.int (nI j)]) (rest := [.long (acc + (rVal S j))]) ⟨hx, hb, hml, hown, hts⟩ (ct_X11_valueOf l D cA α n _ hn S1 j (by subst eS1; exact ho j (by omega))) (cwV 1 hts gX11_balance_X11_valueOf rfl rfl rfl (by decide +kernel) ⟨Nat.le_of_ble_eq_true rfl, Nat.le_of_ble_eq_true rfl⟩) hK hw hAw (ws_recv hK hw (q := 30) (Nat.lt_of_lt_of_le (Nat.le_of_ble_eq_true rfl : 30 < 191) hn) (mk_30 cA α) rfl) rfl hl.1 rfl (Nat.le_of_ble_eq_true rfl) dX11_balance_146 ⟨Nat.zero_le _, Nat.zero_le _⟩ (fun H locs hw => ?_)
                              refine x_topEL (y := rVal S j) (by rw [eS1, rVal_30]) ?_
                              refine lv_lsub hx hb dX11_balance_149 ?_
                              refine lv_lstore_n (lv' := [(3, .long ((acc + (rVal S j)) - (rVal S j))), (0, .ref (α 30)), (1, .int (nI a)), (2, .int (nI b)), (5, .int (nI j))]) hx hb dX11_balance_150 rfl hl (by decide) rfl (fun ls hl => ?_)
                              refine lv_iinc (v := nI (j + 1)) (lv' := [(5, .int (nI (j + 1))), (3, .long ((acc + (rVal S j)) - (rVal S j))), (0, .ref (α 30)), (1, .int (nI a)), (2, .int (nI b))]) hx hb dX11_balance_151 hl (k := 4) rfl (nI_1 _) (by decide) rfl (fun ls hl => ?_)
                              refine lv_goto (tgt := 45) hx hb dX11_balance_154 (by decide) ?_
                              exact ih45 (j + 1) ((acc + (rVal S j)) - (rVal S j)) _ _ _ (by omega) (by omega) (by rw [sumL, ← hk]; unfold gBal; simp only [c1, c2, if_neg c3, if_pos c3, decide_eq_false c3, if_neg c4, if_pos c4, decide_eq_false c4, if_pos c5, if_neg (not_not_intro c5), decide_eq_true c5, c6, if_pos c7, if_neg (not_not_intro c7), decide_eq_true c7, if_pos c11, if_neg (not_not_intro c11), decide_eq_true c11, if_pos c15, if_neg (not_not_intro c15), decide_eq_true c15, if_pos c19, if_neg (not_not_intro c19), decide_eq_true c19, if_pos c20, if_neg (not_not_intro c20), decide_eq_true c20, if_pos c21, if_neg (not_not_intro c21), decide_eq_true c21, if_true, if_false, eq_self, Bool.false_eq_true, not_true_eq_false, not_false_eq_true, decide_true, decide_false, Bool.and_true, Bool.true_and, Bool.and_false, Bool.false_and, Bool.not_true, Bool.not_false, Bool.or_true, Bool.true_or, Bool.or_false, Bool.false_or, reduceIte, b2i_t, b2i_f, Int64.add_zero, Int64.zero_add, Int64.sub_eq_add_neg, Int64.add_assoc]) hw (lv_sub hl [2, 3, 4, 0, 1] rfl)
                · skip
                  refine lv_goto (tgt := 151) hx hb dX11_balance_65 (by decide) ?_
                  refine lv_iinc (v := nI (j + 1)) (lv' := [(5, .int (nI (j + 1))), (0, .ref (α 30)), (1, .int (nI a)), (2, .int (nI b)), (3, .long acc)]) hx hb dX11_balance_151 hl (k := 3) rfl (nI_1 _) (by decide) rfl (fun ls hl => ?_)
                  refine lv_goto (tgt := 45) hx hb dX11_balance_154 (by decide) ?_
                  exact ih45 (j + 1) acc _ _ _ (by omega) (by omega) (by rw [sumL, ← hk]; unfold gBal; simp only [c1, c2, if_neg c3, if_pos c3, decide_eq_false c3, if_neg c4, if_pos c4, decide_eq_false c4, if_pos c5, if_neg (not_not_intro c5), decide_eq_true c5, c6, if_true, if_false, eq_self, Bool.false_eq_true, not_true_eq_false, not_false_eq_true, decide_true, decide_false, Bool.and_true, Bool.true_and, Bool.and_false, Bool.false_and, Bool.not_true, Bool.not_false, Bool.or_true, Bool.true_or, Bool.or_false, Bool.false_or, reduceIte, b2i_t, b2i_f, Int64.add_zero, Int64.zero_add, Int64.sub_eq_add_neg, Int64.add_assoc]) hw (lv_sub hl [1, 2, 3, 0, 4] rfl)
          exact lp45 _ 0 0 _ _ _ (Nat.lt_succ_self _) (Nat.zero_le _) rfl hw (lv_sub hl [2, 3, 4, 0, 1] rfl)
        · exact absurd c4 hab

set_option maxRecDepth 100000 in
set_option maxHeartbeats 1000000 in
theorem ct_X11_balanceS (l : Launch) (D : va_G) (cA : Nat → ClassId) (α : Nat → Nat) (n sz : Nat) (hn : 191 ≤ n) (S : Mem) (Cn : Nat) (hC : S.1 33 1 = nI Cn) (hC2 : Cn ≤ 6) (a : Nat) (ha : a < Cn) : CtL l yX11_balance wsX11_balance ({ frames := 3, cells := 0, slots := 0, locals := 64 }) D cA α n sz [.ref (α 30), .int (nI a), .int (nI a)] S 0 (setI S 30 0 (nI 0)) := by
  refine ct_enter cX11_balance 6 (some .long) (by decide) rfl (Nat.le_of_ble_eq_true rfl) ?_
  intro p e s m below meth c hx hb hr hml hlocks hown hts hK hsz hw ls hl
  have hown : s.vm.findClass RX11 = some m.cls := hown
  have hAw : ∀ z, Aw α n s.heap.size z → Aw α n sz z := by rw [hsz]; exact fun _ h => h
  have hl : lv_has ls 6 [(0, .ref (α 30)), (1, .int (nI a)), (2, .int (nI a))] := hl
  refine lv_aload_n hx hb dX11_balance_0 rfl (lv_at hl 0 rfl) ?_
  refine lv_aload_n hx hb dX11_balance_1 rfl (lv_at hl 0 rfl) ?_
  refine lv_iload_n hx hb dX11_balance_2 rfl (lv_at hl 1 rfl) ?_
  refine x_callVIr (q := 30) (C := RX11) (As := [.int (nI a)]) (rest := [.ref (α 30)]) ⟨hx, hb, hml, hown, hts⟩ (ct_X11_isCompany l D cA α n _ hn S (nI a)) (cwV 1 hts gX11_balance_X11_isCompany rfl rfl rfl (by decide +kernel) ⟨Nat.le_of_ble_eq_true rfl, Nat.le_of_ble_eq_true rfl⟩) hK hw hAw (ws_recv hK hw (q := 30) (Nat.lt_of_lt_of_le (Nat.le_of_ble_eq_true rfl : 30 < 191) hn) (mk_30 cA α) rfl) rfl hl.1 rfl (Nat.le_of_ble_eq_true rfl) dX11_balance_3 ⟨Nat.zero_le _, Nat.zero_le _⟩ (fun H locs hw => ?_)
  refine xb_eq (b := (isCoR S (nI a))) (tgt := 21) hx hb dX11_balance_6 (by decide) (fun c1 => ?_) (fun c1 => ?_)
  · exact absurd (isCo_t (S := S) (by skip; exact hC) hC2 ha) (by rw [c1]; decide)
  · skip
    refine lv_aload_n hx hb dX11_balance_9 rfl (lv_at hl 0 rfl) ?_
    refine lv_iload_n hx hb dX11_balance_10 rfl (lv_at hl 2 rfl) ?_
    refine x_callVIr (q := 30) (C := RX11) (As := [.int (nI a)]) (rest := [.ref (α 30)]) ⟨hx, hb, hml, hown, hts⟩ (ct_X11_isCompany l D cA α n _ hn S (nI a)) (cwV 1 hts gX11_balance_X11_isCompany rfl rfl rfl (by decide +kernel) ⟨Nat.le_of_ble_eq_true rfl, Nat.le_of_ble_eq_true rfl⟩) hK hw hAw (ws_recv hK hw (q := 30) (Nat.lt_of_lt_of_le (Nat.le_of_ble_eq_true rfl : 30 < 191) hn) (mk_30 cA α) rfl) rfl hl.1 rfl (Nat.le_of_ble_eq_true rfl) dX11_balance_11 ⟨Nat.zero_le _, Nat.zero_le _⟩ (fun H locs hw => ?_)
    refine xb_eq (b := (isCoR S (nI a))) (tgt := 21) hx hb dX11_balance_14 (by decide) (fun c2 => ?_) (fun c2 => ?_)
    · exact absurd (isCo_t (S := S) (by skip; exact hC) hC2 ha) (by rw [c2]; decide)
    · skip
      refine lv_iconst (v := nI 0) hx hb dX11_balance_17 (by decide) ?_
      refine lv_goto (tgt := 22) hx hb dX11_balance_18 (by decide) ?_
      refine x_putI (x := nI 0) (ty := .int) (C := RX11) (T := TX11) (N := 24) hx hb hts (fun _ h => List.mem_cons_of_mem _ (List.mem_append_right _ h)) tyX11 tyX11_ok nmX11 hown hK hw 30 (Nat.lt_of_lt_of_le (Nat.le_of_ble_eq_true rfl : 30 < 191) hn) (mk_30 cA α) rfl 0 (by decide) (hts _ (List.mem_of_getElem? (i := 1) rfl)) (fun _ h9 => h9) rfl rfl rfl rfl (Nat.le_of_ble_eq_true rfl) rfl dX11_balance_22 (fun S1 eS1 H locs hw => ?_)
      refine lv_aload_n hx hb dX11_balance_25 rfl (lv_at hl 0 rfl) ?_
      refine x_get (v := .int (S1.1 30 0)) (C := RX11) (T := TX11) (N := 24) hx hb hts (fun _ h => List.mem_cons_of_mem _ (List.mem_append_right _ h)) hown hK hw 30 (Nat.lt_of_lt_of_le (Nat.le_of_ble_eq_true rfl : 30 < 191) hn) (mk_30 cA α) rfl 0 (by decide) (hts _ (List.mem_of_getElem? (i := 1) rfl)) (fun _ h9 => h9) rfl dX11_balance_26 ?_
      refine x_topN (k := 0) (by subst eS1; simp [sI_e, upd]) ?_
      refine lv_iconst (v := nI 1) hx hb dX11_balance_29 (by decide) ?_
      refine xn_icmp_eq (tgt := 38) hx hb (by decide) (by decide) dX11_balance_30 (by decide) (fun c3 => ?_) (fun c3 => ?_)
      · exact absurd c3 (by decide)
      · skip
        refine lv_iload_n hx hb dX11_balance_33 rfl (lv_at hl 1 rfl) ?_
        refine lv_iload_n hx hb dX11_balance_34 rfl (lv_at hl 2 rfl) ?_
        refine xn_icmp_ne (tgt := 40) hx hb (by omega) (by omega) dX11_balance_35 (by decide) (fun c4 => ?_) (fun c4 => ?_)
        · exact absurd rfl c4
        · skip
          refine lv_lconst (v := 0) hx hb dX11_balance_38 (by decide) ?_
          exact ret_l hx hb hr hlocks hK hw dX11_balance_39 rfl (by subst_vars; rfl)

set_option maxRecDepth 100000 in
set_option maxHeartbeats 1000000 in
theorem ct_X11_balanceX (l : Launch) (D : va_G) (cA : Nat → ClassId) (α : Nat → Nat) (n sz : Nat) (hn : 191 ≤ n) (S : Mem) (Cn : Nat) (hC : S.1 33 1 = nI Cn) (hC2 : Cn ≤ 6) (x y : Int32) (hx9 : (¬ ∃ i, i < Cn ∧ x = nI i) ∨ ¬ ∃ i, i < Cn ∧ y = nI i) : CtL l yX11_balance wsX11_balance ({ frames := 3, cells := 0, slots := 0, locals := 64 }) D cA α n sz [.ref (α 30), .int x, .int y] S 0 (setI S 30 0 (nI 1)) := by
  refine ct_enter cX11_balance 6 (some .long) (by decide) rfl (Nat.le_of_ble_eq_true rfl) ?_
  intro p e s m below meth c hx hb hr hml hlocks hown hts hK hsz hw ls hl
  have hown : s.vm.findClass RX11 = some m.cls := hown
  have hAw : ∀ z, Aw α n s.heap.size z → Aw α n sz z := by rw [hsz]; exact fun _ h => h
  have hl : lv_has ls 6 [(0, .ref (α 30)), (1, .int x), (2, .int y)] := hl
  refine lv_aload_n hx hb dX11_balance_0 rfl (lv_at hl 0 rfl) ?_
  refine lv_aload_n hx hb dX11_balance_1 rfl (lv_at hl 0 rfl) ?_
  refine lv_iload_n hx hb dX11_balance_2 rfl (lv_at hl 1 rfl) ?_
  refine x_callVIr (q := 30) (C := RX11) (As := [.int x]) (rest := [.ref (α 30)]) ⟨hx, hb, hml, hown, hts⟩ (ct_X11_isCompany l D cA α n _ hn S x) (cwV 1 hts gX11_balance_X11_isCompany rfl rfl rfl (by decide +kernel) ⟨Nat.le_of_ble_eq_true rfl, Nat.le_of_ble_eq_true rfl⟩) hK hw hAw (ws_recv hK hw (q := 30) (Nat.lt_of_lt_of_le (Nat.le_of_ble_eq_true rfl : 30 < 191) hn) (mk_30 cA α) rfl) rfl hl.1 rfl (Nat.le_of_ble_eq_true rfl) dX11_balance_3 ⟨Nat.zero_le _, Nat.zero_le _⟩ (fun H locs hw => ?_)
  refine xb_eq (b := (isCoR S x)) (tgt := 21) hx hb dX11_balance_6 (by decide) (fun c1 => ?_) (fun c1 => ?_)
  · skip
    refine lv_iconst (v := nI 1) hx hb dX11_balance_21 (by decide) ?_
    refine x_putI (x := nI 1) (ty := .int) (C := RX11) (T := TX11) (N := 24) hx hb hts (fun _ h => List.mem_cons_of_mem _ (List.mem_append_right _ h)) tyX11 tyX11_ok nmX11 hown hK hw 30 (Nat.lt_of_lt_of_le (Nat.le_of_ble_eq_true rfl : 30 < 191) hn) (mk_30 cA α) rfl 0 (by decide) (hts _ (List.mem_of_getElem? (i := 1) rfl)) (fun _ h9 => h9) rfl rfl rfl rfl (Nat.le_of_ble_eq_true rfl) rfl dX11_balance_22 (fun S1 eS1 H locs hw => ?_)
    refine lv_aload_n hx hb dX11_balance_25 rfl (lv_at hl 0 rfl) ?_
    refine x_get (v := .int (S1.1 30 0)) (C := RX11) (T := TX11) (N := 24) hx hb hts (fun _ h => List.mem_cons_of_mem _ (List.mem_append_right _ h)) hown hK hw 30 (Nat.lt_of_lt_of_le (Nat.le_of_ble_eq_true rfl : 30 < 191) hn) (mk_30 cA α) rfl 0 (by decide) (hts _ (List.mem_of_getElem? (i := 1) rfl)) (fun _ h9 => h9) rfl dX11_balance_26 ?_
    refine x_topN (k := 1) (by subst eS1; simp [sI_e, upd]) ?_
    refine lv_iconst (v := nI 1) hx hb dX11_balance_29 (by decide) ?_
    refine xn_icmp_eq (tgt := 38) hx hb (by decide) (by decide) dX11_balance_30 (by decide) (fun c2 => ?_) (fun c2 => ?_)
    · skip
      refine lv_lconst (v := 0) hx hb dX11_balance_38 (by decide) ?_
      exact ret_l hx hb hr hlocks hK hw dX11_balance_39 rfl (by subst_vars; rfl)
    · exact absurd rfl c2
  · skip
    refine lv_aload_n hx hb dX11_balance_9 rfl (lv_at hl 0 rfl) ?_
    refine lv_iload_n hx hb dX11_balance_10 rfl (lv_at hl 2 rfl) ?_
    refine x_callVIr (q := 30) (C := RX11) (As := [.int y]) (rest := [.ref (α 30)]) ⟨hx, hb, hml, hown, hts⟩ (ct_X11_isCompany l D cA α n _ hn S y) (cwV 1 hts gX11_balance_X11_isCompany rfl rfl rfl (by decide +kernel) ⟨Nat.le_of_ble_eq_true rfl, Nat.le_of_ble_eq_true rfl⟩) hK hw hAw (ws_recv hK hw (q := 30) (Nat.lt_of_lt_of_le (Nat.le_of_ble_eq_true rfl : 30 < 191) hn) (mk_30 cA α) rfl) rfl hl.1 rfl (Nat.le_of_ble_eq_true rfl) dX11_balance_11 ⟨Nat.zero_le _, Nat.zero_le _⟩ (fun H locs hw => ?_)
    refine xb_eq (b := (isCoR S y)) (tgt := 21) hx hb dX11_balance_14 (by decide) (fun c3 => ?_) (fun c3 => ?_)
    · skip
      refine lv_iconst (v := nI 1) hx hb dX11_balance_21 (by decide) ?_
      refine x_putI (x := nI 1) (ty := .int) (C := RX11) (T := TX11) (N := 24) hx hb hts (fun _ h => List.mem_cons_of_mem _ (List.mem_append_right _ h)) tyX11 tyX11_ok nmX11 hown hK hw 30 (Nat.lt_of_lt_of_le (Nat.le_of_ble_eq_true rfl : 30 < 191) hn) (mk_30 cA α) rfl 0 (by decide) (hts _ (List.mem_of_getElem? (i := 1) rfl)) (fun _ h9 => h9) rfl rfl rfl rfl (Nat.le_of_ble_eq_true rfl) rfl dX11_balance_22 (fun S2 eS2 H locs hw => ?_)
      refine lv_aload_n hx hb dX11_balance_25 rfl (lv_at hl 0 rfl) ?_
      refine x_get (v := .int (S2.1 30 0)) (C := RX11) (T := TX11) (N := 24) hx hb hts (fun _ h => List.mem_cons_of_mem _ (List.mem_append_right _ h)) hown hK hw 30 (Nat.lt_of_lt_of_le (Nat.le_of_ble_eq_true rfl : 30 < 191) hn) (mk_30 cA α) rfl 0 (by decide) (hts _ (List.mem_of_getElem? (i := 1) rfl)) (fun _ h9 => h9) rfl dX11_balance_26 ?_
      refine x_topN (k := 1) (by subst eS2; simp [sI_e, upd]) ?_
      refine lv_iconst (v := nI 1) hx hb dX11_balance_29 (by decide) ?_
      refine xn_icmp_eq (tgt := 38) hx hb (by decide) (by decide) dX11_balance_30 (by decide) (fun c4 => ?_) (fun c4 => ?_)
      · skip
        refine lv_lconst (v := 0) hx hb dX11_balance_38 (by decide) ?_
        exact ret_l hx hb hr hlocks hK hw dX11_balance_39 rfl (by subst_vars; rfl)
      · exact absurd rfl c4
    · rcases hx9 with h | h; exact absurd (isCo_f (S := S) hC hC2 h) (by rw [c1]; decide); exact absurd (isCo_f (S := S) hC hC2 h) (by rw [c3]; decide)

set_option maxRecDepth 100000 in
set_option maxHeartbeats 1000000 in
theorem ct_X11_total0 (l : Launch) (D : va_G) (cA : Nat → ClassId) (α : Nat → Nat) (n sz : Nat) (hn : 191 ≤ n) (S : Mem) (N : Nat) (hN : S.1 34 0 = nI N) (hN2 : N ≤ 100) (ho : ∀ j, j < N → okR S j) : CtL l yX11_total wsX11_total ({ frames := 4, cells := 0, slots := 0, locals := 88 }) D cA α n sz [.ref (α 30), .int (nI 0)] S (sumL (gNet S (nI 0 - nI 1)) N) (setI S 30 0 (nI 0)) := by
  refine ct_enter cX11_total 2 (some .long) (by decide) rfl (Nat.le_of_ble_eq_true rfl) ?_
  intro p e s m below meth c hx hb hr hml hlocks hown hts hK hsz hw ls hl
  have hown : s.vm.findClass RX11 = some m.cls := hown
  have hAw : ∀ z, Aw α n s.heap.size z → Aw α n sz z := by rw [hsz]; exact fun _ h => h
  have hl : lv_has ls 2 [(0, .ref (α 30)), (1, .int (nI 0))] := hl
  refine lv_aload_n hx hb dX11_total_0 rfl (lv_at hl 0 rfl) ?_
  refine lv_iload_n hx hb dX11_total_1 rfl (lv_at hl 1 rfl) ?_
  refine lv_i2l hx hb dX11_total_2 rfl ?_
  refine lv_lconst (v := 0) hx hb dX11_total_3 (by decide) ?_
  refine lv_ldc2 (v := 7) hx hb hown (hts _ (List.mem_of_getElem? (i := 1) rfl)) dX11_total_4 ?_
  refine x_callSIr (q := 0) (C := RX0) (As := [.long ((nI 0).toInt64), .long (0), .long (7)]) (rest := [.ref (α 30)]) ⟨hx, hb, hml, hown, hts⟩ (ct_X11_within l D cA α n _ hn S ((nI 0).toInt64) (0) (7)) (va_cwS 3 hts gX11_total_X11_within rfl rfl rfl (by decide +kernel) ⟨Nat.le_of_ble_eq_true rfl, Nat.le_of_ble_eq_true rfl⟩) hK hw hAw rfl hl.1 rfl (Nat.le_of_ble_eq_true rfl) dX11_total_7 ⟨Nat.zero_le _, Nat.zero_le _⟩ (fun H locs hw => ?_)
  refine xb_eq (b := (wiL ((nI 0).toInt64) (0) (7))) (tgt := 17) hx hb dX11_total_10 (by decide) (fun c1 => ?_) (fun c1 => ?_)
  · exact absurd (show wiL (nI 0).toInt64 0 7 = true from w2t (a := 0) (b := 7) (by decide) (by decide) (by decide) (by decide)) (by rw [c1]; decide)
  · skip
    refine lv_iconst (v := nI 0) hx hb dX11_total_13 (by decide) ?_
    refine lv_goto (tgt := 18) hx hb dX11_total_14 (by decide) ?_
    refine x_putI (x := nI 0) (ty := .int) (C := RX11) (T := TX11) (N := 24) hx hb hts (fun _ h => List.mem_cons_of_mem _ (List.mem_append_right _ h)) tyX11 tyX11_ok nmX11 hown hK hw 30 (Nat.lt_of_lt_of_le (Nat.le_of_ble_eq_true rfl : 30 < 191) hn) (mk_30 cA α) rfl 0 (by decide) (hts _ (List.mem_of_getElem? (i := 2) rfl)) (fun _ h9 => h9) rfl rfl rfl rfl (Nat.le_of_ble_eq_true rfl) rfl dX11_total_18 (fun S1 eS1 H locs hw => ?_)
    refine lv_aload_n hx hb dX11_total_21 rfl (lv_at hl 0 rfl) ?_
    refine x_get (v := .int (S1.1 30 0)) (C := RX11) (T := TX11) (N := 24) hx hb hts (fun _ h => List.mem_cons_of_mem _ (List.mem_append_right _ h)) hown hK hw 30 (Nat.lt_of_lt_of_le (Nat.le_of_ble_eq_true rfl : 30 < 191) hn) (mk_30 cA α) rfl 0 (by decide) (hts _ (List.mem_of_getElem? (i := 2) rfl)) (fun _ h9 => h9) rfl dX11_total_22 ?_
    refine x_topN (k := 0) (by subst eS1; simp [sI_e, upd]) ?_
    refine lv_iconst (v := nI 1) hx hb dX11_total_25 (by decide) ?_
    refine xn_icmp_ne (tgt := 31) hx hb (by decide) (by decide) dX11_total_26 (by decide) (fun c2 => ?_) (fun c2 => ?_)
    · skip
      refine lv_iload_n hx hb dX11_total_31 rfl (lv_at hl 1 rfl) ?_
      refine lv_iconst (v := nI 4) hx hb dX11_total_32 (by decide) ?_
      refine xn_icmp_ge (tgt := 44) hx hb (by decide) (by decide) dX11_total_33 (by decide) (fun c3 => ?_) (fun c3 => ?_)
      · exact absurd c3 (by decide)
      · skip
        refine lv_aload_n hx hb dX11_total_36 rfl (lv_at hl 0 rfl) ?_
        refine lv_iload_n hx hb dX11_total_37 rfl (lv_at hl 1 rfl) ?_
        refine lv_iconst (v := nI 1) hx hb dX11_total_38 (by decide) ?_
        refine lv_isub hx hb dX11_total_39 ?_
        refine x_callVLr (q := 30) (C := RX11) (As := [.int ((nI 0) - (nI 1))]) (rest := []) ⟨hx, hb, hml, hown, hts⟩ (ct_X11_sumOf l D cA α n _ hn S1 ((nI 0) - (nI 1)) N (by subst eS1; exact hN) hN2 (by subst eS1; exact ho)) (cwV 1 hts gX11_total_X11_sumOf rfl rfl rfl (by decide +kernel) ⟨Nat.le_of_ble_eq_true rfl, Nat.le_of_ble_eq_true rfl⟩) hK hw hAw (ws_recv hK hw (q := 30) (Nat.lt_of_lt_of_le (Nat.le_of_ble_eq_true rfl : 30 < 191) hn) (mk_30 cA α) rfl) rfl hl.1 rfl (Nat.le_of_ble_eq_true rfl) dX11_total_40 ⟨Nat.zero_le _, Nat.zero_le _⟩ (fun H locs hw => ?_)
        exact ret_l hx hb hr hlocks hK hw dX11_total_43 (by subst_vars; rfl) (by subst_vars; rfl)
    · exact absurd c2 (by decide)

set_option maxRecDepth 100000 in
set_option maxHeartbeats 1000000 in
theorem ct_X11_total1 (l : Launch) (D : va_G) (cA : Nat → ClassId) (α : Nat → Nat) (n sz : Nat) (hn : 191 ≤ n) (S : Mem) (N : Nat) (hN : S.1 34 0 = nI N) (hN2 : N ≤ 100) (ho : ∀ j, j < N → okR S j) : CtL l yX11_total wsX11_total ({ frames := 4, cells := 0, slots := 0, locals := 88 }) D cA α n sz [.ref (α 30), .int (nI 1)] S (sumL (gNet S (nI 1 - nI 1)) N) (setI S 30 0 (nI 0)) := by
  refine ct_enter cX11_total 2 (some .long) (by decide) rfl (Nat.le_of_ble_eq_true rfl) ?_
  intro p e s m below meth c hx hb hr hml hlocks hown hts hK hsz hw ls hl
  have hown : s.vm.findClass RX11 = some m.cls := hown
  have hAw : ∀ z, Aw α n s.heap.size z → Aw α n sz z := by rw [hsz]; exact fun _ h => h
  have hl : lv_has ls 2 [(0, .ref (α 30)), (1, .int (nI 1))] := hl
  refine lv_aload_n hx hb dX11_total_0 rfl (lv_at hl 0 rfl) ?_
  refine lv_iload_n hx hb dX11_total_1 rfl (lv_at hl 1 rfl) ?_
  refine lv_i2l hx hb dX11_total_2 rfl ?_
  refine lv_lconst (v := 0) hx hb dX11_total_3 (by decide) ?_
  refine lv_ldc2 (v := 7) hx hb hown (hts _ (List.mem_of_getElem? (i := 1) rfl)) dX11_total_4 ?_
  refine x_callSIr (q := 0) (C := RX0) (As := [.long ((nI 1).toInt64), .long (0), .long (7)]) (rest := [.ref (α 30)]) ⟨hx, hb, hml, hown, hts⟩ (ct_X11_within l D cA α n _ hn S ((nI 1).toInt64) (0) (7)) (va_cwS 3 hts gX11_total_X11_within rfl rfl rfl (by decide +kernel) ⟨Nat.le_of_ble_eq_true rfl, Nat.le_of_ble_eq_true rfl⟩) hK hw hAw rfl hl.1 rfl (Nat.le_of_ble_eq_true rfl) dX11_total_7 ⟨Nat.zero_le _, Nat.zero_le _⟩ (fun H locs hw => ?_)
  refine xb_eq (b := (wiL ((nI 1).toInt64) (0) (7))) (tgt := 17) hx hb dX11_total_10 (by decide) (fun c1 => ?_) (fun c1 => ?_)
  · exact absurd (show wiL (nI 1).toInt64 0 7 = true from w2t (a := 0) (b := 7) (by decide) (by decide) (by decide) (by decide)) (by rw [c1]; decide)
  · skip
    refine lv_iconst (v := nI 0) hx hb dX11_total_13 (by decide) ?_
    refine lv_goto (tgt := 18) hx hb dX11_total_14 (by decide) ?_
    refine x_putI (x := nI 0) (ty := .int) (C := RX11) (T := TX11) (N := 24) hx hb hts (fun _ h => List.mem_cons_of_mem _ (List.mem_append_right _ h)) tyX11 tyX11_ok nmX11 hown hK hw 30 (Nat.lt_of_lt_of_le (Nat.le_of_ble_eq_true rfl : 30 < 191) hn) (mk_30 cA α) rfl 0 (by decide) (hts _ (List.mem_of_getElem? (i := 2) rfl)) (fun _ h9 => h9) rfl rfl rfl rfl (Nat.le_of_ble_eq_true rfl) rfl dX11_total_18 (fun S1 eS1 H locs hw => ?_)
    refine lv_aload_n hx hb dX11_total_21 rfl (lv_at hl 0 rfl) ?_
    refine x_get (v := .int (S1.1 30 0)) (C := RX11) (T := TX11) (N := 24) hx hb hts (fun _ h => List.mem_cons_of_mem _ (List.mem_append_right _ h)) hown hK hw 30 (Nat.lt_of_lt_of_le (Nat.le_of_ble_eq_true rfl : 30 < 191) hn) (mk_30 cA α) rfl 0 (by decide) (hts _ (List.mem_of_getElem? (i := 2) rfl)) (fun _ h9 => h9) rfl dX11_total_22 ?_
    refine x_topN (k := 0) (by subst eS1; simp [sI_e, upd]) ?_
    refine lv_iconst (v := nI 1) hx hb dX11_total_25 (by decide) ?_
    refine xn_icmp_ne (tgt := 31) hx hb (by decide) (by decide) dX11_total_26 (by decide) (fun c2 => ?_) (fun c2 => ?_)
    · skip
      refine lv_iload_n hx hb dX11_total_31 rfl (lv_at hl 1 rfl) ?_
      refine lv_iconst (v := nI 4) hx hb dX11_total_32 (by decide) ?_
      refine xn_icmp_ge (tgt := 44) hx hb (by decide) (by decide) dX11_total_33 (by decide) (fun c3 => ?_) (fun c3 => ?_)
      · exact absurd c3 (by decide)
      · skip
        refine lv_aload_n hx hb dX11_total_36 rfl (lv_at hl 0 rfl) ?_
        refine lv_iload_n hx hb dX11_total_37 rfl (lv_at hl 1 rfl) ?_
        refine lv_iconst (v := nI 1) hx hb dX11_total_38 (by decide) ?_
        refine lv_isub hx hb dX11_total_39 ?_
        refine x_callVLr (q := 30) (C := RX11) (As := [.int ((nI 1) - (nI 1))]) (rest := []) ⟨hx, hb, hml, hown, hts⟩ (ct_X11_sumOf l D cA α n _ hn S1 ((nI 1) - (nI 1)) N (by subst eS1; exact hN) hN2 (by subst eS1; exact ho)) (cwV 1 hts gX11_total_X11_sumOf rfl rfl rfl (by decide +kernel) ⟨Nat.le_of_ble_eq_true rfl, Nat.le_of_ble_eq_true rfl⟩) hK hw hAw (ws_recv hK hw (q := 30) (Nat.lt_of_lt_of_le (Nat.le_of_ble_eq_true rfl : 30 < 191) hn) (mk_30 cA α) rfl) rfl hl.1 rfl (Nat.le_of_ble_eq_true rfl) dX11_total_40 ⟨Nat.zero_le _, Nat.zero_le _⟩ (fun H locs hw => ?_)
        exact ret_l hx hb hr hlocks hK hw dX11_total_43 (by subst_vars; rfl) (by subst_vars; rfl)
    · exact absurd c2 (by decide)

set_option maxRecDepth 100000 in
set_option maxHeartbeats 1000000 in
theorem ct_X11_total2 (l : Launch) (D : va_G) (cA : Nat → ClassId) (α : Nat → Nat) (n sz : Nat) (hn : 191 ≤ n) (S : Mem) (N : Nat) (hN : S.1 34 0 = nI N) (hN2 : N ≤ 100) (ho : ∀ j, j < N → okR S j) : CtL l yX11_total wsX11_total ({ frames := 4, cells := 0, slots := 0, locals := 88 }) D cA α n sz [.ref (α 30), .int (nI 2)] S (sumL (gNet S (nI 2 - nI 1)) N) (setI S 30 0 (nI 0)) := by
  refine ct_enter cX11_total 2 (some .long) (by decide) rfl (Nat.le_of_ble_eq_true rfl) ?_
  intro p e s m below meth c hx hb hr hml hlocks hown hts hK hsz hw ls hl
  have hown : s.vm.findClass RX11 = some m.cls := hown
  have hAw : ∀ z, Aw α n s.heap.size z → Aw α n sz z := by rw [hsz]; exact fun _ h => h
  have hl : lv_has ls 2 [(0, .ref (α 30)), (1, .int (nI 2))] := hl
  refine lv_aload_n hx hb dX11_total_0 rfl (lv_at hl 0 rfl) ?_
  refine lv_iload_n hx hb dX11_total_1 rfl (lv_at hl 1 rfl) ?_
  refine lv_i2l hx hb dX11_total_2 rfl ?_
  refine lv_lconst (v := 0) hx hb dX11_total_3 (by decide) ?_
  refine lv_ldc2 (v := 7) hx hb hown (hts _ (List.mem_of_getElem? (i := 1) rfl)) dX11_total_4 ?_
  refine x_callSIr (q := 0) (C := RX0) (As := [.long ((nI 2).toInt64), .long (0), .long (7)]) (rest := [.ref (α 30)]) ⟨hx, hb, hml, hown, hts⟩ (ct_X11_within l D cA α n _ hn S ((nI 2).toInt64) (0) (7)) (va_cwS 3 hts gX11_total_X11_within rfl rfl rfl (by decide +kernel) ⟨Nat.le_of_ble_eq_true rfl, Nat.le_of_ble_eq_true rfl⟩) hK hw hAw rfl hl.1 rfl (Nat.le_of_ble_eq_true rfl) dX11_total_7 ⟨Nat.zero_le _, Nat.zero_le _⟩ (fun H locs hw => ?_)
  refine xb_eq (b := (wiL ((nI 2).toInt64) (0) (7))) (tgt := 17) hx hb dX11_total_10 (by decide) (fun c1 => ?_) (fun c1 => ?_)
  · exact absurd (show wiL (nI 2).toInt64 0 7 = true from w2t (a := 0) (b := 7) (by decide) (by decide) (by decide) (by decide)) (by rw [c1]; decide)
  · skip
    refine lv_iconst (v := nI 0) hx hb dX11_total_13 (by decide) ?_
    refine lv_goto (tgt := 18) hx hb dX11_total_14 (by decide) ?_
    refine x_putI (x := nI 0) (ty := .int) (C := RX11) (T := TX11) (N := 24) hx hb hts (fun _ h => List.mem_cons_of_mem _ (List.mem_append_right _ h)) tyX11 tyX11_ok nmX11 hown hK hw 30 (Nat.lt_of_lt_of_le (Nat.le_of_ble_eq_true rfl : 30 < 191) hn) (mk_30 cA α) rfl 0 (by decide) (hts _ (List.mem_of_getElem? (i := 2) rfl)) (fun _ h9 => h9) rfl rfl rfl rfl (Nat.le_of_ble_eq_true rfl) rfl dX11_total_18 (fun S1 eS1 H locs hw => ?_)
    refine lv_aload_n hx hb dX11_total_21 rfl (lv_at hl 0 rfl) ?_
    refine x_get (v := .int (S1.1 30 0)) (C := RX11) (T := TX11) (N := 24) hx hb hts (fun _ h => List.mem_cons_of_mem _ (List.mem_append_right _ h)) hown hK hw 30 (Nat.lt_of_lt_of_le (Nat.le_of_ble_eq_true rfl : 30 < 191) hn) (mk_30 cA α) rfl 0 (by decide) (hts _ (List.mem_of_getElem? (i := 2) rfl)) (fun _ h9 => h9) rfl dX11_total_22 ?_
    refine x_topN (k := 0) (by subst eS1; simp [sI_e, upd]) ?_
    refine lv_iconst (v := nI 1) hx hb dX11_total_25 (by decide) ?_
    refine xn_icmp_ne (tgt := 31) hx hb (by decide) (by decide) dX11_total_26 (by decide) (fun c2 => ?_) (fun c2 => ?_)
    · skip
      refine lv_iload_n hx hb dX11_total_31 rfl (lv_at hl 1 rfl) ?_
      refine lv_iconst (v := nI 4) hx hb dX11_total_32 (by decide) ?_
      refine xn_icmp_ge (tgt := 44) hx hb (by decide) (by decide) dX11_total_33 (by decide) (fun c3 => ?_) (fun c3 => ?_)
      · exact absurd c3 (by decide)
      · skip
        refine lv_aload_n hx hb dX11_total_36 rfl (lv_at hl 0 rfl) ?_
        refine lv_iload_n hx hb dX11_total_37 rfl (lv_at hl 1 rfl) ?_
        refine lv_iconst (v := nI 1) hx hb dX11_total_38 (by decide) ?_
        refine lv_isub hx hb dX11_total_39 ?_
        refine x_callVLr (q := 30) (C := RX11) (As := [.int ((nI 2) - (nI 1))]) (rest := []) ⟨hx, hb, hml, hown, hts⟩ (ct_X11_sumOf l D cA α n _ hn S1 ((nI 2) - (nI 1)) N (by subst eS1; exact hN) hN2 (by subst eS1; exact ho)) (cwV 1 hts gX11_total_X11_sumOf rfl rfl rfl (by decide +kernel) ⟨Nat.le_of_ble_eq_true rfl, Nat.le_of_ble_eq_true rfl⟩) hK hw hAw (ws_recv hK hw (q := 30) (Nat.lt_of_lt_of_le (Nat.le_of_ble_eq_true rfl : 30 < 191) hn) (mk_30 cA α) rfl) rfl hl.1 rfl (Nat.le_of_ble_eq_true rfl) dX11_total_40 ⟨Nat.zero_le _, Nat.zero_le _⟩ (fun H locs hw => ?_)
        exact ret_l hx hb hr hlocks hK hw dX11_total_43 (by subst_vars; rfl) (by subst_vars; rfl)
    · exact absurd c2 (by decide)

set_option maxRecDepth 100000 in
set_option maxHeartbeats 1000000 in
theorem ct_X11_total3 (l : Launch) (D : va_G) (cA : Nat → ClassId) (α : Nat → Nat) (n sz : Nat) (hn : 191 ≤ n) (S : Mem) (N : Nat) (hN : S.1 34 0 = nI N) (hN2 : N ≤ 100) (ho : ∀ j, j < N → okR S j) : CtL l yX11_total wsX11_total ({ frames := 4, cells := 0, slots := 0, locals := 88 }) D cA α n sz [.ref (α 30), .int (nI 3)] S (sumL (gNet S (nI 3 - nI 1)) N) (setI S 30 0 (nI 0)) := by
  refine ct_enter cX11_total 2 (some .long) (by decide) rfl (Nat.le_of_ble_eq_true rfl) ?_
  intro p e s m below meth c hx hb hr hml hlocks hown hts hK hsz hw ls hl
  have hown : s.vm.findClass RX11 = some m.cls := hown
  have hAw : ∀ z, Aw α n s.heap.size z → Aw α n sz z := by rw [hsz]; exact fun _ h => h
  have hl : lv_has ls 2 [(0, .ref (α 30)), (1, .int (nI 3))] := hl
  refine lv_aload_n hx hb dX11_total_0 rfl (lv_at hl 0 rfl) ?_
  refine lv_iload_n hx hb dX11_total_1 rfl (lv_at hl 1 rfl) ?_
  refine lv_i2l hx hb dX11_total_2 rfl ?_
  refine lv_lconst (v := 0) hx hb dX11_total_3 (by decide) ?_
  refine lv_ldc2 (v := 7) hx hb hown (hts _ (List.mem_of_getElem? (i := 1) rfl)) dX11_total_4 ?_
  refine x_callSIr (q := 0) (C := RX0) (As := [.long ((nI 3).toInt64), .long (0), .long (7)]) (rest := [.ref (α 30)]) ⟨hx, hb, hml, hown, hts⟩ (ct_X11_within l D cA α n _ hn S ((nI 3).toInt64) (0) (7)) (va_cwS 3 hts gX11_total_X11_within rfl rfl rfl (by decide +kernel) ⟨Nat.le_of_ble_eq_true rfl, Nat.le_of_ble_eq_true rfl⟩) hK hw hAw rfl hl.1 rfl (Nat.le_of_ble_eq_true rfl) dX11_total_7 ⟨Nat.zero_le _, Nat.zero_le _⟩ (fun H locs hw => ?_)
  refine xb_eq (b := (wiL ((nI 3).toInt64) (0) (7))) (tgt := 17) hx hb dX11_total_10 (by decide) (fun c1 => ?_) (fun c1 => ?_)
  · exact absurd (show wiL (nI 3).toInt64 0 7 = true from w2t (a := 0) (b := 7) (by decide) (by decide) (by decide) (by decide)) (by rw [c1]; decide)
  · skip
    refine lv_iconst (v := nI 0) hx hb dX11_total_13 (by decide) ?_
    refine lv_goto (tgt := 18) hx hb dX11_total_14 (by decide) ?_
    refine x_putI (x := nI 0) (ty := .int) (C := RX11) (T := TX11) (N := 24) hx hb hts (fun _ h => List.mem_cons_of_mem _ (List.mem_append_right _ h)) tyX11 tyX11_ok nmX11 hown hK hw 30 (Nat.lt_of_lt_of_le (Nat.le_of_ble_eq_true rfl : 30 < 191) hn) (mk_30 cA α) rfl 0 (by decide) (hts _ (List.mem_of_getElem? (i := 2) rfl)) (fun _ h9 => h9) rfl rfl rfl rfl (Nat.le_of_ble_eq_true rfl) rfl dX11_total_18 (fun S1 eS1 H locs hw => ?_)
    refine lv_aload_n hx hb dX11_total_21 rfl (lv_at hl 0 rfl) ?_
    refine x_get (v := .int (S1.1 30 0)) (C := RX11) (T := TX11) (N := 24) hx hb hts (fun _ h => List.mem_cons_of_mem _ (List.mem_append_right _ h)) hown hK hw 30 (Nat.lt_of_lt_of_le (Nat.le_of_ble_eq_true rfl : 30 < 191) hn) (mk_30 cA α) rfl 0 (by decide) (hts _ (List.mem_of_getElem? (i := 2) rfl)) (fun _ h9 => h9) rfl dX11_total_22 ?_
    refine x_topN (k := 0) (by subst eS1; simp [sI_e, upd]) ?_
    refine lv_iconst (v := nI 1) hx hb dX11_total_25 (by decide) ?_
    refine xn_icmp_ne (tgt := 31) hx hb (by decide) (by decide) dX11_total_26 (by decide) (fun c2 => ?_) (fun c2 => ?_)
    · skip
      refine lv_iload_n hx hb dX11_total_31 rfl (lv_at hl 1 rfl) ?_
      refine lv_iconst (v := nI 4) hx hb dX11_total_32 (by decide) ?_
      refine xn_icmp_ge (tgt := 44) hx hb (by decide) (by decide) dX11_total_33 (by decide) (fun c3 => ?_) (fun c3 => ?_)
      · exact absurd c3 (by decide)
      · skip
        refine lv_aload_n hx hb dX11_total_36 rfl (lv_at hl 0 rfl) ?_
        refine lv_iload_n hx hb dX11_total_37 rfl (lv_at hl 1 rfl) ?_
        refine lv_iconst (v := nI 1) hx hb dX11_total_38 (by decide) ?_
        refine lv_isub hx hb dX11_total_39 ?_
        refine x_callVLr (q := 30) (C := RX11) (As := [.int ((nI 3) - (nI 1))]) (rest := []) ⟨hx, hb, hml, hown, hts⟩ (ct_X11_sumOf l D cA α n _ hn S1 ((nI 3) - (nI 1)) N (by subst eS1; exact hN) hN2 (by subst eS1; exact ho)) (cwV 1 hts gX11_total_X11_sumOf rfl rfl rfl (by decide +kernel) ⟨Nat.le_of_ble_eq_true rfl, Nat.le_of_ble_eq_true rfl⟩) hK hw hAw (ws_recv hK hw (q := 30) (Nat.lt_of_lt_of_le (Nat.le_of_ble_eq_true rfl : 30 < 191) hn) (mk_30 cA α) rfl) rfl hl.1 rfl (Nat.le_of_ble_eq_true rfl) dX11_total_40 ⟨Nat.zero_le _, Nat.zero_le _⟩ (fun H locs hw => ?_)
        exact ret_l hx hb hr hlocks hK hw dX11_total_43 (by subst_vars; rfl) (by subst_vars; rfl)
    · exact absurd c2 (by decide)

set_option maxRecDepth 100000 in
set_option maxHeartbeats 1000000 in
theorem ct_X11_total4 (l : Launch) (D : va_G) (cA : Nat → ClassId) (α : Nat → Nat) (n sz : Nat) (hn : 191 ≤ n) (S : Mem)  : CtL l yX11_total wsX11_total ({ frames := 4, cells := 0, slots := 0, locals := 88 }) D cA α n sz [.ref (α 30), .int (nI 4)] S (S.2 35 0) (setI S 30 0 (nI 0)) := by
  refine ct_enter cX11_total 2 (some .long) (by decide) rfl (Nat.le_of_ble_eq_true rfl) ?_
  intro p e s m below meth c hx hb hr hml hlocks hown hts hK hsz hw ls hl
  have hown : s.vm.findClass RX11 = some m.cls := hown
  have hAw : ∀ z, Aw α n s.heap.size z → Aw α n sz z := by rw [hsz]; exact fun _ h => h
  have hl : lv_has ls 2 [(0, .ref (α 30)), (1, .int (nI 4))] := hl
  refine lv_aload_n hx hb dX11_total_0 rfl (lv_at hl 0 rfl) ?_
  refine lv_iload_n hx hb dX11_total_1 rfl (lv_at hl 1 rfl) ?_
  refine lv_i2l hx hb dX11_total_2 rfl ?_
  refine lv_lconst (v := 0) hx hb dX11_total_3 (by decide) ?_
  refine lv_ldc2 (v := 7) hx hb hown (hts _ (List.mem_of_getElem? (i := 1) rfl)) dX11_total_4 ?_
  refine x_callSIr (q := 0) (C := RX0) (As := [.long ((nI 4).toInt64), .long (0), .long (7)]) (rest := [.ref (α 30)]) ⟨hx, hb, hml, hown, hts⟩ (ct_X11_within l D cA α n _ hn S ((nI 4).toInt64) (0) (7)) (va_cwS 3 hts gX11_total_X11_within rfl rfl rfl (by decide +kernel) ⟨Nat.le_of_ble_eq_true rfl, Nat.le_of_ble_eq_true rfl⟩) hK hw hAw rfl hl.1 rfl (Nat.le_of_ble_eq_true rfl) dX11_total_7 ⟨Nat.zero_le _, Nat.zero_le _⟩ (fun H locs hw => ?_)
  refine xb_eq (b := (wiL ((nI 4).toInt64) (0) (7))) (tgt := 17) hx hb dX11_total_10 (by decide) (fun c1 => ?_) (fun c1 => ?_)
  · exact absurd (show wiL (nI 4).toInt64 0 7 = true from w2t (a := 0) (b := 7) (by decide) (by decide) (by decide) (by decide)) (by rw [c1]; decide)
  · skip
    refine lv_iconst (v := nI 0) hx hb dX11_total_13 (by decide) ?_
    refine lv_goto (tgt := 18) hx hb dX11_total_14 (by decide) ?_
    refine x_putI (x := nI 0) (ty := .int) (C := RX11) (T := TX11) (N := 24) hx hb hts (fun _ h => List.mem_cons_of_mem _ (List.mem_append_right _ h)) tyX11 tyX11_ok nmX11 hown hK hw 30 (Nat.lt_of_lt_of_le (Nat.le_of_ble_eq_true rfl : 30 < 191) hn) (mk_30 cA α) rfl 0 (by decide) (hts _ (List.mem_of_getElem? (i := 2) rfl)) (fun _ h9 => h9) rfl rfl rfl rfl (Nat.le_of_ble_eq_true rfl) rfl dX11_total_18 (fun S1 eS1 H locs hw => ?_)
    refine lv_aload_n hx hb dX11_total_21 rfl (lv_at hl 0 rfl) ?_
    refine x_get (v := .int (S1.1 30 0)) (C := RX11) (T := TX11) (N := 24) hx hb hts (fun _ h => List.mem_cons_of_mem _ (List.mem_append_right _ h)) hown hK hw 30 (Nat.lt_of_lt_of_le (Nat.le_of_ble_eq_true rfl : 30 < 191) hn) (mk_30 cA α) rfl 0 (by decide) (hts _ (List.mem_of_getElem? (i := 2) rfl)) (fun _ h9 => h9) rfl dX11_total_22 ?_
    refine x_topN (k := 0) (by subst eS1; simp [sI_e, upd]) ?_
    refine lv_iconst (v := nI 1) hx hb dX11_total_25 (by decide) ?_
    refine xn_icmp_ne (tgt := 31) hx hb (by decide) (by decide) dX11_total_26 (by decide) (fun c2 => ?_) (fun c2 => ?_)
    · skip
      refine lv_iload_n hx hb dX11_total_31 rfl (lv_at hl 1 rfl) ?_
      refine lv_iconst (v := nI 4) hx hb dX11_total_32 (by decide) ?_
      refine xn_icmp_ge (tgt := 44) hx hb (by decide) (by decide) dX11_total_33 (by decide) (fun c3 => ?_) (fun c3 => ?_)
      · skip
        refine lv_iload_n hx hb dX11_total_44 rfl (lv_at hl 1 rfl) ?_
        refine lv_bipush (v := nI 7) hx hb dX11_total_45 (by decide) ?_
        refine xn_icmp_ge (tgt := 61) hx hb (by decide) (by decide) dX11_total_47 (by decide) (fun c4 => ?_) (fun c4 => ?_)
        · exact absurd c4 (by decide)
        · skip
          refine lv_aload_n hx hb dX11_total_50 rfl (lv_at hl 0 rfl) ?_
          refine x_get (v := .ref (α 35)) (C := RX11) (T := TX11) (N := 24) hx hb hts (fun _ h => List.mem_cons_of_mem _ (List.mem_append_right _ h)) hown hK hw 30 (Nat.lt_of_lt_of_le (Nat.le_of_ble_eq_true rfl : 30 < 191) hn) (mk_30 cA α) rfl 14 (by decide) (hts _ (List.mem_of_getElem? (i := 3) rfl)) (fun _ h9 => h9) rfl dX11_total_51 ?_
          refine lv_iload_n hx hb dX11_total_54 rfl (lv_at hl 1 rfl) ?_
          refine lv_iconst (v := nI 4) hx hb dX11_total_55 (by decide) ?_
          refine xn_isub hx hb (by decide) dX11_total_56 ?_
          refine x_lald hx hb hK hw 35 309 (Nat.lt_of_lt_of_le (Nat.le_of_ble_eq_true rfl : 35 < 191) hn) (mk_35 cA α) 0 rfl (by decide) (by decide) dX11_total_57 ?_
          refine lv_goto (tgt := 66) hx hb dX11_total_58 (by decide) ?_
          exact ret_l hx hb hr hlocks hK hw dX11_total_66 (by subst_vars; rfl) (by subst_vars; rfl)
      · exact absurd c3 (by decide)
    · exact absurd c2 (by decide)

set_option maxRecDepth 100000 in
set_option maxHeartbeats 1000000 in
theorem ct_X11_total5 (l : Launch) (D : va_G) (cA : Nat → ClassId) (α : Nat → Nat) (n sz : Nat) (hn : 191 ≤ n) (S : Mem)  : CtL l yX11_total wsX11_total ({ frames := 4, cells := 0, slots := 0, locals := 88 }) D cA α n sz [.ref (α 30), .int (nI 5)] S (S.2 35 1) (setI S 30 0 (nI 0)) := by
  refine ct_enter cX11_total 2 (some .long) (by decide) rfl (Nat.le_of_ble_eq_true rfl) ?_
  intro p e s m below meth c hx hb hr hml hlocks hown hts hK hsz hw ls hl
  have hown : s.vm.findClass RX11 = some m.cls := hown
  have hAw : ∀ z, Aw α n s.heap.size z → Aw α n sz z := by rw [hsz]; exact fun _ h => h
  have hl : lv_has ls 2 [(0, .ref (α 30)), (1, .int (nI 5))] := hl
  refine lv_aload_n hx hb dX11_total_0 rfl (lv_at hl 0 rfl) ?_
  refine lv_iload_n hx hb dX11_total_1 rfl (lv_at hl 1 rfl) ?_
  refine lv_i2l hx hb dX11_total_2 rfl ?_
  refine lv_lconst (v := 0) hx hb dX11_total_3 (by decide) ?_
  refine lv_ldc2 (v := 7) hx hb hown (hts _ (List.mem_of_getElem? (i := 1) rfl)) dX11_total_4 ?_
  refine x_callSIr (q := 0) (C := RX0) (As := [.long ((nI 5).toInt64), .long (0), .long (7)]) (rest := [.ref (α 30)]) ⟨hx, hb, hml, hown, hts⟩ (ct_X11_within l D cA α n _ hn S ((nI 5).toInt64) (0) (7)) (va_cwS 3 hts gX11_total_X11_within rfl rfl rfl (by decide +kernel) ⟨Nat.le_of_ble_eq_true rfl, Nat.le_of_ble_eq_true rfl⟩) hK hw hAw rfl hl.1 rfl (Nat.le_of_ble_eq_true rfl) dX11_total_7 ⟨Nat.zero_le _, Nat.zero_le _⟩ (fun H locs hw => ?_)
  refine xb_eq (b := (wiL ((nI 5).toInt64) (0) (7))) (tgt := 17) hx hb dX11_total_10 (by decide) (fun c1 => ?_) (fun c1 => ?_)
  · exact absurd (show wiL (nI 5).toInt64 0 7 = true from w2t (a := 0) (b := 7) (by decide) (by decide) (by decide) (by decide)) (by rw [c1]; decide)
  · skip
    refine lv_iconst (v := nI 0) hx hb dX11_total_13 (by decide) ?_
    refine lv_goto (tgt := 18) hx hb dX11_total_14 (by decide) ?_
    refine x_putI (x := nI 0) (ty := .int) (C := RX11) (T := TX11) (N := 24) hx hb hts (fun _ h => List.mem_cons_of_mem _ (List.mem_append_right _ h)) tyX11 tyX11_ok nmX11 hown hK hw 30 (Nat.lt_of_lt_of_le (Nat.le_of_ble_eq_true rfl : 30 < 191) hn) (mk_30 cA α) rfl 0 (by decide) (hts _ (List.mem_of_getElem? (i := 2) rfl)) (fun _ h9 => h9) rfl rfl rfl rfl (Nat.le_of_ble_eq_true rfl) rfl dX11_total_18 (fun S1 eS1 H locs hw => ?_)
    refine lv_aload_n hx hb dX11_total_21 rfl (lv_at hl 0 rfl) ?_
    refine x_get (v := .int (S1.1 30 0)) (C := RX11) (T := TX11) (N := 24) hx hb hts (fun _ h => List.mem_cons_of_mem _ (List.mem_append_right _ h)) hown hK hw 30 (Nat.lt_of_lt_of_le (Nat.le_of_ble_eq_true rfl : 30 < 191) hn) (mk_30 cA α) rfl 0 (by decide) (hts _ (List.mem_of_getElem? (i := 2) rfl)) (fun _ h9 => h9) rfl dX11_total_22 ?_
    refine x_topN (k := 0) (by subst eS1; simp [sI_e, upd]) ?_
    refine lv_iconst (v := nI 1) hx hb dX11_total_25 (by decide) ?_
    refine xn_icmp_ne (tgt := 31) hx hb (by decide) (by decide) dX11_total_26 (by decide) (fun c2 => ?_) (fun c2 => ?_)
    · skip
      refine lv_iload_n hx hb dX11_total_31 rfl (lv_at hl 1 rfl) ?_
      refine lv_iconst (v := nI 4) hx hb dX11_total_32 (by decide) ?_
      refine xn_icmp_ge (tgt := 44) hx hb (by decide) (by decide) dX11_total_33 (by decide) (fun c3 => ?_) (fun c3 => ?_)
      · skip
        refine lv_iload_n hx hb dX11_total_44 rfl (lv_at hl 1 rfl) ?_
        refine lv_bipush (v := nI 7) hx hb dX11_total_45 (by decide) ?_
        refine xn_icmp_ge (tgt := 61) hx hb (by decide) (by decide) dX11_total_47 (by decide) (fun c4 => ?_) (fun c4 => ?_)
        · exact absurd c4 (by decide)
        · skip
          refine lv_aload_n hx hb dX11_total_50 rfl (lv_at hl 0 rfl) ?_
          refine x_get (v := .ref (α 35)) (C := RX11) (T := TX11) (N := 24) hx hb hts (fun _ h => List.mem_cons_of_mem _ (List.mem_append_right _ h)) hown hK hw 30 (Nat.lt_of_lt_of_le (Nat.le_of_ble_eq_true rfl : 30 < 191) hn) (mk_30 cA α) rfl 14 (by decide) (hts _ (List.mem_of_getElem? (i := 3) rfl)) (fun _ h9 => h9) rfl dX11_total_51 ?_
          refine lv_iload_n hx hb dX11_total_54 rfl (lv_at hl 1 rfl) ?_
          refine lv_iconst (v := nI 4) hx hb dX11_total_55 (by decide) ?_
          refine xn_isub hx hb (by decide) dX11_total_56 ?_
          refine x_lald hx hb hK hw 35 309 (Nat.lt_of_lt_of_le (Nat.le_of_ble_eq_true rfl : 35 < 191) hn) (mk_35 cA α) 1 rfl (by decide) (by decide) dX11_total_57 ?_
          refine lv_goto (tgt := 66) hx hb dX11_total_58 (by decide) ?_
          exact ret_l hx hb hr hlocks hK hw dX11_total_66 (by subst_vars; rfl) (by subst_vars; rfl)
      · exact absurd c3 (by decide)
    · exact absurd c2 (by decide)

set_option maxRecDepth 100000 in
set_option maxHeartbeats 1000000 in
theorem ct_X11_total6 (l : Launch) (D : va_G) (cA : Nat → ClassId) (α : Nat → Nat) (n sz : Nat) (hn : 191 ≤ n) (S : Mem)  : CtL l yX11_total wsX11_total ({ frames := 4, cells := 0, slots := 0, locals := 88 }) D cA α n sz [.ref (α 30), .int (nI 6)] S (S.2 35 2) (setI S 30 0 (nI 0)) := by
  refine ct_enter cX11_total 2 (some .long) (by decide) rfl (Nat.le_of_ble_eq_true rfl) ?_
  intro p e s m below meth c hx hb hr hml hlocks hown hts hK hsz hw ls hl
  have hown : s.vm.findClass RX11 = some m.cls := hown
  have hAw : ∀ z, Aw α n s.heap.size z → Aw α n sz z := by rw [hsz]; exact fun _ h => h
  have hl : lv_has ls 2 [(0, .ref (α 30)), (1, .int (nI 6))] := hl
  refine lv_aload_n hx hb dX11_total_0 rfl (lv_at hl 0 rfl) ?_
  refine lv_iload_n hx hb dX11_total_1 rfl (lv_at hl 1 rfl) ?_
  refine lv_i2l hx hb dX11_total_2 rfl ?_
  refine lv_lconst (v := 0) hx hb dX11_total_3 (by decide) ?_
  refine lv_ldc2 (v := 7) hx hb hown (hts _ (List.mem_of_getElem? (i := 1) rfl)) dX11_total_4 ?_
  refine x_callSIr (q := 0) (C := RX0) (As := [.long ((nI 6).toInt64), .long (0), .long (7)]) (rest := [.ref (α 30)]) ⟨hx, hb, hml, hown, hts⟩ (ct_X11_within l D cA α n _ hn S ((nI 6).toInt64) (0) (7)) (va_cwS 3 hts gX11_total_X11_within rfl rfl rfl (by decide +kernel) ⟨Nat.le_of_ble_eq_true rfl, Nat.le_of_ble_eq_true rfl⟩) hK hw hAw rfl hl.1 rfl (Nat.le_of_ble_eq_true rfl) dX11_total_7 ⟨Nat.zero_le _, Nat.zero_le _⟩ (fun H locs hw => ?_)
  refine xb_eq (b := (wiL ((nI 6).toInt64) (0) (7))) (tgt := 17) hx hb dX11_total_10 (by decide) (fun c1 => ?_) (fun c1 => ?_)
  · exact absurd (show wiL (nI 6).toInt64 0 7 = true from w2t (a := 0) (b := 7) (by decide) (by decide) (by decide) (by decide)) (by rw [c1]; decide)
  · skip
    refine lv_iconst (v := nI 0) hx hb dX11_total_13 (by decide) ?_
    refine lv_goto (tgt := 18) hx hb dX11_total_14 (by decide) ?_
    refine x_putI (x := nI 0) (ty := .int) (C := RX11) (T := TX11) (N := 24) hx hb hts (fun _ h => List.mem_cons_of_mem _ (List.mem_append_right _ h)) tyX11 tyX11_ok nmX11 hown hK hw 30 (Nat.lt_of_lt_of_le (Nat.le_of_ble_eq_true rfl : 30 < 191) hn) (mk_30 cA α) rfl 0 (by decide) (hts _ (List.mem_of_getElem? (i := 2) rfl)) (fun _ h9 => h9) rfl rfl rfl rfl (Nat.le_of_ble_eq_true rfl) rfl dX11_total_18 (fun S1 eS1 H locs hw => ?_)
    refine lv_aload_n hx hb dX11_total_21 rfl (lv_at hl 0 rfl) ?_
    refine x_get (v := .int (S1.1 30 0)) (C := RX11) (T := TX11) (N := 24) hx hb hts (fun _ h => List.mem_cons_of_mem _ (List.mem_append_right _ h)) hown hK hw 30 (Nat.lt_of_lt_of_le (Nat.le_of_ble_eq_true rfl : 30 < 191) hn) (mk_30 cA α) rfl 0 (by decide) (hts _ (List.mem_of_getElem? (i := 2) rfl)) (fun _ h9 => h9) rfl dX11_total_22 ?_
    refine x_topN (k := 0) (by subst eS1; simp [sI_e, upd]) ?_
    refine lv_iconst (v := nI 1) hx hb dX11_total_25 (by decide) ?_
    refine xn_icmp_ne (tgt := 31) hx hb (by decide) (by decide) dX11_total_26 (by decide) (fun c2 => ?_) (fun c2 => ?_)
    · skip
      refine lv_iload_n hx hb dX11_total_31 rfl (lv_at hl 1 rfl) ?_
      refine lv_iconst (v := nI 4) hx hb dX11_total_32 (by decide) ?_
      refine xn_icmp_ge (tgt := 44) hx hb (by decide) (by decide) dX11_total_33 (by decide) (fun c3 => ?_) (fun c3 => ?_)
      · skip
        refine lv_iload_n hx hb dX11_total_44 rfl (lv_at hl 1 rfl) ?_
        refine lv_bipush (v := nI 7) hx hb dX11_total_45 (by decide) ?_
        refine xn_icmp_ge (tgt := 61) hx hb (by decide) (by decide) dX11_total_47 (by decide) (fun c4 => ?_) (fun c4 => ?_)
        · exact absurd c4 (by decide)
        · skip
          refine lv_aload_n hx hb dX11_total_50 rfl (lv_at hl 0 rfl) ?_
          refine x_get (v := .ref (α 35)) (C := RX11) (T := TX11) (N := 24) hx hb hts (fun _ h => List.mem_cons_of_mem _ (List.mem_append_right _ h)) hown hK hw 30 (Nat.lt_of_lt_of_le (Nat.le_of_ble_eq_true rfl : 30 < 191) hn) (mk_30 cA α) rfl 14 (by decide) (hts _ (List.mem_of_getElem? (i := 3) rfl)) (fun _ h9 => h9) rfl dX11_total_51 ?_
          refine lv_iload_n hx hb dX11_total_54 rfl (lv_at hl 1 rfl) ?_
          refine lv_iconst (v := nI 4) hx hb dX11_total_55 (by decide) ?_
          refine xn_isub hx hb (by decide) dX11_total_56 ?_
          refine x_lald hx hb hK hw 35 309 (Nat.lt_of_lt_of_le (Nat.le_of_ble_eq_true rfl : 35 < 191) hn) (mk_35 cA α) 2 rfl (by decide) (by decide) dX11_total_57 ?_
          refine lv_goto (tgt := 66) hx hb dX11_total_58 (by decide) ?_
          exact ret_l hx hb hr hlocks hK hw dX11_total_66 (by subst_vars; rfl) (by subst_vars; rfl)
      · exact absurd c3 (by decide)
    · exact absurd c2 (by decide)

set_option maxRecDepth 100000 in
set_option maxHeartbeats 1000000 in
theorem ct_X11_total7 (l : Launch) (D : va_G) (cA : Nat → ClassId) (α : Nat → Nat) (n sz : Nat) (hn : 191 ≤ n) (S : Mem) (L : Nat) (hL : S.1 34 1 = nI L) (hL2 : L ≤ 100) (hlo : ∀ j, j < L → okI (S.1 34 (608 + 4 * j + 1)) 6) : CtL l yX11_total wsX11_total ({ frames := 4, cells := 0, slots := 0, locals := 88 }) D cA α n sz [.ref (α 30), .int (nI 7)] S (sumL (gPro S (-1)) L) (setI S 30 0 (nI 0)) := by
  refine ct_enter cX11_total 2 (some .long) (by decide) rfl (Nat.le_of_ble_eq_true rfl) ?_
  intro p e s m below meth c hx hb hr hml hlocks hown hts hK hsz hw ls hl
  have hown : s.vm.findClass RX11 = some m.cls := hown
  have hAw : ∀ z, Aw α n s.heap.size z → Aw α n sz z := by rw [hsz]; exact fun _ h => h
  have hl : lv_has ls 2 [(0, .ref (α 30)), (1, .int (nI 7))] := hl
  refine lv_aload_n hx hb dX11_total_0 rfl (lv_at hl 0 rfl) ?_
  refine lv_iload_n hx hb dX11_total_1 rfl (lv_at hl 1 rfl) ?_
  refine lv_i2l hx hb dX11_total_2 rfl ?_
  refine lv_lconst (v := 0) hx hb dX11_total_3 (by decide) ?_
  refine lv_ldc2 (v := 7) hx hb hown (hts _ (List.mem_of_getElem? (i := 1) rfl)) dX11_total_4 ?_
  refine x_callSIr (q := 0) (C := RX0) (As := [.long ((nI 7).toInt64), .long (0), .long (7)]) (rest := [.ref (α 30)]) ⟨hx, hb, hml, hown, hts⟩ (ct_X11_within l D cA α n _ hn S ((nI 7).toInt64) (0) (7)) (va_cwS 3 hts gX11_total_X11_within rfl rfl rfl (by decide +kernel) ⟨Nat.le_of_ble_eq_true rfl, Nat.le_of_ble_eq_true rfl⟩) hK hw hAw rfl hl.1 rfl (Nat.le_of_ble_eq_true rfl) dX11_total_7 ⟨Nat.zero_le _, Nat.zero_le _⟩ (fun H locs hw => ?_)
  refine xb_eq (b := (wiL ((nI 7).toInt64) (0) (7))) (tgt := 17) hx hb dX11_total_10 (by decide) (fun c1 => ?_) (fun c1 => ?_)
  · exact absurd (show wiL (nI 7).toInt64 0 7 = true from w2t (a := 0) (b := 7) (by decide) (by decide) (by decide) (by decide)) (by rw [c1]; decide)
  · skip
    refine lv_iconst (v := nI 0) hx hb dX11_total_13 (by decide) ?_
    refine lv_goto (tgt := 18) hx hb dX11_total_14 (by decide) ?_
    refine x_putI (x := nI 0) (ty := .int) (C := RX11) (T := TX11) (N := 24) hx hb hts (fun _ h => List.mem_cons_of_mem _ (List.mem_append_right _ h)) tyX11 tyX11_ok nmX11 hown hK hw 30 (Nat.lt_of_lt_of_le (Nat.le_of_ble_eq_true rfl : 30 < 191) hn) (mk_30 cA α) rfl 0 (by decide) (hts _ (List.mem_of_getElem? (i := 2) rfl)) (fun _ h9 => h9) rfl rfl rfl rfl (Nat.le_of_ble_eq_true rfl) rfl dX11_total_18 (fun S1 eS1 H locs hw => ?_)
    refine lv_aload_n hx hb dX11_total_21 rfl (lv_at hl 0 rfl) ?_
    refine x_get (v := .int (S1.1 30 0)) (C := RX11) (T := TX11) (N := 24) hx hb hts (fun _ h => List.mem_cons_of_mem _ (List.mem_append_right _ h)) hown hK hw 30 (Nat.lt_of_lt_of_le (Nat.le_of_ble_eq_true rfl : 30 < 191) hn) (mk_30 cA α) rfl 0 (by decide) (hts _ (List.mem_of_getElem? (i := 2) rfl)) (fun _ h9 => h9) rfl dX11_total_22 ?_
    refine x_topN (k := 0) (by subst eS1; simp [sI_e, upd]) ?_
    refine lv_iconst (v := nI 1) hx hb dX11_total_25 (by decide) ?_
    refine xn_icmp_ne (tgt := 31) hx hb (by decide) (by decide) dX11_total_26 (by decide) (fun c2 => ?_) (fun c2 => ?_)
    · skip
      refine lv_iload_n hx hb dX11_total_31 rfl (lv_at hl 1 rfl) ?_
      refine lv_iconst (v := nI 4) hx hb dX11_total_32 (by decide) ?_
      refine xn_icmp_ge (tgt := 44) hx hb (by decide) (by decide) dX11_total_33 (by decide) (fun c3 => ?_) (fun c3 => ?_)
      · skip
        refine lv_iload_n hx hb dX11_total_44 rfl (lv_at hl 1 rfl) ?_
        refine lv_bipush (v := nI 7) hx hb dX11_total_45 (by decide) ?_
        refine xn_icmp_ge (tgt := 61) hx hb (by decide) (by decide) dX11_total_47 (by decide) (fun c4 => ?_) (fun c4 => ?_)
        · skip
          refine lv_aload_n hx hb dX11_total_61 rfl (lv_at hl 0 rfl) ?_
          refine lv_iconst (v := (-1)) hx hb dX11_total_62 (by decide) ?_
          refine x_callVLr (q := 30) (C := RX11) (As := [.int (-1)]) (rest := []) ⟨hx, hb, hml, hown, hts⟩ (ct_X11_profitOf l D cA α n _ hn S1 (-1) L (by subst eS1; exact hL) hL2 (by subst eS1; exact hlo)) (cwV 1 hts gX11_total_X11_profitOf rfl rfl rfl (by decide +kernel) ⟨Nat.le_of_ble_eq_true rfl, Nat.le_of_ble_eq_true rfl⟩) hK hw hAw (ws_recv hK hw (q := 30) (Nat.lt_of_lt_of_le (Nat.le_of_ble_eq_true rfl : 30 < 191) hn) (mk_30 cA α) rfl) rfl hl.1 rfl (Nat.le_of_ble_eq_true rfl) dX11_total_63 ⟨Nat.zero_le _, Nat.zero_le _⟩ (fun H locs hw => ?_)
          exact ret_l hx hb hr hlocks hK hw dX11_total_66 (by subst_vars; rfl) (by subst_vars; rfl)
        · exact absurd c4 (by decide)
      · exact absurd c3 (by decide)
    · exact absurd c2 (by decide)

set_option maxRecDepth 100000 in
set_option maxHeartbeats 1000000 in
theorem ct_X11_totalX (l : Launch) (D : va_G) (cA : Nat → ClassId) (α : Nat → Nat) (n sz : Nat) (hn : 191 ≤ n) (S : Mem) (x : Int32) (hx9 : ¬ ∃ i, 0 ≤ i ∧ i ≤ 7 ∧ x = nI i) : CtL l yX11_total wsX11_total ({ frames := 4, cells := 0, slots := 0, locals := 88 }) D cA α n sz [.ref (α 30), .int x] S 0 (setI S 30 0 (nI 1)) := by
  refine ct_enter cX11_total 2 (some .long) (by decide) rfl (Nat.le_of_ble_eq_true rfl) ?_
  intro p e s m below meth c hx hb hr hml hlocks hown hts hK hsz hw ls hl
  have hown : s.vm.findClass RX11 = some m.cls := hown
  have hAw : ∀ z, Aw α n s.heap.size z → Aw α n sz z := by rw [hsz]; exact fun _ h => h
  have hl : lv_has ls 2 [(0, .ref (α 30)), (1, .int x)] := hl
  refine lv_aload_n hx hb dX11_total_0 rfl (lv_at hl 0 rfl) ?_
  refine lv_iload_n hx hb dX11_total_1 rfl (lv_at hl 1 rfl) ?_
  refine lv_i2l hx hb dX11_total_2 rfl ?_
  refine lv_lconst (v := 0) hx hb dX11_total_3 (by decide) ?_
  refine lv_ldc2 (v := 7) hx hb hown (hts _ (List.mem_of_getElem? (i := 1) rfl)) dX11_total_4 ?_
  refine x_callSIr (q := 0) (C := RX0) (As := [.long (x.toInt64), .long (0), .long (7)]) (rest := [.ref (α 30)]) ⟨hx, hb, hml, hown, hts⟩ (ct_X11_within l D cA α n _ hn S (x.toInt64) (0) (7)) (va_cwS 3 hts gX11_total_X11_within rfl rfl rfl (by decide +kernel) ⟨Nat.le_of_ble_eq_true rfl, Nat.le_of_ble_eq_true rfl⟩) hK hw hAw rfl hl.1 rfl (Nat.le_of_ble_eq_true rfl) dX11_total_7 ⟨Nat.zero_le _, Nat.zero_le _⟩ (fun H locs hw => ?_)
  refine xb_eq (b := (wiL (x.toInt64) (0) (7))) (tgt := 17) hx hb dX11_total_10 (by decide) (fun c1 => ?_) (fun c1 => ?_)
  · skip
    refine lv_iconst (v := nI 1) hx hb dX11_total_17 (by decide) ?_
    refine x_putI (x := nI 1) (ty := .int) (C := RX11) (T := TX11) (N := 24) hx hb hts (fun _ h => List.mem_cons_of_mem _ (List.mem_append_right _ h)) tyX11 tyX11_ok nmX11 hown hK hw 30 (Nat.lt_of_lt_of_le (Nat.le_of_ble_eq_true rfl : 30 < 191) hn) (mk_30 cA α) rfl 0 (by decide) (hts _ (List.mem_of_getElem? (i := 2) rfl)) (fun _ h9 => h9) rfl rfl rfl rfl (Nat.le_of_ble_eq_true rfl) rfl dX11_total_18 (fun S1 eS1 H locs hw => ?_)
    refine lv_aload_n hx hb dX11_total_21 rfl (lv_at hl 0 rfl) ?_
    refine x_get (v := .int (S1.1 30 0)) (C := RX11) (T := TX11) (N := 24) hx hb hts (fun _ h => List.mem_cons_of_mem _ (List.mem_append_right _ h)) hown hK hw 30 (Nat.lt_of_lt_of_le (Nat.le_of_ble_eq_true rfl : 30 < 191) hn) (mk_30 cA α) rfl 0 (by decide) (hts _ (List.mem_of_getElem? (i := 2) rfl)) (fun _ h9 => h9) rfl dX11_total_22 ?_
    refine x_topN (k := 1) (by subst eS1; simp [sI_e, upd]) ?_
    refine lv_iconst (v := nI 1) hx hb dX11_total_25 (by decide) ?_
    refine xn_icmp_ne (tgt := 31) hx hb (by decide) (by decide) dX11_total_26 (by decide) (fun c2 => ?_) (fun c2 => ?_)
    · exact absurd rfl c2
    · skip
      refine lv_lconst (v := 0) hx hb dX11_total_29 (by decide) ?_
      exact ret_l hx hb hr hlocks hK hw dX11_total_30 rfl (by subst_vars; rfl)
  · exact absurd (show wiL x.toInt64 0 7 = false from w2f (a := 0) (b := 7) hx9 (by decide) (by decide)) (by rw [c1]; decide)
