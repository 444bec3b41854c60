set_option maxRecDepth 100000 in
set_option maxHeartbeats 1000000 in
theorem ct_X7_putItem (l : Launch) (D : va_G) (cA : Nat → ClassId) (α : Nat → Nat) (n sz : Nat) (hn : 191 ≤ n) (S : Mem) (j : Nat) (a b c1 d1 : Int32) (hj : j < 100) : CtV l yX7_putItem wsX7_putItem ({ frames := 0, cells := 0, slots := 0, locals := 0 }) D cA α n sz [.ref (α 44), .int (nI j), .int a, .int b, .int c1, .int d1] S (setI (setI (setI (setI S 45 j a) 46 j b) 47 j c1) 48 j d1) := by
  refine ct_enter cX7_putItem 6 none (by decide) rfl (Nat.le_of_ble_eq_true rfl) ?_
  intro p e s m below meth c hx hb hr hml hlocks hown hts hK hsz hw ls hl
  have hown : s.vm.findClass RX7 = some m.cls := hown
  have hAw : ∀ z, Aw α n s.heap.size z → Aw α n sz z := by rw [hsz]; exact fun _ h => h
  have hl : lv_has ls 6 [(0, .ref (α 44)), (1, .int (nI j)), (2, .int a), (3, .int b), (4, .int c1), (5, .int d1)] := hl
  refine lv_aload_n hx hb dX7_putItem_0 rfl (lv_at hl 0 rfl) ?_
  refine x_get (v := .ref (α 45)) (C := RX7) (T := TX7) (N := 9) hx hb hts (fun _ h => List.mem_cons_of_mem _ (List.mem_append_right _ h)) hown hK hw 44 (Nat.lt_of_lt_of_le (Nat.le_of_ble_eq_true rfl : 44 < 191) hn) (mk_44 cA α) rfl 0 (by decide) (hts _ (List.mem_of_getElem? (i := 1) rfl)) (fun _ h9 => h9) rfl dX7_putItem_1 ?_
  refine lv_iload_n hx hb dX7_putItem_4 rfl (lv_at hl 1 rfl) ?_
  refine lv_iload_n hx hb dX7_putItem_5 rfl (lv_at hl 2 rfl) ?_
  refine x_iast (x := a) hx hb hK hw 45 100 (Nat.lt_of_lt_of_le (Nat.le_of_ble_eq_true rfl : 45 < 191) hn) (mk_45 cA α) j rfl (by omega) (by decide) dX7_putItem_6 (fun S1 eS1 H locs hw => ?_)
  refine lv_aload_n hx hb dX7_putItem_7 rfl (lv_at hl 0 rfl) ?_
  refine x_get (v := .ref (α 46)) (C := RX7) (T := TX7) (N := 9) hx hb hts (fun _ h => List.mem_cons_of_mem _ (List.mem_append_right _ h)) hown hK hw 44 (Nat.lt_of_lt_of_le (Nat.le_of_ble_eq_true rfl : 44 < 191) hn) (mk_44 cA α) rfl 1 (by decide) (hts _ (List.mem_of_getElem? (i := 2) rfl)) (fun _ h9 => h9) rfl dX7_putItem_8 ?_
  refine lv_iload_n hx hb dX7_putItem_11 rfl (lv_at hl 1 rfl) ?_
  refine lv_iload_n hx hb dX7_putItem_12 rfl (lv_at hl 3 rfl) ?_
  refine x_iast (x := b) hx hb hK hw 46 100 (Nat.lt_of_lt_of_le (Nat.le_of_ble_eq_true rfl : 46 < 191) hn) (mk_46 cA α) j rfl (by omega) (by decide) dX7_putItem_13 (fun S2 eS2 H locs hw => ?_)
  refine lv_aload_n hx hb dX7_putItem_14 rfl (lv_at hl 0 rfl) ?_
  refine x_get (v := .ref (α 47)) (C := RX7) (T := TX7) (N := 9) hx hb hts (fun _ h => List.mem_cons_of_mem _ (List.mem_append_right _ h)) hown hK hw 44 (Nat.lt_of_lt_of_le (Nat.le_of_ble_eq_true rfl : 44 < 191) hn) (mk_44 cA α) rfl 2 (by decide) (hts _ (List.mem_of_getElem? (i := 3) rfl)) (fun _ h9 => h9) rfl dX7_putItem_15 ?_
  refine lv_iload_n hx hb dX7_putItem_18 rfl (lv_at hl 1 rfl) ?_
  refine lv_iload hx hb dX7_putItem_19 (lv_at hl 4 rfl) ?_
  refine x_iast (x := c1) hx hb hK hw 47 100 (Nat.lt_of_lt_of_le (Nat.le_of_ble_eq_true rfl : 47 < 191) hn) (mk_47 cA α) j rfl (by omega) (by decide) dX7_putItem_21 (fun S3 eS3 H locs hw => ?_)
  refine lv_aload_n hx hb dX7_putItem_22 rfl (lv_at hl 0 rfl) ?_
  refine x_get (v := .ref (α 48)) (C := RX7) (T := TX7) (N := 9) hx hb hts (fun _ h => List.mem_cons_of_mem _ (List.mem_append_right _ h)) hown hK hw 44 (Nat.lt_of_lt_of_le (Nat.le_of_ble_eq_true rfl : 44 < 191) hn) (mk_44 cA α) rfl 3 (by decide) (hts _ (List.mem_of_getElem? (i := 4) rfl)) (fun _ h9 => h9) rfl dX7_putItem_23 ?_
  refine lv_iload_n hx hb dX7_putItem_26 rfl (lv_at hl 1 rfl) ?_
  refine lv_iload hx hb dX7_putItem_27 (lv_at hl 5 rfl) ?_
  refine x_iast (x := d1) hx hb hK hw 48 100 (Nat.lt_of_lt_of_le (Nat.le_of_ble_eq_true rfl : 48 < 191) hn) (mk_48 cA α) j rfl (by omega) (by decide) dX7_putItem_29 (fun S4 eS4 H locs hw => ?_)
  exact ret_v hx hb hr hlocks hK hw dX7_putItem_30 (by subst_vars; rfl)

set_option maxRecDepth 100000 in
set_option maxHeartbeats 1000000 in
theorem ct_X7_putDelivery (l : Launch) (D : va_G) (cA : Nat → ClassId) (α : Nat → Nat) (n sz : Nat) (hn : 191 ≤ n) (S : Mem) (j : Nat) (a b c1 d1 e1 : Int32) (hj : j < 100) : CtV l yX7_putDelivery wsX7_putDelivery ({ frames := 0, cells := 0, slots := 0, locals := 0 }) D cA α n sz [.ref (α 44), .int (nI j), .int a, .int b, .int c1, .int d1, .int e1] S (setI (setI (setI (setI (setI S 49 j a) 50 j b) 51 j c1) 52 j d1) 53 j e1) := by
  refine ct_enter cX7_putDelivery 7 none (by decide) rfl (Nat.le_of_ble_eq_true rfl) ?_
  intro p e s m below meth c hx hb hr hml hlocks hown hts hK hsz hw ls hl
  have hown : s.vm.findClass RX7 = some m.cls := hown
  have hAw : ∀ z, Aw α n s.heap.size z → Aw α n sz z := by rw [hsz]; exact fun _ h => h
  have hl : lv_has ls 7 [(0, .ref (α 44)), (1, .int (nI j)), (2, .int a), (3, .int b), (4, .int c1), (5, .int d1), (6, .int e1)] := hl
  refine lv_aload_n hx hb dX7_putDelivery_0 rfl (lv_at hl 0 rfl) ?_
  refine x_get (v := .ref (α 49)) (C := RX7) (T := TX7) (N := 9) hx hb hts (fun _ h => List.mem_cons_of_mem _ (List.mem_append_right _ h)) hown hK hw 44 (Nat.lt_of_lt_of_le (Nat.le_of_ble_eq_true rfl : 44 < 191) hn) (mk_44 cA α) rfl 4 (by decide) (hts _ (List.mem_of_getElem? (i := 1) rfl)) (fun _ h9 => h9) rfl dX7_putDelivery_1 ?_
  refine lv_iload_n hx hb dX7_putDelivery_4 rfl (lv_at hl 1 rfl) ?_
  refine lv_iload_n hx hb dX7_putDelivery_5 rfl (lv_at hl 2 rfl) ?_
  refine x_iast (x := a) hx hb hK hw 49 100 (Nat.lt_of_lt_of_le (Nat.le_of_ble_eq_true rfl : 49 < 191) hn) (mk_49 cA α) j rfl (by omega) (by decide) dX7_putDelivery_6 (fun S1 eS1 H locs hw => ?_)
  refine lv_aload_n hx hb dX7_putDelivery_7 rfl (lv_at hl 0 rfl) ?_
  refine x_get (v := .ref (α 50)) (C := RX7) (T := TX7) (N := 9) hx hb hts (fun _ h => List.mem_cons_of_mem _ (List.mem_append_right _ h)) hown hK hw 44 (Nat.lt_of_lt_of_le (Nat.le_of_ble_eq_true rfl : 44 < 191) hn) (mk_44 cA α) rfl 5 (by decide) (hts _ (List.mem_of_getElem? (i := 2) rfl)) (fun _ h9 => h9) rfl dX7_putDelivery_8 ?_
  refine lv_iload_n hx hb dX7_putDelivery_11 rfl (lv_at hl 1 rfl) ?_
  refine lv_iload_n hx hb dX7_putDelivery_12 rfl (lv_at hl 3 rfl) ?_
  refine x_iast (x := b) hx hb hK hw 50 100 (Nat.lt_of_lt_of_le (Nat.le_of_ble_eq_true rfl : 50 < 191) hn) (mk_50 cA α) j rfl (by omega) (by decide) dX7_putDelivery_13 (fun S2 eS2 H locs hw => ?_)
  refine lv_aload_n hx hb dX7_putDelivery_14 rfl (lv_at hl 0 rfl) ?_
  refine x_get (v := .ref (α 51)) (C := RX7) (T := TX7) (N := 9) hx hb hts (fun _ h => List.mem_cons_of_mem _ (List.mem_append_right _ h)) hown hK hw 44 (Nat.lt_of_lt_of_le (Nat.le_of_ble_eq_true rfl : 44 < 191) hn) (mk_44 cA α) rfl 6 (by decide) (hts _ (List.mem_of_getElem? (i := 3) rfl)) (fun _ h9 => h9) rfl dX7_putDelivery_15 ?_
  refine lv_iload_n hx hb dX7_putDelivery_18 rfl (lv_at hl 1 rfl) ?_
  refine lv_iload hx hb dX7_putDelivery_19 (lv_at hl 4 rfl) ?_
  refine x_iast (x := c1) hx hb hK hw 51 100 (Nat.lt_of_lt_of_le (Nat.le_of_ble_eq_true rfl : 51 < 191) hn) (mk_51 cA α) j rfl (by omega) (by decide) dX7_putDelivery_21 (fun S3 eS3 H locs hw => ?_)
  refine lv_aload_n hx hb dX7_putDelivery_22 rfl (lv_at hl 0 rfl) ?_
  refine x_get (v := .ref (α 52)) (C := RX7) (T := TX7) (N := 9) hx hb hts (fun _ h => List.mem_cons_of_mem _ (List.mem_append_right _ h)) hown hK hw 44 (Nat.lt_of_lt_of_le (Nat.le_of_ble_eq_true rfl : 44 < 191) hn) (mk_44 cA α) rfl 7 (by decide) (hts _ (List.mem_of_getElem? (i := 4) rfl)) (fun _ h9 => h9) rfl dX7_putDelivery_23 ?_
  refine lv_iload_n hx hb dX7_putDelivery_26 rfl (lv_at hl 1 rfl) ?_
  refine lv_iload hx hb dX7_putDelivery_27 (lv_at hl 5 rfl) ?_
  refine x_iast (x := d1) hx hb hK hw 52 100 (Nat.lt_of_lt_of_le (Nat.le_of_ble_eq_true rfl : 52 < 191) hn) (mk_52 cA α) j rfl (by omega) (by decide) dX7_putDelivery_29 (fun S4 eS4 H locs hw => ?_)
  refine lv_aload_n hx hb dX7_putDelivery_30 rfl (lv_at hl 0 rfl) ?_
  refine x_get (v := .ref (α 53)) (C := RX7) (T := TX7) (N := 9) hx hb hts (fun _ h => List.mem_cons_of_mem _ (List.mem_append_right _ h)) hown hK hw 44 (Nat.lt_of_lt_of_le (Nat.le_of_ble_eq_true rfl : 44 < 191) hn) (mk_44 cA α) rfl 8 (by decide) (hts _ (List.mem_of_getElem? (i := 5) rfl)) (fun _ h9 => h9) rfl dX7_putDelivery_31 ?_
  refine lv_iload_n hx hb dX7_putDelivery_34 rfl (lv_at hl 1 rfl) ?_
  refine lv_iload hx hb dX7_putDelivery_35 (lv_at hl 6 rfl) ?_
  refine x_iast (x := e1) hx hb hK hw 53 100 (Nat.lt_of_lt_of_le (Nat.le_of_ble_eq_true rfl : 53 < 191) hn) (mk_53 cA α) j rfl (by omega) (by decide) dX7_putDelivery_37 (fun S5 eS5 H locs hw => ?_)
  exact ret_v hx hb hr hlocks hK hw dX7_putDelivery_38 (by subst_vars; rfl)

/-- rows j into rows i: K items, M deliveries -/
def cpRw (S : Mem) (i j K M : Nat) : Mem := setR (setR (setR (setR (setR (setR (setR (setR (setR (S) (44 + 10 * i + 1) (va_cpy (S.1 (44 + 10 * j + 1)) (S.1 (44 + 10 * i + 1)) 0 0 K)) (44 + 10 * i + 2) (va_cpy (S.1 (44 + 10 * j + 2)) (S.1 (44 + 10 * i + 2)) 0 0 K)) (44 + 10 * i + 3) (va_cpy (S.1 (44 + 10 * j + 3)) (S.1 (44 + 10 * i + 3)) 0 0 K)) (44 + 10 * i + 4) (va_cpy (S.1 (44 + 10 * j + 4)) (S.1 (44 + 10 * i + 4)) 0 0 K)) (44 + 10 * i + 5) (va_cpy (S.1 (44 + 10 * j + 5)) (S.1 (44 + 10 * i + 5)) 0 0 M)) (44 + 10 * i + 6) (va_cpy (S.1 (44 + 10 * j + 6)) (S.1 (44 + 10 * i + 6)) 0 0 M)) (44 + 10 * i + 7) (va_cpy (S.1 (44 + 10 * j + 7)) (S.1 (44 + 10 * i + 7)) 0 0 M)) (44 + 10 * i + 8) (va_cpy (S.1 (44 + 10 * j + 8)) (S.1 (44 + 10 * i + 8)) 0 0 M)) (44 + 10 * i + 9) (va_cpy (S.1 (44 + 10 * j + 9)) (S.1 (44 + 10 * i + 9)) 0 0 M)

set_option maxRecDepth 100000 in
set_option maxHeartbeats 1000000 in
theorem ct_X7_copyFrom (l : Launch) (D : va_G) (cA : Nat → ClassId) (α : Nat → Nat) (n sz : Nat) (hn : 191 ≤ n) (S : Mem) (i j K M : Nat) (hi : i < 3) (hj : j < 3) (hij : i ≠ j) (hK : K ≤ 100) (hM : M ≤ 100) : CtV l yX7_copyFrom wsX7_copyFrom ({ frames := 1, cells := 0, slots := 0, locals := 60 }) D cA α n sz [.ref (α (44 + 10 * i)), .ref (α (44 + 10 * j)), .int (nI K), .int (nI M)] S (cpRw S i j K M) := by
  refine ct_enter cX7_copyFrom 4 none (by decide) rfl (Nat.le_of_ble_eq_true rfl) ?_
  intro p e s m below meth c hx hb hr hml hlocks hown hts hK hsz hw ls hl
  have hown : s.vm.findClass RX7 = some m.cls := hown
  have hAw : ∀ z, Aw α n s.heap.size z → Aw α n sz z := by rw [hsz]; exact fun _ h => h
  have hl : lv_has ls 4 [(0, .ref (α (44 + 10 * i))), (1, .ref (α (44 + 10 * j))), (2, .int (nI K)), (3, .int (nI M))] := hl
  have g := agr_0 S (44 + 10 * i)
  have hh := hij
  refine lv_aload_n hx hb dX7_copyFrom_0 rfl (lv_at hl 1 rfl) ?_
  refine x_get (v := .ref (α (44 + 10 * j + 1))) (C := RX7) (T := TX7) (N := 9) hx hb hts (fun _ h => List.mem_cons_of_mem _ (List.mem_append_right _ h)) hown hK hw (44 + 10 * j) (by have := hj; omega) (mkR_0 cA α (i := j) hj) rfl 0 (by decide) (hts _ (List.mem_of_getElem? (i := 1) rfl)) (fun _ h9 => h9) rfl dX7_copyFrom_1 ?_
  refine lv_iconst (v := nI 0) hx hb dX7_copyFrom_4 (by decide) ?_
  refine lv_aload_n hx hb dX7_copyFrom_5 rfl (lv_at hl 0 rfl) ?_
  refine x_get (v := .ref (α (44 + 10 * i + 1))) (C := RX7) (T := TX7) (N := 9) hx hb hts (fun _ h => List.mem_cons_of_mem _ (List.mem_append_right _ h)) hown hK hw (44 + 10 * i) (by have := hi; omega) (mkR_0 cA α (i := i) hi) rfl 0 (by decide) (hts _ (List.mem_of_getElem? (i := 1) rfl)) (fun _ h9 => h9) rfl dX7_copyFrom_6 ?_
  refine lv_iconst (v := nI 0) hx hb dX7_copyFrom_9 (by decide) ?_
  refine lv_iload_n hx hb dX7_copyFrom_10 rfl (lv_at hl 2 rfl) ?_
  refine x_copyI hx hb (hml.trans hl.1.symm) hown (hts _ (List.mem_of_getElem? (i := 2) rfl)) (hts _ (List.mem_of_getElem? (i := 3) rfl)) (hts _ (List.mem_of_getElem? (i := 4) rfl)) (hts _ (List.mem_of_getElem? (i := 5) rfl)) hK hw (44 + 10 * j + 1) (44 + 10 * i + 1) 100 100 (by have := hj; omega) (by have := hi; omega) (mkR_1 cA α (i := j) hj) (mkR_1 cA α (i := i) hi) K rfl (by omega) (by omega) (by omega) (by decide) (by decide) dX7_copyFrom_11 (fun S1 eS1 H locs hw => ?_)
  have g := agr_R g eS1 1 (by omega) (by omega)
  refine lv_aload_n hx hb dX7_copyFrom_14 rfl (lv_at hl 1 rfl) ?_
  refine x_get (v := .ref (α (44 + 10 * j + 2))) (C := RX7) (T := TX7) (N := 9) hx hb hts (fun _ h => List.mem_cons_of_mem _ (List.mem_append_right _ h)) hown hK hw (44 + 10 * j) (by have := hj; omega) (mkR_0 cA α (i := j) hj) rfl 1 (by decide) (hts _ (List.mem_of_getElem? (i := 6) rfl)) (fun _ h9 => h9) rfl dX7_copyFrom_15 ?_
  refine lv_iconst (v := nI 0) hx hb dX7_copyFrom_18 (by decide) ?_
  refine lv_aload_n hx hb dX7_copyFrom_19 rfl (lv_at hl 0 rfl) ?_
  refine x_get (v := .ref (α (44 + 10 * i + 2))) (C := RX7) (T := TX7) (N := 9) hx hb hts (fun _ h => List.mem_cons_of_mem _ (List.mem_append_right _ h)) hown hK hw (44 + 10 * i) (by have := hi; omega) (mkR_0 cA α (i := i) hi) rfl 1 (by decide) (hts _ (List.mem_of_getElem? (i := 6) rfl)) (fun _ h9 => h9) rfl dX7_copyFrom_20 ?_
  refine lv_iconst (v := nI 0) hx hb dX7_copyFrom_23 (by decide) ?_
  refine lv_iload_n hx hb dX7_copyFrom_24 rfl (lv_at hl 2 rfl) ?_
  refine x_copyI hx hb (hml.trans hl.1.symm) hown (hts _ (List.mem_of_getElem? (i := 2) rfl)) (hts _ (List.mem_of_getElem? (i := 3) rfl)) (hts _ (List.mem_of_getElem? (i := 4) rfl)) (hts _ (List.mem_of_getElem? (i := 5) rfl)) hK hw (44 + 10 * j + 2) (44 + 10 * i + 2) 100 100 (by have := hj; omega) (by have := hi; omega) (mkR_2 cA α (i := j) hj) (mkR_2 cA α (i := i) hi) K rfl (by omega) (by omega) (by omega) (by decide) (by decide) dX7_copyFrom_25 (fun S2 eS2 H locs hw => ?_)
  rw [(g (44 + 10 * j + 2) (by omega)).1, (g (44 + 10 * i + 2) (by omega)).1] at eS2
  have g := agr_R g eS2 2 (by omega) (by omega)
  refine lv_aload_n hx hb dX7_copyFrom_28 rfl (lv_at hl 1 rfl) ?_
  refine x_get (v := .ref (α (44 + 10 * j + 3))) (C := RX7) (T := TX7) (N := 9) hx hb hts (fun _ h => List.mem_cons_of_mem _ (List.mem_append_right _ h)) hown hK hw (44 + 10 * j) (by have := hj; omega) (mkR_0 cA α (i := j) hj) rfl 2 (by decide) (hts _ (List.mem_of_getElem? (i := 7) rfl)) (fun _ h9 => h9) rfl dX7_copyFrom_29 ?_
  refine lv_iconst (v := nI 0) hx hb dX7_copyFrom_32 (by decide) ?_
  refine lv_aload_n hx hb dX7_copyFrom_33 rfl (lv_at hl 0 rfl) ?_
  refine x_get (v := .ref (α (44 + 10 * i + 3))) (C := RX7) (T := TX7) (N := 9) hx hb hts (fun _ h => List.mem_cons_of_mem _ (List.mem_append_right _ h)) hown hK hw (44 + 10 * i) (by have := hi; omega) (mkR_0 cA α (i := i) hi) rfl 2 (by decide) (hts _ (List.mem_of_getElem? (i := 7) rfl)) (fun _ h9 => h9) rfl dX7_copyFrom_34 ?_
  refine lv_iconst (v := nI 0) hx hb dX7_copyFrom_37 (by decide) ?_
  refine lv_iload_n hx hb dX7_copyFrom_38 rfl (lv_at hl 2 rfl) ?_
  refine x_copyI hx hb (hml.trans hl.1.symm) hown (hts _ (List.mem_of_getElem? (i := 2) rfl)) (hts _ (List.mem_of_getElem? (i := 3) rfl)) (hts _ (List.mem_of_getElem? (i := 4) rfl)) (hts _ (List.mem_of_getElem? (i := 5) rfl)) hK hw (44 + 10 * j + 3) (44 + 10 * i + 3) 100 100 (by have := hj; omega) (by have := hi; omega) (mkR_3 cA α (i := j) hj) (mkR_3 cA α (i := i) hi) K rfl (by omega) (by omega) (by omega) (by decide) (by decide) dX7_copyFrom_39 (fun S3 eS3 H locs hw => ?_)
  rw [(g (44 + 10 * j + 3) (by omega)).1, (g (44 + 10 * i + 3) (by omega)).1] at eS3
  have g := agr_R g eS3 3 (by omega) (by omega)
  refine lv_aload_n hx hb dX7_copyFrom_42 rfl (lv_at hl 1 rfl) ?_
  refine x_get (v := .ref (α (44 + 10 * j + 4))) (C := RX7) (T := TX7) (N := 9) hx hb hts (fun _ h => List.mem_cons_of_mem _ (List.mem_append_right _ h)) hown hK hw (44 + 10 * j) (by have := hj; omega) (mkR_0 cA α (i := j) hj) rfl 3 (by decide) (hts _ (List.mem_of_getElem? (i := 8) rfl)) (fun _ h9 => h9) rfl dX7_copyFrom_43 ?_
  refine lv_iconst (v := nI 0) hx hb dX7_copyFrom_46 (by decide) ?_
  refine lv_aload_n hx hb dX7_copyFrom_47 rfl (lv_at hl 0 rfl) ?_
  refine x_get (v := .ref (α (44 + 10 * i + 4))) (C := RX7) (T := TX7) (N := 9) hx hb hts (fun _ h => List.mem_cons_of_mem _ (List.mem_append_right _ h)) hown hK hw (44 + 10 * i) (by have := hi; omega) (mkR_0 cA α (i := i) hi) rfl 3 (by decide) (hts _ (List.mem_of_getElem? (i := 8) rfl)) (fun _ h9 => h9) rfl dX7_copyFrom_48 ?_
  refine lv_iconst (v := nI 0) hx hb dX7_copyFrom_51 (by decide) ?_
  refine lv_iload_n hx hb dX7_copyFrom_52 rfl (lv_at hl 2 rfl) ?_
  refine x_copyI hx hb (hml.trans hl.1.symm) hown (hts _ (List.mem_of_getElem? (i := 2) rfl)) (hts _ (List.mem_of_getElem? (i := 3) rfl)) (hts _ (List.mem_of_getElem? (i := 4) rfl)) (hts _ (List.mem_of_getElem? (i := 5) rfl)) hK hw (44 + 10 * j + 4) (44 + 10 * i + 4) 100 100 (by have := hj; omega) (by have := hi; omega) (mkR_4 cA α (i := j) hj) (mkR_4 cA α (i := i) hi) K rfl (by omega) (by omega) (by omega) (by decide) (by decide) dX7_copyFrom_53 (fun S4 eS4 H locs hw => ?_)
  rw [(g (44 + 10 * j + 4) (by omega)).1, (g (44 + 10 * i + 4) (by omega)).1] at eS4
  have g := agr_R g eS4 4 (by omega) (by omega)
  refine lv_aload_n hx hb dX7_copyFrom_56 rfl (lv_at hl 1 rfl) ?_
  refine x_get (v := .ref (α (44 + 10 * j + 5))) (C := RX7) (T := TX7) (N := 9) hx hb hts (fun _ h => List.mem_cons_of_mem _ (List.mem_append_right _ h)) hown hK hw (44 + 10 * j) (by have := hj; omega) (mkR_0 cA α (i := j) hj) rfl 4 (by decide) (hts _ (List.mem_of_getElem? (i := 9) rfl)) (fun _ h9 => h9) rfl dX7_copyFrom_57 ?_
  refine lv_iconst (v := nI 0) hx hb dX7_copyFrom_60 (by decide) ?_
  refine lv_aload_n hx hb dX7_copyFrom_61 rfl (lv_at hl 0 rfl) ?_
  refine x_get (v := .ref (α (44 + 10 * i + 5))) (C := RX7) (T := TX7) (N := 9) hx hb hts (fun _ h => List.mem_cons_of_mem _ (List.mem_append_right _ h)) hown hK hw (44 + 10 * i) (by have := hi; omega) (mkR_0 cA α (i := i) hi) rfl 4 (by decide) (hts _ (List.mem_of_getElem? (i := 9) rfl)) (fun _ h9 => h9) rfl dX7_copyFrom_62 ?_
  refine lv_iconst (v := nI 0) hx hb dX7_copyFrom_65 (by decide) ?_
  refine lv_iload_n hx hb dX7_copyFrom_66 rfl (lv_at hl 3 rfl) ?_
  refine x_copyI hx hb (hml.trans hl.1.symm) hown (hts _ (List.mem_of_getElem? (i := 2) rfl)) (hts _ (List.mem_of_getElem? (i := 3) rfl)) (hts _ (List.mem_of_getElem? (i := 4) rfl)) (hts _ (List.mem_of_getElem? (i := 5) rfl)) hK hw (44 + 10 * j + 5) (44 + 10 * i + 5) 100 100 (by have := hj; omega) (by have := hi; omega) (mkR_5 cA α (i := j) hj) (mkR_5 cA α (i := i) hi) M rfl (by omega) (by omega) (by omega) (by decide) (by decide) dX7_copyFrom_67 (fun S5 eS5 H locs hw => ?_)
  rw [(g (44 + 10 * j + 5) (by omega)).1, (g (44 + 10 * i + 5) (by omega)).1] at eS5
  have g := agr_R g eS5 5 (by omega) (by omega)
  refine lv_aload_n hx hb dX7_copyFrom_70 rfl (lv_at hl 1 rfl) ?_
  refine x_get (v := .ref (α (44 + 10 * j + 6))) (C := RX7) (T := TX7) (N := 9) hx hb hts (fun _ h => List.mem_cons_of_mem _ (List.mem_append_right _ h)) hown hK hw (44 + 10 * j) (by have := hj; omega) (mkR_0 cA α (i := j) hj) rfl 5 (by decide) (hts _ (List.mem_of_getElem? (i := 10) rfl)) (fun _ h9 => h9) rfl dX7_copyFrom_71 ?_
  refine lv_iconst (v := nI 0) hx hb dX7_copyFrom_74 (by decide) ?_
  refine lv_aload_n hx hb dX7_copyFrom_75 rfl (lv_at hl 0 rfl) ?_
  refine x_get (v := .ref (α (44 + 10 * i + 6))) (C := RX7) (T := TX7) (N := 9) hx hb hts (fun _ h => List.mem_cons_of_mem _ (List.mem_append_right _ h)) hown hK hw (44 + 10 * i) (by have := hi; omega) (mkR_0 cA α (i := i) hi) rfl 5 (by decide) (hts _ (List.mem_of_getElem? (i := 10) rfl)) (fun _ h9 => h9) rfl dX7_copyFrom_76 ?_
  refine lv_iconst (v := nI 0) hx hb dX7_copyFrom_79 (by decide) ?_
  refine lv_iload_n hx hb dX7_copyFrom_80 rfl (lv_at hl 3 rfl) ?_
  refine x_copyI hx hb (hml.trans hl.1.symm) hown (hts _ (List.mem_of_getElem? (i := 2) rfl)) (hts _ (List.mem_of_getElem? (i := 3) rfl)) (hts _ (List.mem_of_getElem? (i := 4) rfl)) (hts _ (List.mem_of_getElem? (i := 5) rfl)) hK hw (44 + 10 * j + 6) (44 + 10 * i + 6) 100 100 (by have := hj; omega) (by have := hi; omega) (mkR_6 cA α (i := j) hj) (mkR_6 cA α (i := i) hi) M rfl (by omega) (by omega) (by omega) (by decide) (by decide) dX7_copyFrom_81 (fun S6 eS6 H locs hw => ?_)
  rw [(g (44 + 10 * j + 6) (by omega)).1, (g (44 + 10 * i + 6) (by omega)).1] at eS6
  have g := agr_R g eS6 6 (by omega) (by omega)
  refine lv_aload_n hx hb dX7_copyFrom_84 rfl (lv_at hl 1 rfl) ?_
  refine x_get (v := .ref (α (44 + 10 * j + 7))) (C := RX7) (T := TX7) (N := 9) hx hb hts (fun _ h => List.mem_cons_of_mem _ (List.mem_append_right _ h)) hown hK hw (44 + 10 * j) (by have := hj; omega) (mkR_0 cA α (i := j) hj) rfl 6 (by decide) (hts _ (List.mem_of_getElem? (i := 11) rfl)) (fun _ h9 => h9) rfl dX7_copyFrom_85 ?_
  refine lv_iconst (v := nI 0) hx hb dX7_copyFrom_88 (by decide) ?_
  refine lv_aload_n hx hb dX7_copyFrom_89 rfl (lv_at hl 0 rfl) ?_
  refine x_get (v := .ref (α (44 + 10 * i + 7))) (C := RX7) (T := TX7) (N := 9) hx hb hts (fun _ h => List.mem_cons_of_mem _ (List.mem_append_right _ h)) hown hK hw (44 + 10 * i) (by have := hi; omega) (mkR_0 cA α (i := i) hi) rfl 6 (by decide) (hts _ (List.mem_of_getElem? (i := 11) rfl)) (fun _ h9 => h9) rfl dX7_copyFrom_90 ?_
  refine lv_iconst (v := nI 0) hx hb dX7_copyFrom_93 (by decide) ?_
  refine lv_iload_n hx hb dX7_copyFrom_94 rfl (lv_at hl 3 rfl) ?_
  refine x_copyI hx hb (hml.trans hl.1.symm) hown (hts _ (List.mem_of_getElem? (i := 2) rfl)) (hts _ (List.mem_of_getElem? (i := 3) rfl)) (hts _ (List.mem_of_getElem? (i := 4) rfl)) (hts _ (List.mem_of_getElem? (i := 5) rfl)) hK hw (44 + 10 * j + 7) (44 + 10 * i + 7) 100 100 (by have := hj; omega) (by have := hi; omega) (mkR_7 cA α (i := j) hj) (mkR_7 cA α (i := i) hi) M rfl (by omega) (by omega) (by omega) (by decide) (by decide) dX7_copyFrom_95 (fun S7 eS7 H locs hw => ?_)
  rw [(g (44 + 10 * j + 7) (by omega)).1, (g (44 + 10 * i + 7) (by omega)).1] at eS7
  have g := agr_R g eS7 7 (by omega) (by omega)
  refine lv_aload_n hx hb dX7_copyFrom_98 rfl (lv_at hl 1 rfl) ?_
  refine x_get (v := .ref (α (44 + 10 * j + 8))) (C := RX7) (T := TX7) (N := 9) hx hb hts (fun _ h => List.mem_cons_of_mem _ (List.mem_append_right _ h)) hown hK hw (44 + 10 * j) (by have := hj; omega) (mkR_0 cA α (i := j) hj) rfl 7 (by decide) (hts _ (List.mem_of_getElem? (i := 12) rfl)) (fun _ h9 => h9) rfl dX7_copyFrom_99 ?_
  refine lv_iconst (v := nI 0) hx hb dX7_copyFrom_102 (by decide) ?_
  refine lv_aload_n hx hb dX7_copyFrom_103 rfl (lv_at hl 0 rfl) ?_
  refine x_get (v := .ref (α (44 + 10 * i + 8))) (C := RX7) (T := TX7) (N := 9) hx hb hts (fun _ h => List.mem_cons_of_mem _ (List.mem_append_right _ h)) hown hK hw (44 + 10 * i) (by have := hi; omega) (mkR_0 cA α (i := i) hi) rfl 7 (by decide) (hts _ (List.mem_of_getElem? (i := 12) rfl)) (fun _ h9 => h9) rfl dX7_copyFrom_104 ?_
  refine lv_iconst (v := nI 0) hx hb dX7_copyFrom_107 (by decide) ?_
  refine lv_iload_n hx hb dX7_copyFrom_108 rfl (lv_at hl 3 rfl) ?_
  refine x_copyI hx hb (hml.trans hl.1.symm) hown (hts _ (List.mem_of_getElem? (i := 2) rfl)) (hts _ (List.mem_of_getElem? (i := 3) rfl)) (hts _ (List.mem_of_getElem? (i := 4) rfl)) (hts _ (List.mem_of_getElem? (i := 5) rfl)) hK hw (44 + 10 * j + 8) (44 + 10 * i + 8) 100 100 (by have := hj; omega) (by have := hi; omega) (mkR_8 cA α (i := j) hj) (mkR_8 cA α (i := i) hi) M rfl (by omega) (by omega) (by omega) (by decide) (by decide) dX7_copyFrom_109 (fun S8 eS8 H locs hw => ?_)
  rw [(g (44 + 10 * j + 8) (by omega)).1, (g (44 + 10 * i + 8) (by omega)).1] at eS8
  have g := agr_R g eS8 8 (by omega) (by omega)
  refine lv_aload_n hx hb dX7_copyFrom_112 rfl (lv_at hl 1 rfl) ?_
  refine x_get (v := .ref (α (44 + 10 * j + 9))) (C := RX7) (T := TX7) (N := 9) hx hb hts (fun _ h => List.mem_cons_of_mem _ (List.mem_append_right _ h)) hown hK hw (44 + 10 * j) (by have := hj; omega) (mkR_0 cA α (i := j) hj) rfl 8 (by decide) (hts _ (List.mem_of_getElem? (i := 13) rfl)) (fun _ h9 => h9) rfl dX7_copyFrom_113 ?_
  refine lv_iconst (v := nI 0) hx hb dX7_copyFrom_116 (by decide) ?_
  refine lv_aload_n hx hb dX7_copyFrom_117 rfl (lv_at hl 0 rfl) ?_
  refine x_get (v := .ref (α (44 + 10 * i + 9))) (C := RX7) (T := TX7) (N := 9) hx hb hts (fun _ h => List.mem_cons_of_mem _ (List.mem_append_right _ h)) hown hK hw (44 + 10 * i) (by have := hi; omega) (mkR_0 cA α (i := i) hi) rfl 8 (by decide) (hts _ (List.mem_of_getElem? (i := 13) rfl)) (fun _ h9 => h9) rfl dX7_copyFrom_118 ?_
  refine lv_iconst (v := nI 0) hx hb dX7_copyFrom_121 (by decide) ?_
  refine lv_iload_n hx hb dX7_copyFrom_122 rfl (lv_at hl 3 rfl) ?_
  refine x_copyI hx hb (hml.trans hl.1.symm) hown (hts _ (List.mem_of_getElem? (i := 2) rfl)) (hts _ (List.mem_of_getElem? (i := 3) rfl)) (hts _ (List.mem_of_getElem? (i := 4) rfl)) (hts _ (List.mem_of_getElem? (i := 5) rfl)) hK hw (44 + 10 * j + 9) (44 + 10 * i + 9) 100 100 (by have := hj; omega) (by have := hi; omega) (mkR_9 cA α (i := j) hj) (mkR_9 cA α (i := i) hi) M rfl (by omega) (by omega) (by omega) (by decide) (by decide) dX7_copyFrom_123 (fun S9 eS9 H locs hw => ?_)
  rw [(g (44 + 10 * j + 9) (by omega)).1, (g (44 + 10 * i + 9) (by omega)).1] at eS9
  have g := agr_R g eS9 9 (by omega) (by omega)
  exact ret_v hx hb hr hlocks hK hw dX7_copyFrom_126 (by subst_vars; rfl)

/-- standing j into standing i: K items, M deliveries -/
def cpSt (S : Mem) (i j K M : Nat) : Mem := setL (setR (setR (setL (setL (setR (setR (setR (setJ (setJ (setJ (setI (setI (setI (S) (74 + 9 * i) 0 (S.1 (74 + 9 * j) 0)) (74 + 9 * i) 1 (S.1 (74 + 9 * j) 1)) (74 + 9 * i) 2 (S.1 (74 + 9 * j) 2)) (74 + 9 * i) 3 (S.2 (74 + 9 * j) 3)) (74 + 9 * i) 4 (S.2 (74 + 9 * j) 4)) (74 + 9 * i) 5 (S.2 (74 + 9 * j) 5)) (74 + 9 * i + 1) (va_cpy (S.1 (74 + 9 * j + 1)) (S.1 (74 + 9 * i + 1)) 0 0 K)) (74 + 9 * i + 2) (va_cpy (S.1 (74 + 9 * j + 2)) (S.1 (74 + 9 * i + 2)) 0 0 K)) (74 + 9 * i + 3) (va_cpy (S.1 (74 + 9 * j + 3)) (S.1 (74 + 9 * i + 3)) 0 0 K)) (74 + 9 * i + 4) (va_cpy (S.2 (74 + 9 * j + 4)) (S.2 (74 + 9 * i + 4)) 0 0 K)) (74 + 9 * i + 5) (va_cpy (S.2 (74 + 9 * j + 5)) (S.2 (74 + 9 * i + 5)) 0 0 K)) (74 + 9 * i + 6) (va_cpy (S.1 (74 + 9 * j + 6)) (S.1 (74 + 9 * i + 6)) 0 0 M)) (74 + 9 * i + 7) (va_cpy (S.1 (74 + 9 * j + 7)) (S.1 (74 + 9 * i + 7)) 0 0 4)) (74 + 9 * i + 8) (va_cpy (S.2 (74 + 9 * j + 8)) (S.2 (74 + 9 * i + 8)) 0 0 6)

set_option maxRecDepth 100000 in
set_option maxHeartbeats 1000000 in
theorem ct_X9_copyFrom (l : Launch) (D : va_G) (cA : Nat → ClassId) (α : Nat → Nat) (n sz : Nat) (hn : 191 ≤ n) (S : Mem) (i j K M : Nat) (hi : i < 13) (hj : j < 13) (hij : i ≠ j) (hK1 : S.1 (74 + 9 * j) 0 = nI K) (hK : K ≤ 100) (hM1 : S.1 (74 + 9 * j) 1 = nI M) (hM : M ≤ 100) : CtV l yX9_copyFrom wsX9_copyFrom ({ frames := 1, cells := 0, slots := 0, locals := 60 }) D cA α n sz [.ref (α (74 + 9 * i)), .ref (α (74 + 9 * j))] S (cpSt S i j K M) := by
  refine ct_enter cX9_copyFrom 2 none (by decide) rfl (Nat.le_of_ble_eq_true rfl) ?_
  intro p e s m below meth c hx hb hr hml hlocks hown hts hK hsz hw ls hl
  have hown : s.vm.findClass RX9 = some m.cls := hown
  have hAw : ∀ z, Aw α n s.heap.size z → Aw α n sz z := by rw [hsz]; exact fun _ h => h
  have hl : lv_has ls 2 [(0, .ref (α (74 + 9 * i))), (1, .ref (α (74 + 9 * j)))] := hl
  have g := agr_0 S (74 + 9 * i)
  have hh := hij
  refine lv_aload_n hx hb dX9_copyFrom_0 rfl (lv_at hl 0 rfl) ?_
  refine lv_aload_n hx hb dX9_copyFrom_1 rfl (lv_at hl 1 rfl) ?_
  refine x_get (v := .int (S.1 (74 + 9 * j) 0)) (C := RX9) (T := TX9) (N := 14) hx hb hts (fun _ h => List.mem_cons_of_mem _ (List.mem_append_right _ h)) hown hK hw (74 + 9 * j) (by have := hj; omega) (mkS_0 cA α (i := j) hj) rfl 0 (by decide) (hts _ (List.mem_of_getElem? (i := 1) rfl)) (fun _ h9 => h9) rfl dX9_copyFrom_2 ?_
  refine x_putI (x := S.1 (74 + 9 * j) 0) (ty := .int) (C := RX9) (T := TX9) (N := 14) hx hb hts (fun _ h => List.mem_cons_of_mem _ (List.mem_append_right _ h)) tyX9 tyX9_ok nmX9 hown hK hw (74 + 9 * i) (by have := hi; omega) (mkS_0 cA α (i := i) hi) rfl 0 (by decide) (hts _ (List.mem_of_getElem? (i := 1) rfl)) (fun _ h9 => h9) rfl rfl rfl rfl (Nat.le_of_ble_eq_true rfl) rfl dX9_copyFrom_5 (fun S1 eS1 H locs hw => ?_)
  have g := agr_I g eS1 0 (by omega) (by omega)
  refine lv_aload_n hx hb dX9_copyFrom_8 rfl (lv_at hl 0 rfl) ?_
  refine lv_aload_n hx hb dX9_copyFrom_9 rfl (lv_at hl 1 rfl) ?_
  refine x_get (v := .int (S1.1 (74 + 9 * j) 1)) (C := RX9) (T := TX9) (N := 14) hx hb hts (fun _ h => List.mem_cons_of_mem _ (List.mem_append_right _ h)) hown hK hw (74 + 9 * j) (by have := hj; omega) (mkS_0 cA α (i := j) hj) rfl 1 (by decide) (hts _ (List.mem_of_getElem? (i := 2) rfl)) (fun _ h9 => h9) rfl dX9_copyFrom_10 ?_
  refine x_topE (y := S.1 (74 + 9 * j) 1) (congrFun (g (74 + 9 * j) (by omega)).1 1) ?_
  refine x_putI (x := S.1 (74 + 9 * j) 1) (ty := .int) (C := RX9) (T := TX9) (N := 14) hx hb hts (fun _ h => List.mem_cons_of_mem _ (List.mem_append_right _ h)) tyX9 tyX9_ok nmX9 hown hK hw (74 + 9 * i) (by have := hi; omega) (mkS_0 cA α (i := i) hi) rfl 1 (by decide) (hts _ (List.mem_of_getElem? (i := 2) rfl)) (fun _ h9 => h9) rfl rfl rfl rfl (Nat.le_of_ble_eq_true rfl) rfl dX9_copyFrom_13 (fun S2 eS2 H locs hw => ?_)
  have g := agr_I g eS2 0 (by omega) (by omega)
  refine lv_aload_n hx hb dX9_copyFrom_16 rfl (lv_at hl 0 rfl) ?_
  refine lv_aload_n hx hb dX9_copyFrom_17 rfl (lv_at hl 1 rfl) ?_
  refine x_get (v := .int (S2.1 (74 + 9 * j) 2)) (C := RX9) (T := TX9) (N := 14) hx hb hts (fun _ h => List.mem_cons_of_mem _ (List.mem_append_right _ h)) hown hK hw (74 + 9 * j) (by have := hj; omega) (mkS_0 cA α (i := j) hj) rfl 2 (by decide) (hts _ (List.mem_of_getElem? (i := 3) rfl)) (fun _ h9 => h9) rfl dX9_copyFrom_18 ?_
  refine x_topE (y := S.1 (74 + 9 * j) 2) (congrFun (g (74 + 9 * j) (by omega)).1 2) ?_
  refine x_putI (x := S.1 (74 + 9 * j) 2) (ty := .int) (C := RX9) (T := TX9) (N := 14) hx hb hts (fun _ h => List.mem_cons_of_mem _ (List.mem_append_right _ h)) tyX9 tyX9_ok nmX9 hown hK hw (74 + 9 * i) (by have := hi; omega) (mkS_0 cA α (i := i) hi) rfl 2 (by decide) (hts _ (List.mem_of_getElem? (i := 3) rfl)) (fun _ h9 => h9) rfl rfl rfl rfl (Nat.le_of_ble_eq_true rfl) rfl dX9_copyFrom_21 (fun S3 eS3 H locs hw => ?_)
  have g := agr_I g eS3 0 (by omega) (by omega)
  refine lv_aload_n hx hb dX9_copyFrom_24 rfl (lv_at hl 0 rfl) ?_
  refine lv_aload_n hx hb dX9_copyFrom_25 rfl (lv_at hl 1 rfl) ?_
  refine x_get (v := .long (S3.2 (74 + 9 * j) 3)) (C := RX9) (T := TX9) (N := 14) hx hb hts (fun _ h => List.mem_cons_of_mem _ (List.mem_append_right _ h)) hown hK hw (74 + 9 * j) (by have := hj; omega) (mkS_0 cA α (i := j) hj) rfl 3 (by decide) (hts _ (List.mem_of_getElem? (i := 4) rfl)) (fun _ h9 => h9) rfl dX9_copyFrom_26 ?_
  refine x_topEL (y := S.2 (74 + 9 * j) 3) (congrFun (g (74 + 9 * j) (by omega)).2 3) ?_
  refine x_putL (x := S.2 (74 + 9 * j) 3) (ty := .long) (C := RX9) (T := TX9) (N := 14) hx hb hts (fun _ h => List.mem_cons_of_mem _ (List.mem_append_right _ h)) tyX9 tyX9_ok nmX9 hown hK hw (74 + 9 * i) (by have := hi; omega) (mkS_0 cA α (i := i) hi) rfl 3 (by decide) (hts _ (List.mem_of_getElem? (i := 4) rfl)) (fun _ h9 => h9) rfl rfl rfl rfl (Nat.le_of_ble_eq_true rfl) rfl dX9_copyFrom_29 (fun S4 eS4 H locs hw => ?_)
  have g := agr_J g eS4 0 (by omega) (by omega)
  refine lv_aload_n hx hb dX9_copyFrom_32 rfl (lv_at hl 0 rfl) ?_
  refine lv_aload_n hx hb dX9_copyFrom_33 rfl (lv_at hl 1 rfl) ?_
  refine x_get (v := .long (S4.2 (74 + 9 * j) 4)) (C := RX9) (T := TX9) (N := 14) hx hb hts (fun _ h => List.mem_cons_of_mem _ (List.mem_append_right _ h)) hown hK hw (74 + 9 * j) (by have := hj; omega) (mkS_0 cA α (i := j) hj) rfl 4 (by decide) (hts _ (List.mem_of_getElem? (i := 5) rfl)) (fun _ h9 => h9) rfl dX9_copyFrom_34 ?_
  refine x_topEL (y := S.2 (74 + 9 * j) 4) (congrFun (g (74 + 9 * j) (by omega)).2 4) ?_
  refine x_putL (x := S.2 (74 + 9 * j) 4) (ty := .long) (C := RX9) (T := TX9) (N := 14) hx hb hts (fun _ h => List.mem_cons_of_mem _ (List.mem_append_right _ h)) tyX9 tyX9_ok nmX9 hown hK hw (74 + 9 * i) (by have := hi; omega) (mkS_0 cA α (i := i) hi) rfl 4 (by decide) (hts _ (List.mem_of_getElem? (i := 5) rfl)) (fun _ h9 => h9) rfl rfl rfl rfl (Nat.le_of_ble_eq_true rfl) rfl dX9_copyFrom_37 (fun S5 eS5 H locs hw => ?_)
  have g := agr_J g eS5 0 (by omega) (by omega)
  refine lv_aload_n hx hb dX9_copyFrom_40 rfl (lv_at hl 0 rfl) ?_
  refine lv_aload_n hx hb dX9_copyFrom_41 rfl (lv_at hl 1 rfl) ?_
  refine x_get (v := .long (S5.2 (74 + 9 * j) 5)) (C := RX9) (T := TX9) (N := 14) hx hb hts (fun _ h => List.mem_cons_of_mem _ (List.mem_append_right _ h)) hown hK hw (74 + 9 * j) (by have := hj; omega) (mkS_0 cA α (i := j) hj) rfl 5 (by decide) (hts _ (List.mem_of_getElem? (i := 6) rfl)) (fun _ h9 => h9) rfl dX9_copyFrom_42 ?_
  refine x_topEL (y := S.2 (74 + 9 * j) 5) (congrFun (g (74 + 9 * j) (by omega)).2 5) ?_
  refine x_putL (x := S.2 (74 + 9 * j) 5) (ty := .long) (C := RX9) (T := TX9) (N := 14) hx hb hts (fun _ h => List.mem_cons_of_mem _ (List.mem_append_right _ h)) tyX9 tyX9_ok nmX9 hown hK hw (74 + 9 * i) (by have := hi; omega) (mkS_0 cA α (i := i) hi) rfl 5 (by decide) (hts _ (List.mem_of_getElem? (i := 6) rfl)) (fun _ h9 => h9) rfl rfl rfl rfl (Nat.le_of_ble_eq_true rfl) rfl dX9_copyFrom_45 (fun S6 eS6 H locs hw => ?_)
  have g := agr_J g eS6 0 (by omega) (by omega)
  have f0 : S6.1 (74 + 9 * i) 0 = nI K := by subst_vars; simp [sJ_1, sI_e, upd, hK1]
  have f1 : S6.1 (74 + 9 * i) 1 = nI M := by subst_vars; simp [sJ_1, sI_e, upd, hM1]
  refine lv_aload_n hx hb dX9_copyFrom_48 rfl (lv_at hl 1 rfl) ?_
  refine x_get (v := .ref (α (74 + 9 * j + 1))) (C := RX9) (T := TX9) (N := 14) hx hb hts (fun _ h => List.mem_cons_of_mem _ (List.mem_append_right _ h)) hown hK hw (74 + 9 * j) (by have := hj; omega) (mkS_0 cA α (i := j) hj) rfl 6 (by decide) (hts _ (List.mem_of_getElem? (i := 7) rfl)) (fun _ h9 => h9) rfl dX9_copyFrom_49 ?_
  refine lv_iconst (v := nI 0) hx hb dX9_copyFrom_52 (by decide) ?_
  refine lv_aload_n hx hb dX9_copyFrom_53 rfl (lv_at hl 0 rfl) ?_
  refine x_get (v := .ref (α (74 + 9 * i + 1))) (C := RX9) (T := TX9) (N := 14) hx hb hts (fun _ h => List.mem_cons_of_mem _ (List.mem_append_right _ h)) hown hK hw (74 + 9 * i) (by have := hi; omega) (mkS_0 cA α (i := i) hi) rfl 6 (by decide) (hts _ (List.mem_of_getElem? (i := 7) rfl)) (fun _ h9 => h9) rfl dX9_copyFrom_54 ?_
  refine lv_iconst (v := nI 0) hx hb dX9_copyFrom_57 (by decide) ?_
  refine lv_aload_n hx hb dX9_copyFrom_58 rfl (lv_at hl 0 rfl) ?_
  refine x_get (v := .int (S6.1 (74 + 9 * i) 0)) (C := RX9) (T := TX9) (N := 14) hx hb hts (fun _ h => List.mem_cons_of_mem _ (List.mem_append_right _ h)) hown hK hw (74 + 9 * i) (by have := hi; omega) (mkS_0 cA α (i := i) hi) rfl 0 (by decide) (hts _ (List.mem_of_getElem? (i := 1) rfl)) (fun _ h9 => h9) rfl dX9_copyFrom_59 ?_
  refine x_topN (k := K) f0 ?_
  refine x_copyI hx hb (hml.trans hl.1.symm) hown (hts _ (List.mem_of_getElem? (i := 8) rfl)) (hts _ (List.mem_of_getElem? (i := 9) rfl)) (hts _ (List.mem_of_getElem? (i := 10) rfl)) (hts _ (List.mem_of_getElem? (i := 11) rfl)) hK hw (74 + 9 * j + 1) (74 + 9 * i + 1) 100 100 (by have := hj; omega) (by have := hi; omega) (mkS_1 cA α (i := j) hj) (mkS_1 cA α (i := i) hi) K rfl (by omega) (by omega) (by omega) (by decide) (by decide) dX9_copyFrom_62 (fun S7 eS7 H locs hw => ?_)
  rw [(g (74 + 9 * j + 1) (by omega)).1, (g (74 + 9 * i + 1) (by omega)).1] at eS7
  have g := agr_R g eS7 1 (by omega) (by omega)
  have f0 : S7.1 (74 + 9 * i) 0 = nI K := by rw [eS7, sR_1 (by omega)]; exact f0
  have f1 : S7.1 (74 + 9 * i) 1 = nI M := by rw [eS7, sR_1 (by omega)]; exact f1
  refine lv_aload_n hx hb dX9_copyFrom_65 rfl (lv_at hl 1 rfl) ?_
  refine x_get (v := .ref (α (74 + 9 * j + 2))) (C := RX9) (T := TX9) (N := 14) hx hb hts (fun _ h => List.mem_cons_of_mem _ (List.mem_append_right _ h)) hown hK hw (74 + 9 * j) (by have := hj; omega) (mkS_0 cA α (i := j) hj) rfl 7 (by decide) (hts _ (List.mem_of_getElem? (i := 12) rfl)) (fun _ h9 => h9) rfl dX9_copyFrom_66 ?_
  refine lv_iconst (v := nI 0) hx hb dX9_copyFrom_69 (by decide) ?_
  refine lv_aload_n hx hb dX9_copyFrom_70 rfl (lv_at hl 0 rfl) ?_
  refine x_get (v := .ref (α (74 + 9 * i + 2))) (C := RX9) (T := TX9) (N := 14) hx hb hts (fun _ h => List.mem_cons_of_mem _ (List.mem_append_right _ h)) hown hK hw (74 + 9 * i) (by have := hi; omega) (mkS_0 cA α (i := i) hi) rfl 7 (by decide) (hts _ (List.mem_of_getElem? (i := 12) rfl)) (fun _ h9 => h9) rfl dX9_copyFrom_71 ?_
  refine lv_iconst (v := nI 0) hx hb dX9_copyFrom_74 (by decide) ?_
  refine lv_aload_n hx hb dX9_copyFrom_75 rfl (lv_at hl 0 rfl) ?_
  refine x_get (v := .int (S7.1 (74 + 9 * i) 0)) (C := RX9) (T := TX9) (N := 14) hx hb hts (fun _ h => List.mem_cons_of_mem _ (List.mem_append_right _ h)) hown hK hw (74 + 9 * i) (by have := hi; omega) (mkS_0 cA α (i := i) hi) rfl 0 (by decide) (hts _ (List.mem_of_getElem? (i := 1) rfl)) (fun _ h9 => h9) rfl dX9_copyFrom_76 ?_
  refine x_topN (k := K) f0 ?_
  refine x_copyI hx hb (hml.trans hl.1.symm) hown (hts _ (List.mem_of_getElem? (i := 8) rfl)) (hts _ (List.mem_of_getElem? (i := 9) rfl)) (hts _ (List.mem_of_getElem? (i := 10) rfl)) (hts _ (List.mem_of_getElem? (i := 11) rfl)) hK hw (74 + 9 * j + 2) (74 + 9 * i + 2) 100 100 (by have := hj; omega) (by have := hi; omega) (mkS_2 cA α (i := j) hj) (mkS_2 cA α (i := i) hi) K rfl (by omega) (by omega) (by omega) (by decide) (by decide) dX9_copyFrom_79 (fun S8 eS8 H locs hw => ?_)
  rw [(g (74 + 9 * j + 2) (by omega)).1, (g (74 + 9 * i + 2) (by omega)).1] at eS8
  have g := agr_R g eS8 2 (by omega) (by omega)
  have f0 : S8.1 (74 + 9 * i) 0 = nI K := by rw [eS8, sR_1 (by omega)]; exact f0
  have f1 : S8.1 (74 + 9 * i) 1 = nI M := by rw [eS8, sR_1 (by omega)]; exact f1
  refine lv_aload_n hx hb dX9_copyFrom_82 rfl (lv_at hl 1 rfl) ?_
  refine x_get (v := .ref (α (74 + 9 * j + 3))) (C := RX9) (T := TX9) (N := 14) hx hb hts (fun _ h => List.mem_cons_of_mem _ (List.mem_append_right _ h)) hown hK hw (74 + 9 * j) (by have := hj; omega) (mkS_0 cA α (i := j) hj) rfl 8 (by decide) (hts _ (List.mem_of_getElem? (i := 13) rfl)) (fun _ h9 => h9) rfl dX9_copyFrom_83 ?_
  refine lv_iconst (v := nI 0) hx hb dX9_copyFrom_86 (by decide) ?_
  refine lv_aload_n hx hb dX9_copyFrom_87 rfl (lv_at hl 0 rfl) ?_
  refine x_get (v := .ref (α (74 + 9 * i + 3))) (C := RX9) (T := TX9) (N := 14) hx hb hts (fun _ h => List.mem_cons_of_mem _ (List.mem_append_right _ h)) hown hK hw (74 + 9 * i) (by have := hi; omega) (mkS_0 cA α (i := i) hi) rfl 8 (by decide) (hts _ (List.mem_of_getElem? (i := 13) rfl)) (fun _ h9 => h9) rfl dX9_copyFrom_88 ?_
  refine lv_iconst (v := nI 0) hx hb dX9_copyFrom_91 (by decide) ?_
  refine lv_aload_n hx hb dX9_copyFrom_92 rfl (lv_at hl 0 rfl) ?_
  refine x_get (v := .int (S8.1 (74 + 9 * i) 0)) (C := RX9) (T := TX9) (N := 14) hx hb hts (fun _ h => List.mem_cons_of_mem _ (List.mem_append_right _ h)) hown hK hw (74 + 9 * i) (by have := hi; omega) (mkS_0 cA α (i := i) hi) rfl 0 (by decide) (hts _ (List.mem_of_getElem? (i := 1) rfl)) (fun _ h9 => h9) rfl dX9_copyFrom_93 ?_
  refine x_topN (k := K) f0 ?_
  refine x_copyI hx hb (hml.trans hl.1.symm) hown (hts _ (List.mem_of_getElem? (i := 8) rfl)) (hts _ (List.mem_of_getElem? (i := 9) rfl)) (hts _ (List.mem_of_getElem? (i := 10) rfl)) (hts _ (List.mem_of_getElem? (i := 11) rfl)) hK hw (74 + 9 * j + 3) (74 + 9 * i + 3) 100 100 (by have := hj; omega) (by have := hi; omega) (mkS_3 cA α (i := j) hj) (mkS_3 cA α (i := i) hi) K rfl (by omega) (by omega) (by omega) (by decide) (by decide) dX9_copyFrom_96 (fun S9 eS9 H locs hw => ?_)
  rw [(g (74 + 9 * j + 3) (by omega)).1, (g (74 + 9 * i + 3) (by omega)).1] at eS9
  have g := agr_R g eS9 3 (by omega) (by omega)
  have f0 : S9.1 (74 + 9 * i) 0 = nI K := by rw [eS9, sR_1 (by omega)]; exact f0
  have f1 : S9.1 (74 + 9 * i) 1 = nI M := by rw [eS9, sR_1 (by omega)]; exact f1
  refine lv_aload_n hx hb dX9_copyFrom_99 rfl (lv_at hl 1 rfl) ?_
  refine x_get (v := .ref (α (74 + 9 * j + 4))) (C := RX9) (T := TX9) (N := 14) hx hb hts (fun _ h => List.mem_cons_of_mem _ (List.mem_append_right _ h)) hown hK hw (74 + 9 * j) (by have := hj; omega) (mkS_0 cA α (i := j) hj) rfl 9 (by decide) (hts _ (List.mem_of_getElem? (i := 14) rfl)) (fun _ h9 => h9) rfl dX9_copyFrom_100 ?_
  refine lv_iconst (v := nI 0) hx hb dX9_copyFrom_103 (by decide) ?_
  refine lv_aload_n hx hb dX9_copyFrom_104 rfl (lv_at hl 0 rfl) ?_
  refine x_get (v := .ref (α (74 + 9 * i + 4))) (C := RX9) (T := TX9) (N := 14) hx hb hts (fun _ h => List.mem_cons_of_mem _ (List.mem_append_right _ h)) hown hK hw (74 + 9 * i) (by have := hi; omega) (mkS_0 cA α (i := i) hi) rfl 9 (by decide) (hts _ (List.mem_of_getElem? (i := 14) rfl)) (fun _ h9 => h9) rfl dX9_copyFrom_105 ?_
  refine lv_iconst (v := nI 0) hx hb dX9_copyFrom_108 (by decide) ?_
  refine lv_aload_n hx hb dX9_copyFrom_109 rfl (lv_at hl 0 rfl) ?_
  refine x_get (v := .int (S9.1 (74 + 9 * i) 0)) (C := RX9) (T := TX9) (N := 14) hx hb hts (fun _ h => List.mem_cons_of_mem _ (List.mem_append_right _ h)) hown hK hw (74 + 9 * i) (by have := hi; omega) (mkS_0 cA α (i := i) hi) rfl 0 (by decide) (hts _ (List.mem_of_getElem? (i := 1) rfl)) (fun _ h9 => h9) rfl dX9_copyFrom_110 ?_
  refine x_topN (k := K) f0 ?_
  refine x_copyL hx hb (hml.trans hl.1.symm) hown (hts _ (List.mem_of_getElem? (i := 8) rfl)) (hts _ (List.mem_of_getElem? (i := 9) rfl)) (hts _ (List.mem_of_getElem? (i := 10) rfl)) (hts _ (List.mem_of_getElem? (i := 11) rfl)) hK hw (74 + 9 * j + 4) (74 + 9 * i + 4) 100 100 (by have := hj; omega) (by have := hi; omega) (mkS_4 cA α (i := j) hj) (mkS_4 cA α (i := i) hi) K rfl (by omega) (by omega) (by omega) (by decide) (by decide) dX9_copyFrom_113 (fun S10 eS10 H locs hw => ?_)
  rw [(g (74 + 9 * j + 4) (by omega)).2, (g (74 + 9 * i + 4) (by omega)).2] at eS10
  have g := agr_L g eS10 4 (by omega) (by omega)
  have f0 : S10.1 (74 + 9 * i) 0 = nI K := by rw [eS10, sL_1]; exact f0
  have f1 : S10.1 (74 + 9 * i) 1 = nI M := by rw [eS10, sL_1]; exact f1
  refine lv_aload_n hx hb dX9_copyFrom_116 rfl (lv_at hl 1 rfl) ?_
  refine x_get (v := .ref (α (74 + 9 * j + 5))) (C := RX9) (T := TX9) (N := 14) hx hb hts (fun _ h => List.mem_cons_of_mem _ (List.mem_append_right _ h)) hown hK hw (74 + 9 * j) (by have := hj; omega) (mkS_0 cA α (i := j) hj) rfl 10 (by decide) (hts _ (List.mem_of_getElem? (i := 15) rfl)) (fun _ h9 => h9) rfl dX9_copyFrom_117 ?_
  refine lv_iconst (v := nI 0) hx hb dX9_copyFrom_120 (by decide) ?_
  refine lv_aload_n hx hb dX9_copyFrom_121 rfl (lv_at hl 0 rfl) ?_
  refine x_get (v := .ref (α (74 + 9 * i + 5))) (C := RX9) (T := TX9) (N := 14) hx hb hts (fun _ h => List.mem_cons_of_mem _ (List.mem_append_right _ h)) hown hK hw (74 + 9 * i) (by have := hi; omega) (mkS_0 cA α (i := i) hi) rfl 10 (by decide) (hts _ (List.mem_of_getElem? (i := 15) rfl)) (fun _ h9 => h9) rfl dX9_copyFrom_122 ?_
  refine lv_iconst (v := nI 0) hx hb dX9_copyFrom_125 (by decide) ?_
  refine lv_aload_n hx hb dX9_copyFrom_126 rfl (lv_at hl 0 rfl) ?_
  refine x_get (v := .int (S10.1 (74 + 9 * i) 0)) (C := RX9) (T := TX9) (N := 14) hx hb hts (fun _ h => List.mem_cons_of_mem _ (List.mem_append_right _ h)) hown hK hw (74 + 9 * i) (by have := hi; omega) (mkS_0 cA α (i := i) hi) rfl 0 (by decide) (hts _ (List.mem_of_getElem? (i := 1) rfl)) (fun _ h9 => h9) rfl dX9_copyFrom_127 ?_
  refine x_topN (k := K) f0 ?_
  refine x_copyL hx hb (hml.trans hl.1.symm) hown (hts _ (List.mem_of_getElem? (i := 8) rfl)) (hts _ (List.mem_of_getElem? (i := 9) rfl)) (hts _ (List.mem_of_getElem? (i := 10) rfl)) (hts _ (List.mem_of_getElem? (i := 11) rfl)) hK hw (74 + 9 * j + 5) (74 + 9 * i + 5) 100 100 (by have := hj; omega) (by have := hi; omega) (mkS_5 cA α (i := j) hj) (mkS_5 cA α (i := i) hi) K rfl (by omega) (by omega) (by omega) (by decide) (by decide) dX9_copyFrom_130 (fun S11 eS11 H locs hw => ?_)
  rw [(g (74 + 9 * j + 5) (by omega)).2, (g (74 + 9 * i + 5) (by omega)).2] at eS11
  have g := agr_L g eS11 5 (by omega) (by omega)
  have f0 : S11.1 (74 + 9 * i) 0 = nI K := by rw [eS11, sL_1]; exact f0
  have f1 : S11.1 (74 + 9 * i) 1 = nI M := by rw [eS11, sL_1]; exact f1
  refine lv_aload_n hx hb dX9_copyFrom_133 rfl (lv_at hl 1 rfl) ?_
  refine x_get (v := .ref (α (74 + 9 * j + 6))) (C := RX9) (T := TX9) (N := 14) hx hb hts (fun _ h => List.mem_cons_of_mem _ (List.mem_append_right _ h)) hown hK hw (74 + 9 * j) (by have := hj; omega) (mkS_0 cA α (i := j) hj) rfl 11 (by decide) (hts _ (List.mem_of_getElem? (i := 16) rfl)) (fun _ h9 => h9) rfl dX9_copyFrom_134 ?_
  refine lv_iconst (v := nI 0) hx hb dX9_copyFrom_137 (by decide) ?_
  refine lv_aload_n hx hb dX9_copyFrom_138 rfl (lv_at hl 0 rfl) ?_
  refine x_get (v := .ref (α (74 + 9 * i + 6))) (C := RX9) (T := TX9) (N := 14) hx hb hts (fun _ h => List.mem_cons_of_mem _ (List.mem_append_right _ h)) hown hK hw (74 + 9 * i) (by have := hi; omega) (mkS_0 cA α (i := i) hi) rfl 11 (by decide) (hts _ (List.mem_of_getElem? (i := 16) rfl)) (fun _ h9 => h9) rfl dX9_copyFrom_139 ?_
  refine lv_iconst (v := nI 0) hx hb dX9_copyFrom_142 (by decide) ?_
  refine lv_aload_n hx hb dX9_copyFrom_143 rfl (lv_at hl 0 rfl) ?_
  refine x_get (v := .int (S11.1 (74 + 9 * i) 1)) (C := RX9) (T := TX9) (N := 14) hx hb hts (fun _ h => List.mem_cons_of_mem _ (List.mem_append_right _ h)) hown hK hw (74 + 9 * i) (by have := hi; omega) (mkS_0 cA α (i := i) hi) rfl 1 (by decide) (hts _ (List.mem_of_getElem? (i := 2) rfl)) (fun _ h9 => h9) rfl dX9_copyFrom_144 ?_
  refine x_topN (k := M) f1 ?_
  refine x_copyI hx hb (hml.trans hl.1.symm) hown (hts _ (List.mem_of_getElem? (i := 8) rfl)) (hts _ (List.mem_of_getElem? (i := 9) rfl)) (hts _ (List.mem_of_getElem? (i := 10) rfl)) (hts _ (List.mem_of_getElem? (i := 11) rfl)) hK hw (74 + 9 * j + 6) (74 + 9 * i + 6) 100 100 (by have := hj; omega) (by have := hi; omega) (mkS_6 cA α (i := j) hj) (mkS_6 cA α (i := i) hi) M rfl (by omega) (by omega) (by omega) (by decide) (by decide) dX9_copyFrom_147 (fun S12 eS12 H locs hw => ?_)
  rw [(g (74 + 9 * j + 6) (by omega)).1, (g (74 + 9 * i + 6) (by omega)).1] at eS12
  have g := agr_R g eS12 6 (by omega) (by omega)
  refine lv_aload_n hx hb dX9_copyFrom_150 rfl (lv_at hl 1 rfl) ?_
  refine x_get (v := .ref (α (74 + 9 * j + 7))) (C := RX9) (T := TX9) (N := 14) hx hb hts (fun _ h => List.mem_cons_of_mem _ (List.mem_append_right _ h)) hown hK hw (74 + 9 * j) (by have := hj; omega) (mkS_0 cA α (i := j) hj) rfl 12 (by decide) (hts _ (List.mem_of_getElem? (i := 17) rfl)) (fun _ h9 => h9) rfl dX9_copyFrom_151 ?_
  refine lv_iconst (v := nI 0) hx hb dX9_copyFrom_154 (by decide) ?_
  refine lv_aload_n hx hb dX9_copyFrom_155 rfl (lv_at hl 0 rfl) ?_
  refine x_get (v := .ref (α (74 + 9 * i + 7))) (C := RX9) (T := TX9) (N := 14) hx hb hts (fun _ h => List.mem_cons_of_mem _ (List.mem_append_right _ h)) hown hK hw (74 + 9 * i) (by have := hi; omega) (mkS_0 cA α (i := i) hi) rfl 12 (by decide) (hts _ (List.mem_of_getElem? (i := 17) rfl)) (fun _ h9 => h9) rfl dX9_copyFrom_156 ?_
  refine lv_iconst (v := nI 0) hx hb dX9_copyFrom_159 (by decide) ?_
  refine lv_iconst (v := nI 4) hx hb dX9_copyFrom_160 (by decide) ?_
  refine x_copyI hx hb (hml.trans hl.1.symm) hown (hts _ (List.mem_of_getElem? (i := 8) rfl)) (hts _ (List.mem_of_getElem? (i := 9) rfl)) (hts _ (List.mem_of_getElem? (i := 10) rfl)) (hts _ (List.mem_of_getElem? (i := 11) rfl)) hK hw (74 + 9 * j + 7) (74 + 9 * i + 7) 4 4 (by have := hj; omega) (by have := hi; omega) (mkS_7 cA α (i := j) hj) (mkS_7 cA α (i := i) hi) 4 rfl (by decide) (by decide) (by decide) (by decide) (by decide) dX9_copyFrom_161 (fun S13 eS13 H locs hw => ?_)
  rw [(g (74 + 9 * j + 7) (by omega)).1, (g (74 + 9 * i + 7) (by omega)).1] at eS13
  have g := agr_R g eS13 7 (by omega) (by omega)
  refine lv_aload_n hx hb dX9_copyFrom_164 rfl (lv_at hl 1 rfl) ?_
  refine x_get (v := .ref (α (74 + 9 * j + 8))) (C := RX9) (T := TX9) (N := 14) hx hb hts (fun _ h => List.mem_cons_of_mem _ (List.mem_append_right _ h)) hown hK hw (74 + 9 * j) (by have := hj; omega) (mkS_0 cA α (i := j) hj) rfl 13 (by decide) (hts _ (List.mem_of_getElem? (i := 18) rfl)) (fun _ h9 => h9) rfl dX9_copyFrom_165 ?_
  refine lv_iconst (v := nI 0) hx hb dX9_copyFrom_168 (by decide) ?_
  refine lv_aload_n hx hb dX9_copyFrom_169 rfl (lv_at hl 0 rfl) ?_
  refine x_get (v := .ref (α (74 + 9 * i + 8))) (C := RX9) (T := TX9) (N := 14) hx hb hts (fun _ h => List.mem_cons_of_mem _ (List.mem_append_right _ h)) hown hK hw (74 + 9 * i) (by have := hi; omega) (mkS_0 cA α (i := i) hi) rfl 13 (by decide) (hts _ (List.mem_of_getElem? (i := 18) rfl)) (fun _ h9 => h9) rfl dX9_copyFrom_170 ?_
  refine lv_iconst (v := nI 0) hx hb dX9_copyFrom_173 (by decide) ?_
  refine lv_bipush (v := nI 6) hx hb dX9_copyFrom_174 (by decide) ?_
  refine x_copyL hx hb (hml.trans hl.1.symm) hown (hts _ (List.mem_of_getElem? (i := 8) rfl)) (hts _ (List.mem_of_getElem? (i := 9) rfl)) (hts _ (List.mem_of_getElem? (i := 10) rfl)) (hts _ (List.mem_of_getElem? (i := 11) rfl)) hK hw (74 + 9 * j + 8) (74 + 9 * i + 8) 6 6 (by have := hj; omega) (by have := hi; omega) (mkS_8 cA α (i := j) hj) (mkS_8 cA α (i := i) hi) 6 rfl (by decide) (by decide) (by decide) (by decide) (by decide) dX9_copyFrom_176 (fun S14 eS14 H locs hw => ?_)
  rw [(g (74 + 9 * j + 8) (by omega)).2, (g (74 + 9 * i + 8) (by omega)).2] at eS14
  have g := agr_L g eS14 8 (by omega) (by omega)
  exact ret_v hx hb hr hlocks hK hw dX9_copyFrom_179 (by subst_vars; rfl)

def cpGr (S : Mem) : Mem := setR (setR (setR (setR (setR (setR (setI (setI (setI (setI (setI (setI (S) 23 0 (S.1 16 0)) 23 1 (S.1 16 1)) 23 2 (S.1 16 2)) 23 3 (S.1 16 3)) 23 4 (S.1 16 4)) 23 5 (S.1 16 5)) 24 (va_cpy (S.1 17) (S.1 24) 0 0 4)) 25 (va_cpy (S.1 18) (S.1 25) 0 0 6)) 26 (va_cpy (S.1 19) (S.1 26) 0 0 6)) 27 (va_cpy (S.1 20) (S.1 27) 0 0 6)) 28 (va_cpy (S.1 21) (S.1 28) 0 0 6)) 29 (va_cpy (S.1 22) (S.1 29) 0 0 6)

set_option maxRecDepth 100000 in
set_option maxHeartbeats 1000000 in
theorem ct_X2_copyFrom (l : Launch) (D : va_G) (cA : Nat → ClassId) (α : Nat → Nat) (n sz : Nat) (hn : 191 ≤ n) (S : Mem)  : CtV l yX2_copyFrom wsX2_copyFrom ({ frames := 1, cells := 0, slots := 0, locals := 60 }) D cA α n sz [.ref (α 23), .ref (α 16)] S (cpGr S) := by
  refine ct_enter cX2_copyFrom 2 none (by decide) rfl (Nat.le_of_ble_eq_true rfl) ?_
  intro p e s m below meth c hx hb hr hml hlocks hown hts hK hsz hw ls hl
  have hown : s.vm.findClass RX2 = some m.cls := hown
  have hAw : ∀ z, Aw α n s.heap.size z → Aw α n sz z := by rw [hsz]; exact fun _ h => h
  have hl : lv_has ls 2 [(0, .ref (α 23)), (1, .ref (α 16))] := hl
  have g := agr_0 S 23
  refine lv_aload_n hx hb dX2_copyFrom_0 rfl (lv_at hl 0 rfl) ?_
  refine lv_aload_n hx hb dX2_copyFrom_1 rfl (lv_at hl 1 rfl) ?_
  refine x_get (v := .int (S.1 16 0)) (C := RX2) (T := TX2) (N := 12) hx hb hts (fun _ h => List.mem_cons_of_mem _ (List.mem_append_right _ h)) hown hK hw 16 (Nat.lt_of_lt_of_le (Nat.le_of_ble_eq_true rfl : 16 < 191) hn) (mk_16 cA α) rfl 0 (by decide) (hts _ (List.mem_of_getElem? (i := 1) rfl)) (fun _ h9 => h9) rfl dX2_copyFrom_2 ?_
  refine x_putI (x := S.1 16 0) (ty := .int) (C := RX2) (T := TX2) (N := 12) hx hb hts (fun _ h => List.mem_cons_of_mem _ (List.mem_append_right _ h)) tyX2 tyX2_ok nmX2 hown hK hw 23 (Nat.lt_of_lt_of_le (Nat.le_of_ble_eq_true rfl : 23 < 191) hn) (mk_23 cA α) rfl 0 (by decide) (hts _ (List.mem_of_getElem? (i := 1) rfl)) (fun _ h9 => h9) rfl rfl rfl rfl (Nat.le_of_ble_eq_true rfl) rfl dX2_copyFrom_5 (fun S1 eS1 H locs hw => ?_)
  have g := agr_I g eS1 0 (by omega) (by omega)
  refine lv_aload_n hx hb dX2_copyFrom_8 rfl (lv_at hl 0 rfl) ?_
  refine lv_aload_n hx hb dX2_copyFrom_9 rfl (lv_at hl 1 rfl) ?_
  refine x_get (v := .int (S1.1 16 1)) (C := RX2) (T := TX2) (N := 12) hx hb hts (fun _ h => List.mem_cons_of_mem _ (List.mem_append_right _ h)) hown hK hw 16 (Nat.lt_of_lt_of_le (Nat.le_of_ble_eq_true rfl : 16 < 191) hn) (mk_16 cA α) rfl 1 (by decide) (hts _ (List.mem_of_getElem? (i := 2) rfl)) (fun _ h9 => h9) rfl dX2_copyFrom_10 ?_
  refine x_topE (y := S.1 16 1) (congrFun (g 16 (by omega)).1 1) ?_
  refine x_putI (x := S.1 16 1) (ty := .int) (C := RX2) (T := TX2) (N := 12) hx hb hts (fun _ h => List.mem_cons_of_mem _ (List.mem_append_right _ h)) tyX2 tyX2_ok nmX2 hown hK hw 23 (Nat.lt_of_lt_of_le (Nat.le_of_ble_eq_true rfl : 23 < 191) hn) (mk_23 cA α) rfl 1 (by decide) (hts _ (List.mem_of_getElem? (i := 2) rfl)) (fun _ h9 => h9) rfl rfl rfl rfl (Nat.le_of_ble_eq_true rfl) rfl dX2_copyFrom_13 (fun S2 eS2 H locs hw => ?_)
  have g := agr_I g eS2 0 (by omega) (by omega)
  refine lv_aload_n hx hb dX2_copyFrom_16 rfl (lv_at hl 0 rfl) ?_
  refine lv_aload_n hx hb dX2_copyFrom_17 rfl (lv_at hl 1 rfl) ?_
  refine x_get (v := .int (S2.1 16 2)) (C := RX2) (T := TX2) (N := 12) hx hb hts (fun _ h => List.mem_cons_of_mem _ (List.mem_append_right _ h)) hown hK hw 16 (Nat.lt_of_lt_of_le (Nat.le_of_ble_eq_true rfl : 16 < 191) hn) (mk_16 cA α) rfl 2 (by decide) (hts _ (List.mem_of_getElem? (i := 3) rfl)) (fun _ h9 => h9) rfl dX2_copyFrom_18 ?_
  refine x_topE (y := S.1 16 2) (congrFun (g 16 (by omega)).1 2) ?_
  refine x_putI (x := S.1 16 2) (ty := .int) (C := RX2) (T := TX2) (N := 12) hx hb hts (fun _ h => List.mem_cons_of_mem _ (List.mem_append_right _ h)) tyX2 tyX2_ok nmX2 hown hK hw 23 (Nat.lt_of_lt_of_le (Nat.le_of_ble_eq_true rfl : 23 < 191) hn) (mk_23 cA α) rfl 2 (by decide) (hts _ (List.mem_of_getElem? (i := 3) rfl)) (fun _ h9 => h9) rfl rfl rfl rfl (Nat.le_of_ble_eq_true rfl) rfl dX2_copyFrom_21 (fun S3 eS3 H locs hw => ?_)
  have g := agr_I g eS3 0 (by omega) (by omega)
  refine lv_aload_n hx hb dX2_copyFrom_24 rfl (lv_at hl 0 rfl) ?_
  refine lv_aload_n hx hb dX2_copyFrom_25 rfl (lv_at hl 1 rfl) ?_
  refine x_get (v := .int (S3.1 16 3)) (C := RX2) (T := TX2) (N := 12) hx hb hts (fun _ h => List.mem_cons_of_mem _ (List.mem_append_right _ h)) hown hK hw 16 (Nat.lt_of_lt_of_le (Nat.le_of_ble_eq_true rfl : 16 < 191) hn) (mk_16 cA α) rfl 3 (by decide) (hts _ (List.mem_of_getElem? (i := 4) rfl)) (fun _ h9 => h9) rfl dX2_copyFrom_26 ?_
  refine x_topE (y := S.1 16 3) (congrFun (g 16 (by omega)).1 3) ?_
  refine x_putI (x := S.1 16 3) (ty := .int) (C := RX2) (T := TX2) (N := 12) hx hb hts (fun _ h => List.mem_cons_of_mem _ (List.mem_append_right _ h)) tyX2 tyX2_ok nmX2 hown hK hw 23 (Nat.lt_of_lt_of_le (Nat.le_of_ble_eq_true rfl : 23 < 191) hn) (mk_23 cA α) rfl 3 (by decide) (hts _ (List.mem_of_getElem? (i := 4) rfl)) (fun _ h9 => h9) rfl rfl rfl rfl (Nat.le_of_ble_eq_true rfl) rfl dX2_copyFrom_29 (fun S4 eS4 H locs hw => ?_)
  have g := agr_I g eS4 0 (by omega) (by omega)
  refine lv_aload_n hx hb dX2_copyFrom_32 rfl (lv_at hl 0 rfl) ?_
  refine lv_aload_n hx hb dX2_copyFrom_33 rfl (lv_at hl 1 rfl) ?_
  refine x_get (v := .int (S4.1 16 4)) (C := RX2) (T := TX2) (N := 12) hx hb hts (fun _ h => List.mem_cons_of_mem _ (List.mem_append_right _ h)) hown hK hw 16 (Nat.lt_of_lt_of_le (Nat.le_of_ble_eq_true rfl : 16 < 191) hn) (mk_16 cA α) rfl 4 (by decide) (hts _ (List.mem_of_getElem? (i := 5) rfl)) (fun _ h9 => h9) rfl dX2_copyFrom_34 ?_
  refine x_topE (y := S.1 16 4) (congrFun (g 16 (by omega)).1 4) ?_
  refine x_putI (x := S.1 16 4) (ty := .int) (C := RX2) (T := TX2) (N := 12) hx hb hts (fun _ h => List.mem_cons_of_mem _ (List.mem_append_right _ h)) tyX2 tyX2_ok nmX2 hown hK hw 23 (Nat.lt_of_lt_of_le (Nat.le_of_ble_eq_true rfl : 23 < 191) hn) (mk_23 cA α) rfl 4 (by decide) (hts _ (List.mem_of_getElem? (i := 5) rfl)) (fun _ h9 => h9) rfl rfl rfl rfl (Nat.le_of_ble_eq_true rfl) rfl dX2_copyFrom_37 (fun S5 eS5 H locs hw => ?_)
  have g := agr_I g eS5 0 (by omega) (by omega)
  refine lv_aload_n hx hb dX2_copyFrom_40 rfl (lv_at hl 0 rfl) ?_
  refine lv_aload_n hx hb dX2_copyFrom_41 rfl (lv_at hl 1 rfl) ?_
  refine x_get (v := .int (S5.1 16 5)) (C := RX2) (T := TX2) (N := 12) hx hb hts (fun _ h => List.mem_cons_of_mem _ (List.mem_append_right _ h)) hown hK hw 16 (Nat.lt_of_lt_of_le (Nat.le_of_ble_eq_true rfl : 16 < 191) hn) (mk_16 cA α) rfl 5 (by decide) (hts _ (List.mem_of_getElem? (i := 6) rfl)) (fun _ h9 => h9) rfl dX2_copyFrom_42 ?_
  refine x_topE (y := S.1 16 5) (congrFun (g 16 (by omega)).1 5) ?_
  refine x_putI (x := S.1 16 5) (ty := .int) (C := RX2) (T := TX2) (N := 12) hx hb hts (fun _ h => List.mem_cons_of_mem _ (List.mem_append_right _ h)) tyX2 tyX2_ok nmX2 hown hK hw 23 (Nat.lt_of_lt_of_le (Nat.le_of_ble_eq_true rfl : 23 < 191) hn) (mk_23 cA α) rfl 5 (by decide) (hts _ (List.mem_of_getElem? (i := 6) rfl)) (fun _ h9 => h9) rfl rfl rfl rfl (Nat.le_of_ble_eq_true rfl) rfl dX2_copyFrom_45 (fun S6 eS6 H locs hw => ?_)
  have g := agr_I g eS6 0 (by omega) (by omega)
  refine lv_aload_n hx hb dX2_copyFrom_48 rfl (lv_at hl 1 rfl) ?_
  refine x_get (v := .ref (α 17)) (C := RX2) (T := TX2) (N := 12) hx hb hts (fun _ h => List.mem_cons_of_mem _ (List.mem_append_right _ h)) hown hK hw 16 (Nat.lt_of_lt_of_le (Nat.le_of_ble_eq_true rfl : 16 < 191) hn) (mk_16 cA α) rfl 6 (by decide) (hts _ (List.mem_of_getElem? (i := 7) rfl)) (fun _ h9 => h9) rfl dX2_copyFrom_49 ?_
  refine lv_iconst (v := nI 0) hx hb dX2_copyFrom_52 (by decide) ?_
  refine lv_aload_n hx hb dX2_copyFrom_53 rfl (lv_at hl 0 rfl) ?_
  refine x_get (v := .ref (α 24)) (C := RX2) (T := TX2) (N := 12) hx hb hts (fun _ h => List.mem_cons_of_mem _ (List.mem_append_right _ h)) hown hK hw 23 (Nat.lt_of_lt_of_le (Nat.le_of_ble_eq_true rfl : 23 < 191) hn) (mk_23 cA α) rfl 6 (by decide) (hts _ (List.mem_of_getElem? (i := 7) rfl)) (fun _ h9 => h9) rfl dX2_copyFrom_54 ?_
  refine lv_iconst (v := nI 0) hx hb dX2_copyFrom_57 (by decide) ?_
  refine lv_iconst (v := nI 4) hx hb dX2_copyFrom_58 (by decide) ?_
  refine x_copyI hx hb (hml.trans hl.1.symm) hown (hts _ (List.mem_of_getElem? (i := 8) rfl)) (hts _ (List.mem_of_getElem? (i := 9) rfl)) (hts _ (List.mem_of_getElem? (i := 10) rfl)) (hts _ (List.mem_of_getElem? (i := 11) rfl)) hK hw 17 24 4 4 (Nat.lt_of_lt_of_le (Nat.le_of_ble_eq_true rfl : 17 < 191) hn) (Nat.lt_of_lt_of_le (Nat.le_of_ble_eq_true rfl : 24 < 191) hn) (mk_17 cA α) (mk_24 cA α) 4 rfl (by decide) (by decide) (by decide) (by decide) (by decide) dX2_copyFrom_59 (fun S7 eS7 H locs hw => ?_)
  rw [(g 17 (by omega)).1, (g 24 (by omega)).1] at eS7
  have g := agr_R g eS7 1 (by omega) (by omega)
  refine lv_aload_n hx hb dX2_copyFrom_62 rfl (lv_at hl 1 rfl) ?_
  refine x_get (v := .ref (α 18)) (C := RX2) (T := TX2) (N := 12) hx hb hts (fun _ h => List.mem_cons_of_mem _ (List.mem_append_right _ h)) hown hK hw 16 (Nat.lt_of_lt_of_le (Nat.le_of_ble_eq_true rfl : 16 < 191) hn) (mk_16 cA α) rfl 7 (by decide) (hts _ (List.mem_of_getElem? (i := 12) rfl)) (fun _ h9 => h9) rfl dX2_copyFrom_63 ?_
  refine lv_iconst (v := nI 0) hx hb dX2_copyFrom_66 (by decide) ?_
  refine lv_aload_n hx hb dX2_copyFrom_67 rfl (lv_at hl 0 rfl) ?_
  refine x_get (v := .ref (α 25)) (C := RX2) (T := TX2) (N := 12) hx hb hts (fun _ h => List.mem_cons_of_mem _ (List.mem_append_right _ h)) hown hK hw 23 (Nat.lt_of_lt_of_le (Nat.le_of_ble_eq_true rfl : 23 < 191) hn) (mk_23 cA α) rfl 7 (by decide) (hts _ (List.mem_of_getElem? (i := 12) rfl)) (fun _ h9 => h9) rfl dX2_copyFrom_68 ?_
  refine lv_iconst (v := nI 0) hx hb dX2_copyFrom_71 (by decide) ?_
  refine lv_bipush (v := nI 6) hx hb dX2_copyFrom_72 (by decide) ?_
  refine x_copyI hx hb (hml.trans hl.1.symm) hown (hts _ (List.mem_of_getElem? (i := 8) rfl)) (hts _ (List.mem_of_getElem? (i := 9) rfl)) (hts _ (List.mem_of_getElem? (i := 10) rfl)) (hts _ (List.mem_of_getElem? (i := 11) rfl)) hK hw 18 25 6 6 (Nat.lt_of_lt_of_le (Nat.le_of_ble_eq_true rfl : 18 < 191) hn) (Nat.lt_of_lt_of_le (Nat.le_of_ble_eq_true rfl : 25 < 191) hn) (mk_18 cA α) (mk_25 cA α) 6 rfl (by decide) (by decide) (by decide) (by decide) (by decide) dX2_copyFrom_74 (fun S8 eS8 H locs hw => ?_)
  rw [(g 18 (by omega)).1, (g 25 (by omega)).1] at eS8
  have g := agr_R g eS8 2 (by omega) (by omega)
  refine lv_aload_n hx hb dX2_copyFrom_77 rfl (lv_at hl 1 rfl) ?_
  refine x_get (v := .ref (α 19)) (C := RX2) (T := TX2) (N := 12) hx hb hts (fun _ h => List.mem_cons_of_mem _ (List.mem_append_right _ h)) hown hK hw 16 (Nat.lt_of_lt_of_le (Nat.le_of_ble_eq_true rfl : 16 < 191) hn) (mk_16 cA α) rfl 8 (by decide) (hts _ (List.mem_of_getElem? (i := 13) rfl)) (fun _ h9 => h9) rfl dX2_copyFrom_78 ?_
  refine lv_iconst (v := nI 0) hx hb dX2_copyFrom_81 (by decide) ?_
  refine lv_aload_n hx hb dX2_copyFrom_82 rfl (lv_at hl 0 rfl) ?_
  refine x_get (v := .ref (α 26)) (C := RX2) (T := TX2) (N := 12) hx hb hts (fun _ h => List.mem_cons_of_mem _ (List.mem_append_right _ h)) hown hK hw 23 (Nat.lt_of_lt_of_le (Nat.le_of_ble_eq_true rfl : 23 < 191) hn) (mk_23 cA α) rfl 8 (by decide) (hts _ (List.mem_of_getElem? (i := 13) rfl)) (fun _ h9 => h9) rfl dX2_copyFrom_83 ?_
  refine lv_iconst (v := nI 0) hx hb dX2_copyFrom_86 (by decide) ?_
  refine lv_bipush (v := nI 6) hx hb dX2_copyFrom_87 (by decide) ?_
  refine x_copyI hx hb (hml.trans hl.1.symm) hown (hts _ (List.mem_of_getElem? (i := 8) rfl)) (hts _ (List.mem_of_getElem? (i := 9) rfl)) (hts _ (List.mem_of_getElem? (i := 10) rfl)) (hts _ (List.mem_of_getElem? (i := 11) rfl)) hK hw 19 26 6 6 (Nat.lt_of_lt_of_le (Nat.le_of_ble_eq_true rfl : 19 < 191) hn) (Nat.lt_of_lt_of_le (Nat.le_of_ble_eq_true rfl : 26 < 191) hn) (mk_19 cA α) (mk_26 cA α) 6 rfl (by decide) (by decide) (by decide) (by decide) (by decide) dX2_copyFrom_89 (fun S9 eS9 H locs hw => ?_)
  rw [(g 19 (by omega)).1, (g 26 (by omega)).1] at eS9
  have g := agr_R g eS9 3 (by omega) (by omega)
  refine lv_aload_n hx hb dX2_copyFrom_92 rfl (lv_at hl 1 rfl) ?_
  refine x_get (v := .ref (α 20)) (C := RX2) (T := TX2) (N := 12) hx hb hts (fun _ h => List.mem_cons_of_mem _ (List.mem_append_right _ h)) hown hK hw 16 (Nat.lt_of_lt_of_le (Nat.le_of_ble_eq_true rfl : 16 < 191) hn) (mk_16 cA α) rfl 9 (by decide) (hts _ (List.mem_of_getElem? (i := 14) rfl)) (fun _ h9 => h9) rfl dX2_copyFrom_93 ?_
  refine lv_iconst (v := nI 0) hx hb dX2_copyFrom_96 (by decide) ?_
  refine lv_aload_n hx hb dX2_copyFrom_97 rfl (lv_at hl 0 rfl) ?_
  refine x_get (v := .ref (α 27)) (C := RX2) (T := TX2) (N := 12) hx hb hts (fun _ h => List.mem_cons_of_mem _ (List.mem_append_right _ h)) hown hK hw 23 (Nat.lt_of_lt_of_le (Nat.le_of_ble_eq_true rfl : 23 < 191) hn) (mk_23 cA α) rfl 9 (by decide) (hts _ (List.mem_of_getElem? (i := 14) rfl)) (fun _ h9 => h9) rfl dX2_copyFrom_98 ?_
  refine lv_iconst (v := nI 0) hx hb dX2_copyFrom_101 (by decide) ?_
  refine lv_bipush (v := nI 6) hx hb dX2_copyFrom_102 (by decide) ?_
  refine x_copyI hx hb (hml.trans hl.1.symm) hown (hts _ (List.mem_of_getElem? (i := 8) rfl)) (hts _ (List.mem_of_getElem? (i := 9) rfl)) (hts _ (List.mem_of_getElem? (i := 10) rfl)) (hts _ (List.mem_of_getElem? (i := 11) rfl)) hK hw 20 27 6 6 (Nat.lt_of_lt_of_le (Nat.le_of_ble_eq_true rfl : 20 < 191) hn) (Nat.lt_of_lt_of_le (Nat.le_of_ble_eq_true rfl : 27 < 191) hn) (mk_20 cA α) (mk_27 cA α) 6 rfl (by decide) (by decide) (by decide) (by decide) (by decide) dX2_copyFrom_104 (fun S10 eS10 H locs hw => ?_)
  rw [(g 20 (by omega)).1, (g 27 (by omega)).1] at eS10
  have g := agr_R g eS10 4 (by omega) (by omega)
  refine lv_aload_n hx hb dX2_copyFrom_107 rfl (lv_at hl 1 rfl) ?_
  refine x_get (v := .ref (α 21)) (C := RX2) (T := TX2) (N := 12) hx hb hts (fun _ h => List.mem_cons_of_mem _ (List.mem_append_right _ h)) hown hK hw 16 (Nat.lt_of_lt_of_le (Nat.le_of_ble_eq_true rfl : 16 < 191) hn) (mk_16 cA α) rfl 10 (by decide) (hts _ (List.mem_of_getElem? (i := 15) rfl)) (fun _ h9 => h9) rfl dX2_copyFrom_108 ?_
  refine lv_iconst (v := nI 0) hx hb dX2_copyFrom_111 (by decide) ?_
  refine lv_aload_n hx hb dX2_copyFrom_112 rfl (lv_at hl 0 rfl) ?_
  refine x_get (v := .ref (α 28)) (C := RX2) (T := TX2) (N := 12) hx hb hts (fun _ h => List.mem_cons_of_mem _ (List.mem_append_right _ h)) hown hK hw 23 (Nat.lt_of_lt_of_le (Nat.le_of_ble_eq_true rfl : 23 < 191) hn) (mk_23 cA α) rfl 10 (by decide) (hts _ (List.mem_of_getElem? (i := 15) rfl)) (fun _ h9 => h9) rfl dX2_copyFrom_113 ?_
  refine lv_iconst (v := nI 0) hx hb dX2_copyFrom_116 (by decide) ?_
  refine lv_bipush (v := nI 6) hx hb dX2_copyFrom_117 (by decide) ?_
  refine x_copyI hx hb (hml.trans hl.1.symm) hown (hts _ (List.mem_of_getElem? (i := 8) rfl)) (hts _ (List.mem_of_getElem? (i := 9) rfl)) (hts _ (List.mem_of_getElem? (i := 10) rfl)) (hts _ (List.mem_of_getElem? (i := 11) rfl)) hK hw 21 28 6 6 (Nat.lt_of_lt_of_le (Nat.le_of_ble_eq_true rfl : 21 < 191) hn) (Nat.lt_of_lt_of_le (Nat.le_of_ble_eq_true rfl : 28 < 191) hn) (mk_21 cA α) (mk_28 cA α) 6 rfl (by decide) (by decide) (by decide) (by decide) (by decide) dX2_copyFrom_119 (fun S11 eS11 H locs hw => ?_)
  rw [(g 21 (by omega)).1, (g 28 (by omega)).1] at eS11
  have g := agr_R g eS11 5 (by omega) (by omega)
  refine lv_aload_n hx hb dX2_copyFrom_122 rfl (lv_at hl 1 rfl) ?_
  refine x_get (v := .ref (α 22)) (C := RX2) (T := TX2) (N := 12) hx hb hts (fun _ h => List.mem_cons_of_mem _ (List.mem_append_right _ h)) hown hK hw 16 (Nat.lt_of_lt_of_le (Nat.le_of_ble_eq_true rfl : 16 < 191) hn) (mk_16 cA α) rfl 11 (by decide) (hts _ (List.mem_of_getElem? (i := 16) rfl)) (fun _ h9 => h9) rfl dX2_copyFrom_123 ?_
  refine lv_iconst (v := nI 0) hx hb dX2_copyFrom_126 (by decide) ?_
  refine lv_aload_n hx hb dX2_copyFrom_127 rfl (lv_at hl 0 rfl) ?_
  refine x_get (v := .ref (α 29)) (C := RX2) (T := TX2) (N := 12) hx hb hts (fun _ h => List.mem_cons_of_mem _ (List.mem_append_right _ h)) hown hK hw 23 (Nat.lt_of_lt_of_le (Nat.le_of_ble_eq_true rfl : 23 < 191) hn) (mk_23 cA α) rfl 11 (by decide) (hts _ (List.mem_of_getElem? (i := 16) rfl)) (fun _ h9 => h9) rfl dX2_copyFrom_128 ?_
  refine lv_iconst (v := nI 0) hx hb dX2_copyFrom_131 (by decide) ?_
  refine lv_bipush (v := nI 6) hx hb dX2_copyFrom_132 (by decide) ?_
  refine x_copyI hx hb (hml.trans hl.1.symm) hown (hts _ (List.mem_of_getElem? (i := 8) rfl)) (hts _ (List.mem_of_getElem? (i := 9) rfl)) (hts _ (List.mem_of_getElem? (i := 10) rfl)) (hts _ (List.mem_of_getElem? (i := 11) rfl)) hK hw 22 29 6 6 (Nat.lt_of_lt_of_le (Nat.le_of_ble_eq_true rfl : 22 < 191) hn) (Nat.lt_of_lt_of_le (Nat.le_of_ble_eq_true rfl : 29 < 191) hn) (mk_22 cA α) (mk_29 cA α) 6 rfl (by decide) (by decide) (by decide) (by decide) (by decide) dX2_copyFrom_134 (fun S12 eS12 H locs hw => ?_)
  rw [(g 22 (by omega)).1, (g 29 (by omega)).1] at eS12
  have g := agr_R g eS12 6 (by omega) (by omega)
  exact ret_v hx hb hr hlocks hK hw dX2_copyFrom_137 (by subst_vars; rfl)

set_option maxRecDepth 100000 in
set_option maxHeartbeats 1000000 in
theorem ct_X2_clear (l : Launch) (D : va_G) (cA : Nat → ClassId) (α : Nat → Nat) (n sz : Nat) (hn : 191 ≤ n) (S : Mem)  : CtV l yX2_clear wsX2_clear ({ frames := 0, cells := 0, slots := 0, locals := 0 }) D cA α n sz [.ref (α 16)] S (setI (setI (setI (setI (setI (setI S 16 0 (nI 0)) 16 1 (nI 0)) 16 2 (nI 0)) 16 3 (nI 0)) 16 4 (nI 0)) 16 5 (nI 0)) := by
  refine ct_enter cX2_clear 1 none (by decide) rfl (Nat.le_of_ble_eq_true rfl) ?_
  intro p e s m below meth c hx hb hr hml hlocks hown hts hK hsz hw ls hl
  have hown : s.vm.findClass RX2 = some m.cls := hown
  have hAw : ∀ z, Aw α n s.heap.size z → Aw α n sz z := by rw [hsz]; exact fun _ h => h
  have hl : lv_has ls 1 [(0, .ref (α 16))] := hl
  refine lv_aload_n hx hb dX2_clear_0 rfl (lv_at hl 0 rfl) ?_
  refine lv_iconst (v := nI 0) hx hb dX2_clear_1 (by decide) ?_
  refine x_putI (x := nI 0) (ty := .int) (C := RX2) (T := TX2) (N := 12) hx hb hts (fun _ h => List.mem_cons_of_mem _ (List.mem_append_right _ h)) tyX2 tyX2_ok nmX2 hown hK hw 16 (Nat.lt_of_lt_of_le (Nat.le_of_ble_eq_true rfl : 16 < 191) hn) (mk_16 cA α) rfl 0 (by decide) (hts _ (List.mem_of_getElem? (i := 1) rfl)) (fun _ h9 => h9) rfl rfl rfl rfl (Nat.le_of_ble_eq_true rfl) rfl dX2_clear_2 (fun S1 eS1 H locs hw => ?_)
  refine lv_aload_n hx hb dX2_clear_5 rfl (lv_at hl 0 rfl) ?_
  refine lv_iconst (v := nI 0) hx hb dX2_clear_6 (by decide) ?_
  refine x_putI (x := nI 0) (ty := .int) (C := RX2) (T := TX2) (N := 12) hx hb hts (fun _ h => List.mem_cons_of_mem _ (List.mem_append_right _ h)) tyX2 tyX2_ok nmX2 hown hK hw 16 (Nat.lt_of_lt_of_le (Nat.le_of_ble_eq_true rfl : 16 < 191) hn) (mk_16 cA α) rfl 1 (by decide) (hts _ (List.mem_of_getElem? (i := 2) rfl)) (fun _ h9 => h9) rfl rfl rfl rfl (Nat.le_of_ble_eq_true rfl) rfl dX2_clear_7 (fun S2 eS2 H locs hw => ?_)
  refine lv_aload_n hx hb dX2_clear_10 rfl (lv_at hl 0 rfl) ?_
  refine lv_iconst (v := nI 0) hx hb dX2_clear_11 (by decide) ?_
  refine x_putI (x := nI 0) (ty := .int) (C := RX2) (T := TX2) (N := 12) hx hb hts (fun _ h => List.mem_cons_of_mem _ (List.mem_append_right _ h)) tyX2 tyX2_ok nmX2 hown hK hw 16 (Nat.lt_of_lt_of_le (Nat.le_of_ble_eq_true rfl : 16 < 191) hn) (mk_16 cA α) rfl 2 (by decide) (hts _ (List.mem_of_getElem? (i := 3) rfl)) (fun _ h9 => h9) rfl rfl rfl rfl (Nat.le_of_ble_eq_true rfl) rfl dX2_clear_12 (fun S3 eS3 H locs hw => ?_)
  refine lv_aload_n hx hb dX2_clear_15 rfl (lv_at hl 0 rfl) ?_
  refine lv_iconst (v := nI 0) hx hb dX2_clear_16 (by decide) ?_
  refine x_putI (x := nI 0) (ty := .int) (C := RX2) (T := TX2) (N := 12) hx hb hts (fun _ h => List.mem_cons_of_mem _ (List.mem_append_right _ h)) tyX2 tyX2_ok nmX2 hown hK hw 16 (Nat.lt_of_lt_of_le (Nat.le_of_ble_eq_true rfl : 16 < 191) hn) (mk_16 cA α) rfl 3 (by decide) (hts _ (List.mem_of_getElem? (i := 4) rfl)) (fun _ h9 => h9) rfl rfl rfl rfl (Nat.le_of_ble_eq_true rfl) rfl dX2_clear_17 (fun S4 eS4 H locs hw => ?_)
  refine lv_aload_n hx hb dX2_clear_20 rfl (lv_at hl 0 rfl) ?_
  refine lv_iconst (v := nI 0) hx hb dX2_clear_21 (by decide) ?_
  refine x_putI (x := nI 0) (ty := .int) (C := RX2) (T := TX2) (N := 12) hx hb hts (fun _ h => List.mem_cons_of_mem _ (List.mem_append_right _ h)) tyX2 tyX2_ok nmX2 hown hK hw 16 (Nat.lt_of_lt_of_le (Nat.le_of_ble_eq_true rfl : 16 < 191) hn) (mk_16 cA α) rfl 4 (by decide) (hts _ (List.mem_of_getElem? (i := 5) rfl)) (fun _ h9 => h9) rfl rfl rfl rfl (Nat.le_of_ble_eq_true rfl) rfl dX2_clear_22 (fun S5 eS5 H locs hw => ?_)
  refine lv_aload_n hx hb dX2_clear_25 rfl (lv_at hl 0 rfl) ?_
  refine lv_iconst (v := nI 0) hx hb dX2_clear_26 (by decide) ?_
  refine x_putI (x := nI 0) (ty := .int) (C := RX2) (T := TX2) (N := 12) hx hb hts (fun _ h => List.mem_cons_of_mem _ (List.mem_append_right _ h)) tyX2 tyX2_ok nmX2 hown hK hw 16 (Nat.lt_of_lt_of_le (Nat.le_of_ble_eq_true rfl : 16 < 191) hn) (mk_16 cA α) rfl 5 (by decide) (hts _ (List.mem_of_getElem? (i := 6) rfl)) (fun _ h9 => h9) rfl rfl rfl rfl (Nat.le_of_ble_eq_true rfl) rfl dX2_clear_27 (fun S6 eS6 H locs hw => ?_)
  exact ret_v hx hb hr hlocks hK hw dX2_clear_30 (by subst_vars; rfl)

set_option maxRecDepth 100000 in
set_option maxHeartbeats 1000000 in
theorem ct_X2_addCurrency (l : Launch) (D : va_G) (cA : Nat → ClassId) (α : Nat → Nat) (n sz : Nat) (hn : 191 ≤ n) (S : Mem) (x : Int32) (k : Nat) (hk : S.1 16 0 = nI k) (hk2 : k < 4) : CtV l yX2_addCurrency wsX2_addCurrency ({ frames := 0, cells := 0, slots := 0, locals := 0 }) D cA α n sz [.ref (α 16), .int x] S (setI (setI S 17 k x) 16 0 (nI (k + 1))) := by
  refine ct_enter cX2_addCurrency 2 none (by decide) rfl (Nat.le_of_ble_eq_true rfl) ?_
  intro p e s m below meth c hx hb hr hml hlocks hown hts hK hsz hw ls hl
  have hown : s.vm.findClass RX2 = some m.cls := hown
  have hAw : ∀ z, Aw α n s.heap.size z → Aw α n sz z := by rw [hsz]; exact fun _ h => h
  have hl : lv_has ls 2 [(0, .ref (α 16)), (1, .int x)] := hl
  refine lv_aload_n hx hb dX2_addCurrency_0 rfl (lv_at hl 0 rfl) ?_
  refine x_get (v := .ref (α 17)) (C := RX2) (T := TX2) (N := 12) hx hb hts (fun _ h => List.mem_cons_of_mem _ (List.mem_append_right _ h)) hown hK hw 16 (Nat.lt_of_lt_of_le (Nat.le_of_ble_eq_true rfl : 16 < 191) hn) (mk_16 cA α) rfl 6 (by decide) (hts _ (List.mem_of_getElem? (i := 1) rfl)) (fun _ h9 => h9) rfl dX2_addCurrency_1 ?_
  refine lv_aload_n hx hb dX2_addCurrency_4 rfl (lv_at hl 0 rfl) ?_
  refine x_get (v := .int (S.1 16 0)) (C := RX2) (T := TX2) (N := 12) hx hb hts (fun _ h => List.mem_cons_of_mem _ (List.mem_append_right _ h)) hown hK hw 16 (Nat.lt_of_lt_of_le (Nat.le_of_ble_eq_true rfl : 16 < 191) hn) (mk_16 cA α) rfl 0 (by decide) (hts _ (List.mem_of_getElem? (i := 2) rfl)) (fun _ h9 => h9) rfl dX2_addCurrency_5 ?_
  refine x_topN (k := k) hk ?_
  refine lv_iload_n hx hb dX2_addCurrency_8 rfl (lv_at hl 1 rfl) ?_
  refine x_iast (x := x) hx hb hK hw 17 4 (Nat.lt_of_lt_of_le (Nat.le_of_ble_eq_true rfl : 17 < 191) hn) (mk_17 cA α) k rfl (by omega) (by decide) dX2_addCurrency_9 (fun S1 eS1 H locs hw => ?_)
  refine lv_aload_n hx hb dX2_addCurrency_10 rfl (lv_at hl 0 rfl) ?_
  refine lv_dup hx hb dX2_addCurrency_11 rfl ?_
  refine x_get (v := .int (S1.1 16 0)) (C := RX2) (T := TX2) (N := 12) hx hb hts (fun _ h => List.mem_cons_of_mem _ (List.mem_append_right _ h)) hown hK hw 16 (Nat.lt_of_lt_of_le (Nat.le_of_ble_eq_true rfl : 16 < 191) hn) (mk_16 cA α) rfl 0 (by decide) (hts _ (List.mem_of_getElem? (i := 2) rfl)) (fun _ h9 => h9) rfl dX2_addCurrency_12 ?_
  refine x_topN (k := k) (by subst_vars; exact hk) ?_
  refine lv_iconst (v := nI 1) hx hb dX2_addCurrency_15 (by decide) ?_
  refine xn_iadd hx hb dX2_addCurrency_16 ?_
  refine x_putI (x := nI (k + 1)) (ty := .int) (C := RX2) (T := TX2) (N := 12) hx hb hts (fun _ h => List.mem_cons_of_mem _ (List.mem_append_right _ h)) tyX2 tyX2_ok nmX2 hown hK hw 16 (Nat.lt_of_lt_of_le (Nat.le_of_ble_eq_true rfl : 16 < 191) hn) (mk_16 cA α) rfl 0 (by decide) (hts _ (List.mem_of_getElem? (i := 2) rfl)) (fun _ h9 => h9) rfl rfl rfl rfl (Nat.le_of_ble_eq_true rfl) rfl dX2_addCurrency_17 (fun S2 eS2 H locs hw => ?_)
  exact ret_v hx hb hr hlocks hK hw dX2_addCurrency_20 (by subst_vars; rfl)

set_option maxRecDepth 100000 in
set_option maxHeartbeats 1000000 in
theorem ct_X2_addCompany (l : Launch) (D : va_G) (cA : Nat → ClassId) (α : Nat → Nat) (n sz : Nat) (hn : 191 ≤ n) (S : Mem) (x : Int32) (k : Nat) (hk : S.1 16 1 = nI k) (hk2 : k < 6) : CtV l yX2_addCompany wsX2_addCompany ({ frames := 0, cells := 0, slots := 0, locals := 0 }) D cA α n sz [.ref (α 16), .int x] S (setI (setI S 18 k x) 16 1 (nI (k + 1))) := by
  refine ct_enter cX2_addCompany 2 none (by decide) rfl (Nat.le_of_ble_eq_true rfl) ?_
  intro p e s m below meth c hx hb hr hml hlocks hown hts hK hsz hw ls hl
  have hown : s.vm.findClass RX2 = some m.cls := hown
  have hAw : ∀ z, Aw α n s.heap.size z → Aw α n sz z := by rw [hsz]; exact fun _ h => h
  have hl : lv_has ls 2 [(0, .ref (α 16)), (1, .int x)] := hl
  refine lv_aload_n hx hb dX2_addCompany_0 rfl (lv_at hl 0 rfl) ?_
  refine x_get (v := .ref (α 18)) (C := RX2) (T := TX2) (N := 12) hx hb hts (fun _ h => List.mem_cons_of_mem _ (List.mem_append_right _ h)) hown hK hw 16 (Nat.lt_of_lt_of_le (Nat.le_of_ble_eq_true rfl : 16 < 191) hn) (mk_16 cA α) rfl 7 (by decide) (hts _ (List.mem_of_getElem? (i := 1) rfl)) (fun _ h9 => h9) rfl dX2_addCompany_1 ?_
  refine lv_aload_n hx hb dX2_addCompany_4 rfl (lv_at hl 0 rfl) ?_
  refine x_get (v := .int (S.1 16 1)) (C := RX2) (T := TX2) (N := 12) hx hb hts (fun _ h => List.mem_cons_of_mem _ (List.mem_append_right _ h)) hown hK hw 16 (Nat.lt_of_lt_of_le (Nat.le_of_ble_eq_true rfl : 16 < 191) hn) (mk_16 cA α) rfl 1 (by decide) (hts _ (List.mem_of_getElem? (i := 2) rfl)) (fun _ h9 => h9) rfl dX2_addCompany_5 ?_
  refine x_topN (k := k) hk ?_
  refine lv_iload_n hx hb dX2_addCompany_8 rfl (lv_at hl 1 rfl) ?_
  refine x_iast (x := x) hx hb hK hw 18 6 (Nat.lt_of_lt_of_le (Nat.le_of_ble_eq_true rfl : 18 < 191) hn) (mk_18 cA α) k rfl (by omega) (by decide) dX2_addCompany_9 (fun S1 eS1 H locs hw => ?_)
  refine lv_aload_n hx hb dX2_addCompany_10 rfl (lv_at hl 0 rfl) ?_
  refine lv_dup hx hb dX2_addCompany_11 rfl ?_
  refine x_get (v := .int (S1.1 16 1)) (C := RX2) (T := TX2) (N := 12) hx hb hts (fun _ h => List.mem_cons_of_mem _ (List.mem_append_right _ h)) hown hK hw 16 (Nat.lt_of_lt_of_le (Nat.le_of_ble_eq_true rfl : 16 < 191) hn) (mk_16 cA α) rfl 1 (by decide) (hts _ (List.mem_of_getElem? (i := 2) rfl)) (fun _ h9 => h9) rfl dX2_addCompany_12 ?_
  refine x_topN (k := k) (by subst_vars; exact hk) ?_
  refine lv_iconst (v := nI 1) hx hb dX2_addCompany_15 (by decide) ?_
  refine xn_iadd hx hb dX2_addCompany_16 ?_
  refine x_putI (x := nI (k + 1)) (ty := .int) (C := RX2) (T := TX2) (N := 12) hx hb hts (fun _ h => List.mem_cons_of_mem _ (List.mem_append_right _ h)) tyX2 tyX2_ok nmX2 hown hK hw 16 (Nat.lt_of_lt_of_le (Nat.le_of_ble_eq_true rfl : 16 < 191) hn) (mk_16 cA α) rfl 1 (by decide) (hts _ (List.mem_of_getElem? (i := 2) rfl)) (fun _ h9 => h9) rfl rfl rfl rfl (Nat.le_of_ble_eq_true rfl) rfl dX2_addCompany_17 (fun S2 eS2 H locs hw => ?_)
  exact ret_v hx hb hr hlocks hK hw dX2_addCompany_20 (by subst_vars; rfl)

set_option maxRecDepth 100000 in
set_option maxHeartbeats 1000000 in
theorem ct_X2_addProduct (l : Launch) (D : va_G) (cA : Nat → ClassId) (α : Nat → Nat) (n sz : Nat) (hn : 191 ≤ n) (S : Mem) (x y u v : Int32) (k : Nat) (hk : S.1 16 2 = nI k) (hk2 : k < 6) : CtV l yX2_addProduct wsX2_addProduct ({ frames := 0, cells := 0, slots := 0, locals := 0 }) D cA α n sz [.ref (α 16), .int x, .int y, .int u, .int v] S (setI (setI (setI (setI (setI S 19 k x) 20 k y) 21 k (y + y * u / nI 100)) 22 k (y + y * v / nI 100)) 16 2 (nI (k + 1))) := by
  refine ct_enter cX2_addProduct 5 none (by decide) rfl (Nat.le_of_ble_eq_true rfl) ?_
  intro p e s m below meth c hx hb hr hml hlocks hown hts hK hsz hw ls hl
  have hown : s.vm.findClass RX2 = some m.cls := hown
  have hAw : ∀ z, Aw α n s.heap.size z → Aw α n sz z := by rw [hsz]; exact fun _ h => h
  have hl : lv_has ls 5 [(0, .ref (α 16)), (1, .int x), (2, .int y), (3, .int u), (4, .int v)] := hl
  refine lv_aload_n hx hb dX2_addProduct_0 rfl (lv_at hl 0 rfl) ?_
  refine x_get (v := .ref (α 19)) (C := RX2) (T := TX2) (N := 12) hx hb hts (fun _ h => List.mem_cons_of_mem _ (List.mem_append_right _ h)) hown hK hw 16 (Nat.lt_of_lt_of_le (Nat.le_of_ble_eq_true rfl : 16 < 191) hn) (mk_16 cA α) rfl 8 (by decide) (hts _ (List.mem_of_getElem? (i := 1) rfl)) (fun _ h9 => h9) rfl dX2_addProduct_1 ?_
  refine lv_aload_n hx hb dX2_addProduct_4 rfl (lv_at hl 0 rfl) ?_
  refine x_get (v := .int (S.1 16 2)) (C := RX2) (T := TX2) (N := 12) hx hb hts (fun _ h => List.mem_cons_of_mem _ (List.mem_append_right _ h)) hown hK hw 16 (Nat.lt_of_lt_of_le (Nat.le_of_ble_eq_true rfl : 16 < 191) hn) (mk_16 cA α) rfl 2 (by decide) (hts _ (List.mem_of_getElem? (i := 2) rfl)) (fun _ h9 => h9) rfl dX2_addProduct_5 ?_
  refine x_topN (k := k) hk ?_
  refine lv_iload_n hx hb dX2_addProduct_8 rfl (lv_at hl 1 rfl) ?_
  refine x_iast (x := x) hx hb hK hw 19 6 (Nat.lt_of_lt_of_le (Nat.le_of_ble_eq_true rfl : 19 < 191) hn) (mk_19 cA α) k rfl (by omega) (by decide) dX2_addProduct_9 (fun S1 eS1 H locs hw => ?_)
  refine lv_aload_n hx hb dX2_addProduct_10 rfl (lv_at hl 0 rfl) ?_
  refine x_get (v := .ref (α 20)) (C := RX2) (T := TX2) (N := 12) hx hb hts (fun _ h => List.mem_cons_of_mem _ (List.mem_append_right _ h)) hown hK hw 16 (Nat.lt_of_lt_of_le (Nat.le_of_ble_eq_true rfl : 16 < 191) hn) (mk_16 cA α) rfl 9 (by decide) (hts _ (List.mem_of_getElem? (i := 3) rfl)) (fun _ h9 => h9) rfl dX2_addProduct_11 ?_
  refine lv_aload_n hx hb dX2_addProduct_14 rfl (lv_at hl 0 rfl) ?_
  refine x_get (v := .int (S1.1 16 2)) (C := RX2) (T := TX2) (N := 12) hx hb hts (fun _ h => List.mem_cons_of_mem _ (List.mem_append_right _ h)) hown hK hw 16 (Nat.lt_of_lt_of_le (Nat.le_of_ble_eq_true rfl : 16 < 191) hn) (mk_16 cA α) rfl 2 (by decide) (hts _ (List.mem_of_getElem? (i := 2) rfl)) (fun _ h9 => h9) rfl dX2_addProduct_15 ?_
  refine x_topN (k := k) (by subst_vars; exact hk) ?_
  refine lv_iload_n hx hb dX2_addProduct_18 rfl (lv_at hl 2 rfl) ?_
  refine x_iast (x := y) hx hb hK hw 20 6 (Nat.lt_of_lt_of_le (Nat.le_of_ble_eq_true rfl : 20 < 191) hn) (mk_20 cA α) k rfl (by omega) (by decide) dX2_addProduct_19 (fun S2 eS2 H locs hw => ?_)
  refine lv_aload_n hx hb dX2_addProduct_20 rfl (lv_at hl 0 rfl) ?_
  refine x_get (v := .ref (α 21)) (C := RX2) (T := TX2) (N := 12) hx hb hts (fun _ h => List.mem_cons_of_mem _ (List.mem_append_right _ h)) hown hK hw 16 (Nat.lt_of_lt_of_le (Nat.le_of_ble_eq_true rfl : 16 < 191) hn) (mk_16 cA α) rfl 10 (by decide) (hts _ (List.mem_of_getElem? (i := 4) rfl)) (fun _ h9 => h9) rfl dX2_addProduct_21 ?_
  refine lv_aload_n hx hb dX2_addProduct_24 rfl (lv_at hl 0 rfl) ?_
  refine x_get (v := .int (S2.1 16 2)) (C := RX2) (T := TX2) (N := 12) hx hb hts (fun _ h => List.mem_cons_of_mem _ (List.mem_append_right _ h)) hown hK hw 16 (Nat.lt_of_lt_of_le (Nat.le_of_ble_eq_true rfl : 16 < 191) hn) (mk_16 cA α) rfl 2 (by decide) (hts _ (List.mem_of_getElem? (i := 2) rfl)) (fun _ h9 => h9) rfl dX2_addProduct_25 ?_
  refine x_topN (k := k) (by subst_vars; exact hk) ?_
  refine lv_iload_n hx hb dX2_addProduct_28 rfl (lv_at hl 2 rfl) ?_
  refine lv_iload_n hx hb dX2_addProduct_29 rfl (lv_at hl 2 rfl) ?_
  refine lv_iload_n hx hb dX2_addProduct_30 rfl (lv_at hl 3 rfl) ?_
  refine lv_imul hx hb dX2_addProduct_31 ?_
  refine lv_bipush (v := nI 100) hx hb dX2_addProduct_32 (by decide) ?_
  refine lv_idiv hx hb dX2_addProduct_34 (by decide) ?_
  refine lv_iadd hx hb dX2_addProduct_35 ?_
  refine x_iast (x := y + ((y * u) / (nI 100))) hx hb hK hw 21 6 (Nat.lt_of_lt_of_le (Nat.le_of_ble_eq_true rfl : 21 < 191) hn) (mk_21 cA α) k rfl (by omega) (by decide) dX2_addProduct_36 (fun S3 eS3 H locs hw => ?_)
  refine lv_aload_n hx hb dX2_addProduct_37 rfl (lv_at hl 0 rfl) ?_
  refine x_get (v := .ref (α 22)) (C := RX2) (T := TX2) (N := 12) hx hb hts (fun _ h => List.mem_cons_of_mem _ (List.mem_append_right _ h)) hown hK hw 16 (Nat.lt_of_lt_of_le (Nat.le_of_ble_eq_true rfl : 16 < 191) hn) (mk_16 cA α) rfl 11 (by decide) (hts _ (List.mem_of_getElem? (i := 5) rfl)) (fun _ h9 => h9) rfl dX2_addProduct_38 ?_
  refine lv_aload_n hx hb dX2_addProduct_41 rfl (lv_at hl 0 rfl) ?_
  refine x_get (v := .int (S3.1 16 2)) (C := RX2) (T := TX2) (N := 12) hx hb hts (fun _ h => List.mem_cons_of_mem _ (List.mem_append_right _ h)) hown hK hw 16 (Nat.lt_of_lt_of_le (Nat.le_of_ble_eq_true rfl : 16 < 191) hn) (mk_16 cA α) rfl 2 (by decide) (hts _ (List.mem_of_getElem? (i := 2) rfl)) (fun _ h9 => h9) rfl dX2_addProduct_42 ?_
  refine x_topN (k := k) (by subst_vars; exact hk) ?_
  refine lv_iload_n hx hb dX2_addProduct_45 rfl (lv_at hl 2 rfl) ?_
  refine lv_iload_n hx hb dX2_addProduct_46 rfl (lv_at hl 2 rfl) ?_
  refine lv_iload hx hb dX2_addProduct_47 (lv_at hl 4 rfl) ?_
  refine lv_imul hx hb dX2_addProduct_49 ?_
  refine lv_bipush (v := nI 100) hx hb dX2_addProduct_50 (by decide) ?_
  refine lv_idiv hx hb dX2_addProduct_52 (by decide) ?_
  refine lv_iadd hx hb dX2_addProduct_53 ?_
  refine x_iast (x := y + ((y * v) / (nI 100))) hx hb hK hw 22 6 (Nat.lt_of_lt_of_le (Nat.le_of_ble_eq_true rfl : 22 < 191) hn) (mk_22 cA α) k rfl (by omega) (by decide) dX2_addProduct_54 (fun S4 eS4 H locs hw => ?_)
  refine lv_aload_n hx hb dX2_addProduct_55 rfl (lv_at hl 0 rfl) ?_
  refine lv_dup hx hb dX2_addProduct_56 rfl ?_
  refine x_get (v := .int (S4.1 16 2)) (C := RX2) (T := TX2) (N := 12) hx hb hts (fun _ h => List.mem_cons_of_mem _ (List.mem_append_right _ h)) hown hK hw 16 (Nat.lt_of_lt_of_le (Nat.le_of_ble_eq_true rfl : 16 < 191) hn) (mk_16 cA α) rfl 2 (by decide) (hts _ (List.mem_of_getElem? (i := 2) rfl)) (fun _ h9 => h9) rfl dX2_addProduct_57 ?_
  refine x_topN (k := k) (by subst_vars; exact hk) ?_
  refine lv_iconst (v := nI 1) hx hb dX2_addProduct_60 (by decide) ?_
  refine xn_iadd hx hb dX2_addProduct_61 ?_
  refine x_putI (x := nI (k + 1)) (ty := .int) (C := RX2) (T := TX2) (N := 12) hx hb hts (fun _ h => List.mem_cons_of_mem _ (List.mem_append_right _ h)) tyX2 tyX2_ok nmX2 hown hK hw 16 (Nat.lt_of_lt_of_le (Nat.le_of_ble_eq_true rfl : 16 < 191) hn) (mk_16 cA α) rfl 2 (by decide) (hts _ (List.mem_of_getElem? (i := 2) rfl)) (fun _ h9 => h9) rfl rfl rfl rfl (Nat.le_of_ble_eq_true rfl) rfl dX2_addProduct_62 (fun S5 eS5 H locs hw => ?_)
  exact ret_v hx hb hr hlocks hK hw dX2_addProduct_65 (by subst_vars; rfl)

def zL (f : Nat → Int64) (k : Nat) : Nat → Int64 := fun j => if j < k then 0 else f j
theorem zL_0 (f : Nat → Int64) : zL f 0 = f := by funext j; simp [zL]
theorem zL_s (f : Nat → Int64) (k : Nat) : vp_updL (zL f k) k 0 = zL f (k + 1) := by
  funext j
  unfold vp_updL zL
  by_cases h : j = k
  · subst h; simp
  · rw [if_neg h]
    by_cases h2 : j < k
    · rw [if_pos h2, if_pos (by omega)]
    · rw [if_neg h2, if_neg (by omega)]
theorem setL_same (S : Mem) (q : Nat) : setL S q (S.2 q) = S := by
  unfold setL
  have : va_up S.2 q (S.2 q) = S.2 := by
    funext z
    unfold va_up
    split
    · rename_i h; rw [h]
    · rfl
  rw [this]
theorem setL_twice (S : Mem) (q : Nat) (f g : Nat → Int64) : setL (setL S q f) q g = setL S q g := by
  unfold setL
  have : va_up (va_up S.2 q f) q g = va_up S.2 q g := by
    funext z
    unfold va_up
    split <;> rfl
  rw [this]
theorem zL_step (S : Mem) (q k : Nat) : setJ (setL S q (zL (S.2 q) k)) q k 0 = setL S q (zL (S.2 q) (k + 1)) := by
  unfold setJ
  rw [sL_e, zL_s, setL_twice]
def cBeg0 (S : Mem) : Mem := setR (setJ (setJ (setJ (setI (setI (setI S 74 0 (nI 0)) 74 1 (nI 0)) 74 2 (S.1 23 3)) 74 3 0) 74 4 0) 74 5 0) 81 (va_cpy (S.1 24) (S.1 81) 0 0 4)
def cBeg (S : Mem) : Mem := setL (cBeg0 S) 82 (zL (S.2 82) 6)

set_option maxRecDepth 100000 in
set_option maxHeartbeats 1000000 in
theorem ct_X9_startWith (l : Launch) (D : va_G) (cA : Nat → ClassId) (α : Nat → Nat) (n sz : Nat) (hn : 191 ≤ n) (S : Mem)  : CtV l yX9_startWith wsX9_startWith ({ frames := 1, cells := 0, slots := 0, locals := 60 }) D cA α n sz [.ref (α 74), .ref (α 23)] S (cBeg S) := by
  refine ct_enter cX9_startWith 3 none (by decide) rfl (Nat.le_of_ble_eq_true rfl) ?_
  intro p e s m below meth c hx hb hr hml hlocks hown hts hK hsz hw ls hl
  have hown : s.vm.findClass RX9 = some m.cls := hown
  have hAw : ∀ z, Aw α n s.heap.size z → Aw α n sz z := by rw [hsz]; exact fun _ h => h
  have hl : lv_has ls 3 [(0, .ref (α 74)), (1, .ref (α 23))] := hl
  refine lv_aload_n hx hb dX9_startWith_0 rfl (lv_at hl 0 rfl) ?_
  refine lv_iconst (v := nI 0) hx hb dX9_startWith_1 (by decide) ?_
  refine x_putI (x := nI 0) (ty := .int) (C := RX9) (T := TX9) (N := 14) hx hb hts (fun _ h => List.mem_cons_of_mem _ (List.mem_append_left _ (List.mem_append_right _ h))) tyX9 tyX9_ok nmX9 hown hK hw 74 (Nat.lt_of_lt_of_le (Nat.le_of_ble_eq_true rfl : 74 < 191) hn) (mk_74 cA α) rfl 0 (by decide) (hts _ (List.mem_of_getElem? (i := 1) rfl)) (fun _ h9 => h9) rfl rfl rfl rfl (Nat.le_of_ble_eq_true rfl) rfl dX9_startWith_2 (fun S1 eS1 H locs hw => ?_)
  refine lv_aload_n hx hb dX9_startWith_5 rfl (lv_at hl 0 rfl) ?_
  refine lv_iconst (v := nI 0) hx hb dX9_startWith_6 (by decide) ?_
  refine x_putI (x := nI 0) (ty := .int) (C := RX9) (T := TX9) (N := 14) hx hb hts (fun _ h => List.mem_cons_of_mem _ (List.mem_append_left _ (List.mem_append_right _ h))) tyX9 tyX9_ok nmX9 hown hK hw 74 (Nat.lt_of_lt_of_le (Nat.le_of_ble_eq_true rfl : 74 < 191) hn) (mk_74 cA α) rfl 1 (by decide) (hts _ (List.mem_of_getElem? (i := 2) rfl)) (fun _ h9 => h9) rfl rfl rfl rfl (Nat.le_of_ble_eq_true rfl) rfl dX9_startWith_7 (fun S2 eS2 H locs hw => ?_)
  refine lv_aload_n hx hb dX9_startWith_10 rfl (lv_at hl 0 rfl) ?_
  refine lv_aload_n hx hb dX9_startWith_11 rfl (lv_at hl 1 rfl) ?_
  refine x_get (v := .int (S2.1 23 3)) (C := RX2) (T := TX2) (N := 12) hx hb hts (fun _ h => List.mem_cons_of_mem _ (List.mem_append_right _ h)) hown hK hw 23 (Nat.lt_of_lt_of_le (Nat.le_of_ble_eq_true rfl : 23 < 191) hn) (mk_23 cA α) rfl 3 (by decide) (hts _ (List.mem_of_getElem? (i := 3) rfl)) (fun _ h9 => h9) rfl dX9_startWith_12 ?_
  refine x_topE (y := S.1 23 3) (by subst_vars; rfl) ?_
  refine x_putI (x := S.1 23 3) (ty := .int) (C := RX9) (T := TX9) (N := 14) hx hb hts (fun _ h => List.mem_cons_of_mem _ (List.mem_append_left _ (List.mem_append_right _ h))) tyX9 tyX9_ok nmX9 hown hK hw 74 (Nat.lt_of_lt_of_le (Nat.le_of_ble_eq_true rfl : 74 < 191) hn) (mk_74 cA α) rfl 2 (by decide) (hts _ (List.mem_of_getElem? (i := 4) rfl)) (fun _ h9 => h9) rfl rfl rfl rfl (Nat.le_of_ble_eq_true rfl) rfl dX9_startWith_15 (fun S3 eS3 H locs hw => ?_)
  refine lv_aload_n hx hb dX9_startWith_18 rfl (lv_at hl 0 rfl) ?_
  refine lv_lconst (v := 0) hx hb dX9_startWith_19 (by decide) ?_
  refine x_putL (x := 0) (ty := .long) (C := RX9) (T := TX9) (N := 14) hx hb hts (fun _ h => List.mem_cons_of_mem _ (List.mem_append_left _ (List.mem_append_right _ h))) tyX9 tyX9_ok nmX9 hown hK hw 74 (Nat.lt_of_lt_of_le (Nat.le_of_ble_eq_true rfl : 74 < 191) hn) (mk_74 cA α) rfl 3 (by decide) (hts _ (List.mem_of_getElem? (i := 5) rfl)) (fun _ h9 => h9) rfl rfl rfl rfl (Nat.le_of_ble_eq_true rfl) rfl dX9_startWith_20 (fun S4 eS4 H locs hw => ?_)
  refine lv_aload_n hx hb dX9_startWith_23 rfl (lv_at hl 0 rfl) ?_
  refine lv_lconst (v := 0) hx hb dX9_startWith_24 (by decide) ?_
  refine x_putL (x := 0) (ty := .long) (C := RX9) (T := TX9) (N := 14) hx hb hts (fun _ h => List.mem_cons_of_mem _ (List.mem_append_left _ (List.mem_append_right _ h))) tyX9 tyX9_ok nmX9 hown hK hw 74 (Nat.lt_of_lt_of_le (Nat.le_of_ble_eq_true rfl : 74 < 191) hn) (mk_74 cA α) rfl 4 (by decide) (hts _ (List.mem_of_getElem? (i := 6) rfl)) (fun _ h9 => h9) rfl rfl rfl rfl (Nat.le_of_ble_eq_true rfl) rfl dX9_startWith_25 (fun S5 eS5 H locs hw => ?_)
  refine lv_aload_n hx hb dX9_startWith_28 rfl (lv_at hl 0 rfl) ?_
  refine lv_lconst (v := 0) hx hb dX9_startWith_29 (by decide) ?_
  refine x_putL (x := 0) (ty := .long) (C := RX9) (T := TX9) (N := 14) hx hb hts (fun _ h => List.mem_cons_of_mem _ (List.mem_append_left _ (List.mem_append_right _ h))) tyX9 tyX9_ok nmX9 hown hK hw 74 (Nat.lt_of_lt_of_le (Nat.le_of_ble_eq_true rfl : 74 < 191) hn) (mk_74 cA α) rfl 5 (by decide) (hts _ (List.mem_of_getElem? (i := 7) rfl)) (fun _ h9 => h9) rfl rfl rfl rfl (Nat.le_of_ble_eq_true rfl) rfl dX9_startWith_30 (fun S6 eS6 H locs hw => ?_)
  refine lv_aload_n hx hb dX9_startWith_33 rfl (lv_at hl 1 rfl) ?_
  refine x_get (v := .ref (α 24)) (C := RX2) (T := TX2) (N := 12) hx hb hts (fun _ h => List.mem_cons_of_mem _ (List.mem_append_right _ h)) hown hK hw 23 (Nat.lt_of_lt_of_le (Nat.le_of_ble_eq_true rfl : 23 < 191) hn) (mk_23 cA α) rfl 6 (by decide) (hts _ (List.mem_of_getElem? (i := 8) rfl)) (fun _ h9 => h9) rfl dX9_startWith_34 ?_
  refine lv_iconst (v := nI 0) hx hb dX9_startWith_37 (by decide) ?_
  refine lv_aload_n hx hb dX9_startWith_38 rfl (lv_at hl 0 rfl) ?_
  refine x_get (v := .ref (α 81)) (C := RX9) (T := TX9) (N := 14) hx hb hts (fun _ h => List.mem_cons_of_mem _ (List.mem_append_left _ (List.mem_append_right _ h))) hown hK hw 74 (Nat.lt_of_lt_of_le (Nat.le_of_ble_eq_true rfl : 74 < 191) hn) (mk_74 cA α) rfl 12 (by decide) (hts _ (List.mem_of_getElem? (i := 9) rfl)) (fun _ h9 => h9) rfl dX9_startWith_39 ?_
  refine lv_iconst (v := nI 0) hx hb dX9_startWith_42 (by decide) ?_
  refine lv_iconst (v := nI 4) hx hb dX9_startWith_43 (by decide) ?_
  refine x_copyI hx hb (hml.trans hl.1.symm) hown (hts _ (List.mem_of_getElem? (i := 10) rfl)) (hts _ (List.mem_of_getElem? (i := 11) rfl)) (hts _ (List.mem_of_getElem? (i := 12) rfl)) (hts _ (List.mem_of_getElem? (i := 13) rfl)) hK hw 24 81 4 4 (Nat.lt_of_lt_of_le (Nat.le_of_ble_eq_true rfl : 24 < 191) hn) (Nat.lt_of_lt_of_le (Nat.le_of_ble_eq_true rfl : 81 < 191) hn) (mk_24 cA α) (mk_81 cA α) 4 rfl (by decide) (by decide) (by decide) (by decide) (by decide) dX9_startWith_44 (fun S7 eS7 H locs hw => ?_)
  refine lv_iconst (v := nI 0) hx hb dX9_startWith_47 (by decide) ?_
  refine lv_istore_n (lv' := [(2, .int (nI 0)), (0, .ref (α 74)), (1, .ref (α 23))]) hx hb dX9_startWith_48 rfl hl (by decide) rfl (fun ls hl => ?_)
  have lp49 : ∀ (t : Nat) (k : Nat) (T : Mem) (H : Heap) (locs : List Loc) (ls : Array Slot), 6 - k < t → k ≤ 6 → T = setL (cBeg0 S) 82 (zL (S.2 82) k) → Ws D cA α n (Aw α n sz) s.heap T H locs → lv_has ls 3 [(0, .ref (α 74)), (1, .ref (α 23)), (2, .int (nI k))] → W p l e ({ frames := 1, cells := 0, slots := 0, locals := 60 } : Room) s m (List.toArray ([.ref (α 74), .ref (α 23)] : List Value)) below meth c H locs 0 0 (MQ below (va_Qv (fun u => u = (cBeg S)) (Pw D cA α n) (Aw α n sz)) (List.toArray ([.ref (α 74), .ref (α 23)] : List Value)) s 0 0 (Aw α n sz)) (F0 m 49 ls []) := by
    intro t
    induction t with
    | zero => intro k T H locs ls ht; exact absurd ht (Nat.not_lt_zero _)
    | succ t ih49 =>
      intro k T H locs ls ht hj hT hw hl
      refine lv_iload_n hx hb dX9_startWith_49 rfl (lv_at hl 2 rfl) ?_
      refine lv_bipush (v := nI 6) hx hb dX9_startWith_50 (by decide) ?_
      refine xn_icmp_ge (tgt := 68) hx hb (by omega) (by decide) dX9_startWith_52 (by decide) (fun c1 => ?_) (fun c1 => ?_)
      · skip
        exact ret_v hx hb hr hlocks hK hw dX9_startWith_68 (by rw [hT, show k = 6 by omega]; rfl)
      · skip
        refine lv_aload_n hx hb dX9_startWith_55 rfl (lv_at hl 0 rfl) ?_
        refine x_get (v := .ref (α 82)) (C := RX9) (T := TX9) (N := 14) hx hb hts (fun _ h => List.mem_cons_of_mem _ (List.mem_append_left _ (List.mem_append_right _ h))) hown hK hw 74 (Nat.lt_of_lt_of_le (Nat.le_of_ble_eq_true rfl : 74 < 191) hn) (mk_74 cA α) rfl 13 (by decide) (hts _ (List.mem_of_getElem? (i := 14) rfl)) (fun _ h9 => h9) rfl dX9_startWith_56 ?_
        refine lv_iload_n hx hb dX9_startWith_59 rfl (lv_at hl 2 rfl) ?_
        refine lv_lconst (v := 0) hx hb dX9_startWith_60 (by decide) ?_
        refine x_last (x := 0) hx hb hK hw 82 6 (Nat.lt_of_lt_of_le (Nat.le_of_ble_eq_true rfl : 82 < 191) hn) (mk_82 cA α) k rfl (by omega) (by decide) dX9_startWith_61 (fun S8 eS8 H locs hw => ?_)
        refine lv_iinc (v := nI (k + 1)) (lv' := [(2, .int (nI (k + 1))), (0, .ref (α 74)), (1, .ref (α 23))]) hx hb dX9_startWith_62 hl (k := 2) rfl (nI_1 _) (by decide) rfl (fun ls hl => ?_)
        refine lv_goto (tgt := 49) hx hb dX9_startWith_65 (by decide) ?_
        exact ih49 (k + 1) S8 _ _ _ (by omega) (by omega) (by subst_vars; exact zL_step (cBeg0 S) 82 k) hw (lv_sub hl [1, 2, 0] rfl)
  exact lp49 _ 0 S7 _ _ _ (Nat.lt_succ_self _) (Nat.zero_le _) (by subst_vars; rw [zL_0]; exact (setL_same (cBeg0 S) 82).symm) hw (lv_sub hl [1, 2, 0] rfl)

set_option maxRecDepth 100000 in
set_option maxHeartbeats 1000000 in
theorem ct_X0_startWith (l : Launch) (D : va_G) (cA : Nat → ClassId) (α : Nat → Nat) (n sz : Nat) (hn : 191 ≤ n) (S : Mem)  : CtV l yX0_startWith wsX0_startWith ({ frames := 2, cells := 0, slots := 0, locals := 82 }) D cA α n sz [.ref (α 3), .ref (α 16)] S (cBeg (cpGr S)) := by
  refine ct_enter cX0_startWith 2 none (by decide) rfl (Nat.le_of_ble_eq_true rfl) ?_
  intro p e s m below meth c hx hb hr hml hlocks hown hts hK hsz hw ls hl
  have hown : s.vm.findClass RX0 = some m.cls := hown
  have hAw : ∀ z, Aw α n s.heap.size z → Aw α n sz z := by rw [hsz]; exact fun _ h => h
  have hl : lv_has ls 2 [(0, .ref (α 3)), (1, .ref (α 16))] := hl
  refine lv_aload_n hx hb dX0_startWith_0 rfl (lv_at hl 0 rfl) ?_
  refine x_get (v := .ref (α 23)) (C := RX0) (T := TX0) (N := 3) hx hb hts (fun _ h => List.mem_cons_of_mem _ (List.mem_append_left _ (List.mem_append_left _ (List.mem_append_right _ h)))) hown hK hw 3 (Nat.lt_of_lt_of_le (Nat.le_of_ble_eq_true rfl : 3 < 191) hn) (mk_3 cA α) rfl 0 (by decide) (hts _ (List.mem_of_getElem? (i := 1) rfl)) (fun _ h9 => h9) rfl dX0_startWith_1 ?_
  refine lv_aload_n hx hb dX0_startWith_4 rfl (lv_at hl 1 rfl) ?_
  refine x_callVV (q := 23) (C := RX2) (As := [.ref (α 16)]) (rest := []) ⟨hx, hb, hml, hown, hts⟩ (ct_X2_copyFrom l D cA α n _ hn S ) (cwV 1 hts gX0_startWith_X2_copyFrom rfl rfl rfl (by decide +kernel) ⟨Nat.le_of_ble_eq_true rfl, Nat.le_of_ble_eq_true rfl⟩) hK hw hAw (ws_recv hK hw (q := 23) (Nat.lt_of_lt_of_le (Nat.le_of_ble_eq_true rfl : 23 < 191) hn) (mk_23 cA α) rfl) rfl hl.1 rfl (Nat.le_of_ble_eq_true rfl) dX0_startWith_5 ⟨Nat.zero_le _, Nat.zero_le _⟩ (fun S1 eS1 H locs hw => ?_)
  refine lv_aload_n hx hb dX0_startWith_8 rfl (lv_at hl 0 rfl) ?_
  refine x_get (v := .ref (α 74)) (C := RX0) (T := TX0) (N := 3) hx hb hts (fun _ h => List.mem_cons_of_mem _ (List.mem_append_left _ (List.mem_append_left _ (List.mem_append_right _ h)))) hown hK hw 3 (Nat.lt_of_lt_of_le (Nat.le_of_ble_eq_true rfl : 3 < 191) hn) (mk_3 cA α) rfl 2 (by decide) (hts _ (List.mem_of_getElem? (i := 2) rfl)) (fun _ h9 => h9) rfl dX0_startWith_9 ?_
  refine lv_aload_n hx hb dX0_startWith_12 rfl (lv_at hl 0 rfl) ?_
  refine x_get (v := .ref (α 23)) (C := RX0) (T := TX0) (N := 3) hx hb hts (fun _ h => List.mem_cons_of_mem _ (List.mem_append_left _ (List.mem_append_left _ (List.mem_append_right _ h)))) hown hK hw 3 (Nat.lt_of_lt_of_le (Nat.le_of_ble_eq_true rfl : 3 < 191) hn) (mk_3 cA α) rfl 0 (by decide) (hts _ (List.mem_of_getElem? (i := 1) rfl)) (fun _ h9 => h9) rfl dX0_startWith_13 ?_
  refine x_callVV (q := 74) (C := RX9) (As := [.ref (α 23)]) (rest := []) ⟨hx, hb, hml, hown, hts⟩ (ct_X9_startWith l D cA α n _ hn S1 ) (cwV 1 hts gX0_startWith_X9_startWith rfl rfl rfl (by decide +kernel) ⟨Nat.le_of_ble_eq_true rfl, Nat.le_of_ble_eq_true rfl⟩) hK hw hAw (ws_recv hK hw (q := 74) (Nat.lt_of_lt_of_le (Nat.le_of_ble_eq_true rfl : 74 < 191) hn) (mk_74 cA α) rfl) rfl hl.1 rfl (Nat.le_of_ble_eq_true rfl) dX0_startWith_16 ⟨Nat.zero_le _, Nat.zero_le _⟩ (fun S2 eS2 H locs hw => ?_)
  exact ret_v hx hb hr hlocks hK hw dX0_startWith_19 (by subst_vars; rfl)

theorem cpSt_agr (S : Mem) (i j K M : Nat) : agr S (cpSt S i j K M) (74 + 9 * i) 8 := by
  intro q hq
  unfold cpSt
  refine ⟨?_, ?_⟩
  · rw [sL_1, sR_1 (by omega), sR_1 (by omega), sL_1, sL_1, sR_1 (by omega), sR_1 (by omega), sR_1 (by omega), sJ_1, sJ_1, sJ_1, sI_1 (by omega), sI_1 (by omega), sI_1 (by omega)]
  · rw [sL_2 (by omega), sR_2, sR_2, sL_2 (by omega), sL_2 (by omega), sR_2, sR_2, sR_2, sJ_2 (by omega), sJ_2 (by omega), sJ_2 (by omega), sI_2, sI_2, sI_2]
def nxt (t : Nat) : Nat := if t = 9 then 0 else t + 1
def prv (t : Nat) : Nat := if t = 0 then 9 else t - 1
/-- remember: the history's next place is t, its count k -/
def cRem (S : Mem) (t k K M : Nat) : Mem := setI (setI (cpSt S (t + 1) 0 K M) 11 1 (nI (nxt t))) 11 0 (nI (if 10 < k + 1 then 10 else k + 1))
theorem mn_rem {k : Nat} (h : k ≤ 10) : mnI (nI (k + 1)) (nI 10) = nI (if 10 < k + 1 then 10 else k + 1) := by
  unfold mnI
  by_cases h2 : 10 < k + 1
  · rw [if_pos h2, if_pos (nI_lt h2 (by omega))]
  · rw [if_neg h2, if_neg (nI_nlt (by omega) (by omega))]

set_option maxRecDepth 100000 in
set_option maxHeartbeats 1000000 in
theorem ct_X4_remember (l : Launch) (D : va_G) (cA : Nat → ClassId) (α : Nat → Nat) (n sz : Nat) (hn : 191 ≤ n) (S : Mem) (t k K M : Nat) (ht : S.1 11 1 = nI t) (ht2 : t < 10) (hk : S.1 11 0 = nI k) (hk2 : k ≤ 10) (hK1 : S.1 74 0 = nI K) (hKb : K ≤ 100) (hM1 : S.1 74 1 = nI M) (hMb : M ≤ 100) : CtV l yX4_remember wsX4_remember ({ frames := 2, cells := 0, slots := 0, locals := 81 }) D cA α n sz [.ref (α 11), .ref (α 74)] S (cRem S t k K M) := by
  refine ct_enter cX4_remember 2 none (by decide) rfl (Nat.le_of_ble_eq_true rfl) ?_
  intro p e s m below meth c hx hb hr hml hlocks hown hts hK hsz hw ls hl
  have hown : s.vm.findClass RX4 = some m.cls := hown
  have hAw : ∀ z, Aw α n s.heap.size z → Aw α n sz z := by rw [hsz]; exact fun _ h => h
  have hl : lv_has ls 2 [(0, .ref (α 11)), (1, .ref (α 74))] := hl
  refine lv_aload_n hx hb dX4_remember_0 rfl (lv_at hl 0 rfl) ?_
  refine x_get (v := .ref (α 12)) (C := RX4) (T := TX4) (N := 3) hx hb hts (fun _ h => List.mem_cons_of_mem _ (List.mem_append_left _ (List.mem_append_right _ h))) hown hK hw 11 (Nat.lt_of_lt_of_le (Nat.le_of_ble_eq_true rfl : 11 < 191) hn) (mk_11 cA α) rfl 2 (by decide) (hts _ (List.mem_of_getElem? (i := 1) rfl)) (fun _ h9 => h9) rfl dX4_remember_1 ?_
  refine lv_aload_n hx hb dX4_remember_4 rfl (lv_at hl 0 rfl) ?_
  refine x_get (v := .int (S.1 11 1)) (C := RX4) (T := TX4) (N := 3) hx hb hts (fun _ h => List.mem_cons_of_mem _ (List.mem_append_left _ (List.mem_append_right _ h))) hown hK hw 11 (Nat.lt_of_lt_of_le (Nat.le_of_ble_eq_true rfl : 11 < 191) hn) (mk_11 cA α) rfl 1 (by decide) (hts _ (List.mem_of_getElem? (i := 2) rfl)) (fun _ h9 => h9) rfl dX4_remember_5 ?_
  refine x_topN (k := t) ht ?_
  refine x_aald (C := "IntercompanyLedger$Standing") (h := (fun j => α (83 + 9 * j))) hx hb hK hw 12 10 5 (Nat.lt_of_lt_of_le (Nat.le_of_ble_eq_true rfl : 12 < 191) hn) (mk_12 cA α) rfl t rfl (by omega) (by decide) dX4_remember_8 ?_
  refine W.eq (g2 := F0 m 9 ls (.ref (α (74 + 9 * (t + 1))) :: [])) (by rw [show 83 + 9 * t = 74 + 9 * (t + 1) by omega]) ?_
  refine lv_aload_n hx hb dX4_remember_9 rfl (lv_at hl 1 rfl) ?_
  refine x_callVV (q := (74 + 9 * (t + 1))) (C := RX9) (As := [.ref (α (74 + 9 * 0))]) (rest := []) ⟨hx, hb, hml, hown, hts⟩ (ct_X9_copyFrom l D cA α n _ hn S (t + 1) 0 K M (by omega) (by omega) (by omega) hK1 hKb hM1 hMb) (cwV 1 hts gX4_remember_X9_copyFrom rfl rfl rfl (by decide +kernel) ⟨Nat.le_of_ble_eq_true rfl, Nat.le_of_ble_eq_true rfl⟩) hK hw hAw (ws_recv hK hw (q := (74 + 9 * (t + 1))) (by have := (by omega : t + 1 < 13); omega) (mkS_0 cA α (i := (t + 1)) (by omega : t + 1 < 13)) rfl) rfl hl.1 rfl (Nat.le_of_ble_eq_true rfl) dX4_remember_10 ⟨Nat.zero_le _, Nat.zero_le _⟩ (fun S1 eS1 H locs hw => ?_)
  refine lv_aload_n hx hb dX4_remember_13 rfl (lv_at hl 0 rfl) ?_
  refine lv_aload_n hx hb dX4_remember_14 rfl (lv_at hl 0 rfl) ?_
  refine x_get (v := .int (S1.1 11 1)) (C := RX4) (T := TX4) (N := 3) hx hb hts (fun _ h => List.mem_cons_of_mem _ (List.mem_append_left _ (List.mem_append_right _ h))) hown hK hw 11 (Nat.lt_of_lt_of_le (Nat.le_of_ble_eq_true rfl : 11 < 191) hn) (mk_11 cA α) rfl 1 (by decide) (hts _ (List.mem_of_getElem? (i := 2) rfl)) (fun _ h9 => h9) rfl dX4_remember_15 ?_
  refine x_topN (k := t) (by rw [eS1]; exact (congrFun (cpSt_agr S (t + 1) 0 K M 11 (by omega)).1 1).trans ht) ?_
  refine lv_bipush (v := nI 9) hx hb dX4_remember_18 (by decide) ?_
  refine xn_icmp_ne (tgt := 27) hx hb (by omega) (by decide) dX4_remember_20 (by decide) (fun c1 => ?_) (fun c1 => ?_)
  · skip
    refine lv_aload_n hx hb dX4_remember_27 rfl (lv_at hl 0 rfl) ?_
    refine x_get (v := .int (S1.1 11 1)) (C := RX4) (T := TX4) (N := 3) hx hb hts (fun _ h => List.mem_cons_of_mem _ (List.mem_append_left _ (List.mem_append_right _ h))) hown hK hw 11 (Nat.lt_of_lt_of_le (Nat.le_of_ble_eq_true rfl : 11 < 191) hn) (mk_11 cA α) rfl 1 (by decide) (hts _ (List.mem_of_getElem? (i := 2) rfl)) (fun _ h9 => h9) rfl dX4_remember_28 ?_
    refine x_topN (k := t) (by rw [eS1]; exact (congrFun (cpSt_agr S (t + 1) 0 K M 11 (by omega)).1 1).trans ht) ?_
    refine lv_iconst (v := nI 1) hx hb dX4_remember_31 (by decide) ?_
    refine xn_iadd hx hb dX4_remember_32 ?_
    refine x_putI (x := nI (t + 1)) (ty := .int) (C := RX4) (T := TX4) (N := 3) hx hb hts (fun _ h => List.mem_cons_of_mem _ (List.mem_append_left _ (List.mem_append_right _ h))) tyX4 tyX4_ok nmX4 hown hK hw 11 (Nat.lt_of_lt_of_le (Nat.le_of_ble_eq_true rfl : 11 < 191) hn) (mk_11 cA α) rfl 1 (by decide) (hts _ (List.mem_of_getElem? (i := 2) rfl)) (fun _ h9 => h9) rfl rfl rfl rfl (Nat.le_of_ble_eq_true rfl) rfl dX4_remember_33 (fun S2 eS2 H locs hw => ?_)
    refine lv_aload_n hx hb dX4_remember_36 rfl (lv_at hl 0 rfl) ?_
    refine lv_aload_n hx hb dX4_remember_37 rfl (lv_at hl 0 rfl) ?_
    refine x_get (v := .int (S2.1 11 0)) (C := RX4) (T := TX4) (N := 3) hx hb hts (fun _ h => List.mem_cons_of_mem _ (List.mem_append_left _ (List.mem_append_right _ h))) hown hK hw 11 (Nat.lt_of_lt_of_le (Nat.le_of_ble_eq_true rfl : 11 < 191) hn) (mk_11 cA α) rfl 0 (by decide) (hts _ (List.mem_of_getElem? (i := 3) rfl)) (fun _ h9 => h9) rfl dX4_remember_38 ?_
    refine x_topN (k := k) (by subst eS2; subst eS1; exact (congrFun (cpSt_agr S (t + 1) 0 K M 11 (by omega)).1 0).trans hk) ?_
    refine lv_iconst (v := nI 1) hx hb dX4_remember_41 (by decide) ?_
    refine xn_iadd hx hb dX4_remember_42 ?_
    refine lv_bipush (v := nI 10) hx hb dX4_remember_43 (by decide) ?_
    refine va_mmin hx hb (hml.trans hl.1.symm) hown (hts _ (List.mem_of_getElem? (i := 4) rfl)) (hts _ (List.mem_of_getElem? (i := 5) rfl)) (hts _ (List.mem_of_getElem? (i := 6) rfl)) (hts _ (List.mem_of_getElem? (i := 7) rfl)) (by decide) (Nat.le_of_ble_eq_true rfl) (Nat.zero_le _) (Nat.zero_le _) dX4_remember_45 ?_
    refine x_topE (y := nI (if 10 < k + 1 then 10 else k + 1)) (mn_rem hk2) ?_
    refine x_putI (x := nI (if 10 < k + 1 then 10 else k + 1)) (ty := .int) (C := RX4) (T := TX4) (N := 3) hx hb hts (fun _ h => List.mem_cons_of_mem _ (List.mem_append_left _ (List.mem_append_right _ h))) tyX4 tyX4_ok nmX4 hown hK hw 11 (Nat.lt_of_lt_of_le (Nat.le_of_ble_eq_true rfl : 11 < 191) hn) (mk_11 cA α) rfl 0 (by decide) (hts _ (List.mem_of_getElem? (i := 3) rfl)) (fun _ h9 => h9) rfl rfl rfl rfl (Nat.le_of_ble_eq_true rfl) rfl dX4_remember_48 (fun S3 eS3 H locs hw => ?_)
    exact ret_v hx hb hr hlocks hK hw dX4_remember_51 (by subst eS3; subst eS2; subst eS1; simp only [cRem, nxt, if_neg c1, if_pos c1, decide_eq_false c1, if_true, if_false, reduceIte])
  · skip
    refine lv_iconst (v := nI 0) hx hb dX4_remember_23 (by decide) ?_
    refine lv_goto (tgt := 33) hx hb dX4_remember_24 (by decide) ?_
    refine x_putI (x := nI 0) (ty := .int) (C := RX4) (T := TX4) (N := 3) hx hb hts (fun _ h => List.mem_cons_of_mem _ (List.mem_append_left _ (List.mem_append_right _ h))) tyX4 tyX4_ok nmX4 hown hK hw 11 (Nat.lt_of_lt_of_le (Nat.le_of_ble_eq_true rfl : 11 < 191) hn) (mk_11 cA α) rfl 1 (by decide) (hts _ (List.mem_of_getElem? (i := 2) rfl)) (fun _ h9 => h9) rfl rfl rfl rfl (Nat.le_of_ble_eq_true rfl) rfl dX4_remember_33 (fun S4 eS4 H locs hw => ?_)
    refine lv_aload_n hx hb dX4_remember_36 rfl (lv_at hl 0 rfl) ?_
    refine lv_aload_n hx hb dX4_remember_37 rfl (lv_at hl 0 rfl) ?_
    refine x_get (v := .int (S4.1 11 0)) (C := RX4) (T := TX4) (N := 3) hx hb hts (fun _ h => List.mem_cons_of_mem _ (List.mem_append_left _ (List.mem_append_right _ h))) hown hK hw 11 (Nat.lt_of_lt_of_le (Nat.le_of_ble_eq_true rfl : 11 < 191) hn) (mk_11 cA α) rfl 0 (by decide) (hts _ (List.mem_of_getElem? (i := 3) rfl)) (fun _ h9 => h9) rfl dX4_remember_38 ?_
    refine x_topN (k := k) (by subst eS4; subst eS1; exact (congrFun (cpSt_agr S (t + 1) 0 K M 11 (by omega)).1 0).trans hk) ?_
    refine lv_iconst (v := nI 1) hx hb dX4_remember_41 (by decide) ?_
    refine xn_iadd hx hb dX4_remember_42 ?_
    refine lv_bipush (v := nI 10) hx hb dX4_remember_43 (by decide) ?_
    refine va_mmin hx hb (hml.trans hl.1.symm) hown (hts _ (List.mem_of_getElem? (i := 4) rfl)) (hts _ (List.mem_of_getElem? (i := 5) rfl)) (hts _ (List.mem_of_getElem? (i := 6) rfl)) (hts _ (List.mem_of_getElem? (i := 7) rfl)) (by decide) (Nat.le_of_ble_eq_true rfl) (Nat.zero_le _) (Nat.zero_le _) dX4_remember_45 ?_
    refine x_topE (y := nI (if 10 < k + 1 then 10 else k + 1)) (mn_rem hk2) ?_
    refine x_putI (x := nI (if 10 < k + 1 then 10 else k + 1)) (ty := .int) (C := RX4) (T := TX4) (N := 3) hx hb hts (fun _ h => List.mem_cons_of_mem _ (List.mem_append_left _ (List.mem_append_right _ h))) tyX4 tyX4_ok nmX4 hown hK hw 11 (Nat.lt_of_lt_of_le (Nat.le_of_ble_eq_true rfl : 11 < 191) hn) (mk_11 cA α) rfl 0 (by decide) (hts _ (List.mem_of_getElem? (i := 3) rfl)) (fun _ h9 => h9) rfl rfl rfl rfl (Nat.le_of_ble_eq_true rfl) rfl dX4_remember_48 (fun S5 eS5 H locs hw => ?_)
    exact ret_v hx hb hr hlocks hK hw dX4_remember_51 (by subst eS5; subst eS4; subst eS1; simp only [cRem, nxt, if_pos c1, if_neg (not_not_intro c1), decide_eq_true c1, if_true, if_false, reduceIte])

/-- going back: the place before t, one change less -/
def cBack (S : Mem) (t k K M : Nat) : Mem := cpSt (setI (setI S 11 1 (nI (prv t))) 11 0 (nI (k - 1))) 0 (prv t + 1) K M

set_option maxRecDepth 100000 in
set_option maxHeartbeats 1000000 in
theorem ct_X4_goBack (l : Launch) (D : va_G) (cA : Nat → ClassId) (α : Nat → Nat) (n sz : Nat) (hn : 191 ≤ n) (S : Mem) (t k K M : Nat) (ht : S.1 11 1 = nI t) (ht2 : t < 10) (hk : S.1 11 0 = nI k) (hk2 : k ≤ 10) (hk0 : 0 < k) (hK1 : S.1 (74 + 9 * (prv t + 1)) 0 = nI K) (hKb : K ≤ 100) (hM1 : S.1 (74 + 9 * (prv t + 1)) 1 = nI M) (hMb : M ≤ 100) : CtV l yX4_goBack wsX4_goBack ({ frames := 2, cells := 0, slots := 0, locals := 81 }) D cA α n sz [.ref (α 11), .ref (α 74)] S (cBack S t k K M) := by
  refine ct_enter cX4_goBack 2 none (by decide) rfl (Nat.le_of_ble_eq_true rfl) ?_
  intro p e s m below meth c hx hb hr hml hlocks hown hts hK hsz hw ls hl
  have hown : s.vm.findClass RX4 = some m.cls := hown
  have hAw : ∀ z, Aw α n s.heap.size z → Aw α n sz z := by rw [hsz]; exact fun _ h => h
  have hl : lv_has ls 2 [(0, .ref (α 11)), (1, .ref (α 74))] := hl
  have hp : prv t < 10 := by unfold prv; split <;> omega
  refine lv_aload_n hx hb dX4_goBack_0 rfl (lv_at hl 0 rfl) ?_
  refine lv_aload_n hx hb dX4_goBack_1 rfl (lv_at hl 0 rfl) ?_
  refine x_get (v := .int (S.1 11 1)) (C := RX4) (T := TX4) (N := 3) hx hb hts (fun _ h => List.mem_cons_of_mem _ (List.mem_append_left _ (List.mem_append_right _ h))) hown hK hw 11 (Nat.lt_of_lt_of_le (Nat.le_of_ble_eq_true rfl : 11 < 191) hn) (mk_11 cA α) rfl 1 (by decide) (hts _ (List.mem_of_getElem? (i := 1) rfl)) (fun _ h9 => h9) rfl dX4_goBack_2 ?_
  refine x_topN (k := t) ht ?_
  refine xn_if_ne (tgt := 13) hx hb (by omega) dX4_goBack_5 (by decide) (fun c1 => ?_) (fun c1 => ?_)
  · skip
    refine lv_aload_n hx hb dX4_goBack_13 rfl (lv_at hl 0 rfl) ?_
    refine x_get (v := .int (S.1 11 1)) (C := RX4) (T := TX4) (N := 3) hx hb hts (fun _ h => List.mem_cons_of_mem _ (List.mem_append_left _ (List.mem_append_right _ h))) hown hK hw 11 (Nat.lt_of_lt_of_le (Nat.le_of_ble_eq_true rfl : 11 < 191) hn) (mk_11 cA α) rfl 1 (by decide) (hts _ (List.mem_of_getElem? (i := 1) rfl)) (fun _ h9 => h9) rfl dX4_goBack_14 ?_
    refine x_topN (k := t) ht ?_
    refine lv_iconst (v := nI 1) hx hb dX4_goBack_17 (by decide) ?_
    refine xn_isub hx hb (by omega) dX4_goBack_18 ?_
    refine x_putI (x := nI (t - 1)) (ty := .int) (C := RX4) (T := TX4) (N := 3) hx hb hts (fun _ h => List.mem_cons_of_mem _ (List.mem_append_left _ (List.mem_append_right _ h))) tyX4 tyX4_ok nmX4 hown hK hw 11 (Nat.lt_of_lt_of_le (Nat.le_of_ble_eq_true rfl : 11 < 191) hn) (mk_11 cA α) rfl 1 (by decide) (hts _ (List.mem_of_getElem? (i := 1) rfl)) (fun _ h9 => h9) rfl rfl rfl rfl (Nat.le_of_ble_eq_true rfl) rfl dX4_goBack_19 (fun S1 eS1 H locs hw => ?_)
    refine lv_aload_n hx hb dX4_goBack_22 rfl (lv_at hl 0 rfl) ?_
    refine lv_dup hx hb dX4_goBack_23 rfl ?_
    refine x_get (v := .int (S1.1 11 0)) (C := RX4) (T := TX4) (N := 3) hx hb hts (fun _ h => List.mem_cons_of_mem _ (List.mem_append_left _ (List.mem_append_right _ h))) hown hK hw 11 (Nat.lt_of_lt_of_le (Nat.le_of_ble_eq_true rfl : 11 < 191) hn) (mk_11 cA α) rfl 0 (by decide) (hts _ (List.mem_of_getElem? (i := 2) rfl)) (fun _ h9 => h9) rfl dX4_goBack_24 ?_
    refine x_topN (k := k) (by subst eS1; exact hk) ?_
    refine lv_iconst (v := nI 1) hx hb dX4_goBack_27 (by decide) ?_
    refine xn_isub hx hb hk0 dX4_goBack_28 ?_
    refine x_putI (x := nI (k - 1)) (ty := .int) (C := RX4) (T := TX4) (N := 3) hx hb hts (fun _ h => List.mem_cons_of_mem _ (List.mem_append_left _ (List.mem_append_right _ h))) tyX4 tyX4_ok nmX4 hown hK hw 11 (Nat.lt_of_lt_of_le (Nat.le_of_ble_eq_true rfl : 11 < 191) hn) (mk_11 cA α) rfl 0 (by decide) (hts _ (List.mem_of_getElem? (i := 2) rfl)) (fun _ h9 => h9) rfl rfl rfl rfl (Nat.le_of_ble_eq_true rfl) rfl dX4_goBack_29 (fun S2 eS2 H locs hw => ?_)
    refine lv_aload_n hx hb dX4_goBack_32 rfl (lv_at hl 1 rfl) ?_
    refine lv_aload_n hx hb dX4_goBack_33 rfl (lv_at hl 0 rfl) ?_
    refine x_get (v := .ref (α 12)) (C := RX4) (T := TX4) (N := 3) hx hb hts (fun _ h => List.mem_cons_of_mem _ (List.mem_append_left _ (List.mem_append_right _ h))) hown hK hw 11 (Nat.lt_of_lt_of_le (Nat.le_of_ble_eq_true rfl : 11 < 191) hn) (mk_11 cA α) rfl 2 (by decide) (hts _ (List.mem_of_getElem? (i := 3) rfl)) (fun _ h9 => h9) rfl dX4_goBack_34 ?_
    refine lv_aload_n hx hb dX4_goBack_37 rfl (lv_at hl 0 rfl) ?_
    refine x_get (v := .int (S2.1 11 1)) (C := RX4) (T := TX4) (N := 3) hx hb hts (fun _ h => List.mem_cons_of_mem _ (List.mem_append_left _ (List.mem_append_right _ h))) hown hK hw 11 (Nat.lt_of_lt_of_le (Nat.le_of_ble_eq_true rfl : 11 < 191) hn) (mk_11 cA α) rfl 1 (by decide) (hts _ (List.mem_of_getElem? (i := 1) rfl)) (fun _ h9 => h9) rfl dX4_goBack_38 ?_
    refine x_topN (k := prv t) (by subst eS2; subst eS1; simp [sI_e, upd, prv, c1]) ?_
    refine x_aald (C := "IntercompanyLedger$Standing") (h := (fun j => α (83 + 9 * j))) hx hb hK hw 12 10 5 (Nat.lt_of_lt_of_le (Nat.le_of_ble_eq_true rfl : 12 < 191) hn) (mk_12 cA α) rfl (prv t) rfl (by omega) (by decide) dX4_goBack_41 ?_
    refine W.eq (g2 := F0 m 42 ls (.ref (α (74 + 9 * (prv t + 1))) :: [.ref (α 74)])) (by rw [show 83 + 9 * (prv t) = 74 + 9 * (prv t + 1) by omega]) ?_
    refine x_callVV (q := 74) (C := RX9) (As := [.ref (α (74 + 9 * (prv t + 1)))]) (rest := []) ⟨hx, hb, hml, hown, hts⟩ (ct_X9_copyFrom l D cA α n _ hn S2 0 (prv t + 1) K M (by omega) (by omega) (by omega) (by subst eS2; subst eS1; rw [sI_1 (by omega), sI_1 (by omega)]; exact hK1) hKb (by subst eS2; subst eS1; rw [sI_1 (by omega), sI_1 (by omega)]; exact hM1) hMb) (cwV 1 hts gX4_goBack_X9_copyFrom rfl rfl rfl (by decide +kernel) ⟨Nat.le_of_ble_eq_true rfl, Nat.le_of_ble_eq_true rfl⟩) hK hw hAw (ws_recv hK hw (q := 74) (Nat.lt_of_lt_of_le (Nat.le_of_ble_eq_true rfl : 74 < 191) hn) (mk_74 cA α) rfl) rfl hl.1 rfl (Nat.le_of_ble_eq_true rfl) dX4_goBack_42 ⟨Nat.zero_le _, Nat.zero_le _⟩ (fun S3 eS3 H locs hw => ?_)
    exact ret_v hx hb hr hlocks hK hw dX4_goBack_45 (by subst eS3; subst eS2; subst eS1; simp only [cBack, prv, if_neg c1, if_pos c1, decide_eq_false c1, if_true, if_false, reduceIte])
  · skip
    refine lv_bipush (v := nI 9) hx hb dX4_goBack_8 (by decide) ?_
    refine lv_goto (tgt := 19) hx hb dX4_goBack_10 (by decide) ?_
    refine x_putI (x := nI 9) (ty := .int) (C := RX4) (T := TX4) (N := 3) hx hb hts (fun _ h => List.mem_cons_of_mem _ (List.mem_append_left _ (List.mem_append_right _ h))) tyX4 tyX4_ok nmX4 hown hK hw 11 (Nat.lt_of_lt_of_le (Nat.le_of_ble_eq_true rfl : 11 < 191) hn) (mk_11 cA α) rfl 1 (by decide) (hts _ (List.mem_of_getElem? (i := 1) rfl)) (fun _ h9 => h9) rfl rfl rfl rfl (Nat.le_of_ble_eq_true rfl) rfl dX4_goBack_19 (fun S4 eS4 H locs hw => ?_)
    refine lv_aload_n hx hb dX4_goBack_22 rfl (lv_at hl 0 rfl) ?_
    refine lv_dup hx hb dX4_goBack_23 rfl ?_
    refine x_get (v := .int (S4.1 11 0)) (C := RX4) (T := TX4) (N := 3) hx hb hts (fun _ h => List.mem_cons_of_mem _ (List.mem_append_left _ (List.mem_append_right _ h))) hown hK hw 11 (Nat.lt_of_lt_of_le (Nat.le_of_ble_eq_true rfl : 11 < 191) hn) (mk_11 cA α) rfl 0 (by decide) (hts _ (List.mem_of_getElem? (i := 2) rfl)) (fun _ h9 => h9) rfl dX4_goBack_24 ?_
    refine x_topN (k := k) (by subst eS4; exact hk) ?_
    refine lv_iconst (v := nI 1) hx hb dX4_goBack_27 (by decide) ?_
    refine xn_isub hx hb hk0 dX4_goBack_28 ?_
    refine x_putI (x := nI (k - 1)) (ty := .int) (C := RX4) (T := TX4) (N := 3) hx hb hts (fun _ h => List.mem_cons_of_mem _ (List.mem_append_left _ (List.mem_append_right _ h))) tyX4 tyX4_ok nmX4 hown hK hw 11 (Nat.lt_of_lt_of_le (Nat.le_of_ble_eq_true rfl : 11 < 191) hn) (mk_11 cA α) rfl 0 (by decide) (hts _ (List.mem_of_getElem? (i := 2) rfl)) (fun _ h9 => h9) rfl rfl rfl rfl (Nat.le_of_ble_eq_true rfl) rfl dX4_goBack_29 (fun S5 eS5 H locs hw => ?_)
    refine lv_aload_n hx hb dX4_goBack_32 rfl (lv_at hl 1 rfl) ?_
    refine lv_aload_n hx hb dX4_goBack_33 rfl (lv_at hl 0 rfl) ?_
    refine x_get (v := .ref (α 12)) (C := RX4) (T := TX4) (N := 3) hx hb hts (fun _ h => List.mem_cons_of_mem _ (List.mem_append_left _ (List.mem_append_right _ h))) hown hK hw 11 (Nat.lt_of_lt_of_le (Nat.le_of_ble_eq_true rfl : 11 < 191) hn) (mk_11 cA α) rfl 2 (by decide) (hts _ (List.mem_of_getElem? (i := 3) rfl)) (fun _ h9 => h9) rfl dX4_goBack_34 ?_
    refine lv_aload_n hx hb dX4_goBack_37 rfl (lv_at hl 0 rfl) ?_
    refine x_get (v := .int (S5.1 11 1)) (C := RX4) (T := TX4) (N := 3) hx hb hts (fun _ h => List.mem_cons_of_mem _ (List.mem_append_left _ (List.mem_append_right _ h))) hown hK hw 11 (Nat.lt_of_lt_of_le (Nat.le_of_ble_eq_true rfl : 11 < 191) hn) (mk_11 cA α) rfl 1 (by decide) (hts _ (List.mem_of_getElem? (i := 1) rfl)) (fun _ h9 => h9) rfl dX4_goBack_38 ?_
    refine x_topN (k := prv t) (by subst eS5; subst eS4; simp [sI_e, upd, prv, c1]) ?_
    refine x_aald (C := "IntercompanyLedger$Standing") (h := (fun j => α (83 + 9 * j))) hx hb hK hw 12 10 5 (Nat.lt_of_lt_of_le (Nat.le_of_ble_eq_true rfl : 12 < 191) hn) (mk_12 cA α) rfl (prv t) rfl (by omega) (by decide) dX4_goBack_41 ?_
    refine W.eq (g2 := F0 m 42 ls (.ref (α (74 + 9 * (prv t + 1))) :: [.ref (α 74)])) (by rw [show 83 + 9 * (prv t) = 74 + 9 * (prv t + 1) by omega]) ?_
    refine x_callVV (q := 74) (C := RX9) (As := [.ref (α (74 + 9 * (prv t + 1)))]) (rest := []) ⟨hx, hb, hml, hown, hts⟩ (ct_X9_copyFrom l D cA α n _ hn S5 0 (prv t + 1) K M (by omega) (by omega) (by omega) (by subst eS5; subst eS4; rw [sI_1 (by omega), sI_1 (by omega)]; exact hK1) hKb (by subst eS5; subst eS4; rw [sI_1 (by omega), sI_1 (by omega)]; exact hM1) hMb) (cwV 1 hts gX4_goBack_X9_copyFrom rfl rfl rfl (by decide +kernel) ⟨Nat.le_of_ble_eq_true rfl, Nat.le_of_ble_eq_true rfl⟩) hK hw hAw (ws_recv hK hw (q := 74) (Nat.lt_of_lt_of_le (Nat.le_of_ble_eq_true rfl : 74 < 191) hn) (mk_74 cA α) rfl) rfl hl.1 rfl (Nat.le_of_ble_eq_true rfl) dX4_goBack_42 ⟨Nat.zero_le _, Nat.zero_le _⟩ (fun S6 eS6 H locs hw => ?_)
    exact ret_v hx hb hr hlocks hK hw dX4_goBack_45 (by subst eS6; subst eS5; subst eS4; simp only [cBack, prv, if_pos c1, if_neg (not_not_intro c1), decide_eq_true c1, if_true, if_false, reduceIte])

set_option maxRecDepth 100000 in
set_option maxHeartbeats 1000000 in
theorem ct_X4_forget (l : Launch) (D : va_G) (cA : Nat → ClassId) (α : Nat → Nat) (n sz : Nat) (hn : 191 ≤ n) (S : Mem)  : CtV l yX4_forget wsX4_forget ({ frames := 0, cells := 0, slots := 0, locals := 0 }) D cA α n sz [.ref (α 11)] S (setI S 11 0 (nI 0)) := by
  refine ct_enter cX4_forget 1 none (by decide) rfl (Nat.le_of_ble_eq_true rfl) ?_
  intro p e s m below meth c hx hb hr hml hlocks hown hts hK hsz hw ls hl
  have hown : s.vm.findClass RX4 = some m.cls := hown
  have hAw : ∀ z, Aw α n s.heap.size z → Aw α n sz z := by rw [hsz]; exact fun _ h => h
  have hl : lv_has ls 1 [(0, .ref (α 11))] := hl
  refine lv_aload_n hx hb dX4_forget_0 rfl (lv_at hl 0 rfl) ?_
  refine lv_iconst (v := nI 0) hx hb dX4_forget_1 (by decide) ?_
  refine x_putI (x := nI 0) (ty := .int) (C := RX4) (T := TX4) (N := 3) hx hb hts (fun _ h => List.mem_cons_of_mem _ (List.mem_append_right _ h)) tyX4 tyX4_ok nmX4 hown hK hw 11 (Nat.lt_of_lt_of_le (Nat.le_of_ble_eq_true rfl : 11 < 191) hn) (mk_11 cA α) rfl 0 (by decide) (hts _ (List.mem_of_getElem? (i := 1) rfl)) (fun _ h9 => h9) rfl rfl rfl rfl (Nat.le_of_ble_eq_true rfl) rfl dX4_forget_2 (fun S1 eS1 H locs hw => ?_)
  exact ret_v hx hb hr hlocks hK hw dX4_forget_5 (by subst_vars; rfl)
