/-! the reference: what changes it -/
def rKeep (S : Mem) (k : Nat) : Mem := if k = 10 then setI (cpBl (setI (rShf S 9) 30 17 (nI 9)) 34 35 0 36 37 9) 30 17 (nI 10) else setI (cpBl S 34 35 0 36 37 k) 30 17 (nI (k + 1))
theorem ct_X11_keepU (l : Launch) (D : va_G) (cA : Nat → ClassId) (α : Nat → Nat) (n sz : Nat) (hn : 191 ≤ n) (S : Mem) (k : Nat) (hk : S.1 30 17 = nI k) (hk2 : k ≤ 10) : CtV l yX11_keep wsX11_keep ({ frames := 1, cells := 0, slots := 0, locals := 26 }) D cA α n sz [.ref (α 30)] S (rKeep S k) := by
  unfold rKeep
  by_cases h : k = 10
  · rw [if_pos h]
    exact ct_X11_keepF l D cA α n sz hn S (by rw [hk, h])
  · rw [if_neg h]
    exact ct_X11_keep l D cA α n sz hn S k hk (by omega)
theorem rKeep_1 (S : Mem) (k : Nat) {z : Nat} (h : z ≠ 36) (h2 : z ≠ 30) : (rKeep S k).1 z = S.1 z := by
  unfold rKeep
  split
  · rw [sI_1 h2, cpBl_1 _ _ _ _ _ _ _ h, sI_1 h2, rShf_1 S h]
  · rw [sI_1 h2, cpBl_1 _ _ _ _ _ _ _ h]
theorem rKeep_2 (S : Mem) (k : Nat) {z : Nat} (h : z ≠ 37) : (rKeep S k).2 z = S.2 z := by
  unfold rKeep
  split
  · rw [sI_2, cpBl_2 _ _ _ _ _ _ _ h, sI_2, rShf_2 S h]
  · rw [sI_2, cpBl_2 _ _ _ _ _ _ _ h]
theorem rKeep_30 (S : Mem) (k : Nat) {j : Nat} (h : j ≠ 17) : (rKeep S k).1 30 j = S.1 30 j := by
  unfold rKeep
  split
  · rw [sI_e, pk_un h, cpBl_1 _ _ _ _ _ _ _ (by decide), sI_e, pk_un h, rShf_1 S (by decide)]
  · rw [sI_e, pk_un h, cpBl_1 _ _ _ _ _ _ _ (by decide)]
theorem rKeep_d (S : Mem) (k : Nat) : (rKeep S k).1 30 17 = nI (if k = 10 then 10 else k + 1) := by
  unfold rKeep
  split
  · rw [sI_e, pk_us]
  · rw [sI_e, pk_us]
theorem okR_of {S T : Mem} {j : Nat} (h : okR S j) (e1 : T.1 34 = S.1 34) (e2 : T.1 33 = S.1 33) : okR T j := by
  unfold okR; rw [e1, e2]; exact h
theorem rVal_of {S T : Mem} {j : Nat} (e1 : T.1 34 = S.1 34) (e2 : T.1 33 = S.1 33) (e3 : T.2 35 = S.2 35) : rVal T j = rVal S j := by
  unfold rVal rRate; rw [e1, e2, e3]
/-- no throw, the history kept -/
abbrev K0 (S : Mem) (k : Nat) : Mem := rKeep (setI S 30 0 (nI 0)) k
theorem K0_34 (S : Mem) (k : Nat) : (K0 S k).1 34 = S.1 34 := rKeep_1 _ _ (by decide) (by decide)
theorem K0_33 (S : Mem) (k : Nat) : (K0 S k).1 33 = S.1 33 := rKeep_1 _ _ (by decide) (by decide)
theorem K0_41 (S : Mem) (k : Nat) : (K0 S k).1 41 = S.1 41 := rKeep_1 _ _ (by decide) (by decide)
theorem K0_35 (S : Mem) (k : Nat) : (K0 S k).2 35 = S.2 35 := rKeep_2 _ _ (by decide)


theorem w2t {i a b : Nat} (h1 : a ≤ i) (h2 : i ≤ b) (ha : a < 999999999) (hb : b < 999999999) : wiL (nI i).toInt64 (nI a).toInt64 (nI b).toInt64 = true := (wi2_iff (by omega) (by omega)).mpr ⟨i, h1, h2, rfl⟩
theorem w2f {x : Int32} {a b : Nat} (h : ¬ ∃ i, a ≤ i ∧ i ≤ b ∧ x = nI i) (ha : a < 999999999) (hb : b < 999999999) : wiL x.toInt64 (nI a).toInt64 (nI b).toInt64 = false := by
  cases q : wiL x.toInt64 (nI a).toInt64 (nI b).toInt64 with
  | false => rfl
  | true => exact absurd ((wi2_iff (by omega) (by omega)).mp q) h

set_option maxRecDepth 100000 in
set_option maxHeartbeats 1000000 in
theorem ct_X11_setTolerance (l : Launch) (D : va_G) (cA : Nat → ClassId) (α : Nat → Nat) (n sz : Nat) (hn : 191 ≤ n) (S : Mem) (t : Nat) (ht : t ≤ 1000000) (k : Nat) (hk : S.1 30 17 = nI k) (hk2 : k ≤ 10) : CtI l yX11_setTolerance wsX11_setTolerance ({ frames := 2, cells := 0, slots := 0, locals := 47 }) D cA α n sz [.ref (α 30), .int (nI t)] S (S.1 34 3) (setI (K0 S k) 34 3 (nI t)) := by
  refine ct_enter cX11_setTolerance 3 (some .int) (by decide) rfl (Nat.le_of_ble_eq_true rfl) ?_
  intro p e s m below meth c hx hb hr hml hlocks hown hts hK hsz hw ls hl
  have hown : s.vm.findClass RX11 = some m.cls := hown
  have hAw : ∀ z, Aw α n s.heap.size z → Aw α n sz z := by rw [hsz]; exact fun _ h => h
  have hl : lv_has ls 3 [(0, .ref (α 30)), (1, .int (nI t))] := hl
  refine lv_aload_n hx hb dX11_setTolerance_0 rfl (lv_at hl 0 rfl) ?_
  refine lv_iconst (v := nI 0) hx hb dX11_setTolerance_1 (by decide) ?_
  refine x_putI (x := nI 0) (ty := .int) (C := RX11) (T := TX11) (N := 24) hx hb hts (fun _ h => List.mem_cons_of_mem _ (List.mem_append_right _ h)) tyX11 tyX11_ok nmX11 hown hK hw 30 (Nat.lt_of_lt_of_le (Nat.le_of_ble_eq_true rfl : 30 < 191) hn) (mk_30 cA α) rfl 0 (by decide) (hts _ (List.mem_of_getElem? (i := 1) rfl)) (fun _ h9 => h9) rfl rfl rfl rfl (Nat.le_of_ble_eq_true rfl) rfl dX11_setTolerance_2 (fun S1 eS1 H locs hw => ?_)
  refine lv_iload_n hx hb dX11_setTolerance_5 rfl (lv_at hl 1 rfl) ?_
  refine lv_i2l hx hb dX11_setTolerance_6 rfl ?_
  refine lv_lconst (v := 0) hx hb dX11_setTolerance_7 (by decide) ?_
  refine lv_ldc2 (v := 1000000) hx hb hown (hts _ (List.mem_of_getElem? (i := 2) rfl)) dX11_setTolerance_8 ?_
  refine x_callSIr (q := 0) (C := RX0) (As := [.long ((nI t).toInt64), .long (0), .long (1000000)]) (rest := []) ⟨hx, hb, hml, hown, hts⟩ (ct_X11_within l D cA α n _ hn S1 ((nI t).toInt64) (0) (1000000)) (va_cwS 3 hts gX11_setTolerance_X11_within rfl rfl rfl (by decide +kernel) ⟨Nat.le_of_ble_eq_true rfl, Nat.le_of_ble_eq_true rfl⟩) hK hw hAw rfl hl.1 rfl (Nat.le_of_ble_eq_true rfl) dX11_setTolerance_11 ⟨Nat.zero_le _, Nat.zero_le _⟩ (fun H locs hw => ?_)
  refine xb_ne (b := (wiL ((nI t).toInt64) (0) (1000000))) (tgt := 23) hx hb dX11_setTolerance_14 (by decide) (fun c1 => ?_) (fun c1 => ?_)
  · skip
    refine lv_aload_n hx hb dX11_setTolerance_23 rfl (lv_at hl 0 rfl) ?_
    refine x_callVV (q := 30) (C := RX11) (As := []) (rest := []) ⟨hx, hb, hml, hown, hts⟩ (ct_X11_keepU l D cA α n _ hn S1 k (by subst eS1; exact hk) hk2) (cwV 0 hts gX11_setTolerance_X11_keep rfl rfl rfl (by decide +kernel) ⟨Nat.le_of_ble_eq_true rfl, Nat.le_of_ble_eq_true rfl⟩) hK hw hAw (ws_recv hK hw (q := 30) (Nat.lt_of_lt_of_le (Nat.le_of_ble_eq_true rfl : 30 < 191) hn) (mk_30 cA α) rfl) rfl hl.1 rfl (Nat.le_of_ble_eq_true rfl) dX11_setTolerance_24 ⟨Nat.zero_le _, Nat.zero_le _⟩ (fun S2 eS2 H locs hw => ?_)
    refine lv_aload_n hx hb dX11_setTolerance_27 rfl (lv_at hl 0 rfl) ?_
    refine x_get (v := .ref (α 34)) (C := RX11) (T := TX11) (N := 24) hx hb hts (fun _ h => List.mem_cons_of_mem _ (List.mem_append_right _ h)) hown hK hw 30 (Nat.lt_of_lt_of_le (Nat.le_of_ble_eq_true rfl : 30 < 191) hn) (mk_30 cA α) rfl 13 (by decide) (hts _ (List.mem_of_getElem? (i := 3) rfl)) (fun _ h9 => h9) rfl dX11_setTolerance_28 ?_
    refine lv_iconst (v := nI 3) hx hb dX11_setTolerance_31 (by decide) ?_
    refine x_iald hx hb hK hw 34 1508 (Nat.lt_of_lt_of_le (Nat.le_of_ble_eq_true rfl : 34 < 191) hn) (mk_34 cA α) 3 rfl (by decide) (by decide) dX11_setTolerance_32 ?_
    refine x_topE (y := S.1 34 3) (by subst eS2; subst eS1; exact congrFun (K0_34 S k) 3) ?_
    refine lv_istore_n (lv' := [(2, .int (S.1 34 3)), (0, .ref (α 30)), (1, .int (nI t))]) hx hb dX11_setTolerance_33 rfl hl (by decide) rfl (fun ls hl => ?_)
    refine lv_aload_n hx hb dX11_setTolerance_34 rfl (lv_at hl 1 rfl) ?_
    refine x_get (v := .ref (α 34)) (C := RX11) (T := TX11) (N := 24) hx hb hts (fun _ h => List.mem_cons_of_mem _ (List.mem_append_right _ h)) hown hK hw 30 (Nat.lt_of_lt_of_le (Nat.le_of_ble_eq_true rfl : 30 < 191) hn) (mk_30 cA α) rfl 13 (by decide) (hts _ (List.mem_of_getElem? (i := 3) rfl)) (fun _ h9 => h9) rfl dX11_setTolerance_35 ?_
    refine lv_iconst (v := nI 3) hx hb dX11_setTolerance_38 (by decide) ?_
    refine lv_iload_n hx hb dX11_setTolerance_39 rfl (lv_at hl 2 rfl) ?_
    refine x_iast (x := nI t) hx hb hK hw 34 1508 (Nat.lt_of_lt_of_le (Nat.le_of_ble_eq_true rfl : 34 < 191) hn) (mk_34 cA α) 3 rfl (by decide) (by decide) dX11_setTolerance_40 (fun S3 eS3 H locs hw => ?_)
    refine lv_iload_n hx hb dX11_setTolerance_41 rfl (lv_at hl 0 rfl) ?_
    exact ret_i hx hb hr hlocks hK hw dX11_setTolerance_42 rfl (by subst_vars; rfl)
  · exact absurd (show wiL (nI t).toInt64 0 1000000 = true from w2t (a := 0) (b := 1000000) (Nat.zero_le _) ht (by decide) (by decide)) (by rw [c1]; decide)

set_option maxRecDepth 100000 in
set_option maxHeartbeats 1000000 in
theorem ct_X11_setToleranceX (l : Launch) (D : va_G) (cA : Nat → ClassId) (α : Nat → Nat) (n sz : Nat) (hn : 191 ≤ n) (S : Mem) (x : Int32) (hx9 : ¬ ∃ i, 0 ≤ i ∧ i ≤ 1000000 ∧ x = nI i) : CtI l yX11_setTolerance wsX11_setTolerance ({ frames := 2, cells := 0, slots := 0, locals := 47 }) D cA α n sz [.ref (α 30), .int x] S (nI 0) (setI (setI S 30 0 (nI 0)) 30 0 (nI 1)) := by
  refine ct_enter cX11_setTolerance 3 (some .int) (by decide) rfl (Nat.le_of_ble_eq_true rfl) ?_
  intro p e s m below meth c hx hb hr hml hlocks hown hts hK hsz hw ls hl
  have hown : s.vm.findClass RX11 = some m.cls := hown
  have hAw : ∀ z, Aw α n s.heap.size z → Aw α n sz z := by rw [hsz]; exact fun _ h => h
  have hl : lv_has ls 3 [(0, .ref (α 30)), (1, .int x)] := hl
  refine lv_aload_n hx hb dX11_setTolerance_0 rfl (lv_at hl 0 rfl) ?_
  refine lv_iconst (v := nI 0) hx hb dX11_setTolerance_1 (by decide) ?_
  refine x_putI (x := nI 0) (ty := .int) (C := RX11) (T := TX11) (N := 24) hx hb hts (fun _ h => List.mem_cons_of_mem _ (List.mem_append_right _ h)) tyX11 tyX11_ok nmX11 hown hK hw 30 (Nat.lt_of_lt_of_le (Nat.le_of_ble_eq_true rfl : 30 < 191) hn) (mk_30 cA α) rfl 0 (by decide) (hts _ (List.mem_of_getElem? (i := 1) rfl)) (fun _ h9 => h9) rfl rfl rfl rfl (Nat.le_of_ble_eq_true rfl) rfl dX11_setTolerance_2 (fun S1 eS1 H locs hw => ?_)
  refine lv_iload_n hx hb dX11_setTolerance_5 rfl (lv_at hl 1 rfl) ?_
  refine lv_i2l hx hb dX11_setTolerance_6 rfl ?_
  refine lv_lconst (v := 0) hx hb dX11_setTolerance_7 (by decide) ?_
  refine lv_ldc2 (v := 1000000) hx hb hown (hts _ (List.mem_of_getElem? (i := 2) rfl)) dX11_setTolerance_8 ?_
  refine x_callSIr (q := 0) (C := RX0) (As := [.long (x.toInt64), .long (0), .long (1000000)]) (rest := []) ⟨hx, hb, hml, hown, hts⟩ (ct_X11_within l D cA α n _ hn S1 (x.toInt64) (0) (1000000)) (va_cwS 3 hts gX11_setTolerance_X11_within rfl rfl rfl (by decide +kernel) ⟨Nat.le_of_ble_eq_true rfl, Nat.le_of_ble_eq_true rfl⟩) hK hw hAw rfl hl.1 rfl (Nat.le_of_ble_eq_true rfl) dX11_setTolerance_11 ⟨Nat.zero_le _, Nat.zero_le _⟩ (fun H locs hw => ?_)
  refine xb_ne (b := (wiL (x.toInt64) (0) (1000000))) (tgt := 23) hx hb dX11_setTolerance_14 (by decide) (fun c1 => ?_) (fun c1 => ?_)
  · exact absurd (show wiL x.toInt64 0 1000000 = false from w2f (a := 0) (b := 1000000) hx9 (by decide) (by decide)) (by rw [c1]; decide)
  · skip
    refine lv_aload_n hx hb dX11_setTolerance_17 rfl (lv_at hl 0 rfl) ?_
    refine lv_iconst (v := nI 1) hx hb dX11_setTolerance_18 (by decide) ?_
    refine x_callVI (q := 30) (C := RX11) (As := [.int (nI 1)]) (rest := []) ⟨hx, hb, hml, hown, hts⟩ (ct_X11_fail l D cA α n _ hn S1 (nI 1)) (cwV 1 hts gX11_setTolerance_X11_fail rfl rfl rfl (by decide +kernel) ⟨Nat.le_of_ble_eq_true rfl, Nat.le_of_ble_eq_true rfl⟩) hK hw hAw (ws_recv hK hw (q := 30) (Nat.lt_of_lt_of_le (Nat.le_of_ble_eq_true rfl : 30 < 191) hn) (mk_30 cA α) rfl) rfl hl.1 rfl (Nat.le_of_ble_eq_true rfl) dX11_setTolerance_19 ⟨Nat.zero_le _, Nat.zero_le _⟩ (fun S2 eS2 H locs hw => ?_)
    exact ret_i hx hb hr hlocks hK hw dX11_setTolerance_22 rfl (by subst_vars; rfl)

set_option maxRecDepth 100000 in
set_option maxHeartbeats 1000000 in
theorem ct_X11_setRate (l : Launch) (D : va_G) (cA : Nat → ClassId) (α : Nat → Nat) (n sz : Nat) (hn : 191 ≤ n) (S : Mem) (Un : Nat) (hU : S.1 33 0 = nI Un) (hU2 : Un ≤ 4) (i : Nat) (hi : i < Un) (t : Nat) (ht1 : 1 ≤ t) (ht : t ≤ 9999) (k : Nat) (hk : S.1 30 17 = nI k) (hk2 : k ≤ 10) : CtI l yX11_setRate wsX11_setRate ({ frames := 2, cells := 0, slots := 0, locals := 47 }) D cA α n sz [.ref (α 30), .int (nI i), .int (nI t)] S (S.1 34 (4 + i)) (setI (K0 S k) 34 (4 + i) (nI t)) := by
  refine ct_enter cX11_setRate 4 (some .int) (by decide) rfl (Nat.le_of_ble_eq_true rfl) ?_
  intro p e s m below meth c hx hb hr hml hlocks hown hts hK hsz hw ls hl
  have hown : s.vm.findClass RX11 = some m.cls := hown
  have hAw : ∀ z, Aw α n s.heap.size z → Aw α n sz z := by rw [hsz]; exact fun _ h => h
  have hl : lv_has ls 4 [(0, .ref (α 30)), (1, .int (nI i)), (2, .int (nI t))] := hl
  refine lv_aload_n hx hb dX11_setRate_0 rfl (lv_at hl 0 rfl) ?_
  refine lv_iconst (v := nI 0) hx hb dX11_setRate_1 (by decide) ?_
  refine x_putI (x := nI 0) (ty := .int) (C := RX11) (T := TX11) (N := 24) hx hb hts (fun _ h => List.mem_cons_of_mem _ (List.mem_append_right _ h)) tyX11 tyX11_ok nmX11 hown hK hw 30 (Nat.lt_of_lt_of_le (Nat.le_of_ble_eq_true rfl : 30 < 191) hn) (mk_30 cA α) rfl 0 (by decide) (hts _ (List.mem_of_getElem? (i := 1) rfl)) (fun _ h9 => h9) rfl rfl rfl rfl (Nat.le_of_ble_eq_true rfl) rfl dX11_setRate_2 (fun S1 eS1 H locs hw => ?_)
  refine lv_iload_n hx hb dX11_setRate_5 rfl (lv_at hl 1 rfl) ?_
  refine lv_i2l hx hb dX11_setRate_6 rfl ?_
  refine lv_lconst (v := 0) hx hb dX11_setRate_7 (by decide) ?_
  refine lv_aload_n hx hb dX11_setRate_8 rfl (lv_at hl 0 rfl) ?_
  refine x_get (v := .ref (α 33)) (C := RX11) (T := TX11) (N := 24) hx hb hts (fun _ h => List.mem_cons_of_mem _ (List.mem_append_right _ h)) hown hK hw 30 (Nat.lt_of_lt_of_le (Nat.le_of_ble_eq_true rfl : 30 < 191) hn) (mk_30 cA α) rfl 11 (by decide) (hts _ (List.mem_of_getElem? (i := 2) rfl)) (fun _ h9 => h9) rfl dX11_setRate_9 ?_
  refine lv_iconst (v := nI 0) hx hb dX11_setRate_12 (by decide) ?_
  refine x_iald hx hb hK hw 33 40 (Nat.lt_of_lt_of_le (Nat.le_of_ble_eq_true rfl : 33 < 191) hn) (mk_33 cA α) 0 rfl (by decide) (by decide) dX11_setRate_13 ?_
  refine lv_iconst (v := nI 1) hx hb dX11_setRate_14 (by decide) ?_
  refine lv_isub hx hb dX11_setRate_15 ?_
  refine lv_i2l hx hb dX11_setRate_16 rfl ?_
  refine x_callSIr (q := 0) (C := RX0) (As := [.long ((nI i).toInt64), .long (0), .long (((S1.1 33 0) - (nI 1)).toInt64)]) (rest := []) ⟨hx, hb, hml, hown, hts⟩ (ct_X11_within l D cA α n _ hn S1 ((nI i).toInt64) (0) (((S1.1 33 0) - (nI 1)).toInt64)) (va_cwS 3 hts gX11_setRate_X11_within rfl rfl rfl (by decide +kernel) ⟨Nat.le_of_ble_eq_true rfl, Nat.le_of_ble_eq_true rfl⟩) hK hw hAw rfl hl.1 rfl (Nat.le_of_ble_eq_true rfl) dX11_setRate_17 ⟨Nat.zero_le _, Nat.zero_le _⟩ (fun H locs hw => ?_)
  refine xb_ne (b := (wiL ((nI i).toInt64) (0) (((S1.1 33 0) - (nI 1)).toInt64))) (tgt := 29) hx hb dX11_setRate_20 (by decide) (fun c1 => ?_) (fun c1 => ?_)
  · skip
    refine lv_iload_n hx hb dX11_setRate_29 rfl (lv_at hl 2 rfl) ?_
    refine lv_i2l hx hb dX11_setRate_30 rfl ?_
    refine lv_lconst (v := 1) hx hb dX11_setRate_31 (by decide) ?_
    refine lv_ldc2 (v := 9999) hx hb hown (hts _ (List.mem_of_getElem? (i := 3) rfl)) dX11_setRate_32 ?_
    refine x_callSIr (q := 0) (C := RX0) (As := [.long ((nI t).toInt64), .long (1), .long (9999)]) (rest := []) ⟨hx, hb, hml, hown, hts⟩ (ct_X11_within l D cA α n _ hn S1 ((nI t).toInt64) (1) (9999)) (va_cwS 3 hts gX11_setRate_X11_within rfl rfl rfl (by decide +kernel) ⟨Nat.le_of_ble_eq_true rfl, Nat.le_of_ble_eq_true rfl⟩) hK hw hAw rfl hl.1 rfl (Nat.le_of_ble_eq_true rfl) dX11_setRate_35 ⟨Nat.zero_le _, Nat.zero_le _⟩ (fun H locs hw => ?_)
    refine xb_ne (b := (wiL ((nI t).toInt64) (1) (9999))) (tgt := 47) hx hb dX11_setRate_38 (by decide) (fun c2 => ?_) (fun c2 => ?_)
    · skip
      refine lv_aload_n hx hb dX11_setRate_47 rfl (lv_at hl 0 rfl) ?_
      refine x_callVV (q := 30) (C := RX11) (As := []) (rest := []) ⟨hx, hb, hml, hown, hts⟩ (ct_X11_keepU l D cA α n _ hn S1 k (by subst eS1; exact hk) hk2) (cwV 0 hts gX11_setRate_X11_keep rfl rfl rfl (by decide +kernel) ⟨Nat.le_of_ble_eq_true rfl, Nat.le_of_ble_eq_true rfl⟩) hK hw hAw (ws_recv hK hw (q := 30) (Nat.lt_of_lt_of_le (Nat.le_of_ble_eq_true rfl : 30 < 191) hn) (mk_30 cA α) rfl) rfl hl.1 rfl (Nat.le_of_ble_eq_true rfl) dX11_setRate_48 ⟨Nat.zero_le _, Nat.zero_le _⟩ (fun S2 eS2 H locs hw => ?_)
      refine lv_aload_n hx hb dX11_setRate_51 rfl (lv_at hl 0 rfl) ?_
      refine x_get (v := .ref (α 34)) (C := RX11) (T := TX11) (N := 24) hx hb hts (fun _ h => List.mem_cons_of_mem _ (List.mem_append_right _ h)) hown hK hw 30 (Nat.lt_of_lt_of_le (Nat.le_of_ble_eq_true rfl : 30 < 191) hn) (mk_30 cA α) rfl 13 (by decide) (hts _ (List.mem_of_getElem? (i := 4) rfl)) (fun _ h9 => h9) rfl dX11_setRate_52 ?_
      refine lv_iconst (v := nI 4) hx hb dX11_setRate_55 (by decide) ?_
      refine lv_iload_n hx hb dX11_setRate_56 rfl (lv_at hl 1 rfl) ?_
      refine xn_iadd hx hb dX11_setRate_57 ?_
      refine x_iald hx hb hK hw 34 1508 (Nat.lt_of_lt_of_le (Nat.le_of_ble_eq_true rfl : 34 < 191) hn) (mk_34 cA α) (4 + i) rfl (by omega) (by decide) dX11_setRate_58 ?_
      refine x_topE (y := S.1 34 (4 + i)) (by subst eS2; subst eS1; exact congrFun (K0_34 S k) _) ?_
      refine lv_istore_n (lv' := [(3, .int (S.1 34 (4 + i))), (0, .ref (α 30)), (1, .int (nI i)), (2, .int (nI t))]) hx hb dX11_setRate_59 rfl hl (by decide) rfl (fun ls hl => ?_)
      refine lv_aload_n hx hb dX11_setRate_60 rfl (lv_at hl 1 rfl) ?_
      refine x_get (v := .ref (α 34)) (C := RX11) (T := TX11) (N := 24) hx hb hts (fun _ h => List.mem_cons_of_mem _ (List.mem_append_right _ h)) hown hK hw 30 (Nat.lt_of_lt_of_le (Nat.le_of_ble_eq_true rfl : 30 < 191) hn) (mk_30 cA α) rfl 13 (by decide) (hts _ (List.mem_of_getElem? (i := 4) rfl)) (fun _ h9 => h9) rfl dX11_setRate_61 ?_
      refine lv_iconst (v := nI 4) hx hb dX11_setRate_64 (by decide) ?_
      refine lv_iload_n hx hb dX11_setRate_65 rfl (lv_at hl 2 rfl) ?_
      refine xn_iadd hx hb dX11_setRate_66 ?_
      refine lv_iload_n hx hb dX11_setRate_67 rfl (lv_at hl 3 rfl) ?_
      refine x_iast (x := nI t) hx hb hK hw 34 1508 (Nat.lt_of_lt_of_le (Nat.le_of_ble_eq_true rfl : 34 < 191) hn) (mk_34 cA α) (4 + i) rfl (by omega) (by decide) dX11_setRate_68 (fun S3 eS3 H locs hw => ?_)
      refine lv_iload_n hx hb dX11_setRate_69 rfl (lv_at hl 0 rfl) ?_
      exact ret_i hx hb hr hlocks hK hw dX11_setRate_70 rfl (by subst_vars; rfl)
    · exact absurd (show wiL (nI t).toInt64 1 9999 = true from w2t (a := 1) (b := 9999) ht1 ht (by decide) (by decide)) (by rw [c2]; decide)
  · exact absurd (show wiL (nI i).toInt64 0 (S1.1 33 0 - nI 1).toInt64 = true by rw [show S1.1 33 0 = nI Un by subst eS1; exact hU]; exact wi_t hi (by omega)) (by rw [c1]; decide)

set_option maxRecDepth 100000 in
set_option maxHeartbeats 1000000 in
theorem ct_X11_setRateX (l : Launch) (D : va_G) (cA : Nat → ClassId) (α : Nat → Nat) (n sz : Nat) (hn : 191 ≤ n) (S : Mem) (Un : Nat) (hU : S.1 33 0 = nI Un) (hU2 : Un ≤ 4) (x y : Int32) (hx9 : ¬ ∃ i, i < Un ∧ x = nI i) : CtI l yX11_setRate wsX11_setRate ({ frames := 2, cells := 0, slots := 0, locals := 47 }) D cA α n sz [.ref (α 30), .int x, .int y] S (nI 0) (setI (setI S 30 0 (nI 0)) 30 0 (nI 1)) := by
  refine ct_enter cX11_setRate 4 (some .int) (by decide) rfl (Nat.le_of_ble_eq_true rfl) ?_
  intro p e s m below meth c hx hb hr hml hlocks hown hts hK hsz hw ls hl
  have hown : s.vm.findClass RX11 = some m.cls := hown
  have hAw : ∀ z, Aw α n s.heap.size z → Aw α n sz z := by rw [hsz]; exact fun _ h => h
  have hl : lv_has ls 4 [(0, .ref (α 30)), (1, .int x), (2, .int y)] := hl
  refine lv_aload_n hx hb dX11_setRate_0 rfl (lv_at hl 0 rfl) ?_
  refine lv_iconst (v := nI 0) hx hb dX11_setRate_1 (by decide) ?_
  refine x_putI (x := nI 0) (ty := .int) (C := RX11) (T := TX11) (N := 24) hx hb hts (fun _ h => List.mem_cons_of_mem _ (List.mem_append_right _ h)) tyX11 tyX11_ok nmX11 hown hK hw 30 (Nat.lt_of_lt_of_le (Nat.le_of_ble_eq_true rfl : 30 < 191) hn) (mk_30 cA α) rfl 0 (by decide) (hts _ (List.mem_of_getElem? (i := 1) rfl)) (fun _ h9 => h9) rfl rfl rfl rfl (Nat.le_of_ble_eq_true rfl) rfl dX11_setRate_2 (fun S1 eS1 H locs hw => ?_)
  refine lv_iload_n hx hb dX11_setRate_5 rfl (lv_at hl 1 rfl) ?_
  refine lv_i2l hx hb dX11_setRate_6 rfl ?_
  refine lv_lconst (v := 0) hx hb dX11_setRate_7 (by decide) ?_
  refine lv_aload_n hx hb dX11_setRate_8 rfl (lv_at hl 0 rfl) ?_
  refine x_get (v := .ref (α 33)) (C := RX11) (T := TX11) (N := 24) hx hb hts (fun _ h => List.mem_cons_of_mem _ (List.mem_append_right _ h)) hown hK hw 30 (Nat.lt_of_lt_of_le (Nat.le_of_ble_eq_true rfl : 30 < 191) hn) (mk_30 cA α) rfl 11 (by decide) (hts _ (List.mem_of_getElem? (i := 2) rfl)) (fun _ h9 => h9) rfl dX11_setRate_9 ?_
  refine lv_iconst (v := nI 0) hx hb dX11_setRate_12 (by decide) ?_
  refine x_iald hx hb hK hw 33 40 (Nat.lt_of_lt_of_le (Nat.le_of_ble_eq_true rfl : 33 < 191) hn) (mk_33 cA α) 0 rfl (by decide) (by decide) dX11_setRate_13 ?_
  refine lv_iconst (v := nI 1) hx hb dX11_setRate_14 (by decide) ?_
  refine lv_isub hx hb dX11_setRate_15 ?_
  refine lv_i2l hx hb dX11_setRate_16 rfl ?_
  refine x_callSIr (q := 0) (C := RX0) (As := [.long (x.toInt64), .long (0), .long (((S1.1 33 0) - (nI 1)).toInt64)]) (rest := []) ⟨hx, hb, hml, hown, hts⟩ (ct_X11_within l D cA α n _ hn S1 (x.toInt64) (0) (((S1.1 33 0) - (nI 1)).toInt64)) (va_cwS 3 hts gX11_setRate_X11_within rfl rfl rfl (by decide +kernel) ⟨Nat.le_of_ble_eq_true rfl, Nat.le_of_ble_eq_true rfl⟩) hK hw hAw rfl hl.1 rfl (Nat.le_of_ble_eq_true rfl) dX11_setRate_17 ⟨Nat.zero_le _, Nat.zero_le _⟩ (fun H locs hw => ?_)
  refine xb_ne (b := (wiL (x.toInt64) (0) (((S1.1 33 0) - (nI 1)).toInt64))) (tgt := 29) hx hb dX11_setRate_20 (by decide) (fun c1 => ?_) (fun c1 => ?_)
  · exact absurd (show wiL x.toInt64 0 (S1.1 33 0 - nI 1).toInt64 = false by rw [show S1.1 33 0 = nI Un by subst eS1; exact hU]; exact wi_f hx9 (by omega)) (by rw [c1]; decide)
  · skip
    refine lv_aload_n hx hb dX11_setRate_23 rfl (lv_at hl 0 rfl) ?_
    refine lv_iconst (v := nI 1) hx hb dX11_setRate_24 (by decide) ?_
    refine x_callVI (q := 30) (C := RX11) (As := [.int (nI 1)]) (rest := []) ⟨hx, hb, hml, hown, hts⟩ (ct_X11_fail l D cA α n _ hn S1 (nI 1)) (cwV 1 hts gX11_setRate_X11_fail rfl rfl rfl (by decide +kernel) ⟨Nat.le_of_ble_eq_true rfl, Nat.le_of_ble_eq_true rfl⟩) hK hw hAw (ws_recv hK hw (q := 30) (Nat.lt_of_lt_of_le (Nat.le_of_ble_eq_true rfl : 30 < 191) hn) (mk_30 cA α) rfl) rfl hl.1 rfl (Nat.le_of_ble_eq_true rfl) dX11_setRate_25 ⟨Nat.zero_le _, Nat.zero_le _⟩ (fun S2 eS2 H locs hw => ?_)
    exact ret_i hx hb hr hlocks hK hw dX11_setRate_28 rfl (by subst_vars; rfl)

set_option maxRecDepth 100000 in
set_option maxHeartbeats 1000000 in
theorem ct_X11_setRateY (l : Launch) (D : va_G) (cA : Nat → ClassId) (α : Nat → Nat) (n sz : Nat) (hn : 191 ≤ n) (S : Mem) (Un : Nat) (hU : S.1 33 0 = nI Un) (hU2 : Un ≤ 4) (i : Nat) (hi : i < Un) (y : Int32) (hx9 : ¬ ∃ i, 1 ≤ i ∧ i ≤ 9999 ∧ y = nI i) : CtI l yX11_setRate wsX11_setRate ({ frames := 2, cells := 0, slots := 0, locals := 47 }) D cA α n sz [.ref (α 30), .int (nI i), .int y] S (nI 0) (setI (setI S 30 0 (nI 0)) 30 0 (nI 2)) := by
  refine ct_enter cX11_setRate 4 (some .int) (by decide) rfl (Nat.le_of_ble_eq_true rfl) ?_
  intro p e s m below meth c hx hb hr hml hlocks hown hts hK hsz hw ls hl
  have hown : s.vm.findClass RX11 = some m.cls := hown
  have hAw : ∀ z, Aw α n s.heap.size z → Aw α n sz z := by rw [hsz]; exact fun _ h => h
  have hl : lv_has ls 4 [(0, .ref (α 30)), (1, .int (nI i)), (2, .int y)] := hl
  refine lv_aload_n hx hb dX11_setRate_0 rfl (lv_at hl 0 rfl) ?_
  refine lv_iconst (v := nI 0) hx hb dX11_setRate_1 (by decide) ?_
  refine x_putI (x := nI 0) (ty := .int) (C := RX11) (T := TX11) (N := 24) hx hb hts (fun _ h => List.mem_cons_of_mem _ (List.mem_append_right _ h)) tyX11 tyX11_ok nmX11 hown hK hw 30 (Nat.lt_of_lt_of_le (Nat.le_of_ble_eq_true rfl : 30 < 191) hn) (mk_30 cA α) rfl 0 (by decide) (hts _ (List.mem_of_getElem? (i := 1) rfl)) (fun _ h9 => h9) rfl rfl rfl rfl (Nat.le_of_ble_eq_true rfl) rfl dX11_setRate_2 (fun S1 eS1 H locs hw => ?_)
  refine lv_iload_n hx hb dX11_setRate_5 rfl (lv_at hl 1 rfl) ?_
  refine lv_i2l hx hb dX11_setRate_6 rfl ?_
  refine lv_lconst (v := 0) hx hb dX11_setRate_7 (by decide) ?_
  refine lv_aload_n hx hb dX11_setRate_8 rfl (lv_at hl 0 rfl) ?_
  refine x_get (v := .ref (α 33)) (C := RX11) (T := TX11) (N := 24) hx hb hts (fun _ h => List.mem_cons_of_mem _ (List.mem_append_right _ h)) hown hK hw 30 (Nat.lt_of_lt_of_le (Nat.le_of_ble_eq_true rfl : 30 < 191) hn) (mk_30 cA α) rfl 11 (by decide) (hts _ (List.mem_of_getElem? (i := 2) rfl)) (fun _ h9 => h9) rfl dX11_setRate_9 ?_
  refine lv_iconst (v := nI 0) hx hb dX11_setRate_12 (by decide) ?_
  refine x_iald hx hb hK hw 33 40 (Nat.lt_of_lt_of_le (Nat.le_of_ble_eq_true rfl : 33 < 191) hn) (mk_33 cA α) 0 rfl (by decide) (by decide) dX11_setRate_13 ?_
  refine lv_iconst (v := nI 1) hx hb dX11_setRate_14 (by decide) ?_
  refine lv_isub hx hb dX11_setRate_15 ?_
  refine lv_i2l hx hb dX11_setRate_16 rfl ?_
  refine x_callSIr (q := 0) (C := RX0) (As := [.long ((nI i).toInt64), .long (0), .long (((S1.1 33 0) - (nI 1)).toInt64)]) (rest := []) ⟨hx, hb, hml, hown, hts⟩ (ct_X11_within l D cA α n _ hn S1 ((nI i).toInt64) (0) (((S1.1 33 0) - (nI 1)).toInt64)) (va_cwS 3 hts gX11_setRate_X11_within rfl rfl rfl (by decide +kernel) ⟨Nat.le_of_ble_eq_true rfl, Nat.le_of_ble_eq_true rfl⟩) hK hw hAw rfl hl.1 rfl (Nat.le_of_ble_eq_true rfl) dX11_setRate_17 ⟨Nat.zero_le _, Nat.zero_le _⟩ (fun H locs hw => ?_)
  refine xb_ne (b := (wiL ((nI i).toInt64) (0) (((S1.1 33 0) - (nI 1)).toInt64))) (tgt := 29) hx hb dX11_setRate_20 (by decide) (fun c1 => ?_) (fun c1 => ?_)
  · skip
    refine lv_iload_n hx hb dX11_setRate_29 rfl (lv_at hl 2 rfl) ?_
    refine lv_i2l hx hb dX11_setRate_30 rfl ?_
    refine lv_lconst (v := 1) hx hb dX11_setRate_31 (by decide) ?_
    refine lv_ldc2 (v := 9999) hx hb hown (hts _ (List.mem_of_getElem? (i := 3) rfl)) dX11_setRate_32 ?_
    refine x_callSIr (q := 0) (C := RX0) (As := [.long (y.toInt64), .long (1), .long (9999)]) (rest := []) ⟨hx, hb, hml, hown, hts⟩ (ct_X11_within l D cA α n _ hn S1 (y.toInt64) (1) (9999)) (va_cwS 3 hts gX11_setRate_X11_within rfl rfl rfl (by decide +kernel) ⟨Nat.le_of_ble_eq_true rfl, Nat.le_of_ble_eq_true rfl⟩) hK hw hAw rfl hl.1 rfl (Nat.le_of_ble_eq_true rfl) dX11_setRate_35 ⟨Nat.zero_le _, Nat.zero_le _⟩ (fun H locs hw => ?_)
    refine xb_ne (b := (wiL (y.toInt64) (1) (9999))) (tgt := 47) hx hb dX11_setRate_38 (by decide) (fun c2 => ?_) (fun c2 => ?_)
    · exact absurd (show wiL y.toInt64 1 9999 = false from w2f (a := 1) (b := 9999) hx9 (by decide) (by decide)) (by rw [c2]; decide)
    · skip
      refine lv_aload_n hx hb dX11_setRate_41 rfl (lv_at hl 0 rfl) ?_
      refine lv_iconst (v := nI 2) hx hb dX11_setRate_42 (by decide) ?_
      refine x_callVI (q := 30) (C := RX11) (As := [.int (nI 2)]) (rest := []) ⟨hx, hb, hml, hown, hts⟩ (ct_X11_fail l D cA α n _ hn S1 (nI 2)) (cwV 1 hts gX11_setRate_X11_fail rfl rfl rfl (by decide +kernel) ⟨Nat.le_of_ble_eq_true rfl, Nat.le_of_ble_eq_true rfl⟩) hK hw hAw (ws_recv hK hw (q := 30) (Nat.lt_of_lt_of_le (Nat.le_of_ble_eq_true rfl : 30 < 191) hn) (mk_30 cA α) rfl) rfl hl.1 rfl (Nat.le_of_ble_eq_true rfl) dX11_setRate_43 ⟨Nat.zero_le _, Nat.zero_le _⟩ (fun S2 eS2 H locs hw => ?_)
      exact ret_i hx hb hr hlocks hK hw dX11_setRate_46 rfl (by subst_vars; rfl)
  · exact absurd (show wiL (nI i).toInt64 0 (S1.1 33 0 - nI 1).toInt64 = true by rw [show S1.1 33 0 = nI Un by subst eS1; exact hU]; exact wi_t hi (by omega)) (by rw [c1]; decide)

set_option maxRecDepth 100000 in
set_option maxHeartbeats 1000000 in
theorem ct_X11_cancel (l : Launch) (D : va_G) (cA : Nat → ClassId) (α : Nat → Nat) (n sz : Nat) (hn : 191 ≤ n) (S : Mem) (N : Nat) (hN : S.1 34 0 = nI N) (hN2 : N ≤ 100) (i : Nat) (hi : i < N) (hs : S.1 34 (8 + 6 * i + 4) = 0) (ho : okR S i) (k : Nat) (hk : S.1 30 17 = nI k) (hk2 : k ≤ 10) : CtL l yX11_cancel wsX11_cancel ({ frames := 3, cells := 0, slots := 0, locals := 64 }) D cA α n sz [.ref (α 30), .int (nI i)] S (rVal S i) (setI (K0 S k) 34 (8 + 6 * i + 4) (nI 4)) := by
  refine ct_enter cX11_cancel 4 (some .long) (by decide) rfl (Nat.le_of_ble_eq_true rfl) ?_
  intro p e s m below meth c hx hb hr hml hlocks hown hts hK hsz hw ls hl
  have hown : s.vm.findClass RX11 = some m.cls := hown
  have hAw : ∀ z, Aw α n s.heap.size z → Aw α n sz z := by rw [hsz]; exact fun _ h => h
  have hl : lv_has ls 4 [(0, .ref (α 30)), (1, .int (nI i))] := hl
  refine lv_aload_n hx hb dX11_cancel_0 rfl (lv_at hl 0 rfl) ?_
  refine lv_aload_n hx hb dX11_cancel_1 rfl (lv_at hl 0 rfl) ?_
  refine lv_iload_n hx hb dX11_cancel_2 rfl (lv_at hl 1 rfl) ?_
  refine x_callVIr (q := 30) (C := RX11) (As := [.int (nI i)]) (rest := [.ref (α 30)]) ⟨hx, hb, hml, hown, hts⟩ (ct_X11_isItem l D cA α n _ hn S (nI i)) (cwV 1 hts gX11_cancel_X11_isItem rfl rfl rfl (by decide +kernel) ⟨Nat.le_of_ble_eq_true rfl, Nat.le_of_ble_eq_true rfl⟩) hK hw hAw (ws_recv hK hw (q := 30) (Nat.lt_of_lt_of_le (Nat.le_of_ble_eq_true rfl : 30 < 191) hn) (mk_30 cA α) rfl) rfl hl.1 rfl (Nat.le_of_ble_eq_true rfl) dX11_cancel_3 ⟨Nat.zero_le _, Nat.zero_le _⟩ (fun H locs hw => ?_)
  refine xb_ne (b := (isItR S (nI i))) (tgt := 13) hx hb dX11_cancel_6 (by decide) (fun c1 => ?_) (fun c1 => ?_)
  · skip
    refine lv_aload_n hx hb dX11_cancel_13 rfl (lv_at hl 0 rfl) ?_
    refine lv_iload_n hx hb dX11_cancel_14 rfl (lv_at hl 1 rfl) ?_
    refine lv_iconst (v := nI 4) hx hb dX11_cancel_15 (by decide) ?_
    refine x_callVIr (q := 30) (C := RX11) (As := [.int (nI i), .int (nI 4)]) (rest := [.ref (α 30)]) ⟨hx, hb, hml, hown, hts⟩ (ct_X11_of l D cA α n _ hn S i 4 (by omega)) (cwV 2 hts gX11_cancel_X11_of rfl rfl rfl (by decide +kernel) ⟨Nat.le_of_ble_eq_true rfl, Nat.le_of_ble_eq_true rfl⟩) hK hw hAw (ws_recv hK hw (q := 30) (Nat.lt_of_lt_of_le (Nat.le_of_ble_eq_true rfl : 30 < 191) hn) (mk_30 cA α) rfl) rfl hl.1 rfl (Nat.le_of_ble_eq_true rfl) dX11_cancel_16 ⟨Nat.zero_le _, Nat.zero_le _⟩ (fun H locs hw => ?_)
    refine lv_if_eq (tgt := 26) hx hb dX11_cancel_19 (by decide) (fun c2 => ?_) (fun c2 => ?_)
    · skip
      refine lv_iconst (v := nI 0) hx hb dX11_cancel_26 (by decide) ?_
      refine x_putI (x := nI 0) (ty := .int) (C := RX11) (T := TX11) (N := 24) hx hb hts (fun _ h => List.mem_cons_of_mem _ (List.mem_append_right _ h)) tyX11 tyX11_ok nmX11 hown hK hw 30 (Nat.lt_of_lt_of_le (Nat.le_of_ble_eq_true rfl : 30 < 191) hn) (mk_30 cA α) rfl 0 (by decide) (hts _ (List.mem_of_getElem? (i := 1) rfl)) (fun _ h9 => h9) rfl rfl rfl rfl (Nat.le_of_ble_eq_true rfl) rfl dX11_cancel_27 (fun S1 eS1 H locs hw => ?_)
      refine lv_aload_n hx hb dX11_cancel_30 rfl (lv_at hl 0 rfl) ?_
      refine x_get (v := .int (S1.1 30 0)) (C := RX11) (T := TX11) (N := 24) hx hb hts (fun _ h => List.mem_cons_of_mem _ (List.mem_append_right _ h)) hown hK hw 30 (Nat.lt_of_lt_of_le (Nat.le_of_ble_eq_true rfl : 30 < 191) hn) (mk_30 cA α) rfl 0 (by decide) (hts _ (List.mem_of_getElem? (i := 1) rfl)) (fun _ h9 => h9) rfl dX11_cancel_31 ?_
      refine x_topN (k := 0) (by subst eS1; simp [sI_e, upd]) ?_
      refine lv_if_le (tgt := 39) hx hb dX11_cancel_34 (by decide) (fun c3 => ?_) (fun c3 => ?_)
      · skip
        refine lv_aload_n hx hb dX11_cancel_39 rfl (lv_at hl 0 rfl) ?_
        refine x_callVV (q := 30) (C := RX11) (As := []) (rest := []) ⟨hx, hb, hml, hown, hts⟩ (ct_X11_keepU l D cA α n _ hn S1 k (by subst eS1; exact hk) hk2) (cwV 0 hts gX11_cancel_X11_keep rfl rfl rfl (by decide +kernel) ⟨Nat.le_of_ble_eq_true rfl, Nat.le_of_ble_eq_true rfl⟩) hK hw hAw (ws_recv hK hw (q := 30) (Nat.lt_of_lt_of_le (Nat.le_of_ble_eq_true rfl : 30 < 191) hn) (mk_30 cA α) rfl) rfl hl.1 rfl (Nat.le_of_ble_eq_true rfl) dX11_cancel_40 ⟨Nat.zero_le _, Nat.zero_le _⟩ (fun S2 eS2 H locs hw => ?_)
        refine lv_aload_n hx hb dX11_cancel_43 rfl (lv_at hl 0 rfl) ?_
        refine lv_iload_n hx hb dX11_cancel_44 rfl (lv_at hl 1 rfl) ?_
        refine x_callVLr (q := 30) (C := RX11) (As := [.int (nI i)]) (rest := []) ⟨hx, hb, hml, hown, hts⟩ (ct_X11_valueOf l D cA α n _ hn S2 i (by subst eS2; subst eS1; exact okR_of ho (K0_34 S k) (K0_33 S k))) (cwV 1 hts gX11_cancel_X11_valueOf rfl rfl rfl (by decide +kernel) ⟨Nat.le_of_ble_eq_true rfl, Nat.le_of_ble_eq_true rfl⟩) hK hw hAw (ws_recv hK hw (q := 30) (Nat.lt_of_lt_of_le (Nat.le_of_ble_eq_true rfl : 30 < 191) hn) (mk_30 cA α) rfl) rfl hl.1 rfl (Nat.le_of_ble_eq_true rfl) dX11_cancel_45 ⟨Nat.zero_le _, Nat.zero_le _⟩ (fun H locs hw => ?_)
        refine x_topEL (y := rVal S i) (by subst eS2; subst eS1; exact rVal_of (K0_34 S k) (K0_33 S k) (K0_35 S k)) ?_
        refine lv_lstore_n (lv' := [(2, .long (rVal S i)), (0, .ref (α 30)), (1, .int (nI i))]) hx hb dX11_cancel_48 rfl hl (by decide) rfl (fun ls hl => ?_)
        refine lv_aload_n hx hb dX11_cancel_49 rfl (lv_at hl 1 rfl) ?_
        refine lv_iload_n hx hb dX11_cancel_50 rfl (lv_at hl 2 rfl) ?_
        refine lv_iconst (v := nI 4) hx hb dX11_cancel_51 (by decide) ?_
        refine lv_iconst (v := nI 4) hx hb dX11_cancel_52 (by decide) ?_
        refine x_callVV (q := 30) (C := RX11) (As := [.int (nI i), .int (nI 4), .int (nI 4)]) (rest := []) ⟨hx, hb, hml, hown, hts⟩ (ct_X11_put l D cA α n _ hn S2 i 4 (nI 4) (by omega)) (cwV 3 hts gX11_cancel_X11_put rfl rfl rfl (by decide +kernel) ⟨Nat.le_of_ble_eq_true rfl, Nat.le_of_ble_eq_true rfl⟩) hK hw hAw (ws_recv hK hw (q := 30) (Nat.lt_of_lt_of_le (Nat.le_of_ble_eq_true rfl : 30 < 191) hn) (mk_30 cA α) rfl) rfl hl.1 rfl (Nat.le_of_ble_eq_true rfl) dX11_cancel_53 ⟨Nat.zero_le _, Nat.zero_le _⟩ (fun S3 eS3 H locs hw => ?_)
        refine lv_lload_n hx hb dX11_cancel_56 rfl (lv_at hl 0 rfl) ?_
        exact ret_l hx hb hr hlocks hK hw dX11_cancel_57 rfl (by subst_vars; rfl)
      · exact absurd (by decide) c3
    · exact absurd hs c2
  · exact absurd (isIt_t (S := S) (by skip; exact hN) hN2 hi) (by rw [c1]; decide)

set_option maxRecDepth 100000 in
set_option maxHeartbeats 1000000 in
theorem ct_X11_cancelX (l : Launch) (D : va_G) (cA : Nat → ClassId) (α : Nat → Nat) (n sz : Nat) (hn : 191 ≤ n) (S : Mem) (N : Nat) (hN : S.1 34 0 = nI N) (hN2 : N ≤ 100) (x : Int32) (hx9 : ¬ ∃ i, i < N ∧ x = nI i) : CtL l yX11_cancel wsX11_cancel ({ frames := 3, cells := 0, slots := 0, locals := 64 }) D cA α n sz [.ref (α 30), .int x] S 0 (setI S 30 0 (nI 1)) := by
  refine ct_enter cX11_cancel 4 (some .long) (by decide) rfl (Nat.le_of_ble_eq_true rfl) ?_
  intro p e s m below meth c hx hb hr hml hlocks hown hts hK hsz hw ls hl
  have hown : s.vm.findClass RX11 = some m.cls := hown
  have hAw : ∀ z, Aw α n s.heap.size z → Aw α n sz z := by rw [hsz]; exact fun _ h => h
  have hl : lv_has ls 4 [(0, .ref (α 30)), (1, .int x)] := hl
  refine lv_aload_n hx hb dX11_cancel_0 rfl (lv_at hl 0 rfl) ?_
  refine lv_aload_n hx hb dX11_cancel_1 rfl (lv_at hl 0 rfl) ?_
  refine lv_iload_n hx hb dX11_cancel_2 rfl (lv_at hl 1 rfl) ?_
  refine x_callVIr (q := 30) (C := RX11) (As := [.int x]) (rest := [.ref (α 30)]) ⟨hx, hb, hml, hown, hts⟩ (ct_X11_isItem l D cA α n _ hn S x) (cwV 1 hts gX11_cancel_X11_isItem rfl rfl rfl (by decide +kernel) ⟨Nat.le_of_ble_eq_true rfl, Nat.le_of_ble_eq_true rfl⟩) hK hw hAw (ws_recv hK hw (q := 30) (Nat.lt_of_lt_of_le (Nat.le_of_ble_eq_true rfl : 30 < 191) hn) (mk_30 cA α) rfl) rfl hl.1 rfl (Nat.le_of_ble_eq_true rfl) dX11_cancel_3 ⟨Nat.zero_le _, Nat.zero_le _⟩ (fun H locs hw => ?_)
  refine xb_ne (b := (isItR S x)) (tgt := 13) hx hb dX11_cancel_6 (by decide) (fun c1 => ?_) (fun c1 => ?_)
  · exact absurd (isIt_f (S := S) (by skip; exact hN) hN2 hx9) (by rw [c1]; decide)
  · skip
    refine lv_iconst (v := nI 1) hx hb dX11_cancel_9 (by decide) ?_
    refine lv_goto (tgt := 27) hx hb dX11_cancel_10 (by decide) ?_
    refine x_putI (x := nI 1) (ty := .int) (C := RX11) (T := TX11) (N := 24) hx hb hts (fun _ h => List.mem_cons_of_mem _ (List.mem_append_right _ h)) tyX11 tyX11_ok nmX11 hown hK hw 30 (Nat.lt_of_lt_of_le (Nat.le_of_ble_eq_true rfl : 30 < 191) hn) (mk_30 cA α) rfl 0 (by decide) (hts _ (List.mem_of_getElem? (i := 1) rfl)) (fun _ h9 => h9) rfl rfl rfl rfl (Nat.le_of_ble_eq_true rfl) rfl dX11_cancel_27 (fun S1 eS1 H locs hw => ?_)
    refine lv_aload_n hx hb dX11_cancel_30 rfl (lv_at hl 0 rfl) ?_
    refine x_get (v := .int (S1.1 30 0)) (C := RX11) (T := TX11) (N := 24) hx hb hts (fun _ h => List.mem_cons_of_mem _ (List.mem_append_right _ h)) hown hK hw 30 (Nat.lt_of_lt_of_le (Nat.le_of_ble_eq_true rfl : 30 < 191) hn) (mk_30 cA α) rfl 0 (by decide) (hts _ (List.mem_of_getElem? (i := 1) rfl)) (fun _ h9 => h9) rfl dX11_cancel_31 ?_
    refine x_topN (k := 1) (by subst eS1; simp [sI_e, upd]) ?_
    refine lv_if_le (tgt := 39) hx hb dX11_cancel_34 (by decide) (fun c2 => ?_) (fun c2 => ?_)
    · exact absurd c2 (by decide)
    · skip
      refine lv_lconst (v := 0) hx hb dX11_cancel_37 (by decide) ?_
      exact ret_l hx hb hr hlocks hK hw dX11_cancel_38 rfl (by subst_vars; rfl)

set_option maxRecDepth 100000 in
set_option maxHeartbeats 1000000 in
theorem ct_X11_cancelY (l : Launch) (D : va_G) (cA : Nat → ClassId) (α : Nat → Nat) (n sz : Nat) (hn : 191 ≤ n) (S : Mem) (N : Nat) (hN : S.1 34 0 = nI N) (hN2 : N ≤ 100) (i : Nat) (hi : i < N) (hs : ¬ S.1 34 (8 + 6 * i + 4) = 0) : CtL l yX11_cancel wsX11_cancel ({ frames := 3, cells := 0, slots := 0, locals := 64 }) D cA α n sz [.ref (α 30), .int (nI i)] S 0 (setI S 30 0 (nI 2)) := by
  refine ct_enter cX11_cancel 4 (some .long) (by decide) rfl (Nat.le_of_ble_eq_true rfl) ?_
  intro p e s m below meth c hx hb hr hml hlocks hown hts hK hsz hw ls hl
  have hown : s.vm.findClass RX11 = some m.cls := hown
  have hAw : ∀ z, Aw α n s.heap.size z → Aw α n sz z := by rw [hsz]; exact fun _ h => h
  have hl : lv_has ls 4 [(0, .ref (α 30)), (1, .int (nI i))] := hl
  refine lv_aload_n hx hb dX11_cancel_0 rfl (lv_at hl 0 rfl) ?_
  refine lv_aload_n hx hb dX11_cancel_1 rfl (lv_at hl 0 rfl) ?_
  refine lv_iload_n hx hb dX11_cancel_2 rfl (lv_at hl 1 rfl) ?_
  refine x_callVIr (q := 30) (C := RX11) (As := [.int (nI i)]) (rest := [.ref (α 30)]) ⟨hx, hb, hml, hown, hts⟩ (ct_X11_isItem l D cA α n _ hn S (nI i)) (cwV 1 hts gX11_cancel_X11_isItem rfl rfl rfl (by decide +kernel) ⟨Nat.le_of_ble_eq_true rfl, Nat.le_of_ble_eq_true rfl⟩) hK hw hAw (ws_recv hK hw (q := 30) (Nat.lt_of_lt_of_le (Nat.le_of_ble_eq_true rfl : 30 < 191) hn) (mk_30 cA α) rfl) rfl hl.1 rfl (Nat.le_of_ble_eq_true rfl) dX11_cancel_3 ⟨Nat.zero_le _, Nat.zero_le _⟩ (fun H locs hw => ?_)
  refine xb_ne (b := (isItR S (nI i))) (tgt := 13) hx hb dX11_cancel_6 (by decide) (fun c1 => ?_) (fun c1 => ?_)
  · skip
    refine lv_aload_n hx hb dX11_cancel_13 rfl (lv_at hl 0 rfl) ?_
    refine lv_iload_n hx hb dX11_cancel_14 rfl (lv_at hl 1 rfl) ?_
    refine lv_iconst (v := nI 4) hx hb dX11_cancel_15 (by decide) ?_
    refine x_callVIr (q := 30) (C := RX11) (As := [.int (nI i), .int (nI 4)]) (rest := [.ref (α 30)]) ⟨hx, hb, hml, hown, hts⟩ (ct_X11_of l D cA α n _ hn S i 4 (by omega)) (cwV 2 hts gX11_cancel_X11_of rfl rfl rfl (by decide +kernel) ⟨Nat.le_of_ble_eq_true rfl, Nat.le_of_ble_eq_true rfl⟩) hK hw hAw (ws_recv hK hw (q := 30) (Nat.lt_of_lt_of_le (Nat.le_of_ble_eq_true rfl : 30 < 191) hn) (mk_30 cA α) rfl) rfl hl.1 rfl (Nat.le_of_ble_eq_true rfl) dX11_cancel_16 ⟨Nat.zero_le _, Nat.zero_le _⟩ (fun H locs hw => ?_)
    refine lv_if_eq (tgt := 26) hx hb dX11_cancel_19 (by decide) (fun c2 => ?_) (fun c2 => ?_)
    · exact absurd c2 hs
    · skip
      refine lv_iconst (v := nI 2) hx hb dX11_cancel_22 (by decide) ?_
      refine lv_goto (tgt := 27) hx hb dX11_cancel_23 (by decide) ?_
      refine x_putI (x := nI 2) (ty := .int) (C := RX11) (T := TX11) (N := 24) hx hb hts (fun _ h => List.mem_cons_of_mem _ (List.mem_append_right _ h)) tyX11 tyX11_ok nmX11 hown hK hw 30 (Nat.lt_of_lt_of_le (Nat.le_of_ble_eq_true rfl : 30 < 191) hn) (mk_30 cA α) rfl 0 (by decide) (hts _ (List.mem_of_getElem? (i := 1) rfl)) (fun _ h9 => h9) rfl rfl rfl rfl (Nat.le_of_ble_eq_true rfl) rfl dX11_cancel_27 (fun S1 eS1 H locs hw => ?_)
      refine lv_aload_n hx hb dX11_cancel_30 rfl (lv_at hl 0 rfl) ?_
      refine x_get (v := .int (S1.1 30 0)) (C := RX11) (T := TX11) (N := 24) hx hb hts (fun _ h => List.mem_cons_of_mem _ (List.mem_append_right _ h)) hown hK hw 30 (Nat.lt_of_lt_of_le (Nat.le_of_ble_eq_true rfl : 30 < 191) hn) (mk_30 cA α) rfl 0 (by decide) (hts _ (List.mem_of_getElem? (i := 1) rfl)) (fun _ h9 => h9) rfl dX11_cancel_31 ?_
      refine x_topN (k := 2) (by subst eS1; simp [sI_e, upd]) ?_
      refine lv_if_le (tgt := 39) hx hb dX11_cancel_34 (by decide) (fun c3 => ?_) (fun c3 => ?_)
      · exact absurd c3 (by decide)
      · skip
        refine lv_lconst (v := 0) hx hb dX11_cancel_37 (by decide) ?_
        exact ret_l hx hb hr hlocks hK hw dX11_cancel_38 rfl (by subst_vars; rfl)
  · exact absurd (isIt_t (S := S) (by skip; exact hN) hN2 hi) (by rw [c1]; decide)

set_option maxRecDepth 100000 in
set_option maxHeartbeats 1000000 in
theorem ct_X11_undo (l : Launch) (D : va_G) (cA : Nat → ClassId) (α : Nat → Nat) (n sz : Nat) (hn : 191 ≤ n) (S : Mem) (k : Nat) (hk : S.1 30 17 = nI (k + 1)) (hk2 : k < 10) : CtI l yX11_undo wsX11_undo ({ frames := 1, cells := 0, slots := 0, locals := 26 }) D cA α n sz [.ref (α 30)] S (nI k) (cpBl (setI (setI S 30 0 (nI 0)) 30 17 (nI k)) 36 37 k 34 35 0) := by
  refine ct_enter cX11_undo 1 (some .int) (by decide) rfl (Nat.le_of_ble_eq_true rfl) ?_
  intro p e s m below meth c hx hb hr hml hlocks hown hts hK hsz hw ls hl
  have hown : s.vm.findClass RX11 = some m.cls := hown
  have hAw : ∀ z, Aw α n s.heap.size z → Aw α n sz z := by rw [hsz]; exact fun _ h => h
  have hl : lv_has ls 1 [(0, .ref (α 30))] := hl
  refine lv_aload_n hx hb dX11_undo_0 rfl (lv_at hl 0 rfl) ?_
  refine lv_iconst (v := nI 0) hx hb dX11_undo_1 (by decide) ?_
  refine x_putI (x := nI 0) (ty := .int) (C := RX11) (T := TX11) (N := 24) hx hb hts (fun _ h => List.mem_cons_of_mem _ (List.mem_append_right _ h)) tyX11 tyX11_ok nmX11 hown hK hw 30 (Nat.lt_of_lt_of_le (Nat.le_of_ble_eq_true rfl : 30 < 191) hn) (mk_30 cA α) rfl 0 (by decide) (hts _ (List.mem_of_getElem? (i := 1) rfl)) (fun _ h9 => h9) rfl rfl rfl rfl (Nat.le_of_ble_eq_true rfl) rfl dX11_undo_2 (fun S1 eS1 H locs hw => ?_)
  refine lv_aload_n hx hb dX11_undo_5 rfl (lv_at hl 0 rfl) ?_
  refine x_get (v := .int (S1.1 30 17)) (C := RX11) (T := TX11) (N := 24) hx hb hts (fun _ h => List.mem_cons_of_mem _ (List.mem_append_right _ h)) hown hK hw 30 (Nat.lt_of_lt_of_le (Nat.le_of_ble_eq_true rfl : 30 < 191) hn) (mk_30 cA α) rfl 17 (by decide) (hts _ (List.mem_of_getElem? (i := 2) rfl)) (fun _ h9 => h9) rfl dX11_undo_6 ?_
  refine x_topN (k := k + 1) (by subst eS1; simp [sI_e, upd, hk]) ?_
  refine xn_if_ne (tgt := 14) hx hb (by omega) dX11_undo_9 (by decide) (fun c1 => ?_) (fun c1 => ?_)
  · skip
    refine lv_aload_n hx hb dX11_undo_14 rfl (lv_at hl 0 rfl) ?_
    refine lv_dup hx hb dX11_undo_15 rfl ?_
    refine x_get (v := .int (S1.1 30 17)) (C := RX11) (T := TX11) (N := 24) hx hb hts (fun _ h => List.mem_cons_of_mem _ (List.mem_append_right _ h)) hown hK hw 30 (Nat.lt_of_lt_of_le (Nat.le_of_ble_eq_true rfl : 30 < 191) hn) (mk_30 cA α) rfl 17 (by decide) (hts _ (List.mem_of_getElem? (i := 2) rfl)) (fun _ h9 => h9) rfl dX11_undo_16 ?_
    refine x_topN (k := k + 1) (by subst eS1; simp [sI_e, upd, hk]) ?_
    refine lv_iconst (v := nI 1) hx hb dX11_undo_19 (by decide) ?_
    refine xn_isub hx hb (by omega) dX11_undo_20 ?_
    refine x_topE (y := nI k) (by rw [show k + 1 - 1 = k by omega]) ?_
    refine x_putI (x := nI k) (ty := .int) (C := RX11) (T := TX11) (N := 24) hx hb hts (fun _ h => List.mem_cons_of_mem _ (List.mem_append_right _ h)) tyX11 tyX11_ok nmX11 hown hK hw 30 (Nat.lt_of_lt_of_le (Nat.le_of_ble_eq_true rfl : 30 < 191) hn) (mk_30 cA α) rfl 17 (by decide) (hts _ (List.mem_of_getElem? (i := 2) rfl)) (fun _ h9 => h9) rfl rfl rfl rfl (Nat.le_of_ble_eq_true rfl) rfl dX11_undo_21 (fun S2 eS2 H locs hw => ?_)
    refine lv_aload_n hx hb dX11_undo_24 rfl (lv_at hl 0 rfl) ?_
    refine x_get (v := .ref (α 36)) (C := RX11) (T := TX11) (N := 24) hx hb hts (fun _ h => List.mem_cons_of_mem _ (List.mem_append_right _ h)) hown hK hw 30 (Nat.lt_of_lt_of_le (Nat.le_of_ble_eq_true rfl : 30 < 191) hn) (mk_30 cA α) rfl 15 (by decide) (hts _ (List.mem_of_getElem? (i := 3) rfl)) (fun _ h9 => h9) rfl dX11_undo_25 ?_
    refine lv_aload_n hx hb dX11_undo_28 rfl (lv_at hl 0 rfl) ?_
    refine x_get (v := .ref (α 37)) (C := RX11) (T := TX11) (N := 24) hx hb hts (fun _ h => List.mem_cons_of_mem _ (List.mem_append_right _ h)) hown hK hw 30 (Nat.lt_of_lt_of_le (Nat.le_of_ble_eq_true rfl : 30 < 191) hn) (mk_30 cA α) rfl 16 (by decide) (hts _ (List.mem_of_getElem? (i := 4) rfl)) (fun _ h9 => h9) rfl dX11_undo_29 ?_
    refine lv_aload_n hx hb dX11_undo_32 rfl (lv_at hl 0 rfl) ?_
    refine x_get (v := .int (S2.1 30 17)) (C := RX11) (T := TX11) (N := 24) hx hb hts (fun _ h => List.mem_cons_of_mem _ (List.mem_append_right _ h)) hown hK hw 30 (Nat.lt_of_lt_of_le (Nat.le_of_ble_eq_true rfl : 30 < 191) hn) (mk_30 cA α) rfl 17 (by decide) (hts _ (List.mem_of_getElem? (i := 2) rfl)) (fun _ h9 => h9) rfl dX11_undo_33 ?_
    refine x_topN (k := k) (by subst eS2; subst eS1; simp [sI_e, upd]) ?_
    refine lv_aload_n hx hb dX11_undo_36 rfl (lv_at hl 0 rfl) ?_
    refine x_get (v := .ref (α 34)) (C := RX11) (T := TX11) (N := 24) hx hb hts (fun _ h => List.mem_cons_of_mem _ (List.mem_append_right _ h)) hown hK hw 30 (Nat.lt_of_lt_of_le (Nat.le_of_ble_eq_true rfl : 30 < 191) hn) (mk_30 cA α) rfl 13 (by decide) (hts _ (List.mem_of_getElem? (i := 5) rfl)) (fun _ h9 => h9) rfl dX11_undo_37 ?_
    refine lv_aload_n hx hb dX11_undo_40 rfl (lv_at hl 0 rfl) ?_
    refine x_get (v := .ref (α 35)) (C := RX11) (T := TX11) (N := 24) hx hb hts (fun _ h => List.mem_cons_of_mem _ (List.mem_append_right _ h)) hown hK hw 30 (Nat.lt_of_lt_of_le (Nat.le_of_ble_eq_true rfl : 30 < 191) hn) (mk_30 cA α) rfl 14 (by decide) (hts _ (List.mem_of_getElem? (i := 6) rfl)) (fun _ h9 => h9) rfl dX11_undo_41 ?_
    refine lv_iconst (v := nI 0) hx hb dX11_undo_44 (by decide) ?_
    refine x_callSV (q := 0) (C := RX0) (As := [.ref (α 36), .ref (α 37), .int (nI k), .ref (α 34), .ref (α 35), .int (nI 0)]) (rest := []) ⟨hx, hb, hml, hown, hts⟩ (ct_X11_copy_hs l D cA α n _ hn S2 k 0 hk2 rfl) (va_cwS 6 hts gX11_undo_X11_copy rfl rfl rfl (by decide +kernel) ⟨Nat.le_of_ble_eq_true rfl, Nat.le_of_ble_eq_true rfl⟩) hK hw hAw rfl hl.1 rfl (Nat.le_of_ble_eq_true rfl) dX11_undo_45 ⟨Nat.zero_le _, Nat.zero_le _⟩ (fun S3 eS3 H locs hw => ?_)
    refine lv_aload_n hx hb dX11_undo_48 rfl (lv_at hl 0 rfl) ?_
    refine x_get (v := .int (S3.1 30 17)) (C := RX11) (T := TX11) (N := 24) hx hb hts (fun _ h => List.mem_cons_of_mem _ (List.mem_append_right _ h)) hown hK hw 30 (Nat.lt_of_lt_of_le (Nat.le_of_ble_eq_true rfl : 30 < 191) hn) (mk_30 cA α) rfl 17 (by decide) (hts _ (List.mem_of_getElem? (i := 2) rfl)) (fun _ h9 => h9) rfl dX11_undo_49 ?_
    refine x_topN (k := k) (by subst eS3; subst eS2; subst eS1; rw [cpBl_1 _ _ _ _ _ _ _ (by decide), sI_e]; simp [upd]) ?_
    exact ret_i hx hb hr hlocks hK hw dX11_undo_52 rfl (by subst_vars; rfl)
  · exact absurd c1 (by omega)

set_option maxRecDepth 100000 in
set_option maxHeartbeats 1000000 in
theorem ct_X11_undoX (l : Launch) (D : va_G) (cA : Nat → ClassId) (α : Nat → Nat) (n sz : Nat) (hn : 191 ≤ n) (S : Mem) (hk : S.1 30 17 = nI 0) : CtI l yX11_undo wsX11_undo ({ frames := 1, cells := 0, slots := 0, locals := 26 }) D cA α n sz [.ref (α 30)] S (-1) (setI S 30 0 (nI 0)) := by
  refine ct_enter cX11_undo 1 (some .int) (by decide) rfl (Nat.le_of_ble_eq_true rfl) ?_
  intro p e s m below meth c hx hb hr hml hlocks hown hts hK hsz hw ls hl
  have hown : s.vm.findClass RX11 = some m.cls := hown
  have hAw : ∀ z, Aw α n s.heap.size z → Aw α n sz z := by rw [hsz]; exact fun _ h => h
  have hl : lv_has ls 1 [(0, .ref (α 30))] := hl
  refine lv_aload_n hx hb dX11_undo_0 rfl (lv_at hl 0 rfl) ?_
  refine lv_iconst (v := nI 0) hx hb dX11_undo_1 (by decide) ?_
  refine x_putI (x := nI 0) (ty := .int) (C := RX11) (T := TX11) (N := 24) hx hb hts (fun _ h => List.mem_cons_of_mem _ (List.mem_append_right _ h)) tyX11 tyX11_ok nmX11 hown hK hw 30 (Nat.lt_of_lt_of_le (Nat.le_of_ble_eq_true rfl : 30 < 191) hn) (mk_30 cA α) rfl 0 (by decide) (hts _ (List.mem_of_getElem? (i := 1) rfl)) (fun _ h9 => h9) rfl rfl rfl rfl (Nat.le_of_ble_eq_true rfl) rfl dX11_undo_2 (fun S1 eS1 H locs hw => ?_)
  refine lv_aload_n hx hb dX11_undo_5 rfl (lv_at hl 0 rfl) ?_
  refine x_get (v := .int (S1.1 30 17)) (C := RX11) (T := TX11) (N := 24) hx hb hts (fun _ h => List.mem_cons_of_mem _ (List.mem_append_right _ h)) hown hK hw 30 (Nat.lt_of_lt_of_le (Nat.le_of_ble_eq_true rfl : 30 < 191) hn) (mk_30 cA α) rfl 17 (by decide) (hts _ (List.mem_of_getElem? (i := 2) rfl)) (fun _ h9 => h9) rfl dX11_undo_6 ?_
  refine x_topN (k := 0) (by subst eS1; simp [sI_e, upd, hk]) ?_
  refine xn_if_ne (tgt := 14) hx hb (by omega) dX11_undo_9 (by decide) (fun c1 => ?_) (fun c1 => ?_)
  · exact absurd rfl c1
  · skip
    refine lv_iconst (v := (-1)) hx hb dX11_undo_12 (by decide) ?_
    exact ret_i hx hb hr hlocks hK hw dX11_undo_13 rfl (by subst_vars; rfl)

set_option maxRecDepth 100000 in
set_option maxHeartbeats 1000000 in
theorem ct_X11_saveSnapshot (l : Launch) (D : va_G) (cA : Nat → ClassId) (α : Nat → Nat) (n sz : Nat) (hn : 191 ≤ n) (S : Mem) (t : Nat) (ht : t ≤ 1) : CtI l yX11_saveSnapshot wsX11_saveSnapshot ({ frames := 1, cells := 0, slots := 0, locals := 26 }) D cA α n sz [.ref (α 30), .int (nI t)] S (b2i true) (setI (cpBl (setI S 30 0 (nI 0)) 34 35 0 38 39 t) 40 t (vp_nar .boolean (nI 1))) := by
  refine ct_enter cX11_saveSnapshot 2 (some .boolean) (by decide) rfl (Nat.le_of_ble_eq_true rfl) ?_
  intro p e s m below meth c hx hb hr hml hlocks hown hts hK hsz hw ls hl
  have hown : s.vm.findClass RX11 = some m.cls := hown
  have hAw : ∀ z, Aw α n s.heap.size z → Aw α n sz z := by rw [hsz]; exact fun _ h => h
  have hl : lv_has ls 2 [(0, .ref (α 30)), (1, .int (nI t))] := hl
  refine lv_aload_n hx hb dX11_saveSnapshot_0 rfl (lv_at hl 0 rfl) ?_
  refine lv_iconst (v := nI 0) hx hb dX11_saveSnapshot_1 (by decide) ?_
  refine x_putI (x := nI 0) (ty := .int) (C := RX11) (T := TX11) (N := 24) hx hb hts (fun _ h => List.mem_cons_of_mem _ (List.mem_append_right _ h)) tyX11 tyX11_ok nmX11 hown hK hw 30 (Nat.lt_of_lt_of_le (Nat.le_of_ble_eq_true rfl : 30 < 191) hn) (mk_30 cA α) rfl 0 (by decide) (hts _ (List.mem_of_getElem? (i := 1) rfl)) (fun _ h9 => h9) rfl rfl rfl rfl (Nat.le_of_ble_eq_true rfl) rfl dX11_saveSnapshot_2 (fun S1 eS1 H locs hw => ?_)
  refine lv_iload_n hx hb dX11_saveSnapshot_5 rfl (lv_at hl 1 rfl) ?_
  refine lv_i2l hx hb dX11_saveSnapshot_6 rfl ?_
  refine lv_lconst (v := 0) hx hb dX11_saveSnapshot_7 (by decide) ?_
  refine lv_lconst (v := 1) hx hb dX11_saveSnapshot_8 (by decide) ?_
  refine x_callSIr (q := 0) (C := RX0) (As := [.long ((nI t).toInt64), .long (0), .long (1)]) (rest := []) ⟨hx, hb, hml, hown, hts⟩ (ct_X11_within l D cA α n _ hn S1 ((nI t).toInt64) (0) (1)) (va_cwS 3 hts gX11_saveSnapshot_X11_within rfl rfl rfl (by decide +kernel) ⟨Nat.le_of_ble_eq_true rfl, Nat.le_of_ble_eq_true rfl⟩) hK hw hAw rfl hl.1 rfl (Nat.le_of_ble_eq_true rfl) dX11_saveSnapshot_9 ⟨Nat.zero_le _, Nat.zero_le _⟩ (fun H locs hw => ?_)
  refine xb_ne (b := (wiL ((nI t).toInt64) (0) (1))) (tgt := 17) hx hb dX11_saveSnapshot_12 (by decide) (fun c1 => ?_) (fun c1 => ?_)
  · skip
    refine lv_aload_n hx hb dX11_saveSnapshot_17 rfl (lv_at hl 0 rfl) ?_
    refine x_get (v := .ref (α 34)) (C := RX11) (T := TX11) (N := 24) hx hb hts (fun _ h => List.mem_cons_of_mem _ (List.mem_append_right _ h)) hown hK hw 30 (Nat.lt_of_lt_of_le (Nat.le_of_ble_eq_true rfl : 30 < 191) hn) (mk_30 cA α) rfl 13 (by decide) (hts _ (List.mem_of_getElem? (i := 2) rfl)) (fun _ h9 => h9) rfl dX11_saveSnapshot_18 ?_
    refine lv_aload_n hx hb dX11_saveSnapshot_21 rfl (lv_at hl 0 rfl) ?_
    refine x_get (v := .ref (α 35)) (C := RX11) (T := TX11) (N := 24) hx hb hts (fun _ h => List.mem_cons_of_mem _ (List.mem_append_right _ h)) hown hK hw 30 (Nat.lt_of_lt_of_le (Nat.le_of_ble_eq_true rfl : 30 < 191) hn) (mk_30 cA α) rfl 14 (by decide) (hts _ (List.mem_of_getElem? (i := 3) rfl)) (fun _ h9 => h9) rfl dX11_saveSnapshot_22 ?_
    refine lv_iconst (v := nI 0) hx hb dX11_saveSnapshot_25 (by decide) ?_
    refine lv_aload_n hx hb dX11_saveSnapshot_26 rfl (lv_at hl 0 rfl) ?_
    refine x_get (v := .ref (α 38)) (C := RX11) (T := TX11) (N := 24) hx hb hts (fun _ h => List.mem_cons_of_mem _ (List.mem_append_right _ h)) hown hK hw 30 (Nat.lt_of_lt_of_le (Nat.le_of_ble_eq_true rfl : 30 < 191) hn) (mk_30 cA α) rfl 18 (by decide) (hts _ (List.mem_of_getElem? (i := 4) rfl)) (fun _ h9 => h9) rfl dX11_saveSnapshot_27 ?_
    refine lv_aload_n hx hb dX11_saveSnapshot_30 rfl (lv_at hl 0 rfl) ?_
    refine x_get (v := .ref (α 39)) (C := RX11) (T := TX11) (N := 24) hx hb hts (fun _ h => List.mem_cons_of_mem _ (List.mem_append_right _ h)) hown hK hw 30 (Nat.lt_of_lt_of_le (Nat.le_of_ble_eq_true rfl : 30 < 191) hn) (mk_30 cA α) rfl 19 (by decide) (hts _ (List.mem_of_getElem? (i := 5) rfl)) (fun _ h9 => h9) rfl dX11_saveSnapshot_31 ?_
    refine lv_iload_n hx hb dX11_saveSnapshot_34 rfl (lv_at hl 1 rfl) ?_
    refine x_callSV (q := 0) (C := RX0) (As := [.ref (α 34), .ref (α 35), .int (nI 0), .ref (α 38), .ref (α 39), .int (nI t)]) (rest := []) ⟨hx, hb, hml, hown, hts⟩ (ct_X11_copy_sp l D cA α n _ hn S1 0 t rfl (by omega)) (va_cwS 6 hts gX11_saveSnapshot_X11_copy rfl rfl rfl (by decide +kernel) ⟨Nat.le_of_ble_eq_true rfl, Nat.le_of_ble_eq_true rfl⟩) hK hw hAw rfl hl.1 rfl (Nat.le_of_ble_eq_true rfl) dX11_saveSnapshot_35 ⟨Nat.zero_le _, Nat.zero_le _⟩ (fun S2 eS2 H locs hw => ?_)
    refine lv_aload_n hx hb dX11_saveSnapshot_38 rfl (lv_at hl 0 rfl) ?_
    refine x_get (v := .ref (α 40)) (C := RX11) (T := TX11) (N := 24) hx hb hts (fun _ h => List.mem_cons_of_mem _ (List.mem_append_right _ h)) hown hK hw 30 (Nat.lt_of_lt_of_le (Nat.le_of_ble_eq_true rfl : 30 < 191) hn) (mk_30 cA α) rfl 20 (by decide) (hts _ (List.mem_of_getElem? (i := 6) rfl)) (fun _ h9 => h9) rfl dX11_saveSnapshot_39 ?_
    refine lv_iload_n hx hb dX11_saveSnapshot_42 rfl (lv_at hl 1 rfl) ?_
    refine lv_iconst (v := nI 1) hx hb dX11_saveSnapshot_43 (by decide) ?_
    refine x_zast (x := nI 1) hx hb hK hw 40 2 (Nat.lt_of_lt_of_le (Nat.le_of_ble_eq_true rfl : 40 < 191) hn) (mk_40 cA α) t rfl (by omega) (by decide) dX11_saveSnapshot_44 (fun S3 eS3 H locs hw => ?_)
    refine lv_iconst (v := nI 1) hx hb dX11_saveSnapshot_45 (by decide) ?_
    exact ret_z hx hb hr (by first | rfl | decide | exact narB _) hlocks hK hw dX11_saveSnapshot_46 rfl (by subst_vars; rfl)
  · exact absurd (show wiL (nI t).toInt64 0 1 = true from w2t (a := 0) (b := 1) (Nat.zero_le _) ht (by decide) (by decide)) (by rw [c1]; decide)

set_option maxRecDepth 100000 in
set_option maxHeartbeats 1000000 in
theorem ct_X11_saveSnapshotX (l : Launch) (D : va_G) (cA : Nat → ClassId) (α : Nat → Nat) (n sz : Nat) (hn : 191 ≤ n) (S : Mem) (x : Int32) (hx9 : ¬ ∃ i, 0 ≤ i ∧ i ≤ 1 ∧ x = nI i) : CtI l yX11_saveSnapshot wsX11_saveSnapshot ({ frames := 1, cells := 0, slots := 0, locals := 26 }) D cA α n sz [.ref (α 30), .int x] S (b2i false) (setI S 30 0 (nI 0)) := by
  refine ct_enter cX11_saveSnapshot 2 (some .boolean) (by decide) rfl (Nat.le_of_ble_eq_true rfl) ?_
  intro p e s m below meth c hx hb hr hml hlocks hown hts hK hsz hw ls hl
  have hown : s.vm.findClass RX11 = some m.cls := hown
  have hAw : ∀ z, Aw α n s.heap.size z → Aw α n sz z := by rw [hsz]; exact fun _ h => h
  have hl : lv_has ls 2 [(0, .ref (α 30)), (1, .int x)] := hl
  refine lv_aload_n hx hb dX11_saveSnapshot_0 rfl (lv_at hl 0 rfl) ?_
  refine lv_iconst (v := nI 0) hx hb dX11_saveSnapshot_1 (by decide) ?_
  refine x_putI (x := nI 0) (ty := .int) (C := RX11) (T := TX11) (N := 24) hx hb hts (fun _ h => List.mem_cons_of_mem _ (List.mem_append_right _ h)) tyX11 tyX11_ok nmX11 hown hK hw 30 (Nat.lt_of_lt_of_le (Nat.le_of_ble_eq_true rfl : 30 < 191) hn) (mk_30 cA α) rfl 0 (by decide) (hts _ (List.mem_of_getElem? (i := 1) rfl)) (fun _ h9 => h9) rfl rfl rfl rfl (Nat.le_of_ble_eq_true rfl) rfl dX11_saveSnapshot_2 (fun S1 eS1 H locs hw => ?_)
  refine lv_iload_n hx hb dX11_saveSnapshot_5 rfl (lv_at hl 1 rfl) ?_
  refine lv_i2l hx hb dX11_saveSnapshot_6 rfl ?_
  refine lv_lconst (v := 0) hx hb dX11_saveSnapshot_7 (by decide) ?_
  refine lv_lconst (v := 1) hx hb dX11_saveSnapshot_8 (by decide) ?_
  refine x_callSIr (q := 0) (C := RX0) (As := [.long (x.toInt64), .long (0), .long (1)]) (rest := []) ⟨hx, hb, hml, hown, hts⟩ (ct_X11_within l D cA α n _ hn S1 (x.toInt64) (0) (1)) (va_cwS 3 hts gX11_saveSnapshot_X11_within rfl rfl rfl (by decide +kernel) ⟨Nat.le_of_ble_eq_true rfl, Nat.le_of_ble_eq_true rfl⟩) hK hw hAw rfl hl.1 rfl (Nat.le_of_ble_eq_true rfl) dX11_saveSnapshot_9 ⟨Nat.zero_le _, Nat.zero_le _⟩ (fun H locs hw => ?_)
  refine xb_ne (b := (wiL (x.toInt64) (0) (1))) (tgt := 17) hx hb dX11_saveSnapshot_12 (by decide) (fun c1 => ?_) (fun c1 => ?_)
  · exact absurd (show wiL x.toInt64 0 1 = false from w2f (a := 0) (b := 1) hx9 (by decide) (by decide)) (by rw [c1]; decide)
  · skip
    refine lv_iconst (v := nI 0) hx hb dX11_saveSnapshot_15 (by decide) ?_
    exact ret_z hx hb hr (by first | rfl | decide | exact narB _) hlocks hK hw dX11_saveSnapshot_16 rfl (by subst_vars; rfl)

set_option maxRecDepth 100000 in
set_option maxHeartbeats 1000000 in
theorem ct_X11_restoreSnapshot (l : Launch) (D : va_G) (cA : Nat → ClassId) (α : Nat → Nat) (n sz : Nat) (hn : 191 ≤ n) (S : Mem) (t : Nat) (ht : t ≤ 1) (hv : ¬ S.1 40 t = 0) : CtI l yX11_restoreSnapshot wsX11_restoreSnapshot ({ frames := 1, cells := 0, slots := 0, locals := 26 }) D cA α n sz [.ref (α 30), .int (nI t)] S (b2i true) (setI (cpBl (setI S 30 0 (nI 0)) 38 39 t 34 35 0) 30 17 (nI 0)) := by
  refine ct_enter cX11_restoreSnapshot 2 (some .boolean) (by decide) rfl (Nat.le_of_ble_eq_true rfl) ?_
  intro p e s m below meth c hx hb hr hml hlocks hown hts hK hsz hw ls hl
  have hown : s.vm.findClass RX11 = some m.cls := hown
  have hAw : ∀ z, Aw α n s.heap.size z → Aw α n sz z := by rw [hsz]; exact fun _ h => h
  have hl : lv_has ls 2 [(0, .ref (α 30)), (1, .int (nI t))] := hl
  refine lv_aload_n hx hb dX11_restoreSnapshot_0 rfl (lv_at hl 0 rfl) ?_
  refine lv_iconst (v := nI 0) hx hb dX11_restoreSnapshot_1 (by decide) ?_
  refine x_putI (x := nI 0) (ty := .int) (C := RX11) (T := TX11) (N := 24) hx hb hts (fun _ h => List.mem_cons_of_mem _ (List.mem_append_right _ h)) tyX11 tyX11_ok nmX11 hown hK hw 30 (Nat.lt_of_lt_of_le (Nat.le_of_ble_eq_true rfl : 30 < 191) hn) (mk_30 cA α) rfl 0 (by decide) (hts _ (List.mem_of_getElem? (i := 1) rfl)) (fun _ h9 => h9) rfl rfl rfl rfl (Nat.le_of_ble_eq_true rfl) rfl dX11_restoreSnapshot_2 (fun S1 eS1 H locs hw => ?_)
  refine lv_iload_n hx hb dX11_restoreSnapshot_5 rfl (lv_at hl 1 rfl) ?_
  refine lv_i2l hx hb dX11_restoreSnapshot_6 rfl ?_
  refine lv_lconst (v := 0) hx hb dX11_restoreSnapshot_7 (by decide) ?_
  refine lv_lconst (v := 1) hx hb dX11_restoreSnapshot_8 (by decide) ?_
  refine x_callSIr (q := 0) (C := RX0) (As := [.long ((nI t).toInt64), .long (0), .long (1)]) (rest := []) ⟨hx, hb, hml, hown, hts⟩ (ct_X11_within l D cA α n _ hn S1 ((nI t).toInt64) (0) (1)) (va_cwS 3 hts gX11_restoreSnapshot_X11_within rfl rfl rfl (by decide +kernel) ⟨Nat.le_of_ble_eq_true rfl, Nat.le_of_ble_eq_true rfl⟩) hK hw hAw rfl hl.1 rfl (Nat.le_of_ble_eq_true rfl) dX11_restoreSnapshot_9 ⟨Nat.zero_le _, Nat.zero_le _⟩ (fun H locs hw => ?_)
  refine xb_eq (b := (wiL ((nI t).toInt64) (0) (1))) (tgt := 24) hx hb dX11_restoreSnapshot_12 (by decide) (fun c1 => ?_) (fun c1 => ?_)
  · exact absurd (show wiL (nI t).toInt64 0 1 = true from w2t (a := 0) (b := 1) (Nat.zero_le _) ht (by decide) (by decide)) (by rw [c1]; decide)
  · skip
    refine lv_aload_n hx hb dX11_restoreSnapshot_15 rfl (lv_at hl 0 rfl) ?_
    refine x_get (v := .ref (α 40)) (C := RX11) (T := TX11) (N := 24) hx hb hts (fun _ h => List.mem_cons_of_mem _ (List.mem_append_right _ h)) hown hK hw 30 (Nat.lt_of_lt_of_le (Nat.le_of_ble_eq_true rfl : 30 < 191) hn) (mk_30 cA α) rfl 20 (by decide) (hts _ (List.mem_of_getElem? (i := 2) rfl)) (fun _ h9 => h9) rfl dX11_restoreSnapshot_16 ?_
    refine lv_iload_n hx hb dX11_restoreSnapshot_19 rfl (lv_at hl 1 rfl) ?_
    refine x_zald hx hb hK hw 40 2 (Nat.lt_of_lt_of_le (Nat.le_of_ble_eq_true rfl : 40 < 191) hn) (mk_40 cA α) t rfl (by omega) (by decide) dX11_restoreSnapshot_20 ?_
    refine lv_if_ne (tgt := 26) hx hb dX11_restoreSnapshot_21 (by decide) (fun c2 => ?_) (fun c2 => ?_)
    · skip
      refine lv_aload_n hx hb dX11_restoreSnapshot_26 rfl (lv_at hl 0 rfl) ?_
      refine x_get (v := .ref (α 38)) (C := RX11) (T := TX11) (N := 24) hx hb hts (fun _ h => List.mem_cons_of_mem _ (List.mem_append_right _ h)) hown hK hw 30 (Nat.lt_of_lt_of_le (Nat.le_of_ble_eq_true rfl : 30 < 191) hn) (mk_30 cA α) rfl 18 (by decide) (hts _ (List.mem_of_getElem? (i := 3) rfl)) (fun _ h9 => h9) rfl dX11_restoreSnapshot_27 ?_
      refine lv_aload_n hx hb dX11_restoreSnapshot_30 rfl (lv_at hl 0 rfl) ?_
      refine x_get (v := .ref (α 39)) (C := RX11) (T := TX11) (N := 24) hx hb hts (fun _ h => List.mem_cons_of_mem _ (List.mem_append_right _ h)) hown hK hw 30 (Nat.lt_of_lt_of_le (Nat.le_of_ble_eq_true rfl : 30 < 191) hn) (mk_30 cA α) rfl 19 (by decide) (hts _ (List.mem_of_getElem? (i := 4) rfl)) (fun _ h9 => h9) rfl dX11_restoreSnapshot_31 ?_
      refine lv_iload_n hx hb dX11_restoreSnapshot_34 rfl (lv_at hl 1 rfl) ?_
      refine lv_aload_n hx hb dX11_restoreSnapshot_35 rfl (lv_at hl 0 rfl) ?_
      refine x_get (v := .ref (α 34)) (C := RX11) (T := TX11) (N := 24) hx hb hts (fun _ h => List.mem_cons_of_mem _ (List.mem_append_right _ h)) hown hK hw 30 (Nat.lt_of_lt_of_le (Nat.le_of_ble_eq_true rfl : 30 < 191) hn) (mk_30 cA α) rfl 13 (by decide) (hts _ (List.mem_of_getElem? (i := 5) rfl)) (fun _ h9 => h9) rfl dX11_restoreSnapshot_36 ?_
      refine lv_aload_n hx hb dX11_restoreSnapshot_39 rfl (lv_at hl 0 rfl) ?_
      refine x_get (v := .ref (α 35)) (C := RX11) (T := TX11) (N := 24) hx hb hts (fun _ h => List.mem_cons_of_mem _ (List.mem_append_right _ h)) hown hK hw 30 (Nat.lt_of_lt_of_le (Nat.le_of_ble_eq_true rfl : 30 < 191) hn) (mk_30 cA α) rfl 14 (by decide) (hts _ (List.mem_of_getElem? (i := 6) rfl)) (fun _ h9 => h9) rfl dX11_restoreSnapshot_40 ?_
      refine lv_iconst (v := nI 0) hx hb dX11_restoreSnapshot_43 (by decide) ?_
      refine x_callSV (q := 0) (C := RX0) (As := [.ref (α 38), .ref (α 39), .int (nI t), .ref (α 34), .ref (α 35), .int (nI 0)]) (rest := []) ⟨hx, hb, hml, hown, hts⟩ (ct_X11_copy_ps l D cA α n _ hn S1 t 0 (by omega) rfl) (va_cwS 6 hts gX11_restoreSnapshot_X11_copy rfl rfl rfl (by decide +kernel) ⟨Nat.le_of_ble_eq_true rfl, Nat.le_of_ble_eq_true rfl⟩) hK hw hAw rfl hl.1 rfl (Nat.le_of_ble_eq_true rfl) dX11_restoreSnapshot_44 ⟨Nat.zero_le _, Nat.zero_le _⟩ (fun S2 eS2 H locs hw => ?_)
      refine lv_aload_n hx hb dX11_restoreSnapshot_47 rfl (lv_at hl 0 rfl) ?_
      refine lv_iconst (v := nI 0) hx hb dX11_restoreSnapshot_48 (by decide) ?_
      refine x_putI (x := nI 0) (ty := .int) (C := RX11) (T := TX11) (N := 24) hx hb hts (fun _ h => List.mem_cons_of_mem _ (List.mem_append_right _ h)) tyX11 tyX11_ok nmX11 hown hK hw 30 (Nat.lt_of_lt_of_le (Nat.le_of_ble_eq_true rfl : 30 < 191) hn) (mk_30 cA α) rfl 17 (by decide) (hts _ (List.mem_of_getElem? (i := 7) rfl)) (fun _ h9 => h9) rfl rfl rfl rfl (Nat.le_of_ble_eq_true rfl) rfl dX11_restoreSnapshot_49 (fun S3 eS3 H locs hw => ?_)
      refine lv_iconst (v := nI 1) hx hb dX11_restoreSnapshot_52 (by decide) ?_
      exact ret_z hx hb hr (by first | rfl | decide | exact narB _) hlocks hK hw dX11_restoreSnapshot_53 rfl (by subst_vars; rfl)
    · exact absurd c2 (by subst eS1; exact hv)

set_option maxRecDepth 100000 in
set_option maxHeartbeats 1000000 in
theorem ct_X11_restoreSnapshotX (l : Launch) (D : va_G) (cA : Nat → ClassId) (α : Nat → Nat) (n sz : Nat) (hn : 191 ≤ n) (S : Mem) (x : Int32) (hx9 : ¬ ∃ i, 0 ≤ i ∧ i ≤ 1 ∧ x = nI i) : CtI l yX11_restoreSnapshot wsX11_restoreSnapshot ({ frames := 1, cells := 0, slots := 0, locals := 26 }) D cA α n sz [.ref (α 30), .int x] S (b2i false) (setI S 30 0 (nI 0)) := by
  refine ct_enter cX11_restoreSnapshot 2 (some .boolean) (by decide) rfl (Nat.le_of_ble_eq_true rfl) ?_
  intro p e s m below meth c hx hb hr hml hlocks hown hts hK hsz hw ls hl
  have hown : s.vm.findClass RX11 = some m.cls := hown
  have hAw : ∀ z, Aw α n s.heap.size z → Aw α n sz z := by rw [hsz]; exact fun _ h => h
  have hl : lv_has ls 2 [(0, .ref (α 30)), (1, .int x)] := hl
  refine lv_aload_n hx hb dX11_restoreSnapshot_0 rfl (lv_at hl 0 rfl) ?_
  refine lv_iconst (v := nI 0) hx hb dX11_restoreSnapshot_1 (by decide) ?_
  refine x_putI (x := nI 0) (ty := .int) (C := RX11) (T := TX11) (N := 24) hx hb hts (fun _ h => List.mem_cons_of_mem _ (List.mem_append_right _ h)) tyX11 tyX11_ok nmX11 hown hK hw 30 (Nat.lt_of_lt_of_le (Nat.le_of_ble_eq_true rfl : 30 < 191) hn) (mk_30 cA α) rfl 0 (by decide) (hts _ (List.mem_of_getElem? (i := 1) rfl)) (fun _ h9 => h9) rfl rfl rfl rfl (Nat.le_of_ble_eq_true rfl) rfl dX11_restoreSnapshot_2 (fun S1 eS1 H locs hw => ?_)
  refine lv_iload_n hx hb dX11_restoreSnapshot_5 rfl (lv_at hl 1 rfl) ?_
  refine lv_i2l hx hb dX11_restoreSnapshot_6 rfl ?_
  refine lv_lconst (v := 0) hx hb dX11_restoreSnapshot_7 (by decide) ?_
  refine lv_lconst (v := 1) hx hb dX11_restoreSnapshot_8 (by decide) ?_
  refine x_callSIr (q := 0) (C := RX0) (As := [.long (x.toInt64), .long (0), .long (1)]) (rest := []) ⟨hx, hb, hml, hown, hts⟩ (ct_X11_within l D cA α n _ hn S1 (x.toInt64) (0) (1)) (va_cwS 3 hts gX11_restoreSnapshot_X11_within rfl rfl rfl (by decide +kernel) ⟨Nat.le_of_ble_eq_true rfl, Nat.le_of_ble_eq_true rfl⟩) hK hw hAw rfl hl.1 rfl (Nat.le_of_ble_eq_true rfl) dX11_restoreSnapshot_9 ⟨Nat.zero_le _, Nat.zero_le _⟩ (fun H locs hw => ?_)
  refine xb_eq (b := (wiL (x.toInt64) (0) (1))) (tgt := 24) hx hb dX11_restoreSnapshot_12 (by decide) (fun c1 => ?_) (fun c1 => ?_)
  · skip
    refine lv_iconst (v := nI 0) hx hb dX11_restoreSnapshot_24 (by decide) ?_
    exact ret_z hx hb hr (by first | rfl | decide | exact narB _) hlocks hK hw dX11_restoreSnapshot_25 rfl (by subst_vars; rfl)
  · exact absurd (show wiL x.toInt64 0 1 = false from w2f (a := 0) (b := 1) hx9 (by decide) (by decide)) (by rw [c1]; decide)

set_option maxRecDepth 100000 in
set_option maxHeartbeats 1000000 in
theorem ct_X11_restoreSnapshotY (l : Launch) (D : va_G) (cA : Nat → ClassId) (α : Nat → Nat) (n sz : Nat) (hn : 191 ≤ n) (S : Mem) (t : Nat) (ht : t ≤ 1) (hv : S.1 40 t = 0) : CtI l yX11_restoreSnapshot wsX11_restoreSnapshot ({ frames := 1, cells := 0, slots := 0, locals := 26 }) D cA α n sz [.ref (α 30), .int (nI t)] S (b2i false) (setI S 30 0 (nI 0)) := by
  refine ct_enter cX11_restoreSnapshot 2 (some .boolean) (by decide) rfl (Nat.le_of_ble_eq_true rfl) ?_
  intro p e s m below meth c hx hb hr hml hlocks hown hts hK hsz hw ls hl
  have hown : s.vm.findClass RX11 = some m.cls := hown
  have hAw : ∀ z, Aw α n s.heap.size z → Aw α n sz z := by rw [hsz]; exact fun _ h => h
  have hl : lv_has ls 2 [(0, .ref (α 30)), (1, .int (nI t))] := hl
  refine lv_aload_n hx hb dX11_restoreSnapshot_0 rfl (lv_at hl 0 rfl) ?_
  refine lv_iconst (v := nI 0) hx hb dX11_restoreSnapshot_1 (by decide) ?_
  refine x_putI (x := nI 0) (ty := .int) (C := RX11) (T := TX11) (N := 24) hx hb hts (fun _ h => List.mem_cons_of_mem _ (List.mem_append_right _ h)) tyX11 tyX11_ok nmX11 hown hK hw 30 (Nat.lt_of_lt_of_le (Nat.le_of_ble_eq_true rfl : 30 < 191) hn) (mk_30 cA α) rfl 0 (by decide) (hts _ (List.mem_of_getElem? (i := 1) rfl)) (fun _ h9 => h9) rfl rfl rfl rfl (Nat.le_of_ble_eq_true rfl) rfl dX11_restoreSnapshot_2 (fun S1 eS1 H locs hw => ?_)
  refine lv_iload_n hx hb dX11_restoreSnapshot_5 rfl (lv_at hl 1 rfl) ?_
  refine lv_i2l hx hb dX11_restoreSnapshot_6 rfl ?_
  refine lv_lconst (v := 0) hx hb dX11_restoreSnapshot_7 (by decide) ?_
  refine lv_lconst (v := 1) hx hb dX11_restoreSnapshot_8 (by decide) ?_
  refine x_callSIr (q := 0) (C := RX0) (As := [.long ((nI t).toInt64), .long (0), .long (1)]) (rest := []) ⟨hx, hb, hml, hown, hts⟩ (ct_X11_within l D cA α n _ hn S1 ((nI t).toInt64) (0) (1)) (va_cwS 3 hts gX11_restoreSnapshot_X11_within rfl rfl rfl (by decide +kernel) ⟨Nat.le_of_ble_eq_true rfl, Nat.le_of_ble_eq_true rfl⟩) hK hw hAw rfl hl.1 rfl (Nat.le_of_ble_eq_true rfl) dX11_restoreSnapshot_9 ⟨Nat.zero_le _, Nat.zero_le _⟩ (fun H locs hw => ?_)
  refine xb_eq (b := (wiL ((nI t).toInt64) (0) (1))) (tgt := 24) hx hb dX11_restoreSnapshot_12 (by decide) (fun c1 => ?_) (fun c1 => ?_)
  · exact absurd (show wiL (nI t).toInt64 0 1 = true from w2t (a := 0) (b := 1) (Nat.zero_le _) ht (by decide) (by decide)) (by rw [c1]; decide)
  · skip
    refine lv_aload_n hx hb dX11_restoreSnapshot_15 rfl (lv_at hl 0 rfl) ?_
    refine x_get (v := .ref (α 40)) (C := RX11) (T := TX11) (N := 24) hx hb hts (fun _ h => List.mem_cons_of_mem _ (List.mem_append_right _ h)) hown hK hw 30 (Nat.lt_of_lt_of_le (Nat.le_of_ble_eq_true rfl : 30 < 191) hn) (mk_30 cA α) rfl 20 (by decide) (hts _ (List.mem_of_getElem? (i := 2) rfl)) (fun _ h9 => h9) rfl dX11_restoreSnapshot_16 ?_
    refine lv_iload_n hx hb dX11_restoreSnapshot_19 rfl (lv_at hl 1 rfl) ?_
    refine x_zald hx hb hK hw 40 2 (Nat.lt_of_lt_of_le (Nat.le_of_ble_eq_true rfl : 40 < 191) hn) (mk_40 cA α) t rfl (by omega) (by decide) dX11_restoreSnapshot_20 ?_
    refine lv_if_ne (tgt := 26) hx hb dX11_restoreSnapshot_21 (by decide) (fun c2 => ?_) (fun c2 => ?_)
    · exact absurd (by subst eS1; exact hv) c2
    · skip
      refine lv_iconst (v := nI 0) hx hb dX11_restoreSnapshot_24 (by decide) ?_
      exact ret_z hx hb hr (by first | rfl | decide | exact narB _) hlocks hK hw dX11_restoreSnapshot_25 rfl (by subst_vars; rfl)

def rRel (T : Mem) (i b : Nat) : Mem := setI (setI (setI (setI T 34 (8 + 6 * i + 4) (nI 0)) 34 (8 + 6 * b + 4) (nI 0)) 34 (8 + 6 * i + 5) (-1)) 34 (8 + 6 * b + 5) (-1)

set_option maxRecDepth 100000 in
set_option maxHeartbeats 1000000 in
theorem ct_X11_release (l : Launch) (D : va_G) (cA : Nat → ClassId) (α : Nat → Nat) (n sz : Nat) (hn : 191 ≤ n) (S : Mem) (N : Nat) (hN : S.1 34 0 = nI N) (hN2 : N ≤ 100) (i : Nat) (hi : i < N) (hs : S.1 34 (8 + 6 * i + 4) = nI 1 ∨ S.1 34 (8 + 6 * i + 4) = nI 2) (b : Nat) (hb9 : S.1 34 (8 + 6 * i + 5) = nI b) (hb8 : b < 100) (k : Nat) (hk : S.1 30 17 = nI k) (hk2 : k ≤ 10) : CtI l yX11_release wsX11_release ({ frames := 2, cells := 0, slots := 0, locals := 47 }) D cA α n sz [.ref (α 30), .int (nI i)] S (nI b) (rRel (K0 S k) i b) := by
  refine ct_enter cX11_release 3 (some .int) (by decide) rfl (Nat.le_of_ble_eq_true rfl) ?_
  intro p e s m below meth c hx hb hr hml hlocks hown hts hK hsz hw ls hl
  have hown : s.vm.findClass RX11 = some m.cls := hown
  have hAw : ∀ z, Aw α n s.heap.size z → Aw α n sz z := by rw [hsz]; exact fun _ h => h
  have hl : lv_has ls 3 [(0, .ref (α 30)), (1, .int (nI i))] := hl
  refine lv_aload_n hx hb dX11_release_0 rfl (lv_at hl 0 rfl) ?_
  refine lv_iconst (v := nI 0) hx hb dX11_release_1 (by decide) ?_
  refine x_putI (x := nI 0) (ty := .int) (C := RX11) (T := TX11) (N := 24) hx hb hts (fun _ h => List.mem_cons_of_mem _ (List.mem_append_right _ h)) tyX11 tyX11_ok nmX11 hown hK hw 30 (Nat.lt_of_lt_of_le (Nat.le_of_ble_eq_true rfl : 30 < 191) hn) (mk_30 cA α) rfl 0 (by decide) (hts _ (List.mem_of_getElem? (i := 1) rfl)) (fun _ h9 => h9) rfl rfl rfl rfl (Nat.le_of_ble_eq_true rfl) rfl dX11_release_2 (fun S1 eS1 H locs hw => ?_)
  refine lv_aload_n hx hb dX11_release_5 rfl (lv_at hl 0 rfl) ?_
  refine lv_iload_n hx hb dX11_release_6 rfl (lv_at hl 1 rfl) ?_
  refine x_callVIr (q := 30) (C := RX11) (As := [.int (nI i)]) (rest := []) ⟨hx, hb, hml, hown, hts⟩ (ct_X11_isItem l D cA α n _ hn S1 (nI i)) (cwV 1 hts gX11_release_X11_isItem rfl rfl rfl (by decide +kernel) ⟨Nat.le_of_ble_eq_true rfl, Nat.le_of_ble_eq_true rfl⟩) hK hw hAw (ws_recv hK hw (q := 30) (Nat.lt_of_lt_of_le (Nat.le_of_ble_eq_true rfl : 30 < 191) hn) (mk_30 cA α) rfl) rfl hl.1 rfl (Nat.le_of_ble_eq_true rfl) dX11_release_7 ⟨Nat.zero_le _, Nat.zero_le _⟩ (fun H locs hw => ?_)
  refine xb_ne (b := (isItR S1 (nI i))) (tgt := 19) hx hb dX11_release_10 (by decide) (fun c1 => ?_) (fun c1 => ?_)
  · skip
    refine lv_aload_n hx hb dX11_release_19 rfl (lv_at hl 0 rfl) ?_
    refine lv_iload_n hx hb dX11_release_20 rfl (lv_at hl 1 rfl) ?_
    refine lv_iconst (v := nI 4) hx hb dX11_release_21 (by decide) ?_
    refine x_callVIr (q := 30) (C := RX11) (As := [.int (nI i), .int (nI 4)]) (rest := []) ⟨hx, hb, hml, hown, hts⟩ (ct_X11_of l D cA α n _ hn S1 i 4 (by omega)) (cwV 2 hts gX11_release_X11_of rfl rfl rfl (by decide +kernel) ⟨Nat.le_of_ble_eq_true rfl, Nat.le_of_ble_eq_true rfl⟩) hK hw hAw (ws_recv hK hw (q := 30) (Nat.lt_of_lt_of_le (Nat.le_of_ble_eq_true rfl : 30 < 191) hn) (mk_30 cA α) rfl) rfl hl.1 rfl (Nat.le_of_ble_eq_true rfl) dX11_release_22 ⟨Nat.zero_le _, Nat.zero_le _⟩ (fun H locs hw => ?_)
    refine x_topE (y := S.1 34 (8 + 6 * i + 4)) (by subst_vars; rfl) ?_
    refine lv_iconst (v := nI 1) hx hb dX11_release_25 (by decide) ?_
    refine lv_icmp_eq (tgt := 45) hx hb dX11_release_26 (by decide) (fun c2 => ?_) (fun c2 => ?_)
    · skip
      refine lv_aload_n hx hb dX11_release_45 rfl (lv_at hl 0 rfl) ?_
      refine x_callVV (q := 30) (C := RX11) (As := []) (rest := []) ⟨hx, hb, hml, hown, hts⟩ (ct_X11_keepU l D cA α n _ hn S1 k (by subst eS1; exact hk) hk2) (cwV 0 hts gX11_release_X11_keep rfl rfl rfl (by decide +kernel) ⟨Nat.le_of_ble_eq_true rfl, Nat.le_of_ble_eq_true rfl⟩) hK hw hAw (ws_recv hK hw (q := 30) (Nat.lt_of_lt_of_le (Nat.le_of_ble_eq_true rfl : 30 < 191) hn) (mk_30 cA α) rfl) rfl hl.1 rfl (Nat.le_of_ble_eq_true rfl) dX11_release_46 ⟨Nat.zero_le _, Nat.zero_le _⟩ (fun S2 eS2 H locs hw => ?_)
      refine lv_aload_n hx hb dX11_release_49 rfl (lv_at hl 0 rfl) ?_
      refine lv_iload_n hx hb dX11_release_50 rfl (lv_at hl 1 rfl) ?_
      refine lv_iconst (v := nI 5) hx hb dX11_release_51 (by decide) ?_
      refine x_callVIr (q := 30) (C := RX11) (As := [.int (nI i), .int (nI 5)]) (rest := []) ⟨hx, hb, hml, hown, hts⟩ (ct_X11_of l D cA α n _ hn S2 i 5 (by omega)) (cwV 2 hts gX11_release_X11_of rfl rfl rfl (by decide +kernel) ⟨Nat.le_of_ble_eq_true rfl, Nat.le_of_ble_eq_true rfl⟩) hK hw hAw (ws_recv hK hw (q := 30) (Nat.lt_of_lt_of_le (Nat.le_of_ble_eq_true rfl : 30 < 191) hn) (mk_30 cA α) rfl) rfl hl.1 rfl (Nat.le_of_ble_eq_true rfl) dX11_release_52 ⟨Nat.zero_le _, Nat.zero_le _⟩ (fun H locs hw => ?_)
      refine x_topN (k := b) (by subst eS2; subst eS1; exact (congrFun (K0_34 S k) _).trans hb9) ?_
      refine lv_istore_n (lv' := [(2, .int (nI b)), (0, .ref (α 30)), (1, .int (nI i))]) hx hb dX11_release_55 rfl hl (by decide) rfl (fun ls hl => ?_)
      refine lv_aload_n hx hb dX11_release_56 rfl (lv_at hl 1 rfl) ?_
      refine lv_iload_n hx hb dX11_release_57 rfl (lv_at hl 2 rfl) ?_
      refine lv_iconst (v := nI 4) hx hb dX11_release_58 (by decide) ?_
      refine lv_iconst (v := nI 0) hx hb dX11_release_59 (by decide) ?_
      refine x_callVV (q := 30) (C := RX11) (As := [.int (nI i), .int (nI 4), .int (nI 0)]) (rest := []) ⟨hx, hb, hml, hown, hts⟩ (ct_X11_put l D cA α n _ hn S2 i 4 (nI 0) (by omega)) (cwV 3 hts gX11_release_X11_put rfl rfl rfl (by decide +kernel) ⟨Nat.le_of_ble_eq_true rfl, Nat.le_of_ble_eq_true rfl⟩) hK hw hAw (ws_recv hK hw (q := 30) (Nat.lt_of_lt_of_le (Nat.le_of_ble_eq_true rfl : 30 < 191) hn) (mk_30 cA α) rfl) rfl hl.1 rfl (Nat.le_of_ble_eq_true rfl) dX11_release_60 ⟨Nat.zero_le _, Nat.zero_le _⟩ (fun S3 eS3 H locs hw => ?_)
      refine lv_aload_n hx hb dX11_release_63 rfl (lv_at hl 1 rfl) ?_
      refine lv_iload_n hx hb dX11_release_64 rfl (lv_at hl 0 rfl) ?_
      refine lv_iconst (v := nI 4) hx hb dX11_release_65 (by decide) ?_
      refine lv_iconst (v := nI 0) hx hb dX11_release_66 (by decide) ?_
      refine x_callVV (q := 30) (C := RX11) (As := [.int (nI b), .int (nI 4), .int (nI 0)]) (rest := []) ⟨hx, hb, hml, hown, hts⟩ (ct_X11_put l D cA α n _ hn S3 b 4 (nI 0) (by omega)) (cwV 3 hts gX11_release_X11_put rfl rfl rfl (by decide +kernel) ⟨Nat.le_of_ble_eq_true rfl, Nat.le_of_ble_eq_true rfl⟩) hK hw hAw (ws_recv hK hw (q := 30) (Nat.lt_of_lt_of_le (Nat.le_of_ble_eq_true rfl : 30 < 191) hn) (mk_30 cA α) rfl) rfl hl.1 rfl (Nat.le_of_ble_eq_true rfl) dX11_release_67 ⟨Nat.zero_le _, Nat.zero_le _⟩ (fun S4 eS4 H locs hw => ?_)
      refine lv_aload_n hx hb dX11_release_70 rfl (lv_at hl 1 rfl) ?_
      refine lv_iload_n hx hb dX11_release_71 rfl (lv_at hl 2 rfl) ?_
      refine lv_iconst (v := nI 5) hx hb dX11_release_72 (by decide) ?_
      refine lv_iconst (v := (-1)) hx hb dX11_release_73 (by decide) ?_
      refine x_callVV (q := 30) (C := RX11) (As := [.int (nI i), .int (nI 5), .int (-1)]) (rest := []) ⟨hx, hb, hml, hown, hts⟩ (ct_X11_put l D cA α n _ hn S4 i 5 (-1) (by omega)) (cwV 3 hts gX11_release_X11_put rfl rfl rfl (by decide +kernel) ⟨Nat.le_of_ble_eq_true rfl, Nat.le_of_ble_eq_true rfl⟩) hK hw hAw (ws_recv hK hw (q := 30) (Nat.lt_of_lt_of_le (Nat.le_of_ble_eq_true rfl : 30 < 191) hn) (mk_30 cA α) rfl) rfl hl.1 rfl (Nat.le_of_ble_eq_true rfl) dX11_release_74 ⟨Nat.zero_le _, Nat.zero_le _⟩ (fun S5 eS5 H locs hw => ?_)
      refine lv_aload_n hx hb dX11_release_77 rfl (lv_at hl 1 rfl) ?_
      refine lv_iload_n hx hb dX11_release_78 rfl (lv_at hl 0 rfl) ?_
      refine lv_iconst (v := nI 5) hx hb dX11_release_79 (by decide) ?_
      refine lv_iconst (v := (-1)) hx hb dX11_release_80 (by decide) ?_
      refine x_callVV (q := 30) (C := RX11) (As := [.int (nI b), .int (nI 5), .int (-1)]) (rest := []) ⟨hx, hb, hml, hown, hts⟩ (ct_X11_put l D cA α n _ hn S5 b 5 (-1) (by omega)) (cwV 3 hts gX11_release_X11_put rfl rfl rfl (by decide +kernel) ⟨Nat.le_of_ble_eq_true rfl, Nat.le_of_ble_eq_true rfl⟩) hK hw hAw (ws_recv hK hw (q := 30) (Nat.lt_of_lt_of_le (Nat.le_of_ble_eq_true rfl : 30 < 191) hn) (mk_30 cA α) rfl) rfl hl.1 rfl (Nat.le_of_ble_eq_true rfl) dX11_release_81 ⟨Nat.zero_le _, Nat.zero_le _⟩ (fun S6 eS6 H locs hw => ?_)
      refine lv_iload_n hx hb dX11_release_84 rfl (lv_at hl 0 rfl) ?_
      exact ret_i hx hb hr hlocks hK hw dX11_release_85 rfl (by subst_vars; rfl)
    · skip
      refine lv_aload_n hx hb dX11_release_29 rfl (lv_at hl 0 rfl) ?_
      refine lv_iload_n hx hb dX11_release_30 rfl (lv_at hl 1 rfl) ?_
      refine lv_iconst (v := nI 4) hx hb dX11_release_31 (by decide) ?_
      refine x_callVIr (q := 30) (C := RX11) (As := [.int (nI i), .int (nI 4)]) (rest := []) ⟨hx, hb, hml, hown, hts⟩ (ct_X11_of l D cA α n _ hn S1 i 4 (by omega)) (cwV 2 hts gX11_release_X11_of rfl rfl rfl (by decide +kernel) ⟨Nat.le_of_ble_eq_true rfl, Nat.le_of_ble_eq_true rfl⟩) hK hw hAw (ws_recv hK hw (q := 30) (Nat.lt_of_lt_of_le (Nat.le_of_ble_eq_true rfl : 30 < 191) hn) (mk_30 cA α) rfl) rfl hl.1 rfl (Nat.le_of_ble_eq_true rfl) dX11_release_32 ⟨Nat.zero_le _, Nat.zero_le _⟩ (fun H locs hw => ?_)
      refine x_topE (y := S.1 34 (8 + 6 * i + 4)) (by subst_vars; rfl) ?_
      refine lv_iconst (v := nI 2) hx hb dX11_release_35 (by decide) ?_
      refine lv_icmp_eq (tgt := 45) hx hb dX11_release_36 (by decide) (fun c3 => ?_) (fun c3 => ?_)
      · skip
        refine lv_aload_n hx hb dX11_release_45 rfl (lv_at hl 0 rfl) ?_
        refine x_callVV (q := 30) (C := RX11) (As := []) (rest := []) ⟨hx, hb, hml, hown, hts⟩ (ct_X11_keepU l D cA α n _ hn S1 k (by subst eS1; exact hk) hk2) (cwV 0 hts gX11_release_X11_keep rfl rfl rfl (by decide +kernel) ⟨Nat.le_of_ble_eq_true rfl, Nat.le_of_ble_eq_true rfl⟩) hK hw hAw (ws_recv hK hw (q := 30) (Nat.lt_of_lt_of_le (Nat.le_of_ble_eq_true rfl : 30 < 191) hn) (mk_30 cA α) rfl) rfl hl.1 rfl (Nat.le_of_ble_eq_true rfl) dX11_release_46 ⟨Nat.zero_le _, Nat.zero_le _⟩ (fun S7 eS7 H locs hw => ?_)
        refine lv_aload_n hx hb dX11_release_49 rfl (lv_at hl 0 rfl) ?_
        refine lv_iload_n hx hb dX11_release_50 rfl (lv_at hl 1 rfl) ?_
        refine lv_iconst (v := nI 5) hx hb dX11_release_51 (by decide) ?_
        refine x_callVIr (q := 30) (C := RX11) (As := [.int (nI i), .int (nI 5)]) (rest := []) ⟨hx, hb, hml, hown, hts⟩ (ct_X11_of l D cA α n _ hn S7 i 5 (by omega)) (cwV 2 hts gX11_release_X11_of rfl rfl rfl (by decide +kernel) ⟨Nat.le_of_ble_eq_true rfl, Nat.le_of_ble_eq_true rfl⟩) hK hw hAw (ws_recv hK hw (q := 30) (Nat.lt_of_lt_of_le (Nat.le_of_ble_eq_true rfl : 30 < 191) hn) (mk_30 cA α) rfl) rfl hl.1 rfl (Nat.le_of_ble_eq_true rfl) dX11_release_52 ⟨Nat.zero_le _, Nat.zero_le _⟩ (fun H locs hw => ?_)
        refine x_topN (k := b) (by subst eS7; subst eS1; exact (congrFun (K0_34 S k) _).trans hb9) ?_
        refine lv_istore_n (lv' := [(2, .int (nI b)), (0, .ref (α 30)), (1, .int (nI i))]) hx hb dX11_release_55 rfl hl (by decide) rfl (fun ls hl => ?_)
        refine lv_aload_n hx hb dX11_release_56 rfl (lv_at hl 1 rfl) ?_
        refine lv_iload_n hx hb dX11_release_57 rfl (lv_at hl 2 rfl) ?_
        refine lv_iconst (v := nI 4) hx hb dX11_release_58 (by decide) ?_
        refine lv_iconst (v := nI 0) hx hb dX11_release_59 (by decide) ?_
        refine x_callVV (q := 30) (C := RX11) (As := [.int (nI i), .int (nI 4), .int (nI 0)]) (rest := []) ⟨hx, hb, hml, hown, hts⟩ (ct_X11_put l D cA α n _ hn S7 i 4 (nI 0) (by omega)) (cwV 3 hts gX11_release_X11_put rfl rfl rfl (by decide +kernel) ⟨Nat.le_of_ble_eq_true rfl, Nat.le_of_ble_eq_true rfl⟩) hK hw hAw (ws_recv hK hw (q := 30) (Nat.lt_of_lt_of_le (Nat.le_of_ble_eq_true rfl : 30 < 191) hn) (mk_30 cA α) rfl) rfl hl.1 rfl (Nat.le_of_ble_eq_true rfl) dX11_release_60 ⟨Nat.zero_le _, Nat.zero_le _⟩ (fun S8 eS8 H locs hw => ?_)
        refine lv_aload_n hx hb dX11_release_63 rfl (lv_at hl 1 rfl) ?_
        refine lv_iload_n hx hb dX11_release_64 rfl (lv_at hl 0 rfl) ?_
        refine lv_iconst (v := nI 4) hx hb dX11_release_65 (by decide) ?_
        refine lv_iconst (v := nI 0) hx hb dX11_release_66 (by decide) ?_
        refine x_callVV (q := 30) (C := RX11) (As := [.int (nI b), .int (nI 4), .int (nI 0)]) (rest := []) ⟨hx, hb, hml, hown, hts⟩ (ct_X11_put l D cA α n _ hn S8 b 4 (nI 0) (by omega)) (cwV 3 hts gX11_release_X11_put rfl rfl rfl (by decide +kernel) ⟨Nat.le_of_ble_eq_true rfl, Nat.le_of_ble_eq_true rfl⟩) hK hw hAw (ws_recv hK hw (q := 30) (Nat.lt_of_lt_of_le (Nat.le_of_ble_eq_true rfl : 30 < 191) hn) (mk_30 cA α) rfl) rfl hl.1 rfl (Nat.le_of_ble_eq_true rfl) dX11_release_67 ⟨Nat.zero_le _, Nat.zero_le _⟩ (fun S9 eS9 H locs hw => ?_)
        refine lv_aload_n hx hb dX11_release_70 rfl (lv_at hl 1 rfl) ?_
        refine lv_iload_n hx hb dX11_release_71 rfl (lv_at hl 2 rfl) ?_
        refine lv_iconst (v := nI 5) hx hb dX11_release_72 (by decide) ?_
        refine lv_iconst (v := (-1)) hx hb dX11_release_73 (by decide) ?_
        refine x_callVV (q := 30) (C := RX11) (As := [.int (nI i), .int (nI 5), .int (-1)]) (rest := []) ⟨hx, hb, hml, hown, hts⟩ (ct_X11_put l D cA α n _ hn S9 i 5 (-1) (by omega)) (cwV 3 hts gX11_release_X11_put rfl rfl rfl (by decide +kernel) ⟨Nat.le_of_ble_eq_true rfl, Nat.le_of_ble_eq_true rfl⟩) hK hw hAw (ws_recv hK hw (q := 30) (Nat.lt_of_lt_of_le (Nat.le_of_ble_eq_true rfl : 30 < 191) hn) (mk_30 cA α) rfl) rfl hl.1 rfl (Nat.le_of_ble_eq_true rfl) dX11_release_74 ⟨Nat.zero_le _, Nat.zero_le _⟩ (fun S10 eS10 H locs hw => ?_)
        refine lv_aload_n hx hb dX11_release_77 rfl (lv_at hl 1 rfl) ?_
        refine lv_iload_n hx hb dX11_release_78 rfl (lv_at hl 0 rfl) ?_
        refine lv_iconst (v := nI 5) hx hb dX11_release_79 (by decide) ?_
        refine lv_iconst (v := (-1)) hx hb dX11_release_80 (by decide) ?_
        refine x_callVV (q := 30) (C := RX11) (As := [.int (nI b), .int (nI 5), .int (-1)]) (rest := []) ⟨hx, hb, hml, hown, hts⟩ (ct_X11_put l D cA α n _ hn S10 b 5 (-1) (by omega)) (cwV 3 hts gX11_release_X11_put rfl rfl rfl (by decide +kernel) ⟨Nat.le_of_ble_eq_true rfl, Nat.le_of_ble_eq_true rfl⟩) hK hw hAw (ws_recv hK hw (q := 30) (Nat.lt_of_lt_of_le (Nat.le_of_ble_eq_true rfl : 30 < 191) hn) (mk_30 cA α) rfl) rfl hl.1 rfl (Nat.le_of_ble_eq_true rfl) dX11_release_81 ⟨Nat.zero_le _, Nat.zero_le _⟩ (fun S11 eS11 H locs hw => ?_)
        refine lv_iload_n hx hb dX11_release_84 rfl (lv_at hl 0 rfl) ?_
        exact ret_i hx hb hr hlocks hK hw dX11_release_85 rfl (by subst_vars; rfl)
      · exact absurd c3 (fun q => by rcases hs with h | h; exact c2 h; exact q h)
  · exact absurd (isIt_t (S := S1) (by subst eS1; exact hN) hN2 hi) (by rw [c1]; decide)

set_option maxRecDepth 100000 in
set_option maxHeartbeats 1000000 in
theorem ct_X11_releaseX (l : Launch) (D : va_G) (cA : Nat → ClassId) (α : Nat → Nat) (n sz : Nat) (hn : 191 ≤ n) (S : Mem) (N : Nat) (hN : S.1 34 0 = nI N) (hN2 : N ≤ 100) (x : Int32) (hx9 : ¬ ∃ i, i < N ∧ x = nI i) : CtI l yX11_release wsX11_release ({ frames := 2, cells := 0, slots := 0, locals := 47 }) D cA α n sz [.ref (α 30), .int x] S (nI 0) (setI (setI S 30 0 (nI 0)) 30 0 (nI 1)) := by
  refine ct_enter cX11_release 3 (some .int) (by decide) rfl (Nat.le_of_ble_eq_true rfl) ?_
  intro p e s m below meth c hx hb hr hml hlocks hown hts hK hsz hw ls hl
  have hown : s.vm.findClass RX11 = some m.cls := hown
  have hAw : ∀ z, Aw α n s.heap.size z → Aw α n sz z := by rw [hsz]; exact fun _ h => h
  have hl : lv_has ls 3 [(0, .ref (α 30)), (1, .int x)] := hl
  refine lv_aload_n hx hb dX11_release_0 rfl (lv_at hl 0 rfl) ?_
  refine lv_iconst (v := nI 0) hx hb dX11_release_1 (by decide) ?_
  refine x_putI (x := nI 0) (ty := .int) (C := RX11) (T := TX11) (N := 24) hx hb hts (fun _ h => List.mem_cons_of_mem _ (List.mem_append_right _ h)) tyX11 tyX11_ok nmX11 hown hK hw 30 (Nat.lt_of_lt_of_le (Nat.le_of_ble_eq_true rfl : 30 < 191) hn) (mk_30 cA α) rfl 0 (by decide) (hts _ (List.mem_of_getElem? (i := 1) rfl)) (fun _ h9 => h9) rfl rfl rfl rfl (Nat.le_of_ble_eq_true rfl) rfl dX11_release_2 (fun S1 eS1 H locs hw => ?_)
  refine lv_aload_n hx hb dX11_release_5 rfl (lv_at hl 0 rfl) ?_
  refine lv_iload_n hx hb dX11_release_6 rfl (lv_at hl 1 rfl) ?_
  refine x_callVIr (q := 30) (C := RX11) (As := [.int x]) (rest := []) ⟨hx, hb, hml, hown, hts⟩ (ct_X11_isItem l D cA α n _ hn S1 x) (cwV 1 hts gX11_release_X11_isItem rfl rfl rfl (by decide +kernel) ⟨Nat.le_of_ble_eq_true rfl, Nat.le_of_ble_eq_true rfl⟩) hK hw hAw (ws_recv hK hw (q := 30) (Nat.lt_of_lt_of_le (Nat.le_of_ble_eq_true rfl : 30 < 191) hn) (mk_30 cA α) rfl) rfl hl.1 rfl (Nat.le_of_ble_eq_true rfl) dX11_release_7 ⟨Nat.zero_le _, Nat.zero_le _⟩ (fun H locs hw => ?_)
  refine xb_ne (b := (isItR S1 x)) (tgt := 19) hx hb dX11_release_10 (by decide) (fun c1 => ?_) (fun c1 => ?_)
  · exact absurd (isIt_f (S := S1) (by subst eS1; exact hN) hN2 hx9) (by rw [c1]; decide)
  · skip
    refine lv_aload_n hx hb dX11_release_13 rfl (lv_at hl 0 rfl) ?_
    refine lv_iconst (v := nI 1) hx hb dX11_release_14 (by decide) ?_
    refine x_callVI (q := 30) (C := RX11) (As := [.int (nI 1)]) (rest := []) ⟨hx, hb, hml, hown, hts⟩ (ct_X11_fail l D cA α n _ hn S1 (nI 1)) (cwV 1 hts gX11_release_X11_fail rfl rfl rfl (by decide +kernel) ⟨Nat.le_of_ble_eq_true rfl, Nat.le_of_ble_eq_true rfl⟩) hK hw hAw (ws_recv hK hw (q := 30) (Nat.lt_of_lt_of_le (Nat.le_of_ble_eq_true rfl : 30 < 191) hn) (mk_30 cA α) rfl) rfl hl.1 rfl (Nat.le_of_ble_eq_true rfl) dX11_release_15 ⟨Nat.zero_le _, Nat.zero_le _⟩ (fun S2 eS2 H locs hw => ?_)
    exact ret_i hx hb hr hlocks hK hw dX11_release_18 rfl (by subst_vars; rfl)

set_option maxRecDepth 100000 in
set_option maxHeartbeats 1000000 in
theorem ct_X11_releaseY (l : Launch) (D : va_G) (cA : Nat → ClassId) (α : Nat → Nat) (n sz : Nat) (hn : 191 ≤ n) (S : Mem) (N : Nat) (hN : S.1 34 0 = nI N) (hN2 : N ≤ 100) (i : Nat) (hi : i < N) (hs1 : ¬ S.1 34 (8 + 6 * i + 4) = nI 1) (hs2 : ¬ S.1 34 (8 + 6 * i + 4) = nI 2) : CtI l yX11_release wsX11_release ({ frames := 2, cells := 0, slots := 0, locals := 47 }) D cA α n sz [.ref (α 30), .int (nI i)] S (nI 0) (setI (setI S 30 0 (nI 0)) 30 0 (nI 2)) := by
  refine ct_enter cX11_release 3 (some .int) (by decide) rfl (Nat.le_of_ble_eq_true rfl) ?_
  intro p e s m below meth c hx hb hr hml hlocks hown hts hK hsz hw ls hl
  have hown : s.vm.findClass RX11 = some m.cls := hown
  have hAw : ∀ z, Aw α n s.heap.size z → Aw α n sz z := by rw [hsz]; exact fun _ h => h
  have hl : lv_has ls 3 [(0, .ref (α 30)), (1, .int (nI i))] := hl
  refine lv_aload_n hx hb dX11_release_0 rfl (lv_at hl 0 rfl) ?_
  refine lv_iconst (v := nI 0) hx hb dX11_release_1 (by decide) ?_
  refine x_putI (x := nI 0) (ty := .int) (C := RX11) (T := TX11) (N := 24) hx hb hts (fun _ h => List.mem_cons_of_mem _ (List.mem_append_right _ h)) tyX11 tyX11_ok nmX11 hown hK hw 30 (Nat.lt_of_lt_of_le (Nat.le_of_ble_eq_true rfl : 30 < 191) hn) (mk_30 cA α) rfl 0 (by decide) (hts _ (List.mem_of_getElem? (i := 1) rfl)) (fun _ h9 => h9) rfl rfl rfl rfl (Nat.le_of_ble_eq_true rfl) rfl dX11_release_2 (fun S1 eS1 H locs hw => ?_)
  refine lv_aload_n hx hb dX11_release_5 rfl (lv_at hl 0 rfl) ?_
  refine lv_iload_n hx hb dX11_release_6 rfl (lv_at hl 1 rfl) ?_
  refine x_callVIr (q := 30) (C := RX11) (As := [.int (nI i)]) (rest := []) ⟨hx, hb, hml, hown, hts⟩ (ct_X11_isItem l D cA α n _ hn S1 (nI i)) (cwV 1 hts gX11_release_X11_isItem rfl rfl rfl (by decide +kernel) ⟨Nat.le_of_ble_eq_true rfl, Nat.le_of_ble_eq_true rfl⟩) hK hw hAw (ws_recv hK hw (q := 30) (Nat.lt_of_lt_of_le (Nat.le_of_ble_eq_true rfl : 30 < 191) hn) (mk_30 cA α) rfl) rfl hl.1 rfl (Nat.le_of_ble_eq_true rfl) dX11_release_7 ⟨Nat.zero_le _, Nat.zero_le _⟩ (fun H locs hw => ?_)
  refine xb_ne (b := (isItR S1 (nI i))) (tgt := 19) hx hb dX11_release_10 (by decide) (fun c1 => ?_) (fun c1 => ?_)
  · skip
    refine lv_aload_n hx hb dX11_release_19 rfl (lv_at hl 0 rfl) ?_
    refine lv_iload_n hx hb dX11_release_20 rfl (lv_at hl 1 rfl) ?_
    refine lv_iconst (v := nI 4) hx hb dX11_release_21 (by decide) ?_
    refine x_callVIr (q := 30) (C := RX11) (As := [.int (nI i), .int (nI 4)]) (rest := []) ⟨hx, hb, hml, hown, hts⟩ (ct_X11_of l D cA α n _ hn S1 i 4 (by omega)) (cwV 2 hts gX11_release_X11_of rfl rfl rfl (by decide +kernel) ⟨Nat.le_of_ble_eq_true rfl, Nat.le_of_ble_eq_true rfl⟩) hK hw hAw (ws_recv hK hw (q := 30) (Nat.lt_of_lt_of_le (Nat.le_of_ble_eq_true rfl : 30 < 191) hn) (mk_30 cA α) rfl) rfl hl.1 rfl (Nat.le_of_ble_eq_true rfl) dX11_release_22 ⟨Nat.zero_le _, Nat.zero_le _⟩ (fun H locs hw => ?_)
    refine x_topE (y := S.1 34 (8 + 6 * i + 4)) (by subst_vars; rfl) ?_
    refine lv_iconst (v := nI 1) hx hb dX11_release_25 (by decide) ?_
    refine lv_icmp_eq (tgt := 45) hx hb dX11_release_26 (by decide) (fun c2 => ?_) (fun c2 => ?_)
    · exact absurd c2 hs1
    · skip
      refine lv_aload_n hx hb dX11_release_29 rfl (lv_at hl 0 rfl) ?_
      refine lv_iload_n hx hb dX11_release_30 rfl (lv_at hl 1 rfl) ?_
      refine lv_iconst (v := nI 4) hx hb dX11_release_31 (by decide) ?_
      refine x_callVIr (q := 30) (C := RX11) (As := [.int (nI i), .int (nI 4)]) (rest := []) ⟨hx, hb, hml, hown, hts⟩ (ct_X11_of l D cA α n _ hn S1 i 4 (by omega)) (cwV 2 hts gX11_release_X11_of rfl rfl rfl (by decide +kernel) ⟨Nat.le_of_ble_eq_true rfl, Nat.le_of_ble_eq_true rfl⟩) hK hw hAw (ws_recv hK hw (q := 30) (Nat.lt_of_lt_of_le (Nat.le_of_ble_eq_true rfl : 30 < 191) hn) (mk_30 cA α) rfl) rfl hl.1 rfl (Nat.le_of_ble_eq_true rfl) dX11_release_32 ⟨Nat.zero_le _, Nat.zero_le _⟩ (fun H locs hw => ?_)
      refine x_topE (y := S.1 34 (8 + 6 * i + 4)) (by subst_vars; rfl) ?_
      refine lv_iconst (v := nI 2) hx hb dX11_release_35 (by decide) ?_
      refine lv_icmp_eq (tgt := 45) hx hb dX11_release_36 (by decide) (fun c3 => ?_) (fun c3 => ?_)
      · exact absurd c3 hs2
      · skip
        refine lv_aload_n hx hb dX11_release_39 rfl (lv_at hl 0 rfl) ?_
        refine lv_iconst (v := nI 2) hx hb dX11_release_40 (by decide) ?_
        refine x_callVI (q := 30) (C := RX11) (As := [.int (nI 2)]) (rest := []) ⟨hx, hb, hml, hown, hts⟩ (ct_X11_fail l D cA α n _ hn S1 (nI 2)) (cwV 1 hts gX11_release_X11_fail rfl rfl rfl (by decide +kernel) ⟨Nat.le_of_ble_eq_true rfl, Nat.le_of_ble_eq_true rfl⟩) hK hw hAw (ws_recv hK hw (q := 30) (Nat.lt_of_lt_of_le (Nat.le_of_ble_eq_true rfl : 30 < 191) hn) (mk_30 cA α) rfl) rfl hl.1 rfl (Nat.le_of_ble_eq_true rfl) dX11_release_41 ⟨Nat.zero_le _, Nat.zero_le _⟩ (fun S2 eS2 H locs hw => ?_)
        exact ret_i hx hb hr hlocks hK hw dX11_release_44 rfl (by subst_vars; rfl)
  · exact absurd (isIt_t (S := S1) (by subst eS1; exact hN) hN2 hi) (by rw [c1]; decide)
