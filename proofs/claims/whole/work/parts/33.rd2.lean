/-! the reader of the class: the six statements -/
theorem m2_ne {y : Nat} (h : y < 1000000) : ¬ ((-2 : Int32) - nI y) = 0 := by
  intro e
  have h1 : (-2 : Int32) = nI y := by
    have h2 := congrArg (fun z : Int32 => z + nI y) e
    simp only [Int32.sub_add_cancel, Int32.zero_add] at h2
    exact h2
  have h3 := congrArg Int32.toInt h1
  rw [nI_ti (by omega)] at h3
  have h4 : (-2 : Int32).toInt = -2 := by decide
  omega
theorem cRef_ne {S : Mem} (h : okP S) {x : Nat} (hx : x < 5) : ¬ (cRef S (nI x)).1 1 7 = 0 := by
  unfold cRef
  rw [sI_e, pk_us, h.2.2.2.2.1, pk_mul, nI_add]
  have := h.2.1
  have := h.2.2.2.1
  have := h.2.2.2.2.2
  exact m2_ne (by omega)
def cFin (S : Mem) (T : Mem) : Mem := if (cSc S).1 1 7 = 0 then T else cSc S
def cN1 (S : Mem) (lo hi : Int32) : Mem × Int32 := cNum (tk S) lo hi
def cCur (S : Mem) (k : Nat) : Mem := cFin (cN1 S (nI 1) (nI 9999)).1 (setI (setI (cSc (cN1 S (nI 1) (nI 9999)).1) 17 k (cN1 S (nI 1) (nI 9999)).2) 16 0 (nI (k + 1)))
def cCom (S : Mem) (k : Nat) : Mem := cFin (cN1 S (nI 0) (S.1 16 0 - nI 1)).1 (setI (setI (cSc (cN1 S (nI 0) (S.1 16 0 - nI 1)).1) 18 k (cN1 S (nI 0) (S.1 16 0 - nI 1)).2) 16 1 (nI (k + 1)))
def cP2 (S : Mem) : Mem × Int32 := cNum (cN1 S (nI 0) (S.1 16 1 - nI 1)).1 (nI 1) (nI 9999)
def cP3 (S : Mem) : Mem × Int32 := cNum (cP2 S).1 (nI 0) (nI 99)
def cP4 (S : Mem) : Mem × Int32 := cNum (cP3 S).1 (cP3 S).2 (nI 999)
def cAdd (T : Mem) (k : Nat) (x y u v : Int32) : Mem := setI (setI (setI (setI (setI T 19 k x) 20 k y) 21 k (y + y * u / nI 100)) 22 k (y + y * v / nI 100)) 16 2 (nI (k + 1))
def cPro (S : Mem) (k : Nat) : Mem := cFin (cP4 S).1 (cAdd (cSc (cP4 S).1) k (cN1 S (nI 0) (S.1 16 1 - nI 1)).2 (cP2 S).2 (cP3 S).2 (cP4 S).2)
/-- tolerance, center, fee: flag f, place g of the draft -/
def cOc1 (S : Mem) (f : Nat) (lo hi : Int32) : Mem × Int32 := cNum (setI (tk S) 1 f (nI 1)) lo hi
def cOc (S : Mem) (f g : Nat) (hi : Int32) : Mem := cSc (setI (cOc1 S f (nI 0) hi).1 16 g (cOc1 S f (nI 0) hi).2)
def cOcB (S : Mem) (f g : Nat) : Mem := setI (setI (cRef S (nI 2)) 1 f (nI 1)) 16 g (nI 0)
theorem okP_fl {S : Mem} (h : okP S) {f : Nat} {x : Int32} (hf : 7 ≤ f) : okP (setI S 1 f x) := okP_of h (by rw [sI_e, pk_un (by omega)]) (by rw [sI_e, pk_un (by omega)]) (by rw [sI_e, pk_un (by omega)])
theorem okP_o {S : Mem} (h : okP S) {q g : Nat} {x : Int32} (hq : q ≠ 1) : okP (setI S q g x) := okP_of h (by rw [sI_1 (Ne.symm hq)]) (by rw [sI_1 (Ne.symm hq)]) (by rw [sI_1 (Ne.symm hq)])
theorem cN1_k (S : Mem) (lo hi : Int32) {z : Nat} (h : z ≠ 1) : (cN1 S lo hi).1.1 z = S.1 z := by unfold cN1; rw [cNum_k _ _ _ h, tk_k _ h]
theorem cP2_k (S : Mem) {z : Nat} (h : z ≠ 1) : (cP2 S).1.1 z = S.1 z := by unfold cP2; rw [cNum_k _ _ _ h, cN1_k _ _ _ h]
theorem cP3_k (S : Mem) {z : Nat} (h : z ≠ 1) : (cP3 S).1.1 z = S.1 z := by unfold cP3; rw [cNum_k _ _ _ h, cP2_k _ h]
theorem cP4_k (S : Mem) {z : Nat} (h : z ≠ 1) : (cP4 S).1.1 z = S.1 z := by unfold cP4; rw [cNum_k _ _ _ h, cP3_k _ h]

set_option maxRecDepth 100000 in
set_option maxHeartbeats 1000000 in
theorem ct_X3_readCurrency (l : Launch) (D : va_G) (cA : Nat → ClassId) (α : Nat → Nat) (n sz : Nat) (hn : 191 ≤ n) (S : Mem) (h9 : okP S) (k : Nat) (hk : S.1 16 0 = nI k) (hk2 : k < 4) : CtV l yX3_readCurrency wsX3_readCurrency ({ frames := 3, cells := 0, slots := 0, locals := 67 }) D cA α n sz [.ref (α 1)] S (cCur S k) := by
  refine ct_enter cX3_readCurrency 2 none (by decide) rfl (Nat.le_of_ble_eq_true rfl) ?_
  intro p e s m below meth c hx hb hr hml hlocks hown hts hK hsz hw ls hl
  have hown : s.vm.findClass RX3 = some m.cls := hown
  have hAw : ∀ z, Aw α n s.heap.size z → Aw α n sz z := by rw [hsz]; exact fun _ h => h
  have hl : lv_has ls 2 [(0, .ref (α 1))] := hl
  refine lv_aload_n hx hb dX3_readCurrency_0 rfl (lv_at hl 0 rfl) ?_
  refine lv_iconst (v := nI 0) hx hb dX3_readCurrency_1 (by decide) ?_
  refine lv_aload_n hx hb dX3_readCurrency_2 rfl (lv_at hl 0 rfl) ?_
  refine x_get (v := .ref (α 16)) (C := RX3) (T := TX3) (N := 11) hx hb hts (fun _ h => List.mem_cons_of_mem _ (List.mem_append_left _ (List.mem_append_right _ h))) hown hK hw 1 (Nat.lt_of_lt_of_le (Nat.le_of_ble_eq_true rfl : 1 < 191) hn) (mk_1 cA α) rfl 0 (by decide) (hts _ (List.mem_of_getElem? (i := 1) rfl)) (fun _ h9 => h9) rfl dX3_readCurrency_3 ?_
  refine x_get (v := .int (S.1 16 0)) (C := RX2) (T := TX2) (N := 12) hx hb hts (fun _ h => List.mem_cons_of_mem _ (List.mem_append_right _ h)) hown hK hw 16 (Nat.lt_of_lt_of_le (Nat.le_of_ble_eq_true rfl : 16 < 191) hn) (mk_16 cA α) rfl 0 (by decide) (hts _ (List.mem_of_getElem? (i := 2) rfl)) (fun _ h9 => h9) rfl dX3_readCurrency_6 ?_
  refine x_topN (k := k) hk ?_
  refine lv_iconst (v := nI 4) hx hb dX3_readCurrency_9 (by decide) ?_
  refine xn_icmp_lt (tgt := 17) hx hb (by omega) (by decide) dX3_readCurrency_10 (by decide) (fun c1 => ?_) (fun c1 => ?_)
  · skip
    refine lv_iconst (v := nI 0) hx hb dX3_readCurrency_17 (by decide) ?_
    refine x_callVV (q := 1) (C := RX3) (As := [.int (b2i false), .int (b2i false)]) (rest := []) ⟨hx, hb, hml, hown, hts⟩ (ct_X3_passWord l D cA α n _ hn S false false h9) (cwV 2 hts gX3_readCurrency_X3_passWord rfl rfl rfl (by decide +kernel) ⟨Nat.le_of_ble_eq_true rfl, Nat.le_of_ble_eq_true rfl⟩) hK hw hAw (ws_recv hK hw (q := 1) (Nat.lt_of_lt_of_le (Nat.le_of_ble_eq_true rfl : 1 < 191) hn) (mk_1 cA α) rfl) rfl hl.1 rfl (Nat.le_of_ble_eq_true rfl) dX3_readCurrency_18 ⟨Nat.zero_le _, Nat.zero_le _⟩ (fun S1 eS1 H locs hw => ?_)
    have eS1 : S1 = tk S := eS1
    refine lv_aload_n hx hb dX3_readCurrency_21 rfl (lv_at hl 0 rfl) ?_
    refine lv_iconst (v := nI 1) hx hb dX3_readCurrency_22 (by decide) ?_
    refine lv_sipush (v := nI 9999) hx hb dX3_readCurrency_23 (by decide) ?_
    refine x_callVI (q := 1) (C := RX3) (As := [.int (nI 1), .int (nI 9999)]) (rest := []) ⟨hx, hb, hml, hown, hts⟩ (ct_X3_readNumber l D cA α n _ hn S1 (nI 1) (nI 9999) (by subst eS1; exact okP_tk h9)) (cwV 2 hts gX3_readCurrency_X3_readNumber rfl rfl rfl (by decide +kernel) ⟨Nat.le_of_ble_eq_true rfl, Nat.le_of_ble_eq_true rfl⟩) hK hw hAw (ws_recv hK hw (q := 1) (Nat.lt_of_lt_of_le (Nat.le_of_ble_eq_true rfl : 1 < 191) hn) (mk_1 cA α) rfl) rfl hl.1 rfl (Nat.le_of_ble_eq_true rfl) dX3_readCurrency_26 ⟨Nat.zero_le _, Nat.zero_le _⟩ (fun S2 eS2 H locs hw => ?_)
    refine x_topE (y := (cN1 S (nI 1) (nI 9999)).2) (by subst eS2; subst eS1; rfl) ?_
    have eS2 : S2 = (cN1 S (nI 1) (nI 9999)).1 := by rw [eS2, eS1]; rfl
    refine lv_istore_n (lv' := [(1, .int ((cN1 S (nI 1) (nI 9999)).2)), (0, .ref (α 1))]) hx hb dX3_readCurrency_29 rfl hl (by decide) rfl (fun ls hl => ?_)
    refine lv_aload_n hx hb dX3_readCurrency_30 rfl (lv_at hl 1 rfl) ?_
    refine x_callVV (q := 1) (C := RX3) (As := []) (rest := []) ⟨hx, hb, hml, hown, hts⟩ (ct_X3_passSemicolon l D cA α n _ hn S2 (by subst eS2; subst eS1; exact okP_num (okP_tk h9) _ _)) (cwV 0 hts gX3_readCurrency_X3_passSemicolon rfl rfl rfl (by decide +kernel) ⟨Nat.le_of_ble_eq_true rfl, Nat.le_of_ble_eq_true rfl⟩) hK hw hAw (ws_recv hK hw (q := 1) (Nat.lt_of_lt_of_le (Nat.le_of_ble_eq_true rfl : 1 < 191) hn) (mk_1 cA α) rfl) rfl hl.1 rfl (Nat.le_of_ble_eq_true rfl) dX3_readCurrency_31 ⟨Nat.zero_le _, Nat.zero_le _⟩ (fun S3 eS3 H locs hw => ?_)
    refine lv_aload_n hx hb dX3_readCurrency_34 rfl (lv_at hl 1 rfl) ?_
    refine x_get (v := .int (S3.1 1 7)) (C := RX3) (T := TX3) (N := 11) hx hb hts (fun _ h => List.mem_cons_of_mem _ (List.mem_append_left _ (List.mem_append_right _ h))) hown hK hw 1 (Nat.lt_of_lt_of_le (Nat.le_of_ble_eq_true rfl : 1 < 191) hn) (mk_1 cA α) rfl 7 (by decide) (hts _ (List.mem_of_getElem? (i := 3) rfl)) (fun _ h9 => h9) rfl dX3_readCurrency_35 ?_
    refine lv_if_ne (tgt := 49) hx hb dX3_readCurrency_38 (by decide) (fun c2 => ?_) (fun c2 => ?_)
    · skip
      exact ret_v hx hb hr hlocks hK hw dX3_readCurrency_49 (by subst eS3; subst eS2; subst eS1; unfold cCur cFin; first | (rw [if_neg c2]; done) | (rw [if_pos c2]; done) | (rw [if_pos c2]; rfl))
    · skip
      refine lv_aload_n hx hb dX3_readCurrency_41 rfl (lv_at hl 1 rfl) ?_
      refine x_get (v := .ref (α 16)) (C := RX3) (T := TX3) (N := 11) hx hb hts (fun _ h => List.mem_cons_of_mem _ (List.mem_append_left _ (List.mem_append_right _ h))) hown hK hw 1 (Nat.lt_of_lt_of_le (Nat.le_of_ble_eq_true rfl : 1 < 191) hn) (mk_1 cA α) rfl 0 (by decide) (hts _ (List.mem_of_getElem? (i := 1) rfl)) (fun _ h9 => h9) rfl dX3_readCurrency_42 ?_
      refine lv_iload_n hx hb dX3_readCurrency_45 rfl (lv_at hl 0 rfl) ?_
      refine x_callVV (q := 16) (C := RX2) (As := [.int ((cN1 S (nI 1) (nI 9999)).2)]) (rest := []) ⟨hx, hb, hml, hown, hts⟩ (ct_X2_addCurrency l D cA α n _ hn S3 ((cN1 S (nI 1) (nI 9999)).2) k (by subst eS3; subst eS2; subst eS1; rw [cSc_k _ (by decide), cN1_k _ _ _ (by decide)]; exact hk) hk2) (cwV 1 hts gX3_readCurrency_X2_addCurrency rfl rfl rfl (by decide +kernel) ⟨Nat.le_of_ble_eq_true rfl, Nat.le_of_ble_eq_true rfl⟩) hK hw hAw (ws_recv hK hw (q := 16) (Nat.lt_of_lt_of_le (Nat.le_of_ble_eq_true rfl : 16 < 191) hn) (mk_16 cA α) rfl) rfl hl.1 rfl (Nat.le_of_ble_eq_true rfl) dX3_readCurrency_46 ⟨Nat.zero_le _, Nat.zero_le _⟩ (fun S4 eS4 H locs hw => ?_)
      exact ret_v hx hb hr hlocks hK hw dX3_readCurrency_49 (by subst eS4; subst eS3; subst eS2; subst eS1; unfold cCur cFin; first | (rw [if_neg c2]; done) | (rw [if_pos c2]; done) | (rw [if_pos c2]; rfl))
  · exact absurd hk2 (by omega)

set_option maxRecDepth 100000 in
set_option maxHeartbeats 1000000 in
theorem ct_X3_readCurrencyB (l : Launch) (D : va_G) (cA : Nat → ClassId) (α : Nat → Nat) (n sz : Nat) (hn : 191 ≤ n) (S : Mem) (h9 : okP S) (hk : S.1 16 0 = nI 4) : CtV l yX3_readCurrency wsX3_readCurrency ({ frames := 3, cells := 0, slots := 0, locals := 67 }) D cA α n sz [.ref (α 1)] S (cRef S (nI 4)) := by
  refine ct_enter cX3_readCurrency 2 none (by decide) rfl (Nat.le_of_ble_eq_true rfl) ?_
  intro p e s m below meth c hx hb hr hml hlocks hown hts hK hsz hw ls hl
  have hown : s.vm.findClass RX3 = some m.cls := hown
  have hAw : ∀ z, Aw α n s.heap.size z → Aw α n sz z := by rw [hsz]; exact fun _ h => h
  have hl : lv_has ls 2 [(0, .ref (α 1))] := hl
  refine lv_aload_n hx hb dX3_readCurrency_0 rfl (lv_at hl 0 rfl) ?_
  refine lv_iconst (v := nI 0) hx hb dX3_readCurrency_1 (by decide) ?_
  refine lv_aload_n hx hb dX3_readCurrency_2 rfl (lv_at hl 0 rfl) ?_
  refine x_get (v := .ref (α 16)) (C := RX3) (T := TX3) (N := 11) hx hb hts (fun _ h => List.mem_cons_of_mem _ (List.mem_append_left _ (List.mem_append_right _ h))) hown hK hw 1 (Nat.lt_of_lt_of_le (Nat.le_of_ble_eq_true rfl : 1 < 191) hn) (mk_1 cA α) rfl 0 (by decide) (hts _ (List.mem_of_getElem? (i := 1) rfl)) (fun _ h9 => h9) rfl dX3_readCurrency_3 ?_
  refine x_get (v := .int (S.1 16 0)) (C := RX2) (T := TX2) (N := 12) hx hb hts (fun _ h => List.mem_cons_of_mem _ (List.mem_append_right _ h)) hown hK hw 16 (Nat.lt_of_lt_of_le (Nat.le_of_ble_eq_true rfl : 16 < 191) hn) (mk_16 cA α) rfl 0 (by decide) (hts _ (List.mem_of_getElem? (i := 2) rfl)) (fun _ h9 => h9) rfl dX3_readCurrency_6 ?_
  refine x_topN (k := 4) hk ?_
  refine lv_iconst (v := nI 4) hx hb dX3_readCurrency_9 (by decide) ?_
  refine xn_icmp_lt (tgt := 17) hx hb (by decide) (by decide) dX3_readCurrency_10 (by decide) (fun c1 => ?_) (fun c1 => ?_)
  · exact absurd c1 (by decide)
  · skip
    refine lv_iconst (v := nI 1) hx hb dX3_readCurrency_13 (by decide) ?_
    refine lv_goto (tgt := 18) hx hb dX3_readCurrency_14 (by decide) ?_
    refine x_callVV (q := 1) (C := RX3) (As := [.int (b2i false), .int (b2i true)]) (rest := []) ⟨hx, hb, hml, hown, hts⟩ (ct_X3_passWord l D cA α n _ hn S false true h9) (cwV 2 hts gX3_readCurrency_X3_passWord rfl rfl rfl (by decide +kernel) ⟨Nat.le_of_ble_eq_true rfl, Nat.le_of_ble_eq_true rfl⟩) hK hw hAw (ws_recv hK hw (q := 1) (Nat.lt_of_lt_of_le (Nat.le_of_ble_eq_true rfl : 1 < 191) hn) (mk_1 cA α) rfl) rfl hl.1 rfl (Nat.le_of_ble_eq_true rfl) dX3_readCurrency_18 ⟨Nat.zero_le _, Nat.zero_le _⟩ (fun S1 eS1 H locs hw => ?_)
    have eS1 : S1 = cRef S (nI 4) := eS1
    refine lv_aload_n hx hb dX3_readCurrency_21 rfl (lv_at hl 0 rfl) ?_
    refine lv_iconst (v := nI 1) hx hb dX3_readCurrency_22 (by decide) ?_
    refine lv_sipush (v := nI 9999) hx hb dX3_readCurrency_23 (by decide) ?_
    refine x_callVI (q := 1) (C := RX3) (As := [.int (nI 1), .int (nI 9999)]) (rest := []) ⟨hx, hb, hml, hown, hts⟩ (ct_X3_readNumber l D cA α n _ hn S1 (nI 1) (nI 9999) (by subst eS1; exact okP_ref h9 _)) (cwV 2 hts gX3_readCurrency_X3_readNumber rfl rfl rfl (by decide +kernel) ⟨Nat.le_of_ble_eq_true rfl, Nat.le_of_ble_eq_true rfl⟩) hK hw hAw (ws_recv hK hw (q := 1) (Nat.lt_of_lt_of_le (Nat.le_of_ble_eq_true rfl : 1 < 191) hn) (mk_1 cA α) rfl) rfl hl.1 rfl (Nat.le_of_ble_eq_true rfl) dX3_readCurrency_26 ⟨Nat.zero_le _, Nat.zero_le _⟩ (fun S2 eS2 H locs hw => ?_)
    have eS2 : S2 = cRef S (nI 4) := by rw [eS2, eS1, cNum_e (cRef_ne h9 (x := 4) (by decide))]
    refine lv_istore_n (lv' := [(1, .int ((cNum S1 (nI 1) (nI 9999)).2)), (0, .ref (α 1))]) hx hb dX3_readCurrency_29 rfl hl (by decide) rfl (fun ls hl => ?_)
    refine lv_aload_n hx hb dX3_readCurrency_30 rfl (lv_at hl 1 rfl) ?_
    refine x_callVV (q := 1) (C := RX3) (As := []) (rest := []) ⟨hx, hb, hml, hown, hts⟩ (ct_X3_passSemicolon l D cA α n _ hn S2 (by subst eS2; subst eS1; exact okP_ref h9 _)) (cwV 0 hts gX3_readCurrency_X3_passSemicolon rfl rfl rfl (by decide +kernel) ⟨Nat.le_of_ble_eq_true rfl, Nat.le_of_ble_eq_true rfl⟩) hK hw hAw (ws_recv hK hw (q := 1) (Nat.lt_of_lt_of_le (Nat.le_of_ble_eq_true rfl : 1 < 191) hn) (mk_1 cA α) rfl) rfl hl.1 rfl (Nat.le_of_ble_eq_true rfl) dX3_readCurrency_31 ⟨Nat.zero_le _, Nat.zero_le _⟩ (fun S3 eS3 H locs hw => ?_)
    have eS3 : S3 = cRef S (nI 4) := by rw [eS3, eS2, cSc_e (cRef_ne h9 (x := 4) (by decide))]
    refine lv_aload_n hx hb dX3_readCurrency_34 rfl (lv_at hl 1 rfl) ?_
    refine x_get (v := .int (S3.1 1 7)) (C := RX3) (T := TX3) (N := 11) hx hb hts (fun _ h => List.mem_cons_of_mem _ (List.mem_append_left _ (List.mem_append_right _ h))) hown hK hw 1 (Nat.lt_of_lt_of_le (Nat.le_of_ble_eq_true rfl : 1 < 191) hn) (mk_1 cA α) rfl 7 (by decide) (hts _ (List.mem_of_getElem? (i := 3) rfl)) (fun _ h9 => h9) rfl dX3_readCurrency_35 ?_
    refine lv_if_ne (tgt := 49) hx hb dX3_readCurrency_38 (by decide) (fun c2 => ?_) (fun c2 => ?_)
    · skip
      exact ret_v hx hb hr hlocks hK hw dX3_readCurrency_49 (by subst eS3; subst eS2; subst eS1; rfl)
    · exact absurd c2 (by subst eS3; subst eS2; subst eS1; exact (cRef_ne h9 (x := 4) (by decide)))

theorem ct_X3_readCurrencyU (l : Launch) (D : va_G) (cA : Nat → ClassId) (α : Nat → Nat) (n sz : Nat) (hn : 191 ≤ n) (S : Mem) (h9 : okP S) (k : Nat) (hk : S.1 16 0 = nI k) (hk2 : k ≤ 4) : CtV l yX3_readCurrency wsX3_readCurrency { frames := 3, cells := 0, slots := 0, locals := 67 } D cA α n sz [.ref (α 1)] S (if k < 4 then cCur S k else cRef S (nI 4)) := by
  by_cases h : k < 4
  · rw [if_pos h]; exact ct_X3_readCurrency l D cA α n sz hn S h9 k hk h
  · rw [if_neg h]; exact ct_X3_readCurrencyB l D cA α n sz hn S h9 (by rw [hk, show k = 4 by omega])

set_option maxRecDepth 100000 in
set_option maxHeartbeats 1000000 in
theorem ct_X3_readCompany (l : Launch) (D : va_G) (cA : Nat → ClassId) (α : Nat → Nat) (n sz : Nat) (hn : 191 ≤ n) (S : Mem) (h9 : okP S) (k : Nat) (hk : S.1 16 1 = nI k) (hk2 : k < 6) : CtV l yX3_readCompany wsX3_readCompany ({ frames := 3, cells := 0, slots := 0, locals := 67 }) D cA α n sz [.ref (α 1)] S (cCom S k) := by
  refine ct_enter cX3_readCompany 2 none (by decide) rfl (Nat.le_of_ble_eq_true rfl) ?_
  intro p e s m below meth c hx hb hr hml hlocks hown hts hK hsz hw ls hl
  have hown : s.vm.findClass RX3 = some m.cls := hown
  have hAw : ∀ z, Aw α n s.heap.size z → Aw α n sz z := by rw [hsz]; exact fun _ h => h
  have hl : lv_has ls 2 [(0, .ref (α 1))] := hl
  refine lv_aload_n hx hb dX3_readCompany_0 rfl (lv_at hl 0 rfl) ?_
  refine lv_iconst (v := nI 0) hx hb dX3_readCompany_1 (by decide) ?_
  refine lv_aload_n hx hb dX3_readCompany_2 rfl (lv_at hl 0 rfl) ?_
  refine x_get (v := .ref (α 16)) (C := RX3) (T := TX3) (N := 11) hx hb hts (fun _ h => List.mem_cons_of_mem _ (List.mem_append_left _ (List.mem_append_right _ h))) hown hK hw 1 (Nat.lt_of_lt_of_le (Nat.le_of_ble_eq_true rfl : 1 < 191) hn) (mk_1 cA α) rfl 0 (by decide) (hts _ (List.mem_of_getElem? (i := 1) rfl)) (fun _ h9 => h9) rfl dX3_readCompany_3 ?_
  refine x_get (v := .int (S.1 16 1)) (C := RX2) (T := TX2) (N := 12) hx hb hts (fun _ h => List.mem_cons_of_mem _ (List.mem_append_right _ h)) hown hK hw 16 (Nat.lt_of_lt_of_le (Nat.le_of_ble_eq_true rfl : 16 < 191) hn) (mk_16 cA α) rfl 1 (by decide) (hts _ (List.mem_of_getElem? (i := 2) rfl)) (fun _ h9 => h9) rfl dX3_readCompany_6 ?_
  refine x_topN (k := k) hk ?_
  refine lv_bipush (v := nI 6) hx hb dX3_readCompany_9 (by decide) ?_
  refine xn_icmp_lt (tgt := 18) hx hb (by omega) (by decide) dX3_readCompany_11 (by decide) (fun c1 => ?_) (fun c1 => ?_)
  · skip
    refine lv_iconst (v := nI 0) hx hb dX3_readCompany_18 (by decide) ?_
    refine x_callVV (q := 1) (C := RX3) (As := [.int (b2i false), .int (b2i false)]) (rest := []) ⟨hx, hb, hml, hown, hts⟩ (ct_X3_passWord l D cA α n _ hn S false false h9) (cwV 2 hts gX3_readCompany_X3_passWord rfl rfl rfl (by decide +kernel) ⟨Nat.le_of_ble_eq_true rfl, Nat.le_of_ble_eq_true rfl⟩) hK hw hAw (ws_recv hK hw (q := 1) (Nat.lt_of_lt_of_le (Nat.le_of_ble_eq_true rfl : 1 < 191) hn) (mk_1 cA α) rfl) rfl hl.1 rfl (Nat.le_of_ble_eq_true rfl) dX3_readCompany_19 ⟨Nat.zero_le _, Nat.zero_le _⟩ (fun S1 eS1 H locs hw => ?_)
    have eS1 : S1 = tk S := eS1
    refine lv_aload_n hx hb dX3_readCompany_22 rfl (lv_at hl 0 rfl) ?_
    refine lv_iconst (v := nI 0) hx hb dX3_readCompany_23 (by decide) ?_
    refine lv_aload_n hx hb dX3_readCompany_24 rfl (lv_at hl 0 rfl) ?_
    refine x_get (v := .ref (α 16)) (C := RX3) (T := TX3) (N := 11) hx hb hts (fun _ h => List.mem_cons_of_mem _ (List.mem_append_left _ (List.mem_append_right _ h))) hown hK hw 1 (Nat.lt_of_lt_of_le (Nat.le_of_ble_eq_true rfl : 1 < 191) hn) (mk_1 cA α) rfl 0 (by decide) (hts _ (List.mem_of_getElem? (i := 1) rfl)) (fun _ h9 => h9) rfl dX3_readCompany_25 ?_
    refine x_get (v := .int (S1.1 16 0)) (C := RX2) (T := TX2) (N := 12) hx hb hts (fun _ h => List.mem_cons_of_mem _ (List.mem_append_right _ h)) hown hK hw 16 (Nat.lt_of_lt_of_le (Nat.le_of_ble_eq_true rfl : 16 < 191) hn) (mk_16 cA α) rfl 0 (by decide) (hts _ (List.mem_of_getElem? (i := 3) rfl)) (fun _ h9 => h9) rfl dX3_readCompany_28 ?_
    refine x_topE (y := S.1 16 0) (by subst eS1; rw [tk_k _ (by decide)]) ?_
    refine lv_iconst (v := nI 1) hx hb dX3_readCompany_31 (by decide) ?_
    refine lv_isub hx hb dX3_readCompany_32 ?_
    refine x_callVI (q := 1) (C := RX3) (As := [.int (nI 0), .int ((S.1 16 0) - (nI 1))]) (rest := []) ⟨hx, hb, hml, hown, hts⟩ (ct_X3_readNumber l D cA α n _ hn S1 (nI 0) ((S.1 16 0) - (nI 1)) (by subst eS1; exact okP_tk h9)) (cwV 2 hts gX3_readCompany_X3_readNumber rfl rfl rfl (by decide +kernel) ⟨Nat.le_of_ble_eq_true rfl, Nat.le_of_ble_eq_true rfl⟩) hK hw hAw (ws_recv hK hw (q := 1) (Nat.lt_of_lt_of_le (Nat.le_of_ble_eq_true rfl : 1 < 191) hn) (mk_1 cA α) rfl) rfl hl.1 rfl (Nat.le_of_ble_eq_true rfl) dX3_readCompany_33 ⟨Nat.zero_le _, Nat.zero_le _⟩ (fun S2 eS2 H locs hw => ?_)
    refine x_topE (y := (cN1 S (nI 0) (S.1 16 0 - nI 1)).2) (by subst eS2; subst eS1; rfl) ?_
    have eS2 : S2 = (cN1 S (nI 0) (S.1 16 0 - nI 1)).1 := by rw [eS2, eS1]; rfl
    refine lv_istore_n (lv' := [(1, .int ((cN1 S (nI 0) (S.1 16 0 - nI 1)).2)), (0, .ref (α 1))]) hx hb dX3_readCompany_36 rfl hl (by decide) rfl (fun ls hl => ?_)
    refine lv_aload_n hx hb dX3_readCompany_37 rfl (lv_at hl 1 rfl) ?_
    refine x_callVV (q := 1) (C := RX3) (As := []) (rest := []) ⟨hx, hb, hml, hown, hts⟩ (ct_X3_passSemicolon l D cA α n _ hn S2 (by subst eS2; subst eS1; exact okP_num (okP_tk h9) _ _)) (cwV 0 hts gX3_readCompany_X3_passSemicolon rfl rfl rfl (by decide +kernel) ⟨Nat.le_of_ble_eq_true rfl, Nat.le_of_ble_eq_true rfl⟩) hK hw hAw (ws_recv hK hw (q := 1) (Nat.lt_of_lt_of_le (Nat.le_of_ble_eq_true rfl : 1 < 191) hn) (mk_1 cA α) rfl) rfl hl.1 rfl (Nat.le_of_ble_eq_true rfl) dX3_readCompany_38 ⟨Nat.zero_le _, Nat.zero_le _⟩ (fun S3 eS3 H locs hw => ?_)
    refine lv_aload_n hx hb dX3_readCompany_41 rfl (lv_at hl 1 rfl) ?_
    refine x_get (v := .int (S3.1 1 7)) (C := RX3) (T := TX3) (N := 11) hx hb hts (fun _ h => List.mem_cons_of_mem _ (List.mem_append_left _ (List.mem_append_right _ h))) hown hK hw 1 (Nat.lt_of_lt_of_le (Nat.le_of_ble_eq_true rfl : 1 < 191) hn) (mk_1 cA α) rfl 7 (by decide) (hts _ (List.mem_of_getElem? (i := 4) rfl)) (fun _ h9 => h9) rfl dX3_readCompany_42 ?_
    refine lv_if_ne (tgt := 56) hx hb dX3_readCompany_45 (by decide) (fun c2 => ?_) (fun c2 => ?_)
    · skip
      exact ret_v hx hb hr hlocks hK hw dX3_readCompany_56 (by subst eS3; subst eS2; subst eS1; unfold cCom cFin; first | (rw [if_neg c2]; done) | (rw [if_pos c2]; done) | (rw [if_pos c2]; rfl))
    · skip
      refine lv_aload_n hx hb dX3_readCompany_48 rfl (lv_at hl 1 rfl) ?_
      refine x_get (v := .ref (α 16)) (C := RX3) (T := TX3) (N := 11) hx hb hts (fun _ h => List.mem_cons_of_mem _ (List.mem_append_left _ (List.mem_append_right _ h))) hown hK hw 1 (Nat.lt_of_lt_of_le (Nat.le_of_ble_eq_true rfl : 1 < 191) hn) (mk_1 cA α) rfl 0 (by decide) (hts _ (List.mem_of_getElem? (i := 1) rfl)) (fun _ h9 => h9) rfl dX3_readCompany_49 ?_
      refine lv_iload_n hx hb dX3_readCompany_52 rfl (lv_at hl 0 rfl) ?_
      refine x_callVV (q := 16) (C := RX2) (As := [.int ((cN1 S (nI 0) (S.1 16 0 - nI 1)).2)]) (rest := []) ⟨hx, hb, hml, hown, hts⟩ (ct_X2_addCompany l D cA α n _ hn S3 ((cN1 S (nI 0) (S.1 16 0 - nI 1)).2) k (by subst eS3; subst eS2; subst eS1; rw [cSc_k _ (by decide), cN1_k _ _ _ (by decide)]; exact hk) hk2) (cwV 1 hts gX3_readCompany_X2_addCompany rfl rfl rfl (by decide +kernel) ⟨Nat.le_of_ble_eq_true rfl, Nat.le_of_ble_eq_true rfl⟩) hK hw hAw (ws_recv hK hw (q := 16) (Nat.lt_of_lt_of_le (Nat.le_of_ble_eq_true rfl : 16 < 191) hn) (mk_16 cA α) rfl) rfl hl.1 rfl (Nat.le_of_ble_eq_true rfl) dX3_readCompany_53 ⟨Nat.zero_le _, Nat.zero_le _⟩ (fun S4 eS4 H locs hw => ?_)
      exact ret_v hx hb hr hlocks hK hw dX3_readCompany_56 (by subst eS4; subst eS3; subst eS2; subst eS1; unfold cCom cFin; first | (rw [if_neg c2]; done) | (rw [if_pos c2]; done) | (rw [if_pos c2]; rfl))
  · exact absurd hk2 (by omega)

set_option maxRecDepth 100000 in
set_option maxHeartbeats 1000000 in
theorem ct_X3_readCompanyB (l : Launch) (D : va_G) (cA : Nat → ClassId) (α : Nat → Nat) (n sz : Nat) (hn : 191 ≤ n) (S : Mem) (h9 : okP S) (hk : S.1 16 1 = nI 6) : CtV l yX3_readCompany wsX3_readCompany ({ frames := 3, cells := 0, slots := 0, locals := 67 }) D cA α n sz [.ref (α 1)] S (cRef S (nI 4)) := by
  refine ct_enter cX3_readCompany 2 none (by decide) rfl (Nat.le_of_ble_eq_true rfl) ?_
  intro p e s m below meth c hx hb hr hml hlocks hown hts hK hsz hw ls hl
  have hown : s.vm.findClass RX3 = some m.cls := hown
  have hAw : ∀ z, Aw α n s.heap.size z → Aw α n sz z := by rw [hsz]; exact fun _ h => h
  have hl : lv_has ls 2 [(0, .ref (α 1))] := hl
  refine lv_aload_n hx hb dX3_readCompany_0 rfl (lv_at hl 0 rfl) ?_
  refine lv_iconst (v := nI 0) hx hb dX3_readCompany_1 (by decide) ?_
  refine lv_aload_n hx hb dX3_readCompany_2 rfl (lv_at hl 0 rfl) ?_
  refine x_get (v := .ref (α 16)) (C := RX3) (T := TX3) (N := 11) hx hb hts (fun _ h => List.mem_cons_of_mem _ (List.mem_append_left _ (List.mem_append_right _ h))) hown hK hw 1 (Nat.lt_of_lt_of_le (Nat.le_of_ble_eq_true rfl : 1 < 191) hn) (mk_1 cA α) rfl 0 (by decide) (hts _ (List.mem_of_getElem? (i := 1) rfl)) (fun _ h9 => h9) rfl dX3_readCompany_3 ?_
  refine x_get (v := .int (S.1 16 1)) (C := RX2) (T := TX2) (N := 12) hx hb hts (fun _ h => List.mem_cons_of_mem _ (List.mem_append_right _ h)) hown hK hw 16 (Nat.lt_of_lt_of_le (Nat.le_of_ble_eq_true rfl : 16 < 191) hn) (mk_16 cA α) rfl 1 (by decide) (hts _ (List.mem_of_getElem? (i := 2) rfl)) (fun _ h9 => h9) rfl dX3_readCompany_6 ?_
  refine x_topN (k := 6) hk ?_
  refine lv_bipush (v := nI 6) hx hb dX3_readCompany_9 (by decide) ?_
  refine xn_icmp_lt (tgt := 18) hx hb (by decide) (by decide) dX3_readCompany_11 (by decide) (fun c1 => ?_) (fun c1 => ?_)
  · exact absurd c1 (by decide)
  · skip
    refine lv_iconst (v := nI 1) hx hb dX3_readCompany_14 (by decide) ?_
    refine lv_goto (tgt := 19) hx hb dX3_readCompany_15 (by decide) ?_
    refine x_callVV (q := 1) (C := RX3) (As := [.int (b2i false), .int (b2i true)]) (rest := []) ⟨hx, hb, hml, hown, hts⟩ (ct_X3_passWord l D cA α n _ hn S false true h9) (cwV 2 hts gX3_readCompany_X3_passWord rfl rfl rfl (by decide +kernel) ⟨Nat.le_of_ble_eq_true rfl, Nat.le_of_ble_eq_true rfl⟩) hK hw hAw (ws_recv hK hw (q := 1) (Nat.lt_of_lt_of_le (Nat.le_of_ble_eq_true rfl : 1 < 191) hn) (mk_1 cA α) rfl) rfl hl.1 rfl (Nat.le_of_ble_eq_true rfl) dX3_readCompany_19 ⟨Nat.zero_le _, Nat.zero_le _⟩ (fun S1 eS1 H locs hw => ?_)
    have eS1 : S1 = cRef S (nI 4) := eS1
    refine lv_aload_n hx hb dX3_readCompany_22 rfl (lv_at hl 0 rfl) ?_
    refine lv_iconst (v := nI 0) hx hb dX3_readCompany_23 (by decide) ?_
    refine lv_aload_n hx hb dX3_readCompany_24 rfl (lv_at hl 0 rfl) ?_
    refine x_get (v := .ref (α 16)) (C := RX3) (T := TX3) (N := 11) hx hb hts (fun _ h => List.mem_cons_of_mem _ (List.mem_append_left _ (List.mem_append_right _ h))) hown hK hw 1 (Nat.lt_of_lt_of_le (Nat.le_of_ble_eq_true rfl : 1 < 191) hn) (mk_1 cA α) rfl 0 (by decide) (hts _ (List.mem_of_getElem? (i := 1) rfl)) (fun _ h9 => h9) rfl dX3_readCompany_25 ?_
    refine x_get (v := .int (S1.1 16 0)) (C := RX2) (T := TX2) (N := 12) hx hb hts (fun _ h => List.mem_cons_of_mem _ (List.mem_append_right _ h)) hown hK hw 16 (Nat.lt_of_lt_of_le (Nat.le_of_ble_eq_true rfl : 16 < 191) hn) (mk_16 cA α) rfl 0 (by decide) (hts _ (List.mem_of_getElem? (i := 3) rfl)) (fun _ h9 => h9) rfl dX3_readCompany_28 ?_
    refine lv_iconst (v := nI 1) hx hb dX3_readCompany_31 (by decide) ?_
    refine lv_isub hx hb dX3_readCompany_32 ?_
    refine x_callVI (q := 1) (C := RX3) (As := [.int (nI 0), .int ((S1.1 16 0) - (nI 1))]) (rest := []) ⟨hx, hb, hml, hown, hts⟩ (ct_X3_readNumber l D cA α n _ hn S1 (nI 0) ((S1.1 16 0) - (nI 1)) (by subst eS1; exact okP_ref h9 _)) (cwV 2 hts gX3_readCompany_X3_readNumber rfl rfl rfl (by decide +kernel) ⟨Nat.le_of_ble_eq_true rfl, Nat.le_of_ble_eq_true rfl⟩) hK hw hAw (ws_recv hK hw (q := 1) (Nat.lt_of_lt_of_le (Nat.le_of_ble_eq_true rfl : 1 < 191) hn) (mk_1 cA α) rfl) rfl hl.1 rfl (Nat.le_of_ble_eq_true rfl) dX3_readCompany_33 ⟨Nat.zero_le _, Nat.zero_le _⟩ (fun S2 eS2 H locs hw => ?_)
    have eS2 : S2 = cRef S (nI 4) := by rw [eS2, eS1, cNum_e (cRef_ne h9 (x := 4) (by decide))]
    refine lv_istore_n (lv' := [(1, .int ((cNum S1 (nI 0) ((S1.1 16 0) - (nI 1))).2)), (0, .ref (α 1))]) hx hb dX3_readCompany_36 rfl hl (by decide) rfl (fun ls hl => ?_)
    refine lv_aload_n hx hb dX3_readCompany_37 rfl (lv_at hl 1 rfl) ?_
    refine x_callVV (q := 1) (C := RX3) (As := []) (rest := []) ⟨hx, hb, hml, hown, hts⟩ (ct_X3_passSemicolon l D cA α n _ hn S2 (by subst eS2; subst eS1; exact okP_ref h9 _)) (cwV 0 hts gX3_readCompany_X3_passSemicolon rfl rfl rfl (by decide +kernel) ⟨Nat.le_of_ble_eq_true rfl, Nat.le_of_ble_eq_true rfl⟩) hK hw hAw (ws_recv hK hw (q := 1) (Nat.lt_of_lt_of_le (Nat.le_of_ble_eq_true rfl : 1 < 191) hn) (mk_1 cA α) rfl) rfl hl.1 rfl (Nat.le_of_ble_eq_true rfl) dX3_readCompany_38 ⟨Nat.zero_le _, Nat.zero_le _⟩ (fun S3 eS3 H locs hw => ?_)
    have eS3 : S3 = cRef S (nI 4) := by rw [eS3, eS2, cSc_e (cRef_ne h9 (x := 4) (by decide))]
    refine lv_aload_n hx hb dX3_readCompany_41 rfl (lv_at hl 1 rfl) ?_
    refine x_get (v := .int (S3.1 1 7)) (C := RX3) (T := TX3) (N := 11) hx hb hts (fun _ h => List.mem_cons_of_mem _ (List.mem_append_left _ (List.mem_append_right _ h))) hown hK hw 1 (Nat.lt_of_lt_of_le (Nat.le_of_ble_eq_true rfl : 1 < 191) hn) (mk_1 cA α) rfl 7 (by decide) (hts _ (List.mem_of_getElem? (i := 4) rfl)) (fun _ h9 => h9) rfl dX3_readCompany_42 ?_
    refine lv_if_ne (tgt := 56) hx hb dX3_readCompany_45 (by decide) (fun c2 => ?_) (fun c2 => ?_)
    · skip
      exact ret_v hx hb hr hlocks hK hw dX3_readCompany_56 (by subst eS3; subst eS2; subst eS1; rfl)
    · exact absurd c2 (by subst eS3; subst eS2; subst eS1; exact (cRef_ne h9 (x := 4) (by decide)))

theorem ct_X3_readCompanyU (l : Launch) (D : va_G) (cA : Nat → ClassId) (α : Nat → Nat) (n sz : Nat) (hn : 191 ≤ n) (S : Mem) (h9 : okP S) (k : Nat) (hk : S.1 16 1 = nI k) (hk2 : k ≤ 6) : CtV l yX3_readCompany wsX3_readCompany { frames := 3, cells := 0, slots := 0, locals := 67 } D cA α n sz [.ref (α 1)] S (if k < 6 then cCom S k else cRef S (nI 4)) := by
  by_cases h : k < 6
  · rw [if_pos h]; exact ct_X3_readCompany l D cA α n sz hn S h9 k hk h
  · rw [if_neg h]; exact ct_X3_readCompanyB l D cA α n sz hn S h9 (by rw [hk, show k = 6 by omega])

set_option maxRecDepth 100000 in
set_option maxHeartbeats 1000000 in
theorem ct_X3_readProduct (l : Launch) (D : va_G) (cA : Nat → ClassId) (α : Nat → Nat) (n sz : Nat) (hn : 191 ≤ n) (S : Mem) (h9 : okP S) (k : Nat) (hk : S.1 16 2 = nI k) (hk2 : k < 6) : CtV l yX3_readProduct wsX3_readProduct ({ frames := 3, cells := 0, slots := 0, locals := 67 }) D cA α n sz [.ref (α 1)] S (cPro S k) := by
  refine ct_enter cX3_readProduct 5 none (by decide) rfl (Nat.le_of_ble_eq_true rfl) ?_
  intro p e s m below meth c hx hb hr hml hlocks hown hts hK hsz hw ls hl
  have hown : s.vm.findClass RX3 = some m.cls := hown
  have hAw : ∀ z, Aw α n s.heap.size z → Aw α n sz z := by rw [hsz]; exact fun _ h => h
  have hl : lv_has ls 5 [(0, .ref (α 1))] := hl
  refine lv_aload_n hx hb dX3_readProduct_0 rfl (lv_at hl 0 rfl) ?_
  refine lv_iconst (v := nI 0) hx hb dX3_readProduct_1 (by decide) ?_
  refine lv_aload_n hx hb dX3_readProduct_2 rfl (lv_at hl 0 rfl) ?_
  refine x_get (v := .ref (α 16)) (C := RX3) (T := TX3) (N := 11) hx hb hts (fun _ h => List.mem_cons_of_mem _ (List.mem_append_left _ (List.mem_append_right _ h))) hown hK hw 1 (Nat.lt_of_lt_of_le (Nat.le_of_ble_eq_true rfl : 1 < 191) hn) (mk_1 cA α) rfl 0 (by decide) (hts _ (List.mem_of_getElem? (i := 1) rfl)) (fun _ h9 => h9) rfl dX3_readProduct_3 ?_
  refine x_get (v := .int (S.1 16 2)) (C := RX2) (T := TX2) (N := 12) hx hb hts (fun _ h => List.mem_cons_of_mem _ (List.mem_append_right _ h)) hown hK hw 16 (Nat.lt_of_lt_of_le (Nat.le_of_ble_eq_true rfl : 16 < 191) hn) (mk_16 cA α) rfl 2 (by decide) (hts _ (List.mem_of_getElem? (i := 2) rfl)) (fun _ h9 => h9) rfl dX3_readProduct_6 ?_
  refine x_topN (k := k) hk ?_
  refine lv_bipush (v := nI 6) hx hb dX3_readProduct_9 (by decide) ?_
  refine xn_icmp_lt (tgt := 18) hx hb (by omega) (by decide) dX3_readProduct_11 (by decide) (fun c1 => ?_) (fun c1 => ?_)
  · skip
    refine lv_iconst (v := nI 0) hx hb dX3_readProduct_18 (by decide) ?_
    refine x_callVV (q := 1) (C := RX3) (As := [.int (b2i false), .int (b2i false)]) (rest := []) ⟨hx, hb, hml, hown, hts⟩ (ct_X3_passWord l D cA α n _ hn S false false h9) (cwV 2 hts gX3_readProduct_X3_passWord rfl rfl rfl (by decide +kernel) ⟨Nat.le_of_ble_eq_true rfl, Nat.le_of_ble_eq_true rfl⟩) hK hw hAw (ws_recv hK hw (q := 1) (Nat.lt_of_lt_of_le (Nat.le_of_ble_eq_true rfl : 1 < 191) hn) (mk_1 cA α) rfl) rfl hl.1 rfl (Nat.le_of_ble_eq_true rfl) dX3_readProduct_19 ⟨Nat.zero_le _, Nat.zero_le _⟩ (fun S1 eS1 H locs hw => ?_)
    have eS1 : S1 = tk S := eS1
    refine lv_aload_n hx hb dX3_readProduct_22 rfl (lv_at hl 0 rfl) ?_
    refine lv_iconst (v := nI 0) hx hb dX3_readProduct_23 (by decide) ?_
    refine lv_aload_n hx hb dX3_readProduct_24 rfl (lv_at hl 0 rfl) ?_
    refine x_get (v := .ref (α 16)) (C := RX3) (T := TX3) (N := 11) hx hb hts (fun _ h => List.mem_cons_of_mem _ (List.mem_append_left _ (List.mem_append_right _ h))) hown hK hw 1 (Nat.lt_of_lt_of_le (Nat.le_of_ble_eq_true rfl : 1 < 191) hn) (mk_1 cA α) rfl 0 (by decide) (hts _ (List.mem_of_getElem? (i := 1) rfl)) (fun _ h9 => h9) rfl dX3_readProduct_25 ?_
    refine x_get (v := .int (S1.1 16 1)) (C := RX2) (T := TX2) (N := 12) hx hb hts (fun _ h => List.mem_cons_of_mem _ (List.mem_append_right _ h)) hown hK hw 16 (Nat.lt_of_lt_of_le (Nat.le_of_ble_eq_true rfl : 16 < 191) hn) (mk_16 cA α) rfl 1 (by decide) (hts _ (List.mem_of_getElem? (i := 3) rfl)) (fun _ h9 => h9) rfl dX3_readProduct_28 ?_
    refine x_topE (y := S.1 16 1) (by subst eS1; rw [tk_k _ (by decide)]) ?_
    refine lv_iconst (v := nI 1) hx hb dX3_readProduct_31 (by decide) ?_
    refine lv_isub hx hb dX3_readProduct_32 ?_
    refine x_callVI (q := 1) (C := RX3) (As := [.int (nI 0), .int ((S.1 16 1) - (nI 1))]) (rest := []) ⟨hx, hb, hml, hown, hts⟩ (ct_X3_readNumber l D cA α n _ hn S1 (nI 0) ((S.1 16 1) - (nI 1)) (by subst eS1; exact okP_tk h9)) (cwV 2 hts gX3_readProduct_X3_readNumber rfl rfl rfl (by decide +kernel) ⟨Nat.le_of_ble_eq_true rfl, Nat.le_of_ble_eq_true rfl⟩) hK hw hAw (ws_recv hK hw (q := 1) (Nat.lt_of_lt_of_le (Nat.le_of_ble_eq_true rfl : 1 < 191) hn) (mk_1 cA α) rfl) rfl hl.1 rfl (Nat.le_of_ble_eq_true rfl) dX3_readProduct_33 ⟨Nat.zero_le _, Nat.zero_le _⟩ (fun S2 eS2 H locs hw => ?_)
    refine x_topE (y := (cN1 S (nI 0) (S.1 16 1 - nI 1)).2) (by subst eS2; subst eS1; rfl) ?_
    have eS2 : S2 = (cN1 S (nI 0) (S.1 16 1 - nI 1)).1 := by rw [eS2, eS1]; rfl
    refine lv_istore_n (lv' := [(1, .int ((cN1 S (nI 0) (S.1 16 1 - nI 1)).2)), (0, .ref (α 1))]) hx hb dX3_readProduct_36 rfl hl (by decide) rfl (fun ls hl => ?_)
    refine lv_aload_n hx hb dX3_readProduct_37 rfl (lv_at hl 1 rfl) ?_
    refine lv_iconst (v := nI 1) hx hb dX3_readProduct_38 (by decide) ?_
    refine lv_sipush (v := nI 9999) hx hb dX3_readProduct_39 (by decide) ?_
    refine x_callVI (q := 1) (C := RX3) (As := [.int (nI 1), .int (nI 9999)]) (rest := []) ⟨hx, hb, hml, hown, hts⟩ (ct_X3_readNumber l D cA α n _ hn S2 (nI 1) (nI 9999) (by subst eS2; subst eS1; exact okP_num (okP_tk h9) _ _)) (cwV 2 hts gX3_readProduct_X3_readNumber rfl rfl rfl (by decide +kernel) ⟨Nat.le_of_ble_eq_true rfl, Nat.le_of_ble_eq_true rfl⟩) hK hw hAw (ws_recv hK hw (q := 1) (Nat.lt_of_lt_of_le (Nat.le_of_ble_eq_true rfl : 1 < 191) hn) (mk_1 cA α) rfl) rfl hl.1 rfl (Nat.le_of_ble_eq_true rfl) dX3_readProduct_42 ⟨Nat.zero_le _, Nat.zero_le _⟩ (fun S3 eS3 H locs hw => ?_)
    refine x_topE (y := (cP2 S).2) (by subst eS3; subst eS2; subst eS1; rfl) ?_
    have eS3 : S3 = (cP2 S).1 := by rw [eS3, eS2]; rfl
    refine lv_istore_n (lv' := [(2, .int ((cP2 S).2)), (1, .int ((cN1 S (nI 0) (S.1 16 1 - nI 1)).2)), (0, .ref (α 1))]) hx hb dX3_readProduct_45 rfl hl (by decide) rfl (fun ls hl => ?_)
    refine lv_aload_n hx hb dX3_readProduct_46 rfl (lv_at hl 2 rfl) ?_
    refine lv_iconst (v := nI 0) hx hb dX3_readProduct_47 (by decide) ?_
    refine lv_bipush (v := nI 99) hx hb dX3_readProduct_48 (by decide) ?_
    refine x_callVI (q := 1) (C := RX3) (As := [.int (nI 0), .int (nI 99)]) (rest := []) ⟨hx, hb, hml, hown, hts⟩ (ct_X3_readNumber l D cA α n _ hn S3 (nI 0) (nI 99) (by subst eS3; subst eS2; subst eS1; exact okP_num (okP_num (okP_tk h9) _ _) _ _)) (cwV 2 hts gX3_readProduct_X3_readNumber rfl rfl rfl (by decide +kernel) ⟨Nat.le_of_ble_eq_true rfl, Nat.le_of_ble_eq_true rfl⟩) hK hw hAw (ws_recv hK hw (q := 1) (Nat.lt_of_lt_of_le (Nat.le_of_ble_eq_true rfl : 1 < 191) hn) (mk_1 cA α) rfl) rfl hl.1 rfl (Nat.le_of_ble_eq_true rfl) dX3_readProduct_50 ⟨Nat.zero_le _, Nat.zero_le _⟩ (fun S4 eS4 H locs hw => ?_)
    refine x_topE (y := (cP3 S).2) (by subst eS4; subst eS3; subst eS2; subst eS1; rfl) ?_
    have eS4 : S4 = (cP3 S).1 := by rw [eS4, eS3]; rfl
    refine lv_istore_n (lv' := [(3, .int ((cP3 S).2)), (2, .int ((cP2 S).2)), (1, .int ((cN1 S (nI 0) (S.1 16 1 - nI 1)).2)), (0, .ref (α 1))]) hx hb dX3_readProduct_53 rfl hl (by decide) rfl (fun ls hl => ?_)
    refine lv_aload_n hx hb dX3_readProduct_54 rfl (lv_at hl 3 rfl) ?_
    refine lv_iload_n hx hb dX3_readProduct_55 rfl (lv_at hl 0 rfl) ?_
    refine lv_sipush (v := nI 999) hx hb dX3_readProduct_56 (by decide) ?_
    refine x_callVI (q := 1) (C := RX3) (As := [.int ((cP3 S).2), .int (nI 999)]) (rest := []) ⟨hx, hb, hml, hown, hts⟩ (ct_X3_readNumber l D cA α n _ hn S4 ((cP3 S).2) (nI 999) (by subst eS4; subst eS3; subst eS2; subst eS1; exact okP_num (okP_num (okP_num (okP_tk h9) _ _) _ _) _ _)) (cwV 2 hts gX3_readProduct_X3_readNumber rfl rfl rfl (by decide +kernel) ⟨Nat.le_of_ble_eq_true rfl, Nat.le_of_ble_eq_true rfl⟩) hK hw hAw (ws_recv hK hw (q := 1) (Nat.lt_of_lt_of_le (Nat.le_of_ble_eq_true rfl : 1 < 191) hn) (mk_1 cA α) rfl) rfl hl.1 rfl (Nat.le_of_ble_eq_true rfl) dX3_readProduct_59 ⟨Nat.zero_le _, Nat.zero_le _⟩ (fun S5 eS5 H locs hw => ?_)
    refine x_topE (y := (cP4 S).2) (by subst eS5; subst eS4; subst eS3; subst eS2; subst eS1; rfl) ?_
    have eS5 : S5 = (cP4 S).1 := by rw [eS5, eS4]; rfl
    refine lv_istore (lv' := [(4, .int ((cP4 S).2)), (3, .int ((cP3 S).2)), (2, .int ((cP2 S).2)), (1, .int ((cN1 S (nI 0) (S.1 16 1 - nI 1)).2)), (0, .ref (α 1))]) hx hb dX3_readProduct_62 hl (by decide) rfl (fun ls hl => ?_)
    refine lv_aload_n hx hb dX3_readProduct_64 rfl (lv_at hl 4 rfl) ?_
    refine x_callVV (q := 1) (C := RX3) (As := []) (rest := []) ⟨hx, hb, hml, hown, hts⟩ (ct_X3_passSemicolon l D cA α n _ hn S5 (by subst eS5; subst eS4; subst eS3; subst eS2; subst eS1; exact okP_num (okP_num (okP_num (okP_num (okP_tk h9) _ _) _ _) _ _) _ _)) (cwV 0 hts gX3_readProduct_X3_passSemicolon rfl rfl rfl (by decide +kernel) ⟨Nat.le_of_ble_eq_true rfl, Nat.le_of_ble_eq_true rfl⟩) hK hw hAw (ws_recv hK hw (q := 1) (Nat.lt_of_lt_of_le (Nat.le_of_ble_eq_true rfl : 1 < 191) hn) (mk_1 cA α) rfl) rfl hl.1 rfl (Nat.le_of_ble_eq_true rfl) dX3_readProduct_65 ⟨Nat.zero_le _, Nat.zero_le _⟩ (fun S6 eS6 H locs hw => ?_)
    refine lv_aload_n hx hb dX3_readProduct_68 rfl (lv_at hl 4 rfl) ?_
    refine x_get (v := .int (S6.1 1 7)) (C := RX3) (T := TX3) (N := 11) hx hb hts (fun _ h => List.mem_cons_of_mem _ (List.mem_append_left _ (List.mem_append_right _ h))) hown hK hw 1 (Nat.lt_of_lt_of_le (Nat.le_of_ble_eq_true rfl : 1 < 191) hn) (mk_1 cA α) rfl 7 (by decide) (hts _ (List.mem_of_getElem? (i := 4) rfl)) (fun _ h9 => h9) rfl dX3_readProduct_69 ?_
    refine lv_if_ne (tgt := 87) hx hb dX3_readProduct_72 (by decide) (fun c2 => ?_) (fun c2 => ?_)
    · skip
      exact ret_v hx hb hr hlocks hK hw dX3_readProduct_87 (by subst eS6; subst eS5; subst eS4; subst eS3; subst eS2; subst eS1; unfold cPro cFin; first | (rw [if_neg c2]; done) | (rw [if_pos c2]; done) | (rw [if_pos c2]; rfl))
    · skip
      refine lv_aload_n hx hb dX3_readProduct_75 rfl (lv_at hl 4 rfl) ?_
      refine x_get (v := .ref (α 16)) (C := RX3) (T := TX3) (N := 11) hx hb hts (fun _ h => List.mem_cons_of_mem _ (List.mem_append_left _ (List.mem_append_right _ h))) hown hK hw 1 (Nat.lt_of_lt_of_le (Nat.le_of_ble_eq_true rfl : 1 < 191) hn) (mk_1 cA α) rfl 0 (by decide) (hts _ (List.mem_of_getElem? (i := 1) rfl)) (fun _ h9 => h9) rfl dX3_readProduct_76 ?_
      refine lv_iload_n hx hb dX3_readProduct_79 rfl (lv_at hl 3 rfl) ?_
      refine lv_iload_n hx hb dX3_readProduct_80 rfl (lv_at hl 2 rfl) ?_
      refine lv_iload_n hx hb dX3_readProduct_81 rfl (lv_at hl 1 rfl) ?_
      refine lv_iload hx hb dX3_readProduct_82 (lv_at hl 0 rfl) ?_
      refine x_callVV (q := 16) (C := RX2) (As := [.int ((cN1 S (nI 0) (S.1 16 1 - nI 1)).2), .int ((cP2 S).2), .int ((cP3 S).2), .int ((cP4 S).2)]) (rest := []) ⟨hx, hb, hml, hown, hts⟩ (ct_X2_addProduct l D cA α n _ hn S6 ((cN1 S (nI 0) (S.1 16 1 - nI 1)).2) ((cP2 S).2) ((cP3 S).2) ((cP4 S).2) k (by subst eS6; subst eS5; subst eS4; subst eS3; subst eS2; subst eS1; rw [cSc_k _ (by decide), cP4_k _ (by decide)]; exact hk) hk2) (cwV 4 hts gX3_readProduct_X2_addProduct rfl rfl rfl (by decide +kernel) ⟨Nat.le_of_ble_eq_true rfl, Nat.le_of_ble_eq_true rfl⟩) hK hw hAw (ws_recv hK hw (q := 16) (Nat.lt_of_lt_of_le (Nat.le_of_ble_eq_true rfl : 16 < 191) hn) (mk_16 cA α) rfl) rfl hl.1 rfl (Nat.le_of_ble_eq_true rfl) dX3_readProduct_84 ⟨Nat.zero_le _, Nat.zero_le _⟩ (fun S7 eS7 H locs hw => ?_)
      exact ret_v hx hb hr hlocks hK hw dX3_readProduct_87 (by subst eS7; subst eS6; subst eS5; subst eS4; subst eS3; subst eS2; subst eS1; unfold cPro cFin; first | (rw [if_neg c2]; done) | (rw [if_pos c2]; done) | (rw [if_pos c2]; rfl))
  · exact absurd hk2 (by omega)

set_option maxRecDepth 100000 in
set_option maxHeartbeats 1000000 in
theorem ct_X3_readProductB (l : Launch) (D : va_G) (cA : Nat → ClassId) (α : Nat → Nat) (n sz : Nat) (hn : 191 ≤ n) (S : Mem) (h9 : okP S) (hk : S.1 16 2 = nI 6) : CtV l yX3_readProduct wsX3_readProduct ({ frames := 3, cells := 0, slots := 0, locals := 67 }) D cA α n sz [.ref (α 1)] S (cRef S (nI 4)) := by
  refine ct_enter cX3_readProduct 5 none (by decide) rfl (Nat.le_of_ble_eq_true rfl) ?_
  intro p e s m below meth c hx hb hr hml hlocks hown hts hK hsz hw ls hl
  have hown : s.vm.findClass RX3 = some m.cls := hown
  have hAw : ∀ z, Aw α n s.heap.size z → Aw α n sz z := by rw [hsz]; exact fun _ h => h
  have hl : lv_has ls 5 [(0, .ref (α 1))] := hl
  refine lv_aload_n hx hb dX3_readProduct_0 rfl (lv_at hl 0 rfl) ?_
  refine lv_iconst (v := nI 0) hx hb dX3_readProduct_1 (by decide) ?_
  refine lv_aload_n hx hb dX3_readProduct_2 rfl (lv_at hl 0 rfl) ?_
  refine x_get (v := .ref (α 16)) (C := RX3) (T := TX3) (N := 11) hx hb hts (fun _ h => List.mem_cons_of_mem _ (List.mem_append_left _ (List.mem_append_right _ h))) hown hK hw 1 (Nat.lt_of_lt_of_le (Nat.le_of_ble_eq_true rfl : 1 < 191) hn) (mk_1 cA α) rfl 0 (by decide) (hts _ (List.mem_of_getElem? (i := 1) rfl)) (fun _ h9 => h9) rfl dX3_readProduct_3 ?_
  refine x_get (v := .int (S.1 16 2)) (C := RX2) (T := TX2) (N := 12) hx hb hts (fun _ h => List.mem_cons_of_mem _ (List.mem_append_right _ h)) hown hK hw 16 (Nat.lt_of_lt_of_le (Nat.le_of_ble_eq_true rfl : 16 < 191) hn) (mk_16 cA α) rfl 2 (by decide) (hts _ (List.mem_of_getElem? (i := 2) rfl)) (fun _ h9 => h9) rfl dX3_readProduct_6 ?_
  refine x_topN (k := 6) hk ?_
  refine lv_bipush (v := nI 6) hx hb dX3_readProduct_9 (by decide) ?_
  refine xn_icmp_lt (tgt := 18) hx hb (by decide) (by decide) dX3_readProduct_11 (by decide) (fun c1 => ?_) (fun c1 => ?_)
  · exact absurd c1 (by decide)
  · skip
    refine lv_iconst (v := nI 1) hx hb dX3_readProduct_14 (by decide) ?_
    refine lv_goto (tgt := 19) hx hb dX3_readProduct_15 (by decide) ?_
    refine x_callVV (q := 1) (C := RX3) (As := [.int (b2i false), .int (b2i true)]) (rest := []) ⟨hx, hb, hml, hown, hts⟩ (ct_X3_passWord l D cA α n _ hn S false true h9) (cwV 2 hts gX3_readProduct_X3_passWord rfl rfl rfl (by decide +kernel) ⟨Nat.le_of_ble_eq_true rfl, Nat.le_of_ble_eq_true rfl⟩) hK hw hAw (ws_recv hK hw (q := 1) (Nat.lt_of_lt_of_le (Nat.le_of_ble_eq_true rfl : 1 < 191) hn) (mk_1 cA α) rfl) rfl hl.1 rfl (Nat.le_of_ble_eq_true rfl) dX3_readProduct_19 ⟨Nat.zero_le _, Nat.zero_le _⟩ (fun S1 eS1 H locs hw => ?_)
    have eS1 : S1 = cRef S (nI 4) := eS1
    refine lv_aload_n hx hb dX3_readProduct_22 rfl (lv_at hl 0 rfl) ?_
    refine lv_iconst (v := nI 0) hx hb dX3_readProduct_23 (by decide) ?_
    refine lv_aload_n hx hb dX3_readProduct_24 rfl (lv_at hl 0 rfl) ?_
    refine x_get (v := .ref (α 16)) (C := RX3) (T := TX3) (N := 11) hx hb hts (fun _ h => List.mem_cons_of_mem _ (List.mem_append_left _ (List.mem_append_right _ h))) hown hK hw 1 (Nat.lt_of_lt_of_le (Nat.le_of_ble_eq_true rfl : 1 < 191) hn) (mk_1 cA α) rfl 0 (by decide) (hts _ (List.mem_of_getElem? (i := 1) rfl)) (fun _ h9 => h9) rfl dX3_readProduct_25 ?_
    refine x_get (v := .int (S1.1 16 1)) (C := RX2) (T := TX2) (N := 12) hx hb hts (fun _ h => List.mem_cons_of_mem _ (List.mem_append_right _ h)) hown hK hw 16 (Nat.lt_of_lt_of_le (Nat.le_of_ble_eq_true rfl : 16 < 191) hn) (mk_16 cA α) rfl 1 (by decide) (hts _ (List.mem_of_getElem? (i := 3) rfl)) (fun _ h9 => h9) rfl dX3_readProduct_28 ?_
    refine lv_iconst (v := nI 1) hx hb dX3_readProduct_31 (by decide) ?_
    refine lv_isub hx hb dX3_readProduct_32 ?_
    refine x_callVI (q := 1) (C := RX3) (As := [.int (nI 0), .int ((S1.1 16 1) - (nI 1))]) (rest := []) ⟨hx, hb, hml, hown, hts⟩ (ct_X3_readNumber l D cA α n _ hn S1 (nI 0) ((S1.1 16 1) - (nI 1)) (by subst eS1; exact okP_ref h9 _)) (cwV 2 hts gX3_readProduct_X3_readNumber rfl rfl rfl (by decide +kernel) ⟨Nat.le_of_ble_eq_true rfl, Nat.le_of_ble_eq_true rfl⟩) hK hw hAw (ws_recv hK hw (q := 1) (Nat.lt_of_lt_of_le (Nat.le_of_ble_eq_true rfl : 1 < 191) hn) (mk_1 cA α) rfl) rfl hl.1 rfl (Nat.le_of_ble_eq_true rfl) dX3_readProduct_33 ⟨Nat.zero_le _, Nat.zero_le _⟩ (fun S2 eS2 H locs hw => ?_)
    have eS2 : S2 = cRef S (nI 4) := by rw [eS2, eS1, cNum_e (cRef_ne h9 (x := 4) (by decide))]
    refine lv_istore_n (lv' := [(1, .int ((cNum S1 (nI 0) ((S1.1 16 1) - (nI 1))).2)), (0, .ref (α 1))]) hx hb dX3_readProduct_36 rfl hl (by decide) rfl (fun ls hl => ?_)
    refine lv_aload_n hx hb dX3_readProduct_37 rfl (lv_at hl 1 rfl) ?_
    refine lv_iconst (v := nI 1) hx hb dX3_readProduct_38 (by decide) ?_
    refine lv_sipush (v := nI 9999) hx hb dX3_readProduct_39 (by decide) ?_
    refine x_callVI (q := 1) (C := RX3) (As := [.int (nI 1), .int (nI 9999)]) (rest := []) ⟨hx, hb, hml, hown, hts⟩ (ct_X3_readNumber l D cA α n _ hn S2 (nI 1) (nI 9999) (by subst eS2; subst eS1; exact okP_ref h9 _)) (cwV 2 hts gX3_readProduct_X3_readNumber rfl rfl rfl (by decide +kernel) ⟨Nat.le_of_ble_eq_true rfl, Nat.le_of_ble_eq_true rfl⟩) hK hw hAw (ws_recv hK hw (q := 1) (Nat.lt_of_lt_of_le (Nat.le_of_ble_eq_true rfl : 1 < 191) hn) (mk_1 cA α) rfl) rfl hl.1 rfl (Nat.le_of_ble_eq_true rfl) dX3_readProduct_42 ⟨Nat.zero_le _, Nat.zero_le _⟩ (fun S3 eS3 H locs hw => ?_)
    have eS3 : S3 = cRef S (nI 4) := by rw [eS3, eS2, cNum_e (cRef_ne h9 (x := 4) (by decide))]
    refine lv_istore_n (lv' := [(2, .int ((cNum S2 (nI 1) (nI 9999)).2)), (1, .int ((cNum S1 (nI 0) ((S1.1 16 1) - (nI 1))).2)), (0, .ref (α 1))]) hx hb dX3_readProduct_45 rfl hl (by decide) rfl (fun ls hl => ?_)
    refine lv_aload_n hx hb dX3_readProduct_46 rfl (lv_at hl 2 rfl) ?_
    refine lv_iconst (v := nI 0) hx hb dX3_readProduct_47 (by decide) ?_
    refine lv_bipush (v := nI 99) hx hb dX3_readProduct_48 (by decide) ?_
    refine x_callVI (q := 1) (C := RX3) (As := [.int (nI 0), .int (nI 99)]) (rest := []) ⟨hx, hb, hml, hown, hts⟩ (ct_X3_readNumber l D cA α n _ hn S3 (nI 0) (nI 99) (by subst eS3; subst eS2; subst eS1; exact okP_ref h9 _)) (cwV 2 hts gX3_readProduct_X3_readNumber rfl rfl rfl (by decide +kernel) ⟨Nat.le_of_ble_eq_true rfl, Nat.le_of_ble_eq_true rfl⟩) hK hw hAw (ws_recv hK hw (q := 1) (Nat.lt_of_lt_of_le (Nat.le_of_ble_eq_true rfl : 1 < 191) hn) (mk_1 cA α) rfl) rfl hl.1 rfl (Nat.le_of_ble_eq_true rfl) dX3_readProduct_50 ⟨Nat.zero_le _, Nat.zero_le _⟩ (fun S4 eS4 H locs hw => ?_)
    have eS4 : S4 = cRef S (nI 4) := by rw [eS4, eS3, cNum_e (cRef_ne h9 (x := 4) (by decide))]
    refine lv_istore_n (lv' := [(3, .int ((cNum S3 (nI 0) (nI 99)).2)), (2, .int ((cNum S2 (nI 1) (nI 9999)).2)), (1, .int ((cNum S1 (nI 0) ((S1.1 16 1) - (nI 1))).2)), (0, .ref (α 1))]) hx hb dX3_readProduct_53 rfl hl (by decide) rfl (fun ls hl => ?_)
    refine lv_aload_n hx hb dX3_readProduct_54 rfl (lv_at hl 3 rfl) ?_
    refine lv_iload_n hx hb dX3_readProduct_55 rfl (lv_at hl 0 rfl) ?_
    refine lv_sipush (v := nI 999) hx hb dX3_readProduct_56 (by decide) ?_
    refine x_callVI (q := 1) (C := RX3) (As := [.int ((cNum S3 (nI 0) (nI 99)).2), .int (nI 999)]) (rest := []) ⟨hx, hb, hml, hown, hts⟩ (ct_X3_readNumber l D cA α n _ hn S4 ((cNum S3 (nI 0) (nI 99)).2) (nI 999) (by subst eS4; subst eS3; subst eS2; subst eS1; exact okP_ref h9 _)) (cwV 2 hts gX3_readProduct_X3_readNumber rfl rfl rfl (by decide +kernel) ⟨Nat.le_of_ble_eq_true rfl, Nat.le_of_ble_eq_true rfl⟩) hK hw hAw (ws_recv hK hw (q := 1) (Nat.lt_of_lt_of_le (Nat.le_of_ble_eq_true rfl : 1 < 191) hn) (mk_1 cA α) rfl) rfl hl.1 rfl (Nat.le_of_ble_eq_true rfl) dX3_readProduct_59 ⟨Nat.zero_le _, Nat.zero_le _⟩ (fun S5 eS5 H locs hw => ?_)
    have eS5 : S5 = cRef S (nI 4) := by rw [eS5, eS4, cNum_e (cRef_ne h9 (x := 4) (by decide))]
    refine lv_istore (lv' := [(4, .int ((cNum S4 ((cNum S3 (nI 0) (nI 99)).2) (nI 999)).2)), (3, .int ((cNum S3 (nI 0) (nI 99)).2)), (2, .int ((cNum S2 (nI 1) (nI 9999)).2)), (1, .int ((cNum S1 (nI 0) ((S1.1 16 1) - (nI 1))).2)), (0, .ref (α 1))]) hx hb dX3_readProduct_62 hl (by decide) rfl (fun ls hl => ?_)
    refine lv_aload_n hx hb dX3_readProduct_64 rfl (lv_at hl 4 rfl) ?_
    refine x_callVV (q := 1) (C := RX3) (As := []) (rest := []) ⟨hx, hb, hml, hown, hts⟩ (ct_X3_passSemicolon l D cA α n _ hn S5 (by subst eS5; subst eS4; subst eS3; subst eS2; subst eS1; exact okP_ref h9 _)) (cwV 0 hts gX3_readProduct_X3_passSemicolon rfl rfl rfl (by decide +kernel) ⟨Nat.le_of_ble_eq_true rfl, Nat.le_of_ble_eq_true rfl⟩) hK hw hAw (ws_recv hK hw (q := 1) (Nat.lt_of_lt_of_le (Nat.le_of_ble_eq_true rfl : 1 < 191) hn) (mk_1 cA α) rfl) rfl hl.1 rfl (Nat.le_of_ble_eq_true rfl) dX3_readProduct_65 ⟨Nat.zero_le _, Nat.zero_le _⟩ (fun S6 eS6 H locs hw => ?_)
    have eS6 : S6 = cRef S (nI 4) := by rw [eS6, eS5, cSc_e (cRef_ne h9 (x := 4) (by decide))]
    refine lv_aload_n hx hb dX3_readProduct_68 rfl (lv_at hl 4 rfl) ?_
    refine x_get (v := .int (S6.1 1 7)) (C := RX3) (T := TX3) (N := 11) hx hb hts (fun _ h => List.mem_cons_of_mem _ (List.mem_append_left _ (List.mem_append_right _ h))) hown hK hw 1 (Nat.lt_of_lt_of_le (Nat.le_of_ble_eq_true rfl : 1 < 191) hn) (mk_1 cA α) rfl 7 (by decide) (hts _ (List.mem_of_getElem? (i := 4) rfl)) (fun _ h9 => h9) rfl dX3_readProduct_69 ?_
    refine lv_if_ne (tgt := 87) hx hb dX3_readProduct_72 (by decide) (fun c2 => ?_) (fun c2 => ?_)
    · skip
      exact ret_v hx hb hr hlocks hK hw dX3_readProduct_87 (by subst eS6; subst eS5; subst eS4; subst eS3; subst eS2; subst eS1; rfl)
    · exact absurd c2 (by subst eS6; subst eS5; subst eS4; subst eS3; subst eS2; subst eS1; exact (cRef_ne h9 (x := 4) (by decide)))

theorem ct_X3_readProductU (l : Launch) (D : va_G) (cA : Nat → ClassId) (α : Nat → Nat) (n sz : Nat) (hn : 191 ≤ n) (S : Mem) (h9 : okP S) (k : Nat) (hk : S.1 16 2 = nI k) (hk2 : k ≤ 6) : CtV l yX3_readProduct wsX3_readProduct { frames := 3, cells := 0, slots := 0, locals := 67 } D cA α n sz [.ref (α 1)] S (if k < 6 then cPro S k else cRef S (nI 4)) := by
  by_cases h : k < 6
  · rw [if_pos h]; exact ct_X3_readProduct l D cA α n sz hn S h9 k hk h
  · rw [if_neg h]; exact ct_X3_readProductB l D cA α n sz hn S h9 (by rw [hk, show k = 6 by omega])

set_option maxRecDepth 100000 in
set_option maxHeartbeats 1000000 in
theorem ct_X3_readTolerance (l : Launch) (D : va_G) (cA : Nat → ClassId) (α : Nat → Nat) (n sz : Nat) (hn : 191 ≤ n) (S : Mem) (h9 : okP S) (hsn : S.1 1 8 = b2i false) : CtV l yX3_readTolerance wsX3_readTolerance ({ frames := 3, cells := 0, slots := 0, locals := 67 }) D cA α n sz [.ref (α 1)] S (cOc S 8 3 (nI 9999)) := by
  refine ct_enter cX3_readTolerance 1 none (by decide) rfl (Nat.le_of_ble_eq_true rfl) ?_
  intro p e s m below meth c hx hb hr hml hlocks hown hts hK hsz hw ls hl
  have hown : s.vm.findClass RX3 = some m.cls := hown
  have hAw : ∀ z, Aw α n s.heap.size z → Aw α n sz z := by rw [hsz]; exact fun _ h => h
  have hl : lv_has ls 1 [(0, .ref (α 1))] := hl
  refine lv_aload_n hx hb dX3_readTolerance_0 rfl (lv_at hl 0 rfl) ?_
  refine lv_aload_n hx hb dX3_readTolerance_1 rfl (lv_at hl 0 rfl) ?_
  refine x_get (v := .int (S.1 1 8)) (C := RX3) (T := TX3) (N := 11) hx hb hts (fun _ h => List.mem_cons_of_mem _ (List.mem_append_left _ (List.mem_append_right _ h))) hown hK hw 1 (Nat.lt_of_lt_of_le (Nat.le_of_ble_eq_true rfl : 1 < 191) hn) (mk_1 cA α) rfl 8 (by decide) (hts _ (List.mem_of_getElem? (i := 1) rfl)) (fun _ h9 => h9) rfl dX3_readTolerance_2 ?_
  refine x_topE (y := b2i false) hsn ?_
  refine lv_iconst (v := nI 0) hx hb dX3_readTolerance_5 (by decide) ?_
  refine x_callVV (q := 1) (C := RX3) (As := [.int (b2i false), .int (b2i false)]) (rest := []) ⟨hx, hb, hml, hown, hts⟩ (ct_X3_passWord l D cA α n _ hn S false false h9) (cwV 2 hts gX3_readTolerance_X3_passWord rfl rfl rfl (by decide +kernel) ⟨Nat.le_of_ble_eq_true rfl, Nat.le_of_ble_eq_true rfl⟩) hK hw hAw (ws_recv hK hw (q := 1) (Nat.lt_of_lt_of_le (Nat.le_of_ble_eq_true rfl : 1 < 191) hn) (mk_1 cA α) rfl) rfl hl.1 rfl (Nat.le_of_ble_eq_true rfl) dX3_readTolerance_6 ⟨Nat.zero_le _, Nat.zero_le _⟩ (fun S1 eS1 H locs hw => ?_)
  have eS1 : S1 = tk S := eS1
  refine lv_aload_n hx hb dX3_readTolerance_9 rfl (lv_at hl 0 rfl) ?_
  refine lv_iconst (v := nI 1) hx hb dX3_readTolerance_10 (by decide) ?_
  refine x_putI (x := nI 1) (ty := .boolean) (C := RX3) (T := TX3) (N := 11) hx hb hts (fun _ h => List.mem_cons_of_mem _ (List.mem_append_left _ (List.mem_append_right _ h))) tyX3 tyX3_ok nmX3 hown hK hw 1 (Nat.lt_of_lt_of_le (Nat.le_of_ble_eq_true rfl : 1 < 191) hn) (mk_1 cA α) rfl 8 (by decide) (hts _ (List.mem_of_getElem? (i := 1) rfl)) (fun _ h9 => h9) rfl rfl (by decide) (by decide) (Nat.le_of_ble_eq_true rfl) rfl dX3_readTolerance_11 (fun S2 eS2 H locs hw => ?_)
  refine lv_aload_n hx hb dX3_readTolerance_14 rfl (lv_at hl 0 rfl) ?_
  refine x_get (v := .ref (α 16)) (C := RX3) (T := TX3) (N := 11) hx hb hts (fun _ h => List.mem_cons_of_mem _ (List.mem_append_left _ (List.mem_append_right _ h))) hown hK hw 1 (Nat.lt_of_lt_of_le (Nat.le_of_ble_eq_true rfl : 1 < 191) hn) (mk_1 cA α) rfl 0 (by decide) (hts _ (List.mem_of_getElem? (i := 2) rfl)) (fun _ h9 => h9) rfl dX3_readTolerance_15 ?_
  refine lv_aload_n hx hb dX3_readTolerance_18 rfl (lv_at hl 0 rfl) ?_
  refine lv_iconst (v := nI 0) hx hb dX3_readTolerance_19 (by decide) ?_
  refine lv_sipush (v := nI 9999) hx hb dX3_readTolerance_20 (by decide) ?_
  refine x_callVI (q := 1) (C := RX3) (As := [.int (nI 0), .int (nI 9999)]) (rest := [.ref (α 16)]) ⟨hx, hb, hml, hown, hts⟩ (ct_X3_readNumber l D cA α n _ hn S2 (nI 0) (nI 9999) (by subst eS2; subst eS1; exact okP_fl (okP_tk h9) (by decide))) (cwV 2 hts gX3_readTolerance_X3_readNumber rfl rfl rfl (by decide +kernel) ⟨Nat.le_of_ble_eq_true rfl, Nat.le_of_ble_eq_true rfl⟩) hK hw hAw (ws_recv hK hw (q := 1) (Nat.lt_of_lt_of_le (Nat.le_of_ble_eq_true rfl : 1 < 191) hn) (mk_1 cA α) rfl) rfl hl.1 rfl (Nat.le_of_ble_eq_true rfl) dX3_readTolerance_23 ⟨Nat.zero_le _, Nat.zero_le _⟩ (fun S3 eS3 H locs hw => ?_)
  refine x_putI (x := (cNum S2 (nI 0) (nI 9999)).2) (ty := .int) (C := RX2) (T := TX2) (N := 12) hx hb hts (fun _ h => List.mem_cons_of_mem _ (List.mem_append_right _ h)) tyX2 tyX2_ok nmX2 hown hK hw 16 (Nat.lt_of_lt_of_le (Nat.le_of_ble_eq_true rfl : 16 < 191) hn) (mk_16 cA α) rfl 3 (by decide) (hts _ (List.mem_of_getElem? (i := 3) rfl)) (fun _ h9 => h9) rfl rfl rfl rfl (Nat.le_of_ble_eq_true rfl) rfl dX3_readTolerance_26 (fun S4 eS4 H locs hw => ?_)
  refine lv_aload_n hx hb dX3_readTolerance_29 rfl (lv_at hl 0 rfl) ?_
  refine x_callVV (q := 1) (C := RX3) (As := []) (rest := []) ⟨hx, hb, hml, hown, hts⟩ (ct_X3_passSemicolon l D cA α n _ hn S4 (by subst eS4; subst eS3; subst eS2; subst eS1; exact okP_o (okP_num (okP_fl (okP_tk h9) (by decide)) _ _) (by decide))) (cwV 0 hts gX3_readTolerance_X3_passSemicolon rfl rfl rfl (by decide +kernel) ⟨Nat.le_of_ble_eq_true rfl, Nat.le_of_ble_eq_true rfl⟩) hK hw hAw (ws_recv hK hw (q := 1) (Nat.lt_of_lt_of_le (Nat.le_of_ble_eq_true rfl : 1 < 191) hn) (mk_1 cA α) rfl) rfl hl.1 rfl (Nat.le_of_ble_eq_true rfl) dX3_readTolerance_30 ⟨Nat.zero_le _, Nat.zero_le _⟩ (fun S5 eS5 H locs hw => ?_)
  exact ret_v hx hb hr hlocks hK hw dX3_readTolerance_33 (by subst eS5; subst eS4; subst eS3; subst eS2; subst eS1; rfl)

set_option maxRecDepth 100000 in
set_option maxHeartbeats 1000000 in
theorem ct_X3_readToleranceB (l : Launch) (D : va_G) (cA : Nat → ClassId) (α : Nat → Nat) (n sz : Nat) (hn : 191 ≤ n) (S : Mem) (h9 : okP S) (hsn : S.1 1 8 = b2i true) : CtV l yX3_readTolerance wsX3_readTolerance ({ frames := 3, cells := 0, slots := 0, locals := 67 }) D cA α n sz [.ref (α 1)] S (cOcB S 8 3) := by
  refine ct_enter cX3_readTolerance 1 none (by decide) rfl (Nat.le_of_ble_eq_true rfl) ?_
  intro p e s m below meth c hx hb hr hml hlocks hown hts hK hsz hw ls hl
  have hown : s.vm.findClass RX3 = some m.cls := hown
  have hAw : ∀ z, Aw α n s.heap.size z → Aw α n sz z := by rw [hsz]; exact fun _ h => h
  have hl : lv_has ls 1 [(0, .ref (α 1))] := hl
  refine lv_aload_n hx hb dX3_readTolerance_0 rfl (lv_at hl 0 rfl) ?_
  refine lv_aload_n hx hb dX3_readTolerance_1 rfl (lv_at hl 0 rfl) ?_
  refine x_get (v := .int (S.1 1 8)) (C := RX3) (T := TX3) (N := 11) hx hb hts (fun _ h => List.mem_cons_of_mem _ (List.mem_append_left _ (List.mem_append_right _ h))) hown hK hw 1 (Nat.lt_of_lt_of_le (Nat.le_of_ble_eq_true rfl : 1 < 191) hn) (mk_1 cA α) rfl 8 (by decide) (hts _ (List.mem_of_getElem? (i := 1) rfl)) (fun _ h9 => h9) rfl dX3_readTolerance_2 ?_
  refine x_topE (y := b2i true) hsn ?_
  refine lv_iconst (v := nI 0) hx hb dX3_readTolerance_5 (by decide) ?_
  refine x_callVV (q := 1) (C := RX3) (As := [.int (b2i true), .int (b2i false)]) (rest := []) ⟨hx, hb, hml, hown, hts⟩ (ct_X3_passWord l D cA α n _ hn S true false h9) (cwV 2 hts gX3_readTolerance_X3_passWord rfl rfl rfl (by decide +kernel) ⟨Nat.le_of_ble_eq_true rfl, Nat.le_of_ble_eq_true rfl⟩) hK hw hAw (ws_recv hK hw (q := 1) (Nat.lt_of_lt_of_le (Nat.le_of_ble_eq_true rfl : 1 < 191) hn) (mk_1 cA α) rfl) rfl hl.1 rfl (Nat.le_of_ble_eq_true rfl) dX3_readTolerance_6 ⟨Nat.zero_le _, Nat.zero_le _⟩ (fun S1 eS1 H locs hw => ?_)
  have eS1 : S1 = cRef S (nI 2) := eS1
  refine lv_aload_n hx hb dX3_readTolerance_9 rfl (lv_at hl 0 rfl) ?_
  refine lv_iconst (v := nI 1) hx hb dX3_readTolerance_10 (by decide) ?_
  refine x_putI (x := nI 1) (ty := .boolean) (C := RX3) (T := TX3) (N := 11) hx hb hts (fun _ h => List.mem_cons_of_mem _ (List.mem_append_left _ (List.mem_append_right _ h))) tyX3 tyX3_ok nmX3 hown hK hw 1 (Nat.lt_of_lt_of_le (Nat.le_of_ble_eq_true rfl : 1 < 191) hn) (mk_1 cA α) rfl 8 (by decide) (hts _ (List.mem_of_getElem? (i := 1) rfl)) (fun _ h9 => h9) rfl rfl (by decide) (by decide) (Nat.le_of_ble_eq_true rfl) rfl dX3_readTolerance_11 (fun S2 eS2 H locs hw => ?_)
  refine lv_aload_n hx hb dX3_readTolerance_14 rfl (lv_at hl 0 rfl) ?_
  refine x_get (v := .ref (α 16)) (C := RX3) (T := TX3) (N := 11) hx hb hts (fun _ h => List.mem_cons_of_mem _ (List.mem_append_left _ (List.mem_append_right _ h))) hown hK hw 1 (Nat.lt_of_lt_of_le (Nat.le_of_ble_eq_true rfl : 1 < 191) hn) (mk_1 cA α) rfl 0 (by decide) (hts _ (List.mem_of_getElem? (i := 2) rfl)) (fun _ h9 => h9) rfl dX3_readTolerance_15 ?_
  refine lv_aload_n hx hb dX3_readTolerance_18 rfl (lv_at hl 0 rfl) ?_
  refine lv_iconst (v := nI 0) hx hb dX3_readTolerance_19 (by decide) ?_
  refine lv_sipush (v := nI 9999) hx hb dX3_readTolerance_20 (by decide) ?_
  refine x_callVI (q := 1) (C := RX3) (As := [.int (nI 0), .int (nI 9999)]) (rest := [.ref (α 16)]) ⟨hx, hb, hml, hown, hts⟩ (ct_X3_readNumber l D cA α n _ hn S2 (nI 0) (nI 9999) (by subst eS2; subst eS1; exact okP_fl (okP_ref h9 _) (by decide))) (cwV 2 hts gX3_readTolerance_X3_readNumber rfl rfl rfl (by decide +kernel) ⟨Nat.le_of_ble_eq_true rfl, Nat.le_of_ble_eq_true rfl⟩) hK hw hAw (ws_recv hK hw (q := 1) (Nat.lt_of_lt_of_le (Nat.le_of_ble_eq_true rfl : 1 < 191) hn) (mk_1 cA α) rfl) rfl hl.1 rfl (Nat.le_of_ble_eq_true rfl) dX3_readTolerance_23 ⟨Nat.zero_le _, Nat.zero_le _⟩ (fun S3 eS3 H locs hw => ?_)
  refine x_topE (y := nI 0) (by subst eS3; subst eS2; subst eS1; rw [cNum_e (by rw [sI_e, pk_un (by decide)]; exact (cRef_ne h9 (x := 2) (by decide)))]) ?_
  have hz : ¬ S2.1 1 7 = 0 := by subst eS2; subst eS1; exact (by rw [sI_e, pk_un (by decide)]; exact (cRef_ne h9 (x := 2) (by decide)))
  have eS3 : S3 = S2 := by rw [eS3, cNum_e hz]
  refine x_putI (x := nI 0) (ty := .int) (C := RX2) (T := TX2) (N := 12) hx hb hts (fun _ h => List.mem_cons_of_mem _ (List.mem_append_right _ h)) tyX2 tyX2_ok nmX2 hown hK hw 16 (Nat.lt_of_lt_of_le (Nat.le_of_ble_eq_true rfl : 16 < 191) hn) (mk_16 cA α) rfl 3 (by decide) (hts _ (List.mem_of_getElem? (i := 3) rfl)) (fun _ h9 => h9) rfl rfl rfl rfl (Nat.le_of_ble_eq_true rfl) rfl dX3_readTolerance_26 (fun S4 eS4 H locs hw => ?_)
  refine lv_aload_n hx hb dX3_readTolerance_29 rfl (lv_at hl 0 rfl) ?_
  refine x_callVV (q := 1) (C := RX3) (As := []) (rest := []) ⟨hx, hb, hml, hown, hts⟩ (ct_X3_passSemicolon l D cA α n _ hn S4 (by subst eS4; subst eS3; subst eS2; subst eS1; exact okP_o (okP_fl (okP_ref h9 _) (by decide)) (by decide))) (cwV 0 hts gX3_readTolerance_X3_passSemicolon rfl rfl rfl (by decide +kernel) ⟨Nat.le_of_ble_eq_true rfl, Nat.le_of_ble_eq_true rfl⟩) hK hw hAw (ws_recv hK hw (q := 1) (Nat.lt_of_lt_of_le (Nat.le_of_ble_eq_true rfl : 1 < 191) hn) (mk_1 cA α) rfl) rfl hl.1 rfl (Nat.le_of_ble_eq_true rfl) dX3_readTolerance_30 ⟨Nat.zero_le _, Nat.zero_le _⟩ (fun S5 eS5 H locs hw => ?_)
  have eS5 : S5 = cOcB S 8 3 := by rw [eS5, cSc_e (by subst eS4; subst eS3; subst eS2; subst eS1; rw [sI_1 (by decide)]; exact (by rw [sI_e, pk_un (by decide)]; exact (cRef_ne h9 (x := 2) (by decide))))]; subst eS4; subst eS3; subst eS2; subst eS1; rfl
  exact ret_v hx hb hr hlocks hK hw dX3_readTolerance_33 (by subst eS5; subst eS4; subst eS3; subst eS2; subst eS1; rfl)

theorem ct_X3_readToleranceU (l : Launch) (D : va_G) (cA : Nat → ClassId) (α : Nat → Nat) (n sz : Nat) (hn : 191 ≤ n) (S : Mem) (h9 : okP S) (b : Bool) (hsn : S.1 1 8 = b2i b) : CtV l yX3_readTolerance wsX3_readTolerance { frames := 3, cells := 0, slots := 0, locals := 67 } D cA α n sz [.ref (α 1)] S (if b then cOcB S 8 3 else cOc S 8 3 (nI 9999)) := by
  cases b
  · exact ct_X3_readTolerance l D cA α n sz hn S h9 hsn
  · exact ct_X3_readToleranceB l D cA α n sz hn S h9 hsn

set_option maxRecDepth 100000 in
set_option maxHeartbeats 1000000 in
theorem ct_X3_readCenter (l : Launch) (D : va_G) (cA : Nat → ClassId) (α : Nat → Nat) (n sz : Nat) (hn : 191 ≤ n) (S : Mem) (h9 : okP S) (hsn : S.1 1 9 = b2i false) : CtV l yX3_readCenter wsX3_readCenter ({ frames := 3, cells := 0, slots := 0, locals := 67 }) D cA α n sz [.ref (α 1)] S (cOc S 9 4 (S.1 16 1 - nI 1)) := by
  refine ct_enter cX3_readCenter 1 none (by decide) rfl (Nat.le_of_ble_eq_true rfl) ?_
  intro p e s m below meth c hx hb hr hml hlocks hown hts hK hsz hw ls hl
  have hown : s.vm.findClass RX3 = some m.cls := hown
  have hAw : ∀ z, Aw α n s.heap.size z → Aw α n sz z := by rw [hsz]; exact fun _ h => h
  have hl : lv_has ls 1 [(0, .ref (α 1))] := hl
  refine lv_aload_n hx hb dX3_readCenter_0 rfl (lv_at hl 0 rfl) ?_
  refine lv_aload_n hx hb dX3_readCenter_1 rfl (lv_at hl 0 rfl) ?_
  refine x_get (v := .int (S.1 1 9)) (C := RX3) (T := TX3) (N := 11) hx hb hts (fun _ h => List.mem_cons_of_mem _ (List.mem_append_left _ (List.mem_append_right _ h))) hown hK hw 1 (Nat.lt_of_lt_of_le (Nat.le_of_ble_eq_true rfl : 1 < 191) hn) (mk_1 cA α) rfl 9 (by decide) (hts _ (List.mem_of_getElem? (i := 1) rfl)) (fun _ h9 => h9) rfl dX3_readCenter_2 ?_
  refine x_topE (y := b2i false) hsn ?_
  refine lv_iconst (v := nI 0) hx hb dX3_readCenter_5 (by decide) ?_
  refine x_callVV (q := 1) (C := RX3) (As := [.int (b2i false), .int (b2i false)]) (rest := []) ⟨hx, hb, hml, hown, hts⟩ (ct_X3_passWord l D cA α n _ hn S false false h9) (cwV 2 hts gX3_readCenter_X3_passWord rfl rfl rfl (by decide +kernel) ⟨Nat.le_of_ble_eq_true rfl, Nat.le_of_ble_eq_true rfl⟩) hK hw hAw (ws_recv hK hw (q := 1) (Nat.lt_of_lt_of_le (Nat.le_of_ble_eq_true rfl : 1 < 191) hn) (mk_1 cA α) rfl) rfl hl.1 rfl (Nat.le_of_ble_eq_true rfl) dX3_readCenter_6 ⟨Nat.zero_le _, Nat.zero_le _⟩ (fun S1 eS1 H locs hw => ?_)
  have eS1 : S1 = tk S := eS1
  refine lv_aload_n hx hb dX3_readCenter_9 rfl (lv_at hl 0 rfl) ?_
  refine lv_iconst (v := nI 1) hx hb dX3_readCenter_10 (by decide) ?_
  refine x_putI (x := nI 1) (ty := .boolean) (C := RX3) (T := TX3) (N := 11) hx hb hts (fun _ h => List.mem_cons_of_mem _ (List.mem_append_left _ (List.mem_append_right _ h))) tyX3 tyX3_ok nmX3 hown hK hw 1 (Nat.lt_of_lt_of_le (Nat.le_of_ble_eq_true rfl : 1 < 191) hn) (mk_1 cA α) rfl 9 (by decide) (hts _ (List.mem_of_getElem? (i := 1) rfl)) (fun _ h9 => h9) rfl rfl (by decide) (by decide) (Nat.le_of_ble_eq_true rfl) rfl dX3_readCenter_11 (fun S2 eS2 H locs hw => ?_)
  refine lv_aload_n hx hb dX3_readCenter_14 rfl (lv_at hl 0 rfl) ?_
  refine x_get (v := .ref (α 16)) (C := RX3) (T := TX3) (N := 11) hx hb hts (fun _ h => List.mem_cons_of_mem _ (List.mem_append_left _ (List.mem_append_right _ h))) hown hK hw 1 (Nat.lt_of_lt_of_le (Nat.le_of_ble_eq_true rfl : 1 < 191) hn) (mk_1 cA α) rfl 0 (by decide) (hts _ (List.mem_of_getElem? (i := 2) rfl)) (fun _ h9 => h9) rfl dX3_readCenter_15 ?_
  refine lv_aload_n hx hb dX3_readCenter_18 rfl (lv_at hl 0 rfl) ?_
  refine lv_iconst (v := nI 0) hx hb dX3_readCenter_19 (by decide) ?_
  refine lv_aload_n hx hb dX3_readCenter_20 rfl (lv_at hl 0 rfl) ?_
  refine x_get (v := .ref (α 16)) (C := RX3) (T := TX3) (N := 11) hx hb hts (fun _ h => List.mem_cons_of_mem _ (List.mem_append_left _ (List.mem_append_right _ h))) hown hK hw 1 (Nat.lt_of_lt_of_le (Nat.le_of_ble_eq_true rfl : 1 < 191) hn) (mk_1 cA α) rfl 0 (by decide) (hts _ (List.mem_of_getElem? (i := 2) rfl)) (fun _ h9 => h9) rfl dX3_readCenter_21 ?_
  refine x_get (v := .int (S2.1 16 1)) (C := RX2) (T := TX2) (N := 12) hx hb hts (fun _ h => List.mem_cons_of_mem _ (List.mem_append_right _ h)) hown hK hw 16 (Nat.lt_of_lt_of_le (Nat.le_of_ble_eq_true rfl : 16 < 191) hn) (mk_16 cA α) rfl 1 (by decide) (hts _ (List.mem_of_getElem? (i := 3) rfl)) (fun _ h9 => h9) rfl dX3_readCenter_24 ?_
  refine x_topE (y := S.1 16 1) (by subst eS2; subst eS1; rw [sI_1 (by decide), tk_k _ (by decide)]) ?_
  refine lv_iconst (v := nI 1) hx hb dX3_readCenter_27 (by decide) ?_
  refine lv_isub hx hb dX3_readCenter_28 ?_
  refine x_callVI (q := 1) (C := RX3) (As := [.int (nI 0), .int ((S.1 16 1) - (nI 1))]) (rest := [.ref (α 16)]) ⟨hx, hb, hml, hown, hts⟩ (ct_X3_readNumber l D cA α n _ hn S2 (nI 0) ((S.1 16 1) - (nI 1)) (by subst eS2; subst eS1; exact okP_fl (okP_tk h9) (by decide))) (cwV 2 hts gX3_readCenter_X3_readNumber rfl rfl rfl (by decide +kernel) ⟨Nat.le_of_ble_eq_true rfl, Nat.le_of_ble_eq_true rfl⟩) hK hw hAw (ws_recv hK hw (q := 1) (Nat.lt_of_lt_of_le (Nat.le_of_ble_eq_true rfl : 1 < 191) hn) (mk_1 cA α) rfl) rfl hl.1 rfl (Nat.le_of_ble_eq_true rfl) dX3_readCenter_29 ⟨Nat.zero_le _, Nat.zero_le _⟩ (fun S3 eS3 H locs hw => ?_)
  refine x_putI (x := (cNum S2 (nI 0) ((S.1 16 1) - (nI 1))).2) (ty := .int) (C := RX2) (T := TX2) (N := 12) hx hb hts (fun _ h => List.mem_cons_of_mem _ (List.mem_append_right _ h)) tyX2 tyX2_ok nmX2 hown hK hw 16 (Nat.lt_of_lt_of_le (Nat.le_of_ble_eq_true rfl : 16 < 191) hn) (mk_16 cA α) rfl 4 (by decide) (hts _ (List.mem_of_getElem? (i := 4) rfl)) (fun _ h9 => h9) rfl rfl rfl rfl (Nat.le_of_ble_eq_true rfl) rfl dX3_readCenter_32 (fun S4 eS4 H locs hw => ?_)
  refine lv_aload_n hx hb dX3_readCenter_35 rfl (lv_at hl 0 rfl) ?_
  refine x_callVV (q := 1) (C := RX3) (As := []) (rest := []) ⟨hx, hb, hml, hown, hts⟩ (ct_X3_passSemicolon l D cA α n _ hn S4 (by subst eS4; subst eS3; subst eS2; subst eS1; exact okP_o (okP_num (okP_fl (okP_tk h9) (by decide)) _ _) (by decide))) (cwV 0 hts gX3_readCenter_X3_passSemicolon rfl rfl rfl (by decide +kernel) ⟨Nat.le_of_ble_eq_true rfl, Nat.le_of_ble_eq_true rfl⟩) hK hw hAw (ws_recv hK hw (q := 1) (Nat.lt_of_lt_of_le (Nat.le_of_ble_eq_true rfl : 1 < 191) hn) (mk_1 cA α) rfl) rfl hl.1 rfl (Nat.le_of_ble_eq_true rfl) dX3_readCenter_36 ⟨Nat.zero_le _, Nat.zero_le _⟩ (fun S5 eS5 H locs hw => ?_)
  exact ret_v hx hb hr hlocks hK hw dX3_readCenter_39 (by subst eS5; subst eS4; subst eS3; subst eS2; subst eS1; rfl)

set_option maxRecDepth 100000 in
set_option maxHeartbeats 1000000 in
theorem ct_X3_readCenterB (l : Launch) (D : va_G) (cA : Nat → ClassId) (α : Nat → Nat) (n sz : Nat) (hn : 191 ≤ n) (S : Mem) (h9 : okP S) (hsn : S.1 1 9 = b2i true) : CtV l yX3_readCenter wsX3_readCenter ({ frames := 3, cells := 0, slots := 0, locals := 67 }) D cA α n sz [.ref (α 1)] S (cOcB S 9 4) := by
  refine ct_enter cX3_readCenter 1 none (by decide) rfl (Nat.le_of_ble_eq_true rfl) ?_
  intro p e s m below meth c hx hb hr hml hlocks hown hts hK hsz hw ls hl
  have hown : s.vm.findClass RX3 = some m.cls := hown
  have hAw : ∀ z, Aw α n s.heap.size z → Aw α n sz z := by rw [hsz]; exact fun _ h => h
  have hl : lv_has ls 1 [(0, .ref (α 1))] := hl
  refine lv_aload_n hx hb dX3_readCenter_0 rfl (lv_at hl 0 rfl) ?_
  refine lv_aload_n hx hb dX3_readCenter_1 rfl (lv_at hl 0 rfl) ?_
  refine x_get (v := .int (S.1 1 9)) (C := RX3) (T := TX3) (N := 11) hx hb hts (fun _ h => List.mem_cons_of_mem _ (List.mem_append_left _ (List.mem_append_right _ h))) hown hK hw 1 (Nat.lt_of_lt_of_le (Nat.le_of_ble_eq_true rfl : 1 < 191) hn) (mk_1 cA α) rfl 9 (by decide) (hts _ (List.mem_of_getElem? (i := 1) rfl)) (fun _ h9 => h9) rfl dX3_readCenter_2 ?_
  refine x_topE (y := b2i true) hsn ?_
  refine lv_iconst (v := nI 0) hx hb dX3_readCenter_5 (by decide) ?_
  refine x_callVV (q := 1) (C := RX3) (As := [.int (b2i true), .int (b2i false)]) (rest := []) ⟨hx, hb, hml, hown, hts⟩ (ct_X3_passWord l D cA α n _ hn S true false h9) (cwV 2 hts gX3_readCenter_X3_passWord rfl rfl rfl (by decide +kernel) ⟨Nat.le_of_ble_eq_true rfl, Nat.le_of_ble_eq_true rfl⟩) hK hw hAw (ws_recv hK hw (q := 1) (Nat.lt_of_lt_of_le (Nat.le_of_ble_eq_true rfl : 1 < 191) hn) (mk_1 cA α) rfl) rfl hl.1 rfl (Nat.le_of_ble_eq_true rfl) dX3_readCenter_6 ⟨Nat.zero_le _, Nat.zero_le _⟩ (fun S1 eS1 H locs hw => ?_)
  have eS1 : S1 = cRef S (nI 2) := eS1
  refine lv_aload_n hx hb dX3_readCenter_9 rfl (lv_at hl 0 rfl) ?_
  refine lv_iconst (v := nI 1) hx hb dX3_readCenter_10 (by decide) ?_
  refine x_putI (x := nI 1) (ty := .boolean) (C := RX3) (T := TX3) (N := 11) hx hb hts (fun _ h => List.mem_cons_of_mem _ (List.mem_append_left _ (List.mem_append_right _ h))) tyX3 tyX3_ok nmX3 hown hK hw 1 (Nat.lt_of_lt_of_le (Nat.le_of_ble_eq_true rfl : 1 < 191) hn) (mk_1 cA α) rfl 9 (by decide) (hts _ (List.mem_of_getElem? (i := 1) rfl)) (fun _ h9 => h9) rfl rfl (by decide) (by decide) (Nat.le_of_ble_eq_true rfl) rfl dX3_readCenter_11 (fun S2 eS2 H locs hw => ?_)
  refine lv_aload_n hx hb dX3_readCenter_14 rfl (lv_at hl 0 rfl) ?_
  refine x_get (v := .ref (α 16)) (C := RX3) (T := TX3) (N := 11) hx hb hts (fun _ h => List.mem_cons_of_mem _ (List.mem_append_left _ (List.mem_append_right _ h))) hown hK hw 1 (Nat.lt_of_lt_of_le (Nat.le_of_ble_eq_true rfl : 1 < 191) hn) (mk_1 cA α) rfl 0 (by decide) (hts _ (List.mem_of_getElem? (i := 2) rfl)) (fun _ h9 => h9) rfl dX3_readCenter_15 ?_
  refine lv_aload_n hx hb dX3_readCenter_18 rfl (lv_at hl 0 rfl) ?_
  refine lv_iconst (v := nI 0) hx hb dX3_readCenter_19 (by decide) ?_
  refine lv_aload_n hx hb dX3_readCenter_20 rfl (lv_at hl 0 rfl) ?_
  refine x_get (v := .ref (α 16)) (C := RX3) (T := TX3) (N := 11) hx hb hts (fun _ h => List.mem_cons_of_mem _ (List.mem_append_left _ (List.mem_append_right _ h))) hown hK hw 1 (Nat.lt_of_lt_of_le (Nat.le_of_ble_eq_true rfl : 1 < 191) hn) (mk_1 cA α) rfl 0 (by decide) (hts _ (List.mem_of_getElem? (i := 2) rfl)) (fun _ h9 => h9) rfl dX3_readCenter_21 ?_
  refine x_get (v := .int (S2.1 16 1)) (C := RX2) (T := TX2) (N := 12) hx hb hts (fun _ h => List.mem_cons_of_mem _ (List.mem_append_right _ h)) hown hK hw 16 (Nat.lt_of_lt_of_le (Nat.le_of_ble_eq_true rfl : 16 < 191) hn) (mk_16 cA α) rfl 1 (by decide) (hts _ (List.mem_of_getElem? (i := 3) rfl)) (fun _ h9 => h9) rfl dX3_readCenter_24 ?_
  refine lv_iconst (v := nI 1) hx hb dX3_readCenter_27 (by decide) ?_
  refine lv_isub hx hb dX3_readCenter_28 ?_
  refine x_callVI (q := 1) (C := RX3) (As := [.int (nI 0), .int ((S2.1 16 1) - (nI 1))]) (rest := [.ref (α 16)]) ⟨hx, hb, hml, hown, hts⟩ (ct_X3_readNumber l D cA α n _ hn S2 (nI 0) ((S2.1 16 1) - (nI 1)) (by subst eS2; subst eS1; exact okP_fl (okP_ref h9 _) (by decide))) (cwV 2 hts gX3_readCenter_X3_readNumber rfl rfl rfl (by decide +kernel) ⟨Nat.le_of_ble_eq_true rfl, Nat.le_of_ble_eq_true rfl⟩) hK hw hAw (ws_recv hK hw (q := 1) (Nat.lt_of_lt_of_le (Nat.le_of_ble_eq_true rfl : 1 < 191) hn) (mk_1 cA α) rfl) rfl hl.1 rfl (Nat.le_of_ble_eq_true rfl) dX3_readCenter_29 ⟨Nat.zero_le _, Nat.zero_le _⟩ (fun S3 eS3 H locs hw => ?_)
  refine x_topE (y := nI 0) (by subst eS3; subst eS2; subst eS1; rw [cNum_e (by rw [sI_e, pk_un (by decide)]; exact (cRef_ne h9 (x := 2) (by decide)))]) ?_
  have hz : ¬ S2.1 1 7 = 0 := by subst eS2; subst eS1; exact (by rw [sI_e, pk_un (by decide)]; exact (cRef_ne h9 (x := 2) (by decide)))
  have eS3 : S3 = S2 := by rw [eS3, cNum_e hz]
  refine x_putI (x := nI 0) (ty := .int) (C := RX2) (T := TX2) (N := 12) hx hb hts (fun _ h => List.mem_cons_of_mem _ (List.mem_append_right _ h)) tyX2 tyX2_ok nmX2 hown hK hw 16 (Nat.lt_of_lt_of_le (Nat.le_of_ble_eq_true rfl : 16 < 191) hn) (mk_16 cA α) rfl 4 (by decide) (hts _ (List.mem_of_getElem? (i := 4) rfl)) (fun _ h9 => h9) rfl rfl rfl rfl (Nat.le_of_ble_eq_true rfl) rfl dX3_readCenter_32 (fun S4 eS4 H locs hw => ?_)
  refine lv_aload_n hx hb dX3_readCenter_35 rfl (lv_at hl 0 rfl) ?_
  refine x_callVV (q := 1) (C := RX3) (As := []) (rest := []) ⟨hx, hb, hml, hown, hts⟩ (ct_X3_passSemicolon l D cA α n _ hn S4 (by subst eS4; subst eS3; subst eS2; subst eS1; exact okP_o (okP_fl (okP_ref h9 _) (by decide)) (by decide))) (cwV 0 hts gX3_readCenter_X3_passSemicolon rfl rfl rfl (by decide +kernel) ⟨Nat.le_of_ble_eq_true rfl, Nat.le_of_ble_eq_true rfl⟩) hK hw hAw (ws_recv hK hw (q := 1) (Nat.lt_of_lt_of_le (Nat.le_of_ble_eq_true rfl : 1 < 191) hn) (mk_1 cA α) rfl) rfl hl.1 rfl (Nat.le_of_ble_eq_true rfl) dX3_readCenter_36 ⟨Nat.zero_le _, Nat.zero_le _⟩ (fun S5 eS5 H locs hw => ?_)
  have eS5 : S5 = cOcB S 9 4 := by rw [eS5, cSc_e (by subst eS4; subst eS3; subst eS2; subst eS1; rw [sI_1 (by decide)]; exact (by rw [sI_e, pk_un (by decide)]; exact (cRef_ne h9 (x := 2) (by decide))))]; subst eS4; subst eS3; subst eS2; subst eS1; rfl
  exact ret_v hx hb hr hlocks hK hw dX3_readCenter_39 (by subst eS5; subst eS4; subst eS3; subst eS2; subst eS1; rfl)

theorem ct_X3_readCenterU (l : Launch) (D : va_G) (cA : Nat → ClassId) (α : Nat → Nat) (n sz : Nat) (hn : 191 ≤ n) (S : Mem) (h9 : okP S) (b : Bool) (hsn : S.1 1 9 = b2i b) : CtV l yX3_readCenter wsX3_readCenter { frames := 3, cells := 0, slots := 0, locals := 67 } D cA α n sz [.ref (α 1)] S (if b then cOcB S 9 4 else cOc S 9 4 (S.1 16 1 - nI 1)) := by
  cases b
  · exact ct_X3_readCenter l D cA α n sz hn S h9 hsn
  · exact ct_X3_readCenterB l D cA α n sz hn S h9 hsn

set_option maxRecDepth 100000 in
set_option maxHeartbeats 1000000 in
theorem ct_X3_readFee (l : Launch) (D : va_G) (cA : Nat → ClassId) (α : Nat → Nat) (n sz : Nat) (hn : 191 ≤ n) (S : Mem) (h9 : okP S) (hsn : S.1 1 10 = b2i false) : CtV l yX3_readFee wsX3_readFee ({ frames := 3, cells := 0, slots := 0, locals := 67 }) D cA α n sz [.ref (α 1)] S (cOc S 10 5 (nI 9999)) := by
  refine ct_enter cX3_readFee 1 none (by decide) rfl (Nat.le_of_ble_eq_true rfl) ?_
  intro p e s m below meth c hx hb hr hml hlocks hown hts hK hsz hw ls hl
  have hown : s.vm.findClass RX3 = some m.cls := hown
  have hAw : ∀ z, Aw α n s.heap.size z → Aw α n sz z := by rw [hsz]; exact fun _ h => h
  have hl : lv_has ls 1 [(0, .ref (α 1))] := hl
  refine lv_aload_n hx hb dX3_readFee_0 rfl (lv_at hl 0 rfl) ?_
  refine lv_aload_n hx hb dX3_readFee_1 rfl (lv_at hl 0 rfl) ?_
  refine x_get (v := .int (S.1 1 10)) (C := RX3) (T := TX3) (N := 11) hx hb hts (fun _ h => List.mem_cons_of_mem _ (List.mem_append_left _ (List.mem_append_right _ h))) hown hK hw 1 (Nat.lt_of_lt_of_le (Nat.le_of_ble_eq_true rfl : 1 < 191) hn) (mk_1 cA α) rfl 10 (by decide) (hts _ (List.mem_of_getElem? (i := 1) rfl)) (fun _ h9 => h9) rfl dX3_readFee_2 ?_
  refine x_topE (y := b2i false) hsn ?_
  refine lv_iconst (v := nI 0) hx hb dX3_readFee_5 (by decide) ?_
  refine x_callVV (q := 1) (C := RX3) (As := [.int (b2i false), .int (b2i false)]) (rest := []) ⟨hx, hb, hml, hown, hts⟩ (ct_X3_passWord l D cA α n _ hn S false false h9) (cwV 2 hts gX3_readFee_X3_passWord rfl rfl rfl (by decide +kernel) ⟨Nat.le_of_ble_eq_true rfl, Nat.le_of_ble_eq_true rfl⟩) hK hw hAw (ws_recv hK hw (q := 1) (Nat.lt_of_lt_of_le (Nat.le_of_ble_eq_true rfl : 1 < 191) hn) (mk_1 cA α) rfl) rfl hl.1 rfl (Nat.le_of_ble_eq_true rfl) dX3_readFee_6 ⟨Nat.zero_le _, Nat.zero_le _⟩ (fun S1 eS1 H locs hw => ?_)
  have eS1 : S1 = tk S := eS1
  refine lv_aload_n hx hb dX3_readFee_9 rfl (lv_at hl 0 rfl) ?_
  refine lv_iconst (v := nI 1) hx hb dX3_readFee_10 (by decide) ?_
  refine x_putI (x := nI 1) (ty := .boolean) (C := RX3) (T := TX3) (N := 11) hx hb hts (fun _ h => List.mem_cons_of_mem _ (List.mem_append_left _ (List.mem_append_right _ h))) tyX3 tyX3_ok nmX3 hown hK hw 1 (Nat.lt_of_lt_of_le (Nat.le_of_ble_eq_true rfl : 1 < 191) hn) (mk_1 cA α) rfl 10 (by decide) (hts _ (List.mem_of_getElem? (i := 1) rfl)) (fun _ h9 => h9) rfl rfl (by decide) (by decide) (Nat.le_of_ble_eq_true rfl) rfl dX3_readFee_11 (fun S2 eS2 H locs hw => ?_)
  refine lv_aload_n hx hb dX3_readFee_14 rfl (lv_at hl 0 rfl) ?_
  refine x_get (v := .ref (α 16)) (C := RX3) (T := TX3) (N := 11) hx hb hts (fun _ h => List.mem_cons_of_mem _ (List.mem_append_left _ (List.mem_append_right _ h))) hown hK hw 1 (Nat.lt_of_lt_of_le (Nat.le_of_ble_eq_true rfl : 1 < 191) hn) (mk_1 cA α) rfl 0 (by decide) (hts _ (List.mem_of_getElem? (i := 2) rfl)) (fun _ h9 => h9) rfl dX3_readFee_15 ?_
  refine lv_aload_n hx hb dX3_readFee_18 rfl (lv_at hl 0 rfl) ?_
  refine lv_iconst (v := nI 0) hx hb dX3_readFee_19 (by decide) ?_
  refine lv_sipush (v := nI 9999) hx hb dX3_readFee_20 (by decide) ?_
  refine x_callVI (q := 1) (C := RX3) (As := [.int (nI 0), .int (nI 9999)]) (rest := [.ref (α 16)]) ⟨hx, hb, hml, hown, hts⟩ (ct_X3_readNumber l D cA α n _ hn S2 (nI 0) (nI 9999) (by subst eS2; subst eS1; exact okP_fl (okP_tk h9) (by decide))) (cwV 2 hts gX3_readFee_X3_readNumber rfl rfl rfl (by decide +kernel) ⟨Nat.le_of_ble_eq_true rfl, Nat.le_of_ble_eq_true rfl⟩) hK hw hAw (ws_recv hK hw (q := 1) (Nat.lt_of_lt_of_le (Nat.le_of_ble_eq_true rfl : 1 < 191) hn) (mk_1 cA α) rfl) rfl hl.1 rfl (Nat.le_of_ble_eq_true rfl) dX3_readFee_23 ⟨Nat.zero_le _, Nat.zero_le _⟩ (fun S3 eS3 H locs hw => ?_)
  refine x_putI (x := (cNum S2 (nI 0) (nI 9999)).2) (ty := .int) (C := RX2) (T := TX2) (N := 12) hx hb hts (fun _ h => List.mem_cons_of_mem _ (List.mem_append_right _ h)) tyX2 tyX2_ok nmX2 hown hK hw 16 (Nat.lt_of_lt_of_le (Nat.le_of_ble_eq_true rfl : 16 < 191) hn) (mk_16 cA α) rfl 5 (by decide) (hts _ (List.mem_of_getElem? (i := 3) rfl)) (fun _ h9 => h9) rfl rfl rfl rfl (Nat.le_of_ble_eq_true rfl) rfl dX3_readFee_26 (fun S4 eS4 H locs hw => ?_)
  refine lv_aload_n hx hb dX3_readFee_29 rfl (lv_at hl 0 rfl) ?_
  refine x_callVV (q := 1) (C := RX3) (As := []) (rest := []) ⟨hx, hb, hml, hown, hts⟩ (ct_X3_passSemicolon l D cA α n _ hn S4 (by subst eS4; subst eS3; subst eS2; subst eS1; exact okP_o (okP_num (okP_fl (okP_tk h9) (by decide)) _ _) (by decide))) (cwV 0 hts gX3_readFee_X3_passSemicolon rfl rfl rfl (by decide +kernel) ⟨Nat.le_of_ble_eq_true rfl, Nat.le_of_ble_eq_true rfl⟩) hK hw hAw (ws_recv hK hw (q := 1) (Nat.lt_of_lt_of_le (Nat.le_of_ble_eq_true rfl : 1 < 191) hn) (mk_1 cA α) rfl) rfl hl.1 rfl (Nat.le_of_ble_eq_true rfl) dX3_readFee_30 ⟨Nat.zero_le _, Nat.zero_le _⟩ (fun S5 eS5 H locs hw => ?_)
  exact ret_v hx hb hr hlocks hK hw dX3_readFee_33 (by subst eS5; subst eS4; subst eS3; subst eS2; subst eS1; rfl)

set_option maxRecDepth 100000 in
set_option maxHeartbeats 1000000 in
theorem ct_X3_readFeeB (l : Launch) (D : va_G) (cA : Nat → ClassId) (α : Nat → Nat) (n sz : Nat) (hn : 191 ≤ n) (S : Mem) (h9 : okP S) (hsn : S.1 1 10 = b2i true) : CtV l yX3_readFee wsX3_readFee ({ frames := 3, cells := 0, slots := 0, locals := 67 }) D cA α n sz [.ref (α 1)] S (cOcB S 10 5) := by
  refine ct_enter cX3_readFee 1 none (by decide) rfl (Nat.le_of_ble_eq_true rfl) ?_
  intro p e s m below meth c hx hb hr hml hlocks hown hts hK hsz hw ls hl
  have hown : s.vm.findClass RX3 = some m.cls := hown
  have hAw : ∀ z, Aw α n s.heap.size z → Aw α n sz z := by rw [hsz]; exact fun _ h => h
  have hl : lv_has ls 1 [(0, .ref (α 1))] := hl
  refine lv_aload_n hx hb dX3_readFee_0 rfl (lv_at hl 0 rfl) ?_
  refine lv_aload_n hx hb dX3_readFee_1 rfl (lv_at hl 0 rfl) ?_
  refine x_get (v := .int (S.1 1 10)) (C := RX3) (T := TX3) (N := 11) hx hb hts (fun _ h => List.mem_cons_of_mem _ (List.mem_append_left _ (List.mem_append_right _ h))) hown hK hw 1 (Nat.lt_of_lt_of_le (Nat.le_of_ble_eq_true rfl : 1 < 191) hn) (mk_1 cA α) rfl 10 (by decide) (hts _ (List.mem_of_getElem? (i := 1) rfl)) (fun _ h9 => h9) rfl dX3_readFee_2 ?_
  refine x_topE (y := b2i true) hsn ?_
  refine lv_iconst (v := nI 0) hx hb dX3_readFee_5 (by decide) ?_
  refine x_callVV (q := 1) (C := RX3) (As := [.int (b2i true), .int (b2i false)]) (rest := []) ⟨hx, hb, hml, hown, hts⟩ (ct_X3_passWord l D cA α n _ hn S true false h9) (cwV 2 hts gX3_readFee_X3_passWord rfl rfl rfl (by decide +kernel) ⟨Nat.le_of_ble_eq_true rfl, Nat.le_of_ble_eq_true rfl⟩) hK hw hAw (ws_recv hK hw (q := 1) (Nat.lt_of_lt_of_le (Nat.le_of_ble_eq_true rfl : 1 < 191) hn) (mk_1 cA α) rfl) rfl hl.1 rfl (Nat.le_of_ble_eq_true rfl) dX3_readFee_6 ⟨Nat.zero_le _, Nat.zero_le _⟩ (fun S1 eS1 H locs hw => ?_)
  have eS1 : S1 = cRef S (nI 2) := eS1
  refine lv_aload_n hx hb dX3_readFee_9 rfl (lv_at hl 0 rfl) ?_
  refine lv_iconst (v := nI 1) hx hb dX3_readFee_10 (by decide) ?_
  refine x_putI (x := nI 1) (ty := .boolean) (C := RX3) (T := TX3) (N := 11) hx hb hts (fun _ h => List.mem_cons_of_mem _ (List.mem_append_left _ (List.mem_append_right _ h))) tyX3 tyX3_ok nmX3 hown hK hw 1 (Nat.lt_of_lt_of_le (Nat.le_of_ble_eq_true rfl : 1 < 191) hn) (mk_1 cA α) rfl 10 (by decide) (hts _ (List.mem_of_getElem? (i := 1) rfl)) (fun _ h9 => h9) rfl rfl (by decide) (by decide) (Nat.le_of_ble_eq_true rfl) rfl dX3_readFee_11 (fun S2 eS2 H locs hw => ?_)
  refine lv_aload_n hx hb dX3_readFee_14 rfl (lv_at hl 0 rfl) ?_
  refine x_get (v := .ref (α 16)) (C := RX3) (T := TX3) (N := 11) hx hb hts (fun _ h => List.mem_cons_of_mem _ (List.mem_append_left _ (List.mem_append_right _ h))) hown hK hw 1 (Nat.lt_of_lt_of_le (Nat.le_of_ble_eq_true rfl : 1 < 191) hn) (mk_1 cA α) rfl 0 (by decide) (hts _ (List.mem_of_getElem? (i := 2) rfl)) (fun _ h9 => h9) rfl dX3_readFee_15 ?_
  refine lv_aload_n hx hb dX3_readFee_18 rfl (lv_at hl 0 rfl) ?_
  refine lv_iconst (v := nI 0) hx hb dX3_readFee_19 (by decide) ?_
  refine lv_sipush (v := nI 9999) hx hb dX3_readFee_20 (by decide) ?_
  refine x_callVI (q := 1) (C := RX3) (As := [.int (nI 0), .int (nI 9999)]) (rest := [.ref (α 16)]) ⟨hx, hb, hml, hown, hts⟩ (ct_X3_readNumber l D cA α n _ hn S2 (nI 0) (nI 9999) (by subst eS2; subst eS1; exact okP_fl (okP_ref h9 _) (by decide))) (cwV 2 hts gX3_readFee_X3_readNumber rfl rfl rfl (by decide +kernel) ⟨Nat.le_of_ble_eq_true rfl, Nat.le_of_ble_eq_true rfl⟩) hK hw hAw (ws_recv hK hw (q := 1) (Nat.lt_of_lt_of_le (Nat.le_of_ble_eq_true rfl : 1 < 191) hn) (mk_1 cA α) rfl) rfl hl.1 rfl (Nat.le_of_ble_eq_true rfl) dX3_readFee_23 ⟨Nat.zero_le _, Nat.zero_le _⟩ (fun S3 eS3 H locs hw => ?_)
  refine x_topE (y := nI 0) (by subst eS3; subst eS2; subst eS1; rw [cNum_e (by rw [sI_e, pk_un (by decide)]; exact (cRef_ne h9 (x := 2) (by decide)))]) ?_
  have hz : ¬ S2.1 1 7 = 0 := by subst eS2; subst eS1; exact (by rw [sI_e, pk_un (by decide)]; exact (cRef_ne h9 (x := 2) (by decide)))
  have eS3 : S3 = S2 := by rw [eS3, cNum_e hz]
  refine x_putI (x := nI 0) (ty := .int) (C := RX2) (T := TX2) (N := 12) hx hb hts (fun _ h => List.mem_cons_of_mem _ (List.mem_append_right _ h)) tyX2 tyX2_ok nmX2 hown hK hw 16 (Nat.lt_of_lt_of_le (Nat.le_of_ble_eq_true rfl : 16 < 191) hn) (mk_16 cA α) rfl 5 (by decide) (hts _ (List.mem_of_getElem? (i := 3) rfl)) (fun _ h9 => h9) rfl rfl rfl rfl (Nat.le_of_ble_eq_true rfl) rfl dX3_readFee_26 (fun S4 eS4 H locs hw => ?_)
  refine lv_aload_n hx hb dX3_readFee_29 rfl (lv_at hl 0 rfl) ?_
  refine x_callVV (q := 1) (C := RX3) (As := []) (rest := []) ⟨hx, hb, hml, hown, hts⟩ (ct_X3_passSemicolon l D cA α n _ hn S4 (by subst eS4; subst eS3; subst eS2; subst eS1; exact okP_o (okP_fl (okP_ref h9 _) (by decide)) (by decide))) (cwV 0 hts gX3_readFee_X3_passSemicolon rfl rfl rfl (by decide +kernel) ⟨Nat.le_of_ble_eq_true rfl, Nat.le_of_ble_eq_true rfl⟩) hK hw hAw (ws_recv hK hw (q := 1) (Nat.lt_of_lt_of_le (Nat.le_of_ble_eq_true rfl : 1 < 191) hn) (mk_1 cA α) rfl) rfl hl.1 rfl (Nat.le_of_ble_eq_true rfl) dX3_readFee_30 ⟨Nat.zero_le _, Nat.zero_le _⟩ (fun S5 eS5 H locs hw => ?_)
  have eS5 : S5 = cOcB S 10 5 := by rw [eS5, cSc_e (by subst eS4; subst eS3; subst eS2; subst eS1; rw [sI_1 (by decide)]; exact (by rw [sI_e, pk_un (by decide)]; exact (cRef_ne h9 (x := 2) (by decide))))]; subst eS4; subst eS3; subst eS2; subst eS1; rfl
  exact ret_v hx hb hr hlocks hK hw dX3_readFee_33 (by subst eS5; subst eS4; subst eS3; subst eS2; subst eS1; rfl)

theorem ct_X3_readFeeU (l : Launch) (D : va_G) (cA : Nat → ClassId) (α : Nat → Nat) (n sz : Nat) (hn : 191 ≤ n) (S : Mem) (h9 : okP S) (b : Bool) (hsn : S.1 1 10 = b2i b) : CtV l yX3_readFee wsX3_readFee { frames := 3, cells := 0, slots := 0, locals := 67 } D cA α n sz [.ref (α 1)] S (if b then cOcB S 10 5 else cOc S 10 5 (nI 9999)) := by
  cases b
  · exact ct_X3_readFee l D cA α n sz hn S h9 hsn
  · exact ct_X3_readFeeB l D cA α n sz hn S h9 hsn
