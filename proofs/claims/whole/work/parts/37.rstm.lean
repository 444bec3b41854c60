/-! the reference: its statements -/
theorem rRd_k (S : Mem) (lo hi : Int32) {z : Nat} (h : z ≠ 30) : (rRd S lo hi).1.1 z = S.1 z := by
  unfold rRd; repeat' split
  · rw [rt_k _ h]; unfold rR2 rR1; rw [rMu_k _ _ _ h, rMu_k _ _ _ h]
  · show (rR2 S lo hi).1 z = S.1 z; unfold rR2 rR1; rw [rMu_k _ _ _ h, rMu_k _ _ _ h]
  · show (rR1 S).1 z = S.1 z; unfold rR1; rw [rMu_k _ _ _ h]
theorem rBg_k (S : Mem) (j : Nat) (m : Int32) {z : Nat} (h : z ≠ 30) : (rBg S j m).1.1 z = S.1 z := by
  unfold rBg; split
  · rw [rt_k _ h]; unfold rB1; rw [rMu_k _ _ _ h]
  · show (rB1 S j m).1 z = S.1 z; unfold rB1; rw [rMu_k _ _ _ h]
theorem rOn_k (S : Mem) (b : Nat) {z : Nat} (h : z ≠ 30) : (rOn S b).1.1 z = S.1 z := by
  unfold rOn; split
  · rw [rt_k _ h]; unfold rO2 rO1; rw [sI_1 h, rMu_k _ _ _ h]
  · show (rO1 S b).1 z = S.1 z; unfold rO1; rw [rMu_k _ _ _ h]
theorem okQ_rd {S : Mem} (h : okQ S) (lo hi : Int32) : okQ (rRd S lo hi).1 := by
  unfold rRd; repeat' split
  · exact okQ_rt (okQ_mu (okQ_mu h _ _) _ _).1
  · exact okQ_mu (okQ_mu h _ _) _ _
  · exact okQ_mu h _ _
theorem okQ_bg {S : Mem} (h : okQ S) (j : Nat) (m : Int32) : okQ (rBg S j m).1 := by
  unfold rBg; split
  · exact okQ_rt (okQ_mu h _ _).1
  · exact okQ_mu h _ _
theorem okQ_on {S : Mem} (h : okQ S) (b : Nat) : okQ (rOn S b).1 := by
  unfold rOn; split
  · exact okQ_rt (okQ_o2 h b).1
  · exact okQ_mu h _ _
theorem okQ_32 {S : Mem} (h : okQ S) {j : Nat} {x : Int32} : okQ (setI S 32 j x) := okQ_of h (by rw [sI_1 (by decide)]) (by rw [sI_1 (by decide)]) (by rw [sI_1 (by decide)]) (by rw [sI_1 (by decide)])
theorem rBg_t {S : Mem} {j m k : Nat} (hm : m < 10) (hk : S.1 32 j = nI k) (hk2 : k < 1000) (h : (rBg S j (nI m)).2 = true) : k < m := by
  unfold rBg at h
  by_cases h1 : rOk (rB1 S j (nI m)) = true
  · unfold rB1 at h1
    have h2 := (rMu_t (by decide) h1).1
    have h3 := of_decide_eq_false (by simpa using h2 : decide (nI m ≤ S.1 32 j) = false)
    rw [hk] at h3
    exact Nat.lt_of_not_le (fun q => h3 (nI_le q (by omega)))
  · rw [if_neg h1] at h; cases h
def rInc (T : Mem) (j : Nat) : Mem := setI T 32 j (T.1 32 j + nI 1)
def rL1 (S : Mem) : Mem × Int32 := rRd (rBg S 2 (nI 6)).1 (nI 0) (S.1 32 1 - nI 1)
def rW1 (S : Mem) (k : Nat) : Mem := setI (rL1 S).1 32 (16 + k) (rL1 S).2
def rL2 (S : Mem) (k : Nat) : Mem × Int32 := rRd (rW1 S k) (nI 1) (nI 9999)
def rW2 (S : Mem) (k : Nat) : Mem := setI (rL2 S k).1 32 (22 + k) (rL2 S k).2
def rL3 (S : Mem) (k : Nat) : Mem × Int32 := rRd (rW2 S k) (nI 0) (nI 99)
def rW3 (S : Mem) (k : Nat) : Mem := setI (rL3 S k).1 32 (28 + k) (rL3 S k).2
def rL4 (S : Mem) (k : Nat) : Mem × Int32 := rRd (rW3 S k) ((rW3 S k).1 32 (28 + k)) (nI 999)
def rW4 (S : Mem) (k : Nat) : Mem := setI (rL4 S k).1 32 (34 + k) (rL4 S k).2
def rPl (S : Mem) (k : Nat) : Mem := if (rBg S 2 (nI 6)).2 then rInc (rW4 S k) 2 else (rBg S 2 (nI 6)).1
def rC1 (S : Mem) : Mem × Int32 := rRd (rBg S 0 (nI 4)).1 (nI 1) (nI 9999)
def rCu (S : Mem) (k : Nat) : Mem := if (rBg S 0 (nI 4)).2 then rInc (setI (rC1 S).1 32 (6 + k) (rC1 S).2) 0 else (rBg S 0 (nI 4)).1
def rM1 (S : Mem) : Mem × Int32 := rRd (rBg S 1 (nI 6)).1 (nI 0) (S.1 32 0 - nI 1)
def rCo (S : Mem) (k : Nat) : Mem := if (rBg S 1 (nI 6)).2 then rInc (setI (rM1 S).1 32 (10 + k) (rM1 S).2) 1 else (rBg S 1 (nI 6)).1
def rOc (S : Mem) (b g : Nat) (hi : Int32) : Mem := if (rOn S b).2 then setI (rRd (rOn S b).1 (nI 0) hi).1 32 g (rRd (rOn S b).1 (nI 0) hi).2 else (rOn S b).1
def rStm (S : Mem) : Mem := if rWd S 0 then rCu S (gN (S.1 32 0)) else if rWd S 1 then rCo S (gN (S.1 32 1)) else if rWd S 2 then rPl S (gN (S.1 32 2)) else if rWd S 3 then rOc S 0 3 (nI 9999) else if rWd S 4 then rOc S 1 4 (S.1 32 1 - nI 1) else if rWd S 5 then rOc S 2 5 (nI 9999) else rMu S false (nI 1)
theorem okQ_w1 {S : Mem} (h : okQ S) (k : Nat) : okQ (rW1 S k) := okQ_32 (okQ_rd (okQ_bg h _ _) _ _)
theorem okQ_w2 {S : Mem} (h : okQ S) (k : Nat) : okQ (rW2 S k) := okQ_32 (okQ_rd (okQ_w1 h k) _ _)
theorem okQ_w3 {S : Mem} (h : okQ S) (k : Nat) : okQ (rW3 S k) := okQ_32 (okQ_rd (okQ_w2 h k) _ _)
theorem okQ_w4 {S : Mem} (h : okQ S) (k : Nat) : okQ (rW4 S k) := okQ_32 (okQ_rd (okQ_w3 h k) _ _)
theorem okQ_pl {S : Mem} (h : okQ S) (k : Nat) : okQ (rPl S k) := by
  unfold rPl rInc; split
  · exact okQ_32 (okQ_w4 h k)
  · exact okQ_bg h _ _
theorem okQ_st {S : Mem} (h : okQ S) : okQ (rStm S) := by
  have hO : ∀ b g hi, okQ (rOc S b g hi) := by
    intro b g hi
    unfold rOc; split
    · exact okQ_32 (okQ_rd (okQ_on h b) _ _)
    · exact okQ_on h b
  unfold rStm
  repeat' split
  · unfold rCu rInc; split
    · exact okQ_32 (okQ_32 (okQ_rd (okQ_bg h _ _) _ _))
    · exact okQ_bg h _ _
  · unfold rCo rInc; split
    · exact okQ_32 (okQ_32 (okQ_rd (okQ_bg h _ _) _ _))
    · exact okQ_bg h _ _
  · exact okQ_pl h _
  · exact hO _ _ _
  · exact hO _ _ _
  · exact hO _ _ _
  · exact okQ_mu h _ _

set_option maxRecDepth 100000 in
set_option maxHeartbeats 1000000 in
theorem ct_X11_productLine (l : Launch) (D : va_G) (cA : Nat → ClassId) (α : Nat → Nat) (n sz : Nat) (hn : 191 ≤ n) (S : Mem) (h9 : okQ S) (k : Nat) (hk : S.1 32 2 = nI k) (hk2 : k ≤ 6) : CtV l yX11_productLine wsX11_productLine ({ frames := 3, cells := 0, slots := 0, locals := 69 }) D cA α n sz [.ref (α 30)] S (rPl S k) := by
  refine ct_enter cX11_productLine 2 none (by decide) rfl (Nat.le_of_ble_eq_true rfl) ?_
  intro p e s m below meth c hx hb hr hml hlocks hown hts hK hsz hw ls hl
  have hown : s.vm.findClass RX11 = some m.cls := hown
  have hAw : ∀ z, Aw α n s.heap.size z → Aw α n sz z := by rw [hsz]; exact fun _ h => h
  have hl : lv_has ls 2 [(0, .ref (α 30))] := hl
  refine lv_aload_n hx hb dX11_productLine_0 rfl (lv_at hl 0 rfl) ?_
  refine lv_iconst (v := nI 2) hx hb dX11_productLine_1 (by decide) ?_
  refine lv_bipush (v := nI 6) hx hb dX11_productLine_2 (by decide) ?_
  refine x_callVI (q := 30) (C := RX11) (As := [.int (nI 2), .int (nI 6)]) (rest := []) ⟨hx, hb, hml, hown, hts⟩ (ct_X11_begins l D cA α n _ hn S 2 6 (by decide) h9) (cwV 2 hts gX11_productLine_X11_begins rfl rfl rfl (by decide +kernel) ⟨Nat.le_of_ble_eq_true rfl, Nat.le_of_ble_eq_true rfl⟩) hK hw hAw (ws_recv hK hw (q := 30) (Nat.lt_of_lt_of_le (Nat.le_of_ble_eq_true rfl : 30 < 191) hn) (mk_30 cA α) rfl) rfl hl.1 rfl (Nat.le_of_ble_eq_true rfl) dX11_productLine_4 ⟨Nat.zero_le _, Nat.zero_le _⟩ (fun S1 eS1 H locs hw => ?_)
  refine xb_ne (b := (rBg S 2 (nI 6)).2) (tgt := 11) hx hb dX11_productLine_7 (by decide) (fun c1 => ?_) (fun c1 => ?_)
  · skip
    have hk6 : k < 6 := rBg_t (by decide) hk (by omega) c1
    refine lv_aload_n hx hb dX11_productLine_11 rfl (lv_at hl 0 rfl) ?_
    refine x_get (v := .ref (α 32)) (C := RX11) (T := TX11) (N := 24) hx hb hts (fun _ h => List.mem_cons_of_mem _ (List.mem_append_right _ h)) hown hK hw 30 (Nat.lt_of_lt_of_le (Nat.le_of_ble_eq_true rfl : 30 < 191) hn) (mk_30 cA α) rfl 10 (by decide) (hts _ (List.mem_of_getElem? (i := 1) rfl)) (fun _ h9 => h9) rfl dX11_productLine_12 ?_
    refine lv_iconst (v := nI 2) hx hb dX11_productLine_15 (by decide) ?_
    refine x_iald hx hb hK hw 32 40 (Nat.lt_of_lt_of_le (Nat.le_of_ble_eq_true rfl : 32 < 191) hn) (mk_32 cA α) 2 rfl (by decide) (by decide) dX11_productLine_16 ?_
    refine x_topN (k := k) (by subst eS1; rw [rBg_k _ _ _ (by decide)]; exact hk) ?_
    refine lv_istore_n (lv' := [(1, .int (nI k)), (0, .ref (α 30))]) hx hb dX11_productLine_17 rfl hl (by decide) rfl (fun ls hl => ?_)
    refine lv_aload_n hx hb dX11_productLine_18 rfl (lv_at hl 1 rfl) ?_
    refine x_get (v := .ref (α 32)) (C := RX11) (T := TX11) (N := 24) hx hb hts (fun _ h => List.mem_cons_of_mem _ (List.mem_append_right _ h)) hown hK hw 30 (Nat.lt_of_lt_of_le (Nat.le_of_ble_eq_true rfl : 30 < 191) hn) (mk_30 cA α) rfl 10 (by decide) (hts _ (List.mem_of_getElem? (i := 1) rfl)) (fun _ h9 => h9) rfl dX11_productLine_19 ?_
    refine lv_bipush (v := nI 16) hx hb dX11_productLine_22 (by decide) ?_
    refine lv_iload_n hx hb dX11_productLine_24 rfl (lv_at hl 0 rfl) ?_
    refine xn_iadd hx hb dX11_productLine_25 ?_
    refine lv_aload_n hx hb dX11_productLine_26 rfl (lv_at hl 1 rfl) ?_
    refine lv_iconst (v := nI 0) hx hb dX11_productLine_27 (by decide) ?_
    refine lv_aload_n hx hb dX11_productLine_28 rfl (lv_at hl 1 rfl) ?_
    refine x_get (v := .ref (α 32)) (C := RX11) (T := TX11) (N := 24) hx hb hts (fun _ h => List.mem_cons_of_mem _ (List.mem_append_right _ h)) hown hK hw 30 (Nat.lt_of_lt_of_le (Nat.le_of_ble_eq_true rfl : 30 < 191) hn) (mk_30 cA α) rfl 10 (by decide) (hts _ (List.mem_of_getElem? (i := 1) rfl)) (fun _ h9 => h9) rfl dX11_productLine_29 ?_
    refine lv_iconst (v := nI 1) hx hb dX11_productLine_32 (by decide) ?_
    refine x_iald hx hb hK hw 32 40 (Nat.lt_of_lt_of_le (Nat.le_of_ble_eq_true rfl : 32 < 191) hn) (mk_32 cA α) 1 rfl (by decide) (by decide) dX11_productLine_33 ?_
    refine x_topE (y := S.1 32 1) (by subst eS1; rw [rBg_k _ _ _ (by decide)]) ?_
    refine lv_iconst (v := nI 1) hx hb dX11_productLine_34 (by decide) ?_
    refine lv_isub hx hb dX11_productLine_35 ?_
    refine x_callVI (q := 30) (C := RX11) (As := [.int (nI 0), .int ((S.1 32 1) - (nI 1))]) (rest := [.int (nI (16 + k)), .ref (α 32)]) ⟨hx, hb, hml, hown, hts⟩ (ct_X11_read l D cA α n _ hn S1 (nI 0) ((S.1 32 1) - (nI 1)) (by rw [eS1]; exact okQ_bg h9 _ _)) (cwV 2 hts gX11_productLine_X11_read rfl rfl rfl (by decide +kernel) ⟨Nat.le_of_ble_eq_true rfl, Nat.le_of_ble_eq_true rfl⟩) hK hw hAw (ws_recv hK hw (q := 30) (Nat.lt_of_lt_of_le (Nat.le_of_ble_eq_true rfl : 30 < 191) hn) (mk_30 cA α) rfl) rfl hl.1 rfl (Nat.le_of_ble_eq_true rfl) dX11_productLine_36 ⟨Nat.zero_le _, Nat.zero_le _⟩ (fun S2 eS2 H locs hw => ?_)
    refine x_topE (y := (rL1 S).2) (by rw [eS1]; rfl) ?_
    have eS2 : S2 = (rL1 S).1 := by rw [eS2, eS1]; rfl
    refine x_iast (x := (rL1 S).2) hx hb hK hw 32 40 (Nat.lt_of_lt_of_le (Nat.le_of_ble_eq_true rfl : 32 < 191) hn) (mk_32 cA α) (16 + k) rfl (by omega) (by decide) dX11_productLine_39 (fun S3 eS3 H locs hw => ?_)
    have eS3 : S3 = rW1 S k := by rw [eS3, eS2]; rfl
    refine lv_aload_n hx hb dX11_productLine_40 rfl (lv_at hl 1 rfl) ?_
    refine x_get (v := .ref (α 32)) (C := RX11) (T := TX11) (N := 24) hx hb hts (fun _ h => List.mem_cons_of_mem _ (List.mem_append_right _ h)) hown hK hw 30 (Nat.lt_of_lt_of_le (Nat.le_of_ble_eq_true rfl : 30 < 191) hn) (mk_30 cA α) rfl 10 (by decide) (hts _ (List.mem_of_getElem? (i := 1) rfl)) (fun _ h9 => h9) rfl dX11_productLine_41 ?_
    refine lv_bipush (v := nI 22) hx hb dX11_productLine_44 (by decide) ?_
    refine lv_iload_n hx hb dX11_productLine_46 rfl (lv_at hl 0 rfl) ?_
    refine xn_iadd hx hb dX11_productLine_47 ?_
    refine lv_aload_n hx hb dX11_productLine_48 rfl (lv_at hl 1 rfl) ?_
    refine lv_iconst (v := nI 1) hx hb dX11_productLine_49 (by decide) ?_
    refine lv_sipush (v := nI 9999) hx hb dX11_productLine_50 (by decide) ?_
    refine x_callVI (q := 30) (C := RX11) (As := [.int (nI 1), .int (nI 9999)]) (rest := [.int (nI (22 + k)), .ref (α 32)]) ⟨hx, hb, hml, hown, hts⟩ (ct_X11_read l D cA α n _ hn S3 (nI 1) (nI 9999) (by rw [eS3]; exact okQ_w1 h9 k)) (cwV 2 hts gX11_productLine_X11_read rfl rfl rfl (by decide +kernel) ⟨Nat.le_of_ble_eq_true rfl, Nat.le_of_ble_eq_true rfl⟩) hK hw hAw (ws_recv hK hw (q := 30) (Nat.lt_of_lt_of_le (Nat.le_of_ble_eq_true rfl : 30 < 191) hn) (mk_30 cA α) rfl) rfl hl.1 rfl (Nat.le_of_ble_eq_true rfl) dX11_productLine_53 ⟨Nat.zero_le _, Nat.zero_le _⟩ (fun S4 eS4 H locs hw => ?_)
    refine x_topE (y := (rL2 S k).2) (by rw [eS3]; rfl) ?_
    have eS4 : S4 = (rL2 S k).1 := by rw [eS4, eS3]; rfl
    refine x_iast (x := (rL2 S k).2) hx hb hK hw 32 40 (Nat.lt_of_lt_of_le (Nat.le_of_ble_eq_true rfl : 32 < 191) hn) (mk_32 cA α) (22 + k) rfl (by omega) (by decide) dX11_productLine_56 (fun S5 eS5 H locs hw => ?_)
    have eS5 : S5 = rW2 S k := by rw [eS5, eS4]; rfl
    refine lv_aload_n hx hb dX11_productLine_57 rfl (lv_at hl 1 rfl) ?_
    refine x_get (v := .ref (α 32)) (C := RX11) (T := TX11) (N := 24) hx hb hts (fun _ h => List.mem_cons_of_mem _ (List.mem_append_right _ h)) hown hK hw 30 (Nat.lt_of_lt_of_le (Nat.le_of_ble_eq_true rfl : 30 < 191) hn) (mk_30 cA α) rfl 10 (by decide) (hts _ (List.mem_of_getElem? (i := 1) rfl)) (fun _ h9 => h9) rfl dX11_productLine_58 ?_
    refine lv_bipush (v := nI 28) hx hb dX11_productLine_61 (by decide) ?_
    refine lv_iload_n hx hb dX11_productLine_63 rfl (lv_at hl 0 rfl) ?_
    refine xn_iadd hx hb dX11_productLine_64 ?_
    refine lv_aload_n hx hb dX11_productLine_65 rfl (lv_at hl 1 rfl) ?_
    refine lv_iconst (v := nI 0) hx hb dX11_productLine_66 (by decide) ?_
    refine lv_bipush (v := nI 99) hx hb dX11_productLine_67 (by decide) ?_
    refine x_callVI (q := 30) (C := RX11) (As := [.int (nI 0), .int (nI 99)]) (rest := [.int (nI (28 + k)), .ref (α 32)]) ⟨hx, hb, hml, hown, hts⟩ (ct_X11_read l D cA α n _ hn S5 (nI 0) (nI 99) (by rw [eS5]; exact okQ_w2 h9 k)) (cwV 2 hts gX11_productLine_X11_read rfl rfl rfl (by decide +kernel) ⟨Nat.le_of_ble_eq_true rfl, Nat.le_of_ble_eq_true rfl⟩) hK hw hAw (ws_recv hK hw (q := 30) (Nat.lt_of_lt_of_le (Nat.le_of_ble_eq_true rfl : 30 < 191) hn) (mk_30 cA α) rfl) rfl hl.1 rfl (Nat.le_of_ble_eq_true rfl) dX11_productLine_69 ⟨Nat.zero_le _, Nat.zero_le _⟩ (fun S6 eS6 H locs hw => ?_)
    refine x_topE (y := (rL3 S k).2) (by rw [eS5]; rfl) ?_
    have eS6 : S6 = (rL3 S k).1 := by rw [eS6, eS5]; rfl
    refine x_iast (x := (rL3 S k).2) hx hb hK hw 32 40 (Nat.lt_of_lt_of_le (Nat.le_of_ble_eq_true rfl : 32 < 191) hn) (mk_32 cA α) (28 + k) rfl (by omega) (by decide) dX11_productLine_72 (fun S7 eS7 H locs hw => ?_)
    have eS7 : S7 = rW3 S k := by rw [eS7, eS6]; rfl
    refine lv_aload_n hx hb dX11_productLine_73 rfl (lv_at hl 1 rfl) ?_
    refine x_get (v := .ref (α 32)) (C := RX11) (T := TX11) (N := 24) hx hb hts (fun _ h => List.mem_cons_of_mem _ (List.mem_append_right _ h)) hown hK hw 30 (Nat.lt_of_lt_of_le (Nat.le_of_ble_eq_true rfl : 30 < 191) hn) (mk_30 cA α) rfl 10 (by decide) (hts _ (List.mem_of_getElem? (i := 1) rfl)) (fun _ h9 => h9) rfl dX11_productLine_74 ?_
    refine lv_bipush (v := nI 34) hx hb dX11_productLine_77 (by decide) ?_
    refine lv_iload_n hx hb dX11_productLine_79 rfl (lv_at hl 0 rfl) ?_
    refine xn_iadd hx hb dX11_productLine_80 ?_
    refine lv_aload_n hx hb dX11_productLine_81 rfl (lv_at hl 1 rfl) ?_
    refine lv_aload_n hx hb dX11_productLine_82 rfl (lv_at hl 1 rfl) ?_
    refine x_get (v := .ref (α 32)) (C := RX11) (T := TX11) (N := 24) hx hb hts (fun _ h => List.mem_cons_of_mem _ (List.mem_append_right _ h)) hown hK hw 30 (Nat.lt_of_lt_of_le (Nat.le_of_ble_eq_true rfl : 30 < 191) hn) (mk_30 cA α) rfl 10 (by decide) (hts _ (List.mem_of_getElem? (i := 1) rfl)) (fun _ h9 => h9) rfl dX11_productLine_83 ?_
    refine lv_bipush (v := nI 28) hx hb dX11_productLine_86 (by decide) ?_
    refine lv_iload_n hx hb dX11_productLine_88 rfl (lv_at hl 0 rfl) ?_
    refine xn_iadd hx hb dX11_productLine_89 ?_
    refine x_iald hx hb hK hw 32 40 (Nat.lt_of_lt_of_le (Nat.le_of_ble_eq_true rfl : 32 < 191) hn) (mk_32 cA α) (28 + k) rfl (by omega) (by decide) dX11_productLine_90 ?_
    refine x_topE (y := (rW3 S k).1 32 (28 + k)) (by rw [eS7]) ?_
    refine lv_sipush (v := nI 999) hx hb dX11_productLine_91 (by decide) ?_
    refine x_callVI (q := 30) (C := RX11) (As := [.int ((rW3 S k).1 32 (28 + k)), .int (nI 999)]) (rest := [.int (nI (34 + k)), .ref (α 32)]) ⟨hx, hb, hml, hown, hts⟩ (ct_X11_read l D cA α n _ hn S7 ((rW3 S k).1 32 (28 + k)) (nI 999) (by rw [eS7]; exact okQ_w3 h9 k)) (cwV 2 hts gX11_productLine_X11_read rfl rfl rfl (by decide +kernel) ⟨Nat.le_of_ble_eq_true rfl, Nat.le_of_ble_eq_true rfl⟩) hK hw hAw (ws_recv hK hw (q := 30) (Nat.lt_of_lt_of_le (Nat.le_of_ble_eq_true rfl : 30 < 191) hn) (mk_30 cA α) rfl) rfl hl.1 rfl (Nat.le_of_ble_eq_true rfl) dX11_productLine_94 ⟨Nat.zero_le _, Nat.zero_le _⟩ (fun S8 eS8 H locs hw => ?_)
    refine x_topE (y := (rL4 S k).2) (by rw [eS7]; rfl) ?_
    have eS8 : S8 = (rL4 S k).1 := by rw [eS8, eS7]; rfl
    refine x_iast (x := (rL4 S k).2) hx hb hK hw 32 40 (Nat.lt_of_lt_of_le (Nat.le_of_ble_eq_true rfl : 32 < 191) hn) (mk_32 cA α) (34 + k) rfl (by omega) (by decide) dX11_productLine_97 (fun S9 eS9 H locs hw => ?_)
    have eS9 : S9 = rW4 S k := by rw [eS9, eS8]; rfl
    refine lv_aload_n hx hb dX11_productLine_98 rfl (lv_at hl 1 rfl) ?_
    refine x_get (v := .ref (α 32)) (C := RX11) (T := TX11) (N := 24) hx hb hts (fun _ h => List.mem_cons_of_mem _ (List.mem_append_right _ h)) hown hK hw 30 (Nat.lt_of_lt_of_le (Nat.le_of_ble_eq_true rfl : 30 < 191) hn) (mk_30 cA α) rfl 10 (by decide) (hts _ (List.mem_of_getElem? (i := 1) rfl)) (fun _ h9 => h9) rfl dX11_productLine_99 ?_
    refine lv_iconst (v := nI 2) hx hb dX11_productLine_102 (by decide) ?_
    refine lv_dup2_11 hx hb dX11_productLine_103 rfl rfl ?_
    refine x_iald hx hb hK hw 32 40 (Nat.lt_of_lt_of_le (Nat.le_of_ble_eq_true rfl : 32 < 191) hn) (mk_32 cA α) 2 rfl (by decide) (by decide) dX11_productLine_104 ?_
    refine lv_iconst (v := nI 1) hx hb dX11_productLine_105 (by decide) ?_
    refine lv_iadd hx hb dX11_productLine_106 ?_
    refine x_iast (x := (S9.1 32 2) + (nI 1)) hx hb hK hw 32 40 (Nat.lt_of_lt_of_le (Nat.le_of_ble_eq_true rfl : 32 < 191) hn) (mk_32 cA α) 2 rfl (by decide) (by decide) dX11_productLine_107 (fun S10 eS10 H locs hw => ?_)
    exact ret_v hx hb hr hlocks hK hw dX11_productLine_108 (by rw [eS10, eS9]; unfold rPl; rw [if_pos c1]; rfl)
  · skip
    exact ret_v hx hb hr hlocks hK hw dX11_productLine_10 (by subst eS1; unfold rPl; rw [if_neg (by rw [c1]; decide)])

set_option maxRecDepth 100000 in
set_option maxHeartbeats 1000000 in
theorem ct_X11_statement (l : Launch) (ka va : Nat → Nat) (D : va_G) (cA : Nat → ClassId) (α : Nat → Nat) (n sz : Nat) (hn : 191 ≤ n) (S : Mem) (h9 : okQ S) (hk0 : okN (S.1 32 0) 4) (hk1 : okN (S.1 32 1) 6) (hk3 : okN (S.1 32 2) 6) : CtVe ka va l yX11_statement wsX11_statement ({ frames := 7, cells := 0, slots := 0, locals := 149 }) D cA α n sz [.ref (α 30)] S (rStm S) := by
  refine cte_enter cX11_statement 1 none (by decide) rfl (Nat.le_of_ble_eq_true rfl) ?_
  intro p e s m below meth c hx hb hr hml hlocks hown hts hK hsz hw hE ls hl
  have hown : s.vm.findClass RX11 = some m.cls := hown
  have hAw : ∀ z, Aw α n s.heap.size z → Aw α n sz z := by rw [hsz]; exact fun _ h => h
  have hl : lv_has ls 1 [(0, .ref (α 30))] := hl
  have hi6 : 0 < 6 := by decide
  refine lv_aload_n hx hb dX11_statement_0 rfl (lv_at hl 0 rfl) ?_
  refine va_ldcS (q := ka 0) hx hb hown (hE.2 ("IntercompanyLedgerModel", 136, "currency", 0) (List.mem_of_getElem? (i := 6) rfl)) dX11_statement_1 ?_
  refine x_callVIe (b := (α 30)) (C := RX11) (As := [.ref (ka 0)]) (rest := []) ⟨hx, hb, hml, hown, hts⟩ (ct_X11_isWord l ka va D cA α n _ hn S 0 (by decide) h9) (cwV 1 hts gX11_statement_X11_isWord rfl rfl rfl (by decide +kernel) ⟨Nat.le_of_ble_eq_true rfl, Nat.le_of_ble_eq_true rfl⟩) hK hw hsz hE (ws_recv hK hw (q := 30) (Nat.lt_of_lt_of_le (Nat.le_of_ble_eq_true rfl : 30 < 191) hn) (mk_30 cA α) rfl) rfl hl.1 rfl (Nat.le_of_ble_eq_true rfl) dX11_statement_3 ⟨Nat.zero_le _, Nat.zero_le _⟩ (fun S9 eS9 H locs hw => ?_)
  rw [eS9] at hw
  refine xb_eq (b := (rWd S 0)) (tgt := 54) hx hb dX11_statement_6 (by decide) (fun c1 => ?_) (fun c1 => ?_)
  · skip
    refine lv_aload_n hx hb dX11_statement_54 rfl (lv_at hl 0 rfl) ?_
    refine va_ldcS (q := ka 1) hx hb hown (hE.2 ("IntercompanyLedgerModel", 142, "company", 1) (List.mem_of_getElem? (i := 7) rfl)) dX11_statement_55 ?_
    refine x_callVIe (b := (α 30)) (C := RX11) (As := [.ref (ka 1)]) (rest := []) ⟨hx, hb, hml, hown, hts⟩ (ct_X11_isWord l ka va D cA α n _ hn S 1 (by decide) h9) (cwV 1 hts gX11_statement_X11_isWord rfl rfl rfl (by decide +kernel) ⟨Nat.le_of_ble_eq_true rfl, Nat.le_of_ble_eq_true rfl⟩) hK hw hsz hE (ws_recv hK hw (q := 30) (Nat.lt_of_lt_of_le (Nat.le_of_ble_eq_true rfl : 30 < 191) hn) (mk_30 cA α) rfl) rfl hl.1 rfl (Nat.le_of_ble_eq_true rfl) dX11_statement_57 ⟨Nat.zero_le _, Nat.zero_le _⟩ (fun S9 eS9 H locs hw => ?_)
    rw [eS9] at hw
    refine xb_eq (b := (rWd S 1)) (tgt := 114) hx hb dX11_statement_60 (by decide) (fun c2 => ?_) (fun c2 => ?_)
    · skip
      refine lv_aload_n hx hb dX11_statement_114 rfl (lv_at hl 0 rfl) ?_
      refine va_ldcS (q := ka 2) hx hb hown (hE.2 ("IntercompanyLedgerModel", 144, "product", 2) (List.mem_of_getElem? (i := 8) rfl)) dX11_statement_115 ?_
      refine x_callVIe (b := (α 30)) (C := RX11) (As := [.ref (ka 2)]) (rest := []) ⟨hx, hb, hml, hown, hts⟩ (ct_X11_isWord l ka va D cA α n _ hn S 2 (by decide) h9) (cwV 1 hts gX11_statement_X11_isWord rfl rfl rfl (by decide +kernel) ⟨Nat.le_of_ble_eq_true rfl, Nat.le_of_ble_eq_true rfl⟩) hK hw hsz hE (ws_recv hK hw (q := 30) (Nat.lt_of_lt_of_le (Nat.le_of_ble_eq_true rfl : 30 < 191) hn) (mk_30 cA α) rfl) rfl hl.1 rfl (Nat.le_of_ble_eq_true rfl) dX11_statement_117 ⟨Nat.zero_le _, Nat.zero_le _⟩ (fun S9 eS9 H locs hw => ?_)
      rw [eS9] at hw
      refine xb_eq (b := (rWd S 2)) (tgt := 130) hx hb dX11_statement_120 (by decide) (fun c3 => ?_) (fun c3 => ?_)
      · skip
        refine lv_aload_n hx hb dX11_statement_130 rfl (lv_at hl 0 rfl) ?_
        refine va_ldcS (q := ka 3) hx hb hown (hE.2 ("IntercompanyLedgerModel", 149, "tolerance", 3) (List.mem_of_getElem? (i := 9) rfl)) dX11_statement_131 ?_
        refine x_callVIe (b := (α 30)) (C := RX11) (As := [.ref (ka 3)]) (rest := []) ⟨hx, hb, hml, hown, hts⟩ (ct_X11_isWord l ka va D cA α n _ hn S 3 (by decide) h9) (cwV 1 hts gX11_statement_X11_isWord rfl rfl rfl (by decide +kernel) ⟨Nat.le_of_ble_eq_true rfl, Nat.le_of_ble_eq_true rfl⟩) hK hw hsz hE (ws_recv hK hw (q := 30) (Nat.lt_of_lt_of_le (Nat.le_of_ble_eq_true rfl : 30 < 191) hn) (mk_30 cA α) rfl) rfl hl.1 rfl (Nat.le_of_ble_eq_true rfl) dX11_statement_133 ⟨Nat.zero_le _, Nat.zero_le _⟩ (fun S9 eS9 H locs hw => ?_)
        rw [eS9] at hw
        refine xb_eq (b := (rWd S 3)) (tgt := 164) hx hb dX11_statement_136 (by decide) (fun c4 => ?_) (fun c4 => ?_)
        · skip
          refine lv_aload_n hx hb dX11_statement_164 rfl (lv_at hl 0 rfl) ?_
          refine va_ldcS (q := ka 4) hx hb hown (hE.2 ("IntercompanyLedgerModel", 155, "center", 4) (List.mem_of_getElem? (i := 10) rfl)) dX11_statement_165 ?_
          refine x_callVIe (b := (α 30)) (C := RX11) (As := [.ref (ka 4)]) (rest := []) ⟨hx, hb, hml, hown, hts⟩ (ct_X11_isWord l ka va D cA α n _ hn S 4 (by decide) h9) (cwV 1 hts gX11_statement_X11_isWord rfl rfl rfl (by decide +kernel) ⟨Nat.le_of_ble_eq_true rfl, Nat.le_of_ble_eq_true rfl⟩) hK hw hsz hE (ws_recv hK hw (q := 30) (Nat.lt_of_lt_of_le (Nat.le_of_ble_eq_true rfl : 30 < 191) hn) (mk_30 cA α) rfl) rfl hl.1 rfl (Nat.le_of_ble_eq_true rfl) dX11_statement_167 ⟨Nat.zero_le _, Nat.zero_le _⟩ (fun S9 eS9 H locs hw => ?_)
          rw [eS9] at hw
          refine xb_eq (b := (rWd S 4)) (tgt := 203) hx hb dX11_statement_170 (by decide) (fun c5 => ?_) (fun c5 => ?_)
          · skip
            refine lv_aload_n hx hb dX11_statement_203 rfl (lv_at hl 0 rfl) ?_
            refine va_ldcS (q := ka 5) hx hb hown (hE.2 ("IntercompanyLedgerModel", 157, "fee", 5) (List.mem_of_getElem? (i := 11) rfl)) dX11_statement_204 ?_
            refine x_callVIe (b := (α 30)) (C := RX11) (As := [.ref (ka 5)]) (rest := []) ⟨hx, hb, hml, hown, hts⟩ (ct_X11_isWord l ka va D cA α n _ hn S 5 (by decide) h9) (cwV 1 hts gX11_statement_X11_isWord rfl rfl rfl (by decide +kernel) ⟨Nat.le_of_ble_eq_true rfl, Nat.le_of_ble_eq_true rfl⟩) hK hw hsz hE (ws_recv hK hw (q := 30) (Nat.lt_of_lt_of_le (Nat.le_of_ble_eq_true rfl : 30 < 191) hn) (mk_30 cA α) rfl) rfl hl.1 rfl (Nat.le_of_ble_eq_true rfl) dX11_statement_206 ⟨Nat.zero_le _, Nat.zero_le _⟩ (fun S9 eS9 H locs hw => ?_)
            rw [eS9] at hw
            refine xb_eq (b := (rWd S 5)) (tgt := 237) hx hb dX11_statement_209 (by decide) (fun c6 => ?_) (fun c6 => ?_)
            · skip
              refine lv_aload_n hx hb dX11_statement_237 rfl (lv_at hl 0 rfl) ?_
              refine lv_iconst (v := nI 0) hx hb dX11_statement_238 (by decide) ?_
              refine lv_iconst (v := nI 1) hx hb dX11_statement_239 (by decide) ?_
              refine x_callVI (q := 30) (C := RX11) (As := [.int (b2i false), .int (nI 1)]) (rest := []) ⟨hx, hb, hml, hown, hts⟩ (ct_X11_must l D cA α n _ hn S false (nI 1)) (cwV 2 hts gX11_statement_X11_must rfl rfl rfl (by decide +kernel) ⟨Nat.le_of_ble_eq_true rfl, Nat.le_of_ble_eq_true rfl⟩) hK hw hAw (ws_recv hK hw (q := 30) (Nat.lt_of_lt_of_le (Nat.le_of_ble_eq_true rfl : 30 < 191) hn) (mk_30 cA α) rfl) rfl hl.1 rfl (Nat.le_of_ble_eq_true rfl) dX11_statement_240 ⟨Nat.zero_le _, Nat.zero_le _⟩ (fun S1 eS1 H locs hw => ?_)
              refine lv_pop hx hb dX11_statement_243 rfl ?_
              exact ret_v hx hb hr hlocks hK hw dX11_statement_244 (by subst eS1; unfold rStm rCu rCo rOc; simp only [c1, c2, c3, c4, c5, c6, if_true, if_false, eq_self, Bool.false_eq_true, not_true_eq_false, not_false_eq_true, decide_true, decide_false, Bool.and_true, Bool.true_and, Bool.and_false, Bool.false_and, Bool.not_true, Bool.not_false, Bool.or_true, Bool.true_or, Bool.or_false, Bool.false_or, reduceIte, b2i_t, b2i_f]; try rfl)
            · skip
              refine lv_aload_n hx hb dX11_statement_212 rfl (lv_at hl 0 rfl) ?_
              refine lv_iconst (v := nI 2) hx hb dX11_statement_213 (by decide) ?_
              refine x_callVI (q := 30) (C := RX11) (As := [.int (nI 2)]) (rest := []) ⟨hx, hb, hml, hown, hts⟩ (ct_X11_once l D cA α n _ hn S 2 h9) (cwV 1 hts gX11_statement_X11_once rfl rfl rfl (by decide +kernel) ⟨Nat.le_of_ble_eq_true rfl, Nat.le_of_ble_eq_true rfl⟩) hK hw hAw (ws_recv hK hw (q := 30) (Nat.lt_of_lt_of_le (Nat.le_of_ble_eq_true rfl : 30 < 191) hn) (mk_30 cA α) rfl) rfl hl.1 rfl (Nat.le_of_ble_eq_true rfl) dX11_statement_214 ⟨Nat.zero_le _, Nat.zero_le _⟩ (fun S2 eS2 H locs hw => ?_)
              refine xb_eq (b := (rOn S 2).2) (tgt := 244) hx hb dX11_statement_217 (by decide) (fun c7 => ?_) (fun c7 => ?_)
              · skip
                exact ret_v hx hb hr hlocks hK hw dX11_statement_244 (by subst eS2; unfold rStm rCu rCo rOc; simp only [c1, c2, c3, c4, c5, c6, c7, if_true, if_false, eq_self, Bool.false_eq_true, not_true_eq_false, not_false_eq_true, decide_true, decide_false, Bool.and_true, Bool.true_and, Bool.and_false, Bool.false_and, Bool.not_true, Bool.not_false, Bool.or_true, Bool.true_or, Bool.or_false, Bool.false_or, reduceIte, b2i_t, b2i_f]; try rfl)
              · skip
                refine lv_aload_n hx hb dX11_statement_220 rfl (lv_at hl 0 rfl) ?_
                refine x_get (v := .ref (α 32)) (C := RX11) (T := TX11) (N := 24) hx hb hts (fun _ h => List.mem_cons_of_mem _ (List.mem_append_right _ h)) hown hK hw 30 (Nat.lt_of_lt_of_le (Nat.le_of_ble_eq_true rfl : 30 < 191) hn) (mk_30 cA α) rfl 10 (by decide) (hts _ (List.mem_of_getElem? (i := 1) rfl)) (fun _ h9 => h9) rfl dX11_statement_221 ?_
                refine lv_iconst (v := nI 5) hx hb dX11_statement_224 (by decide) ?_
                refine lv_aload_n hx hb dX11_statement_225 rfl (lv_at hl 0 rfl) ?_
                refine lv_iconst (v := nI 0) hx hb dX11_statement_226 (by decide) ?_
                refine lv_sipush (v := nI 9999) hx hb dX11_statement_227 (by decide) ?_
                refine x_callVI (q := 30) (C := RX11) (As := [.int (nI 0), .int (nI 9999)]) (rest := [.int (nI 5), .ref (α 32)]) ⟨hx, hb, hml, hown, hts⟩ (ct_X11_read l D cA α n _ hn S2 (nI 0) (nI 9999) (by rw [eS2]; exact okQ_on h9 _)) (cwV 2 hts gX11_statement_X11_read rfl rfl rfl (by decide +kernel) ⟨Nat.le_of_ble_eq_true rfl, Nat.le_of_ble_eq_true rfl⟩) hK hw hAw (ws_recv hK hw (q := 30) (Nat.lt_of_lt_of_le (Nat.le_of_ble_eq_true rfl : 30 < 191) hn) (mk_30 cA α) rfl) rfl hl.1 rfl (Nat.le_of_ble_eq_true rfl) dX11_statement_230 ⟨Nat.zero_le _, Nat.zero_le _⟩ (fun S3 eS3 H locs hw => ?_)
                refine x_iast (x := (rRd S2 (nI 0) (nI 9999)).2) hx hb hK hw 32 40 (Nat.lt_of_lt_of_le (Nat.le_of_ble_eq_true rfl : 32 < 191) hn) (mk_32 cA α) 5 rfl (by decide) (by decide) dX11_statement_233 (fun S4 eS4 H locs hw => ?_)
                refine lv_goto (tgt := 244) hx hb dX11_statement_234 (by decide) ?_
                exact ret_v hx hb hr hlocks hK hw dX11_statement_244 (by subst eS4; subst eS3; subst eS2; unfold rStm rCu rCo rOc; simp only [c1, c2, c3, c4, c5, c6, c7, if_true, if_false, eq_self, Bool.false_eq_true, not_true_eq_false, not_false_eq_true, decide_true, decide_false, Bool.and_true, Bool.true_and, Bool.and_false, Bool.false_and, Bool.not_true, Bool.not_false, Bool.or_true, Bool.true_or, Bool.or_false, Bool.false_or, reduceIte, b2i_t, b2i_f]; try rfl)
          · skip
            refine lv_aload_n hx hb dX11_statement_173 rfl (lv_at hl 0 rfl) ?_
            refine lv_iconst (v := nI 1) hx hb dX11_statement_174 (by decide) ?_
            refine x_callVI (q := 30) (C := RX11) (As := [.int (nI 1)]) (rest := []) ⟨hx, hb, hml, hown, hts⟩ (ct_X11_once l D cA α n _ hn S 1 h9) (cwV 1 hts gX11_statement_X11_once rfl rfl rfl (by decide +kernel) ⟨Nat.le_of_ble_eq_true rfl, Nat.le_of_ble_eq_true rfl⟩) hK hw hAw (ws_recv hK hw (q := 30) (Nat.lt_of_lt_of_le (Nat.le_of_ble_eq_true rfl : 30 < 191) hn) (mk_30 cA α) rfl) rfl hl.1 rfl (Nat.le_of_ble_eq_true rfl) dX11_statement_175 ⟨Nat.zero_le _, Nat.zero_le _⟩ (fun S5 eS5 H locs hw => ?_)
            refine xb_eq (b := (rOn S 1).2) (tgt := 244) hx hb dX11_statement_178 (by decide) (fun c8 => ?_) (fun c8 => ?_)
            · skip
              exact ret_v hx hb hr hlocks hK hw dX11_statement_244 (by subst eS5; unfold rStm rCu rCo rOc; simp only [c1, c2, c3, c4, c5, c8, if_true, if_false, eq_self, Bool.false_eq_true, not_true_eq_false, not_false_eq_true, decide_true, decide_false, Bool.and_true, Bool.true_and, Bool.and_false, Bool.false_and, Bool.not_true, Bool.not_false, Bool.or_true, Bool.true_or, Bool.or_false, Bool.false_or, reduceIte, b2i_t, b2i_f]; try rfl)
            · skip
              refine lv_aload_n hx hb dX11_statement_181 rfl (lv_at hl 0 rfl) ?_
              refine x_get (v := .ref (α 32)) (C := RX11) (T := TX11) (N := 24) hx hb hts (fun _ h => List.mem_cons_of_mem _ (List.mem_append_right _ h)) hown hK hw 30 (Nat.lt_of_lt_of_le (Nat.le_of_ble_eq_true rfl : 30 < 191) hn) (mk_30 cA α) rfl 10 (by decide) (hts _ (List.mem_of_getElem? (i := 1) rfl)) (fun _ h9 => h9) rfl dX11_statement_182 ?_
              refine lv_iconst (v := nI 4) hx hb dX11_statement_185 (by decide) ?_
              refine lv_aload_n hx hb dX11_statement_186 rfl (lv_at hl 0 rfl) ?_
              refine lv_iconst (v := nI 0) hx hb dX11_statement_187 (by decide) ?_
              refine lv_aload_n hx hb dX11_statement_188 rfl (lv_at hl 0 rfl) ?_
              refine x_get (v := .ref (α 32)) (C := RX11) (T := TX11) (N := 24) hx hb hts (fun _ h => List.mem_cons_of_mem _ (List.mem_append_right _ h)) hown hK hw 30 (Nat.lt_of_lt_of_le (Nat.le_of_ble_eq_true rfl : 30 < 191) hn) (mk_30 cA α) rfl 10 (by decide) (hts _ (List.mem_of_getElem? (i := 1) rfl)) (fun _ h9 => h9) rfl dX11_statement_189 ?_
              refine lv_iconst (v := nI 1) hx hb dX11_statement_192 (by decide) ?_
              refine x_iald hx hb hK hw 32 40 (Nat.lt_of_lt_of_le (Nat.le_of_ble_eq_true rfl : 32 < 191) hn) (mk_32 cA α) 1 rfl (by decide) (by decide) dX11_statement_193 ?_
              refine x_topE (y := S.1 32 1) (by subst eS5; rw [rOn_k _ _ (by decide)]) ?_
              refine lv_iconst (v := nI 1) hx hb dX11_statement_194 (by decide) ?_
              refine lv_isub hx hb dX11_statement_195 ?_
              refine x_callVI (q := 30) (C := RX11) (As := [.int (nI 0), .int ((S.1 32 1) - (nI 1))]) (rest := [.int (nI 4), .ref (α 32)]) ⟨hx, hb, hml, hown, hts⟩ (ct_X11_read l D cA α n _ hn S5 (nI 0) ((S.1 32 1) - (nI 1)) (by rw [eS5]; exact okQ_on h9 _)) (cwV 2 hts gX11_statement_X11_read rfl rfl rfl (by decide +kernel) ⟨Nat.le_of_ble_eq_true rfl, Nat.le_of_ble_eq_true rfl⟩) hK hw hAw (ws_recv hK hw (q := 30) (Nat.lt_of_lt_of_le (Nat.le_of_ble_eq_true rfl : 30 < 191) hn) (mk_30 cA α) rfl) rfl hl.1 rfl (Nat.le_of_ble_eq_true rfl) dX11_statement_196 ⟨Nat.zero_le _, Nat.zero_le _⟩ (fun S6 eS6 H locs hw => ?_)
              refine x_iast (x := (rRd S5 (nI 0) ((S.1 32 1) - (nI 1))).2) hx hb hK hw 32 40 (Nat.lt_of_lt_of_le (Nat.le_of_ble_eq_true rfl : 32 < 191) hn) (mk_32 cA α) 4 rfl (by decide) (by decide) dX11_statement_199 (fun S7 eS7 H locs hw => ?_)
              refine lv_goto (tgt := 244) hx hb dX11_statement_200 (by decide) ?_
              exact ret_v hx hb hr hlocks hK hw dX11_statement_244 (by subst eS7; subst eS6; subst eS5; unfold rStm rCu rCo rOc; simp only [c1, c2, c3, c4, c5, c8, if_true, if_false, eq_self, Bool.false_eq_true, not_true_eq_false, not_false_eq_true, decide_true, decide_false, Bool.and_true, Bool.true_and, Bool.and_false, Bool.false_and, Bool.not_true, Bool.not_false, Bool.or_true, Bool.true_or, Bool.or_false, Bool.false_or, reduceIte, b2i_t, b2i_f]; try rfl)
        · skip
          refine lv_aload_n hx hb dX11_statement_139 rfl (lv_at hl 0 rfl) ?_
          refine lv_iconst (v := nI 0) hx hb dX11_statement_140 (by decide) ?_
          refine x_callVI (q := 30) (C := RX11) (As := [.int (nI 0)]) (rest := []) ⟨hx, hb, hml, hown, hts⟩ (ct_X11_once l D cA α n _ hn S 0 h9) (cwV 1 hts gX11_statement_X11_once rfl rfl rfl (by decide +kernel) ⟨Nat.le_of_ble_eq_true rfl, Nat.le_of_ble_eq_true rfl⟩) hK hw hAw (ws_recv hK hw (q := 30) (Nat.lt_of_lt_of_le (Nat.le_of_ble_eq_true rfl : 30 < 191) hn) (mk_30 cA α) rfl) rfl hl.1 rfl (Nat.le_of_ble_eq_true rfl) dX11_statement_141 ⟨Nat.zero_le _, Nat.zero_le _⟩ (fun S8 eS8 H locs hw => ?_)
          refine xb_eq (b := (rOn S 0).2) (tgt := 244) hx hb dX11_statement_144 (by decide) (fun c9 => ?_) (fun c9 => ?_)
          · skip
            exact ret_v hx hb hr hlocks hK hw dX11_statement_244 (by subst eS8; unfold rStm rCu rCo rOc; simp only [c1, c2, c3, c4, c9, if_true, if_false, eq_self, Bool.false_eq_true, not_true_eq_false, not_false_eq_true, decide_true, decide_false, Bool.and_true, Bool.true_and, Bool.and_false, Bool.false_and, Bool.not_true, Bool.not_false, Bool.or_true, Bool.true_or, Bool.or_false, Bool.false_or, reduceIte, b2i_t, b2i_f]; try rfl)
          · skip
            refine lv_aload_n hx hb dX11_statement_147 rfl (lv_at hl 0 rfl) ?_
            refine x_get (v := .ref (α 32)) (C := RX11) (T := TX11) (N := 24) hx hb hts (fun _ h => List.mem_cons_of_mem _ (List.mem_append_right _ h)) hown hK hw 30 (Nat.lt_of_lt_of_le (Nat.le_of_ble_eq_true rfl : 30 < 191) hn) (mk_30 cA α) rfl 10 (by decide) (hts _ (List.mem_of_getElem? (i := 1) rfl)) (fun _ h9 => h9) rfl dX11_statement_148 ?_
            refine lv_iconst (v := nI 3) hx hb dX11_statement_151 (by decide) ?_
            refine lv_aload_n hx hb dX11_statement_152 rfl (lv_at hl 0 rfl) ?_
            refine lv_iconst (v := nI 0) hx hb dX11_statement_153 (by decide) ?_
            refine lv_sipush (v := nI 9999) hx hb dX11_statement_154 (by decide) ?_
            refine x_callVI (q := 30) (C := RX11) (As := [.int (nI 0), .int (nI 9999)]) (rest := [.int (nI 3), .ref (α 32)]) ⟨hx, hb, hml, hown, hts⟩ (ct_X11_read l D cA α n _ hn S8 (nI 0) (nI 9999) (by rw [eS8]; exact okQ_on h9 _)) (cwV 2 hts gX11_statement_X11_read rfl rfl rfl (by decide +kernel) ⟨Nat.le_of_ble_eq_true rfl, Nat.le_of_ble_eq_true rfl⟩) hK hw hAw (ws_recv hK hw (q := 30) (Nat.lt_of_lt_of_le (Nat.le_of_ble_eq_true rfl : 30 < 191) hn) (mk_30 cA α) rfl) rfl hl.1 rfl (Nat.le_of_ble_eq_true rfl) dX11_statement_157 ⟨Nat.zero_le _, Nat.zero_le _⟩ (fun S9 eS9 H locs hw => ?_)
            refine x_iast (x := (rRd S8 (nI 0) (nI 9999)).2) hx hb hK hw 32 40 (Nat.lt_of_lt_of_le (Nat.le_of_ble_eq_true rfl : 32 < 191) hn) (mk_32 cA α) 3 rfl (by decide) (by decide) dX11_statement_160 (fun S10 eS10 H locs hw => ?_)
            refine lv_goto (tgt := 244) hx hb dX11_statement_161 (by decide) ?_
            exact ret_v hx hb hr hlocks hK hw dX11_statement_244 (by subst eS10; subst eS9; subst eS8; unfold rStm rCu rCo rOc; simp only [c1, c2, c3, c4, c9, if_true, if_false, eq_self, Bool.false_eq_true, not_true_eq_false, not_false_eq_true, decide_true, decide_false, Bool.and_true, Bool.true_and, Bool.and_false, Bool.false_and, Bool.not_true, Bool.not_false, Bool.or_true, Bool.true_or, Bool.or_false, Bool.false_or, reduceIte, b2i_t, b2i_f]; try rfl)
      · skip
        refine lv_aload_n hx hb dX11_statement_123 rfl (lv_at hl 0 rfl) ?_
        refine x_callVV (q := 30) (C := RX11) (As := []) (rest := []) ⟨hx, hb, hml, hown, hts⟩ (ct_X11_productLine l D cA α n _ hn S h9 (gN (S.1 32 2)) hk3.1 hk3.2) (cwV 0 hts gX11_statement_X11_productLine rfl rfl rfl (by decide +kernel) ⟨Nat.le_of_ble_eq_true rfl, Nat.le_of_ble_eq_true rfl⟩) hK hw hAw (ws_recv hK hw (q := 30) (Nat.lt_of_lt_of_le (Nat.le_of_ble_eq_true rfl : 30 < 191) hn) (mk_30 cA α) rfl) rfl hl.1 rfl (Nat.le_of_ble_eq_true rfl) dX11_statement_124 ⟨Nat.zero_le _, Nat.zero_le _⟩ (fun S11 eS11 H locs hw => ?_)
        refine lv_goto (tgt := 244) hx hb dX11_statement_127 (by decide) ?_
        exact ret_v hx hb hr hlocks hK hw dX11_statement_244 (by subst eS11; unfold rStm rCu rCo rOc; simp only [c1, c2, c3, if_true, if_false, eq_self, Bool.false_eq_true, not_true_eq_false, not_false_eq_true, decide_true, decide_false, Bool.and_true, Bool.true_and, Bool.and_false, Bool.false_and, Bool.not_true, Bool.not_false, Bool.or_true, Bool.true_or, Bool.or_false, Bool.false_or, reduceIte, b2i_t, b2i_f]; try rfl)
    · skip
      refine lv_aload_n hx hb dX11_statement_63 rfl (lv_at hl 0 rfl) ?_
      refine lv_iconst (v := nI 1) hx hb dX11_statement_64 (by decide) ?_
      refine lv_bipush (v := nI 6) hx hb dX11_statement_65 (by decide) ?_
      refine x_callVI (q := 30) (C := RX11) (As := [.int (nI 1), .int (nI 6)]) (rest := []) ⟨hx, hb, hml, hown, hts⟩ (ct_X11_begins l D cA α n _ hn S 1 6 (by decide) h9) (cwV 2 hts gX11_statement_X11_begins rfl rfl rfl (by decide +kernel) ⟨Nat.le_of_ble_eq_true rfl, Nat.le_of_ble_eq_true rfl⟩) hK hw hAw (ws_recv hK hw (q := 30) (Nat.lt_of_lt_of_le (Nat.le_of_ble_eq_true rfl : 30 < 191) hn) (mk_30 cA α) rfl) rfl hl.1 rfl (Nat.le_of_ble_eq_true rfl) dX11_statement_67 ⟨Nat.zero_le _, Nat.zero_le _⟩ (fun S12 eS12 H locs hw => ?_)
      refine xb_ne (b := (rBg S 1 (nI 6)).2) (tgt := 74) hx hb dX11_statement_70 (by decide) (fun c10 => ?_) (fun c10 => ?_)
      · skip
        have hk6 : gN (S.1 32 1) < 6 := rBg_t (by decide) hk1.1 (by have := hk1.2; omega) c10
        refine lv_aload_n hx hb dX11_statement_74 rfl (lv_at hl 0 rfl) ?_
        refine x_get (v := .ref (α 32)) (C := RX11) (T := TX11) (N := 24) hx hb hts (fun _ h => List.mem_cons_of_mem _ (List.mem_append_right _ h)) hown hK hw 30 (Nat.lt_of_lt_of_le (Nat.le_of_ble_eq_true rfl : 30 < 191) hn) (mk_30 cA α) rfl 10 (by decide) (hts _ (List.mem_of_getElem? (i := 1) rfl)) (fun _ h9 => h9) rfl dX11_statement_75 ?_
        refine lv_bipush (v := nI 10) hx hb dX11_statement_78 (by decide) ?_
        refine lv_aload_n hx hb dX11_statement_80 rfl (lv_at hl 0 rfl) ?_
        refine x_get (v := .ref (α 32)) (C := RX11) (T := TX11) (N := 24) hx hb hts (fun _ h => List.mem_cons_of_mem _ (List.mem_append_right _ h)) hown hK hw 30 (Nat.lt_of_lt_of_le (Nat.le_of_ble_eq_true rfl : 30 < 191) hn) (mk_30 cA α) rfl 10 (by decide) (hts _ (List.mem_of_getElem? (i := 1) rfl)) (fun _ h9 => h9) rfl dX11_statement_81 ?_
        refine lv_iconst (v := nI 1) hx hb dX11_statement_84 (by decide) ?_
        refine x_iald hx hb hK hw 32 40 (Nat.lt_of_lt_of_le (Nat.le_of_ble_eq_true rfl : 32 < 191) hn) (mk_32 cA α) 1 rfl (by decide) (by decide) dX11_statement_85 ?_
        refine x_topN (k := gN (S.1 32 1)) (by subst eS12; rw [rBg_k _ _ _ (by decide)]; exact hk1.1) ?_
        refine xn_iadd hx hb dX11_statement_86 ?_
        refine lv_aload_n hx hb dX11_statement_87 rfl (lv_at hl 0 rfl) ?_
        refine lv_iconst (v := nI 0) hx hb dX11_statement_88 (by decide) ?_
        refine lv_aload_n hx hb dX11_statement_89 rfl (lv_at hl 0 rfl) ?_
        refine x_get (v := .ref (α 32)) (C := RX11) (T := TX11) (N := 24) hx hb hts (fun _ h => List.mem_cons_of_mem _ (List.mem_append_right _ h)) hown hK hw 30 (Nat.lt_of_lt_of_le (Nat.le_of_ble_eq_true rfl : 30 < 191) hn) (mk_30 cA α) rfl 10 (by decide) (hts _ (List.mem_of_getElem? (i := 1) rfl)) (fun _ h9 => h9) rfl dX11_statement_90 ?_
        refine lv_iconst (v := nI 0) hx hb dX11_statement_93 (by decide) ?_
        refine x_iald hx hb hK hw 32 40 (Nat.lt_of_lt_of_le (Nat.le_of_ble_eq_true rfl : 32 < 191) hn) (mk_32 cA α) 0 rfl (by decide) (by decide) dX11_statement_94 ?_
        refine x_topE (y := S.1 32 0) (by subst eS12; rw [rBg_k _ _ _ (by decide)]) ?_
        refine lv_iconst (v := nI 1) hx hb dX11_statement_95 (by decide) ?_
        refine lv_isub hx hb dX11_statement_96 ?_
        refine x_callVI (q := 30) (C := RX11) (As := [.int (nI 0), .int ((S.1 32 0) - (nI 1))]) (rest := [.int (nI (10 + (gN (S.1 32 1)))), .ref (α 32)]) ⟨hx, hb, hml, hown, hts⟩ (ct_X11_read l D cA α n _ hn S12 (nI 0) ((S.1 32 0) - (nI 1)) (by rw [eS12]; exact okQ_bg h9 _ _)) (cwV 2 hts gX11_statement_X11_read rfl rfl rfl (by decide +kernel) ⟨Nat.le_of_ble_eq_true rfl, Nat.le_of_ble_eq_true rfl⟩) hK hw hAw (ws_recv hK hw (q := 30) (Nat.lt_of_lt_of_le (Nat.le_of_ble_eq_true rfl : 30 < 191) hn) (mk_30 cA α) rfl) rfl hl.1 rfl (Nat.le_of_ble_eq_true rfl) dX11_statement_97 ⟨Nat.zero_le _, Nat.zero_le _⟩ (fun S13 eS13 H locs hw => ?_)
        refine x_topE (y := (rM1 S).2) (by rw [eS12]; rfl) ?_
        have eS13 : S13 = (rM1 S).1 := by rw [eS13, eS12]; rfl
        refine x_iast (x := (rM1 S).2) hx hb hK hw 32 40 (Nat.lt_of_lt_of_le (Nat.le_of_ble_eq_true rfl : 32 < 191) hn) (mk_32 cA α) (10 + (gN (S.1 32 1))) rfl (by omega) (by decide) dX11_statement_100 (fun S14 eS14 H locs hw => ?_)
        refine lv_aload_n hx hb dX11_statement_101 rfl (lv_at hl 0 rfl) ?_
        refine x_get (v := .ref (α 32)) (C := RX11) (T := TX11) (N := 24) hx hb hts (fun _ h => List.mem_cons_of_mem _ (List.mem_append_right _ h)) hown hK hw 30 (Nat.lt_of_lt_of_le (Nat.le_of_ble_eq_true rfl : 30 < 191) hn) (mk_30 cA α) rfl 10 (by decide) (hts _ (List.mem_of_getElem? (i := 1) rfl)) (fun _ h9 => h9) rfl dX11_statement_102 ?_
        refine lv_iconst (v := nI 1) hx hb dX11_statement_105 (by decide) ?_
        refine lv_dup2_11 hx hb dX11_statement_106 rfl rfl ?_
        refine x_iald hx hb hK hw 32 40 (Nat.lt_of_lt_of_le (Nat.le_of_ble_eq_true rfl : 32 < 191) hn) (mk_32 cA α) 1 rfl (by decide) (by decide) dX11_statement_107 ?_
        refine lv_iconst (v := nI 1) hx hb dX11_statement_108 (by decide) ?_
        refine lv_iadd hx hb dX11_statement_109 ?_
        refine x_iast (x := (S14.1 32 1) + (nI 1)) hx hb hK hw 32 40 (Nat.lt_of_lt_of_le (Nat.le_of_ble_eq_true rfl : 32 < 191) hn) (mk_32 cA α) 1 rfl (by decide) (by decide) dX11_statement_110 (fun S15 eS15 H locs hw => ?_)
        refine lv_goto (tgt := 244) hx hb dX11_statement_111 (by decide) ?_
        exact ret_v hx hb hr hlocks hK hw dX11_statement_244 (by subst eS15; subst eS14; subst eS13; subst eS12; unfold rStm rCu rCo rOc; simp only [c1, c2, c10, if_true, if_false, eq_self, Bool.false_eq_true, not_true_eq_false, not_false_eq_true, decide_true, decide_false, Bool.and_true, Bool.true_and, Bool.and_false, Bool.false_and, Bool.not_true, Bool.not_false, Bool.or_true, Bool.true_or, Bool.or_false, Bool.false_or, reduceIte, b2i_t, b2i_f]; try rfl)
      · skip
        exact ret_v hx hb hr hlocks hK hw dX11_statement_73 (by subst eS12; unfold rStm rCo; simp only [c1, c2, c10, if_true, if_false, eq_self, Bool.false_eq_true, not_true_eq_false, not_false_eq_true, decide_true, decide_false, Bool.and_true, Bool.true_and, Bool.and_false, Bool.false_and, Bool.not_true, Bool.not_false, Bool.or_true, Bool.true_or, Bool.or_false, Bool.false_or, reduceIte, b2i_t, b2i_f])
  · skip
    refine lv_aload_n hx hb dX11_statement_9 rfl (lv_at hl 0 rfl) ?_
    refine lv_iconst (v := nI 0) hx hb dX11_statement_10 (by decide) ?_
    refine lv_iconst (v := nI 4) hx hb dX11_statement_11 (by decide) ?_
    refine x_callVI (q := 30) (C := RX11) (As := [.int (nI 0), .int (nI 4)]) (rest := []) ⟨hx, hb, hml, hown, hts⟩ (ct_X11_begins l D cA α n _ hn S 0 4 (by decide) h9) (cwV 2 hts gX11_statement_X11_begins rfl rfl rfl (by decide +kernel) ⟨Nat.le_of_ble_eq_true rfl, Nat.le_of_ble_eq_true rfl⟩) hK hw hAw (ws_recv hK hw (q := 30) (Nat.lt_of_lt_of_le (Nat.le_of_ble_eq_true rfl : 30 < 191) hn) (mk_30 cA α) rfl) rfl hl.1 rfl (Nat.le_of_ble_eq_true rfl) dX11_statement_12 ⟨Nat.zero_le _, Nat.zero_le _⟩ (fun S16 eS16 H locs hw => ?_)
    refine xb_ne (b := (rBg S 0 (nI 4)).2) (tgt := 19) hx hb dX11_statement_15 (by decide) (fun c11 => ?_) (fun c11 => ?_)
    · skip
      have hk6 : gN (S.1 32 0) < 4 := rBg_t (by decide) hk0.1 (by have := hk0.2; omega) c11
      refine lv_aload_n hx hb dX11_statement_19 rfl (lv_at hl 0 rfl) ?_
      refine x_get (v := .ref (α 32)) (C := RX11) (T := TX11) (N := 24) hx hb hts (fun _ h => List.mem_cons_of_mem _ (List.mem_append_right _ h)) hown hK hw 30 (Nat.lt_of_lt_of_le (Nat.le_of_ble_eq_true rfl : 30 < 191) hn) (mk_30 cA α) rfl 10 (by decide) (hts _ (List.mem_of_getElem? (i := 1) rfl)) (fun _ h9 => h9) rfl dX11_statement_20 ?_
      refine lv_bipush (v := nI 6) hx hb dX11_statement_23 (by decide) ?_
      refine lv_aload_n hx hb dX11_statement_25 rfl (lv_at hl 0 rfl) ?_
      refine x_get (v := .ref (α 32)) (C := RX11) (T := TX11) (N := 24) hx hb hts (fun _ h => List.mem_cons_of_mem _ (List.mem_append_right _ h)) hown hK hw 30 (Nat.lt_of_lt_of_le (Nat.le_of_ble_eq_true rfl : 30 < 191) hn) (mk_30 cA α) rfl 10 (by decide) (hts _ (List.mem_of_getElem? (i := 1) rfl)) (fun _ h9 => h9) rfl dX11_statement_26 ?_
      refine lv_iconst (v := nI 0) hx hb dX11_statement_29 (by decide) ?_
      refine x_iald hx hb hK hw 32 40 (Nat.lt_of_lt_of_le (Nat.le_of_ble_eq_true rfl : 32 < 191) hn) (mk_32 cA α) 0 rfl (by decide) (by decide) dX11_statement_30 ?_
      refine x_topN (k := gN (S.1 32 0)) (by subst eS16; rw [rBg_k _ _ _ (by decide)]; exact hk0.1) ?_
      refine xn_iadd hx hb dX11_statement_31 ?_
      refine lv_aload_n hx hb dX11_statement_32 rfl (lv_at hl 0 rfl) ?_
      refine lv_iconst (v := nI 1) hx hb dX11_statement_33 (by decide) ?_
      refine lv_sipush (v := nI 9999) hx hb dX11_statement_34 (by decide) ?_
      refine x_callVI (q := 30) (C := RX11) (As := [.int (nI 1), .int (nI 9999)]) (rest := [.int (nI (6 + (gN (S.1 32 0)))), .ref (α 32)]) ⟨hx, hb, hml, hown, hts⟩ (ct_X11_read l D cA α n _ hn S16 (nI 1) (nI 9999) (by rw [eS16]; exact okQ_bg h9 _ _)) (cwV 2 hts gX11_statement_X11_read rfl rfl rfl (by decide +kernel) ⟨Nat.le_of_ble_eq_true rfl, Nat.le_of_ble_eq_true rfl⟩) hK hw hAw (ws_recv hK hw (q := 30) (Nat.lt_of_lt_of_le (Nat.le_of_ble_eq_true rfl : 30 < 191) hn) (mk_30 cA α) rfl) rfl hl.1 rfl (Nat.le_of_ble_eq_true rfl) dX11_statement_37 ⟨Nat.zero_le _, Nat.zero_le _⟩ (fun S17 eS17 H locs hw => ?_)
      refine x_topE (y := (rC1 S).2) (by rw [eS16]; rfl) ?_
      have eS17 : S17 = (rC1 S).1 := by rw [eS17, eS16]; rfl
      refine x_iast (x := (rC1 S).2) hx hb hK hw 32 40 (Nat.lt_of_lt_of_le (Nat.le_of_ble_eq_true rfl : 32 < 191) hn) (mk_32 cA α) (6 + (gN (S.1 32 0))) rfl (by omega) (by decide) dX11_statement_40 (fun S18 eS18 H locs hw => ?_)
      refine lv_aload_n hx hb dX11_statement_41 rfl (lv_at hl 0 rfl) ?_
      refine x_get (v := .ref (α 32)) (C := RX11) (T := TX11) (N := 24) hx hb hts (fun _ h => List.mem_cons_of_mem _ (List.mem_append_right _ h)) hown hK hw 30 (Nat.lt_of_lt_of_le (Nat.le_of_ble_eq_true rfl : 30 < 191) hn) (mk_30 cA α) rfl 10 (by decide) (hts _ (List.mem_of_getElem? (i := 1) rfl)) (fun _ h9 => h9) rfl dX11_statement_42 ?_
      refine lv_iconst (v := nI 0) hx hb dX11_statement_45 (by decide) ?_
      refine lv_dup2_11 hx hb dX11_statement_46 rfl rfl ?_
      refine x_iald hx hb hK hw 32 40 (Nat.lt_of_lt_of_le (Nat.le_of_ble_eq_true rfl : 32 < 191) hn) (mk_32 cA α) 0 rfl (by decide) (by decide) dX11_statement_47 ?_
      refine lv_iconst (v := nI 1) hx hb dX11_statement_48 (by decide) ?_
      refine lv_iadd hx hb dX11_statement_49 ?_
      refine x_iast (x := (S18.1 32 0) + (nI 1)) hx hb hK hw 32 40 (Nat.lt_of_lt_of_le (Nat.le_of_ble_eq_true rfl : 32 < 191) hn) (mk_32 cA α) 0 rfl (by decide) (by decide) dX11_statement_50 (fun S19 eS19 H locs hw => ?_)
      refine lv_goto (tgt := 244) hx hb dX11_statement_51 (by decide) ?_
      exact ret_v hx hb hr hlocks hK hw dX11_statement_244 (by subst eS19; subst eS18; subst eS17; subst eS16; unfold rStm rCu rCo rOc; simp only [c1, c11, if_true, if_false, eq_self, Bool.false_eq_true, not_true_eq_false, not_false_eq_true, decide_true, decide_false, Bool.and_true, Bool.true_and, Bool.and_false, Bool.false_and, Bool.not_true, Bool.not_false, Bool.or_true, Bool.true_or, Bool.or_false, Bool.false_or, reduceIte, b2i_t, b2i_f]; try rfl)
    · skip
      exact ret_v hx hb hr hlocks hK hw dX11_statement_18 (by subst eS16; unfold rStm rCu; simp only [c1, c11, if_true, if_false, eq_self, Bool.false_eq_true, not_true_eq_false, not_false_eq_true, decide_true, decide_false, Bool.and_true, Bool.true_and, Bool.and_false, Bool.false_and, Bool.not_true, Bool.not_false, Bool.or_true, Bool.true_or, Bool.or_false, Bool.false_or, reduceIte, b2i_t, b2i_f])
