/-! the reference: its match run -/
def rFree (S : Mem) (i j : Nat) : Bool := rIs S j (nI 1) (nI 0) && !decide (0 ≤ S.1 41 j) && rMir S i j
def rDst (S : Mem) (i j : Nat) : Int64 := absL (rVal S i - rVal S j)

set_option maxRecDepth 100000 in
set_option maxHeartbeats 1000000 in
theorem ct_X11_payableFor (l : Launch) (D : va_G) (cA : Nat → ClassId) (α : Nat → Nat) (n sz : Nat) (hn : 191 ≤ n) (S : Mem) (N : Nat) (hN : S.1 34 0 = nI N) (hN2 : N ≤ 100) (ho : ∀ j, j < N → okR S j) (i : Nat) (hi : i < N) : CtI l yX11_payableFor wsX11_payableFor ({ frames := 3, cells := 0, slots := 0, locals := 64 }) D cA α n sz [.ref (α 30), .int (nI i)] S (enc (bestOf (rFree S i) (rDst S i) N)) S := by
  refine ct_enter cX11_payableFor 4 (some .int) (by decide) rfl (Nat.le_of_ble_eq_true rfl) ?_
  intro p e s m below meth c hx hb hr hml hlocks hown hts hK hsz hw ls hl
  have hown : s.vm.findClass RX11 = some m.cls := hown
  have hAw : ∀ z, Aw α n s.heap.size z → Aw α n sz z := by rw [hsz]; exact fun _ h => h
  have hl : lv_has ls 4 [(0, .ref (α 30)), (1, .int (nI i))] := hl
  refine lv_iconst (v := (-1)) hx hb dX11_payableFor_0 (by decide) ?_
  refine lv_istore_n (lv' := [(2, .int (-1)), (0, .ref (α 30)), (1, .int (nI i))]) hx hb dX11_payableFor_1 rfl hl (by decide) rfl (fun ls hl => ?_)
  refine lv_iconst (v := nI 0) hx hb dX11_payableFor_2 (by decide) ?_
  refine lv_istore_n (lv' := [(3, .int (nI 0)), (2, .int (-1)), (0, .ref (α 30)), (1, .int (nI i))]) hx hb dX11_payableFor_3 rfl hl (by decide) rfl (fun ls hl => ?_)
  have lp4 : ∀ (t : Nat) (j : Nat) (o : Option Nat) (H : Heap) (locs : List Loc) (ls : Array Slot), N - j < t → j ≤ N → o = bestOf (rFree S i) (rDst S i) j → Ws D cA α n (Aw α n sz) s.heap S H locs → lv_has ls 4 [(0, .ref (α 30)), (1, .int (nI i)), (3, .int (nI j)), (2, .int (enc o))] → W p l e ({ frames := 3, cells := 0, slots := 0, locals := 64 } : Room) s m (List.toArray ([.ref (α 30), .int (nI i)] : List Value)) below meth c H locs 0 0 (MQ below (va_Qi (fun r u => r = (enc (bestOf (rFree S i) (rDst S i) N)) ∧ u = S) (Pw D cA α n) (Aw α n sz)) (List.toArray ([.ref (α 30), .int (nI i)] : List Value)) s 0 0 (Aw α n sz)) (F0 m 4 ls []) := by
    intro t
    induction t with
    | zero => intro j o H locs ls ht; exact absurd ht (Nat.not_lt_zero _)
    | succ t ih4 =>
      intro j o H locs ls ht hj ho9 hw hl
      refine lv_iload_n hx hb dX11_payableFor_4 rfl (lv_at hl 2 rfl) ?_
      refine lv_aload_n hx hb dX11_payableFor_5 rfl (lv_at hl 0 rfl) ?_
      refine x_get (v := .ref (α 34)) (C := RX11) (T := TX11) (N := 24) hx hb hts (fun _ h => List.mem_cons_of_mem _ (List.mem_append_right _ h)) hown hK hw 30 (Nat.lt_of_lt_of_le (Nat.le_of_ble_eq_true rfl : 30 < 191) hn) (mk_30 cA α) rfl 13 (by decide) (hts _ (List.mem_of_getElem? (i := 1) rfl)) (fun _ h9 => h9) rfl dX11_payableFor_6 ?_
      refine lv_iconst (v := nI 0) hx hb dX11_payableFor_9 (by decide) ?_
      refine x_iald hx hb hK hw 34 1508 (Nat.lt_of_lt_of_le (Nat.le_of_ble_eq_true rfl : 34 < 191) hn) (mk_34 cA α) 0 rfl (by decide) (by decide) dX11_payableFor_10 ?_
      refine x_topN (k := N) hN ?_
      refine xn_icmp_ge (tgt := 89) hx hb (by omega) (by omega) dX11_payableFor_11 (by decide) (fun c1 => ?_) (fun c1 => ?_)
      · skip
        refine lv_iload_n hx hb dX11_payableFor_89 rfl (lv_at hl 3 rfl) ?_
        exact ret_i hx hb hr hlocks hK hw dX11_payableFor_90 (by rw [ho9, show j = N by omega]) rfl
      · skip
        refine lv_aload_n hx hb dX11_payableFor_14 rfl (lv_at hl 0 rfl) ?_
        refine lv_iload_n hx hb dX11_payableFor_15 rfl (lv_at hl 2 rfl) ?_
        refine lv_iconst (v := nI 1) hx hb dX11_payableFor_16 (by decide) ?_
        refine lv_iconst (v := nI 0) hx hb dX11_payableFor_17 (by decide) ?_
        refine x_callVIr (q := 30) (C := RX11) (As := [.int (nI j), .int (nI 1), .int (nI 0)]) (rest := []) ⟨hx, hb, hml, hown, hts⟩ (ct_X11_is l D cA α n _ hn S j (nI 1) (nI 0) (by omega)) (cwV 3 hts gX11_payableFor_X11_is rfl rfl rfl (by decide +kernel) ⟨Nat.le_of_ble_eq_true rfl, Nat.le_of_ble_eq_true rfl⟩) hK hw hAw (ws_recv hK hw (q := 30) (Nat.lt_of_lt_of_le (Nat.le_of_ble_eq_true rfl : 30 < 191) hn) (mk_30 cA α) rfl) rfl hl.1 rfl (Nat.le_of_ble_eq_true rfl) dX11_payableFor_18 ⟨Nat.zero_le _, Nat.zero_le _⟩ (fun H locs hw => ?_)
        refine xb_eq (b := (rIs S j (nI 1) (nI 0))) (tgt := 83) hx hb dX11_payableFor_21 (by decide) (fun c2 => ?_) (fun c2 => ?_)
        · skip
          refine lv_iinc (v := nI (j + 1)) (lv' := [(3, .int (nI (j + 1))), (0, .ref (α 30)), (1, .int (nI i)), (2, .int (enc o))]) hx hb dX11_payableFor_83 hl (k := 2) rfl (nI_1 _) (by decide) rfl (fun ls hl => ?_)
          refine lv_goto (tgt := 4) hx hb dX11_payableFor_86 (by decide) ?_
          exact ih4 (j + 1) o _ _ _ (by omega) (by omega) (by rw [ho9]; exact (bestOf_no (by simp only [rFree, if_pos c1, if_neg (not_not_intro c1), decide_eq_true c1, c2, if_true, if_false, eq_self, Bool.false_eq_true, not_true_eq_false, not_false_eq_true, decide_true, decide_false, Bool.and_true, Bool.true_and, Bool.and_false, Bool.false_and, Bool.not_true, Bool.not_false, Bool.or_true, Bool.true_or, Bool.or_false, Bool.false_or, reduceIte, b2i_t, b2i_f])).symm) hw (lv_sub hl [1, 2, 0, 3] rfl)
        · skip
          refine lv_aload_n hx hb dX11_payableFor_24 rfl (lv_at hl 0 rfl) ?_
          refine x_get (v := .ref (α 41)) (C := RX11) (T := TX11) (N := 24) hx hb hts (fun _ h => List.mem_cons_of_mem _ (List.mem_append_right _ h)) hown hK hw 30 (Nat.lt_of_lt_of_le (Nat.le_of_ble_eq_true rfl : 30 < 191) hn) (mk_30 cA α) rfl 21 (by decide) (hts _ (List.mem_of_getElem? (i := 2) rfl)) (fun _ h9 => h9) rfl dX11_payableFor_25 ?_
          refine lv_iload_n hx hb dX11_payableFor_28 rfl (lv_at hl 2 rfl) ?_
          refine x_iald hx hb hK hw 41 100 (Nat.lt_of_lt_of_le (Nat.le_of_ble_eq_true rfl : 41 < 191) hn) (mk_41 cA α) j rfl (by omega) (by decide) dX11_payableFor_29 ?_
          refine lv_if_ge (tgt := 83) hx hb dX11_payableFor_30 (by decide) (fun c3 => ?_) (fun c3 => ?_)
          · skip
            refine lv_iinc (v := nI (j + 1)) (lv' := [(3, .int (nI (j + 1))), (0, .ref (α 30)), (1, .int (nI i)), (2, .int (enc o))]) hx hb dX11_payableFor_83 hl (k := 2) rfl (nI_1 _) (by decide) rfl (fun ls hl => ?_)
            refine lv_goto (tgt := 4) hx hb dX11_payableFor_86 (by decide) ?_
            exact ih4 (j + 1) o _ _ _ (by omega) (by omega) (by rw [ho9]; exact (bestOf_no (by simp only [rFree, if_pos c1, if_neg (not_not_intro c1), decide_eq_true c1, c2, if_pos c3, if_neg (not_not_intro c3), decide_eq_true c3, if_true, if_false, eq_self, Bool.false_eq_true, not_true_eq_false, not_false_eq_true, decide_true, decide_false, Bool.and_true, Bool.true_and, Bool.and_false, Bool.false_and, Bool.not_true, Bool.not_false, Bool.or_true, Bool.true_or, Bool.or_false, Bool.false_or, reduceIte, b2i_t, b2i_f])).symm) hw (lv_sub hl [1, 2, 0, 3] rfl)
          · skip
            refine lv_aload_n hx hb dX11_payableFor_33 rfl (lv_at hl 0 rfl) ?_
            refine lv_iload_n hx hb dX11_payableFor_34 rfl (lv_at hl 1 rfl) ?_
            refine lv_iload_n hx hb dX11_payableFor_35 rfl (lv_at hl 2 rfl) ?_
            refine x_callVIr (q := 30) (C := RX11) (As := [.int (nI i), .int (nI j)]) (rest := []) ⟨hx, hb, hml, hown, hts⟩ (ct_X11_mirrors l D cA α n _ hn S i j (by omega) (by omega)) (cwV 2 hts gX11_payableFor_X11_mirrors rfl rfl rfl (by decide +kernel) ⟨Nat.le_of_ble_eq_true rfl, Nat.le_of_ble_eq_true rfl⟩) hK hw hAw (ws_recv hK hw (q := 30) (Nat.lt_of_lt_of_le (Nat.le_of_ble_eq_true rfl : 30 < 191) hn) (mk_30 cA α) rfl) rfl hl.1 rfl (Nat.le_of_ble_eq_true rfl) dX11_payableFor_36 ⟨Nat.zero_le _, Nat.zero_le _⟩ (fun H locs hw => ?_)
            refine xb_ne (b := (rMir S i j)) (tgt := 45) hx hb dX11_payableFor_39 (by decide) (fun c4 => ?_) (fun c4 => ?_)
            · skip
              refine lv_iload_n hx hb dX11_payableFor_45 rfl (lv_at hl 3 rfl) ?_
              refine lv_if_lt (tgt := 81) hx hb dX11_payableFor_46 (by decide) (fun c5 => ?_) (fun c5 => ?_)
              · skip
                refine lv_iload_n hx hb dX11_payableFor_81 rfl (lv_at hl 2 rfl) ?_
                refine lv_istore_n (lv' := [(2, .int (nI j)), (0, .ref (α 30)), (1, .int (nI i)), (3, .int (nI j))]) hx hb dX11_payableFor_82 rfl hl (by decide) rfl (fun ls hl => ?_)
                refine lv_iinc (v := nI (j + 1)) (lv' := [(3, .int (nI (j + 1))), (2, .int (nI j)), (0, .ref (α 30)), (1, .int (nI i))]) hx hb dX11_payableFor_83 hl (k := 3) rfl (nI_1 _) (by decide) rfl (fun ls hl => ?_)
                refine lv_goto (tgt := 4) hx hb dX11_payableFor_86 (by decide) ?_
                exact ih4 (j + 1) (some j) _ _ _ (by omega) (by omega) (by have q := enc_neg c5 (fun b q => by have := bestOf_lt j b (ho9.symm.trans q); omega); exact (bestOf_new (by simp only [rFree, if_pos c1, if_neg (not_not_intro c1), decide_eq_true c1, c2, if_neg c3, if_pos c3, decide_eq_false c3, c4, if_pos c5, if_neg (not_not_intro c5), decide_eq_true c5, if_true, if_false, eq_self, Bool.false_eq_true, not_true_eq_false, not_false_eq_true, decide_true, decide_false, Bool.and_true, Bool.true_and, Bool.and_false, Bool.false_and, Bool.not_true, Bool.not_false, Bool.or_true, Bool.true_or, Bool.or_false, Bool.false_or, reduceIte, b2i_t, b2i_f]) (ho9.symm.trans q)).symm) hw (lv_sub hl [2, 3, 0, 1] rfl)
              · skip
                obtain ⟨b, hb9⟩ := enc_pos c5
                have hb8 := (bestOf_lt j b (ho9.symm.trans hb9)).1
                refine lv_aload_n hx hb dX11_payableFor_49 rfl (lv_at hl 0 rfl) ?_
                refine lv_iload_n hx hb dX11_payableFor_50 rfl (lv_at hl 1 rfl) ?_
                refine x_callVLr (q := 30) (C := RX11) (As := [.int (nI i)]) (rest := []) ⟨hx, hb, hml, hown, hts⟩ (ct_X11_valueOf l D cA α n _ hn S i (ho i hi)) (cwV 1 hts gX11_payableFor_X11_valueOf rfl rfl rfl (by decide +kernel) ⟨Nat.le_of_ble_eq_true rfl, Nat.le_of_ble_eq_true rfl⟩) hK hw hAw (ws_recv hK hw (q := 30) (Nat.lt_of_lt_of_le (Nat.le_of_ble_eq_true rfl : 30 < 191) hn) (mk_30 cA α) rfl) rfl hl.1 rfl (Nat.le_of_ble_eq_true rfl) dX11_payableFor_51 ⟨Nat.zero_le _, Nat.zero_le _⟩ (fun H locs hw => ?_)
                refine lv_aload_n hx hb dX11_payableFor_54 rfl (lv_at hl 0 rfl) ?_
                refine lv_iload_n hx hb dX11_payableFor_55 rfl (lv_at hl 2 rfl) ?_
                refine x_callVLr (q := 30) (C := RX11) (As := [.int (nI j)]) (rest := [.long (rVal S i)]) ⟨hx, hb, hml, hown, hts⟩ (ct_X11_valueOf l D cA α n _ hn S j (ho j (by omega))) (cwV 1 hts gX11_payableFor_X11_valueOf rfl rfl rfl (by decide +kernel) ⟨Nat.le_of_ble_eq_true rfl, Nat.le_of_ble_eq_true rfl⟩) hK hw hAw (ws_recv hK hw (q := 30) (Nat.lt_of_lt_of_le (Nat.le_of_ble_eq_true rfl : 30 < 191) hn) (mk_30 cA α) rfl) rfl hl.1 rfl (Nat.le_of_ble_eq_true rfl) dX11_payableFor_56 ⟨Nat.zero_le _, Nat.zero_le _⟩ (fun H locs hw => ?_)
                refine lv_lsub hx hb dX11_payableFor_59 ?_
                refine x_callSLr (q := 0) (C := RX0) (As := [.long (rVal S i - rVal S j)]) (rest := []) ⟨hx, hb, hml, hown, hts⟩ (ct_X11_absolute l D cA α n _ hn S (rVal S i - rVal S j)) (va_cwS 1 hts gX11_payableFor_X11_absolute rfl rfl rfl (by decide +kernel) ⟨Nat.le_of_ble_eq_true rfl, Nat.le_of_ble_eq_true rfl⟩) hK hw hAw rfl hl.1 rfl (Nat.le_of_ble_eq_true rfl) dX11_payableFor_60 ⟨Nat.zero_le _, Nat.zero_le _⟩ (fun H locs hw => ?_)
                refine lv_aload_n hx hb dX11_payableFor_63 rfl (lv_at hl 0 rfl) ?_
                refine lv_iload_n hx hb dX11_payableFor_64 rfl (lv_at hl 1 rfl) ?_
                refine x_callVLr (q := 30) (C := RX11) (As := [.int (nI i)]) (rest := [.long (absL (rVal S i - rVal S j))]) ⟨hx, hb, hml, hown, hts⟩ (ct_X11_valueOf l D cA α n _ hn S i (ho i hi)) (cwV 1 hts gX11_payableFor_X11_valueOf rfl rfl rfl (by decide +kernel) ⟨Nat.le_of_ble_eq_true rfl, Nat.le_of_ble_eq_true rfl⟩) hK hw hAw (ws_recv hK hw (q := 30) (Nat.lt_of_lt_of_le (Nat.le_of_ble_eq_true rfl : 30 < 191) hn) (mk_30 cA α) rfl) rfl hl.1 rfl (Nat.le_of_ble_eq_true rfl) dX11_payableFor_65 ⟨Nat.zero_le _, Nat.zero_le _⟩ (fun H locs hw => ?_)
                refine lv_aload_n hx hb dX11_payableFor_68 rfl (lv_at hl 0 rfl) ?_
                refine lv_iload_n hx hb dX11_payableFor_69 rfl (lv_at hl 3 rfl) ?_
                refine x_topN (k := b) (by rw [hb9]; rfl) ?_
                refine x_callVLr (q := 30) (C := RX11) (As := [.int (nI b)]) (rest := [.long (rVal S i), .long (absL (rVal S i - rVal S j))]) ⟨hx, hb, hml, hown, hts⟩ (ct_X11_valueOf l D cA α n _ hn S b (ho b (by omega))) (cwV 1 hts gX11_payableFor_X11_valueOf rfl rfl rfl (by decide +kernel) ⟨Nat.le_of_ble_eq_true rfl, Nat.le_of_ble_eq_true rfl⟩) hK hw hAw (ws_recv hK hw (q := 30) (Nat.lt_of_lt_of_le (Nat.le_of_ble_eq_true rfl : 30 < 191) hn) (mk_30 cA α) rfl) rfl hl.1 rfl (Nat.le_of_ble_eq_true rfl) dX11_payableFor_70 ⟨Nat.zero_le _, Nat.zero_le _⟩ (fun H locs hw => ?_)
                refine lv_lsub hx hb dX11_payableFor_73 ?_
                refine x_callSLr (q := 0) (C := RX0) (As := [.long (rVal S i - rVal S b)]) (rest := [.long (absL (rVal S i - rVal S j))]) ⟨hx, hb, hml, hown, hts⟩ (ct_X11_absolute l D cA α n _ hn S (rVal S i - rVal S b)) (va_cwS 1 hts gX11_payableFor_X11_absolute rfl rfl rfl (by decide +kernel) ⟨Nat.le_of_ble_eq_true rfl, Nat.le_of_ble_eq_true rfl⟩) hK hw hAw rfl hl.1 rfl (Nat.le_of_ble_eq_true rfl) dX11_payableFor_74 ⟨Nat.zero_le _, Nat.zero_le _⟩ (fun H locs hw => ?_)
                refine x_lcmp_ge (tgt := 83) hx hb dX11_payableFor_77 dX11_payableFor_78 (by decide) (fun c6 => ?_) (fun c6 => ?_)
                · skip
                  refine lv_iinc (v := nI (j + 1)) (lv' := [(3, .int (nI (j + 1))), (0, .ref (α 30)), (1, .int (nI i)), (2, .int (enc o))]) hx hb dX11_payableFor_83 hl (k := 2) rfl (nI_1 _) (by decide) rfl (fun ls hl => ?_)
                  refine lv_goto (tgt := 4) hx hb dX11_payableFor_86 (by decide) ?_
                  exact ih4 (j + 1) o _ _ _ (by omega) (by omega) (by rw [hb9]; exact (bestOf_keep (by simp only [rFree, if_pos c1, if_neg (not_not_intro c1), decide_eq_true c1, c2, if_neg c3, if_pos c3, decide_eq_false c3, c4, if_neg c5, if_pos c5, decide_eq_false c5, if_pos c6, if_neg (not_not_intro c6), decide_eq_true c6, if_true, if_false, eq_self, Bool.false_eq_true, not_true_eq_false, not_false_eq_true, decide_true, decide_false, Bool.and_true, Bool.true_and, Bool.and_false, Bool.false_and, Bool.not_true, Bool.not_false, Bool.or_true, Bool.true_or, Bool.or_false, Bool.false_or, reduceIte, b2i_t, b2i_f]) (ho9.symm.trans hb9) c6).symm) hw (lv_sub hl [1, 2, 0, 3] rfl)
                · skip
                  refine lv_iload_n hx hb dX11_payableFor_81 rfl (lv_at hl 2 rfl) ?_
                  refine lv_istore_n (lv' := [(2, .int (nI j)), (0, .ref (α 30)), (1, .int (nI i)), (3, .int (nI j))]) hx hb dX11_payableFor_82 rfl hl (by decide) rfl (fun ls hl => ?_)
                  refine lv_iinc (v := nI (j + 1)) (lv' := [(3, .int (nI (j + 1))), (2, .int (nI j)), (0, .ref (α 30)), (1, .int (nI i))]) hx hb dX11_payableFor_83 hl (k := 3) rfl (nI_1 _) (by decide) rfl (fun ls hl => ?_)
                  refine lv_goto (tgt := 4) hx hb dX11_payableFor_86 (by decide) ?_
                  exact ih4 (j + 1) (some j) _ _ _ (by omega) (by omega) (bestOf_less (by simp only [rFree, if_pos c1, if_neg (not_not_intro c1), decide_eq_true c1, c2, if_neg c3, if_pos c3, decide_eq_false c3, c4, if_neg c5, if_pos c5, decide_eq_false c5, if_neg c6, if_pos c6, decide_eq_false c6, if_true, if_false, eq_self, Bool.false_eq_true, not_true_eq_false, not_false_eq_true, decide_true, decide_false, Bool.and_true, Bool.true_and, Bool.and_false, Bool.false_and, Bool.not_true, Bool.not_false, Bool.or_true, Bool.true_or, Bool.or_false, Bool.false_or, reduceIte, b2i_t, b2i_f]) (ho9.symm.trans hb9) c6).symm hw (lv_sub hl [2, 3, 0, 1] rfl)
            · skip
              refine lv_goto (tgt := 83) hx hb dX11_payableFor_42 (by decide) ?_
              refine lv_iinc (v := nI (j + 1)) (lv' := [(3, .int (nI (j + 1))), (0, .ref (α 30)), (1, .int (nI i)), (2, .int (enc o))]) hx hb dX11_payableFor_83 hl (k := 2) rfl (nI_1 _) (by decide) rfl (fun ls hl => ?_)
              refine lv_goto (tgt := 4) hx hb dX11_payableFor_86 (by decide) ?_
              exact ih4 (j + 1) o _ _ _ (by omega) (by omega) (by rw [ho9]; exact (bestOf_no (by simp only [rFree, if_pos c1, if_neg (not_not_intro c1), decide_eq_true c1, c2, if_neg c3, if_pos c3, decide_eq_false c3, c4, if_true, if_false, eq_self, Bool.false_eq_true, not_true_eq_false, not_false_eq_true, decide_true, decide_false, Bool.and_true, Bool.true_and, Bool.and_false, Bool.false_and, Bool.not_true, Bool.not_false, Bool.or_true, Bool.true_or, Bool.or_false, Bool.false_or, reduceIte, b2i_t, b2i_f])).symm) hw (lv_sub hl [1, 2, 0, 3] rfl)
  exact lp4 _ 0 none _ _ _ (Nat.lt_succ_self _) (Nat.zero_le _) rfl hw (lv_sub hl [2, 3, 0, 1] rfl)

def rPlan (S : Mem) (N : Nat) : Nat → (Nat → Int32)
  | 0 => fI (S.1 41) 100
  | i + 1 => if rIs S i (nI 0) (nI 0) then (match bestOf (rFree (setR S 41 (rPlan S N i)) i) (rDst S i) N with
    | none => rPlan S N i
    | some b => upd (upd (rPlan S N i) i (nI b)) b (nI i)) else rPlan S N i
theorem rIs_41 (S : Mem) (f : Nat → Int32) : rIs (setR S 41 f) = rIs S := rfl
theorem rDst_41 (S : Mem) (f : Nat → Int32) (i : Nat) : rDst (setR S 41 f) i = rDst S i := rfl
theorem rPlan_no {S : Mem} {N i : Nat} (h : rIs S i (nI 0) (nI 0) = false) : rPlan S N (i + 1) = rPlan S N i := by
  rw [rPlan]; simp [h]
theorem rPlan_none {S : Mem} {N i : Nat} (hb : bestOf (rFree (setR S 41 (rPlan S N i)) i) (rDst S i) N = none) : rPlan S N (i + 1) = rPlan S N i := by
  rw [rPlan, hb]; simp
theorem rPlan_some {S : Mem} {N i b : Nat} (h : rIs S i (nI 0) (nI 0) = true) (hb : bestOf (rFree (setR S 41 (rPlan S N i)) i) (rDst S i) N = some b) : rPlan S N (i + 1) = upd (upd (rPlan S N i) i (nI b)) b (nI i) := by
  rw [rPlan, hb]; simp [h]

set_option maxRecDepth 100000 in
set_option maxHeartbeats 1000000 in
theorem ct_X11_laysRun (l : Launch) (D : va_G) (cA : Nat → ClassId) (α : Nat → Nat) (n sz : Nat) (hn : 191 ≤ n) (S : Mem) (N : Nat) (hN : S.1 34 0 = nI N) (hN2 : N ≤ 100) (ho : ∀ j, j < N → okR S j) : CtV l yX11_laysRun wsX11_laysRun ({ frames := 4, cells := 0, slots := 0, locals := 87 }) D cA α n sz [.ref (α 30)] S (setR S 41 (rPlan S N N)) := by
  refine ct_enter cX11_laysRun 3 none (by decide) rfl (Nat.le_of_ble_eq_true rfl) ?_
  intro p e s m below meth c hx hb hr hml hlocks hown hts hK hsz hw ls hl
  have hown : s.vm.findClass RX11 = some m.cls := hown
  have hAw : ∀ z, Aw α n s.heap.size z → Aw α n sz z := by rw [hsz]; exact fun _ h => h
  have hl : lv_has ls 3 [(0, .ref (α 30))] := hl
  refine lv_iconst (v := nI 0) hx hb dX11_laysRun_0 (by decide) ?_
  refine lv_istore_n (lv' := [(1, .int (nI 0)), (0, .ref (α 30))]) hx hb dX11_laysRun_1 rfl hl (by decide) rfl (fun ls hl => ?_)
  have lp2 : ∀ (t : Nat) (k : Nat) (T : Mem) (H : Heap) (locs : List Loc) (ls : Array Slot), 100 - k < t → k ≤ 100 → T = setR S 41 (fI (S.1 41) k) → Ws D cA α n (Aw α n sz) s.heap T H locs → lv_has ls 3 [(0, .ref (α 30)), (1, .int (nI k))] → W p l e ({ frames := 4, cells := 0, slots := 0, locals := 87 } : Room) s m (List.toArray ([.ref (α 30)] : List Value)) below meth c H locs 0 0 (MQ below (va_Qv (fun u => u = (setR S 41 (rPlan S N N))) (Pw D cA α n) (Aw α n sz)) (List.toArray ([.ref (α 30)] : List Value)) s 0 0 (Aw α n sz)) (F0 m 2 ls []) := by
    intro t
    induction t with
    | zero => intro k T H locs ls ht; exact absurd ht (Nat.not_lt_zero _)
    | succ t ih2 =>
      intro k T H locs ls ht hj hT hw hl
      refine lv_iload_n hx hb dX11_laysRun_2 rfl (lv_at hl 1 rfl) ?_
      refine lv_bipush (v := nI 100) hx hb dX11_laysRun_3 (by decide) ?_
      refine xn_icmp_ge (tgt := 21) hx hb (by omega) (by decide) dX11_laysRun_5 (by decide) (fun c1 => ?_) (fun c1 => ?_)
      · skip
        refine lv_iconst (v := nI 0) hx hb dX11_laysRun_21 (by decide) ?_
        refine lv_istore_n (lv' := [(1, .int (nI 0)), (0, .ref (α 30))]) hx hb dX11_laysRun_22 rfl hl (by decide) rfl (fun ls hl => ?_)
        have lp23 : ∀ (t : Nat) (i : Nat) (T : Mem) (H : Heap) (locs : List Loc) (ls : Array Slot), N - i < t → i ≤ N → T = setR S 41 (rPlan S N i) → Ws D cA α n (Aw α n sz) s.heap T H locs → lv_has ls 3 [(0, .ref (α 30)), (1, .int (nI i))] → W p l e ({ frames := 4, cells := 0, slots := 0, locals := 87 } : Room) s m (List.toArray ([.ref (α 30)] : List Value)) below meth c H locs 0 0 (MQ below (va_Qv (fun u => u = (setR S 41 (rPlan S N N))) (Pw D cA α n) (Aw α n sz)) (List.toArray ([.ref (α 30)] : List Value)) s 0 0 (Aw α n sz)) (F0 m 23 ls []) := by
          intro t
          induction t with
          | zero => intro i T H locs ls ht; exact absurd ht (Nat.not_lt_zero _)
          | succ t ih23 =>
            intro i T H locs ls ht hj hT hw hl
            refine lv_iload_n hx hb dX11_laysRun_23 rfl (lv_at hl 1 rfl) ?_
            refine lv_aload_n hx hb dX11_laysRun_24 rfl (lv_at hl 0 rfl) ?_
            refine x_get (v := .ref (α 34)) (C := RX11) (T := TX11) (N := 24) hx hb hts (fun _ h => List.mem_cons_of_mem _ (List.mem_append_right _ h)) hown hK hw 30 (Nat.lt_of_lt_of_le (Nat.le_of_ble_eq_true rfl : 30 < 191) hn) (mk_30 cA α) rfl 13 (by decide) (hts _ (List.mem_of_getElem? (i := 2) rfl)) (fun _ h9 => h9) rfl dX11_laysRun_25 ?_
            refine lv_iconst (v := nI 0) hx hb dX11_laysRun_28 (by decide) ?_
            refine x_iald hx hb hK hw 34 1508 (Nat.lt_of_lt_of_le (Nat.le_of_ble_eq_true rfl : 34 < 191) hn) (mk_34 cA α) 0 rfl (by decide) (by decide) dX11_laysRun_29 ?_
            refine x_topN (k := N) (by rw [hT]; exact hN) ?_
            refine xn_icmp_ge (tgt := 80) hx hb (by omega) (by omega) dX11_laysRun_30 (by decide) (fun c2 => ?_) (fun c2 => ?_)
            · skip
              exact ret_v hx hb hr hlocks hK hw dX11_laysRun_80 (by rw [hT, show i = N by omega])
            · skip
              refine lv_aload_n hx hb dX11_laysRun_33 rfl (lv_at hl 0 rfl) ?_
              refine lv_iload_n hx hb dX11_laysRun_34 rfl (lv_at hl 1 rfl) ?_
              refine lv_iconst (v := nI 0) hx hb dX11_laysRun_35 (by decide) ?_
              refine lv_iconst (v := nI 0) hx hb dX11_laysRun_36 (by decide) ?_
              refine x_callVIr (q := 30) (C := RX11) (As := [.int (nI i), .int (nI 0), .int (nI 0)]) (rest := []) ⟨hx, hb, hml, hown, hts⟩ (ct_X11_is l D cA α n _ hn T i (nI 0) (nI 0) (by omega)) (cwV 3 hts gX11_laysRun_X11_is rfl rfl rfl (by decide +kernel) ⟨Nat.le_of_ble_eq_true rfl, Nat.le_of_ble_eq_true rfl⟩) hK hw hAw (ws_recv hK hw (q := 30) (Nat.lt_of_lt_of_le (Nat.le_of_ble_eq_true rfl : 30 < 191) hn) (mk_30 cA α) rfl) rfl hl.1 rfl (Nat.le_of_ble_eq_true rfl) dX11_laysRun_37 ⟨Nat.zero_le _, Nat.zero_le _⟩ (fun H locs hw => ?_)
              refine x_topE (y := b2i (rIs S i (nI 0) (nI 0))) (by rw [hT, rIs_41]) ?_
              refine xb_eq (b := (rIs S i (nI 0) (nI 0))) (tgt := 51) hx hb dX11_laysRun_40 (by decide) (fun c3 => ?_) (fun c3 => ?_)
              · skip
                refine lv_iconst (v := (-1)) hx hb dX11_laysRun_51 (by decide) ?_
                refine lv_istore_n (lv' := [(2, .int (-1)), (0, .ref (α 30)), (1, .int (nI i))]) hx hb dX11_laysRun_52 rfl hl (by decide) rfl (fun ls hl => ?_)
                refine lv_iload_n hx hb dX11_laysRun_53 rfl (lv_at hl 0 rfl) ?_
                refine lv_if_ge (tgt := 60) hx hb dX11_laysRun_54 (by decide) (fun c4 => ?_) (fun c4 => ?_)
                · exact absurd c4 (by decide)
                · skip
                  refine lv_goto (tgt := 74) hx hb dX11_laysRun_57 (by decide) ?_
                  refine lv_iinc (v := nI (i + 1)) (lv' := [(1, .int (nI (i + 1))), (2, .int (-1)), (0, .ref (α 30))]) hx hb dX11_laysRun_74 hl (k := 2) rfl (nI_1 _) (by decide) rfl (fun ls hl => ?_)
                  refine lv_goto (tgt := 23) hx hb dX11_laysRun_77 (by decide) ?_
                  exact ih23 (i + 1) T _ _ _ (by omega) (by omega) (by rw [rPlan_no c3]; exact hT) hw (lv_sub hl [2, 0] rfl)
              · skip
                refine lv_aload_n hx hb dX11_laysRun_43 rfl (lv_at hl 0 rfl) ?_
                refine lv_iload_n hx hb dX11_laysRun_44 rfl (lv_at hl 1 rfl) ?_
                refine x_callVIr (q := 30) (C := RX11) (As := [.int (nI i)]) (rest := []) ⟨hx, hb, hml, hown, hts⟩ (ct_X11_payableFor l D cA α n _ hn T N (by rw [hT]; exact hN) hN2 (by rw [hT]; exact ho) i (by omega)) (cwV 1 hts gX11_laysRun_X11_payableFor rfl rfl rfl (by decide +kernel) ⟨Nat.le_of_ble_eq_true rfl, Nat.le_of_ble_eq_true rfl⟩) hK hw hAw (ws_recv hK hw (q := 30) (Nat.lt_of_lt_of_le (Nat.le_of_ble_eq_true rfl : 30 < 191) hn) (mk_30 cA α) rfl) rfl hl.1 rfl (Nat.le_of_ble_eq_true rfl) dX11_laysRun_45 ⟨Nat.zero_le _, Nat.zero_le _⟩ (fun H locs hw => ?_)
                refine x_topE (y := enc (bestOf (rFree (setR S 41 (rPlan S N i)) i) (rDst S i) N)) (by rw [hT, rDst_41]) ?_
                refine lv_goto (tgt := 52) hx hb dX11_laysRun_48 (by decide) ?_
                refine lv_istore_n (lv' := [(2, .int (enc (bestOf (rFree (setR S 41 (rPlan S N i)) i) (rDst S i) N))), (0, .ref (α 30)), (1, .int (nI i))]) hx hb dX11_laysRun_52 rfl hl (by decide) rfl (fun ls hl => ?_)
                refine lv_iload_n hx hb dX11_laysRun_53 rfl (lv_at hl 0 rfl) ?_
                refine lv_if_ge (tgt := 60) hx hb dX11_laysRun_54 (by decide) (fun c5 => ?_) (fun c5 => ?_)
                · skip
                  obtain ⟨b, hb9⟩ := enc_pos (Int32.not_lt.mpr c5)
                  have hb8 := (bestOf_lt N b hb9).1
                  refine lv_aload_n hx hb dX11_laysRun_60 rfl (lv_at hl 1 rfl) ?_
                  refine x_get (v := .ref (α 41)) (C := RX11) (T := TX11) (N := 24) hx hb hts (fun _ h => List.mem_cons_of_mem _ (List.mem_append_right _ h)) hown hK hw 30 (Nat.lt_of_lt_of_le (Nat.le_of_ble_eq_true rfl : 30 < 191) hn) (mk_30 cA α) rfl 21 (by decide) (hts _ (List.mem_of_getElem? (i := 1) rfl)) (fun _ h9 => h9) rfl dX11_laysRun_61 ?_
                  refine lv_iload_n hx hb dX11_laysRun_64 rfl (lv_at hl 2 rfl) ?_
                  refine lv_iload_n hx hb dX11_laysRun_65 rfl (lv_at hl 0 rfl) ?_
                  refine x_topN (k := b) (by rw [hb9]; rfl) ?_
                  refine x_iast (x := nI b) hx hb hK hw 41 100 (Nat.lt_of_lt_of_le (Nat.le_of_ble_eq_true rfl : 41 < 191) hn) (mk_41 cA α) i rfl (by omega) (by decide) dX11_laysRun_66 (fun S1 eS1 H locs hw => ?_)
                  refine lv_aload_n hx hb dX11_laysRun_67 rfl (lv_at hl 1 rfl) ?_
                  refine x_get (v := .ref (α 41)) (C := RX11) (T := TX11) (N := 24) hx hb hts (fun _ h => List.mem_cons_of_mem _ (List.mem_append_right _ h)) hown hK hw 30 (Nat.lt_of_lt_of_le (Nat.le_of_ble_eq_true rfl : 30 < 191) hn) (mk_30 cA α) rfl 21 (by decide) (hts _ (List.mem_of_getElem? (i := 1) rfl)) (fun _ h9 => h9) rfl dX11_laysRun_68 ?_
                  refine lv_iload_n hx hb dX11_laysRun_71 rfl (lv_at hl 0 rfl) ?_
                  refine x_topN (k := b) (by rw [hb9]; rfl) ?_
                  refine lv_iload_n hx hb dX11_laysRun_72 rfl (lv_at hl 2 rfl) ?_
                  refine x_iast (x := nI i) hx hb hK hw 41 100 (Nat.lt_of_lt_of_le (Nat.le_of_ble_eq_true rfl : 41 < 191) hn) (mk_41 cA α) b rfl (by omega) (by decide) dX11_laysRun_73 (fun S2 eS2 H locs hw => ?_)
                  refine lv_iinc (v := nI (i + 1)) (lv' := [(1, .int (nI (i + 1))), (2, .int (enc (bestOf (rFree (setR S 41 (rPlan S N i)) i) (rDst S i) N))), (0, .ref (α 30))]) hx hb dX11_laysRun_74 hl (k := 2) rfl (nI_1 _) (by decide) rfl (fun ls hl => ?_)
                  refine lv_goto (tgt := 23) hx hb dX11_laysRun_77 (by decide) ?_
                  exact ih23 (i + 1) S2 _ _ _ (by omega) (by omega) (by subst eS2; subst eS1; rw [hT, rPlan_some c3 hb9, setI_setR, setI_setR]) hw (lv_sub hl [2, 0] rfl)
                · skip
                  refine lv_goto (tgt := 74) hx hb dX11_laysRun_57 (by decide) ?_
                  refine lv_iinc (v := nI (i + 1)) (lv' := [(1, .int (nI (i + 1))), (2, .int (enc (bestOf (rFree (setR S 41 (rPlan S N i)) i) (rDst S i) N))), (0, .ref (α 30))]) hx hb dX11_laysRun_74 hl (k := 2) rfl (nI_1 _) (by decide) rfl (fun ls hl => ?_)
                  refine lv_goto (tgt := 23) hx hb dX11_laysRun_77 (by decide) ?_
                  exact ih23 (i + 1) T _ _ _ (by omega) (by omega) (by rw [rPlan_none (enc_neg (Int32.not_le.mp c5) (fun b q => by have := (bestOf_lt N b q).1; omega))]; exact hT) hw (lv_sub hl [2, 0] rfl)
        exact lp23 _ 0 T _ _ _ (Nat.lt_succ_self _) (Nat.zero_le _) (by rw [hT, show k = 100 by omega]; rfl) hw (lv_sub hl [1, 0] rfl)
      · skip
        refine lv_aload_n hx hb dX11_laysRun_8 rfl (lv_at hl 0 rfl) ?_
        refine x_get (v := .ref (α 41)) (C := RX11) (T := TX11) (N := 24) hx hb hts (fun _ h => List.mem_cons_of_mem _ (List.mem_append_right _ h)) hown hK hw 30 (Nat.lt_of_lt_of_le (Nat.le_of_ble_eq_true rfl : 30 < 191) hn) (mk_30 cA α) rfl 21 (by decide) (hts _ (List.mem_of_getElem? (i := 1) rfl)) (fun _ h9 => h9) rfl dX11_laysRun_9 ?_
        refine lv_iload_n hx hb dX11_laysRun_12 rfl (lv_at hl 1 rfl) ?_
        refine lv_iconst (v := (-1)) hx hb dX11_laysRun_13 (by decide) ?_
        refine x_iast (x := (-1)) hx hb hK hw 41 100 (Nat.lt_of_lt_of_le (Nat.le_of_ble_eq_true rfl : 41 < 191) hn) (mk_41 cA α) k rfl (by omega) (by decide) dX11_laysRun_14 (fun S3 eS3 H locs hw => ?_)
        refine lv_iinc (v := nI (k + 1)) (lv' := [(1, .int (nI (k + 1))), (0, .ref (α 30))]) hx hb dX11_laysRun_15 hl (k := 1) rfl (nI_1 _) (by decide) rfl (fun ls hl => ?_)
        refine lv_goto (tgt := 2) hx hb dX11_laysRun_18 (by decide) ?_
        exact ih2 (k + 1) S3 _ _ _ (by omega) (by omega) (by subst eS3; rw [hT, setI_setR, fI_s]) hw (lv_sub hl [1, 0] rfl)
  exact lp2 _ 0 S _ _ _ (Nat.lt_succ_self _) (Nat.zero_le _) (by rw [fI_0]; exact (setR_same S 41).symm) hw (lv_sub hl [1, 0] rfl)
