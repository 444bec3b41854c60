set_option maxRecDepth 100000 in
set_option maxHeartbeats 1000000 in
theorem ct_X11_pairs (l : Launch) (D : va_G) (cA : Nat → ClassId) (α : Nat → Nat) (n sz : Nat) (hn : 191 ≤ n) (S : Mem) (x : Int32) (N : Nat) (hN : S.1 34 0 = nI N) (hN2 : N ≤ 100) : CtI l yX11_pairs wsX11_pairs ({ frames := 2, cells := 0, slots := 0, locals := 45 }) D cA α n sz [.ref (α 30), .int x] S (nI (cnt (fun j => rIs S j (nI 0) x) N)) S := by
  refine ct_enter cX11_pairs 4 (some .int) (by decide) rfl (Nat.le_of_ble_eq_true rfl) ?_
  intro p e s m below meth c hx hb hr hml hlocks hown hts hK hsz hw ls hl
  have hown : s.vm.findClass RX11 = some m.cls := hown
  have hAw : ∀ z, Aw α n s.heap.size z → Aw α n sz z := by rw [hsz]; exact fun _ h => h
  have hl : lv_has ls 4 [(0, .ref (α 30)), (1, .int x)] := hl
  refine lv_iconst (v := nI 0) hx hb dX11_pairs_0 (by decide) ?_
  refine lv_istore_n (lv' := [(2, .int (nI 0)), (0, .ref (α 30)), (1, .int x)]) hx hb dX11_pairs_1 rfl hl (by decide) rfl (fun ls hl => ?_)
  refine lv_iconst (v := nI 0) hx hb dX11_pairs_2 (by decide) ?_
  refine lv_istore_n (lv' := [(3, .int (nI 0)), (2, .int (nI 0)), (0, .ref (α 30)), (1, .int x)]) hx hb dX11_pairs_3 rfl hl (by decide) rfl (fun ls hl => ?_)
  have lp4 : ∀ (t : Nat) (j : Nat) (k : Nat) (H : Heap) (locs : List Loc) (ls : Array Slot), N - j < t → j ≤ N → k = cnt (fun j => rIs S j (nI 0) x) j → Ws D cA α n (Aw α n sz) s.heap S H locs → lv_has ls 4 [(0, .ref (α 30)), (1, .int x), (3, .int (nI j)), (2, .int (nI k))] → W p l e ({ frames := 2, cells := 0, slots := 0, locals := 45 } : Room) s m (List.toArray ([.ref (α 30), .int x] : List Value)) below meth c H locs 0 0 (MQ below (va_Qi (fun r u => r = (nI (cnt (fun j => rIs S j (nI 0) x) N)) ∧ u = S) (Pw D cA α n) (Aw α n sz)) (List.toArray ([.ref (α 30), .int x] : List Value)) s 0 0 (Aw α n sz)) (F0 m 4 ls []) := by
    intro t
    induction t with
    | zero => intro j k H locs ls ht; exact absurd ht (Nat.not_lt_zero _)
    | succ t ih4 =>
      intro j k H locs ls ht hj hk hw hl
      refine lv_iload_n hx hb dX11_pairs_4 rfl (lv_at hl 2 rfl) ?_
      refine lv_aload_n hx hb dX11_pairs_5 rfl (lv_at hl 0 rfl) ?_
      refine x_get (v := .ref (α 34)) (C := RX11) (T := TX11) (N := 24) hx hb hts (fun _ h => List.mem_cons_of_mem _ (List.mem_append_right _ h)) hown hK hw 30 (Nat.lt_of_lt_of_le (Nat.le_of_ble_eq_true rfl : 30 < 191) hn) (mk_30 cA α) rfl 13 (by decide) (hts _ (List.mem_of_getElem? (i := 1) rfl)) (fun _ h9 => h9) rfl dX11_pairs_6 ?_
      refine lv_iconst (v := nI 0) hx hb dX11_pairs_9 (by decide) ?_
      refine x_iald hx hb hK hw 34 1508 (Nat.lt_of_lt_of_le (Nat.le_of_ble_eq_true rfl : 34 < 191) hn) (mk_34 cA α) 0 rfl (by decide) (by decide) dX11_pairs_10 ?_
      refine x_topN (k := N) hN ?_
      refine xn_icmp_ge (tgt := 33) hx hb (by omega) (by omega) dX11_pairs_11 (by decide) (fun c1 => ?_) (fun c1 => ?_)
      · skip
        refine lv_iload_n hx hb dX11_pairs_33 rfl (lv_at hl 3 rfl) ?_
        exact ret_i hx hb hr hlocks hK hw dX11_pairs_34 (by rw [hk, show j = N by omega]) rfl
      · skip
        refine lv_aload_n hx hb dX11_pairs_14 rfl (lv_at hl 0 rfl) ?_
        refine lv_iload_n hx hb dX11_pairs_15 rfl (lv_at hl 2 rfl) ?_
        refine lv_iconst (v := nI 0) hx hb dX11_pairs_16 (by decide) ?_
        refine lv_iload_n hx hb dX11_pairs_17 rfl (lv_at hl 1 rfl) ?_
        refine x_callVIr (q := 30) (C := RX11) (As := [.int (nI j), .int (nI 0), .int x]) (rest := []) ⟨hx, hb, hml, hown, hts⟩ (ct_X11_is l D cA α n _ hn S j (nI 0) x (by omega)) (cwV 3 hts gX11_pairs_X11_is rfl rfl rfl (by decide +kernel) ⟨Nat.le_of_ble_eq_true rfl, Nat.le_of_ble_eq_true rfl⟩) hK hw hAw (ws_recv hK hw (q := 30) (Nat.lt_of_lt_of_le (Nat.le_of_ble_eq_true rfl : 30 < 191) hn) (mk_30 cA α) rfl) rfl hl.1 rfl (Nat.le_of_ble_eq_true rfl) dX11_pairs_18 ⟨Nat.zero_le _, Nat.zero_le _⟩ (fun H locs hw => ?_)
        refine xb_eq (b := (rIs S j (nI 0) x)) (tgt := 27) hx hb dX11_pairs_21 (by decide) (fun c2 => ?_) (fun c2 => ?_)
        · skip
          refine lv_iinc (v := nI (j + 1)) (lv' := [(3, .int (nI (j + 1))), (0, .ref (α 30)), (1, .int x), (2, .int (nI k))]) hx hb dX11_pairs_27 hl (k := 2) rfl (nI_1 _) (by decide) rfl (fun ls hl => ?_)
          refine lv_goto (tgt := 4) hx hb dX11_pairs_30 (by decide) ?_
          exact ih4 (j + 1) k _ _ _ (by omega) (by omega) (by rw [cnt, ← hk]; simp only [if_pos c1, if_neg (not_not_intro c1), decide_eq_true c1, c2, if_true, if_false, eq_self, Bool.false_eq_true, not_true_eq_false, not_false_eq_true, decide_true, decide_false, Bool.and_true, Bool.true_and, Bool.and_false, Bool.false_and, Bool.not_true, Bool.not_false, Bool.or_true, Bool.true_or, Bool.or_false, Bool.false_or, reduceIte, b2i_t, b2i_f]; try rfl) hw (lv_sub hl [1, 2, 0, 3] rfl)
        · skip
          refine lv_iinc (v := nI (k + 1)) (lv' := [(2, .int (nI (k + 1))), (0, .ref (α 30)), (1, .int x), (3, .int (nI j))]) hx hb dX11_pairs_24 hl (k := 3) rfl (nI_1 _) (by decide) rfl (fun ls hl => ?_)
          refine lv_iinc (v := nI (j + 1)) (lv' := [(3, .int (nI (j + 1))), (2, .int (nI (k + 1))), (0, .ref (α 30)), (1, .int x)]) hx hb dX11_pairs_27 hl (k := 3) rfl (nI_1 _) (by decide) rfl (fun ls hl => ?_)
          refine lv_goto (tgt := 4) hx hb dX11_pairs_30 (by decide) ?_
          exact ih4 (j + 1) (k + 1) _ _ _ (by omega) (by omega) (by rw [cnt, ← hk]; simp only [if_pos c1, if_neg (not_not_intro c1), decide_eq_true c1, c2, if_true, if_false, eq_self, Bool.false_eq_true, not_true_eq_false, not_false_eq_true, decide_true, decide_false, Bool.and_true, Bool.true_and, Bool.and_false, Bool.false_and, Bool.not_true, Bool.not_false, Bool.or_true, Bool.true_or, Bool.or_false, Bool.false_or, reduceIte, b2i_t, b2i_f]; try rfl) hw (lv_sub hl [2, 3, 0, 1] rfl)
  exact lp4 _ 0 0 _ _ _ (Nat.lt_succ_self _) (Nat.zero_le _) rfl hw (lv_sub hl [2, 3, 0, 1] rfl)

def gNet (S : Mem) (x : Int32) (j : Nat) : Int64 := if 0 ≤ x then (if S.1 34 (8 + 6 * j + 4) = x then (if ¬ S.1 34 (8 + 6 * j + 2) = 0 then -(rVal S j) else rVal S j) else 0) else (if rCnt S j then (if ¬ S.1 34 (8 + 6 * j + 2) = 0 then -(rVal S j) else rVal S j) else 0)
def gPos (S : Mem) (x : Int32) (j : Nat) : Int64 := if rIs S j (nI 0) (nI 1) then (if S.1 34 (8 + 6 * j + 0) = x then rVal S j else 0) + (if S.1 34 (8 + 6 * j + 1) = x then -(rVal S j) else 0) else 0
def gBet (S : Mem) (x y : Int32) (j : Nat) : Int64 := if rIs S j (nI 0) (nI 1) then (if S.1 34 (8 + 6 * j + 0) = x then (if S.1 34 (8 + 6 * j + 1) = y then rVal S j else 0) else 0) + (if S.1 34 (8 + 6 * j + 0) = y then (if S.1 34 (8 + 6 * j + 1) = x then -(rVal S j) else 0) else 0) else 0

set_option maxRecDepth 100000 in
set_option maxHeartbeats 1000000 in
theorem ct_X11_sumOf (l : Launch) (D : va_G) (cA : Nat → ClassId) (α : Nat → Nat) (n sz : Nat) (hn : 191 ≤ n) (S : Mem) (x : Int32) (N : Nat) (hN : S.1 34 0 = nI N) (hN2 : N ≤ 100) (ho : ∀ j, j < N → okR S j) : CtL l yX11_sumOf wsX11_sumOf ({ frames := 3, cells := 0, slots := 0, locals := 64 }) D cA α n sz [.ref (α 30), .int x] S (sumL (gNet S x) N) S := by
  refine ct_enter cX11_sumOf 5 (some .long) (by decide) rfl (Nat.le_of_ble_eq_true rfl) ?_
  intro p e s m below meth c hx hb hr hml hlocks hown hts hK hsz hw ls hl
  have hown : s.vm.findClass RX11 = some m.cls := hown
  have hAw : ∀ z, Aw α n s.heap.size z → Aw α n sz z := by rw [hsz]; exact fun _ h => h
  have hl : lv_has ls 5 [(0, .ref (α 30)), (1, .int x)] := hl
  refine lv_lconst (v := 0) hx hb dX11_sumOf_0 (by decide) ?_
  refine lv_lstore_n (lv' := [(2, .long 0), (0, .ref (α 30)), (1, .int x)]) hx hb dX11_sumOf_1 rfl hl (by decide) rfl (fun ls hl => ?_)
  refine lv_iconst (v := nI 0) hx hb dX11_sumOf_2 (by decide) ?_
  refine lv_istore (lv' := [(4, .int (nI 0)), (2, .long 0), (0, .ref (α 30)), (1, .int x)]) hx hb dX11_sumOf_3 hl (by decide) rfl (fun ls hl => ?_)
  have lp5 : ∀ (t : Nat) (j : Nat) (acc : Int64) (H : Heap) (locs : List Loc) (ls : Array Slot), N - j < t → j ≤ N → acc = sumL (gNet S x) j → Ws D cA α n (Aw α n sz) s.heap S H locs → lv_has ls 5 [(0, .ref (α 30)), (1, .int x), (4, .int (nI j)), (2, .long acc)] → W p l e ({ frames := 3, cells := 0, slots := 0, locals := 64 } : Room) s m (List.toArray ([.ref (α 30), .int x] : List Value)) below meth c H locs 0 0 (MQ below (va_Ql (fun r u => r = (sumL (gNet S x) N) ∧ u = S) (Pw D cA α n) (Aw α n sz)) (List.toArray ([.ref (α 30), .int x] : List Value)) s 0 0 (Aw α n sz)) (F0 m 5 ls []) := by
    intro t
    induction t with
    | zero => intro j acc H locs ls ht; exact absurd ht (Nat.not_lt_zero _)
    | succ t ih5 =>
      intro j acc H locs ls ht hj hk hw hl
      refine lv_iload hx hb dX11_sumOf_5 (lv_at hl 2 rfl) ?_
      refine lv_aload_n hx hb dX11_sumOf_7 rfl (lv_at hl 0 rfl) ?_
      refine x_get (v := .ref (α 34)) (C := RX11) (T := TX11) (N := 24) hx hb hts (fun _ h => List.mem_cons_of_mem _ (List.mem_append_right _ h)) hown hK hw 30 (Nat.lt_of_lt_of_le (Nat.le_of_ble_eq_true rfl : 30 < 191) hn) (mk_30 cA α) rfl 13 (by decide) (hts _ (List.mem_of_getElem? (i := 1) rfl)) (fun _ h9 => h9) rfl dX11_sumOf_8 ?_
      refine lv_iconst (v := nI 0) hx hb dX11_sumOf_11 (by decide) ?_
      refine x_iald hx hb hK hw 34 1508 (Nat.lt_of_lt_of_le (Nat.le_of_ble_eq_true rfl : 34 < 191) hn) (mk_34 cA α) 0 rfl (by decide) (by decide) dX11_sumOf_12 ?_
      refine x_topN (k := N) hN ?_
      refine xn_icmp_ge (tgt := 81) hx hb (by omega) (by omega) dX11_sumOf_13 (by decide) (fun c1 => ?_) (fun c1 => ?_)
      · skip
        refine lv_lload_n hx hb dX11_sumOf_81 rfl (lv_at hl 3 rfl) ?_
        exact ret_l hx hb hr hlocks hK hw dX11_sumOf_82 (by rw [hk, show j = N by omega]) rfl
      · skip
        refine lv_iload_n hx hb dX11_sumOf_16 rfl (lv_at hl 1 rfl) ?_
        refine lv_if_ge (tgt := 32) hx hb dX11_sumOf_17 (by decide) (fun c2 => ?_) (fun c2 => ?_)
        · skip
          refine lv_aload_n hx hb dX11_sumOf_32 rfl (lv_at hl 0 rfl) ?_
          refine lv_iload hx hb dX11_sumOf_33 (lv_at hl 2 rfl) ?_
          refine lv_iconst (v := nI 4) hx hb dX11_sumOf_35 (by decide) ?_
          refine x_callVIr (q := 30) (C := RX11) (As := [.int (nI j), .int (nI 4)]) (rest := []) ⟨hx, hb, hml, hown, hts⟩ (ct_X11_of l D cA α n _ hn S j 4 (by omega)) (cwV 2 hts gX11_sumOf_X11_of rfl rfl rfl (by decide +kernel) ⟨Nat.le_of_ble_eq_true rfl, Nat.le_of_ble_eq_true rfl⟩) hK hw hAw (ws_recv hK hw (q := 30) (Nat.lt_of_lt_of_le (Nat.le_of_ble_eq_true rfl : 30 < 191) hn) (mk_30 cA α) rfl) rfl hl.1 rfl (Nat.le_of_ble_eq_true rfl) dX11_sumOf_36 ⟨Nat.zero_le _, Nat.zero_le _⟩ (fun H locs hw => ?_)
          refine lv_iload_n hx hb dX11_sumOf_39 rfl (lv_at hl 1 rfl) ?_
          refine lv_icmp_eq (tgt := 46) hx hb dX11_sumOf_40 (by decide) (fun c3 => ?_) (fun c3 => ?_)
          · skip
            refine lv_lload_n hx hb dX11_sumOf_46 rfl (lv_at hl 3 rfl) ?_
            refine lv_aload_n hx hb dX11_sumOf_47 rfl (lv_at hl 0 rfl) ?_
            refine lv_iload hx hb dX11_sumOf_48 (lv_at hl 2 rfl) ?_
            refine lv_iconst (v := nI 2) hx hb dX11_sumOf_50 (by decide) ?_
            refine x_callVIr (q := 30) (C := RX11) (As := [.int (nI j), .int (nI 2)]) (rest := [.long acc]) ⟨hx, hb, hml, hown, hts⟩ (ct_X11_of l D cA α n _ hn S j 2 (by omega)) (cwV 2 hts gX11_sumOf_X11_of rfl rfl rfl (by decide +kernel) ⟨Nat.le_of_ble_eq_true rfl, Nat.le_of_ble_eq_true rfl⟩) hK hw hAw (ws_recv hK hw (q := 30) (Nat.lt_of_lt_of_le (Nat.le_of_ble_eq_true rfl : 30 < 191) hn) (mk_30 cA α) rfl) rfl hl.1 rfl (Nat.le_of_ble_eq_true rfl) dX11_sumOf_51 ⟨Nat.zero_le _, Nat.zero_le _⟩ (fun H locs hw => ?_)
            refine lv_if_ne (tgt := 66) hx hb dX11_sumOf_54 (by decide) (fun c4 => ?_) (fun c4 => ?_)
            · skip
              refine lv_aload_n hx hb dX11_sumOf_66 rfl (lv_at hl 0 rfl) ?_
              refine lv_iload hx hb dX11_sumOf_67 (lv_at hl 2 rfl) ?_
              refine x_callVLr (q := 30) (C := RX11) (As := [.int (nI j)]) (rest := [.long acc]) ⟨hx, hb, hml, hown, hts⟩ (ct_X11_valueOf l D cA α n _ hn S j (ho j (by omega))) (cwV 1 hts gX11_sumOf_X11_valueOf rfl rfl rfl (by decide +kernel) ⟨Nat.le_of_ble_eq_true rfl, Nat.le_of_ble_eq_true rfl⟩) hK hw hAw (ws_recv hK hw (q := 30) (Nat.lt_of_lt_of_le (Nat.le_of_ble_eq_true rfl : 30 < 191) hn) (mk_30 cA α) rfl) rfl hl.1 rfl (Nat.le_of_ble_eq_true rfl) dX11_sumOf_69 ⟨Nat.zero_le _, Nat.zero_le _⟩ (fun H locs hw => ?_)
              refine lv_lneg hx hb dX11_sumOf_72 ?_
              refine lv_ladd hx hb dX11_sumOf_73 ?_
              refine lv_lstore_n (lv' := [(2, .long (acc + (-(rVal S j)))), (0, .ref (α 30)), (1, .int x), (4, .int (nI j))]) hx hb dX11_sumOf_74 rfl hl (by decide) rfl (fun ls hl => ?_)
              refine lv_iinc (v := nI (j + 1)) (lv' := [(4, .int (nI (j + 1))), (2, .long (acc + (-(rVal S j)))), (0, .ref (α 30)), (1, .int x)]) hx hb dX11_sumOf_75 hl (k := 3) rfl (nI_1 _) (by decide) rfl (fun ls hl => ?_)
              refine lv_goto (tgt := 5) hx hb dX11_sumOf_78 (by decide) ?_
              exact ih5 (j + 1) (acc + (-(rVal S j))) _ _ _ (by omega) (by omega) (by rw [sumL, ← hk]; first | (simp only [gNet, if_pos c1, if_neg (not_not_intro c1), decide_eq_true c1, if_pos c2, if_neg (not_not_intro c2), decide_eq_true c2, if_pos c3, if_neg (not_not_intro c3), decide_eq_true c3, if_neg c4, if_pos c4, decide_eq_false c4, if_true, if_false, eq_self, Bool.false_eq_true, not_true_eq_false, not_false_eq_true, decide_true, decide_false, Bool.and_true, Bool.true_and, Bool.and_false, Bool.false_and, Bool.not_true, Bool.not_false, Bool.or_true, Bool.true_or, Bool.or_false, Bool.false_or, reduceIte, b2i_t, b2i_f, Int64.add_zero, Int64.zero_add, Int64.sub_eq_add_neg, Int64.add_assoc]; done) | (simp [gNet, if_pos c1, if_neg (not_not_intro c1), decide_eq_true c1, if_pos c2, if_neg (not_not_intro c2), decide_eq_true c2, if_pos c3, if_neg (not_not_intro c3), decide_eq_true c3, if_neg c4, if_pos c4, decide_eq_false c4, Int64.sub_eq_add_neg, Int64.add_assoc]; done)) hw (lv_sub hl [2, 3, 0, 1] rfl)
            · skip
              refine lv_aload_n hx hb dX11_sumOf_57 rfl (lv_at hl 0 rfl) ?_
              refine lv_iload hx hb dX11_sumOf_58 (lv_at hl 2 rfl) ?_
              refine x_callVLr (q := 30) (C := RX11) (As := [.int (nI j)]) (rest := [.long acc]) ⟨hx, hb, hml, hown, hts⟩ (ct_X11_valueOf l D cA α n _ hn S j (ho j (by omega))) (cwV 1 hts gX11_sumOf_X11_valueOf rfl rfl rfl (by decide +kernel) ⟨Nat.le_of_ble_eq_true rfl, Nat.le_of_ble_eq_true rfl⟩) hK hw hAw (ws_recv hK hw (q := 30) (Nat.lt_of_lt_of_le (Nat.le_of_ble_eq_true rfl : 30 < 191) hn) (mk_30 cA α) rfl) rfl hl.1 rfl (Nat.le_of_ble_eq_true rfl) dX11_sumOf_60 ⟨Nat.zero_le _, Nat.zero_le _⟩ (fun H locs hw => ?_)
              refine lv_goto (tgt := 73) hx hb dX11_sumOf_63 (by decide) ?_
              refine lv_ladd hx hb dX11_sumOf_73 ?_
              refine lv_lstore_n (lv' := [(2, .long (acc + (rVal S j))), (0, .ref (α 30)), (1, .int x), (4, .int (nI j))]) hx hb dX11_sumOf_74 rfl hl (by decide) rfl (fun ls hl => ?_)
              refine lv_iinc (v := nI (j + 1)) (lv' := [(4, .int (nI (j + 1))), (2, .long (acc + (rVal S j))), (0, .ref (α 30)), (1, .int x)]) hx hb dX11_sumOf_75 hl (k := 3) rfl (nI_1 _) (by decide) rfl (fun ls hl => ?_)
              refine lv_goto (tgt := 5) hx hb dX11_sumOf_78 (by decide) ?_
              exact ih5 (j + 1) (acc + (rVal S j)) _ _ _ (by omega) (by omega) (by rw [sumL, ← hk]; first | (simp only [gNet, if_pos c1, if_neg (not_not_intro c1), decide_eq_true c1, if_pos c2, if_neg (not_not_intro c2), decide_eq_true c2, if_pos c3, if_neg (not_not_intro c3), decide_eq_true c3, if_pos c4, if_neg (not_not_intro c4), decide_eq_true c4, if_true, if_false, eq_self, Bool.false_eq_true, not_true_eq_false, not_false_eq_true, decide_true, decide_false, Bool.and_true, Bool.true_and, Bool.and_false, Bool.false_and, Bool.not_true, Bool.not_false, Bool.or_true, Bool.true_or, Bool.or_false, Bool.false_or, reduceIte, b2i_t, b2i_f, Int64.add_zero, Int64.zero_add, Int64.sub_eq_add_neg, Int64.add_assoc]; done) | (simp [gNet, if_pos c1, if_neg (not_not_intro c1), decide_eq_true c1, if_pos c2, if_neg (not_not_intro c2), decide_eq_true c2, if_pos c3, if_neg (not_not_intro c3), decide_eq_true c3, if_pos c4, if_neg (not_not_intro c4), decide_eq_true c4, Int64.sub_eq_add_neg, Int64.add_assoc]; done)) hw (lv_sub hl [2, 3, 0, 1] rfl)
          · skip
            refine lv_goto (tgt := 75) hx hb dX11_sumOf_43 (by decide) ?_
            refine lv_iinc (v := nI (j + 1)) (lv' := [(4, .int (nI (j + 1))), (0, .ref (α 30)), (1, .int x), (2, .long acc)]) hx hb dX11_sumOf_75 hl (k := 2) rfl (nI_1 _) (by decide) rfl (fun ls hl => ?_)
            refine lv_goto (tgt := 5) hx hb dX11_sumOf_78 (by decide) ?_
            exact ih5 (j + 1) acc _ _ _ (by omega) (by omega) (by rw [sumL, ← hk]; first | (simp only [gNet, if_pos c1, if_neg (not_not_intro c1), decide_eq_true c1, if_pos c2, if_neg (not_not_intro c2), decide_eq_true c2, if_neg c3, if_pos c3, decide_eq_false c3, if_true, if_false, eq_self, Bool.false_eq_true, not_true_eq_false, not_false_eq_true, decide_true, decide_false, Bool.and_true, Bool.true_and, Bool.and_false, Bool.false_and, Bool.not_true, Bool.not_false, Bool.or_true, Bool.true_or, Bool.or_false, Bool.false_or, reduceIte, b2i_t, b2i_f, Int64.add_zero, Int64.zero_add, Int64.sub_eq_add_neg, Int64.add_assoc]; done) | (simp [gNet, if_pos c1, if_neg (not_not_intro c1), decide_eq_true c1, if_pos c2, if_neg (not_not_intro c2), decide_eq_true c2, if_neg c3, if_pos c3, decide_eq_false c3, Int64.sub_eq_add_neg, Int64.add_assoc]; done)) hw (lv_sub hl [1, 2, 0, 3] rfl)
        · skip
          refine lv_aload_n hx hb dX11_sumOf_20 rfl (lv_at hl 0 rfl) ?_
          refine lv_iload hx hb dX11_sumOf_21 (lv_at hl 2 rfl) ?_
          refine x_callVIr (q := 30) (C := RX11) (As := [.int (nI j)]) (rest := []) ⟨hx, hb, hml, hown, hts⟩ (ct_X11_counts l D cA α n _ hn S j (by omega)) (cwV 1 hts gX11_sumOf_X11_counts rfl rfl rfl (by decide +kernel) ⟨Nat.le_of_ble_eq_true rfl, Nat.le_of_ble_eq_true rfl⟩) hK hw hAw (ws_recv hK hw (q := 30) (Nat.lt_of_lt_of_le (Nat.le_of_ble_eq_true rfl : 30 < 191) hn) (mk_30 cA α) rfl) rfl hl.1 rfl (Nat.le_of_ble_eq_true rfl) dX11_sumOf_23 ⟨Nat.zero_le _, Nat.zero_le _⟩ (fun H locs hw => ?_)
          refine xb_ne (b := (rCnt S j)) (tgt := 46) hx hb dX11_sumOf_26 (by decide) (fun c5 => ?_) (fun c5 => ?_)
          · skip
            refine lv_lload_n hx hb dX11_sumOf_46 rfl (lv_at hl 3 rfl) ?_
            refine lv_aload_n hx hb dX11_sumOf_47 rfl (lv_at hl 0 rfl) ?_
            refine lv_iload hx hb dX11_sumOf_48 (lv_at hl 2 rfl) ?_
            refine lv_iconst (v := nI 2) hx hb dX11_sumOf_50 (by decide) ?_
            refine x_callVIr (q := 30) (C := RX11) (As := [.int (nI j), .int (nI 2)]) (rest := [.long acc]) ⟨hx, hb, hml, hown, hts⟩ (ct_X11_of l D cA α n _ hn S j 2 (by omega)) (cwV 2 hts gX11_sumOf_X11_of rfl rfl rfl (by decide +kernel) ⟨Nat.le_of_ble_eq_true rfl, Nat.le_of_ble_eq_true rfl⟩) hK hw hAw (ws_recv hK hw (q := 30) (Nat.lt_of_lt_of_le (Nat.le_of_ble_eq_true rfl : 30 < 191) hn) (mk_30 cA α) rfl) rfl hl.1 rfl (Nat.le_of_ble_eq_true rfl) dX11_sumOf_51 ⟨Nat.zero_le _, Nat.zero_le _⟩ (fun H locs hw => ?_)
            refine lv_if_ne (tgt := 66) hx hb dX11_sumOf_54 (by decide) (fun c6 => ?_) (fun c6 => ?_)
            · skip
              refine lv_aload_n hx hb dX11_sumOf_66 rfl (lv_at hl 0 rfl) ?_
              refine lv_iload hx hb dX11_sumOf_67 (lv_at hl 2 rfl) ?_
              refine x_callVLr (q := 30) (C := RX11) (As := [.int (nI j)]) (rest := [.long acc]) ⟨hx, hb, hml, hown, hts⟩ (ct_X11_valueOf l D cA α n _ hn S j (ho j (by omega))) (cwV 1 hts gX11_sumOf_X11_valueOf rfl rfl rfl (by decide +kernel) ⟨Nat.le_of_ble_eq_true rfl, Nat.le_of_ble_eq_true rfl⟩) hK hw hAw (ws_recv hK hw (q := 30) (Nat.lt_of_lt_of_le (Nat.le_of_ble_eq_true rfl : 30 < 191) hn) (mk_30 cA α) rfl) rfl hl.1 rfl (Nat.le_of_ble_eq_true rfl) dX11_sumOf_69 ⟨Nat.zero_le _, Nat.zero_le _⟩ (fun H locs hw => ?_)
              refine lv_lneg hx hb dX11_sumOf_72 ?_
              refine lv_ladd hx hb dX11_sumOf_73 ?_
              refine lv_lstore_n (lv' := [(2, .long (acc + (-(rVal S j)))), (0, .ref (α 30)), (1, .int x), (4, .int (nI j))]) hx hb dX11_sumOf_74 rfl hl (by decide) rfl (fun ls hl => ?_)
              refine lv_iinc (v := nI (j + 1)) (lv' := [(4, .int (nI (j + 1))), (2, .long (acc + (-(rVal S j)))), (0, .ref (α 30)), (1, .int x)]) hx hb dX11_sumOf_75 hl (k := 3) rfl (nI_1 _) (by decide) rfl (fun ls hl => ?_)
              refine lv_goto (tgt := 5) hx hb dX11_sumOf_78 (by decide) ?_
              exact ih5 (j + 1) (acc + (-(rVal S j))) _ _ _ (by omega) (by omega) (by rw [sumL, ← hk]; first | (simp only [gNet, if_pos c1, if_neg (not_not_intro c1), decide_eq_true c1, if_neg c2, if_pos c2, decide_eq_false c2, c5, if_neg c6, if_pos c6, decide_eq_false c6, if_true, if_false, eq_self, Bool.false_eq_true, not_true_eq_false, not_false_eq_true, decide_true, decide_false, Bool.and_true, Bool.true_and, Bool.and_false, Bool.false_and, Bool.not_true, Bool.not_false, Bool.or_true, Bool.true_or, Bool.or_false, Bool.false_or, reduceIte, b2i_t, b2i_f, Int64.add_zero, Int64.zero_add, Int64.sub_eq_add_neg, Int64.add_assoc]; done) | (simp [gNet, if_pos c1, if_neg (not_not_intro c1), decide_eq_true c1, if_neg c2, if_pos c2, decide_eq_false c2, c5, if_neg c6, if_pos c6, decide_eq_false c6, Int64.sub_eq_add_neg, Int64.add_assoc]; done)) hw (lv_sub hl [2, 3, 0, 1] rfl)
            · skip
              refine lv_aload_n hx hb dX11_sumOf_57 rfl (lv_at hl 0 rfl) ?_
              refine lv_iload hx hb dX11_sumOf_58 (lv_at hl 2 rfl) ?_
              refine x_callVLr (q := 30) (C := RX11) (As := [.int (nI j)]) (rest := [.long acc]) ⟨hx, hb, hml, hown, hts⟩ (ct_X11_valueOf l D cA α n _ hn S j (ho j (by omega))) (cwV 1 hts gX11_sumOf_X11_valueOf rfl rfl rfl (by decide +kernel) ⟨Nat.le_of_ble_eq_true rfl, Nat.le_of_ble_eq_true rfl⟩) hK hw hAw (ws_recv hK hw (q := 30) (Nat.lt_of_lt_of_le (Nat.le_of_ble_eq_true rfl : 30 < 191) hn) (mk_30 cA α) rfl) rfl hl.1 rfl (Nat.le_of_ble_eq_true rfl) dX11_sumOf_60 ⟨Nat.zero_le _, Nat.zero_le _⟩ (fun H locs hw => ?_)
              refine lv_goto (tgt := 73) hx hb dX11_sumOf_63 (by decide) ?_
              refine lv_ladd hx hb dX11_sumOf_73 ?_
              refine lv_lstore_n (lv' := [(2, .long (acc + (rVal S j))), (0, .ref (α 30)), (1, .int x), (4, .int (nI j))]) hx hb dX11_sumOf_74 rfl hl (by decide) rfl (fun ls hl => ?_)
              refine lv_iinc (v := nI (j + 1)) (lv' := [(4, .int (nI (j + 1))), (2, .long (acc + (rVal S j))), (0, .ref (α 30)), (1, .int x)]) hx hb dX11_sumOf_75 hl (k := 3) rfl (nI_1 _) (by decide) rfl (fun ls hl => ?_)
              refine lv_goto (tgt := 5) hx hb dX11_sumOf_78 (by decide) ?_
              exact ih5 (j + 1) (acc + (rVal S j)) _ _ _ (by omega) (by omega) (by rw [sumL, ← hk]; first | (simp only [gNet, if_pos c1, if_neg (not_not_intro c1), decide_eq_true c1, if_neg c2, if_pos c2, decide_eq_false c2, c5, if_pos c6, if_neg (not_not_intro c6), decide_eq_true c6, if_true, if_false, eq_self, Bool.false_eq_true, not_true_eq_false, not_false_eq_true, decide_true, decide_false, Bool.and_true, Bool.true_and, Bool.and_false, Bool.false_and, Bool.not_true, Bool.not_false, Bool.or_true, Bool.true_or, Bool.or_false, Bool.false_or, reduceIte, b2i_t, b2i_f, Int64.add_zero, Int64.zero_add, Int64.sub_eq_add_neg, Int64.add_assoc]; done) | (simp [gNet, if_pos c1, if_neg (not_not_intro c1), decide_eq_true c1, if_neg c2, if_pos c2, decide_eq_false c2, c5, if_pos c6, if_neg (not_not_intro c6), decide_eq_true c6, Int64.sub_eq_add_neg, Int64.add_assoc]; done)) hw (lv_sub hl [2, 3, 0, 1] rfl)
          · skip
            refine lv_goto (tgt := 75) hx hb dX11_sumOf_29 (by decide) ?_
            refine lv_iinc (v := nI (j + 1)) (lv' := [(4, .int (nI (j + 1))), (0, .ref (α 30)), (1, .int x), (2, .long acc)]) hx hb dX11_sumOf_75 hl (k := 2) rfl (nI_1 _) (by decide) rfl (fun ls hl => ?_)
            refine lv_goto (tgt := 5) hx hb dX11_sumOf_78 (by decide) ?_
            exact ih5 (j + 1) acc _ _ _ (by omega) (by omega) (by rw [sumL, ← hk]; first | (simp only [gNet, if_pos c1, if_neg (not_not_intro c1), decide_eq_true c1, if_neg c2, if_pos c2, decide_eq_false c2, c5, if_true, if_false, eq_self, Bool.false_eq_true, not_true_eq_false, not_false_eq_true, decide_true, decide_false, Bool.and_true, Bool.true_and, Bool.and_false, Bool.false_and, Bool.not_true, Bool.not_false, Bool.or_true, Bool.true_or, Bool.or_false, Bool.false_or, reduceIte, b2i_t, b2i_f, Int64.add_zero, Int64.zero_add, Int64.sub_eq_add_neg, Int64.add_assoc]; done) | (simp [gNet, if_pos c1, if_neg (not_not_intro c1), decide_eq_true c1, if_neg c2, if_pos c2, decide_eq_false c2, c5, Int64.sub_eq_add_neg, Int64.add_assoc]; done)) hw (lv_sub hl [1, 2, 0, 3] rfl)
  exact lp5 _ 0 0 _ _ _ (Nat.lt_succ_self _) (Nat.zero_le _) rfl hw (lv_sub hl [2, 3, 0, 1] rfl)

set_option maxRecDepth 100000 in
set_option maxHeartbeats 1000000 in
theorem ct_X11_positionOf (l : Launch) (D : va_G) (cA : Nat → ClassId) (α : Nat → Nat) (n sz : Nat) (hn : 191 ≤ n) (S : Mem) (x : Int32) (N : Nat) (hN : S.1 34 0 = nI N) (hN2 : N ≤ 100) (ho : ∀ j, j < N → okR S j) : CtL l yX11_positionOf wsX11_positionOf ({ frames := 3, cells := 0, slots := 0, locals := 64 }) D cA α n sz [.ref (α 30), .int x] S (sumL (gPos S x) N) S := by
  refine ct_enter cX11_positionOf 5 (some .long) (by decide) rfl (Nat.le_of_ble_eq_true rfl) ?_
  intro p e s m below meth c hx hb hr hml hlocks hown hts hK hsz hw ls hl
  have hown : s.vm.findClass RX11 = some m.cls := hown
  have hAw : ∀ z, Aw α n s.heap.size z → Aw α n sz z := by rw [hsz]; exact fun _ h => h
  have hl : lv_has ls 5 [(0, .ref (α 30)), (1, .int x)] := hl
  refine lv_lconst (v := 0) hx hb dX11_positionOf_0 (by decide) ?_
  refine lv_lstore_n (lv' := [(2, .long 0), (0, .ref (α 30)), (1, .int x)]) hx hb dX11_positionOf_1 rfl hl (by decide) rfl (fun ls hl => ?_)
  refine lv_iconst (v := nI 0) hx hb dX11_positionOf_2 (by decide) ?_
  refine lv_istore (lv' := [(4, .int (nI 0)), (2, .long 0), (0, .ref (α 30)), (1, .int x)]) hx hb dX11_positionOf_3 hl (by decide) rfl (fun ls hl => ?_)
  have lp5 : ∀ (t : Nat) (j : Nat) (acc : Int64) (H : Heap) (locs : List Loc) (ls : Array Slot), N - j < t → j ≤ N → acc = sumL (gPos S x) j → Ws D cA α n (Aw α n sz) s.heap S H locs → lv_has ls 5 [(0, .ref (α 30)), (1, .int x), (4, .int (nI j)), (2, .long acc)] → W p l e ({ frames := 3, cells := 0, slots := 0, locals := 64 } : Room) s m (List.toArray ([.ref (α 30), .int x] : List Value)) below meth c H locs 0 0 (MQ below (va_Ql (fun r u => r = (sumL (gPos S x) N) ∧ u = S) (Pw D cA α n) (Aw α n sz)) (List.toArray ([.ref (α 30), .int x] : List Value)) s 0 0 (Aw α n sz)) (F0 m 5 ls []) := by
    intro t
    induction t with
    | zero => intro j acc H locs ls ht; exact absurd ht (Nat.not_lt_zero _)
    | succ t ih5 =>
      intro j acc H locs ls ht hj hk hw hl
      refine lv_iload hx hb dX11_positionOf_5 (lv_at hl 2 rfl) ?_
      refine lv_aload_n hx hb dX11_positionOf_7 rfl (lv_at hl 0 rfl) ?_
      refine x_get (v := .ref (α 34)) (C := RX11) (T := TX11) (N := 24) hx hb hts (fun _ h => List.mem_cons_of_mem _ (List.mem_append_right _ h)) hown hK hw 30 (Nat.lt_of_lt_of_le (Nat.le_of_ble_eq_true rfl : 30 < 191) hn) (mk_30 cA α) rfl 13 (by decide) (hts _ (List.mem_of_getElem? (i := 1) rfl)) (fun _ h9 => h9) rfl dX11_positionOf_8 ?_
      refine lv_iconst (v := nI 0) hx hb dX11_positionOf_11 (by decide) ?_
      refine x_iald hx hb hK hw 34 1508 (Nat.lt_of_lt_of_le (Nat.le_of_ble_eq_true rfl : 34 < 191) hn) (mk_34 cA α) 0 rfl (by decide) (by decide) dX11_positionOf_12 ?_
      refine x_topN (k := N) hN ?_
      refine xn_icmp_ge (tgt := 76) hx hb (by omega) (by omega) dX11_positionOf_13 (by decide) (fun c1 => ?_) (fun c1 => ?_)
      · skip
        refine lv_lload_n hx hb dX11_positionOf_76 rfl (lv_at hl 3 rfl) ?_
        exact ret_l hx hb hr hlocks hK hw dX11_positionOf_77 (by rw [hk, show j = N by omega]) rfl
      · skip
        refine lv_aload_n hx hb dX11_positionOf_16 rfl (lv_at hl 0 rfl) ?_
        refine lv_iload hx hb dX11_positionOf_17 (lv_at hl 2 rfl) ?_
        refine lv_iconst (v := nI 0) hx hb dX11_positionOf_19 (by decide) ?_
        refine lv_iconst (v := nI 1) hx hb dX11_positionOf_20 (by decide) ?_
        refine x_callVIr (q := 30) (C := RX11) (As := [.int (nI j), .int (nI 0), .int (nI 1)]) (rest := []) ⟨hx, hb, hml, hown, hts⟩ (ct_X11_is l D cA α n _ hn S j (nI 0) (nI 1) (by omega)) (cwV 3 hts gX11_positionOf_X11_is rfl rfl rfl (by decide +kernel) ⟨Nat.le_of_ble_eq_true rfl, Nat.le_of_ble_eq_true rfl⟩) hK hw hAw (ws_recv hK hw (q := 30) (Nat.lt_of_lt_of_le (Nat.le_of_ble_eq_true rfl : 30 < 191) hn) (mk_30 cA α) rfl) rfl hl.1 rfl (Nat.le_of_ble_eq_true rfl) dX11_positionOf_21 ⟨Nat.zero_le _, Nat.zero_le _⟩ (fun H locs hw => ?_)
        refine xb_ne (b := (rIs S j (nI 0) (nI 1))) (tgt := 30) hx hb dX11_positionOf_24 (by decide) (fun c2 => ?_) (fun c2 => ?_)
        · skip
          refine lv_aload_n hx hb dX11_positionOf_30 rfl (lv_at hl 0 rfl) ?_
          refine lv_iload hx hb dX11_positionOf_31 (lv_at hl 2 rfl) ?_
          refine lv_iconst (v := nI 0) hx hb dX11_positionOf_33 (by decide) ?_
          refine x_callVIr (q := 30) (C := RX11) (As := [.int (nI j), .int (nI 0)]) (rest := []) ⟨hx, hb, hml, hown, hts⟩ (ct_X11_of l D cA α n _ hn S j 0 (by omega)) (cwV 2 hts gX11_positionOf_X11_of rfl rfl rfl (by decide +kernel) ⟨Nat.le_of_ble_eq_true rfl, Nat.le_of_ble_eq_true rfl⟩) hK hw hAw (ws_recv hK hw (q := 30) (Nat.lt_of_lt_of_le (Nat.le_of_ble_eq_true rfl : 30 < 191) hn) (mk_30 cA α) rfl) rfl hl.1 rfl (Nat.le_of_ble_eq_true rfl) dX11_positionOf_34 ⟨Nat.zero_le _, Nat.zero_le _⟩ (fun H locs hw => ?_)
          refine lv_iload_n hx hb dX11_positionOf_37 rfl (lv_at hl 1 rfl) ?_
          refine lv_icmp_ne (tgt := 50) hx hb dX11_positionOf_38 (by decide) (fun c3 => ?_) (fun c3 => ?_)
          · skip
            refine lv_aload_n hx hb dX11_positionOf_50 rfl (lv_at hl 0 rfl) ?_
            refine lv_iload hx hb dX11_positionOf_51 (lv_at hl 2 rfl) ?_
            refine lv_iconst (v := nI 1) hx hb dX11_positionOf_53 (by decide) ?_
            refine x_callVIr (q := 30) (C := RX11) (As := [.int (nI j), .int (nI 1)]) (rest := []) ⟨hx, hb, hml, hown, hts⟩ (ct_X11_of l D cA α n _ hn S j 1 (by omega)) (cwV 2 hts gX11_positionOf_X11_of rfl rfl rfl (by decide +kernel) ⟨Nat.le_of_ble_eq_true rfl, Nat.le_of_ble_eq_true rfl⟩) hK hw hAw (ws_recv hK hw (q := 30) (Nat.lt_of_lt_of_le (Nat.le_of_ble_eq_true rfl : 30 < 191) hn) (mk_30 cA α) rfl) rfl hl.1 rfl (Nat.le_of_ble_eq_true rfl) dX11_positionOf_54 ⟨Nat.zero_le _, Nat.zero_le _⟩ (fun H locs hw => ?_)
            refine lv_iload_n hx hb dX11_positionOf_57 rfl (lv_at hl 1 rfl) ?_
            refine lv_icmp_ne (tgt := 70) hx hb dX11_positionOf_58 (by decide) (fun c4 => ?_) (fun c4 => ?_)
            · skip
              refine lv_iinc (v := nI (j + 1)) (lv' := [(4, .int (nI (j + 1))), (0, .ref (α 30)), (1, .int x), (2, .long acc)]) hx hb dX11_positionOf_70 hl (k := 2) rfl (nI_1 _) (by decide) rfl (fun ls hl => ?_)
              refine lv_goto (tgt := 5) hx hb dX11_positionOf_73 (by decide) ?_
              exact ih5 (j + 1) acc _ _ _ (by omega) (by omega) (by rw [sumL, ← hk]; first | (simp only [gPos, if_pos c1, if_neg (not_not_intro c1), decide_eq_true c1, c2, if_neg c3, if_pos c3, decide_eq_false c3, if_neg c4, if_pos c4, decide_eq_false c4, if_true, if_false, eq_self, Bool.false_eq_true, not_true_eq_false, not_false_eq_true, decide_true, decide_false, Bool.and_true, Bool.true_and, Bool.and_false, Bool.false_and, Bool.not_true, Bool.not_false, Bool.or_true, Bool.true_or, Bool.or_false, Bool.false_or, reduceIte, b2i_t, b2i_f, Int64.add_zero, Int64.zero_add, Int64.sub_eq_add_neg, Int64.add_assoc]; done) | (simp [gPos, if_pos c1, if_neg (not_not_intro c1), decide_eq_true c1, c2, if_neg c3, if_pos c3, decide_eq_false c3, if_neg c4, if_pos c4, decide_eq_false c4, Int64.sub_eq_add_neg, Int64.add_assoc]; done)) hw (lv_sub hl [1, 2, 0, 3] rfl)
            · skip
              refine lv_lload_n hx hb dX11_positionOf_61 rfl (lv_at hl 3 rfl) ?_
              refine lv_aload_n hx hb dX11_positionOf_62 rfl (lv_at hl 0 rfl) ?_
              refine lv_iload hx hb dX11_positionOf_63 (lv_at hl 2 rfl) ?_
              refine x_callVLr (q := 30) (C := RX11) (As := [.int (nI j)]) (rest := [.long acc]) ⟨hx, hb, hml, hown, hts⟩ (ct_X11_valueOf l D cA α n _ hn S j (ho j (by omega))) (cwV 1 hts gX11_positionOf_X11_valueOf rfl rfl rfl (by decide +kernel) ⟨Nat.le_of_ble_eq_true rfl, Nat.le_of_ble_eq_true rfl⟩) hK hw hAw (ws_recv hK hw (q := 30) (Nat.lt_of_lt_of_le (Nat.le_of_ble_eq_true rfl : 30 < 191) hn) (mk_30 cA α) rfl) rfl hl.1 rfl (Nat.le_of_ble_eq_true rfl) dX11_positionOf_65 ⟨Nat.zero_le _, Nat.zero_le _⟩ (fun H locs hw => ?_)
              refine lv_lsub hx hb dX11_positionOf_68 ?_
              refine lv_lstore_n (lv' := [(2, .long (acc - (rVal S j))), (0, .ref (α 30)), (1, .int x), (4, .int (nI j))]) hx hb dX11_positionOf_69 rfl hl (by decide) rfl (fun ls hl => ?_)
              refine lv_iinc (v := nI (j + 1)) (lv' := [(4, .int (nI (j + 1))), (2, .long (acc - (rVal S j))), (0, .ref (α 30)), (1, .int x)]) hx hb dX11_positionOf_70 hl (k := 3) rfl (nI_1 _) (by decide) rfl (fun ls hl => ?_)
              refine lv_goto (tgt := 5) hx hb dX11_positionOf_73 (by decide) ?_
              exact ih5 (j + 1) (acc - (rVal S j)) _ _ _ (by omega) (by omega) (by rw [sumL, ← hk]; first | (simp only [gPos, if_pos c1, if_neg (not_not_intro c1), decide_eq_true c1, c2, if_neg c3, if_pos c3, decide_eq_false c3, if_pos c4, if_neg (not_not_intro c4), decide_eq_true c4, if_true, if_false, eq_self, Bool.false_eq_true, not_true_eq_false, not_false_eq_true, decide_true, decide_false, Bool.and_true, Bool.true_and, Bool.and_false, Bool.false_and, Bool.not_true, Bool.not_false, Bool.or_true, Bool.true_or, Bool.or_false, Bool.false_or, reduceIte, b2i_t, b2i_f, Int64.add_zero, Int64.zero_add, Int64.sub_eq_add_neg, Int64.add_assoc]; done) | (simp [gPos, if_pos c1, if_neg (not_not_intro c1), decide_eq_true c1, c2, if_neg c3, if_pos c3, decide_eq_false c3, if_pos c4, if_neg (not_not_intro c4), decide_eq_true c4, Int64.sub_eq_add_neg, Int64.add_assoc]; done)) hw (lv_sub hl [2, 3, 0, 1] rfl)
          · skip
            refine lv_lload_n hx hb dX11_positionOf_41 rfl (lv_at hl 3 rfl) ?_
            refine lv_aload_n hx hb dX11_positionOf_42 rfl (lv_at hl 0 rfl) ?_
            refine lv_iload hx hb dX11_positionOf_43 (lv_at hl 2 rfl) ?_
            refine x_callVLr (q := 30) (C := RX11) (As := [.int (nI j)]) (rest := [.long acc]) ⟨hx, hb, hml, hown, hts⟩ (ct_X11_valueOf l D cA α n _ hn S j (ho j (by omega))) (cwV 1 hts gX11_positionOf_X11_valueOf rfl rfl rfl (by decide +kernel) ⟨Nat.le_of_ble_eq_true rfl, Nat.le_of_ble_eq_true rfl⟩) hK hw hAw (ws_recv hK hw (q := 30) (Nat.lt_of_lt_of_le (Nat.le_of_ble_eq_true rfl : 30 < 191) hn) (mk_30 cA α) rfl) rfl hl.1 rfl (Nat.le_of_ble_eq_true rfl) dX11_positionOf_45 ⟨Nat.zero_le _, Nat.zero_le _⟩ (fun H locs hw => ?_)
            refine lv_ladd hx hb dX11_positionOf_48 ?_
            refine lv_lstore_n (lv' := [(2, .long (acc + (rVal S j))), (0, .ref (α 30)), (1, .int x), (4, .int (nI j))]) hx hb dX11_positionOf_49 rfl hl (by decide) rfl (fun ls hl => ?_)
            refine lv_aload_n hx hb dX11_positionOf_50 rfl (lv_at hl 1 rfl) ?_
            refine lv_iload hx hb dX11_positionOf_51 (lv_at hl 3 rfl) ?_
            refine lv_iconst (v := nI 1) hx hb dX11_positionOf_53 (by decide) ?_
            refine x_callVIr (q := 30) (C := RX11) (As := [.int (nI j), .int (nI 1)]) (rest := []) ⟨hx, hb, hml, hown, hts⟩ (ct_X11_of l D cA α n _ hn S j 1 (by omega)) (cwV 2 hts gX11_positionOf_X11_of rfl rfl rfl (by decide +kernel) ⟨Nat.le_of_ble_eq_true rfl, Nat.le_of_ble_eq_true rfl⟩) hK hw hAw (ws_recv hK hw (q := 30) (Nat.lt_of_lt_of_le (Nat.le_of_ble_eq_true rfl : 30 < 191) hn) (mk_30 cA α) rfl) rfl hl.1 rfl (Nat.le_of_ble_eq_true rfl) dX11_positionOf_54 ⟨Nat.zero_le _, Nat.zero_le _⟩ (fun H locs hw => ?_)
            refine lv_iload_n hx hb dX11_positionOf_57 rfl (lv_at hl 2 rfl) ?_
            refine lv_icmp_ne (tgt := 70) hx hb dX11_positionOf_58 (by decide) (fun c5 => ?_) (fun c5 => ?_)
            · skip
              refine lv_iinc (v := nI (j + 1)) (lv' := [(4, .int (nI (j + 1))), (2, .long (acc + (rVal S j))), (0, .ref (α 30)), (1, .int x)]) hx hb dX11_positionOf_70 hl (k := 3) rfl (nI_1 _) (by decide) rfl (fun ls hl => ?_)
              refine lv_goto (tgt := 5) hx hb dX11_positionOf_73 (by decide) ?_
              exact ih5 (j + 1) (acc + (rVal S j)) _ _ _ (by omega) (by omega) (by rw [sumL, ← hk]; first | (simp only [gPos, if_pos c1, if_neg (not_not_intro c1), decide_eq_true c1, c2, if_pos c3, if_neg (not_not_intro c3), decide_eq_true c3, if_neg c5, if_pos c5, decide_eq_false c5, if_true, if_false, eq_self, Bool.false_eq_true, not_true_eq_false, not_false_eq_true, decide_true, decide_false, Bool.and_true, Bool.true_and, Bool.and_false, Bool.false_and, Bool.not_true, Bool.not_false, Bool.or_true, Bool.true_or, Bool.or_false, Bool.false_or, reduceIte, b2i_t, b2i_f, Int64.add_zero, Int64.zero_add, Int64.sub_eq_add_neg, Int64.add_assoc]; done) | (simp [gPos, if_pos c1, if_neg (not_not_intro c1), decide_eq_true c1, c2, if_pos c3, if_neg (not_not_intro c3), decide_eq_true c3, if_neg c5, if_pos c5, decide_eq_false c5, Int64.sub_eq_add_neg, Int64.add_assoc]; done)) hw (lv_sub hl [2, 3, 0, 1] rfl)
            · skip
              refine lv_lload_n hx hb dX11_positionOf_61 rfl (lv_at hl 0 rfl) ?_
              refine lv_aload_n hx hb dX11_positionOf_62 rfl (lv_at hl 1 rfl) ?_
              refine lv_iload hx hb dX11_positionOf_63 (lv_at hl 3 rfl) ?_
              refine x_callVLr (q := 30) (C := RX11) (As := [.int (nI j)]) (rest := [.long (acc + (rVal S j))]) ⟨hx, hb, hml, hown, hts⟩ (ct_X11_valueOf l D cA α n _ hn S j (ho j (by omega))) (cwV 1 hts gX11_positionOf_X11_valueOf rfl rfl rfl (by decide +kernel) ⟨Nat.le_of_ble_eq_true rfl, Nat.le_of_ble_eq_true rfl⟩) hK hw hAw (ws_recv hK hw (q := 30) (Nat.lt_of_lt_of_le (Nat.le_of_ble_eq_true rfl : 30 < 191) hn) (mk_30 cA α) rfl) rfl hl.1 rfl (Nat.le_of_ble_eq_true rfl) dX11_positionOf_65 ⟨Nat.zero_le _, Nat.zero_le _⟩ (fun H locs hw => ?_)
              refine lv_lsub hx hb dX11_positionOf_68 ?_
              refine lv_lstore_n (lv' := [(2, .long ((acc + (rVal S j)) - (rVal S j))), (0, .ref (α 30)), (1, .int x), (4, .int (nI j))]) hx hb dX11_positionOf_69 rfl hl (by decide) rfl (fun ls hl => ?_)
              refine lv_iinc (v := nI (j + 1)) (lv' := [(4, .int (nI (j + 1))), (2, .long ((acc + (rVal S j)) - (rVal S j))), (0, .ref (α 30)), (1, .int x)]) hx hb dX11_positionOf_70 hl (k := 3) rfl (nI_1 _) (by decide) rfl (fun ls hl => ?_)
              refine lv_goto (tgt := 5) hx hb dX11_positionOf_73 (by decide) ?_
              exact ih5 (j + 1) ((acc + (rVal S j)) - (rVal S j)) _ _ _ (by omega) (by omega) (by rw [sumL, ← hk]; first | (simp only [gPos, if_pos c1, if_neg (not_not_intro c1), decide_eq_true c1, c2, if_pos c3, if_neg (not_not_intro c3), decide_eq_true c3, if_pos c5, if_neg (not_not_intro c5), decide_eq_true c5, if_true, if_false, eq_self, Bool.false_eq_true, not_true_eq_false, not_false_eq_true, decide_true, decide_false, Bool.and_true, Bool.true_and, Bool.and_false, Bool.false_and, Bool.not_true, Bool.not_false, Bool.or_true, Bool.true_or, Bool.or_false, Bool.false_or, reduceIte, b2i_t, b2i_f, Int64.add_zero, Int64.zero_add, Int64.sub_eq_add_neg, Int64.add_assoc]; done) | (simp [gPos, if_pos c1, if_neg (not_not_intro c1), decide_eq_true c1, c2, if_pos c3, if_neg (not_not_intro c3), decide_eq_true c3, if_pos c5, if_neg (not_not_intro c5), decide_eq_true c5, Int64.sub_eq_add_neg, Int64.add_assoc]; done)) hw (lv_sub hl [2, 3, 0, 1] rfl)
        · skip
          refine lv_goto (tgt := 70) hx hb dX11_positionOf_27 (by decide) ?_
          refine lv_iinc (v := nI (j + 1)) (lv' := [(4, .int (nI (j + 1))), (0, .ref (α 30)), (1, .int x), (2, .long acc)]) hx hb dX11_positionOf_70 hl (k := 2) rfl (nI_1 _) (by decide) rfl (fun ls hl => ?_)
          refine lv_goto (tgt := 5) hx hb dX11_positionOf_73 (by decide) ?_
          exact ih5 (j + 1) acc _ _ _ (by omega) (by omega) (by rw [sumL, ← hk]; first | (simp only [gPos, if_pos c1, if_neg (not_not_intro c1), decide_eq_true c1, c2, if_true, if_false, eq_self, Bool.false_eq_true, not_true_eq_false, not_false_eq_true, decide_true, decide_false, Bool.and_true, Bool.true_and, Bool.and_false, Bool.false_and, Bool.not_true, Bool.not_false, Bool.or_true, Bool.true_or, Bool.or_false, Bool.false_or, reduceIte, b2i_t, b2i_f, Int64.add_zero, Int64.zero_add, Int64.sub_eq_add_neg, Int64.add_assoc]; done) | (simp [gPos, if_pos c1, if_neg (not_not_intro c1), decide_eq_true c1, c2, Int64.sub_eq_add_neg, Int64.add_assoc]; done)) hw (lv_sub hl [1, 2, 0, 3] rfl)
  exact lp5 _ 0 0 _ _ _ (Nat.lt_succ_self _) (Nat.zero_le _) rfl hw (lv_sub hl [2, 3, 0, 1] rfl)

set_option maxRecDepth 100000 in
set_option maxHeartbeats 1000000 in
theorem ct_X11_between (l : Launch) (D : va_G) (cA : Nat → ClassId) (α : Nat → Nat) (n sz : Nat) (hn : 191 ≤ n) (S : Mem) (x y : Int32) (N : Nat) (hN : S.1 34 0 = nI N) (hN2 : N ≤ 100) (ho : ∀ j, j < N → okR S j) : CtL l yX11_between wsX11_between ({ frames := 3, cells := 0, slots := 0, locals := 64 }) D cA α n sz [.ref (α 30), .int x, .int y] S (sumL (gBet S x y) N) S := by
  refine ct_enter cX11_between 6 (some .long) (by decide) rfl (Nat.le_of_ble_eq_true rfl) ?_
  intro p e s m below meth c hx hb hr hml hlocks hown hts hK hsz hw ls hl
  have hown : s.vm.findClass RX11 = some m.cls := hown
  have hAw : ∀ z, Aw α n s.heap.size z → Aw α n sz z := by rw [hsz]; exact fun _ h => h
  have hl : lv_has ls 6 [(0, .ref (α 30)), (1, .int x), (2, .int y)] := hl
  refine lv_lconst (v := 0) hx hb dX11_between_0 (by decide) ?_
  refine lv_lstore_n (lv' := [(3, .long 0), (0, .ref (α 30)), (1, .int x), (2, .int y)]) hx hb dX11_between_1 rfl hl (by decide) rfl (fun ls hl => ?_)
  refine lv_iconst (v := nI 0) hx hb dX11_between_2 (by decide) ?_
  refine lv_istore (lv' := [(5, .int (nI 0)), (3, .long 0), (0, .ref (α 30)), (1, .int x), (2, .int y)]) hx hb dX11_between_3 hl (by decide) rfl (fun ls hl => ?_)
  have lp5 : ∀ (t : Nat) (j : Nat) (acc : Int64) (H : Heap) (locs : List Loc) (ls : Array Slot), N - j < t → j ≤ N → acc = sumL (gBet S x y) j → Ws D cA α n (Aw α n sz) s.heap S H locs → lv_has ls 6 [(0, .ref (α 30)), (1, .int x), (2, .int y), (5, .int (nI j)), (3, .long acc)] → W p l e ({ frames := 3, cells := 0, slots := 0, locals := 64 } : Room) s m (List.toArray ([.ref (α 30), .int x, .int y] : List Value)) below meth c H locs 0 0 (MQ below (va_Ql (fun r u => r = (sumL (gBet S x y) N) ∧ u = S) (Pw D cA α n) (Aw α n sz)) (List.toArray ([.ref (α 30), .int x, .int y] : List Value)) s 0 0 (Aw α n sz)) (F0 m 5 ls []) := by
    intro t
    induction t with
    | zero => intro j acc H locs ls ht; exact absurd ht (Nat.not_lt_zero _)
    | succ t ih5 =>
      intro j acc H locs ls ht hj hk hw hl
      refine lv_iload hx hb dX11_between_5 (lv_at hl 3 rfl) ?_
      refine lv_aload_n hx hb dX11_between_7 rfl (lv_at hl 0 rfl) ?_
      refine x_get (v := .ref (α 34)) (C := RX11) (T := TX11) (N := 24) hx hb hts (fun _ h => List.mem_cons_of_mem _ (List.mem_append_right _ h)) hown hK hw 30 (Nat.lt_of_lt_of_le (Nat.le_of_ble_eq_true rfl : 30 < 191) hn) (mk_30 cA α) rfl 13 (by decide) (hts _ (List.mem_of_getElem? (i := 1) rfl)) (fun _ h9 => h9) rfl dX11_between_8 ?_
      refine lv_iconst (v := nI 0) hx hb dX11_between_11 (by decide) ?_
      refine x_iald hx hb hK hw 34 1508 (Nat.lt_of_lt_of_le (Nat.le_of_ble_eq_true rfl : 34 < 191) hn) (mk_34 cA α) 0 rfl (by decide) (by decide) dX11_between_12 ?_
      refine x_topN (k := N) hN ?_
      refine xn_icmp_ge (tgt := 98) hx hb (by omega) (by omega) dX11_between_13 (by decide) (fun c1 => ?_) (fun c1 => ?_)
      · skip
        refine lv_lload_n hx hb dX11_between_98 rfl (lv_at hl 4 rfl) ?_
        exact ret_l hx hb hr hlocks hK hw dX11_between_99 (by rw [hk, show j = N by omega]) rfl
      · skip
        refine lv_aload_n hx hb dX11_between_16 rfl (lv_at hl 0 rfl) ?_
        refine lv_iload hx hb dX11_between_17 (lv_at hl 3 rfl) ?_
        refine lv_iconst (v := nI 0) hx hb dX11_between_19 (by decide) ?_
        refine lv_iconst (v := nI 1) hx hb dX11_between_20 (by decide) ?_
        refine x_callVIr (q := 30) (C := RX11) (As := [.int (nI j), .int (nI 0), .int (nI 1)]) (rest := []) ⟨hx, hb, hml, hown, hts⟩ (ct_X11_is l D cA α n _ hn S j (nI 0) (nI 1) (by omega)) (cwV 3 hts gX11_between_X11_is rfl rfl rfl (by decide +kernel) ⟨Nat.le_of_ble_eq_true rfl, Nat.le_of_ble_eq_true rfl⟩) hK hw hAw (ws_recv hK hw (q := 30) (Nat.lt_of_lt_of_le (Nat.le_of_ble_eq_true rfl : 30 < 191) hn) (mk_30 cA α) rfl) rfl hl.1 rfl (Nat.le_of_ble_eq_true rfl) dX11_between_21 ⟨Nat.zero_le _, Nat.zero_le _⟩ (fun H locs hw => ?_)
        refine xb_ne (b := (rIs S j (nI 0) (nI 1))) (tgt := 30) hx hb dX11_between_24 (by decide) (fun c2 => ?_) (fun c2 => ?_)
        · skip
          refine lv_aload_n hx hb dX11_between_30 rfl (lv_at hl 0 rfl) ?_
          refine lv_iload hx hb dX11_between_31 (lv_at hl 3 rfl) ?_
          refine lv_iconst (v := nI 0) hx hb dX11_between_33 (by decide) ?_
          refine x_callVIr (q := 30) (C := RX11) (As := [.int (nI j), .int (nI 0)]) (rest := []) ⟨hx, hb, hml, hown, hts⟩ (ct_X11_of l D cA α n _ hn S j 0 (by omega)) (cwV 2 hts gX11_between_X11_of rfl rfl rfl (by decide +kernel) ⟨Nat.le_of_ble_eq_true rfl, Nat.le_of_ble_eq_true rfl⟩) hK hw hAw (ws_recv hK hw (q := 30) (Nat.lt_of_lt_of_le (Nat.le_of_ble_eq_true rfl : 30 < 191) hn) (mk_30 cA α) rfl) rfl hl.1 rfl (Nat.le_of_ble_eq_true rfl) dX11_between_34 ⟨Nat.zero_le _, Nat.zero_le _⟩ (fun H locs hw => ?_)
          refine lv_iload_n hx hb dX11_between_37 rfl (lv_at hl 1 rfl) ?_
          refine lv_icmp_ne (tgt := 61) hx hb dX11_between_38 (by decide) (fun c3 => ?_) (fun c3 => ?_)
          · skip
            refine lv_aload_n hx hb dX11_between_61 rfl (lv_at hl 0 rfl) ?_
            refine lv_iload hx hb dX11_between_62 (lv_at hl 3 rfl) ?_
            refine lv_iconst (v := nI 0) hx hb dX11_between_64 (by decide) ?_
            refine x_callVIr (q := 30) (C := RX11) (As := [.int (nI j), .int (nI 0)]) (rest := []) ⟨hx, hb, hml, hown, hts⟩ (ct_X11_of l D cA α n _ hn S j 0 (by omega)) (cwV 2 hts gX11_between_X11_of rfl rfl rfl (by decide +kernel) ⟨Nat.le_of_ble_eq_true rfl, Nat.le_of_ble_eq_true rfl⟩) hK hw hAw (ws_recv hK hw (q := 30) (Nat.lt_of_lt_of_le (Nat.le_of_ble_eq_true rfl : 30 < 191) hn) (mk_30 cA α) rfl) rfl hl.1 rfl (Nat.le_of_ble_eq_true rfl) dX11_between_65 ⟨Nat.zero_le _, Nat.zero_le _⟩ (fun H locs hw => ?_)
            refine lv_iload_n hx hb dX11_between_68 rfl (lv_at hl 2 rfl) ?_
            refine lv_icmp_ne (tgt := 92) hx hb dX11_between_69 (by decide) (fun c4 => ?_) (fun c4 => ?_)
            · skip
              refine lv_iinc (v := nI (j + 1)) (lv' := [(5, .int (nI (j + 1))), (0, .ref (α 30)), (1, .int x), (2, .int y), (3, .long acc)]) hx hb dX11_between_92 hl (k := 3) rfl (nI_1 _) (by decide) rfl (fun ls hl => ?_)
              refine lv_goto (tgt := 5) hx hb dX11_between_95 (by decide) ?_
              exact ih5 (j + 1) acc _ _ _ (by omega) (by omega) (by rw [sumL, ← hk]; first | (simp only [gBet, if_pos c1, if_neg (not_not_intro c1), decide_eq_true c1, c2, if_neg c3, if_pos c3, decide_eq_false c3, if_neg c4, if_pos c4, decide_eq_false c4, if_true, if_false, eq_self, Bool.false_eq_true, not_true_eq_false, not_false_eq_true, decide_true, decide_false, Bool.and_true, Bool.true_and, Bool.and_false, Bool.false_and, Bool.not_true, Bool.not_false, Bool.or_true, Bool.true_or, Bool.or_false, Bool.false_or, reduceIte, b2i_t, b2i_f, Int64.add_zero, Int64.zero_add, Int64.sub_eq_add_neg, Int64.add_assoc]; done) | (simp [gBet, if_pos c1, if_neg (not_not_intro c1), decide_eq_true c1, c2, if_neg c3, if_pos c3, decide_eq_false c3, if_neg c4, if_pos c4, decide_eq_false c4, Int64.sub_eq_add_neg, Int64.add_assoc]; done)) hw (lv_sub hl [1, 2, 3, 0, 4] rfl)
            · skip
              refine lv_aload_n hx hb dX11_between_72 rfl (lv_at hl 0 rfl) ?_
              refine lv_iload hx hb dX11_between_73 (lv_at hl 3 rfl) ?_
              refine lv_iconst (v := nI 1) hx hb dX11_between_75 (by decide) ?_
              refine x_callVIr (q := 30) (C := RX11) (As := [.int (nI j), .int (nI 1)]) (rest := []) ⟨hx, hb, hml, hown, hts⟩ (ct_X11_of l D cA α n _ hn S j 1 (by omega)) (cwV 2 hts gX11_between_X11_of rfl rfl rfl (by decide +kernel) ⟨Nat.le_of_ble_eq_true rfl, Nat.le_of_ble_eq_true rfl⟩) hK hw hAw (ws_recv hK hw (q := 30) (Nat.lt_of_lt_of_le (Nat.le_of_ble_eq_true rfl : 30 < 191) hn) (mk_30 cA α) rfl) rfl hl.1 rfl (Nat.le_of_ble_eq_true rfl) dX11_between_76 ⟨Nat.zero_le _, Nat.zero_le _⟩ (fun H locs hw => ?_)
              refine lv_iload_n hx hb dX11_between_79 rfl (lv_at hl 1 rfl) ?_
              refine lv_icmp_ne (tgt := 92) hx hb dX11_between_80 (by decide) (fun c5 => ?_) (fun c5 => ?_)
              · skip
                refine lv_iinc (v := nI (j + 1)) (lv' := [(5, .int (nI (j + 1))), (0, .ref (α 30)), (1, .int x), (2, .int y), (3, .long acc)]) hx hb dX11_between_92 hl (k := 3) rfl (nI_1 _) (by decide) rfl (fun ls hl => ?_)
                refine lv_goto (tgt := 5) hx hb dX11_between_95 (by decide) ?_
                exact ih5 (j + 1) acc _ _ _ (by omega) (by omega) (by rw [sumL, ← hk]; first | (simp only [gBet, if_pos c1, if_neg (not_not_intro c1), decide_eq_true c1, c2, if_neg c3, if_pos c3, decide_eq_false c3, if_pos c4, if_neg (not_not_intro c4), decide_eq_true c4, if_neg c5, if_pos c5, decide_eq_false c5, if_true, if_false, eq_self, Bool.false_eq_true, not_true_eq_false, not_false_eq_true, decide_true, decide_false, Bool.and_true, Bool.true_and, Bool.and_false, Bool.false_and, Bool.not_true, Bool.not_false, Bool.or_true, Bool.true_or, Bool.or_false, Bool.false_or, reduceIte, b2i_t, b2i_f, Int64.add_zero, Int64.zero_add, Int64.sub_eq_add_neg, Int64.add_assoc]; done) | (simp [gBet, if_pos c1, if_neg (not_not_intro c1), decide_eq_true c1, c2, if_neg c3, if_pos c3, decide_eq_false c3, if_pos c4, if_neg (not_not_intro c4), decide_eq_true c4, if_neg c5, if_pos c5, decide_eq_false c5, Int64.sub_eq_add_neg, Int64.add_assoc]; done)) hw (lv_sub hl [1, 2, 3, 0, 4] rfl)
              · skip
                refine lv_lload_n hx hb dX11_between_83 rfl (lv_at hl 4 rfl) ?_
                refine lv_aload_n hx hb dX11_between_84 rfl (lv_at hl 0 rfl) ?_
                refine lv_iload hx hb dX11_between_85 (lv_at hl 3 rfl) ?_
                refine x_callVLr (q := 30) (C := RX11) (As := [.int (nI j)]) (rest := [.long acc]) ⟨hx, hb, hml, hown, hts⟩ (ct_X11_valueOf l D cA α n _ hn S j (ho j (by omega))) (cwV 1 hts gX11_between_X11_valueOf rfl rfl rfl (by decide +kernel) ⟨Nat.le_of_ble_eq_true rfl, Nat.le_of_ble_eq_true rfl⟩) hK hw hAw (ws_recv hK hw (q := 30) (Nat.lt_of_lt_of_le (Nat.le_of_ble_eq_true rfl : 30 < 191) hn) (mk_30 cA α) rfl) rfl hl.1 rfl (Nat.le_of_ble_eq_true rfl) dX11_between_87 ⟨Nat.zero_le _, Nat.zero_le _⟩ (fun H locs hw => ?_)
                refine lv_lsub hx hb dX11_between_90 ?_
                refine lv_lstore_n (lv' := [(3, .long (acc - (rVal S j))), (0, .ref (α 30)), (1, .int x), (2, .int y), (5, .int (nI j))]) hx hb dX11_between_91 rfl hl (by decide) rfl (fun ls hl => ?_)
                refine lv_iinc (v := nI (j + 1)) (lv' := [(5, .int (nI (j + 1))), (3, .long (acc - (rVal S j))), (0, .ref (α 30)), (1, .int x), (2, .int y)]) hx hb dX11_between_92 hl (k := 4) rfl (nI_1 _) (by decide) rfl (fun ls hl => ?_)
                refine lv_goto (tgt := 5) hx hb dX11_between_95 (by decide) ?_
                exact ih5 (j + 1) (acc - (rVal S j)) _ _ _ (by omega) (by omega) (by rw [sumL, ← hk]; first | (simp only [gBet, if_pos c1, if_neg (not_not_intro c1), decide_eq_true c1, c2, if_neg c3, if_pos c3, decide_eq_false c3, if_pos c4, if_neg (not_not_intro c4), decide_eq_true c4, if_pos c5, if_neg (not_not_intro c5), decide_eq_true c5, if_true, if_false, eq_self, Bool.false_eq_true, not_true_eq_false, not_false_eq_true, decide_true, decide_false, Bool.and_true, Bool.true_and, Bool.and_false, Bool.false_and, Bool.not_true, Bool.not_false, Bool.or_true, Bool.true_or, Bool.or_false, Bool.false_or, reduceIte, b2i_t, b2i_f, Int64.add_zero, Int64.zero_add, Int64.sub_eq_add_neg, Int64.add_assoc]; done) | (simp [gBet, if_pos c1, if_neg (not_not_intro c1), decide_eq_true c1, c2, if_neg c3, if_pos c3, decide_eq_false c3, if_pos c4, if_neg (not_not_intro c4), decide_eq_true c4, if_pos c5, if_neg (not_not_intro c5), decide_eq_true c5, Int64.sub_eq_add_neg, Int64.add_assoc]; done)) hw (lv_sub hl [2, 3, 4, 0, 1] rfl)
          · skip
            refine lv_aload_n hx hb dX11_between_41 rfl (lv_at hl 0 rfl) ?_
            refine lv_iload hx hb dX11_between_42 (lv_at hl 3 rfl) ?_
            refine lv_iconst (v := nI 1) hx hb dX11_between_44 (by decide) ?_
            refine x_callVIr (q := 30) (C := RX11) (As := [.int (nI j), .int (nI 1)]) (rest := []) ⟨hx, hb, hml, hown, hts⟩ (ct_X11_of l D cA α n _ hn S j 1 (by omega)) (cwV 2 hts gX11_between_X11_of rfl rfl rfl (by decide +kernel) ⟨Nat.le_of_ble_eq_true rfl, Nat.le_of_ble_eq_true rfl⟩) hK hw hAw (ws_recv hK hw (q := 30) (Nat.lt_of_lt_of_le (Nat.le_of_ble_eq_true rfl : 30 < 191) hn) (mk_30 cA α) rfl) rfl hl.1 rfl (Nat.le_of_ble_eq_true rfl) dX11_between_45 ⟨Nat.zero_le _, Nat.zero_le _⟩ (fun H locs hw => ?_)
            refine lv_iload_n hx hb dX11_between_48 rfl (lv_at hl 2 rfl) ?_
            refine lv_icmp_ne (tgt := 61) hx hb dX11_between_49 (by decide) (fun c6 => ?_) (fun c6 => ?_)
            · skip
              refine lv_aload_n hx hb dX11_between_61 rfl (lv_at hl 0 rfl) ?_
              refine lv_iload hx hb dX11_between_62 (lv_at hl 3 rfl) ?_
              refine lv_iconst (v := nI 0) hx hb dX11_between_64 (by decide) ?_
              refine x_callVIr (q := 30) (C := RX11) (As := [.int (nI j), .int (nI 0)]) (rest := []) ⟨hx, hb, hml, hown, hts⟩ (ct_X11_of l D cA α n _ hn S j 0 (by omega)) (cwV 2 hts gX11_between_X11_of rfl rfl rfl (by decide +kernel) ⟨Nat.le_of_ble_eq_true rfl, Nat.le_of_ble_eq_true rfl⟩) hK hw hAw (ws_recv hK hw (q := 30) (Nat.lt_of_lt_of_le (Nat.le_of_ble_eq_true rfl : 30 < 191) hn) (mk_30 cA α) rfl) rfl hl.1 rfl (Nat.le_of_ble_eq_true rfl) dX11_between_65 ⟨Nat.zero_le _, Nat.zero_le _⟩ (fun H locs hw => ?_)
              refine lv_iload_n hx hb dX11_between_68 rfl (lv_at hl 2 rfl) ?_
              refine lv_icmp_ne (tgt := 92) hx hb dX11_between_69 (by decide) (fun c7 => ?_) (fun c7 => ?_)
              · skip
                refine lv_iinc (v := nI (j + 1)) (lv' := [(5, .int (nI (j + 1))), (0, .ref (α 30)), (1, .int x), (2, .int y), (3, .long acc)]) hx hb dX11_between_92 hl (k := 3) rfl (nI_1 _) (by decide) rfl (fun ls hl => ?_)
                refine lv_goto (tgt := 5) hx hb dX11_between_95 (by decide) ?_
                exact ih5 (j + 1) acc _ _ _ (by omega) (by omega) (by rw [sumL, ← hk]; first | (simp only [gBet, if_pos c1, if_neg (not_not_intro c1), decide_eq_true c1, c2, if_pos c3, if_neg (not_not_intro c3), decide_eq_true c3, if_neg c6, if_pos c6, decide_eq_false c6, if_neg c7, if_pos c7, decide_eq_false c7, if_true, if_false, eq_self, Bool.false_eq_true, not_true_eq_false, not_false_eq_true, decide_true, decide_false, Bool.and_true, Bool.true_and, Bool.and_false, Bool.false_and, Bool.not_true, Bool.not_false, Bool.or_true, Bool.true_or, Bool.or_false, Bool.false_or, reduceIte, b2i_t, b2i_f, Int64.add_zero, Int64.zero_add, Int64.sub_eq_add_neg, Int64.add_assoc]; done) | (simp [gBet, if_pos c1, if_neg (not_not_intro c1), decide_eq_true c1, c2, if_pos c3, if_neg (not_not_intro c3), decide_eq_true c3, if_neg c6, if_pos c6, decide_eq_false c6, if_neg c7, if_pos c7, decide_eq_false c7, Int64.sub_eq_add_neg, Int64.add_assoc]; done)) hw (lv_sub hl [1, 2, 3, 0, 4] rfl)
              · skip
                refine lv_aload_n hx hb dX11_between_72 rfl (lv_at hl 0 rfl) ?_
                refine lv_iload hx hb dX11_between_73 (lv_at hl 3 rfl) ?_
                refine lv_iconst (v := nI 1) hx hb dX11_between_75 (by decide) ?_
                refine x_callVIr (q := 30) (C := RX11) (As := [.int (nI j), .int (nI 1)]) (rest := []) ⟨hx, hb, hml, hown, hts⟩ (ct_X11_of l D cA α n _ hn S j 1 (by omega)) (cwV 2 hts gX11_between_X11_of rfl rfl rfl (by decide +kernel) ⟨Nat.le_of_ble_eq_true rfl, Nat.le_of_ble_eq_true rfl⟩) hK hw hAw (ws_recv hK hw (q := 30) (Nat.lt_of_lt_of_le (Nat.le_of_ble_eq_true rfl : 30 < 191) hn) (mk_30 cA α) rfl) rfl hl.1 rfl (Nat.le_of_ble_eq_true rfl) dX11_between_76 ⟨Nat.zero_le _, Nat.zero_le _⟩ (fun H locs hw => ?_)
                refine lv_iload_n hx hb dX11_between_79 rfl (lv_at hl 1 rfl) ?_
                refine lv_icmp_ne (tgt := 92) hx hb dX11_between_80 (by decide) (fun c8 => ?_) (fun c8 => ?_)
                · skip
                  refine lv_iinc (v := nI (j + 1)) (lv' := [(5, .int (nI (j + 1))), (0, .ref (α 30)), (1, .int x), (2, .int y), (3, .long acc)]) hx hb dX11_between_92 hl (k := 3) rfl (nI_1 _) (by decide) rfl (fun ls hl => ?_)
                  refine lv_goto (tgt := 5) hx hb dX11_between_95 (by decide) ?_
                  exact ih5 (j + 1) acc _ _ _ (by omega) (by omega) (by rw [sumL, ← hk]; first | (simp only [gBet, if_pos c1, if_neg (not_not_intro c1), decide_eq_true c1, c2, if_pos c3, if_neg (not_not_intro c3), decide_eq_true c3, if_neg c6, if_pos c6, decide_eq_false c6, if_pos c7, if_neg (not_not_intro c7), decide_eq_true c7, if_neg c8, if_pos c8, decide_eq_false c8, if_true, if_false, eq_self, Bool.false_eq_true, not_true_eq_false, not_false_eq_true, decide_true, decide_false, Bool.and_true, Bool.true_and, Bool.and_false, Bool.false_and, Bool.not_true, Bool.not_false, Bool.or_true, Bool.true_or, Bool.or_false, Bool.false_or, reduceIte, b2i_t, b2i_f, Int64.add_zero, Int64.zero_add, Int64.sub_eq_add_neg, Int64.add_assoc]; done) | (simp [gBet, if_pos c1, if_neg (not_not_intro c1), decide_eq_true c1, c2, if_pos c3, if_neg (not_not_intro c3), decide_eq_true c3, if_neg c6, if_pos c6, decide_eq_false c6, if_pos c7, if_neg (not_not_intro c7), decide_eq_true c7, if_neg c8, if_pos c8, decide_eq_false c8, Int64.sub_eq_add_neg, Int64.add_assoc]; done)) hw (lv_sub hl [1, 2, 3, 0, 4] rfl)
                · skip
                  refine lv_lload_n hx hb dX11_between_83 rfl (lv_at hl 4 rfl) ?_
                  refine lv_aload_n hx hb dX11_between_84 rfl (lv_at hl 0 rfl) ?_
                  refine lv_iload hx hb dX11_between_85 (lv_at hl 3 rfl) ?_
                  refine x_callVLr (q := 30) (C := RX11) (As := [.int (nI j)]) (rest := [.long acc]) ⟨hx, hb, hml, hown, hts⟩ (ct_X11_valueOf l D cA α n _ hn S j (ho j (by omega))) (cwV 1 hts gX11_between_X11_valueOf rfl rfl rfl (by decide +kernel) ⟨Nat.le_of_ble_eq_true rfl, Nat.le_of_ble_eq_true rfl⟩) hK hw hAw (ws_recv hK hw (q := 30) (Nat.lt_of_lt_of_le (Nat.le_of_ble_eq_true rfl : 30 < 191) hn) (mk_30 cA α) rfl) rfl hl.1 rfl (Nat.le_of_ble_eq_true rfl) dX11_between_87 ⟨Nat.zero_le _, Nat.zero_le _⟩ (fun H locs hw => ?_)
                  refine lv_lsub hx hb dX11_between_90 ?_
                  refine lv_lstore_n (lv' := [(3, .long (acc - (rVal S j))), (0, .ref (α 30)), (1, .int x), (2, .int y), (5, .int (nI j))]) hx hb dX11_between_91 rfl hl (by decide) rfl (fun ls hl => ?_)
                  refine lv_iinc (v := nI (j + 1)) (lv' := [(5, .int (nI (j + 1))), (3, .long (acc - (rVal S j))), (0, .ref (α 30)), (1, .int x), (2, .int y)]) hx hb dX11_between_92 hl (k := 4) rfl (nI_1 _) (by decide) rfl (fun ls hl => ?_)
                  refine lv_goto (tgt := 5) hx hb dX11_between_95 (by decide) ?_
                  exact ih5 (j + 1) (acc - (rVal S j)) _ _ _ (by omega) (by omega) (by rw [sumL, ← hk]; first | (simp only [gBet, if_pos c1, if_neg (not_not_intro c1), decide_eq_true c1, c2, if_pos c3, if_neg (not_not_intro c3), decide_eq_true c3, if_neg c6, if_pos c6, decide_eq_false c6, if_pos c7, if_neg (not_not_intro c7), decide_eq_true c7, if_pos c8, if_neg (not_not_intro c8), decide_eq_true c8, if_true, if_false, eq_self, Bool.false_eq_true, not_true_eq_false, not_false_eq_true, decide_true, decide_false, Bool.and_true, Bool.true_and, Bool.and_false, Bool.false_and, Bool.not_true, Bool.not_false, Bool.or_true, Bool.true_or, Bool.or_false, Bool.false_or, reduceIte, b2i_t, b2i_f, Int64.add_zero, Int64.zero_add, Int64.sub_eq_add_neg, Int64.add_assoc]; done) | (simp [gBet, if_pos c1, if_neg (not_not_intro c1), decide_eq_true c1, c2, if_pos c3, if_neg (not_not_intro c3), decide_eq_true c3, if_neg c6, if_pos c6, decide_eq_false c6, if_pos c7, if_neg (not_not_intro c7), decide_eq_true c7, if_pos c8, if_neg (not_not_intro c8), decide_eq_true c8, Int64.sub_eq_add_neg, Int64.add_assoc]; done)) hw (lv_sub hl [2, 3, 4, 0, 1] rfl)
            · skip
              refine lv_lload_n hx hb dX11_between_52 rfl (lv_at hl 4 rfl) ?_
              refine lv_aload_n hx hb dX11_between_53 rfl (lv_at hl 0 rfl) ?_
              refine lv_iload hx hb dX11_between_54 (lv_at hl 3 rfl) ?_
              refine x_callVLr (q := 30) (C := RX11) (As := [.int (nI j)]) (rest := [.long acc]) ⟨hx, hb, hml, hown, hts⟩ (ct_X11_valueOf l D cA α n _ hn S j (ho j (by omega))) (cwV 1 hts gX11_between_X11_valueOf rfl rfl rfl (by decide +kernel) ⟨Nat.le_of_ble_eq_true rfl, Nat.le_of_ble_eq_true rfl⟩) hK hw hAw (ws_recv hK hw (q := 30) (Nat.lt_of_lt_of_le (Nat.le_of_ble_eq_true rfl : 30 < 191) hn) (mk_30 cA α) rfl) rfl hl.1 rfl (Nat.le_of_ble_eq_true rfl) dX11_between_56 ⟨Nat.zero_le _, Nat.zero_le _⟩ (fun H locs hw => ?_)
              refine lv_ladd hx hb dX11_between_59 ?_
              refine lv_lstore_n (lv' := [(3, .long (acc + (rVal S j))), (0, .ref (α 30)), (1, .int x), (2, .int y), (5, .int (nI j))]) hx hb dX11_between_60 rfl hl (by decide) rfl (fun ls hl => ?_)
              refine lv_aload_n hx hb dX11_between_61 rfl (lv_at hl 1 rfl) ?_
              refine lv_iload hx hb dX11_between_62 (lv_at hl 4 rfl) ?_
              refine lv_iconst (v := nI 0) hx hb dX11_between_64 (by decide) ?_
              refine x_callVIr (q := 30) (C := RX11) (As := [.int (nI j), .int (nI 0)]) (rest := []) ⟨hx, hb, hml, hown, hts⟩ (ct_X11_of l D cA α n _ hn S j 0 (by omega)) (cwV 2 hts gX11_between_X11_of rfl rfl rfl (by decide +kernel) ⟨Nat.le_of_ble_eq_true rfl, Nat.le_of_ble_eq_true rfl⟩) hK hw hAw (ws_recv hK hw (q := 30) (Nat.lt_of_lt_of_le (Nat.le_of_ble_eq_true rfl : 30 < 191) hn) (mk_30 cA α) rfl) rfl hl.1 rfl (Nat.le_of_ble_eq_true rfl) dX11_between_65 ⟨Nat.zero_le _, Nat.zero_le _⟩ (fun H locs hw => ?_)
              refine lv_iload_n hx hb dX11_between_68 rfl (lv_at hl 3 rfl) ?_
              refine lv_icmp_ne (tgt := 92) hx hb dX11_between_69 (by decide) (fun c9 => ?_) (fun c9 => ?_)
              · skip
                refine lv_iinc (v := nI (j + 1)) (lv' := [(5, .int (nI (j + 1))), (3, .long (acc + (rVal S j))), (0, .ref (α 30)), (1, .int x), (2, .int y)]) hx hb dX11_between_92 hl (k := 4) rfl (nI_1 _) (by decide) rfl (fun ls hl => ?_)
                refine lv_goto (tgt := 5) hx hb dX11_between_95 (by decide) ?_
                exact ih5 (j + 1) (acc + (rVal S j)) _ _ _ (by omega) (by omega) (by rw [sumL, ← hk]; first | (simp only [gBet, if_pos c1, if_neg (not_not_intro c1), decide_eq_true c1, c2, if_pos c3, if_neg (not_not_intro c3), decide_eq_true c3, if_pos c6, if_neg (not_not_intro c6), decide_eq_true c6, if_neg c9, if_pos c9, decide_eq_false c9, if_true, if_false, eq_self, Bool.false_eq_true, not_true_eq_false, not_false_eq_true, decide_true, decide_false, Bool.and_true, Bool.true_and, Bool.and_false, Bool.false_and, Bool.not_true, Bool.not_false, Bool.or_true, Bool.true_or, Bool.or_false, Bool.false_or, reduceIte, b2i_t, b2i_f, Int64.add_zero, Int64.zero_add, Int64.sub_eq_add_neg, Int64.add_assoc]; done) | (simp [gBet, if_pos c1, if_neg (not_not_intro c1), decide_eq_true c1, c2, if_pos c3, if_neg (not_not_intro c3), decide_eq_true c3, if_pos c6, if_neg (not_not_intro c6), decide_eq_true c6, if_neg c9, if_pos c9, decide_eq_false c9, Int64.sub_eq_add_neg, Int64.add_assoc]; done)) hw (lv_sub hl [2, 3, 4, 0, 1] rfl)
              · skip
                refine lv_aload_n hx hb dX11_between_72 rfl (lv_at hl 1 rfl) ?_
                refine lv_iload hx hb dX11_between_73 (lv_at hl 4 rfl) ?_
                refine lv_iconst (v := nI 1) hx hb dX11_between_75 (by decide) ?_
                refine x_callVIr (q := 30) (C := RX11) (As := [.int (nI j), .int (nI 1)]) (rest := []) ⟨hx, hb, hml, hown, hts⟩ (ct_X11_of l D cA α n _ hn S j 1 (by omega)) (cwV 2 hts gX11_between_X11_of rfl rfl rfl (by decide +kernel) ⟨Nat.le_of_ble_eq_true rfl, Nat.le_of_ble_eq_true rfl⟩) hK hw hAw (ws_recv hK hw (q := 30) (Nat.lt_of_lt_of_le (Nat.le_of_ble_eq_true rfl : 30 < 191) hn) (mk_30 cA α) rfl) rfl hl.1 rfl (Nat.le_of_ble_eq_true rfl) dX11_between_76 ⟨Nat.zero_le _, Nat.zero_le _⟩ (fun H locs hw => ?_)
                refine lv_iload_n hx hb dX11_between_79 rfl (lv_at hl 2 rfl) ?_
                refine lv_icmp_ne (tgt := 92) hx hb dX11_between_80 (by decide) (fun c10 => ?_) (fun c10 => ?_)
                · skip
                  refine lv_iinc (v := nI (j + 1)) (lv' := [(5, .int (nI (j + 1))), (3, .long (acc + (rVal S j))), (0, .ref (α 30)), (1, .int x), (2, .int y)]) hx hb dX11_between_92 hl (k := 4) rfl (nI_1 _) (by decide) rfl (fun ls hl => ?_)
                  refine lv_goto (tgt := 5) hx hb dX11_between_95 (by decide) ?_
                  exact ih5 (j + 1) (acc + (rVal S j)) _ _ _ (by omega) (by omega) (by rw [sumL, ← hk]; first | (simp only [gBet, if_pos c1, if_neg (not_not_intro c1), decide_eq_true c1, c2, if_pos c3, if_neg (not_not_intro c3), decide_eq_true c3, if_pos c6, if_neg (not_not_intro c6), decide_eq_true c6, if_pos c9, if_neg (not_not_intro c9), decide_eq_true c9, if_neg c10, if_pos c10, decide_eq_false c10, if_true, if_false, eq_self, Bool.false_eq_true, not_true_eq_false, not_false_eq_true, decide_true, decide_false, Bool.and_true, Bool.true_and, Bool.and_false, Bool.false_and, Bool.not_true, Bool.not_false, Bool.or_true, Bool.true_or, Bool.or_false, Bool.false_or, reduceIte, b2i_t, b2i_f, Int64.add_zero, Int64.zero_add, Int64.sub_eq_add_neg, Int64.add_assoc]; done) | (simp [gBet, if_pos c1, if_neg (not_not_intro c1), decide_eq_true c1, c2, if_pos c3, if_neg (not_not_intro c3), decide_eq_true c3, if_pos c6, if_neg (not_not_intro c6), decide_eq_true c6, if_pos c9, if_neg (not_not_intro c9), decide_eq_true c9, if_neg c10, if_pos c10, decide_eq_false c10, Int64.sub_eq_add_neg, Int64.add_assoc]; done)) hw (lv_sub hl [2, 3, 4, 0, 1] rfl)
                · skip
                  refine lv_lload_n hx hb dX11_between_83 rfl (lv_at hl 0 rfl) ?_
                  refine lv_aload_n hx hb dX11_between_84 rfl (lv_at hl 1 rfl) ?_
                  refine lv_iload hx hb dX11_between_85 (lv_at hl 4 rfl) ?_
                  refine x_callVLr (q := 30) (C := RX11) (As := [.int (nI j)]) (rest := [.long (acc + (rVal S j))]) ⟨hx, hb, hml, hown, hts⟩ (ct_X11_valueOf l D cA α n _ hn S j (ho j (by omega))) (cwV 1 hts gX11_between_X11_valueOf rfl rfl rfl (by decide +kernel) ⟨Nat.le_of_ble_eq_true rfl, Nat.le_of_ble_eq_true rfl⟩) hK hw hAw (ws_recv hK hw (q := 30) (Nat.lt_of_lt_of_le (Nat.le_of_ble_eq_true rfl : 30 < 191) hn) (mk_30 cA α) rfl) rfl hl.1 rfl (Nat.le_of_ble_eq_true rfl) dX11_between_87 ⟨Nat.zero_le _, Nat.zero_le _⟩ (fun H locs hw => ?_)
                  refine lv_lsub hx hb dX11_between_90 ?_
                  refine lv_lstore_n (lv' := [(3, .long ((acc + (rVal S j)) - (rVal S j))), (0, .ref (α 30)), (1, .int x), (2, .int y), (5, .int (nI j))]) hx hb dX11_between_91 rfl hl (by decide) rfl (fun ls hl => ?_)
                  refine lv_iinc (v := nI (j + 1)) (lv' := [(5, .int (nI (j + 1))), (3, .long ((acc + (rVal S j)) - (rVal S j))), (0, .ref (α 30)), (1, .int x), (2, .int y)]) hx hb dX11_between_92 hl (k := 4) rfl (nI_1 _) (by decide) rfl (fun ls hl => ?_)
                  refine lv_goto (tgt := 5) hx hb dX11_between_95 (by decide) ?_
                  exact ih5 (j + 1) ((acc + (rVal S j)) - (rVal S j)) _ _ _ (by omega) (by omega) (by rw [sumL, ← hk]; first | (simp only [gBet, if_pos c1, if_neg (not_not_intro c1), decide_eq_true c1, c2, if_pos c3, if_neg (not_not_intro c3), decide_eq_true c3, if_pos c6, if_neg (not_not_intro c6), decide_eq_true c6, if_pos c9, if_neg (not_not_intro c9), decide_eq_true c9, if_pos c10, if_neg (not_not_intro c10), decide_eq_true c10, if_true, if_false, eq_self, Bool.false_eq_true, not_true_eq_false, not_false_eq_true, decide_true, decide_false, Bool.and_true, Bool.true_and, Bool.and_false, Bool.false_and, Bool.not_true, Bool.not_false, Bool.or_true, Bool.true_or, Bool.or_false, Bool.false_or, reduceIte, b2i_t, b2i_f, Int64.add_zero, Int64.zero_add, Int64.sub_eq_add_neg, Int64.add_assoc]; done) | (simp [gBet, if_pos c1, if_neg (not_not_intro c1), decide_eq_true c1, c2, if_pos c3, if_neg (not_not_intro c3), decide_eq_true c3, if_pos c6, if_neg (not_not_intro c6), decide_eq_true c6, if_pos c9, if_neg (not_not_intro c9), decide_eq_true c9, if_pos c10, if_neg (not_not_intro c10), decide_eq_true c10, Int64.sub_eq_add_neg, Int64.add_assoc]; done)) hw (lv_sub hl [2, 3, 4, 0, 1] rfl)
        · skip
          refine lv_goto (tgt := 92) hx hb dX11_between_27 (by decide) ?_
          refine lv_iinc (v := nI (j + 1)) (lv' := [(5, .int (nI (j + 1))), (0, .ref (α 30)), (1, .int x), (2, .int y), (3, .long acc)]) hx hb dX11_between_92 hl (k := 3) rfl (nI_1 _) (by decide) rfl (fun ls hl => ?_)
          refine lv_goto (tgt := 5) hx hb dX11_between_95 (by decide) ?_
          exact ih5 (j + 1) acc _ _ _ (by omega) (by omega) (by rw [sumL, ← hk]; first | (simp only [gBet, if_pos c1, if_neg (not_not_intro c1), decide_eq_true c1, c2, if_true, if_false, eq_self, Bool.false_eq_true, not_true_eq_false, not_false_eq_true, decide_true, decide_false, Bool.and_true, Bool.true_and, Bool.and_false, Bool.false_and, Bool.not_true, Bool.not_false, Bool.or_true, Bool.true_or, Bool.or_false, Bool.false_or, reduceIte, b2i_t, b2i_f, Int64.add_zero, Int64.zero_add, Int64.sub_eq_add_neg, Int64.add_assoc]; done) | (simp [gBet, if_pos c1, if_neg (not_not_intro c1), decide_eq_true c1, c2, Int64.sub_eq_add_neg, Int64.add_assoc]; done)) hw (lv_sub hl [1, 2, 3, 0, 4] rfl)
  exact lp5 _ 0 0 _ _ _ (Nat.lt_succ_self _) (Nat.zero_le _) rfl hw (lv_sub hl [2, 3, 4, 0, 1] rfl)

set_option maxRecDepth 100000 in
set_option maxHeartbeats 1000000 in
theorem ct_X11_differenceOf (l : Launch) (D : va_G) (cA : Nat → ClassId) (α : Nat → Nat) (n sz : Nat) (hn : 191 ≤ n) (S : Mem) (j k : Nat) (h : okR S j) (hk : S.1 34 (8 + 6 * j + 5) = nI k) (h2 : okR S k) : CtL l yX11_differenceOf wsX11_differenceOf ({ frames := 3, cells := 0, slots := 0, locals := 64 }) D cA α n sz [.ref (α 30), .int (nI j)] S (rVal S j - rVal S k) S := by
  refine ct_enter cX11_differenceOf 2 (some .long) (by decide) rfl (Nat.le_of_ble_eq_true rfl) ?_
  intro p e s m below meth c hx hb hr hml hlocks hown hts hK hsz hw ls hl
  have hown : s.vm.findClass RX11 = some m.cls := hown
  have hAw : ∀ z, Aw α n s.heap.size z → Aw α n sz z := by rw [hsz]; exact fun _ h => h
  have hl : lv_has ls 2 [(0, .ref (α 30)), (1, .int (nI j))] := hl
  have h0 := h.1
  refine lv_aload_n hx hb dX11_differenceOf_0 rfl (lv_at hl 0 rfl) ?_
  refine lv_iload_n hx hb dX11_differenceOf_1 rfl (lv_at hl 1 rfl) ?_
  refine x_callVLr (q := 30) (C := RX11) (As := [.int (nI j)]) (rest := []) ⟨hx, hb, hml, hown, hts⟩ (ct_X11_valueOf l D cA α n _ hn S j h) (cwV 1 hts gX11_differenceOf_X11_valueOf rfl rfl rfl (by decide +kernel) ⟨Nat.le_of_ble_eq_true rfl, Nat.le_of_ble_eq_true rfl⟩) hK hw hAw (ws_recv hK hw (q := 30) (Nat.lt_of_lt_of_le (Nat.le_of_ble_eq_true rfl : 30 < 191) hn) (mk_30 cA α) rfl) rfl hl.1 rfl (Nat.le_of_ble_eq_true rfl) dX11_differenceOf_2 ⟨Nat.zero_le _, Nat.zero_le _⟩ (fun H locs hw => ?_)
  refine lv_aload_n hx hb dX11_differenceOf_5 rfl (lv_at hl 0 rfl) ?_
  refine lv_aload_n hx hb dX11_differenceOf_6 rfl (lv_at hl 0 rfl) ?_
  refine lv_iload_n hx hb dX11_differenceOf_7 rfl (lv_at hl 1 rfl) ?_
  refine lv_iconst (v := nI 5) hx hb dX11_differenceOf_8 (by decide) ?_
  refine x_callVIr (q := 30) (C := RX11) (As := [.int (nI j), .int (nI 5)]) (rest := [.ref (α 30), .long (rVal S j)]) ⟨hx, hb, hml, hown, hts⟩ (ct_X11_of l D cA α n _ hn S j 5 (by omega)) (cwV 2 hts gX11_differenceOf_X11_of rfl rfl rfl (by decide +kernel) ⟨Nat.le_of_ble_eq_true rfl, Nat.le_of_ble_eq_true rfl⟩) hK hw hAw (ws_recv hK hw (q := 30) (Nat.lt_of_lt_of_le (Nat.le_of_ble_eq_true rfl : 30 < 191) hn) (mk_30 cA α) rfl) rfl hl.1 rfl (Nat.le_of_ble_eq_true rfl) dX11_differenceOf_9 ⟨Nat.zero_le _, Nat.zero_le _⟩ (fun H locs hw => ?_)
  refine x_topN (k := k) hk ?_
  refine x_callVLr (q := 30) (C := RX11) (As := [.int (nI k)]) (rest := [.long (rVal S j)]) ⟨hx, hb, hml, hown, hts⟩ (ct_X11_valueOf l D cA α n _ hn S k h2) (cwV 1 hts gX11_differenceOf_X11_valueOf rfl rfl rfl (by decide +kernel) ⟨Nat.le_of_ble_eq_true rfl, Nat.le_of_ble_eq_true rfl⟩) hK hw hAw (ws_recv hK hw (q := 30) (Nat.lt_of_lt_of_le (Nat.le_of_ble_eq_true rfl : 30 < 191) hn) (mk_30 cA α) rfl) rfl hl.1 rfl (Nat.le_of_ble_eq_true rfl) dX11_differenceOf_12 ⟨Nat.zero_le _, Nat.zero_le _⟩ (fun H locs hw => ?_)
  refine lv_lsub hx hb dX11_differenceOf_15 ?_
  exact ret_l hx hb hr hlocks hK hw dX11_differenceOf_16 rfl rfl

set_option maxRecDepth 100000 in
set_option maxHeartbeats 1000000 in
theorem ct_X11_wouldDiffer (l : Launch) (D : va_G) (cA : Nat → ClassId) (α : Nat → Nat) (n sz : Nat) (hn : 191 ≤ n) (S : Mem) (j k : Nat) (h : okR S j) (hk : S.1 41 j = nI k) (h2 : okR S k) : CtL l yX11_wouldDiffer wsX11_wouldDiffer ({ frames := 3, cells := 0, slots := 0, locals := 64 }) D cA α n sz [.ref (α 30), .int (nI j)] S (absL (rVal S j - rVal S k)) S := by
  refine ct_enter cX11_wouldDiffer 2 (some .long) (by decide) rfl (Nat.le_of_ble_eq_true rfl) ?_
  intro p e s m below meth c hx hb hr hml hlocks hown hts hK hsz hw ls hl
  have hown : s.vm.findClass RX11 = some m.cls := hown
  have hAw : ∀ z, Aw α n s.heap.size z → Aw α n sz z := by rw [hsz]; exact fun _ h => h
  have hl : lv_has ls 2 [(0, .ref (α 30)), (1, .int (nI j))] := hl
  have h0 := h.1
  refine lv_aload_n hx hb dX11_wouldDiffer_0 rfl (lv_at hl 0 rfl) ?_
  refine lv_iload_n hx hb dX11_wouldDiffer_1 rfl (lv_at hl 1 rfl) ?_
  refine x_callVLr (q := 30) (C := RX11) (As := [.int (nI j)]) (rest := []) ⟨hx, hb, hml, hown, hts⟩ (ct_X11_valueOf l D cA α n _ hn S j h) (cwV 1 hts gX11_wouldDiffer_X11_valueOf rfl rfl rfl (by decide +kernel) ⟨Nat.le_of_ble_eq_true rfl, Nat.le_of_ble_eq_true rfl⟩) hK hw hAw (ws_recv hK hw (q := 30) (Nat.lt_of_lt_of_le (Nat.le_of_ble_eq_true rfl : 30 < 191) hn) (mk_30 cA α) rfl) rfl hl.1 rfl (Nat.le_of_ble_eq_true rfl) dX11_wouldDiffer_2 ⟨Nat.zero_le _, Nat.zero_le _⟩ (fun H locs hw => ?_)
  refine lv_aload_n hx hb dX11_wouldDiffer_5 rfl (lv_at hl 0 rfl) ?_
  refine lv_aload_n hx hb dX11_wouldDiffer_6 rfl (lv_at hl 0 rfl) ?_
  refine x_get (v := .ref (α 41)) (C := RX11) (T := TX11) (N := 24) hx hb hts (fun _ h => List.mem_cons_of_mem _ (List.mem_append_right _ h)) hown hK hw 30 (Nat.lt_of_lt_of_le (Nat.le_of_ble_eq_true rfl : 30 < 191) hn) (mk_30 cA α) rfl 21 (by decide) (hts _ (List.mem_of_getElem? (i := 1) rfl)) (fun _ h9 => h9) rfl dX11_wouldDiffer_7 ?_
  refine lv_iload_n hx hb dX11_wouldDiffer_10 rfl (lv_at hl 1 rfl) ?_
  refine x_iald hx hb hK hw 41 100 (Nat.lt_of_lt_of_le (Nat.le_of_ble_eq_true rfl : 41 < 191) hn) (mk_41 cA α) j rfl (by omega) (by decide) dX11_wouldDiffer_11 ?_
  refine x_topN (k := k) hk ?_
  refine x_callVLr (q := 30) (C := RX11) (As := [.int (nI k)]) (rest := [.long (rVal S j)]) ⟨hx, hb, hml, hown, hts⟩ (ct_X11_valueOf l D cA α n _ hn S k h2) (cwV 1 hts gX11_wouldDiffer_X11_valueOf rfl rfl rfl (by decide +kernel) ⟨Nat.le_of_ble_eq_true rfl, Nat.le_of_ble_eq_true rfl⟩) hK hw hAw (ws_recv hK hw (q := 30) (Nat.lt_of_lt_of_le (Nat.le_of_ble_eq_true rfl : 30 < 191) hn) (mk_30 cA α) rfl) rfl hl.1 rfl (Nat.le_of_ble_eq_true rfl) dX11_wouldDiffer_12 ⟨Nat.zero_le _, Nat.zero_le _⟩ (fun H locs hw => ?_)
  refine lv_lsub hx hb dX11_wouldDiffer_15 ?_
  refine x_callSLr (q := 0) (C := RX0) (As := [.long (rVal S j - rVal S k)]) (rest := []) ⟨hx, hb, hml, hown, hts⟩ (ct_X11_absolute l D cA α n _ hn S (rVal S j - rVal S k)) (va_cwS 1 hts gX11_wouldDiffer_X11_absolute rfl rfl rfl (by decide +kernel) ⟨Nat.le_of_ble_eq_true rfl, Nat.le_of_ble_eq_true rfl⟩) hK hw hAw rfl hl.1 rfl (Nat.le_of_ble_eq_true rfl) dX11_wouldDiffer_16 ⟨Nat.zero_le _, Nat.zero_le _⟩ (fun H locs hw => ?_)
  exact ret_l hx hb hr hlocks hK hw dX11_wouldDiffer_19 rfl rfl

def rLot (S : Mem) (j : Nat) (a b : Int32) : Bool := decide (S.1 34 (608 + 4 * j + 0) = a) && decide (S.1 34 (608 + 4 * j + 1) = b)
def rStk (S : Mem) (a b : Int32) (j : Nat) : Int32 := if rLot S j a b then S.1 34 (608 + 4 * j + 2) else 0
def rPer (S : Mem) (j : Nat) : Int64 := (S.1 34 (608 + 4 * j + 3) - S.1 33 (22 + gN (S.1 34 (608 + 4 * j + 1)))).toInt64
def gPro (S : Mem) (x : Int32) (j : Nat) : Int64 := if x < 0 then (S.1 34 (608 + 4 * j + 2)).toInt64 * rPer S j else if S.1 34 (608 + 4 * j + 0) = x then (S.1 34 (608 + 4 * j + 2)).toInt64 * rPer S j else 0

set_option maxRecDepth 100000 in
set_option maxHeartbeats 1000000 in
theorem ct_X11_isLotOf (l : Launch) (D : va_G) (cA : Nat → ClassId) (α : Nat → Nat) (n sz : Nat) (hn : 191 ≤ n) (S : Mem) (j : Nat) (a b : Int32) (hj : j < 100) : CtI l yX11_isLotOf wsX11_isLotOf ({ frames := 1, cells := 0, slots := 0, locals := 22 }) D cA α n sz [.ref (α 30), .int (nI j), .int a, .int b] S (b2i (rLot S j a b)) S := by
  refine ct_enter cX11_isLotOf 4 (some .boolean) (by decide) rfl (Nat.le_of_ble_eq_true rfl) ?_
  intro p e s m below meth c hx hb hr hml hlocks hown hts hK hsz hw ls hl
  have hown : s.vm.findClass RX11 = some m.cls := hown
  have hAw : ∀ z, Aw α n s.heap.size z → Aw α n sz z := by rw [hsz]; exact fun _ h => h
  have hl : lv_has ls 4 [(0, .ref (α 30)), (1, .int (nI j)), (2, .int a), (3, .int b)] := hl
  refine lv_aload_n hx hb dX11_isLotOf_0 rfl (lv_at hl 0 rfl) ?_
  refine lv_iload_n hx hb dX11_isLotOf_1 rfl (lv_at hl 1 rfl) ?_
  refine lv_iconst (v := nI 0) hx hb dX11_isLotOf_2 (by decide) ?_
  refine x_callVIr (q := 30) (C := RX11) (As := [.int (nI j), .int (nI 0)]) (rest := []) ⟨hx, hb, hml, hown, hts⟩ (ct_X11_lot l D cA α n _ hn S j 0 (by omega)) (cwV 2 hts gX11_isLotOf_X11_lot rfl rfl rfl (by decide +kernel) ⟨Nat.le_of_ble_eq_true rfl, Nat.le_of_ble_eq_true rfl⟩) hK hw hAw (ws_recv hK hw (q := 30) (Nat.lt_of_lt_of_le (Nat.le_of_ble_eq_true rfl : 30 < 191) hn) (mk_30 cA α) rfl) rfl hl.1 rfl (Nat.le_of_ble_eq_true rfl) dX11_isLotOf_3 ⟨Nat.zero_le _, Nat.zero_le _⟩ (fun H locs hw => ?_)
  refine lv_iload_n hx hb dX11_isLotOf_6 rfl (lv_at hl 2 rfl) ?_
  refine lv_icmp_ne (tgt := 24) hx hb dX11_isLotOf_7 (by decide) (fun c1 => ?_) (fun c1 => ?_)
  · skip
    refine lv_iconst (v := nI 0) hx hb dX11_isLotOf_24 (by decide) ?_
    exact ret_z hx hb hr (by first | rfl | decide | exact narB _) hlocks hK hw dX11_isLotOf_25 (by first | (simp only [rLot, if_neg c1, if_pos c1, decide_eq_false c1, if_true, if_false, eq_self, Bool.false_eq_true, not_true_eq_false, not_false_eq_true, decide_true, decide_false, Bool.and_true, Bool.true_and, Bool.and_false, Bool.false_and, Bool.not_true, Bool.not_false, Bool.or_true, Bool.true_or, Bool.or_false, Bool.false_or, reduceIte, b2i_t, b2i_f]; done) | rfl | (simp [rLot, if_neg c1, if_pos c1, decide_eq_false c1, b2i, nI_0, nI_one]; done)) rfl
  · skip
    refine lv_aload_n hx hb dX11_isLotOf_10 rfl (lv_at hl 0 rfl) ?_
    refine lv_iload_n hx hb dX11_isLotOf_11 rfl (lv_at hl 1 rfl) ?_
    refine lv_iconst (v := nI 1) hx hb dX11_isLotOf_12 (by decide) ?_
    refine x_callVIr (q := 30) (C := RX11) (As := [.int (nI j), .int (nI 1)]) (rest := []) ⟨hx, hb, hml, hown, hts⟩ (ct_X11_lot l D cA α n _ hn S j 1 (by omega)) (cwV 2 hts gX11_isLotOf_X11_lot rfl rfl rfl (by decide +kernel) ⟨Nat.le_of_ble_eq_true rfl, Nat.le_of_ble_eq_true rfl⟩) hK hw hAw (ws_recv hK hw (q := 30) (Nat.lt_of_lt_of_le (Nat.le_of_ble_eq_true rfl : 30 < 191) hn) (mk_30 cA α) rfl) rfl hl.1 rfl (Nat.le_of_ble_eq_true rfl) dX11_isLotOf_13 ⟨Nat.zero_le _, Nat.zero_le _⟩ (fun H locs hw => ?_)
    refine lv_iload_n hx hb dX11_isLotOf_16 rfl (lv_at hl 3 rfl) ?_
    refine lv_icmp_ne (tgt := 24) hx hb dX11_isLotOf_17 (by decide) (fun c2 => ?_) (fun c2 => ?_)
    · skip
      refine lv_iconst (v := nI 0) hx hb dX11_isLotOf_24 (by decide) ?_
      exact ret_z hx hb hr (by first | rfl | decide | exact narB _) hlocks hK hw dX11_isLotOf_25 (by first | (simp only [rLot, if_pos c1, if_neg (not_not_intro c1), decide_eq_true c1, if_neg c2, if_pos c2, decide_eq_false c2, if_true, if_false, eq_self, Bool.false_eq_true, not_true_eq_false, not_false_eq_true, decide_true, decide_false, Bool.and_true, Bool.true_and, Bool.and_false, Bool.false_and, Bool.not_true, Bool.not_false, Bool.or_true, Bool.true_or, Bool.or_false, Bool.false_or, reduceIte, b2i_t, b2i_f]; done) | rfl | (simp [rLot, if_pos c1, if_neg (not_not_intro c1), decide_eq_true c1, if_neg c2, if_pos c2, decide_eq_false c2, b2i, nI_0, nI_one]; done)) rfl
    · skip
      refine lv_iconst (v := nI 1) hx hb dX11_isLotOf_20 (by decide) ?_
      refine lv_goto (tgt := 25) hx hb dX11_isLotOf_21 (by decide) ?_
      exact ret_z hx hb hr (by first | rfl | decide | exact narB _) hlocks hK hw dX11_isLotOf_25 (by first | (simp only [rLot, if_pos c1, if_neg (not_not_intro c1), decide_eq_true c1, if_pos c2, if_neg (not_not_intro c2), decide_eq_true c2, if_true, if_false, eq_self, Bool.false_eq_true, not_true_eq_false, not_false_eq_true, decide_true, decide_false, Bool.and_true, Bool.true_and, Bool.and_false, Bool.false_and, Bool.not_true, Bool.not_false, Bool.or_true, Bool.true_or, Bool.or_false, Bool.false_or, reduceIte, b2i_t, b2i_f]; done) | rfl | (simp [rLot, if_pos c1, if_neg (not_not_intro c1), decide_eq_true c1, if_pos c2, if_neg (not_not_intro c2), decide_eq_true c2, b2i, nI_0, nI_one]; done)) rfl

set_option maxRecDepth 100000 in
set_option maxHeartbeats 1000000 in
theorem ct_X11_stockOf (l : Launch) (D : va_G) (cA : Nat → ClassId) (α : Nat → Nat) (n sz : Nat) (hn : 191 ≤ n) (S : Mem) (a b : Int32) (N : Nat) (hN : S.1 34 1 = nI N) (hN2 : N ≤ 100) : CtI l yX11_stockOf wsX11_stockOf ({ frames := 2, cells := 0, slots := 0, locals := 45 }) D cA α n sz [.ref (α 30), .int a, .int b] S (sumI (rStk S a b) N) S := by
  refine ct_enter cX11_stockOf 5 (some .int) (by decide) rfl (Nat.le_of_ble_eq_true rfl) ?_
  intro p e s m below meth c hx hb hr hml hlocks hown hts hK hsz hw ls hl
  have hown : s.vm.findClass RX11 = some m.cls := hown
  have hAw : ∀ z, Aw α n s.heap.size z → Aw α n sz z := by rw [hsz]; exact fun _ h => h
  have hl : lv_has ls 5 [(0, .ref (α 30)), (1, .int a), (2, .int b)] := hl
  refine lv_iconst (v := nI 0) hx hb dX11_stockOf_0 (by decide) ?_
  refine lv_istore_n (lv' := [(3, .int (nI 0)), (0, .ref (α 30)), (1, .int a), (2, .int b)]) hx hb dX11_stockOf_1 rfl hl (by decide) rfl (fun ls hl => ?_)
  refine lv_iconst (v := nI 0) hx hb dX11_stockOf_2 (by decide) ?_
  refine lv_istore (lv' := [(4, .int (nI 0)), (3, .int (nI 0)), (0, .ref (α 30)), (1, .int a), (2, .int b)]) hx hb dX11_stockOf_3 hl (by decide) rfl (fun ls hl => ?_)
  have lp5 : ∀ (t : Nat) (j : Nat) (acc : Int32) (H : Heap) (locs : List Loc) (ls : Array Slot), N - j < t → j ≤ N → acc = sumI (rStk S a b) j → Ws D cA α n (Aw α n sz) s.heap S H locs → lv_has ls 5 [(0, .ref (α 30)), (1, .int a), (2, .int b), (4, .int (nI j)), (3, .int acc)] → W p l e ({ frames := 2, cells := 0, slots := 0, locals := 45 } : Room) s m (List.toArray ([.ref (α 30), .int a, .int b] : List Value)) below meth c H locs 0 0 (MQ below (va_Qi (fun r u => r = (sumI (rStk S a b) N) ∧ u = S) (Pw D cA α n) (Aw α n sz)) (List.toArray ([.ref (α 30), .int a, .int b] : List Value)) s 0 0 (Aw α n sz)) (F0 m 5 ls []) := by
    intro t
    induction t with
    | zero => intro j acc H locs ls ht; exact absurd ht (Nat.not_lt_zero _)
    | succ t ih5 =>
      intro j acc H locs ls ht hj hk hw hl
      refine lv_iload hx hb dX11_stockOf_5 (lv_at hl 3 rfl) ?_
      refine lv_aload_n hx hb dX11_stockOf_7 rfl (lv_at hl 0 rfl) ?_
      refine x_get (v := .ref (α 34)) (C := RX11) (T := TX11) (N := 24) hx hb hts (fun _ h => List.mem_cons_of_mem _ (List.mem_append_right _ h)) hown hK hw 30 (Nat.lt_of_lt_of_le (Nat.le_of_ble_eq_true rfl : 30 < 191) hn) (mk_30 cA α) rfl 13 (by decide) (hts _ (List.mem_of_getElem? (i := 1) rfl)) (fun _ h9 => h9) rfl dX11_stockOf_8 ?_
      refine lv_iconst (v := nI 1) hx hb dX11_stockOf_11 (by decide) ?_
      refine x_iald hx hb hK hw 34 1508 (Nat.lt_of_lt_of_le (Nat.le_of_ble_eq_true rfl : 34 < 191) hn) (mk_34 cA α) 1 rfl (by decide) (by decide) dX11_stockOf_12 ?_
      refine x_topN (k := N) hN ?_
      refine xn_icmp_ge (tgt := 43) hx hb (by omega) (by omega) dX11_stockOf_13 (by decide) (fun c1 => ?_) (fun c1 => ?_)
      · skip
        refine lv_iload_n hx hb dX11_stockOf_43 rfl (lv_at hl 4 rfl) ?_
        exact ret_i hx hb hr hlocks hK hw dX11_stockOf_44 (by rw [hk, show j = N by omega]) rfl
      · skip
        refine lv_aload_n hx hb dX11_stockOf_16 rfl (lv_at hl 0 rfl) ?_
        refine lv_iload hx hb dX11_stockOf_17 (lv_at hl 3 rfl) ?_
        refine lv_iload_n hx hb dX11_stockOf_19 rfl (lv_at hl 1 rfl) ?_
        refine lv_iload_n hx hb dX11_stockOf_20 rfl (lv_at hl 2 rfl) ?_
        refine x_callVIr (q := 30) (C := RX11) (As := [.int (nI j), .int a, .int b]) (rest := []) ⟨hx, hb, hml, hown, hts⟩ (ct_X11_isLotOf l D cA α n _ hn S j a b (by omega)) (cwV 3 hts gX11_stockOf_X11_isLotOf rfl rfl rfl (by decide +kernel) ⟨Nat.le_of_ble_eq_true rfl, Nat.le_of_ble_eq_true rfl⟩) hK hw hAw (ws_recv hK hw (q := 30) (Nat.lt_of_lt_of_le (Nat.le_of_ble_eq_true rfl : 30 < 191) hn) (mk_30 cA α) rfl) rfl hl.1 rfl (Nat.le_of_ble_eq_true rfl) dX11_stockOf_21 ⟨Nat.zero_le _, Nat.zero_le _⟩ (fun H locs hw => ?_)
        refine xb_eq (b := (rLot S j a b)) (tgt := 37) hx hb dX11_stockOf_24 (by decide) (fun c2 => ?_) (fun c2 => ?_)
        · skip
          refine lv_iinc (v := nI (j + 1)) (lv' := [(4, .int (nI (j + 1))), (0, .ref (α 30)), (1, .int a), (2, .int b), (3, .int acc)]) hx hb dX11_stockOf_37 hl (k := 3) rfl (nI_1 _) (by decide) rfl (fun ls hl => ?_)
          refine lv_goto (tgt := 5) hx hb dX11_stockOf_40 (by decide) ?_
          exact ih5 (j + 1) acc _ _ _ (by omega) (by omega) (by rw [sumI, ← hk]; first | (simp only [rStk, if_pos c1, if_neg (not_not_intro c1), decide_eq_true c1, c2, if_true, if_false, eq_self, Bool.false_eq_true, not_true_eq_false, not_false_eq_true, decide_true, decide_false, Bool.and_true, Bool.true_and, Bool.and_false, Bool.false_and, Bool.not_true, Bool.not_false, Bool.or_true, Bool.true_or, Bool.or_false, Bool.false_or, reduceIte, b2i_t, b2i_f, Int32.add_zero]; done) | (simp [rStk, if_pos c1, if_neg (not_not_intro c1), decide_eq_true c1, c2]; done)) hw (lv_sub hl [1, 2, 3, 0, 4] rfl)
        · skip
          refine lv_iload_n hx hb dX11_stockOf_27 rfl (lv_at hl 4 rfl) ?_
          refine lv_aload_n hx hb dX11_stockOf_28 rfl (lv_at hl 0 rfl) ?_
          refine lv_iload hx hb dX11_stockOf_29 (lv_at hl 3 rfl) ?_
          refine lv_iconst (v := nI 2) hx hb dX11_stockOf_31 (by decide) ?_
          refine x_callVIr (q := 30) (C := RX11) (As := [.int (nI j), .int (nI 2)]) (rest := [.int acc]) ⟨hx, hb, hml, hown, hts⟩ (ct_X11_lot l D cA α n _ hn S j 2 (by omega)) (cwV 2 hts gX11_stockOf_X11_lot rfl rfl rfl (by decide +kernel) ⟨Nat.le_of_ble_eq_true rfl, Nat.le_of_ble_eq_true rfl⟩) hK hw hAw (ws_recv hK hw (q := 30) (Nat.lt_of_lt_of_le (Nat.le_of_ble_eq_true rfl : 30 < 191) hn) (mk_30 cA α) rfl) rfl hl.1 rfl (Nat.le_of_ble_eq_true rfl) dX11_stockOf_32 ⟨Nat.zero_le _, Nat.zero_le _⟩ (fun H locs hw => ?_)
          refine lv_iadd hx hb dX11_stockOf_35 ?_
          refine lv_istore_n (lv' := [(3, .int (acc + (S.1 34 (608 + 4 * j + 2)))), (0, .ref (α 30)), (1, .int a), (2, .int b), (4, .int (nI j))]) hx hb dX11_stockOf_36 rfl hl (by decide) rfl (fun ls hl => ?_)
          refine lv_iinc (v := nI (j + 1)) (lv' := [(4, .int (nI (j + 1))), (3, .int (acc + (S.1 34 (608 + 4 * j + 2)))), (0, .ref (α 30)), (1, .int a), (2, .int b)]) hx hb dX11_stockOf_37 hl (k := 4) rfl (nI_1 _) (by decide) rfl (fun ls hl => ?_)
          refine lv_goto (tgt := 5) hx hb dX11_stockOf_40 (by decide) ?_
          exact ih5 (j + 1) (acc + (S.1 34 (608 + 4 * j + 2))) _ _ _ (by omega) (by omega) (by rw [sumI, ← hk]; first | (simp only [rStk, if_pos c1, if_neg (not_not_intro c1), decide_eq_true c1, c2, if_true, if_false, eq_self, Bool.false_eq_true, not_true_eq_false, not_false_eq_true, decide_true, decide_false, Bool.and_true, Bool.true_and, Bool.and_false, Bool.false_and, Bool.not_true, Bool.not_false, Bool.or_true, Bool.true_or, Bool.or_false, Bool.false_or, reduceIte, b2i_t, b2i_f, Int32.add_zero]; done) | (simp [rStk, if_pos c1, if_neg (not_not_intro c1), decide_eq_true c1, c2]; done)) hw (lv_sub hl [2, 3, 4, 0, 1] rfl)
  exact lp5 _ 0 0 _ _ _ (Nat.lt_succ_self _) (Nat.zero_le _) rfl hw (lv_sub hl [2, 3, 4, 0, 1] rfl)

set_option maxRecDepth 100000 in
set_option maxHeartbeats 1000000 in
theorem ct_X11_isPlace (l : Launch) (D : va_G) (cA : Nat → ClassId) (α : Nat → Nat) (n sz : Nat) (hn : 191 ≤ n) (S : Mem) (a b : Int32) : CtI l yX11_isPlace wsX11_isPlace ({ frames := 2, cells := 0, slots := 0, locals := 46 }) D cA α n sz [.ref (α 30), .int a, .int b] S (b2i (isCoR S a && isPrR S b)) S := by
  refine ct_enter cX11_isPlace 3 (some .boolean) (by decide) rfl (Nat.le_of_ble_eq_true rfl) ?_
  intro p e s m below meth c hx hb hr hml hlocks hown hts hK hsz hw ls hl
  have hown : s.vm.findClass RX11 = some m.cls := hown
  have hAw : ∀ z, Aw α n s.heap.size z → Aw α n sz z := by rw [hsz]; exact fun _ h => h
  have hl : lv_has ls 3 [(0, .ref (α 30)), (1, .int a), (2, .int b)] := hl
  refine lv_aload_n hx hb dX11_isPlace_0 rfl (lv_at hl 0 rfl) ?_
  refine lv_iload_n hx hb dX11_isPlace_1 rfl (lv_at hl 1 rfl) ?_
  refine x_callVIr (q := 30) (C := RX11) (As := [.int a]) (rest := []) ⟨hx, hb, hml, hown, hts⟩ (ct_X11_isCompany l D cA α n _ hn S a) (cwV 1 hts gX11_isPlace_X11_isCompany rfl rfl rfl (by decide +kernel) ⟨Nat.le_of_ble_eq_true rfl, Nat.le_of_ble_eq_true rfl⟩) hK hw hAw (ws_recv hK hw (q := 30) (Nat.lt_of_lt_of_le (Nat.le_of_ble_eq_true rfl : 30 < 191) hn) (mk_30 cA α) rfl) rfl hl.1 rfl (Nat.le_of_ble_eq_true rfl) dX11_isPlace_2 ⟨Nat.zero_le _, Nat.zero_le _⟩ (fun H locs hw => ?_)
  refine xb_eq (b := (isCoR S a)) (tgt := 20) hx hb dX11_isPlace_5 (by decide) (fun c1 => ?_) (fun c1 => ?_)
  · skip
    refine lv_iconst (v := nI 0) hx hb dX11_isPlace_20 (by decide) ?_
    exact ret_z hx hb hr (by first | rfl | decide | exact narB _) hlocks hK hw dX11_isPlace_21 (by first | (simp only [eq_self, c1, if_true, if_false, eq_self, Bool.false_eq_true, not_true_eq_false, not_false_eq_true, decide_true, decide_false, Bool.and_true, Bool.true_and, Bool.and_false, Bool.false_and, Bool.not_true, Bool.not_false, Bool.or_true, Bool.true_or, Bool.or_false, Bool.false_or, reduceIte, b2i_t, b2i_f]; done) | rfl | (simp [eq_self, c1, b2i, nI_0, nI_one]; done)) rfl
  · skip
    refine lv_aload_n hx hb dX11_isPlace_8 rfl (lv_at hl 0 rfl) ?_
    refine lv_iload_n hx hb dX11_isPlace_9 rfl (lv_at hl 2 rfl) ?_
    refine x_callVIr (q := 30) (C := RX11) (As := [.int b]) (rest := []) ⟨hx, hb, hml, hown, hts⟩ (ct_X11_isProduct l D cA α n _ hn S b) (cwV 1 hts gX11_isPlace_X11_isProduct rfl rfl rfl (by decide +kernel) ⟨Nat.le_of_ble_eq_true rfl, Nat.le_of_ble_eq_true rfl⟩) hK hw hAw (ws_recv hK hw (q := 30) (Nat.lt_of_lt_of_le (Nat.le_of_ble_eq_true rfl : 30 < 191) hn) (mk_30 cA α) rfl) rfl hl.1 rfl (Nat.le_of_ble_eq_true rfl) dX11_isPlace_10 ⟨Nat.zero_le _, Nat.zero_le _⟩ (fun H locs hw => ?_)
    refine xb_eq (b := (isPrR S b)) (tgt := 20) hx hb dX11_isPlace_13 (by decide) (fun c2 => ?_) (fun c2 => ?_)
    · skip
      refine lv_iconst (v := nI 0) hx hb dX11_isPlace_20 (by decide) ?_
      exact ret_z hx hb hr (by first | rfl | decide | exact narB _) hlocks hK hw dX11_isPlace_21 (by first | (simp only [eq_self, c1, c2, if_true, if_false, eq_self, Bool.false_eq_true, not_true_eq_false, not_false_eq_true, decide_true, decide_false, Bool.and_true, Bool.true_and, Bool.and_false, Bool.false_and, Bool.not_true, Bool.not_false, Bool.or_true, Bool.true_or, Bool.or_false, Bool.false_or, reduceIte, b2i_t, b2i_f]; done) | rfl | (simp [eq_self, c1, c2, b2i, nI_0, nI_one]; done)) rfl
    · skip
      refine lv_iconst (v := nI 1) hx hb dX11_isPlace_16 (by decide) ?_
      refine lv_goto (tgt := 21) hx hb dX11_isPlace_17 (by decide) ?_
      exact ret_z hx hb hr (by first | rfl | decide | exact narB _) hlocks hK hw dX11_isPlace_21 (by first | (simp only [eq_self, c1, c2, if_true, if_false, eq_self, Bool.false_eq_true, not_true_eq_false, not_false_eq_true, decide_true, decide_false, Bool.and_true, Bool.true_and, Bool.and_false, Bool.false_and, Bool.not_true, Bool.not_false, Bool.or_true, Bool.true_or, Bool.or_false, Bool.false_or, reduceIte, b2i_t, b2i_f]; done) | rfl | (simp [eq_self, c1, c2, b2i, nI_0, nI_one]; done)) rfl

set_option maxRecDepth 100000 in
set_option maxHeartbeats 1000000 in
theorem ct_X11_profitPer (l : Launch) (D : va_G) (cA : Nat → ClassId) (α : Nat → Nat) (n sz : Nat) (hn : 191 ≤ n) (S : Mem) (j : Nat) (hj : j < 100) (h : okI (S.1 34 (608 + 4 * j + 1)) 6) : CtL l yX11_profitPer wsX11_profitPer ({ frames := 1, cells := 0, slots := 0, locals := 22 }) D cA α n sz [.ref (α 30), .int (nI j)] S (rPer S j) S := by
  refine ct_enter cX11_profitPer 2 (some .long) (by decide) rfl (Nat.le_of_ble_eq_true rfl) ?_
  intro p e s m below meth c hx hb hr hml hlocks hown hts hK hsz hw ls hl
  have hown : s.vm.findClass RX11 = some m.cls := hown
  have hAw : ∀ z, Aw α n s.heap.size z → Aw α n sz z := by rw [hsz]; exact fun _ h => h
  have hl : lv_has ls 2 [(0, .ref (α 30)), (1, .int (nI j))] := hl
  have h9 := h.2
  refine lv_aload_n hx hb dX11_profitPer_0 rfl (lv_at hl 0 rfl) ?_
  refine lv_iload_n hx hb dX11_profitPer_1 rfl (lv_at hl 1 rfl) ?_
  refine lv_iconst (v := nI 3) hx hb dX11_profitPer_2 (by decide) ?_
  refine x_callVIr (q := 30) (C := RX11) (As := [.int (nI j), .int (nI 3)]) (rest := []) ⟨hx, hb, hml, hown, hts⟩ (ct_X11_lot l D cA α n _ hn S j 3 (by omega)) (cwV 2 hts gX11_profitPer_X11_lot rfl rfl rfl (by decide +kernel) ⟨Nat.le_of_ble_eq_true rfl, Nat.le_of_ble_eq_true rfl⟩) hK hw hAw (ws_recv hK hw (q := 30) (Nat.lt_of_lt_of_le (Nat.le_of_ble_eq_true rfl : 30 < 191) hn) (mk_30 cA α) rfl) rfl hl.1 rfl (Nat.le_of_ble_eq_true rfl) dX11_profitPer_3 ⟨Nat.zero_le _, Nat.zero_le _⟩ (fun H locs hw => ?_)
  refine lv_aload_n hx hb dX11_profitPer_6 rfl (lv_at hl 0 rfl) ?_
  refine x_get (v := .ref (α 33)) (C := RX11) (T := TX11) (N := 24) hx hb hts (fun _ h => List.mem_cons_of_mem _ (List.mem_append_right _ h)) hown hK hw 30 (Nat.lt_of_lt_of_le (Nat.le_of_ble_eq_true rfl : 30 < 191) hn) (mk_30 cA α) rfl 11 (by decide) (hts _ (List.mem_of_getElem? (i := 1) rfl)) (fun _ h9 => h9) rfl dX11_profitPer_7 ?_
  refine lv_bipush (v := nI 22) hx hb dX11_profitPer_10 (by decide) ?_
  refine lv_aload_n hx hb dX11_profitPer_12 rfl (lv_at hl 0 rfl) ?_
  refine lv_iload_n hx hb dX11_profitPer_13 rfl (lv_at hl 1 rfl) ?_
  refine lv_iconst (v := nI 1) hx hb dX11_profitPer_14 (by decide) ?_
  refine x_callVIr (q := 30) (C := RX11) (As := [.int (nI j), .int (nI 1)]) (rest := [.int (nI 22), .ref (α 33), .int (S.1 34 (608 + 4 * j + 3))]) ⟨hx, hb, hml, hown, hts⟩ (ct_X11_lot l D cA α n _ hn S j 1 (by omega)) (cwV 2 hts gX11_profitPer_X11_lot rfl rfl rfl (by decide +kernel) ⟨Nat.le_of_ble_eq_true rfl, Nat.le_of_ble_eq_true rfl⟩) hK hw hAw (ws_recv hK hw (q := 30) (Nat.lt_of_lt_of_le (Nat.le_of_ble_eq_true rfl : 30 < 191) hn) (mk_30 cA α) rfl) rfl hl.1 rfl (Nat.le_of_ble_eq_true rfl) dX11_profitPer_15 ⟨Nat.zero_le _, Nat.zero_le _⟩ (fun H locs hw => ?_)
  refine x_topN (k := gN (S.1 34 (608 + 4 * j + 1))) h.1 ?_
  refine xn_iadd hx hb dX11_profitPer_18 ?_
  refine x_iald hx hb hK hw 33 40 (Nat.lt_of_lt_of_le (Nat.le_of_ble_eq_true rfl : 33 < 191) hn) (mk_33 cA α) (22 + (gN (S.1 34 (608 + 4 * j + 1)))) rfl (by omega) (by decide) dX11_profitPer_19 ?_
  refine lv_isub hx hb dX11_profitPer_20 ?_
  refine lv_i2l hx hb dX11_profitPer_21 rfl ?_
  exact ret_l hx hb hr hlocks hK hw dX11_profitPer_22 rfl rfl

set_option maxRecDepth 100000 in
set_option maxHeartbeats 1000000 in
theorem ct_X11_profitOf (l : Launch) (D : va_G) (cA : Nat → ClassId) (α : Nat → Nat) (n sz : Nat) (hn : 191 ≤ n) (S : Mem) (x : Int32) (N : Nat) (hN : S.1 34 1 = nI N) (hN2 : N ≤ 100) (ho : ∀ j, j < N → okI (S.1 34 (608 + 4 * j + 1)) 6) : CtL l yX11_profitOf wsX11_profitOf ({ frames := 2, cells := 0, slots := 0, locals := 43 }) D cA α n sz [.ref (α 30), .int x] S (sumL (gPro S x) N) S := by
  refine ct_enter cX11_profitOf 5 (some .long) (by decide) rfl (Nat.le_of_ble_eq_true rfl) ?_
  intro p e s m below meth c hx hb hr hml hlocks hown hts hK hsz hw ls hl
  have hown : s.vm.findClass RX11 = some m.cls := hown
  have hAw : ∀ z, Aw α n s.heap.size z → Aw α n sz z := by rw [hsz]; exact fun _ h => h
  have hl : lv_has ls 5 [(0, .ref (α 30)), (1, .int x)] := hl
  refine lv_lconst (v := 0) hx hb dX11_profitOf_0 (by decide) ?_
  refine lv_lstore_n (lv' := [(2, .long 0), (0, .ref (α 30)), (1, .int x)]) hx hb dX11_profitOf_1 rfl hl (by decide) rfl (fun ls hl => ?_)
  refine lv_iconst (v := nI 0) hx hb dX11_profitOf_2 (by decide) ?_
  refine lv_istore (lv' := [(4, .int (nI 0)), (2, .long 0), (0, .ref (α 30)), (1, .int x)]) hx hb dX11_profitOf_3 hl (by decide) rfl (fun ls hl => ?_)
  have lp5 : ∀ (t : Nat) (j : Nat) (acc : Int64) (H : Heap) (locs : List Loc) (ls : Array Slot), N - j < t → j ≤ N → acc = sumL (gPro S x) j → Ws D cA α n (Aw α n sz) s.heap S H locs → lv_has ls 5 [(0, .ref (α 30)), (1, .int x), (4, .int (nI j)), (2, .long acc)] → W p l e ({ frames := 2, cells := 0, slots := 0, locals := 43 } : Room) s m (List.toArray ([.ref (α 30), .int x] : List Value)) below meth c H locs 0 0 (MQ below (va_Ql (fun r u => r = (sumL (gPro S x) N) ∧ u = S) (Pw D cA α n) (Aw α n sz)) (List.toArray ([.ref (α 30), .int x] : List Value)) s 0 0 (Aw α n sz)) (F0 m 5 ls []) := by
    intro t
    induction t with
    | zero => intro j acc H locs ls ht; exact absurd ht (Nat.not_lt_zero _)
    | succ t ih5 =>
      intro j acc H locs ls ht hj hk hw hl
      refine lv_iload hx hb dX11_profitOf_5 (lv_at hl 2 rfl) ?_
      refine lv_aload_n hx hb dX11_profitOf_7 rfl (lv_at hl 0 rfl) ?_
      refine x_get (v := .ref (α 34)) (C := RX11) (T := TX11) (N := 24) hx hb hts (fun _ h => List.mem_cons_of_mem _ (List.mem_append_right _ h)) hown hK hw 30 (Nat.lt_of_lt_of_le (Nat.le_of_ble_eq_true rfl : 30 < 191) hn) (mk_30 cA α) rfl 13 (by decide) (hts _ (List.mem_of_getElem? (i := 1) rfl)) (fun _ h9 => h9) rfl dX11_profitOf_8 ?_
      refine lv_iconst (v := nI 1) hx hb dX11_profitOf_11 (by decide) ?_
      refine x_iald hx hb hK hw 34 1508 (Nat.lt_of_lt_of_le (Nat.le_of_ble_eq_true rfl : 34 < 191) hn) (mk_34 cA α) 1 rfl (by decide) (by decide) dX11_profitOf_12 ?_
      refine x_topN (k := N) hN ?_
      refine xn_icmp_ge (tgt := 55) hx hb (by omega) (by omega) dX11_profitOf_13 (by decide) (fun c1 => ?_) (fun c1 => ?_)
      · skip
        refine lv_lload_n hx hb dX11_profitOf_55 rfl (lv_at hl 3 rfl) ?_
        exact ret_l hx hb hr hlocks hK hw dX11_profitOf_56 (by rw [hk, show j = N by omega]) rfl
      · skip
        refine lv_iload_n hx hb dX11_profitOf_16 rfl (lv_at hl 1 rfl) ?_
        refine lv_if_lt (tgt := 31) hx hb dX11_profitOf_17 (by decide) (fun c2 => ?_) (fun c2 => ?_)
        · skip
          refine lv_lload_n hx hb dX11_profitOf_31 rfl (lv_at hl 3 rfl) ?_
          refine lv_aload_n hx hb dX11_profitOf_32 rfl (lv_at hl 0 rfl) ?_
          refine lv_iload hx hb dX11_profitOf_33 (lv_at hl 2 rfl) ?_
          refine lv_iconst (v := nI 2) hx hb dX11_profitOf_35 (by decide) ?_
          refine x_callVIr (q := 30) (C := RX11) (As := [.int (nI j), .int (nI 2)]) (rest := [.long acc]) ⟨hx, hb, hml, hown, hts⟩ (ct_X11_lot l D cA α n _ hn S j 2 (by omega)) (cwV 2 hts gX11_profitOf_X11_lot rfl rfl rfl (by decide +kernel) ⟨Nat.le_of_ble_eq_true rfl, Nat.le_of_ble_eq_true rfl⟩) hK hw hAw (ws_recv hK hw (q := 30) (Nat.lt_of_lt_of_le (Nat.le_of_ble_eq_true rfl : 30 < 191) hn) (mk_30 cA α) rfl) rfl hl.1 rfl (Nat.le_of_ble_eq_true rfl) dX11_profitOf_36 ⟨Nat.zero_le _, Nat.zero_le _⟩ (fun H locs hw => ?_)
          refine lv_i2l hx hb dX11_profitOf_39 rfl ?_
          refine lv_aload_n hx hb dX11_profitOf_40 rfl (lv_at hl 0 rfl) ?_
          refine lv_iload hx hb dX11_profitOf_41 (lv_at hl 2 rfl) ?_
          refine x_callVLr (q := 30) (C := RX11) (As := [.int (nI j)]) (rest := [.long ((S.1 34 (608 + 4 * j + 2)).toInt64), .long acc]) ⟨hx, hb, hml, hown, hts⟩ (ct_X11_profitPer l D cA α n _ hn S j (by omega) (ho j (by omega))) (cwV 1 hts gX11_profitOf_X11_profitPer rfl rfl rfl (by decide +kernel) ⟨Nat.le_of_ble_eq_true rfl, Nat.le_of_ble_eq_true rfl⟩) hK hw hAw (ws_recv hK hw (q := 30) (Nat.lt_of_lt_of_le (Nat.le_of_ble_eq_true rfl : 30 < 191) hn) (mk_30 cA α) rfl) rfl hl.1 rfl (Nat.le_of_ble_eq_true rfl) dX11_profitOf_43 ⟨Nat.zero_le _, Nat.zero_le _⟩ (fun H locs hw => ?_)
          refine lv_lmul hx hb dX11_profitOf_46 ?_
          refine lv_ladd hx hb dX11_profitOf_47 ?_
          refine lv_lstore_n (lv' := [(2, .long (acc + (((S.1 34 (608 + 4 * j + 2)).toInt64) * (rPer S j)))), (0, .ref (α 30)), (1, .int x), (4, .int (nI j))]) hx hb dX11_profitOf_48 rfl hl (by decide) rfl (fun ls hl => ?_)
          refine lv_iinc (v := nI (j + 1)) (lv' := [(4, .int (nI (j + 1))), (2, .long (acc + (((S.1 34 (608 + 4 * j + 2)).toInt64) * (rPer S j)))), (0, .ref (α 30)), (1, .int x)]) hx hb dX11_profitOf_49 hl (k := 3) rfl (nI_1 _) (by decide) rfl (fun ls hl => ?_)
          refine lv_goto (tgt := 5) hx hb dX11_profitOf_52 (by decide) ?_
          exact ih5 (j + 1) (acc + (((S.1 34 (608 + 4 * j + 2)).toInt64) * (rPer S j))) _ _ _ (by omega) (by omega) (by rw [sumL, ← hk]; first | (simp only [gPro, if_pos c1, if_neg (not_not_intro c1), decide_eq_true c1, if_pos c2, if_neg (not_not_intro c2), decide_eq_true c2, if_true, if_false, eq_self, Bool.false_eq_true, not_true_eq_false, not_false_eq_true, decide_true, decide_false, Bool.and_true, Bool.true_and, Bool.and_false, Bool.false_and, Bool.not_true, Bool.not_false, Bool.or_true, Bool.true_or, Bool.or_false, Bool.false_or, reduceIte, b2i_t, b2i_f, Int64.add_zero, Int64.zero_add, Int64.sub_eq_add_neg, Int64.add_assoc]; done) | (simp [gPro, if_pos c1, if_neg (not_not_intro c1), decide_eq_true c1, if_pos c2, if_neg (not_not_intro c2), decide_eq_true c2, Int64.sub_eq_add_neg, Int64.add_assoc]; done)) hw (lv_sub hl [2, 3, 0, 1] rfl)
        · skip
          refine lv_aload_n hx hb dX11_profitOf_20 rfl (lv_at hl 0 rfl) ?_
          refine lv_iload hx hb dX11_profitOf_21 (lv_at hl 2 rfl) ?_
          refine lv_iconst (v := nI 0) hx hb dX11_profitOf_23 (by decide) ?_
          refine x_callVIr (q := 30) (C := RX11) (As := [.int (nI j), .int (nI 0)]) (rest := []) ⟨hx, hb, hml, hown, hts⟩ (ct_X11_lot l D cA α n _ hn S j 0 (by omega)) (cwV 2 hts gX11_profitOf_X11_lot rfl rfl rfl (by decide +kernel) ⟨Nat.le_of_ble_eq_true rfl, Nat.le_of_ble_eq_true rfl⟩) hK hw hAw (ws_recv hK hw (q := 30) (Nat.lt_of_lt_of_le (Nat.le_of_ble_eq_true rfl : 30 < 191) hn) (mk_30 cA α) rfl) rfl hl.1 rfl (Nat.le_of_ble_eq_true rfl) dX11_profitOf_24 ⟨Nat.zero_le _, Nat.zero_le _⟩ (fun H locs hw => ?_)
          refine lv_iload_n hx hb dX11_profitOf_27 rfl (lv_at hl 1 rfl) ?_
          refine lv_icmp_ne (tgt := 49) hx hb dX11_profitOf_28 (by decide) (fun c3 => ?_) (fun c3 => ?_)
          · skip
            refine lv_iinc (v := nI (j + 1)) (lv' := [(4, .int (nI (j + 1))), (0, .ref (α 30)), (1, .int x), (2, .long acc)]) hx hb dX11_profitOf_49 hl (k := 2) rfl (nI_1 _) (by decide) rfl (fun ls hl => ?_)
            refine lv_goto (tgt := 5) hx hb dX11_profitOf_52 (by decide) ?_
            exact ih5 (j + 1) acc _ _ _ (by omega) (by omega) (by rw [sumL, ← hk]; first | (simp only [gPro, if_pos c1, if_neg (not_not_intro c1), decide_eq_true c1, if_neg c2, if_pos c2, decide_eq_false c2, if_neg c3, if_pos c3, decide_eq_false c3, if_true, if_false, eq_self, Bool.false_eq_true, not_true_eq_false, not_false_eq_true, decide_true, decide_false, Bool.and_true, Bool.true_and, Bool.and_false, Bool.false_and, Bool.not_true, Bool.not_false, Bool.or_true, Bool.true_or, Bool.or_false, Bool.false_or, reduceIte, b2i_t, b2i_f, Int64.add_zero, Int64.zero_add, Int64.sub_eq_add_neg, Int64.add_assoc]; done) | (simp [gPro, if_pos c1, if_neg (not_not_intro c1), decide_eq_true c1, if_neg c2, if_pos c2, decide_eq_false c2, if_neg c3, if_pos c3, decide_eq_false c3, Int64.sub_eq_add_neg, Int64.add_assoc]; done)) hw (lv_sub hl [1, 2, 0, 3] rfl)
          · skip
            refine lv_lload_n hx hb dX11_profitOf_31 rfl (lv_at hl 3 rfl) ?_
            refine lv_aload_n hx hb dX11_profitOf_32 rfl (lv_at hl 0 rfl) ?_
            refine lv_iload hx hb dX11_profitOf_33 (lv_at hl 2 rfl) ?_
            refine lv_iconst (v := nI 2) hx hb dX11_profitOf_35 (by decide) ?_
            refine x_callVIr (q := 30) (C := RX11) (As := [.int (nI j), .int (nI 2)]) (rest := [.long acc]) ⟨hx, hb, hml, hown, hts⟩ (ct_X11_lot l D cA α n _ hn S j 2 (by omega)) (cwV 2 hts gX11_profitOf_X11_lot rfl rfl rfl (by decide +kernel) ⟨Nat.le_of_ble_eq_true rfl, Nat.le_of_ble_eq_true rfl⟩) hK hw hAw (ws_recv hK hw (q := 30) (Nat.lt_of_lt_of_le (Nat.le_of_ble_eq_true rfl : 30 < 191) hn) (mk_30 cA α) rfl) rfl hl.1 rfl (Nat.le_of_ble_eq_true rfl) dX11_profitOf_36 ⟨Nat.zero_le _, Nat.zero_le _⟩ (fun H locs hw => ?_)
            refine lv_i2l hx hb dX11_profitOf_39 rfl ?_
            refine lv_aload_n hx hb dX11_profitOf_40 rfl (lv_at hl 0 rfl) ?_
            refine lv_iload hx hb dX11_profitOf_41 (lv_at hl 2 rfl) ?_
            refine x_callVLr (q := 30) (C := RX11) (As := [.int (nI j)]) (rest := [.long ((S.1 34 (608 + 4 * j + 2)).toInt64), .long acc]) ⟨hx, hb, hml, hown, hts⟩ (ct_X11_profitPer l D cA α n _ hn S j (by omega) (ho j (by omega))) (cwV 1 hts gX11_profitOf_X11_profitPer rfl rfl rfl (by decide +kernel) ⟨Nat.le_of_ble_eq_true rfl, Nat.le_of_ble_eq_true rfl⟩) hK hw hAw (ws_recv hK hw (q := 30) (Nat.lt_of_lt_of_le (Nat.le_of_ble_eq_true rfl : 30 < 191) hn) (mk_30 cA α) rfl) rfl hl.1 rfl (Nat.le_of_ble_eq_true rfl) dX11_profitOf_43 ⟨Nat.zero_le _, Nat.zero_le _⟩ (fun H locs hw => ?_)
            refine lv_lmul hx hb dX11_profitOf_46 ?_
            refine lv_ladd hx hb dX11_profitOf_47 ?_
            refine lv_lstore_n (lv' := [(2, .long (acc + (((S.1 34 (608 + 4 * j + 2)).toInt64) * (rPer S j)))), (0, .ref (α 30)), (1, .int x), (4, .int (nI j))]) hx hb dX11_profitOf_48 rfl hl (by decide) rfl (fun ls hl => ?_)
            refine lv_iinc (v := nI (j + 1)) (lv' := [(4, .int (nI (j + 1))), (2, .long (acc + (((S.1 34 (608 + 4 * j + 2)).toInt64) * (rPer S j)))), (0, .ref (α 30)), (1, .int x)]) hx hb dX11_profitOf_49 hl (k := 3) rfl (nI_1 _) (by decide) rfl (fun ls hl => ?_)
            refine lv_goto (tgt := 5) hx hb dX11_profitOf_52 (by decide) ?_
            exact ih5 (j + 1) (acc + (((S.1 34 (608 + 4 * j + 2)).toInt64) * (rPer S j))) _ _ _ (by omega) (by omega) (by rw [sumL, ← hk]; first | (simp only [gPro, if_pos c1, if_neg (not_not_intro c1), decide_eq_true c1, if_neg c2, if_pos c2, decide_eq_false c2, if_pos c3, if_neg (not_not_intro c3), decide_eq_true c3, if_true, if_false, eq_self, Bool.false_eq_true, not_true_eq_false, not_false_eq_true, decide_true, decide_false, Bool.and_true, Bool.true_and, Bool.and_false, Bool.false_and, Bool.not_true, Bool.not_false, Bool.or_true, Bool.true_or, Bool.or_false, Bool.false_or, reduceIte, b2i_t, b2i_f, Int64.add_zero, Int64.zero_add, Int64.sub_eq_add_neg, Int64.add_assoc]; done) | (simp [gPro, if_pos c1, if_neg (not_not_intro c1), decide_eq_true c1, if_neg c2, if_pos c2, decide_eq_false c2, if_pos c3, if_neg (not_not_intro c3), decide_eq_true c3, Int64.sub_eq_add_neg, Int64.add_assoc]; done)) hw (lv_sub hl [2, 3, 0, 1] rfl)
  exact lp5 _ 0 0 _ _ _ (Nat.lt_succ_self _) (Nat.zero_le _) rfl hw (lv_sub hl [2, 3, 0, 1] rfl)

set_option maxRecDepth 100000 in
set_option maxHeartbeats 1000000 in
theorem ct_X11_canTake (l : Launch) (D : va_G) (cA : Nat → ClassId) (α : Nat → Nat) (n sz : Nat) (hn : 191 ≤ n) (S : Mem) (a : Int32) (b : Nat) (q : Int32) (hb6 : b < 6) (N : Nat) (hN : S.1 34 1 = nI N) (hN2 : N ≤ 100) : CtI l yX11_canTake wsX11_canTake ({ frames := 3, cells := 0, slots := 0, locals := 69 }) D cA α n sz [.ref (α 30), .int a, .int (nI b), .int q] S (b2i (decide (S.1 33 (16 + b) = a) || !decide (sumI (rStk S a (nI b)) N < q))) S := by
  refine ct_enter cX11_canTake 4 (some .boolean) (by decide) rfl (Nat.le_of_ble_eq_true rfl) ?_
  intro p e s m below meth c hx hb hr hml hlocks hown hts hK hsz hw ls hl
  have hown : s.vm.findClass RX11 = some m.cls := hown
  have hAw : ∀ z, Aw α n s.heap.size z → Aw α n sz z := by rw [hsz]; exact fun _ h => h
  have hl : lv_has ls 4 [(0, .ref (α 30)), (1, .int a), (2, .int (nI b)), (3, .int q)] := hl
  refine lv_aload_n hx hb dX11_canTake_0 rfl (lv_at hl 0 rfl) ?_
  refine x_get (v := .ref (α 33)) (C := RX11) (T := TX11) (N := 24) hx hb hts (fun _ h => List.mem_cons_of_mem _ (List.mem_append_right _ h)) hown hK hw 30 (Nat.lt_of_lt_of_le (Nat.le_of_ble_eq_true rfl : 30 < 191) hn) (mk_30 cA α) rfl 11 (by decide) (hts _ (List.mem_of_getElem? (i := 1) rfl)) (fun _ h9 => h9) rfl dX11_canTake_1 ?_
  refine lv_bipush (v := nI 16) hx hb dX11_canTake_4 (by decide) ?_
  refine lv_iload_n hx hb dX11_canTake_6 rfl (lv_at hl 2 rfl) ?_
  refine xn_iadd hx hb dX11_canTake_7 ?_
  refine x_iald hx hb hK hw 33 40 (Nat.lt_of_lt_of_le (Nat.le_of_ble_eq_true rfl : 33 < 191) hn) (mk_33 cA α) (16 + b) rfl (by omega) (by decide) dX11_canTake_8 ?_
  refine lv_iload_n hx hb dX11_canTake_9 rfl (lv_at hl 1 rfl) ?_
  refine lv_icmp_eq (tgt := 23) hx hb dX11_canTake_10 (by decide) (fun c1 => ?_) (fun c1 => ?_)
  · skip
    refine lv_iconst (v := nI 1) hx hb dX11_canTake_23 (by decide) ?_
    refine lv_goto (tgt := 28) hx hb dX11_canTake_24 (by decide) ?_
    exact ret_z hx hb hr (by first | rfl | decide | exact narB _) hlocks hK hw dX11_canTake_28 (by first | (simp only [eq_self, if_pos c1, if_neg (not_not_intro c1), decide_eq_true c1, if_true, if_false, eq_self, Bool.false_eq_true, not_true_eq_false, not_false_eq_true, decide_true, decide_false, Bool.and_true, Bool.true_and, Bool.and_false, Bool.false_and, Bool.not_true, Bool.not_false, Bool.or_true, Bool.true_or, Bool.or_false, Bool.false_or, reduceIte, b2i_t, b2i_f]; done) | rfl | (simp [eq_self, if_pos c1, if_neg (not_not_intro c1), decide_eq_true c1, b2i, nI_0, nI_one]; done)) rfl
  · skip
    refine lv_aload_n hx hb dX11_canTake_13 rfl (lv_at hl 0 rfl) ?_
    refine lv_iload_n hx hb dX11_canTake_14 rfl (lv_at hl 1 rfl) ?_
    refine lv_iload_n hx hb dX11_canTake_15 rfl (lv_at hl 2 rfl) ?_
    refine x_callVIr (q := 30) (C := RX11) (As := [.int a, .int (nI b)]) (rest := []) ⟨hx, hb, hml, hown, hts⟩ (ct_X11_stockOf l D cA α n _ hn S a (nI b) N hN hN2) (cwV 2 hts gX11_canTake_X11_stockOf rfl rfl rfl (by decide +kernel) ⟨Nat.le_of_ble_eq_true rfl, Nat.le_of_ble_eq_true rfl⟩) hK hw hAw (ws_recv hK hw (q := 30) (Nat.lt_of_lt_of_le (Nat.le_of_ble_eq_true rfl : 30 < 191) hn) (mk_30 cA α) rfl) rfl hl.1 rfl (Nat.le_of_ble_eq_true rfl) dX11_canTake_16 ⟨Nat.zero_le _, Nat.zero_le _⟩ (fun H locs hw => ?_)
    refine lv_iload_n hx hb dX11_canTake_19 rfl (lv_at hl 3 rfl) ?_
    refine lv_icmp_lt (tgt := 27) hx hb dX11_canTake_20 (by decide) (fun c2 => ?_) (fun c2 => ?_)
    · skip
      refine lv_iconst (v := nI 0) hx hb dX11_canTake_27 (by decide) ?_
      exact ret_z hx hb hr (by first | rfl | decide | exact narB _) hlocks hK hw dX11_canTake_28 (by first | (simp only [eq_self, if_neg c1, if_pos c1, decide_eq_false c1, if_pos c2, if_neg (not_not_intro c2), decide_eq_true c2, if_true, if_false, eq_self, Bool.false_eq_true, not_true_eq_false, not_false_eq_true, decide_true, decide_false, Bool.and_true, Bool.true_and, Bool.and_false, Bool.false_and, Bool.not_true, Bool.not_false, Bool.or_true, Bool.true_or, Bool.or_false, Bool.false_or, reduceIte, b2i_t, b2i_f]; done) | rfl | (simp [eq_self, if_neg c1, if_pos c1, decide_eq_false c1, if_pos c2, if_neg (not_not_intro c2), decide_eq_true c2, b2i, nI_0, nI_one]; done)) rfl
    · skip
      refine lv_iconst (v := nI 1) hx hb dX11_canTake_23 (by decide) ?_
      refine lv_goto (tgt := 28) hx hb dX11_canTake_24 (by decide) ?_
      exact ret_z hx hb hr (by first | rfl | decide | exact narB _) hlocks hK hw dX11_canTake_28 (by first | (simp only [eq_self, if_neg c1, if_pos c1, decide_eq_false c1, if_neg c2, if_pos c2, decide_eq_false c2, if_true, if_false, eq_self, Bool.false_eq_true, not_true_eq_false, not_false_eq_true, decide_true, decide_false, Bool.and_true, Bool.true_and, Bool.and_false, Bool.false_and, Bool.not_true, Bool.not_false, Bool.or_true, Bool.true_or, Bool.or_false, Bool.false_or, reduceIte, b2i_t, b2i_f]; done) | rfl | (simp [eq_self, if_neg c1, if_pos c1, decide_eq_false c1, if_neg c2, if_pos c2, decide_eq_false c2, b2i, nI_0, nI_one]; done)) rfl

def rBnd (S : Mem) (p w : Nat) : Int32 := S.1 33 (22 + p) + S.1 33 (22 + p) * S.1 33 (w + p) / nI 100
def rApt (a lo hi : Int32) : Int64 := if lo ≤ a then (if a ≤ hi then 0 else (a - hi).toInt64) else (a - lo).toInt64
def rGap (S : Mem) (d : Nat) : Int64 := rApt (S.1 34 (1008 + 5 * d + 4)) (rBnd S (gN (S.1 34 (1008 + 5 * d + 0))) 28) (rBnd S (gN (S.1 34 (1008 + 5 * d + 0))) 34) * (S.1 34 (1008 + 5 * d + 3)).toInt64

set_option maxRecDepth 100000 in
set_option maxHeartbeats 1000000 in
theorem ct_X11_bound (l : Launch) (D : va_G) (cA : Nat → ClassId) (α : Nat → Nat) (n sz : Nat) (hn : 191 ≤ n) (S : Mem) (b w : Nat) (hb6 : b < 6) (hw9 : w ≤ 34) : CtI l yX11_bound wsX11_bound ({ frames := 0, cells := 0, slots := 0, locals := 0 }) D cA α n sz [.ref (α 30), .int (nI b), .int (nI w)] S (rBnd S b w) S := by
  refine ct_enter cX11_bound 3 (some .int) (by decide) rfl (Nat.le_of_ble_eq_true rfl) ?_
  intro p e s m below meth c hx hb hr hml hlocks hown hts hK hsz hw ls hl
  have hown : s.vm.findClass RX11 = some m.cls := hown
  have hAw : ∀ z, Aw α n s.heap.size z → Aw α n sz z := by rw [hsz]; exact fun _ h => h
  have hl : lv_has ls 3 [(0, .ref (α 30)), (1, .int (nI b)), (2, .int (nI w))] := hl
  refine lv_aload_n hx hb dX11_bound_0 rfl (lv_at hl 0 rfl) ?_
  refine x_get (v := .ref (α 33)) (C := RX11) (T := TX11) (N := 24) hx hb hts (fun _ h => List.mem_cons_of_mem _ (List.mem_append_right _ h)) hown hK hw 30 (Nat.lt_of_lt_of_le (Nat.le_of_ble_eq_true rfl : 30 < 191) hn) (mk_30 cA α) rfl 11 (by decide) (hts _ (List.mem_of_getElem? (i := 1) rfl)) (fun _ h9 => h9) rfl dX11_bound_1 ?_
  refine lv_bipush (v := nI 22) hx hb dX11_bound_4 (by decide) ?_
  refine lv_iload_n hx hb dX11_bound_6 rfl (lv_at hl 1 rfl) ?_
  refine xn_iadd hx hb dX11_bound_7 ?_
  refine x_iald hx hb hK hw 33 40 (Nat.lt_of_lt_of_le (Nat.le_of_ble_eq_true rfl : 33 < 191) hn) (mk_33 cA α) (22 + b) rfl (by omega) (by decide) dX11_bound_8 ?_
  refine lv_aload_n hx hb dX11_bound_9 rfl (lv_at hl 0 rfl) ?_
  refine x_get (v := .ref (α 33)) (C := RX11) (T := TX11) (N := 24) hx hb hts (fun _ h => List.mem_cons_of_mem _ (List.mem_append_right _ h)) hown hK hw 30 (Nat.lt_of_lt_of_le (Nat.le_of_ble_eq_true rfl : 30 < 191) hn) (mk_30 cA α) rfl 11 (by decide) (hts _ (List.mem_of_getElem? (i := 1) rfl)) (fun _ h9 => h9) rfl dX11_bound_10 ?_
  refine lv_bipush (v := nI 22) hx hb dX11_bound_13 (by decide) ?_
  refine lv_iload_n hx hb dX11_bound_15 rfl (lv_at hl 1 rfl) ?_
  refine xn_iadd hx hb dX11_bound_16 ?_
  refine x_iald hx hb hK hw 33 40 (Nat.lt_of_lt_of_le (Nat.le_of_ble_eq_true rfl : 33 < 191) hn) (mk_33 cA α) (22 + b) rfl (by omega) (by decide) dX11_bound_17 ?_
  refine lv_aload_n hx hb dX11_bound_18 rfl (lv_at hl 0 rfl) ?_
  refine x_get (v := .ref (α 33)) (C := RX11) (T := TX11) (N := 24) hx hb hts (fun _ h => List.mem_cons_of_mem _ (List.mem_append_right _ h)) hown hK hw 30 (Nat.lt_of_lt_of_le (Nat.le_of_ble_eq_true rfl : 30 < 191) hn) (mk_30 cA α) rfl 11 (by decide) (hts _ (List.mem_of_getElem? (i := 1) rfl)) (fun _ h9 => h9) rfl dX11_bound_19 ?_
  refine lv_iload_n hx hb dX11_bound_22 rfl (lv_at hl 2 rfl) ?_
  refine lv_iload_n hx hb dX11_bound_23 rfl (lv_at hl 1 rfl) ?_
  refine xn_iadd hx hb dX11_bound_24 ?_
  refine x_iald hx hb hK hw 33 40 (Nat.lt_of_lt_of_le (Nat.le_of_ble_eq_true rfl : 33 < 191) hn) (mk_33 cA α) (w + b) rfl (by omega) (by decide) dX11_bound_25 ?_
  refine lv_imul hx hb dX11_bound_26 ?_
  refine lv_bipush (v := nI 100) hx hb dX11_bound_27 (by decide) ?_
  refine lv_idiv hx hb dX11_bound_29 (by decide) ?_
  refine lv_iadd hx hb dX11_bound_30 ?_
  exact ret_i hx hb hr hlocks hK hw dX11_bound_31 rfl rfl

set_option maxRecDepth 100000 in
set_option maxHeartbeats 1000000 in
theorem ct_X11_gapBy (l : Launch) (D : va_G) (cA : Nat → ClassId) (α : Nat → Nat) (n sz : Nat) (hn : 191 ≤ n) (S : Mem) (d : Nat) (hd : d < 100) (h : okI (S.1 34 (1008 + 5 * d + 0)) 6) : CtL l yX11_gapBy wsX11_gapBy ({ frames := 1, cells := 0, slots := 0, locals := 22 }) D cA α n sz [.ref (α 30), .int (nI d)] S (rGap S d) S := by
  refine ct_enter cX11_gapBy 7 (some .long) (by decide) rfl (Nat.le_of_ble_eq_true rfl) ?_
  intro p e s m below meth c hx hb hr hml hlocks hown hts hK hsz hw ls hl
  have hown : s.vm.findClass RX11 = some m.cls := hown
  have hAw : ∀ z, Aw α n s.heap.size z → Aw α n sz z := by rw [hsz]; exact fun _ h => h
  have hl : lv_has ls 7 [(0, .ref (α 30)), (1, .int (nI d))] := hl
  have h9 := h.2
  refine lv_aload_n hx hb dX11_gapBy_0 rfl (lv_at hl 0 rfl) ?_
  refine lv_iload_n hx hb dX11_gapBy_1 rfl (lv_at hl 1 rfl) ?_
  refine lv_iconst (v := nI 4) hx hb dX11_gapBy_2 (by decide) ?_
  refine x_callVIr (q := 30) (C := RX11) (As := [.int (nI d), .int (nI 4)]) (rest := []) ⟨hx, hb, hml, hown, hts⟩ (ct_X11_delivery l D cA α n _ hn S d 4 (by omega)) (cwV 2 hts gX11_gapBy_X11_delivery rfl rfl rfl (by decide +kernel) ⟨Nat.le_of_ble_eq_true rfl, Nat.le_of_ble_eq_true rfl⟩) hK hw hAw (ws_recv hK hw (q := 30) (Nat.lt_of_lt_of_le (Nat.le_of_ble_eq_true rfl : 30 < 191) hn) (mk_30 cA α) rfl) rfl hl.1 rfl (Nat.le_of_ble_eq_true rfl) dX11_gapBy_3 ⟨Nat.zero_le _, Nat.zero_le _⟩ (fun H locs hw => ?_)
  refine lv_istore_n (lv' := [(2, .int (S.1 34 (1008 + 5 * d + 4))), (0, .ref (α 30)), (1, .int (nI d))]) hx hb dX11_gapBy_6 rfl hl (by decide) rfl (fun ls hl => ?_)
  refine lv_aload_n hx hb dX11_gapBy_7 rfl (lv_at hl 1 rfl) ?_
  refine lv_aload_n hx hb dX11_gapBy_8 rfl (lv_at hl 1 rfl) ?_
  refine lv_iload_n hx hb dX11_gapBy_9 rfl (lv_at hl 2 rfl) ?_
  refine lv_iconst (v := nI 0) hx hb dX11_gapBy_10 (by decide) ?_
  refine x_callVIr (q := 30) (C := RX11) (As := [.int (nI d), .int (nI 0)]) (rest := [.ref (α 30)]) ⟨hx, hb, hml, hown, hts⟩ (ct_X11_delivery l D cA α n _ hn S d 0 (by omega)) (cwV 2 hts gX11_gapBy_X11_delivery rfl rfl rfl (by decide +kernel) ⟨Nat.le_of_ble_eq_true rfl, Nat.le_of_ble_eq_true rfl⟩) hK hw hAw (ws_recv hK hw (q := 30) (Nat.lt_of_lt_of_le (Nat.le_of_ble_eq_true rfl : 30 < 191) hn) (mk_30 cA α) rfl) rfl hl.1 rfl (Nat.le_of_ble_eq_true rfl) dX11_gapBy_11 ⟨Nat.zero_le _, Nat.zero_le _⟩ (fun H locs hw => ?_)
  refine x_topN (k := gN (S.1 34 (1008 + 5 * d + 0))) h.1 ?_
  refine lv_bipush (v := nI 28) hx hb dX11_gapBy_14 (by decide) ?_
  refine x_callVIr (q := 30) (C := RX11) (As := [.int (nI (gN (S.1 34 (1008 + 5 * d + 0)))), .int (nI 28)]) (rest := []) ⟨hx, hb, hml, hown, hts⟩ (ct_X11_bound l D cA α n _ hn S (gN (S.1 34 (1008 + 5 * d + 0))) 28 h.2 (by decide)) (cwV 2 hts gX11_gapBy_X11_bound rfl rfl rfl (by decide +kernel) ⟨Nat.le_of_ble_eq_true rfl, Nat.le_of_ble_eq_true rfl⟩) hK hw hAw (ws_recv hK hw (q := 30) (Nat.lt_of_lt_of_le (Nat.le_of_ble_eq_true rfl : 30 < 191) hn) (mk_30 cA α) rfl) rfl hl.1 rfl (Nat.le_of_ble_eq_true rfl) dX11_gapBy_16 ⟨Nat.zero_le _, Nat.zero_le _⟩ (fun H locs hw => ?_)
  refine lv_istore_n (lv' := [(3, .int (rBnd S (gN (S.1 34 (1008 + 5 * d + 0))) 28)), (2, .int (S.1 34 (1008 + 5 * d + 4))), (0, .ref (α 30)), (1, .int (nI d))]) hx hb dX11_gapBy_19 rfl hl (by decide) rfl (fun ls hl => ?_)
  refine lv_aload_n hx hb dX11_gapBy_20 rfl (lv_at hl 2 rfl) ?_
  refine lv_aload_n hx hb dX11_gapBy_21 rfl (lv_at hl 2 rfl) ?_
  refine lv_iload_n hx hb dX11_gapBy_22 rfl (lv_at hl 3 rfl) ?_
  refine lv_iconst (v := nI 0) hx hb dX11_gapBy_23 (by decide) ?_
  refine x_callVIr (q := 30) (C := RX11) (As := [.int (nI d), .int (nI 0)]) (rest := [.ref (α 30)]) ⟨hx, hb, hml, hown, hts⟩ (ct_X11_delivery l D cA α n _ hn S d 0 (by omega)) (cwV 2 hts gX11_gapBy_X11_delivery rfl rfl rfl (by decide +kernel) ⟨Nat.le_of_ble_eq_true rfl, Nat.le_of_ble_eq_true rfl⟩) hK hw hAw (ws_recv hK hw (q := 30) (Nat.lt_of_lt_of_le (Nat.le_of_ble_eq_true rfl : 30 < 191) hn) (mk_30 cA α) rfl) rfl hl.1 rfl (Nat.le_of_ble_eq_true rfl) dX11_gapBy_24 ⟨Nat.zero_le _, Nat.zero_le _⟩ (fun H locs hw => ?_)
  refine x_topN (k := gN (S.1 34 (1008 + 5 * d + 0))) h.1 ?_
  refine lv_bipush (v := nI 34) hx hb dX11_gapBy_27 (by decide) ?_
  refine x_callVIr (q := 30) (C := RX11) (As := [.int (nI (gN (S.1 34 (1008 + 5 * d + 0)))), .int (nI 34)]) (rest := []) ⟨hx, hb, hml, hown, hts⟩ (ct_X11_bound l D cA α n _ hn S (gN (S.1 34 (1008 + 5 * d + 0))) 34 h.2 (by decide)) (cwV 2 hts gX11_gapBy_X11_bound rfl rfl rfl (by decide +kernel) ⟨Nat.le_of_ble_eq_true rfl, Nat.le_of_ble_eq_true rfl⟩) hK hw hAw (ws_recv hK hw (q := 30) (Nat.lt_of_lt_of_le (Nat.le_of_ble_eq_true rfl : 30 < 191) hn) (mk_30 cA α) rfl) rfl hl.1 rfl (Nat.le_of_ble_eq_true rfl) dX11_gapBy_29 ⟨Nat.zero_le _, Nat.zero_le _⟩ (fun H locs hw => ?_)
  refine lv_istore (lv' := [(4, .int (rBnd S (gN (S.1 34 (1008 + 5 * d + 0))) 34)), (3, .int (rBnd S (gN (S.1 34 (1008 + 5 * d + 0))) 28)), (2, .int (S.1 34 (1008 + 5 * d + 4))), (0, .ref (α 30)), (1, .int (nI d))]) hx hb dX11_gapBy_32 hl (by decide) rfl (fun ls hl => ?_)
  refine lv_iload_n hx hb dX11_gapBy_34 rfl (lv_at hl 2 rfl) ?_
  refine lv_iload_n hx hb dX11_gapBy_35 rfl (lv_at hl 1 rfl) ?_
  refine lv_icmp_ge (tgt := 46) hx hb dX11_gapBy_36 (by decide) (fun c1 => ?_) (fun c1 => ?_)
  · skip
    refine lv_iload_n hx hb dX11_gapBy_46 rfl (lv_at hl 2 rfl) ?_
    refine lv_iload hx hb dX11_gapBy_47 (lv_at hl 0 rfl) ?_
    refine lv_icmp_le (tgt := 60) hx hb dX11_gapBy_49 (by decide) (fun c2 => ?_) (fun c2 => ?_)
    · skip
      refine lv_lconst (v := 0) hx hb dX11_gapBy_60 (by decide) ?_
      refine lv_lstore (lv' := [(5, .long 0), (4, .int (rBnd S (gN (S.1 34 (1008 + 5 * d + 0))) 34)), (3, .int (rBnd S (gN (S.1 34 (1008 + 5 * d + 0))) 28)), (2, .int (S.1 34 (1008 + 5 * d + 4))), (0, .ref (α 30)), (1, .int (nI d))]) hx hb dX11_gapBy_61 hl (by decide) rfl (fun ls hl => ?_)
      refine lv_lload hx hb dX11_gapBy_63 (lv_at hl 0 rfl) ?_
      refine lv_aload_n hx hb dX11_gapBy_65 rfl (lv_at hl 4 rfl) ?_
      refine lv_iload_n hx hb dX11_gapBy_66 rfl (lv_at hl 5 rfl) ?_
      refine lv_iconst (v := nI 3) hx hb dX11_gapBy_67 (by decide) ?_
      refine x_callVIr (q := 30) (C := RX11) (As := [.int (nI d), .int (nI 3)]) (rest := [.long 0]) ⟨hx, hb, hml, hown, hts⟩ (ct_X11_delivery l D cA α n _ hn S d 3 (by omega)) (cwV 2 hts gX11_gapBy_X11_delivery rfl rfl rfl (by decide +kernel) ⟨Nat.le_of_ble_eq_true rfl, Nat.le_of_ble_eq_true rfl⟩) hK hw hAw (ws_recv hK hw (q := 30) (Nat.lt_of_lt_of_le (Nat.le_of_ble_eq_true rfl : 30 < 191) hn) (mk_30 cA α) rfl) rfl hl.1 rfl (Nat.le_of_ble_eq_true rfl) dX11_gapBy_68 ⟨Nat.zero_le _, Nat.zero_le _⟩ (fun H locs hw => ?_)
      refine lv_i2l hx hb dX11_gapBy_71 rfl ?_
      refine lv_lmul hx hb dX11_gapBy_72 ?_
      exact ret_l hx hb hr hlocks hK hw dX11_gapBy_73 (by first | (simp only [rGap, rApt, if_pos c1, if_neg (not_not_intro c1), decide_eq_true c1, if_pos c2, if_neg (not_not_intro c2), decide_eq_true c2, if_true, if_false, eq_self, Bool.false_eq_true, not_true_eq_false, not_false_eq_true, decide_true, decide_false, Bool.and_true, Bool.true_and, Bool.and_false, Bool.false_and, Bool.not_true, Bool.not_false, Bool.or_true, Bool.true_or, Bool.or_false, Bool.false_or, reduceIte, b2i_t, b2i_f]; done) | rfl | (simp [rGap, rApt, if_pos c1, if_neg (not_not_intro c1), decide_eq_true c1, if_pos c2, if_neg (not_not_intro c2), decide_eq_true c2, b2i, nI_0, nI_one]; done)) rfl
    · skip
      refine lv_iload_n hx hb dX11_gapBy_52 rfl (lv_at hl 2 rfl) ?_
      refine lv_iload hx hb dX11_gapBy_53 (lv_at hl 0 rfl) ?_
      refine lv_isub hx hb dX11_gapBy_55 ?_
      refine lv_i2l hx hb dX11_gapBy_56 rfl ?_
      refine lv_goto (tgt := 61) hx hb dX11_gapBy_57 (by decide) ?_
      refine lv_lstore (lv' := [(5, .long (((S.1 34 (1008 + 5 * d + 4)) - (rBnd S (gN (S.1 34 (1008 + 5 * d + 0))) 34)).toInt64)), (4, .int (rBnd S (gN (S.1 34 (1008 + 5 * d + 0))) 34)), (3, .int (rBnd S (gN (S.1 34 (1008 + 5 * d + 0))) 28)), (2, .int (S.1 34 (1008 + 5 * d + 4))), (0, .ref (α 30)), (1, .int (nI d))]) hx hb dX11_gapBy_61 hl (by decide) rfl (fun ls hl => ?_)
      refine lv_lload hx hb dX11_gapBy_63 (lv_at hl 0 rfl) ?_
      refine lv_aload_n hx hb dX11_gapBy_65 rfl (lv_at hl 4 rfl) ?_
      refine lv_iload_n hx hb dX11_gapBy_66 rfl (lv_at hl 5 rfl) ?_
      refine lv_iconst (v := nI 3) hx hb dX11_gapBy_67 (by decide) ?_
      refine x_callVIr (q := 30) (C := RX11) (As := [.int (nI d), .int (nI 3)]) (rest := [.long (((S.1 34 (1008 + 5 * d + 4)) - (rBnd S (gN (S.1 34 (1008 + 5 * d + 0))) 34)).toInt64)]) ⟨hx, hb, hml, hown, hts⟩ (ct_X11_delivery l D cA α n _ hn S d 3 (by omega)) (cwV 2 hts gX11_gapBy_X11_delivery rfl rfl rfl (by decide +kernel) ⟨Nat.le_of_ble_eq_true rfl, Nat.le_of_ble_eq_true rfl⟩) hK hw hAw (ws_recv hK hw (q := 30) (Nat.lt_of_lt_of_le (Nat.le_of_ble_eq_true rfl : 30 < 191) hn) (mk_30 cA α) rfl) rfl hl.1 rfl (Nat.le_of_ble_eq_true rfl) dX11_gapBy_68 ⟨Nat.zero_le _, Nat.zero_le _⟩ (fun H locs hw => ?_)
      refine lv_i2l hx hb dX11_gapBy_71 rfl ?_
      refine lv_lmul hx hb dX11_gapBy_72 ?_
      exact ret_l hx hb hr hlocks hK hw dX11_gapBy_73 (by first | (simp only [rGap, rApt, if_pos c1, if_neg (not_not_intro c1), decide_eq_true c1, if_neg c2, if_pos c2, decide_eq_false c2, if_true, if_false, eq_self, Bool.false_eq_true, not_true_eq_false, not_false_eq_true, decide_true, decide_false, Bool.and_true, Bool.true_and, Bool.and_false, Bool.false_and, Bool.not_true, Bool.not_false, Bool.or_true, Bool.true_or, Bool.or_false, Bool.false_or, reduceIte, b2i_t, b2i_f]; done) | rfl | (simp [rGap, rApt, if_pos c1, if_neg (not_not_intro c1), decide_eq_true c1, if_neg c2, if_pos c2, decide_eq_false c2, b2i, nI_0, nI_one]; done)) rfl
  · skip
    refine lv_iload_n hx hb dX11_gapBy_39 rfl (lv_at hl 2 rfl) ?_
    refine lv_iload_n hx hb dX11_gapBy_40 rfl (lv_at hl 1 rfl) ?_
    refine lv_isub hx hb dX11_gapBy_41 ?_
    refine lv_i2l hx hb dX11_gapBy_42 rfl ?_
    refine lv_goto (tgt := 61) hx hb dX11_gapBy_43 (by decide) ?_
    refine lv_lstore (lv' := [(5, .long (((S.1 34 (1008 + 5 * d + 4)) - (rBnd S (gN (S.1 34 (1008 + 5 * d + 0))) 28)).toInt64)), (4, .int (rBnd S (gN (S.1 34 (1008 + 5 * d + 0))) 34)), (3, .int (rBnd S (gN (S.1 34 (1008 + 5 * d + 0))) 28)), (2, .int (S.1 34 (1008 + 5 * d + 4))), (0, .ref (α 30)), (1, .int (nI d))]) hx hb dX11_gapBy_61 hl (by decide) rfl (fun ls hl => ?_)
    refine lv_lload hx hb dX11_gapBy_63 (lv_at hl 0 rfl) ?_
    refine lv_aload_n hx hb dX11_gapBy_65 rfl (lv_at hl 4 rfl) ?_
    refine lv_iload_n hx hb dX11_gapBy_66 rfl (lv_at hl 5 rfl) ?_
    refine lv_iconst (v := nI 3) hx hb dX11_gapBy_67 (by decide) ?_
    refine x_callVIr (q := 30) (C := RX11) (As := [.int (nI d), .int (nI 3)]) (rest := [.long (((S.1 34 (1008 + 5 * d + 4)) - (rBnd S (gN (S.1 34 (1008 + 5 * d + 0))) 28)).toInt64)]) ⟨hx, hb, hml, hown, hts⟩ (ct_X11_delivery l D cA α n _ hn S d 3 (by omega)) (cwV 2 hts gX11_gapBy_X11_delivery rfl rfl rfl (by decide +kernel) ⟨Nat.le_of_ble_eq_true rfl, Nat.le_of_ble_eq_true rfl⟩) hK hw hAw (ws_recv hK hw (q := 30) (Nat.lt_of_lt_of_le (Nat.le_of_ble_eq_true rfl : 30 < 191) hn) (mk_30 cA α) rfl) rfl hl.1 rfl (Nat.le_of_ble_eq_true rfl) dX11_gapBy_68 ⟨Nat.zero_le _, Nat.zero_le _⟩ (fun H locs hw => ?_)
    refine lv_i2l hx hb dX11_gapBy_71 rfl ?_
    refine lv_lmul hx hb dX11_gapBy_72 ?_
    exact ret_l hx hb hr hlocks hK hw dX11_gapBy_73 (by first | (simp only [rGap, rApt, if_neg c1, if_pos c1, decide_eq_false c1, if_true, if_false, eq_self, Bool.false_eq_true, not_true_eq_false, not_false_eq_true, decide_true, decide_false, Bool.and_true, Bool.true_and, Bool.and_false, Bool.false_and, Bool.not_true, Bool.not_false, Bool.or_true, Bool.true_or, Bool.or_false, Bool.false_or, reduceIte, b2i_t, b2i_f]; done) | rfl | (simp [rGap, rApt, if_neg c1, if_pos c1, decide_eq_false c1, b2i, nI_0, nI_one]; done)) rfl
