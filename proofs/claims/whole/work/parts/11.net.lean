/-! netting -/
def fOwe (S : Mem) (a b : Int32) (j : Nat) : Int64 := if cIs S j (nI 0) (nI 1) then (if S.1 45 j = a then (if S.1 46 j = b then cVal S j else 0) else 0) else 0

set_option maxRecDepth 100000 in
set_option maxHeartbeats 1000000 in
theorem ct_X6_owedTo (l : Launch) (D : va_G) (cA : Nat → ClassId) (α : Nat → Nat) (n sz : Nat) (hn : 191 ≤ n) (S : Mem) (a b : Int32) (N : Nat) (hN : S.1 74 0 = nI N) (hN2 : N ≤ 100) (ho : ∀ j, j < N → okC S j) : CtL l yX6_owedTo wsX6_owedTo ({ frames := 2, cells := 0, slots := 0, locals := 43 }) D cA α n sz [.ref (α 3), .int a, .int b] S (sumL (fOwe S a b) N) S := by
  refine ct_enter cX6_owedTo 6 (some .long) (by decide) rfl (Nat.le_of_ble_eq_true rfl) ?_
  intro p e s m below meth c hx hb hr hml hlocks hown hts hK hsz hw ls hl
  have hown : s.vm.findClass RX6 = some m.cls := hown
  have hAw : ∀ z, Aw α n s.heap.size z → Aw α n sz z := by rw [hsz]; exact fun _ h => h
  have hl : lv_has ls 6 [(0, .ref (α 3)), (1, .int a), (2, .int b)] := hl
  refine lv_lconst (v := 0) hx hb dX6_owedTo_0 (by decide) ?_
  refine lv_lstore_n (lv' := [(3, .long 0), (0, .ref (α 3)), (1, .int a), (2, .int b)]) hx hb dX6_owedTo_1 rfl hl (by decide) rfl (fun ls hl => ?_)
  refine lv_iconst (v := nI 0) hx hb dX6_owedTo_2 (by decide) ?_
  refine lv_istore (lv' := [(5, .int (nI 0)), (3, .long 0), (0, .ref (α 3)), (1, .int a), (2, .int b)]) hx hb dX6_owedTo_3 hl (by decide) rfl (fun ls hl => ?_)
  have lp5 : ∀ (t : Nat) (j : Nat) (acc : Int64) (H : Heap) (locs : List Loc) (ls : Array Slot), N - j < t → j ≤ N → acc = sumL (fOwe S a b) j → Ws D cA α n (Aw α n sz) s.heap S H locs → lv_has ls 6 [(0, .ref (α 3)), (1, .int a), (2, .int b), (5, .int (nI j)), (3, .long acc)] → W p l e ({ frames := 2, cells := 0, slots := 0, locals := 43 } : Room) s m (List.toArray ([.ref (α 3), .int a, .int b] : List Value)) below meth c H locs 0 0 (MQ below (va_Ql (fun r u => r = (sumL (fOwe S a b) N) ∧ u = S) (Pw D cA α n) (Aw α n sz)) (List.toArray ([.ref (α 3), .int a, .int b] : List Value)) s 0 0 (Aw α n sz)) (F0 m 5 ls []) := by
    intro t
    induction t with
    | zero => intro j acc H locs ls ht; exact absurd ht (Nat.not_lt_zero _)
    | succ t ih5 =>
      intro j acc H locs ls ht hj hk hw hl
      refine lv_iload hx hb dX6_owedTo_5 (lv_at hl 3 rfl) ?_
      refine lv_aload_n hx hb dX6_owedTo_7 rfl (lv_at hl 0 rfl) ?_
      refine x_get (v := .ref (α 74)) (C := RX0) (T := TX0) (N := 3) hx hb hts (fun _ h => List.mem_cons_of_mem _ (List.mem_append_left _ (List.mem_append_left _ (List.mem_append_left _ (List.mem_append_right _ h))))) hown hK hw 3 (Nat.lt_of_lt_of_le (Nat.le_of_ble_eq_true rfl : 3 < 191) hn) (mk_3 cA α) rfl 2 (by decide) (hts _ (List.mem_of_getElem? (i := 1) rfl)) (fun _ h9 => h9) rfl dX6_owedTo_8 ?_
      refine x_get (v := .int (S.1 74 0)) (C := RX9) (T := TX9) (N := 14) hx hb hts (fun _ h => List.mem_cons_of_mem _ (List.mem_append_left _ (List.mem_append_left _ (List.mem_append_right _ h)))) hown hK hw 74 (Nat.lt_of_lt_of_le (Nat.le_of_ble_eq_true rfl : 74 < 191) hn) (mk_74 cA α) rfl 0 (by decide) (hts _ (List.mem_of_getElem? (i := 2) rfl)) (fun _ h9 => h9) rfl dX6_owedTo_11 ?_
      refine x_topN (k := N) hN ?_
      refine xn_icmp_ge (tgt := 71) hx hb (by omega) (by omega) dX6_owedTo_14 (by decide) (fun c1 => ?_) (fun c1 => ?_)
      · skip
        refine lv_lload_n hx hb dX6_owedTo_71 rfl (lv_at hl 4 rfl) ?_
        exact ret_l hx hb hr hlocks hK hw dX6_owedTo_72 (by rw [hk, show j = N by omega]) rfl
      · skip
        refine lv_aload_n hx hb dX6_owedTo_17 rfl (lv_at hl 0 rfl) ?_
        refine lv_iload hx hb dX6_owedTo_18 (lv_at hl 3 rfl) ?_
        refine lv_iconst (v := nI 0) hx hb dX6_owedTo_20 (by decide) ?_
        refine lv_iconst (v := nI 1) hx hb dX6_owedTo_21 (by decide) ?_
        refine x_callVIr (q := 3) (C := RX0) (As := [.int (nI j), .int (nI 0), .int (nI 1)]) (rest := []) ⟨hx, hb, hml, hown, hts⟩ (ct_X0_isIn l D cA α n _ hn S j (nI 0) (nI 1) (by omega)) (cwV 3 hts gX6_owedTo_X0_isIn rfl rfl rfl (by decide +kernel) ⟨Nat.le_of_ble_eq_true rfl, Nat.le_of_ble_eq_true rfl⟩) hK hw hAw (ws_recv hK hw (q := 3) (Nat.lt_of_lt_of_le (Nat.le_of_ble_eq_true rfl : 3 < 191) hn) (mk_3 cA α) rfl) rfl hl.1 rfl (Nat.le_of_ble_eq_true rfl) dX6_owedTo_22 ⟨Nat.zero_le _, Nat.zero_le _⟩ (fun H locs hw => ?_)
        refine xb_eq (b := (cIs S j (nI 0) (nI 1))) (tgt := 65) hx hb dX6_owedTo_25 (by decide) (fun c2 => ?_) (fun c2 => ?_)
        · skip
          refine lv_iinc (v := nI (j + 1)) (lv' := [(5, .int (nI (j + 1))), (0, .ref (α 3)), (1, .int a), (2, .int b), (3, .long acc)]) hx hb dX6_owedTo_65 hl (k := 3) rfl (nI_1 _) (by decide) rfl (fun ls hl => ?_)
          refine lv_goto (tgt := 5) hx hb dX6_owedTo_68 (by decide) ?_
          exact ih5 (j + 1) acc _ _ _ (by omega) (by omega) (by rw [sumL, ← hk]; first | (simp only [fOwe, if_pos c1, if_neg (not_not_intro c1), decide_eq_true c1, c2, if_true, if_false, eq_self, Bool.false_eq_true, not_true_eq_false, not_false_eq_true, decide_true, decide_false, Bool.and_true, Bool.true_and, Bool.and_false, Bool.false_and, Bool.not_true, Bool.not_false, Bool.or_true, Bool.true_or, Bool.or_false, Bool.false_or, reduceIte, b2i_t, b2i_f, Int64.add_zero, Int64.zero_add, Int64.sub_eq_add_neg, Int64.add_assoc]; done) | (simp [fOwe, if_pos c1, if_neg (not_not_intro c1), decide_eq_true c1, c2, Int64.sub_eq_add_neg, Int64.add_assoc]; done)) hw (lv_sub hl [1, 2, 3, 0, 4] rfl)
        · skip
          refine lv_aload_n hx hb dX6_owedTo_28 rfl (lv_at hl 0 rfl) ?_
          refine x_get (v := .ref (α 44)) (C := RX0) (T := TX0) (N := 3) hx hb hts (fun _ h => List.mem_cons_of_mem _ (List.mem_append_left _ (List.mem_append_left _ (List.mem_append_left _ (List.mem_append_right _ h))))) hown hK hw 3 (Nat.lt_of_lt_of_le (Nat.le_of_ble_eq_true rfl : 3 < 191) hn) (mk_3 cA α) rfl 1 (by decide) (hts _ (List.mem_of_getElem? (i := 3) rfl)) (fun _ h9 => h9) rfl dX6_owedTo_29 ?_
          refine x_get (v := .ref (α 45)) (C := RX7) (T := TX7) (N := 9) hx hb hts (fun _ h => List.mem_cons_of_mem _ (List.mem_append_left _ (List.mem_append_right _ h))) hown hK hw 44 (Nat.lt_of_lt_of_le (Nat.le_of_ble_eq_true rfl : 44 < 191) hn) (mk_44 cA α) rfl 0 (by decide) (hts _ (List.mem_of_getElem? (i := 4) rfl)) (fun _ h9 => h9) rfl dX6_owedTo_32 ?_
          refine lv_iload hx hb dX6_owedTo_35 (lv_at hl 3 rfl) ?_
          refine x_iald hx hb hK hw 45 100 (Nat.lt_of_lt_of_le (Nat.le_of_ble_eq_true rfl : 45 < 191) hn) (mk_45 cA α) j rfl (by omega) (by decide) dX6_owedTo_37 ?_
          refine lv_iload_n hx hb dX6_owedTo_38 rfl (lv_at hl 1 rfl) ?_
          refine lv_icmp_ne (tgt := 65) hx hb dX6_owedTo_39 (by decide) (fun c3 => ?_) (fun c3 => ?_)
          · skip
            refine lv_iinc (v := nI (j + 1)) (lv' := [(5, .int (nI (j + 1))), (0, .ref (α 3)), (1, .int a), (2, .int b), (3, .long acc)]) hx hb dX6_owedTo_65 hl (k := 3) rfl (nI_1 _) (by decide) rfl (fun ls hl => ?_)
            refine lv_goto (tgt := 5) hx hb dX6_owedTo_68 (by decide) ?_
            exact ih5 (j + 1) acc _ _ _ (by omega) (by omega) (by rw [sumL, ← hk]; first | (simp only [fOwe, if_pos c1, if_neg (not_not_intro c1), decide_eq_true c1, c2, if_neg c3, if_pos c3, decide_eq_false c3, if_true, if_false, eq_self, Bool.false_eq_true, not_true_eq_false, not_false_eq_true, decide_true, decide_false, Bool.and_true, Bool.true_and, Bool.and_false, Bool.false_and, Bool.not_true, Bool.not_false, Bool.or_true, Bool.true_or, Bool.or_false, Bool.false_or, reduceIte, b2i_t, b2i_f, Int64.add_zero, Int64.zero_add, Int64.sub_eq_add_neg, Int64.add_assoc]; done) | (simp [fOwe, if_pos c1, if_neg (not_not_intro c1), decide_eq_true c1, c2, if_neg c3, if_pos c3, decide_eq_false c3, Int64.sub_eq_add_neg, Int64.add_assoc]; done)) hw (lv_sub hl [1, 2, 3, 0, 4] rfl)
          · skip
            refine lv_aload_n hx hb dX6_owedTo_42 rfl (lv_at hl 0 rfl) ?_
            refine x_get (v := .ref (α 44)) (C := RX0) (T := TX0) (N := 3) hx hb hts (fun _ h => List.mem_cons_of_mem _ (List.mem_append_left _ (List.mem_append_left _ (List.mem_append_left _ (List.mem_append_right _ h))))) hown hK hw 3 (Nat.lt_of_lt_of_le (Nat.le_of_ble_eq_true rfl : 3 < 191) hn) (mk_3 cA α) rfl 1 (by decide) (hts _ (List.mem_of_getElem? (i := 3) rfl)) (fun _ h9 => h9) rfl dX6_owedTo_43 ?_
            refine x_get (v := .ref (α 46)) (C := RX7) (T := TX7) (N := 9) hx hb hts (fun _ h => List.mem_cons_of_mem _ (List.mem_append_left _ (List.mem_append_right _ h))) hown hK hw 44 (Nat.lt_of_lt_of_le (Nat.le_of_ble_eq_true rfl : 44 < 191) hn) (mk_44 cA α) rfl 1 (by decide) (hts _ (List.mem_of_getElem? (i := 5) rfl)) (fun _ h9 => h9) rfl dX6_owedTo_46 ?_
            refine lv_iload hx hb dX6_owedTo_49 (lv_at hl 3 rfl) ?_
            refine x_iald hx hb hK hw 46 100 (Nat.lt_of_lt_of_le (Nat.le_of_ble_eq_true rfl : 46 < 191) hn) (mk_46 cA α) j rfl (by omega) (by decide) dX6_owedTo_51 ?_
            refine lv_iload_n hx hb dX6_owedTo_52 rfl (lv_at hl 2 rfl) ?_
            refine lv_icmp_ne (tgt := 65) hx hb dX6_owedTo_53 (by decide) (fun c4 => ?_) (fun c4 => ?_)
            · skip
              refine lv_iinc (v := nI (j + 1)) (lv' := [(5, .int (nI (j + 1))), (0, .ref (α 3)), (1, .int a), (2, .int b), (3, .long acc)]) hx hb dX6_owedTo_65 hl (k := 3) rfl (nI_1 _) (by decide) rfl (fun ls hl => ?_)
              refine lv_goto (tgt := 5) hx hb dX6_owedTo_68 (by decide) ?_
              exact ih5 (j + 1) acc _ _ _ (by omega) (by omega) (by rw [sumL, ← hk]; first | (simp only [fOwe, if_pos c1, if_neg (not_not_intro c1), decide_eq_true c1, c2, if_pos c3, if_neg (not_not_intro c3), decide_eq_true c3, if_neg c4, if_pos c4, decide_eq_false c4, if_true, if_false, eq_self, Bool.false_eq_true, not_true_eq_false, not_false_eq_true, decide_true, decide_false, Bool.and_true, Bool.true_and, Bool.and_false, Bool.false_and, Bool.not_true, Bool.not_false, Bool.or_true, Bool.true_or, Bool.or_false, Bool.false_or, reduceIte, b2i_t, b2i_f, Int64.add_zero, Int64.zero_add, Int64.sub_eq_add_neg, Int64.add_assoc]; done) | (simp [fOwe, if_pos c1, if_neg (not_not_intro c1), decide_eq_true c1, c2, if_pos c3, if_neg (not_not_intro c3), decide_eq_true c3, if_neg c4, if_pos c4, decide_eq_false c4, Int64.sub_eq_add_neg, Int64.add_assoc]; done)) hw (lv_sub hl [1, 2, 3, 0, 4] rfl)
            · skip
              refine lv_lload_n hx hb dX6_owedTo_56 rfl (lv_at hl 4 rfl) ?_
              refine lv_aload_n hx hb dX6_owedTo_57 rfl (lv_at hl 0 rfl) ?_
              refine lv_iload hx hb dX6_owedTo_58 (lv_at hl 3 rfl) ?_
              refine x_callVLr (q := 3) (C := RX0) (As := [.int (nI j)]) (rest := [.long acc]) ⟨hx, hb, hml, hown, hts⟩ (ct_X0_valueOf l D cA α n _ hn S j (ho j (by omega))) (cwV 1 hts gX6_owedTo_X0_valueOf rfl rfl rfl (by decide +kernel) ⟨Nat.le_of_ble_eq_true rfl, Nat.le_of_ble_eq_true rfl⟩) hK hw hAw (ws_recv hK hw (q := 3) (Nat.lt_of_lt_of_le (Nat.le_of_ble_eq_true rfl : 3 < 191) hn) (mk_3 cA α) rfl) rfl hl.1 rfl (Nat.le_of_ble_eq_true rfl) dX6_owedTo_60 ⟨Nat.zero_le _, Nat.zero_le _⟩ (fun H locs hw => ?_)
              refine lv_ladd hx hb dX6_owedTo_63 ?_
              refine lv_lstore_n (lv' := [(3, .long (acc + (cVal S j))), (0, .ref (α 3)), (1, .int a), (2, .int b), (5, .int (nI j))]) hx hb dX6_owedTo_64 rfl hl (by decide) rfl (fun ls hl => ?_)
              refine lv_iinc (v := nI (j + 1)) (lv' := [(5, .int (nI (j + 1))), (3, .long (acc + (cVal S j))), (0, .ref (α 3)), (1, .int a), (2, .int b)]) hx hb dX6_owedTo_65 hl (k := 4) rfl (nI_1 _) (by decide) rfl (fun ls hl => ?_)
              refine lv_goto (tgt := 5) hx hb dX6_owedTo_68 (by decide) ?_
              exact ih5 (j + 1) (acc + (cVal S j)) _ _ _ (by omega) (by omega) (by rw [sumL, ← hk]; first | (simp only [fOwe, if_pos c1, if_neg (not_not_intro c1), decide_eq_true c1, c2, if_pos c3, if_neg (not_not_intro c3), decide_eq_true c3, if_pos c4, if_neg (not_not_intro c4), decide_eq_true c4, if_true, if_false, eq_self, Bool.false_eq_true, not_true_eq_false, not_false_eq_true, decide_true, decide_false, Bool.and_true, Bool.true_and, Bool.and_false, Bool.false_and, Bool.not_true, Bool.not_false, Bool.or_true, Bool.true_or, Bool.or_false, Bool.false_or, reduceIte, b2i_t, b2i_f, Int64.add_zero, Int64.zero_add, Int64.sub_eq_add_neg, Int64.add_assoc]; done) | (simp [fOwe, if_pos c1, if_neg (not_not_intro c1), decide_eq_true c1, c2, if_pos c3, if_neg (not_not_intro c3), decide_eq_true c3, if_pos c4, if_neg (not_not_intro c4), decide_eq_true c4, Int64.sub_eq_add_neg, Int64.add_assoc]; done)) hw (lv_sub hl [2, 3, 4, 0, 1] rfl)
  exact lp5 _ 0 0 _ _ _ (Nat.lt_succ_self _) (Nat.zero_le _) rfl hw (lv_sub hl [2, 3, 4, 0, 1] rfl)

def cUn (S : Mem) (N a b : Nat) : Bool := !decide (sumL (fOwe S (nI a) (nI b)) N = sumL (fOwe S (nI b) (nI a)) N)
def cUr (S : Mem) (N a b : Nat) : Bool := decide (a < b) && cUn S N a b
def sumN (f : Nat → Nat) : Nat → Nat
  | 0 => 0
  | n + 1 => sumN f n + f n
theorem sumN_le (f : Nat → Nat) (c : Nat) : ∀ n, (∀ k, k < n → f k ≤ c) → sumN f n ≤ n * c
  | 0, _ => by simp [sumN]
  | n + 1, h => by
    have h1 := sumN_le f c n (fun k hk => h k (by omega))
    have h2 := h n (by omega)
    rw [sumN, Nat.succ_mul]
    omega
theorem cUr_lo (S : Mem) (N a : Nat) : ∀ n, n ≤ a + 1 → cnt (cUr S N a) n = 0
  | 0, _ => rfl
  | n + 1, h => by
    rw [cnt, cUr_lo S N a n (by omega)]
    have : cUr S N a n = false := by unfold cUr; rw [decide_eq_false (by omega)]; rfl
    rw [this]; rfl

set_option maxRecDepth 100000 in
set_option maxHeartbeats 1000000 in
theorem ct_X6_unevenPairs (l : Launch) (D : va_G) (cA : Nat → ClassId) (α : Nat → Nat) (n sz : Nat) (hn : 191 ≤ n) (S : Mem) (N : Nat) (hN : S.1 74 0 = nI N) (hN2 : N ≤ 100) (ho : ∀ j, j < N → okC S j) (Cn : Nat) (hC : S.1 23 1 = nI Cn) (hC2 : Cn ≤ 6) : CtI l yX6_unevenPairs wsX6_unevenPairs ({ frames := 3, cells := 0, slots := 0, locals := 68 }) D cA α n sz [.ref (α 6), .ref (α 3)] S (nI (sumN (fun a => cnt (cUr S N a) Cn) Cn)) S := by
  refine ct_enter cX6_unevenPairs 5 (some .int) (by decide) rfl (Nat.le_of_ble_eq_true rfl) ?_
  intro p e s m below meth c hx hb hr hml hlocks hown hts hK hsz hw ls hl
  have hown : s.vm.findClass RX6 = some m.cls := hown
  have hAw : ∀ z, Aw α n s.heap.size z → Aw α n sz z := by rw [hsz]; exact fun _ h => h
  have hl : lv_has ls 5 [(0, .ref (α 6)), (1, .ref (α 3))] := hl
  refine lv_iconst (v := nI 0) hx hb dX6_unevenPairs_0 (by decide) ?_
  refine lv_istore_n (lv' := [(2, .int (nI 0)), (0, .ref (α 6)), (1, .ref (α 3))]) hx hb dX6_unevenPairs_1 rfl hl (by decide) rfl (fun ls hl => ?_)
  refine lv_iconst (v := nI 0) hx hb dX6_unevenPairs_2 (by decide) ?_
  refine lv_istore_n (lv' := [(3, .int (nI 0)), (2, .int (nI 0)), (0, .ref (α 6)), (1, .ref (α 3))]) hx hb dX6_unevenPairs_3 rfl hl (by decide) rfl (fun ls hl => ?_)
  have lp4 : ∀ (t : Nat) (a : Nat) (k : Nat) (H : Heap) (locs : List Loc) (ls : Array Slot), Cn - a < t → a ≤ Cn → k = sumN (fun a => cnt (cUr S N a) Cn) a → Ws D cA α n (Aw α n sz) s.heap S H locs → lv_has ls 5 [(0, .ref (α 6)), (1, .ref (α 3)), (3, .int (nI a)), (2, .int (nI k))] → W p l e ({ frames := 3, cells := 0, slots := 0, locals := 68 } : Room) s m (List.toArray ([.ref (α 6), .ref (α 3)] : List Value)) below meth c H locs 0 0 (MQ below (va_Qi (fun r u => r = (nI (sumN (fun a => cnt (cUr S N a) Cn) Cn)) ∧ u = S) (Pw D cA α n) (Aw α n sz)) (List.toArray ([.ref (α 6), .ref (α 3)] : List Value)) s 0 0 (Aw α n sz)) (F0 m 4 ls []) := by
    intro t
    induction t with
    | zero => intro a k H locs ls ht; exact absurd ht (Nat.not_lt_zero _)
    | succ t ih4 =>
      intro a k H locs ls ht ha hk hw hl
      refine lv_iload_n hx hb dX6_unevenPairs_4 rfl (lv_at hl 2 rfl) ?_
      refine lv_aload_n hx hb dX6_unevenPairs_5 rfl (lv_at hl 1 rfl) ?_
      refine x_get (v := .ref (α 23)) (C := RX0) (T := TX0) (N := 3) hx hb hts (fun _ h => List.mem_cons_of_mem _ (List.mem_append_left _ (List.mem_append_left _ (List.mem_append_left _ (List.mem_append_right _ h))))) hown hK hw 3 (Nat.lt_of_lt_of_le (Nat.le_of_ble_eq_true rfl : 3 < 191) hn) (mk_3 cA α) rfl 0 (by decide) (hts _ (List.mem_of_getElem? (i := 1) rfl)) (fun _ h9 => h9) rfl dX6_unevenPairs_6 ?_
      refine x_get (v := .int (S.1 23 1)) (C := RX2) (T := TX2) (N := 12) hx hb hts (fun _ h => List.mem_cons_of_mem _ (List.mem_append_left _ (List.mem_append_left _ (List.mem_append_right _ h)))) hown hK hw 23 (Nat.lt_of_lt_of_le (Nat.le_of_ble_eq_true rfl : 23 < 191) hn) (mk_23 cA α) rfl 1 (by decide) (hts _ (List.mem_of_getElem? (i := 2) rfl)) (fun _ h9 => h9) rfl dX6_unevenPairs_9 ?_
      refine x_topN (k := Cn) hC ?_
      refine xn_icmp_ge (tgt := 65) hx hb (by omega) (by omega) dX6_unevenPairs_12 (by decide) (fun c1 => ?_) (fun c1 => ?_)
      · skip
        refine lv_iload_n hx hb dX6_unevenPairs_65 rfl (lv_at hl 3 rfl) ?_
        exact ret_i hx hb hr hlocks hK hw dX6_unevenPairs_66 (by rw [hk, show a = Cn by omega]) rfl
      · skip
        refine lv_iload_n hx hb dX6_unevenPairs_15 rfl (lv_at hl 2 rfl) ?_
        refine lv_iconst (v := nI 1) hx hb dX6_unevenPairs_16 (by decide) ?_
        refine xn_iadd hx hb dX6_unevenPairs_17 ?_
        refine lv_istore (lv' := [(4, .int (nI (a + 1))), (0, .ref (α 6)), (1, .ref (α 3)), (3, .int (nI a)), (2, .int (nI k))]) hx hb dX6_unevenPairs_18 hl (by decide) rfl (fun ls hl => ?_)
        have lp20 : ∀ (t : Nat) (b : Nat) (k2 : Nat) (H : Heap) (locs : List Loc) (ls : Array Slot), Cn - b < t → a + 1 ≤ b → b ≤ Cn → k2 = k + cnt (cUr S N a) b → Ws D cA α n (Aw α n sz) s.heap S H locs → lv_has ls 5 [(0, .ref (α 6)), (1, .ref (α 3)), (3, .int (nI a)), (4, .int (nI b)), (2, .int (nI k2))] → W p l e ({ frames := 3, cells := 0, slots := 0, locals := 68 } : Room) s m (List.toArray ([.ref (α 6), .ref (α 3)] : List Value)) below meth c H locs 0 0 (MQ below (va_Qi (fun r u => r = (nI (sumN (fun a => cnt (cUr S N a) Cn) Cn)) ∧ u = S) (Pw D cA α n) (Aw α n sz)) (List.toArray ([.ref (α 6), .ref (α 3)] : List Value)) s 0 0 (Aw α n sz)) (F0 m 20 ls []) := by
          intro t
          induction t with
          | zero => intro b k2 H locs ls ht; exact absurd ht (Nat.not_lt_zero _)
          | succ t ih20 =>
            intro b k2 H locs ls ht hb0 hb2 hk2 hw hl
            refine lv_iload hx hb dX6_unevenPairs_20 (lv_at hl 3 rfl) ?_
            refine lv_aload_n hx hb dX6_unevenPairs_22 rfl (lv_at hl 1 rfl) ?_
            refine x_get (v := .ref (α 23)) (C := RX0) (T := TX0) (N := 3) hx hb hts (fun _ h => List.mem_cons_of_mem _ (List.mem_append_left _ (List.mem_append_left _ (List.mem_append_left _ (List.mem_append_right _ h))))) hown hK hw 3 (Nat.lt_of_lt_of_le (Nat.le_of_ble_eq_true rfl : 3 < 191) hn) (mk_3 cA α) rfl 0 (by decide) (hts _ (List.mem_of_getElem? (i := 1) rfl)) (fun _ h9 => h9) rfl dX6_unevenPairs_23 ?_
            refine x_get (v := .int (S.1 23 1)) (C := RX2) (T := TX2) (N := 12) hx hb hts (fun _ h => List.mem_cons_of_mem _ (List.mem_append_left _ (List.mem_append_left _ (List.mem_append_right _ h)))) hown hK hw 23 (Nat.lt_of_lt_of_le (Nat.le_of_ble_eq_true rfl : 23 < 191) hn) (mk_23 cA α) rfl 1 (by decide) (hts _ (List.mem_of_getElem? (i := 2) rfl)) (fun _ h9 => h9) rfl dX6_unevenPairs_26 ?_
            refine x_topN (k := Cn) hC ?_
            refine xn_icmp_ge (tgt := 59) hx hb (by omega) (by omega) dX6_unevenPairs_29 (by decide) (fun c2 => ?_) (fun c2 => ?_)
            · skip
              refine lv_iinc (v := nI (a + 1)) (lv' := [(3, .int (nI (a + 1))), (0, .ref (α 6)), (1, .ref (α 3)), (4, .int (nI b)), (2, .int (nI k2))]) hx hb dX6_unevenPairs_59 hl (k := 2) rfl (nI_1 _) (by decide) rfl (fun ls hl => ?_)
              refine lv_goto (tgt := 4) hx hb dX6_unevenPairs_62 (by decide) ?_
              exact ih4 (a + 1) k2 _ _ _ (by omega) (by omega) (by rw [sumN, ← hk, hk2, show b = Cn by omega]) hw (lv_sub hl [1, 2, 0, 4] rfl)
            · skip
              refine lv_aload_n hx hb dX6_unevenPairs_32 rfl (lv_at hl 1 rfl) ?_
              refine lv_iload_n hx hb dX6_unevenPairs_33 rfl (lv_at hl 2 rfl) ?_
              refine lv_iload hx hb dX6_unevenPairs_34 (lv_at hl 3 rfl) ?_
              refine x_callSLr (q := 0) (C := RX0) (As := [.ref (α 3), .int (nI a), .int (nI b)]) (rest := []) ⟨hx, hb, hml, hown, hts⟩ (ct_X6_owedTo l D cA α n _ hn S (nI a) (nI b) N hN hN2 ho) (va_cwS 3 hts gX6_unevenPairs_X6_owedTo rfl rfl rfl (by decide +kernel) ⟨Nat.le_of_ble_eq_true rfl, Nat.le_of_ble_eq_true rfl⟩) hK hw hAw rfl hl.1 rfl (Nat.le_of_ble_eq_true rfl) dX6_unevenPairs_36 ⟨Nat.zero_le _, Nat.zero_le _⟩ (fun H locs hw => ?_)
              refine lv_aload_n hx hb dX6_unevenPairs_39 rfl (lv_at hl 1 rfl) ?_
              refine lv_iload hx hb dX6_unevenPairs_40 (lv_at hl 3 rfl) ?_
              refine lv_iload_n hx hb dX6_unevenPairs_42 rfl (lv_at hl 2 rfl) ?_
              refine x_callSLr (q := 0) (C := RX0) (As := [.ref (α 3), .int (nI b), .int (nI a)]) (rest := [.long (sumL (fOwe S (nI a) (nI b)) N)]) ⟨hx, hb, hml, hown, hts⟩ (ct_X6_owedTo l D cA α n _ hn S (nI b) (nI a) N hN hN2 ho) (va_cwS 3 hts gX6_unevenPairs_X6_owedTo rfl rfl rfl (by decide +kernel) ⟨Nat.le_of_ble_eq_true rfl, Nat.le_of_ble_eq_true rfl⟩) hK hw hAw rfl hl.1 rfl (Nat.le_of_ble_eq_true rfl) dX6_unevenPairs_43 ⟨Nat.zero_le _, Nat.zero_le _⟩ (fun H locs hw => ?_)
              refine x_lcmp_eq (tgt := 53) hx hb dX6_unevenPairs_46 dX6_unevenPairs_47 (by decide) (fun c3 => ?_) (fun c3 => ?_)
              · skip
                refine lv_iinc (v := nI (b + 1)) (lv' := [(4, .int (nI (b + 1))), (0, .ref (α 6)), (1, .ref (α 3)), (3, .int (nI a)), (2, .int (nI k2))]) hx hb dX6_unevenPairs_53 hl (k := 3) rfl (nI_1 _) (by decide) rfl (fun ls hl => ?_)
                refine lv_goto (tgt := 20) hx hb dX6_unevenPairs_56 (by decide) ?_
                exact ih20 (b + 1) k2 _ _ _ (by omega) (by omega) (by omega) (by rw [cnt]; unfold cUr at hk2 ⊢; unfold cUn at hk2 ⊢; rw [hk2, decide_eq_true (show a < b by omega)]; simp only [if_pos c1, if_neg (not_not_intro c1), decide_eq_true c1, if_pos c2, if_neg (not_not_intro c2), decide_eq_true c2, if_pos c3, if_neg (not_not_intro c3), decide_eq_true c3, if_true, if_false, eq_self, Bool.false_eq_true, not_true_eq_false, not_false_eq_true, decide_true, decide_false, Bool.and_true, Bool.true_and, Bool.and_false, Bool.false_and, Bool.not_true, Bool.not_false, Bool.or_true, Bool.true_or, Bool.or_false, Bool.false_or, reduceIte, b2i_t, b2i_f, Nat.add_zero, Nat.add_assoc]) hw (lv_sub hl [1, 2, 3, 0, 4] rfl)
              · skip
                refine lv_iinc (v := nI (k2 + 1)) (lv' := [(2, .int (nI (k2 + 1))), (0, .ref (α 6)), (1, .ref (α 3)), (3, .int (nI a)), (4, .int (nI b))]) hx hb dX6_unevenPairs_50 hl (k := 4) rfl (nI_1 _) (by decide) rfl (fun ls hl => ?_)
                refine lv_iinc (v := nI (b + 1)) (lv' := [(4, .int (nI (b + 1))), (2, .int (nI (k2 + 1))), (0, .ref (α 6)), (1, .ref (α 3)), (3, .int (nI a))]) hx hb dX6_unevenPairs_53 hl (k := 4) rfl (nI_1 _) (by decide) rfl (fun ls hl => ?_)
                refine lv_goto (tgt := 20) hx hb dX6_unevenPairs_56 (by decide) ?_
                exact ih20 (b + 1) (k2 + 1) _ _ _ (by omega) (by omega) (by omega) (by rw [cnt]; unfold cUr at hk2 ⊢; unfold cUn at hk2 ⊢; rw [hk2, decide_eq_true (show a < b by omega)]; simp only [if_pos c1, if_neg (not_not_intro c1), decide_eq_true c1, if_pos c2, if_neg (not_not_intro c2), decide_eq_true c2, if_neg c3, if_pos c3, decide_eq_false c3, if_true, if_false, eq_self, Bool.false_eq_true, not_true_eq_false, not_false_eq_true, decide_true, decide_false, Bool.and_true, Bool.true_and, Bool.and_false, Bool.false_and, Bool.not_true, Bool.not_false, Bool.or_true, Bool.true_or, Bool.or_false, Bool.false_or, reduceIte, b2i_t, b2i_f, Nat.add_zero, Nat.add_assoc]) hw (lv_sub hl [2, 3, 4, 0, 1] rfl)
        exact lp20 _ (a + 1) k _ _ _ (Nat.lt_succ_self _) (Nat.le_refl _) (by omega) (by rw [cUr_lo S N a (a + 1) (Nat.le_refl _)]; rfl) hw (lv_sub hl [1, 2, 3, 0, 4] rfl)
  exact lp4 _ 0 0 _ _ _ (Nat.lt_succ_self _) (Nat.zero_le _) rfl hw (lv_sub hl [2, 3, 0, 1] rfl)

/-- positions behind j items -/
def cPos (S : Mem) : Nat → (Nat → Int64)
  | 0 => zL (S.2 7) 6
  | j + 1 => if cIs S j (nI 0) (nI 1) then vp_updL (vp_updL (cPos S j) (gN (S.1 45 j)) (cPos S j (gN (S.1 45 j)) + cVal S j)) (gN (S.1 46 j)) (vp_updL (cPos S j) (gN (S.1 45 j)) (cPos S j (gN (S.1 45 j)) + cVal S j) (gN (S.1 46 j)) - cVal S j) else cPos S j

set_option maxRecDepth 100000 in
set_option maxHeartbeats 1000000 in
theorem ct_X6_findPositions (l : Launch) (D : va_G) (cA : Nat → ClassId) (α : Nat → Nat) (n sz : Nat) (hn : 191 ≤ n) (S : Mem) (N : Nat) (hN : S.1 74 0 = nI N) (hN2 : N ≤ 100) (ho : ∀ j, j < N → okC S j) (hpa : ∀ j, j < N → okI (S.1 46 j) 6) : CtV l yX6_findPositions wsX6_findPositions ({ frames := 2, cells := 0, slots := 0, locals := 43 }) D cA α n sz [.ref (α 6), .ref (α 3)] S (setL S 7 (cPos S N)) := by
  refine ct_enter cX6_findPositions 5 none (by decide) rfl (Nat.le_of_ble_eq_true rfl) ?_
  intro p e s m below meth c hx hb hr hml hlocks hown hts hK hsz hw ls hl
  have hown : s.vm.findClass RX6 = some m.cls := hown
  have hAw : ∀ z, Aw α n s.heap.size z → Aw α n sz z := by rw [hsz]; exact fun _ h => h
  have hl : lv_has ls 5 [(0, .ref (α 6)), (1, .ref (α 3))] := hl
  refine lv_iconst (v := nI 0) hx hb dX6_findPositions_0 (by decide) ?_
  refine lv_istore_n (lv' := [(2, .int (nI 0)), (0, .ref (α 6)), (1, .ref (α 3))]) hx hb dX6_findPositions_1 rfl hl (by decide) rfl (fun ls hl => ?_)
  have lp2 : ∀ (t : Nat) (k : Nat) (T : Mem) (H : Heap) (locs : List Loc) (ls : Array Slot), 6 - k < t → k ≤ 6 → T = setL S 7 (zL (S.2 7) k) → Ws D cA α n (Aw α n sz) s.heap T H locs → lv_has ls 5 [(0, .ref (α 6)), (1, .ref (α 3)), (2, .int (nI k))] → W p l e ({ frames := 2, cells := 0, slots := 0, locals := 43 } : Room) s m (List.toArray ([.ref (α 6), .ref (α 3)] : List Value)) below meth c H locs 0 0 (MQ below (va_Qv (fun u => u = (setL S 7 (cPos S N))) (Pw D cA α n) (Aw α n sz)) (List.toArray ([.ref (α 6), .ref (α 3)] : List Value)) s 0 0 (Aw α n sz)) (F0 m 2 ls []) := by
    intro t
    induction t with
    | zero => intro k T H locs ls ht; exact absurd ht (Nat.not_lt_zero _)
    | succ t ih2 =>
      intro k T H locs ls ht hj hT hw hl
      refine lv_iload_n hx hb dX6_findPositions_2 rfl (lv_at hl 2 rfl) ?_
      refine lv_bipush (v := nI 6) hx hb dX6_findPositions_3 (by decide) ?_
      refine xn_icmp_ge (tgt := 21) hx hb (by omega) (by decide) dX6_findPositions_5 (by decide) (fun c1 => ?_) (fun c1 => ?_)
      · skip
        refine lv_iconst (v := nI 0) hx hb dX6_findPositions_21 (by decide) ?_
        refine lv_istore_n (lv' := [(2, .int (nI 0)), (0, .ref (α 6)), (1, .ref (α 3))]) hx hb dX6_findPositions_22 rfl hl (by decide) rfl (fun ls hl => ?_)
        have lp23 : ∀ (t : Nat) (j : Nat) (T : Mem) (H : Heap) (locs : List Loc) (ls : Array Slot), N - j < t → j ≤ N → T = setL S 7 (cPos S j) → Ws D cA α n (Aw α n sz) s.heap T H locs → lv_has ls 5 [(0, .ref (α 6)), (1, .ref (α 3)), (2, .int (nI j))] → W p l e ({ frames := 2, cells := 0, slots := 0, locals := 43 } : Room) s m (List.toArray ([.ref (α 6), .ref (α 3)] : List Value)) below meth c H locs 0 0 (MQ below (va_Qv (fun u => u = (setL S 7 (cPos S N))) (Pw D cA α n) (Aw α n sz)) (List.toArray ([.ref (α 6), .ref (α 3)] : List Value)) s 0 0 (Aw α n sz)) (F0 m 23 ls []) := by
          intro t
          induction t with
          | zero => intro j T H locs ls ht; exact absurd ht (Nat.not_lt_zero _)
          | succ t ih23 =>
            intro j T H locs ls ht hj hT hw hl
            refine lv_iload_n hx hb dX6_findPositions_23 rfl (lv_at hl 2 rfl) ?_
            refine lv_aload_n hx hb dX6_findPositions_24 rfl (lv_at hl 1 rfl) ?_
            refine x_get (v := .ref (α 74)) (C := RX0) (T := TX0) (N := 3) hx hb hts (fun _ h => List.mem_cons_of_mem _ (List.mem_append_left _ (List.mem_append_left _ (List.mem_append_left _ (List.mem_append_right _ h))))) hown hK hw 3 (Nat.lt_of_lt_of_le (Nat.le_of_ble_eq_true rfl : 3 < 191) hn) (mk_3 cA α) rfl 2 (by decide) (hts _ (List.mem_of_getElem? (i := 2) rfl)) (fun _ h9 => h9) rfl dX6_findPositions_25 ?_
            refine x_get (v := .int (T.1 74 0)) (C := RX9) (T := TX9) (N := 14) hx hb hts (fun _ h => List.mem_cons_of_mem _ (List.mem_append_left _ (List.mem_append_left _ (List.mem_append_right _ h)))) hown hK hw 74 (Nat.lt_of_lt_of_le (Nat.le_of_ble_eq_true rfl : 74 < 191) hn) (mk_74 cA α) rfl 0 (by decide) (hts _ (List.mem_of_getElem? (i := 3) rfl)) (fun _ h9 => h9) rfl dX6_findPositions_28 ?_
            refine x_topN (k := N) (by rw [hT]; exact hN) ?_
            refine xn_icmp_ge (tgt := 92) hx hb (by omega) (by omega) dX6_findPositions_31 (by decide) (fun c2 => ?_) (fun c2 => ?_)
            · skip
              exact ret_v hx hb hr hlocks hK hw dX6_findPositions_92 (by rw [hT, show j = N by omega])
            · skip
              refine lv_aload_n hx hb dX6_findPositions_34 rfl (lv_at hl 1 rfl) ?_
              refine lv_iload_n hx hb dX6_findPositions_35 rfl (lv_at hl 2 rfl) ?_
              refine lv_iconst (v := nI 0) hx hb dX6_findPositions_36 (by decide) ?_
              refine lv_iconst (v := nI 1) hx hb dX6_findPositions_37 (by decide) ?_
              refine x_callVIr (q := 3) (C := RX0) (As := [.int (nI j), .int (nI 0), .int (nI 1)]) (rest := []) ⟨hx, hb, hml, hown, hts⟩ (ct_X0_isIn l D cA α n _ hn T j (nI 0) (nI 1) (by omega)) (cwV 3 hts gX6_findPositions_X0_isIn rfl rfl rfl (by decide +kernel) ⟨Nat.le_of_ble_eq_true rfl, Nat.le_of_ble_eq_true rfl⟩) hK hw hAw (ws_recv hK hw (q := 3) (Nat.lt_of_lt_of_le (Nat.le_of_ble_eq_true rfl : 3 < 191) hn) (mk_3 cA α) rfl) rfl hl.1 rfl (Nat.le_of_ble_eq_true rfl) dX6_findPositions_38 ⟨Nat.zero_le _, Nat.zero_le _⟩ (fun H locs hw => ?_)
              refine x_topE (y := b2i (cIs S j (nI 0) (nI 1))) (by rw [hT]; rfl) ?_
              refine xb_eq (b := (cIs S j (nI 0) (nI 1))) (tgt := 86) hx hb dX6_findPositions_41 (by decide) (fun c3 => ?_) (fun c3 => ?_)
              · skip
                refine lv_iinc (v := nI (j + 1)) (lv' := [(2, .int (nI (j + 1))), (0, .ref (α 6)), (1, .ref (α 3))]) hx hb dX6_findPositions_86 hl (k := 2) rfl (nI_1 _) (by decide) rfl (fun ls hl => ?_)
                refine lv_goto (tgt := 23) hx hb dX6_findPositions_89 (by decide) ?_
                exact ih23 (j + 1) T _ _ _ (by omega) (by omega) (by rw [cPos]; simp only [if_pos c1, if_neg (not_not_intro c1), decide_eq_true c1, if_pos c2, if_neg (not_not_intro c2), decide_eq_true c2, c3, if_true, if_false, eq_self, Bool.false_eq_true, not_true_eq_false, not_false_eq_true, decide_true, decide_false, Bool.and_true, Bool.true_and, Bool.and_false, Bool.false_and, Bool.not_true, Bool.not_false, Bool.or_true, Bool.true_or, Bool.or_false, Bool.false_or, reduceIte, b2i_t, b2i_f]; exact hT) hw (lv_sub hl [1, 2, 0] rfl)
              · skip
                have h45 := (ho j (by omega)).2.1.2
                have h46 := (hpa j (by omega)).2
                refine lv_aload_n hx hb dX6_findPositions_44 rfl (lv_at hl 1 rfl) ?_
                refine lv_iload_n hx hb dX6_findPositions_45 rfl (lv_at hl 2 rfl) ?_
                refine x_callVLr (q := 3) (C := RX0) (As := [.int (nI j)]) (rest := []) ⟨hx, hb, hml, hown, hts⟩ (ct_X0_valueOf l D cA α n _ hn T j (by rw [hT]; exact ho j (by omega))) (cwV 1 hts gX6_findPositions_X0_valueOf rfl rfl rfl (by decide +kernel) ⟨Nat.le_of_ble_eq_true rfl, Nat.le_of_ble_eq_true rfl⟩) hK hw hAw (ws_recv hK hw (q := 3) (Nat.lt_of_lt_of_le (Nat.le_of_ble_eq_true rfl : 3 < 191) hn) (mk_3 cA α) rfl) rfl hl.1 rfl (Nat.le_of_ble_eq_true rfl) dX6_findPositions_46 ⟨Nat.zero_le _, Nat.zero_le _⟩ (fun H locs hw => ?_)
                refine x_topEL (y := cVal S j) (by rw [hT]; rfl) ?_
                refine lv_lstore_n (lv' := [(3, .long (cVal S j)), (0, .ref (α 6)), (1, .ref (α 3)), (2, .int (nI j))]) hx hb dX6_findPositions_49 rfl hl (by decide) rfl (fun ls hl => ?_)
                refine lv_aload_n hx hb dX6_findPositions_50 rfl (lv_at hl 1 rfl) ?_
                refine x_get (v := .ref (α 7)) (C := RX6) (T := TX6) (N := 3) hx hb hts (fun _ h => List.mem_cons_of_mem _ (List.mem_append_left _ (List.mem_append_left _ (List.mem_append_left _ (List.mem_append_left _ (List.mem_append_right _ h)))))) hown hK hw 6 (Nat.lt_of_lt_of_le (Nat.le_of_ble_eq_true rfl : 6 < 191) hn) (mk_6 cA α) rfl 0 (by decide) (hts _ (List.mem_of_getElem? (i := 1) rfl)) (fun _ h9 => h9) rfl dX6_findPositions_51 ?_
                refine lv_aload_n hx hb dX6_findPositions_54 rfl (lv_at hl 2 rfl) ?_
                refine x_get (v := .ref (α 44)) (C := RX0) (T := TX0) (N := 3) hx hb hts (fun _ h => List.mem_cons_of_mem _ (List.mem_append_left _ (List.mem_append_left _ (List.mem_append_left _ (List.mem_append_right _ h))))) hown hK hw 3 (Nat.lt_of_lt_of_le (Nat.le_of_ble_eq_true rfl : 3 < 191) hn) (mk_3 cA α) rfl 1 (by decide) (hts _ (List.mem_of_getElem? (i := 4) rfl)) (fun _ h9 => h9) rfl dX6_findPositions_55 ?_
                refine x_get (v := .ref (α 45)) (C := RX7) (T := TX7) (N := 9) hx hb hts (fun _ h => List.mem_cons_of_mem _ (List.mem_append_left _ (List.mem_append_right _ h))) hown hK hw 44 (Nat.lt_of_lt_of_le (Nat.le_of_ble_eq_true rfl : 44 < 191) hn) (mk_44 cA α) rfl 0 (by decide) (hts _ (List.mem_of_getElem? (i := 5) rfl)) (fun _ h9 => h9) rfl dX6_findPositions_58 ?_
                refine lv_iload_n hx hb dX6_findPositions_61 rfl (lv_at hl 3 rfl) ?_
                refine x_iald hx hb hK hw 45 100 (Nat.lt_of_lt_of_le (Nat.le_of_ble_eq_true rfl : 45 < 191) hn) (mk_45 cA α) j rfl (by omega) (by decide) dX6_findPositions_62 ?_
                refine x_topN (k := gN (S.1 45 j)) (by rw [hT]; exact (ho j (by omega)).2.1.1) ?_
                refine lv_dup2_11 hx hb dX6_findPositions_63 rfl rfl ?_
                refine x_lald hx hb hK hw 7 6 (Nat.lt_of_lt_of_le (Nat.le_of_ble_eq_true rfl : 7 < 191) hn) (mk_7 cA α) (gN (S.1 45 j)) rfl h45 (by decide) dX6_findPositions_64 ?_
                refine lv_lload_n hx hb dX6_findPositions_65 rfl (lv_at hl 0 rfl) ?_
                refine lv_ladd hx hb dX6_findPositions_66 ?_
                refine x_last (x := (T.2 7 (gN (S.1 45 j))) + (cVal S j)) hx hb hK hw 7 6 (Nat.lt_of_lt_of_le (Nat.le_of_ble_eq_true rfl : 7 < 191) hn) (mk_7 cA α) (gN (S.1 45 j)) rfl h45 (by decide) dX6_findPositions_67 (fun S1 eS1 H locs hw => ?_)
                refine lv_aload_n hx hb dX6_findPositions_68 rfl (lv_at hl 1 rfl) ?_
                refine x_get (v := .ref (α 7)) (C := RX6) (T := TX6) (N := 3) hx hb hts (fun _ h => List.mem_cons_of_mem _ (List.mem_append_left _ (List.mem_append_left _ (List.mem_append_left _ (List.mem_append_left _ (List.mem_append_right _ h)))))) hown hK hw 6 (Nat.lt_of_lt_of_le (Nat.le_of_ble_eq_true rfl : 6 < 191) hn) (mk_6 cA α) rfl 0 (by decide) (hts _ (List.mem_of_getElem? (i := 1) rfl)) (fun _ h9 => h9) rfl dX6_findPositions_69 ?_
                refine lv_aload_n hx hb dX6_findPositions_72 rfl (lv_at hl 2 rfl) ?_
                refine x_get (v := .ref (α 44)) (C := RX0) (T := TX0) (N := 3) hx hb hts (fun _ h => List.mem_cons_of_mem _ (List.mem_append_left _ (List.mem_append_left _ (List.mem_append_left _ (List.mem_append_right _ h))))) hown hK hw 3 (Nat.lt_of_lt_of_le (Nat.le_of_ble_eq_true rfl : 3 < 191) hn) (mk_3 cA α) rfl 1 (by decide) (hts _ (List.mem_of_getElem? (i := 4) rfl)) (fun _ h9 => h9) rfl dX6_findPositions_73 ?_
                refine x_get (v := .ref (α 46)) (C := RX7) (T := TX7) (N := 9) hx hb hts (fun _ h => List.mem_cons_of_mem _ (List.mem_append_left _ (List.mem_append_right _ h))) hown hK hw 44 (Nat.lt_of_lt_of_le (Nat.le_of_ble_eq_true rfl : 44 < 191) hn) (mk_44 cA α) rfl 1 (by decide) (hts _ (List.mem_of_getElem? (i := 6) rfl)) (fun _ h9 => h9) rfl dX6_findPositions_76 ?_
                refine lv_iload_n hx hb dX6_findPositions_79 rfl (lv_at hl 3 rfl) ?_
                refine x_iald hx hb hK hw 46 100 (Nat.lt_of_lt_of_le (Nat.le_of_ble_eq_true rfl : 46 < 191) hn) (mk_46 cA α) j rfl (by omega) (by decide) dX6_findPositions_80 ?_
                refine x_topN (k := gN (S.1 46 j)) (by subst_vars; exact (hpa j (by omega)).1) ?_
                refine lv_dup2_11 hx hb dX6_findPositions_81 rfl rfl ?_
                refine x_lald hx hb hK hw 7 6 (Nat.lt_of_lt_of_le (Nat.le_of_ble_eq_true rfl : 7 < 191) hn) (mk_7 cA α) (gN (S.1 46 j)) rfl h46 (by decide) dX6_findPositions_82 ?_
                refine lv_lload_n hx hb dX6_findPositions_83 rfl (lv_at hl 0 rfl) ?_
                refine lv_lsub hx hb dX6_findPositions_84 ?_
                refine x_last (x := (S1.2 7 (gN (S.1 46 j))) - (cVal S j)) hx hb hK hw 7 6 (Nat.lt_of_lt_of_le (Nat.le_of_ble_eq_true rfl : 7 < 191) hn) (mk_7 cA α) (gN (S.1 46 j)) rfl h46 (by decide) dX6_findPositions_85 (fun S2 eS2 H locs hw => ?_)
                refine lv_iinc (v := nI (j + 1)) (lv' := [(2, .int (nI (j + 1))), (3, .long (cVal S j)), (0, .ref (α 6)), (1, .ref (α 3))]) hx hb dX6_findPositions_86 hl (k := 3) rfl (nI_1 _) (by decide) rfl (fun ls hl => ?_)
                refine lv_goto (tgt := 23) hx hb dX6_findPositions_89 (by decide) ?_
                exact ih23 (j + 1) S2 _ _ _ (by omega) (by omega) (by rw [cPos, if_pos c3]; subst eS2; subst eS1; rw [hT]; simp only [setJ_setL, sL_e]) hw (lv_sub hl [2, 3, 0] rfl)
        exact lp23 _ 0 T _ _ _ (Nat.lt_succ_self _) (Nat.zero_le _) (by rw [hT, show k = 6 by omega]; rfl) hw (lv_sub hl [1, 2, 0] rfl)
      · skip
        refine lv_aload_n hx hb dX6_findPositions_8 rfl (lv_at hl 0 rfl) ?_
        refine x_get (v := .ref (α 7)) (C := RX6) (T := TX6) (N := 3) hx hb hts (fun _ h => List.mem_cons_of_mem _ (List.mem_append_left _ (List.mem_append_left _ (List.mem_append_left _ (List.mem_append_left _ (List.mem_append_right _ h)))))) hown hK hw 6 (Nat.lt_of_lt_of_le (Nat.le_of_ble_eq_true rfl : 6 < 191) hn) (mk_6 cA α) rfl 0 (by decide) (hts _ (List.mem_of_getElem? (i := 1) rfl)) (fun _ h9 => h9) rfl dX6_findPositions_9 ?_
        refine lv_iload_n hx hb dX6_findPositions_12 rfl (lv_at hl 2 rfl) ?_
        refine lv_lconst (v := 0) hx hb dX6_findPositions_13 (by decide) ?_
        refine x_last (x := 0) hx hb hK hw 7 6 (Nat.lt_of_lt_of_le (Nat.le_of_ble_eq_true rfl : 7 < 191) hn) (mk_7 cA α) k rfl (by omega) (by decide) dX6_findPositions_14 (fun S3 eS3 H locs hw => ?_)
        refine lv_iinc (v := nI (k + 1)) (lv' := [(2, .int (nI (k + 1))), (0, .ref (α 6)), (1, .ref (α 3))]) hx hb dX6_findPositions_15 hl (k := 2) rfl (nI_1 _) (by decide) rfl (fun ls hl => ?_)
        refine lv_goto (tgt := 2) hx hb dX6_findPositions_18 (by decide) ?_
        exact ih2 (k + 1) S3 _ _ _ (by omega) (by omega) (by subst_vars; exact zL_step S 7 k) hw (lv_sub hl [1, 2, 0] rfl)
  exact lp2 _ 0 S _ _ _ (Nat.lt_succ_self _) (Nat.zero_le _) (by rw [zL_0]; exact (setL_same S 7).symm) hw (lv_sub hl [1, 2, 0] rfl)

/-- settling behind i items -/
def cStl (S : Mem) : Nat → Mem
  | 0 => S
  | i + 1 => if (cStl S i).1 76 i = nI 1 then setJ (setI (setJ (cStl S i) 79 i (cVal (cStl S i) i)) 76 i (nI 3)) 74 3 ((cStl S i).2 74 3 + (if (cStl S i).1 47 i = 0 then cVal (cStl S i) i else -(cVal (cStl S i) i))) else cStl S i
theorem cStl_k (S : Mem) {z : Nat} (h : z ≠ 76) : ∀ i, (cStl S i).1 z = S.1 z
  | 0 => rfl
  | i + 1 => by
    rw [cStl]
    split
    · rw [sJ_1, sI_1 h, sJ_1]; exact cStl_k S h i
    · exact cStl_k S h i

set_option maxRecDepth 100000 in
set_option maxHeartbeats 1000000 in
theorem ct_X6_settlePairs (l : Launch) (D : va_G) (cA : Nat → ClassId) (α : Nat → Nat) (n sz : Nat) (hn : 191 ≤ n) (S : Mem) (N : Nat) (hN : S.1 74 0 = nI N) (hN2 : N ≤ 100) (ho : ∀ j, j < N → okC S j) : CtV l yX6_settlePairs wsX6_settlePairs ({ frames := 2, cells := 0, slots := 0, locals := 43 }) D cA α n sz [.ref (α 3)] S (cStl S N) := by
  refine ct_enter cX6_settlePairs 4 none (by decide) rfl (Nat.le_of_ble_eq_true rfl) ?_
  intro p e s m below meth c hx hb hr hml hlocks hown hts hK hsz hw ls hl
  have hown : s.vm.findClass RX6 = some m.cls := hown
  have hAw : ∀ z, Aw α n s.heap.size z → Aw α n sz z := by rw [hsz]; exact fun _ h => h
  have hl : lv_has ls 4 [(0, .ref (α 3))] := hl
  refine lv_iconst (v := nI 0) hx hb dX6_settlePairs_0 (by decide) ?_
  refine lv_istore_n (lv' := [(1, .int (nI 0)), (0, .ref (α 3))]) hx hb dX6_settlePairs_1 rfl hl (by decide) rfl (fun ls hl => ?_)
  have lp2 : ∀ (t : Nat) (i : Nat) (T : Mem) (H : Heap) (locs : List Loc) (ls : Array Slot), N - i < t → i ≤ N → T = cStl S i → Ws D cA α n (Aw α n sz) s.heap T H locs → lv_has ls 4 [(0, .ref (α 3)), (1, .int (nI i))] → W p l e ({ frames := 2, cells := 0, slots := 0, locals := 43 } : Room) s m (List.toArray ([.ref (α 3)] : List Value)) below meth c H locs 0 0 (MQ below (va_Qv (fun u => u = (cStl S N)) (Pw D cA α n) (Aw α n sz)) (List.toArray ([.ref (α 3)] : List Value)) s 0 0 (Aw α n sz)) (F0 m 2 ls []) := by
    intro t
    induction t with
    | zero => intro i T H locs ls ht; exact absurd ht (Nat.not_lt_zero _)
    | succ t ih2 =>
      intro i T H locs ls ht hj hT hw hl
      refine lv_iload_n hx hb dX6_settlePairs_2 rfl (lv_at hl 1 rfl) ?_
      refine lv_aload_n hx hb dX6_settlePairs_3 rfl (lv_at hl 0 rfl) ?_
      refine x_get (v := .ref (α 74)) (C := RX0) (T := TX0) (N := 3) hx hb hts (fun _ h => List.mem_cons_of_mem _ (List.mem_append_left _ (List.mem_append_left _ (List.mem_append_left _ (List.mem_append_right _ h))))) hown hK hw 3 (Nat.lt_of_lt_of_le (Nat.le_of_ble_eq_true rfl : 3 < 191) hn) (mk_3 cA α) rfl 2 (by decide) (hts _ (List.mem_of_getElem? (i := 1) rfl)) (fun _ h9 => h9) rfl dX6_settlePairs_4 ?_
      refine x_get (v := .int (T.1 74 0)) (C := RX9) (T := TX9) (N := 14) hx hb hts (fun _ h => List.mem_cons_of_mem _ (List.mem_append_left _ (List.mem_append_left _ (List.mem_append_right _ h)))) hown hK hw 74 (Nat.lt_of_lt_of_le (Nat.le_of_ble_eq_true rfl : 74 < 191) hn) (mk_74 cA α) rfl 0 (by decide) (hts _ (List.mem_of_getElem? (i := 2) rfl)) (fun _ h9 => h9) rfl dX6_settlePairs_7 ?_
      refine x_topN (k := N) (by rw [hT]; exact (congrFun (cStl_k S (by decide) i) 0).trans hN) ?_
      refine xn_icmp_ge (tgt := 88) hx hb (by omega) (by omega) dX6_settlePairs_10 (by decide) (fun c1 => ?_) (fun c1 => ?_)
      · skip
        exact ret_v hx hb hr hlocks hK hw dX6_settlePairs_88 (by rw [hT, show i = N by omega])
      · skip
        refine lv_aload_n hx hb dX6_settlePairs_13 rfl (lv_at hl 0 rfl) ?_
        refine x_get (v := .ref (α 74)) (C := RX0) (T := TX0) (N := 3) hx hb hts (fun _ h => List.mem_cons_of_mem _ (List.mem_append_left _ (List.mem_append_left _ (List.mem_append_left _ (List.mem_append_right _ h))))) hown hK hw 3 (Nat.lt_of_lt_of_le (Nat.le_of_ble_eq_true rfl : 3 < 191) hn) (mk_3 cA α) rfl 2 (by decide) (hts _ (List.mem_of_getElem? (i := 1) rfl)) (fun _ h9 => h9) rfl dX6_settlePairs_14 ?_
        refine x_get (v := .ref (α 76)) (C := RX9) (T := TX9) (N := 14) hx hb hts (fun _ h => List.mem_cons_of_mem _ (List.mem_append_left _ (List.mem_append_left _ (List.mem_append_right _ h)))) hown hK hw 74 (Nat.lt_of_lt_of_le (Nat.le_of_ble_eq_true rfl : 74 < 191) hn) (mk_74 cA α) rfl 7 (by decide) (hts _ (List.mem_of_getElem? (i := 3) rfl)) (fun _ h9 => h9) rfl dX6_settlePairs_17 ?_
        refine lv_iload_n hx hb dX6_settlePairs_20 rfl (lv_at hl 1 rfl) ?_
        refine x_iald hx hb hK hw 76 100 (Nat.lt_of_lt_of_le (Nat.le_of_ble_eq_true rfl : 76 < 191) hn) (mk_76 cA α) i rfl (by omega) (by decide) dX6_settlePairs_21 ?_
        refine lv_iconst (v := nI 1) hx hb dX6_settlePairs_22 (by decide) ?_
        refine lv_icmp_ne (tgt := 82) hx hb dX6_settlePairs_23 (by decide) (fun c2 => ?_) (fun c2 => ?_)
        · skip
          refine lv_iinc (v := nI (i + 1)) (lv' := [(1, .int (nI (i + 1))), (0, .ref (α 3))]) hx hb dX6_settlePairs_82 hl (k := 1) rfl (nI_1 _) (by decide) rfl (fun ls hl => ?_)
          refine lv_goto (tgt := 2) hx hb dX6_settlePairs_85 (by decide) ?_
          exact ih2 (i + 1) T _ _ _ (by omega) (by omega) (by rw [cStl]; subst_vars; simp only [if_pos c1, if_neg (not_not_intro c1), decide_eq_true c1, if_neg c2, if_pos c2, decide_eq_false c2, if_true, if_false, eq_self, Bool.false_eq_true, not_true_eq_false, not_false_eq_true, decide_true, decide_false, Bool.and_true, Bool.true_and, Bool.and_false, Bool.false_and, Bool.not_true, Bool.not_false, Bool.or_true, Bool.true_or, Bool.or_false, Bool.false_or, reduceIte, b2i_t, b2i_f]) hw (lv_sub hl [1, 0] rfl)
        · skip
          refine lv_aload_n hx hb dX6_settlePairs_26 rfl (lv_at hl 0 rfl) ?_
          refine lv_iload_n hx hb dX6_settlePairs_27 rfl (lv_at hl 1 rfl) ?_
          refine x_callVLr (q := 3) (C := RX0) (As := [.int (nI i)]) (rest := []) ⟨hx, hb, hml, hown, hts⟩ (ct_X0_valueOf l D cA α n _ hn T i (okC_of (ho i (by omega)) (by rw [hT]; exact cStl_k S (by decide) i) (by rw [hT]; exact cStl_k S (by decide) i))) (cwV 1 hts gX6_settlePairs_X0_valueOf rfl rfl rfl (by decide +kernel) ⟨Nat.le_of_ble_eq_true rfl, Nat.le_of_ble_eq_true rfl⟩) hK hw hAw (ws_recv hK hw (q := 3) (Nat.lt_of_lt_of_le (Nat.le_of_ble_eq_true rfl : 3 < 191) hn) (mk_3 cA α) rfl) rfl hl.1 rfl (Nat.le_of_ble_eq_true rfl) dX6_settlePairs_28 ⟨Nat.zero_le _, Nat.zero_le _⟩ (fun H locs hw => ?_)
          refine lv_lstore_n (lv' := [(2, .long (cVal T i)), (0, .ref (α 3)), (1, .int (nI i))]) hx hb dX6_settlePairs_31 rfl hl (by decide) rfl (fun ls hl => ?_)
          refine lv_aload_n hx hb dX6_settlePairs_32 rfl (lv_at hl 1 rfl) ?_
          refine x_get (v := .ref (α 74)) (C := RX0) (T := TX0) (N := 3) hx hb hts (fun _ h => List.mem_cons_of_mem _ (List.mem_append_left _ (List.mem_append_left _ (List.mem_append_left _ (List.mem_append_right _ h))))) hown hK hw 3 (Nat.lt_of_lt_of_le (Nat.le_of_ble_eq_true rfl : 3 < 191) hn) (mk_3 cA α) rfl 2 (by decide) (hts _ (List.mem_of_getElem? (i := 1) rfl)) (fun _ h9 => h9) rfl dX6_settlePairs_33 ?_
          refine x_get (v := .ref (α 79)) (C := RX9) (T := TX9) (N := 14) hx hb hts (fun _ h => List.mem_cons_of_mem _ (List.mem_append_left _ (List.mem_append_left _ (List.mem_append_right _ h)))) hown hK hw 74 (Nat.lt_of_lt_of_le (Nat.le_of_ble_eq_true rfl : 74 < 191) hn) (mk_74 cA α) rfl 10 (by decide) (hts _ (List.mem_of_getElem? (i := 4) rfl)) (fun _ h9 => h9) rfl dX6_settlePairs_36 ?_
          refine lv_iload_n hx hb dX6_settlePairs_39 rfl (lv_at hl 2 rfl) ?_
          refine lv_lload_n hx hb dX6_settlePairs_40 rfl (lv_at hl 0 rfl) ?_
          refine x_last (x := cVal T i) hx hb hK hw 79 100 (Nat.lt_of_lt_of_le (Nat.le_of_ble_eq_true rfl : 79 < 191) hn) (mk_79 cA α) i rfl (by omega) (by decide) dX6_settlePairs_41 (fun S1 eS1 H locs hw => ?_)
          refine lv_aload_n hx hb dX6_settlePairs_42 rfl (lv_at hl 1 rfl) ?_
          refine x_get (v := .ref (α 74)) (C := RX0) (T := TX0) (N := 3) hx hb hts (fun _ h => List.mem_cons_of_mem _ (List.mem_append_left _ (List.mem_append_left _ (List.mem_append_left _ (List.mem_append_right _ h))))) hown hK hw 3 (Nat.lt_of_lt_of_le (Nat.le_of_ble_eq_true rfl : 3 < 191) hn) (mk_3 cA α) rfl 2 (by decide) (hts _ (List.mem_of_getElem? (i := 1) rfl)) (fun _ h9 => h9) rfl dX6_settlePairs_43 ?_
          refine x_get (v := .ref (α 76)) (C := RX9) (T := TX9) (N := 14) hx hb hts (fun _ h => List.mem_cons_of_mem _ (List.mem_append_left _ (List.mem_append_left _ (List.mem_append_right _ h)))) hown hK hw 74 (Nat.lt_of_lt_of_le (Nat.le_of_ble_eq_true rfl : 74 < 191) hn) (mk_74 cA α) rfl 7 (by decide) (hts _ (List.mem_of_getElem? (i := 3) rfl)) (fun _ h9 => h9) rfl dX6_settlePairs_46 ?_
          refine lv_iload_n hx hb dX6_settlePairs_49 rfl (lv_at hl 2 rfl) ?_
          refine lv_iconst (v := nI 3) hx hb dX6_settlePairs_50 (by decide) ?_
          refine x_iast (x := nI 3) hx hb hK hw 76 100 (Nat.lt_of_lt_of_le (Nat.le_of_ble_eq_true rfl : 76 < 191) hn) (mk_76 cA α) i rfl (by omega) (by decide) dX6_settlePairs_51 (fun S2 eS2 H locs hw => ?_)
          refine lv_aload_n hx hb dX6_settlePairs_52 rfl (lv_at hl 1 rfl) ?_
          refine x_get (v := .ref (α 74)) (C := RX0) (T := TX0) (N := 3) hx hb hts (fun _ h => List.mem_cons_of_mem _ (List.mem_append_left _ (List.mem_append_left _ (List.mem_append_left _ (List.mem_append_right _ h))))) hown hK hw 3 (Nat.lt_of_lt_of_le (Nat.le_of_ble_eq_true rfl : 3 < 191) hn) (mk_3 cA α) rfl 2 (by decide) (hts _ (List.mem_of_getElem? (i := 1) rfl)) (fun _ h9 => h9) rfl dX6_settlePairs_53 ?_
          refine lv_dup hx hb dX6_settlePairs_56 rfl ?_
          refine x_get (v := .long (S2.2 74 3)) (C := RX9) (T := TX9) (N := 14) hx hb hts (fun _ h => List.mem_cons_of_mem _ (List.mem_append_left _ (List.mem_append_left _ (List.mem_append_right _ h)))) hown hK hw 74 (Nat.lt_of_lt_of_le (Nat.le_of_ble_eq_true rfl : 74 < 191) hn) (mk_74 cA α) rfl 3 (by decide) (hts _ (List.mem_of_getElem? (i := 5) rfl)) (fun _ h9 => h9) rfl dX6_settlePairs_57 ?_
          refine lv_aload_n hx hb dX6_settlePairs_60 rfl (lv_at hl 1 rfl) ?_
          refine x_get (v := .ref (α 44)) (C := RX0) (T := TX0) (N := 3) hx hb hts (fun _ h => List.mem_cons_of_mem _ (List.mem_append_left _ (List.mem_append_left _ (List.mem_append_left _ (List.mem_append_right _ h))))) hown hK hw 3 (Nat.lt_of_lt_of_le (Nat.le_of_ble_eq_true rfl : 3 < 191) hn) (mk_3 cA α) rfl 1 (by decide) (hts _ (List.mem_of_getElem? (i := 6) rfl)) (fun _ h9 => h9) rfl dX6_settlePairs_61 ?_
          refine x_get (v := .ref (α 47)) (C := RX7) (T := TX7) (N := 9) hx hb hts (fun _ h => List.mem_cons_of_mem _ (List.mem_append_left _ (List.mem_append_right _ h))) hown hK hw 44 (Nat.lt_of_lt_of_le (Nat.le_of_ble_eq_true rfl : 44 < 191) hn) (mk_44 cA α) rfl 2 (by decide) (hts _ (List.mem_of_getElem? (i := 7) rfl)) (fun _ h9 => h9) rfl dX6_settlePairs_64 ?_
          refine lv_iload_n hx hb dX6_settlePairs_67 rfl (lv_at hl 2 rfl) ?_
          refine x_iald hx hb hK hw 47 100 (Nat.lt_of_lt_of_le (Nat.le_of_ble_eq_true rfl : 47 < 191) hn) (mk_47 cA α) i rfl (by omega) (by decide) dX6_settlePairs_68 ?_
          refine lv_if_ne (tgt := 76) hx hb dX6_settlePairs_69 (by decide) (fun c3 => ?_) (fun c3 => ?_)
          · skip
            refine lv_lload_n hx hb dX6_settlePairs_76 rfl (lv_at hl 0 rfl) ?_
            refine lv_lneg hx hb dX6_settlePairs_77 ?_
            refine lv_ladd hx hb dX6_settlePairs_78 ?_
            refine x_putL (x := (S2.2 74 3) + (-(cVal T i))) (ty := .long) (C := RX9) (T := TX9) (N := 14) hx hb hts (fun _ h => List.mem_cons_of_mem _ (List.mem_append_left _ (List.mem_append_left _ (List.mem_append_right _ h)))) tyX9 tyX9_ok nmX9 hown hK hw 74 (Nat.lt_of_lt_of_le (Nat.le_of_ble_eq_true rfl : 74 < 191) hn) (mk_74 cA α) rfl 3 (by decide) (hts _ (List.mem_of_getElem? (i := 5) rfl)) (fun _ h9 => h9) rfl rfl rfl rfl (Nat.le_of_ble_eq_true rfl) rfl dX6_settlePairs_79 (fun S3 eS3 H locs hw => ?_)
            refine lv_iinc (v := nI (i + 1)) (lv' := [(1, .int (nI (i + 1))), (2, .long (cVal T i)), (0, .ref (α 3))]) hx hb dX6_settlePairs_82 hl (k := 2) rfl (nI_1 _) (by decide) rfl (fun ls hl => ?_)
            refine lv_goto (tgt := 2) hx hb dX6_settlePairs_85 (by decide) ?_
            exact ih2 (i + 1) S3 _ _ _ (by omega) (by omega) (by subst_vars; rw [cStl, if_pos c2]; have q := c3; first | (rw [if_pos (show (cStl S i).1 47 i = 0 from q)]; rfl) | (rw [if_neg (show ¬ (cStl S i).1 47 i = 0 from q)]; rfl)) hw (lv_sub hl [2, 0] rfl)
          · skip
            refine lv_lload_n hx hb dX6_settlePairs_72 rfl (lv_at hl 0 rfl) ?_
            refine lv_goto (tgt := 78) hx hb dX6_settlePairs_73 (by decide) ?_
            refine lv_ladd hx hb dX6_settlePairs_78 ?_
            refine x_putL (x := (S2.2 74 3) + (cVal T i)) (ty := .long) (C := RX9) (T := TX9) (N := 14) hx hb hts (fun _ h => List.mem_cons_of_mem _ (List.mem_append_left _ (List.mem_append_left _ (List.mem_append_right _ h)))) tyX9 tyX9_ok nmX9 hown hK hw 74 (Nat.lt_of_lt_of_le (Nat.le_of_ble_eq_true rfl : 74 < 191) hn) (mk_74 cA α) rfl 3 (by decide) (hts _ (List.mem_of_getElem? (i := 5) rfl)) (fun _ h9 => h9) rfl rfl rfl rfl (Nat.le_of_ble_eq_true rfl) rfl dX6_settlePairs_79 (fun S4 eS4 H locs hw => ?_)
            refine lv_iinc (v := nI (i + 1)) (lv' := [(1, .int (nI (i + 1))), (2, .long (cVal T i)), (0, .ref (α 3))]) hx hb dX6_settlePairs_82 hl (k := 2) rfl (nI_1 _) (by decide) rfl (fun ls hl => ?_)
            refine lv_goto (tgt := 2) hx hb dX6_settlePairs_85 (by decide) ?_
            exact ih2 (i + 1) S4 _ _ _ (by omega) (by omega) (by subst_vars; rw [cStl, if_pos c2]; have q := c3; first | (rw [if_pos (show (cStl S i).1 47 i = 0 from q)]; rfl) | (rw [if_neg (show ¬ (cStl S i).1 47 i = 0 from q)]; rfl)) hw (lv_sub hl [2, 0] rfl)
  exact lp2 _ 0 S _ _ _ (Nat.lt_succ_self _) (Nat.zero_le _) rfl hw (lv_sub hl [1, 0] rfl)

def cPay (S : Mem) (c : Nat) : Bool := !decide (nI c = S.1 23 4) && !decide (S.2 7 c = 0)
def cpL (f g : Nat → Int64) (k : Nat) : Nat → Int64 := fun j => if j < k then f j else g j
theorem cpL_0 (f g : Nat → Int64) : cpL f g 0 = g := by funext j; simp [cpL]
theorem cpL_s (f g : Nat → Int64) (k : Nat) : vp_updL (cpL f g k) k (f k) = cpL f g (k + 1) := by
  funext j
  unfold vp_updL cpL
  by_cases h : j = k
  · subst h; simp
  · rw [if_neg h]
    by_cases h2 : j < k
    · rw [if_pos h2, if_pos (by omega)]
    · rw [if_neg h2, if_neg (by omega)]
theorem setJ_cpL (S : Mem) (k : Nat) (f : Nat → Int64) : setJ (setL S 82 (cpL f (S.2 82) k)) 82 k (f k) = setL S 82 (cpL f (S.2 82) (k + 1)) := by
  rw [setJ_setL, cpL_s]
def cSet1 (S : Mem) (N Cn : Nat) : Mem := setL (cStl S N) 82 (cpL (S.2 7) (S.2 82) Cn)
def cSet (S : Mem) (N Cn : Nat) : Mem := setJ (cSet1 S N Cn) 74 4 (S.2 74 4 + (nI (cnt (cPay S) Cn)).toInt64 * (S.1 23 5).toInt64)
theorem cStl_2 (S : Mem) {z : Nat} (h : z ≠ 79) (h2 : z ≠ 74) : ∀ i, (cStl S i).2 z = S.2 z
  | 0 => rfl
  | i + 1 => by
    rw [cStl]
    split
    · rw [sJ_2 h2, sI_2, sJ_2 h]; exact cStl_2 S h h2 i
    · exact cStl_2 S h h2 i
theorem cStl_f (S : Mem) : ∀ i, (cStl S i).2 74 4 = S.2 74 4
  | 0 => rfl
  | i + 1 => by
    rw [cStl]
    split
    · rw [sJ_e]; exact cStl_f S i
    · exact cStl_f S i

set_option maxRecDepth 100000 in
set_option maxHeartbeats 1000000 in
theorem ct_X6_settle (l : Launch) (D : va_G) (cA : Nat → ClassId) (α : Nat → Nat) (n sz : Nat) (hn : 191 ≤ n) (S : Mem) (N : Nat) (hN : S.1 74 0 = nI N) (hN2 : N ≤ 100) (ho : ∀ j, j < N → okC S j) (Cn : Nat) (hC : S.1 23 1 = nI Cn) (hC2 : Cn ≤ 6) : CtI l yX6_settle wsX6_settle ({ frames := 3, cells := 0, slots := 0, locals := 66 }) D cA α n sz [.ref (α 6), .ref (α 3)] S (nI (cnt (cPay S) Cn)) (cSet S N Cn) := by
  refine ct_enter cX6_settle 4 (some .int) (by decide) rfl (Nat.le_of_ble_eq_true rfl) ?_
  intro p e s m below meth c hx hb hr hml hlocks hown hts hK hsz hw ls hl
  have hown : s.vm.findClass RX6 = some m.cls := hown
  have hAw : ∀ z, Aw α n s.heap.size z → Aw α n sz z := by rw [hsz]; exact fun _ h => h
  have hl : lv_has ls 4 [(0, .ref (α 6)), (1, .ref (α 3))] := hl
  refine lv_aload_n hx hb dX6_settle_0 rfl (lv_at hl 1 rfl) ?_
  refine x_callSV (q := 0) (C := RX0) (As := [.ref (α 3)]) (rest := []) ⟨hx, hb, hml, hown, hts⟩ (ct_X6_settlePairs l D cA α n _ hn S N hN hN2 ho) (va_cwS 1 hts gX6_settle_X6_settlePairs rfl rfl rfl (by decide +kernel) ⟨Nat.le_of_ble_eq_true rfl, Nat.le_of_ble_eq_true rfl⟩) hK hw hAw rfl hl.1 rfl (Nat.le_of_ble_eq_true rfl) dX6_settle_1 ⟨Nat.zero_le _, Nat.zero_le _⟩ (fun S1 eS1 H locs hw => ?_)
  refine lv_iconst (v := nI 0) hx hb dX6_settle_4 (by decide) ?_
  refine lv_istore_n (lv' := [(2, .int (nI 0)), (0, .ref (α 6)), (1, .ref (α 3))]) hx hb dX6_settle_5 rfl hl (by decide) rfl (fun ls hl => ?_)
  refine lv_iconst (v := nI 0) hx hb dX6_settle_6 (by decide) ?_
  refine lv_istore_n (lv' := [(3, .int (nI 0)), (2, .int (nI 0)), (0, .ref (α 6)), (1, .ref (α 3))]) hx hb dX6_settle_7 rfl hl (by decide) rfl (fun ls hl => ?_)
  have lp8 : ∀ (t : Nat) (k : Nat) (r : Nat) (T : Mem) (H : Heap) (locs : List Loc) (ls : Array Slot), Cn - k < t → k ≤ Cn → r = cnt (cPay S) k → T = setL (cStl S N) 82 (cpL (S.2 7) (S.2 82) k) → Ws D cA α n (Aw α n sz) s.heap T H locs → lv_has ls 4 [(0, .ref (α 6)), (1, .ref (α 3)), (3, .int (nI k)), (2, .int (nI r))] → W p l e ({ frames := 3, cells := 0, slots := 0, locals := 66 } : Room) s m (List.toArray ([.ref (α 6), .ref (α 3)] : List Value)) below meth c H locs 0 0 (MQ below (va_Qi (fun r u => r = (nI (cnt (cPay S) Cn)) ∧ u = (cSet S N Cn)) (Pw D cA α n) (Aw α n sz)) (List.toArray ([.ref (α 6), .ref (α 3)] : List Value)) s 0 0 (Aw α n sz)) (F0 m 8 ls []) := by
    intro t
    induction t with
    | zero => intro k r T H locs ls ht; exact absurd ht (Nat.not_lt_zero _)
    | succ t ih8 =>
      intro k r T H locs ls ht hj hr9 hT hw hl
      refine lv_iload_n hx hb dX6_settle_8 rfl (lv_at hl 2 rfl) ?_
      refine lv_aload_n hx hb dX6_settle_9 rfl (lv_at hl 1 rfl) ?_
      refine x_get (v := .ref (α 23)) (C := RX0) (T := TX0) (N := 3) hx hb hts (fun _ h => List.mem_cons_of_mem _ (List.mem_append_left _ (List.mem_append_left _ (List.mem_append_left _ (List.mem_append_left _ (List.mem_append_right _ h)))))) hown hK hw 3 (Nat.lt_of_lt_of_le (Nat.le_of_ble_eq_true rfl : 3 < 191) hn) (mk_3 cA α) rfl 0 (by decide) (hts _ (List.mem_of_getElem? (i := 1) rfl)) (fun _ h9 => h9) rfl dX6_settle_10 ?_
      refine x_get (v := .int (T.1 23 1)) (C := RX2) (T := TX2) (N := 12) hx hb hts (fun _ h => List.mem_cons_of_mem _ (List.mem_append_left _ (List.mem_append_left _ (List.mem_append_left _ (List.mem_append_right _ h))))) hown hK hw 23 (Nat.lt_of_lt_of_le (Nat.le_of_ble_eq_true rfl : 23 < 191) hn) (mk_23 cA α) rfl 1 (by decide) (hts _ (List.mem_of_getElem? (i := 2) rfl)) (fun _ h9 => h9) rfl dX6_settle_13 ?_
      refine x_topN (k := Cn) (by rw [hT]; exact (congrFun (cStl_k S (by decide) N) 1).trans hC) ?_
      refine xn_icmp_ge (tgt := 65) hx hb (by omega) (by omega) dX6_settle_16 (by decide) (fun c1 => ?_) (fun c1 => ?_)
      · skip
        refine lv_aload_n hx hb dX6_settle_65 rfl (lv_at hl 1 rfl) ?_
        refine x_get (v := .ref (α 74)) (C := RX0) (T := TX0) (N := 3) hx hb hts (fun _ h => List.mem_cons_of_mem _ (List.mem_append_left _ (List.mem_append_left _ (List.mem_append_left _ (List.mem_append_left _ (List.mem_append_right _ h)))))) hown hK hw 3 (Nat.lt_of_lt_of_le (Nat.le_of_ble_eq_true rfl : 3 < 191) hn) (mk_3 cA α) rfl 2 (by decide) (hts _ (List.mem_of_getElem? (i := 3) rfl)) (fun _ h9 => h9) rfl dX6_settle_66 ?_
        refine lv_dup hx hb dX6_settle_69 rfl ?_
        refine x_get (v := .long (T.2 74 4)) (C := RX9) (T := TX9) (N := 14) hx hb hts (fun _ h => List.mem_cons_of_mem _ (List.mem_append_left _ (List.mem_append_left _ (List.mem_append_right _ h)))) hown hK hw 74 (Nat.lt_of_lt_of_le (Nat.le_of_ble_eq_true rfl : 74 < 191) hn) (mk_74 cA α) rfl 4 (by decide) (hts _ (List.mem_of_getElem? (i := 7) rfl)) (fun _ h9 => h9) rfl dX6_settle_70 ?_
        refine x_topEL (y := S.2 74 4) (by rw [hT]; exact cStl_f S N) ?_
        refine lv_iload_n hx hb dX6_settle_73 rfl (lv_at hl 3 rfl) ?_
        refine lv_i2l hx hb dX6_settle_74 rfl ?_
        refine lv_aload_n hx hb dX6_settle_75 rfl (lv_at hl 1 rfl) ?_
        refine x_get (v := .ref (α 23)) (C := RX0) (T := TX0) (N := 3) hx hb hts (fun _ h => List.mem_cons_of_mem _ (List.mem_append_left _ (List.mem_append_left _ (List.mem_append_left _ (List.mem_append_left _ (List.mem_append_right _ h)))))) hown hK hw 3 (Nat.lt_of_lt_of_le (Nat.le_of_ble_eq_true rfl : 3 < 191) hn) (mk_3 cA α) rfl 0 (by decide) (hts _ (List.mem_of_getElem? (i := 1) rfl)) (fun _ h9 => h9) rfl dX6_settle_76 ?_
        refine x_get (v := .int (T.1 23 5)) (C := RX2) (T := TX2) (N := 12) hx hb hts (fun _ h => List.mem_cons_of_mem _ (List.mem_append_left _ (List.mem_append_left _ (List.mem_append_left _ (List.mem_append_right _ h))))) hown hK hw 23 (Nat.lt_of_lt_of_le (Nat.le_of_ble_eq_true rfl : 23 < 191) hn) (mk_23 cA α) rfl 5 (by decide) (hts _ (List.mem_of_getElem? (i := 8) rfl)) (fun _ h9 => h9) rfl dX6_settle_79 ?_
        refine x_topE (y := S.1 23 5) (by rw [hT]; exact congrFun (cStl_k S (by decide) N) 5) ?_
        refine lv_i2l hx hb dX6_settle_82 rfl ?_
        refine lv_lmul hx hb dX6_settle_83 ?_
        refine lv_ladd hx hb dX6_settle_84 ?_
        refine x_putL (x := (S.2 74 4) + (((nI r).toInt64) * ((S.1 23 5).toInt64))) (ty := .long) (C := RX9) (T := TX9) (N := 14) hx hb hts (fun _ h => List.mem_cons_of_mem _ (List.mem_append_left _ (List.mem_append_left _ (List.mem_append_right _ h)))) tyX9 tyX9_ok nmX9 hown hK hw 74 (Nat.lt_of_lt_of_le (Nat.le_of_ble_eq_true rfl : 74 < 191) hn) (mk_74 cA α) rfl 4 (by decide) (hts _ (List.mem_of_getElem? (i := 7) rfl)) (fun _ h9 => h9) rfl rfl rfl rfl (Nat.le_of_ble_eq_true rfl) rfl dX6_settle_85 (fun S2 eS2 H locs hw => ?_)
        refine lv_iload_n hx hb dX6_settle_88 rfl (lv_at hl 3 rfl) ?_
        exact ret_i hx hb hr hlocks hK hw dX6_settle_89 (by rw [hr9, show k = Cn by omega]) (by have q : k = Cn := (by omega); subst q; subst_vars; rfl)
      · skip
        refine lv_aload_n hx hb dX6_settle_19 rfl (lv_at hl 1 rfl) ?_
        refine x_get (v := .ref (α 74)) (C := RX0) (T := TX0) (N := 3) hx hb hts (fun _ h => List.mem_cons_of_mem _ (List.mem_append_left _ (List.mem_append_left _ (List.mem_append_left _ (List.mem_append_left _ (List.mem_append_right _ h)))))) hown hK hw 3 (Nat.lt_of_lt_of_le (Nat.le_of_ble_eq_true rfl : 3 < 191) hn) (mk_3 cA α) rfl 2 (by decide) (hts _ (List.mem_of_getElem? (i := 3) rfl)) (fun _ h9 => h9) rfl dX6_settle_20 ?_
        refine x_get (v := .ref (α 82)) (C := RX9) (T := TX9) (N := 14) hx hb hts (fun _ h => List.mem_cons_of_mem _ (List.mem_append_left _ (List.mem_append_left _ (List.mem_append_right _ h)))) hown hK hw 74 (Nat.lt_of_lt_of_le (Nat.le_of_ble_eq_true rfl : 74 < 191) hn) (mk_74 cA α) rfl 13 (by decide) (hts _ (List.mem_of_getElem? (i := 4) rfl)) (fun _ h9 => h9) rfl dX6_settle_23 ?_
        refine lv_iload_n hx hb dX6_settle_26 rfl (lv_at hl 2 rfl) ?_
        refine lv_aload_n hx hb dX6_settle_27 rfl (lv_at hl 0 rfl) ?_
        refine x_get (v := .ref (α 7)) (C := RX6) (T := TX6) (N := 3) hx hb hts (fun _ h => List.mem_cons_of_mem _ (List.mem_append_left _ (List.mem_append_right _ h))) hown hK hw 6 (Nat.lt_of_lt_of_le (Nat.le_of_ble_eq_true rfl : 6 < 191) hn) (mk_6 cA α) rfl 0 (by decide) (hts _ (List.mem_of_getElem? (i := 5) rfl)) (fun _ h9 => h9) rfl dX6_settle_28 ?_
        refine lv_iload_n hx hb dX6_settle_31 rfl (lv_at hl 2 rfl) ?_
        refine x_lald hx hb hK hw 7 6 (Nat.lt_of_lt_of_le (Nat.le_of_ble_eq_true rfl : 7 < 191) hn) (mk_7 cA α) k rfl (by omega) (by decide) dX6_settle_32 ?_
        refine x_topEL (y := S.2 7 k) (by rw [hT]; exact congrFun (cStl_2 S (by decide) (by decide) N) k) ?_
        refine x_last (x := S.2 7 k) hx hb hK hw 82 6 (Nat.lt_of_lt_of_le (Nat.le_of_ble_eq_true rfl : 82 < 191) hn) (mk_82 cA α) k rfl (by omega) (by decide) dX6_settle_33 (fun S3 eS3 H locs hw => ?_)
        refine lv_iload_n hx hb dX6_settle_34 rfl (lv_at hl 2 rfl) ?_
        refine lv_aload_n hx hb dX6_settle_35 rfl (lv_at hl 1 rfl) ?_
        refine x_get (v := .ref (α 23)) (C := RX0) (T := TX0) (N := 3) hx hb hts (fun _ h => List.mem_cons_of_mem _ (List.mem_append_left _ (List.mem_append_left _ (List.mem_append_left _ (List.mem_append_left _ (List.mem_append_right _ h)))))) hown hK hw 3 (Nat.lt_of_lt_of_le (Nat.le_of_ble_eq_true rfl : 3 < 191) hn) (mk_3 cA α) rfl 0 (by decide) (hts _ (List.mem_of_getElem? (i := 1) rfl)) (fun _ h9 => h9) rfl dX6_settle_36 ?_
        refine x_get (v := .int (S3.1 23 4)) (C := RX2) (T := TX2) (N := 12) hx hb hts (fun _ h => List.mem_cons_of_mem _ (List.mem_append_left _ (List.mem_append_left _ (List.mem_append_left _ (List.mem_append_right _ h))))) hown hK hw 23 (Nat.lt_of_lt_of_le (Nat.le_of_ble_eq_true rfl : 23 < 191) hn) (mk_23 cA α) rfl 4 (by decide) (hts _ (List.mem_of_getElem? (i := 6) rfl)) (fun _ h9 => h9) rfl dX6_settle_39 ?_
        refine x_topE (y := S.1 23 4) (by subst_vars; exact congrFun (cStl_k S (by decide) N) 4) ?_
        refine lv_icmp_eq (tgt := 59) hx hb dX6_settle_42 (by decide) (fun c2 => ?_) (fun c2 => ?_)
        · skip
          refine lv_iinc (v := nI (k + 1)) (lv' := [(3, .int (nI (k + 1))), (0, .ref (α 6)), (1, .ref (α 3)), (2, .int (nI r))]) hx hb dX6_settle_59 hl (k := 2) rfl (nI_1 _) (by decide) rfl (fun ls hl => ?_)
          refine lv_goto (tgt := 8) hx hb dX6_settle_62 (by decide) ?_
          exact ih8 (k + 1) r S3 _ _ _ (by omega) (by omega) (by rw [cnt, ← hr9]; unfold cPay; simp only [if_pos c1, if_neg (not_not_intro c1), decide_eq_true c1, if_pos c2, if_neg (not_not_intro c2), decide_eq_true c2, if_true, if_false, eq_self, Bool.false_eq_true, not_true_eq_false, not_false_eq_true, decide_true, decide_false, Bool.and_true, Bool.true_and, Bool.and_false, Bool.false_and, Bool.not_true, Bool.not_false, Bool.or_true, Bool.true_or, Bool.or_false, Bool.false_or, reduceIte, b2i_t, b2i_f, Nat.add_zero]) (by subst_vars; rw [setJ_setL, cpL_s]) hw (lv_sub hl [1, 2, 0, 3] rfl)
        · skip
          refine lv_aload_n hx hb dX6_settle_45 rfl (lv_at hl 0 rfl) ?_
          refine x_get (v := .ref (α 7)) (C := RX6) (T := TX6) (N := 3) hx hb hts (fun _ h => List.mem_cons_of_mem _ (List.mem_append_left _ (List.mem_append_right _ h))) hown hK hw 6 (Nat.lt_of_lt_of_le (Nat.le_of_ble_eq_true rfl : 6 < 191) hn) (mk_6 cA α) rfl 0 (by decide) (hts _ (List.mem_of_getElem? (i := 5) rfl)) (fun _ h9 => h9) rfl dX6_settle_46 ?_
          refine lv_iload_n hx hb dX6_settle_49 rfl (lv_at hl 2 rfl) ?_
          refine x_lald hx hb hK hw 7 6 (Nat.lt_of_lt_of_le (Nat.le_of_ble_eq_true rfl : 7 < 191) hn) (mk_7 cA α) k rfl (by omega) (by decide) dX6_settle_50 ?_
          refine x_topEL (y := S.2 7 k) (by subst_vars; exact congrFun (cStl_2 S (by decide) (by decide) N) k) ?_
          refine lv_lconst (v := 0) hx hb dX6_settle_51 (by decide) ?_
          refine x_lcmp_eq (tgt := 59) hx hb dX6_settle_52 dX6_settle_53 (by decide) (fun c3 => ?_) (fun c3 => ?_)
          · skip
            refine lv_iinc (v := nI (k + 1)) (lv' := [(3, .int (nI (k + 1))), (0, .ref (α 6)), (1, .ref (α 3)), (2, .int (nI r))]) hx hb dX6_settle_59 hl (k := 2) rfl (nI_1 _) (by decide) rfl (fun ls hl => ?_)
            refine lv_goto (tgt := 8) hx hb dX6_settle_62 (by decide) ?_
            exact ih8 (k + 1) r S3 _ _ _ (by omega) (by omega) (by rw [cnt, ← hr9]; unfold cPay; simp only [if_pos c1, if_neg (not_not_intro c1), decide_eq_true c1, if_neg c2, if_pos c2, decide_eq_false c2, if_pos c3, if_neg (not_not_intro c3), decide_eq_true c3, if_true, if_false, eq_self, Bool.false_eq_true, not_true_eq_false, not_false_eq_true, decide_true, decide_false, Bool.and_true, Bool.true_and, Bool.and_false, Bool.false_and, Bool.not_true, Bool.not_false, Bool.or_true, Bool.true_or, Bool.or_false, Bool.false_or, reduceIte, b2i_t, b2i_f, Nat.add_zero]) (by subst_vars; rw [setJ_setL, cpL_s]) hw (lv_sub hl [1, 2, 0, 3] rfl)
          · skip
            refine lv_iinc (v := nI (r + 1)) (lv' := [(2, .int (nI (r + 1))), (0, .ref (α 6)), (1, .ref (α 3)), (3, .int (nI k))]) hx hb dX6_settle_56 hl (k := 3) rfl (nI_1 _) (by decide) rfl (fun ls hl => ?_)
            refine lv_iinc (v := nI (k + 1)) (lv' := [(3, .int (nI (k + 1))), (2, .int (nI (r + 1))), (0, .ref (α 6)), (1, .ref (α 3))]) hx hb dX6_settle_59 hl (k := 3) rfl (nI_1 _) (by decide) rfl (fun ls hl => ?_)
            refine lv_goto (tgt := 8) hx hb dX6_settle_62 (by decide) ?_
            exact ih8 (k + 1) (r + 1) S3 _ _ _ (by omega) (by omega) (by rw [cnt, ← hr9]; unfold cPay; simp only [if_pos c1, if_neg (not_not_intro c1), decide_eq_true c1, if_neg c2, if_pos c2, decide_eq_false c2, if_neg c3, if_pos c3, decide_eq_false c3, if_true, if_false, eq_self, Bool.false_eq_true, not_true_eq_false, not_false_eq_true, decide_true, decide_false, Bool.and_true, Bool.true_and, Bool.and_false, Bool.false_and, Bool.not_true, Bool.not_false, Bool.or_true, Bool.true_or, Bool.or_false, Bool.false_or, reduceIte, b2i_t, b2i_f, Nat.add_zero]) (by subst_vars; rw [setJ_setL, cpL_s]) hw (lv_sub hl [2, 3, 0, 1] rfl)
  exact lp8 _ 0 0 S1 _ _ _ (Nat.lt_succ_self _) (Nat.zero_le _) rfl (by rw [cpL_0]; subst_vars; exact ((congrArg (setL (cStl S N) 82) (cStl_2 S (by decide) (by decide) N)).symm.trans (setL_same (cStl S N) 82)).symm) hw (lv_sub hl [2, 3, 0, 1] rfl)
