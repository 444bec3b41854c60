/-! the matcher -/
def cMir (S : Mem) (i j : Nat) : Bool := !decide (S.1 47 i = S.1 47 j) && decide (S.1 48 i = S.1 48 j) && decide (S.1 45 i = S.1 46 j) && decide (S.1 46 i = S.1 45 j)
def cDst (S : Mem) (i j : Nat) : Int64 := abL (cVal S i - cVal S j)

set_option maxRecDepth 100000 in
set_option maxHeartbeats 1000000 in
theorem ct_X5_mirrors (l : Launch) (D : va_G) (cA : Nat → ClassId) (α : Nat → Nat) (n sz : Nat) (hn : 191 ≤ n) (S : Mem) (i j : Nat) (hi : i < 100) (hj : j < 100) : CtI l yX5_mirrors wsX5_mirrors ({ frames := 0, cells := 0, slots := 0, locals := 0 }) D cA α n sz [.ref (α 44), .int (nI i), .int (nI j)] S (b2i (cMir S i j)) S := by
  refine ct_enter cX5_mirrors 3 (some .boolean) (by decide) rfl (Nat.le_of_ble_eq_true rfl) ?_
  intro p e s m below meth c hx hb hr hml hlocks hown hts hK hsz hw ls hl
  have hown : s.vm.findClass RX5 = some m.cls := hown
  have hAw : ∀ z, Aw α n s.heap.size z → Aw α n sz z := by rw [hsz]; exact fun _ h => h
  have hl : lv_has ls 3 [(0, .ref (α 44)), (1, .int (nI i)), (2, .int (nI j))] := hl
  refine lv_aload_n hx hb dX5_mirrors_0 rfl (lv_at hl 0 rfl) ?_
  refine x_get (v := .ref (α 47)) (C := RX7) (T := TX7) (N := 9) hx hb hts (fun _ h => List.mem_cons_of_mem _ (List.mem_append_right _ h)) hown hK hw 44 (Nat.lt_of_lt_of_le (Nat.le_of_ble_eq_true rfl : 44 < 191) hn) (mk_44 cA α) rfl 2 (by decide) (hts _ (List.mem_of_getElem? (i := 1) rfl)) (fun _ h9 => h9) rfl dX5_mirrors_1 ?_
  refine lv_iload_n hx hb dX5_mirrors_4 rfl (lv_at hl 1 rfl) ?_
  refine x_iald hx hb hK hw 47 100 (Nat.lt_of_lt_of_le (Nat.le_of_ble_eq_true rfl : 47 < 191) hn) (mk_47 cA α) i rfl (by omega) (by decide) dX5_mirrors_5 ?_
  refine lv_aload_n hx hb dX5_mirrors_6 rfl (lv_at hl 0 rfl) ?_
  refine x_get (v := .ref (α 47)) (C := RX7) (T := TX7) (N := 9) hx hb hts (fun _ h => List.mem_cons_of_mem _ (List.mem_append_right _ h)) hown hK hw 44 (Nat.lt_of_lt_of_le (Nat.le_of_ble_eq_true rfl : 44 < 191) hn) (mk_44 cA α) rfl 2 (by decide) (hts _ (List.mem_of_getElem? (i := 1) rfl)) (fun _ h9 => h9) rfl dX5_mirrors_7 ?_
  refine lv_iload_n hx hb dX5_mirrors_10 rfl (lv_at hl 2 rfl) ?_
  refine x_iald hx hb hK hw 47 100 (Nat.lt_of_lt_of_le (Nat.le_of_ble_eq_true rfl : 47 < 191) hn) (mk_47 cA α) j rfl (by omega) (by decide) dX5_mirrors_11 ?_
  refine lv_icmp_eq (tgt := 64) hx hb dX5_mirrors_12 (by decide) (fun c1 => ?_) (fun c1 => ?_)
  · skip
    refine lv_iconst (v := nI 0) hx hb dX5_mirrors_64 (by decide) ?_
    exact ret_z hx hb hr (by first | rfl | decide | exact narB _) hlocks hK hw dX5_mirrors_65 (by first | (simp only [cMir, if_pos c1, if_neg (not_not_intro c1), decide_eq_true c1, if_true, if_false, eq_self, Bool.false_eq_true, not_true_eq_false, not_false_eq_true, decide_true, decide_false, Bool.and_true, Bool.true_and, Bool.and_false, Bool.false_and, Bool.not_true, Bool.not_false, Bool.or_true, Bool.true_or, Bool.or_false, Bool.false_or, reduceIte, b2i_t, b2i_f]; done) | rfl | (simp [cMir, if_pos c1, if_neg (not_not_intro c1), decide_eq_true c1, b2i, nI_0, nI_one]; done)) rfl
  · skip
    refine lv_aload_n hx hb dX5_mirrors_15 rfl (lv_at hl 0 rfl) ?_
    refine x_get (v := .ref (α 48)) (C := RX7) (T := TX7) (N := 9) hx hb hts (fun _ h => List.mem_cons_of_mem _ (List.mem_append_right _ h)) hown hK hw 44 (Nat.lt_of_lt_of_le (Nat.le_of_ble_eq_true rfl : 44 < 191) hn) (mk_44 cA α) rfl 3 (by decide) (hts _ (List.mem_of_getElem? (i := 2) rfl)) (fun _ h9 => h9) rfl dX5_mirrors_16 ?_
    refine lv_iload_n hx hb dX5_mirrors_19 rfl (lv_at hl 1 rfl) ?_
    refine x_iald hx hb hK hw 48 100 (Nat.lt_of_lt_of_le (Nat.le_of_ble_eq_true rfl : 48 < 191) hn) (mk_48 cA α) i rfl (by omega) (by decide) dX5_mirrors_20 ?_
    refine lv_aload_n hx hb dX5_mirrors_21 rfl (lv_at hl 0 rfl) ?_
    refine x_get (v := .ref (α 48)) (C := RX7) (T := TX7) (N := 9) hx hb hts (fun _ h => List.mem_cons_of_mem _ (List.mem_append_right _ h)) hown hK hw 44 (Nat.lt_of_lt_of_le (Nat.le_of_ble_eq_true rfl : 44 < 191) hn) (mk_44 cA α) rfl 3 (by decide) (hts _ (List.mem_of_getElem? (i := 2) rfl)) (fun _ h9 => h9) rfl dX5_mirrors_22 ?_
    refine lv_iload_n hx hb dX5_mirrors_25 rfl (lv_at hl 2 rfl) ?_
    refine x_iald hx hb hK hw 48 100 (Nat.lt_of_lt_of_le (Nat.le_of_ble_eq_true rfl : 48 < 191) hn) (mk_48 cA α) j rfl (by omega) (by decide) dX5_mirrors_26 ?_
    refine lv_icmp_ne (tgt := 64) hx hb dX5_mirrors_27 (by decide) (fun c2 => ?_) (fun c2 => ?_)
    · skip
      refine lv_iconst (v := nI 0) hx hb dX5_mirrors_64 (by decide) ?_
      exact ret_z hx hb hr (by first | rfl | decide | exact narB _) hlocks hK hw dX5_mirrors_65 (by first | (simp only [cMir, if_neg c1, if_pos c1, decide_eq_false c1, if_neg c2, if_pos c2, decide_eq_false c2, if_true, if_false, eq_self, Bool.false_eq_true, not_true_eq_false, not_false_eq_true, decide_true, decide_false, Bool.and_true, Bool.true_and, Bool.and_false, Bool.false_and, Bool.not_true, Bool.not_false, Bool.or_true, Bool.true_or, Bool.or_false, Bool.false_or, reduceIte, b2i_t, b2i_f]; done) | rfl | (simp [cMir, if_neg c1, if_pos c1, decide_eq_false c1, if_neg c2, if_pos c2, decide_eq_false c2, b2i, nI_0, nI_one]; done)) rfl
    · skip
      refine lv_aload_n hx hb dX5_mirrors_30 rfl (lv_at hl 0 rfl) ?_
      refine x_get (v := .ref (α 45)) (C := RX7) (T := TX7) (N := 9) hx hb hts (fun _ h => List.mem_cons_of_mem _ (List.mem_append_right _ h)) hown hK hw 44 (Nat.lt_of_lt_of_le (Nat.le_of_ble_eq_true rfl : 44 < 191) hn) (mk_44 cA α) rfl 0 (by decide) (hts _ (List.mem_of_getElem? (i := 3) rfl)) (fun _ h9 => h9) rfl dX5_mirrors_31 ?_
      refine lv_iload_n hx hb dX5_mirrors_34 rfl (lv_at hl 1 rfl) ?_
      refine x_iald hx hb hK hw 45 100 (Nat.lt_of_lt_of_le (Nat.le_of_ble_eq_true rfl : 45 < 191) hn) (mk_45 cA α) i rfl (by omega) (by decide) dX5_mirrors_35 ?_
      refine lv_aload_n hx hb dX5_mirrors_36 rfl (lv_at hl 0 rfl) ?_
      refine x_get (v := .ref (α 46)) (C := RX7) (T := TX7) (N := 9) hx hb hts (fun _ h => List.mem_cons_of_mem _ (List.mem_append_right _ h)) hown hK hw 44 (Nat.lt_of_lt_of_le (Nat.le_of_ble_eq_true rfl : 44 < 191) hn) (mk_44 cA α) rfl 1 (by decide) (hts _ (List.mem_of_getElem? (i := 4) rfl)) (fun _ h9 => h9) rfl dX5_mirrors_37 ?_
      refine lv_iload_n hx hb dX5_mirrors_40 rfl (lv_at hl 2 rfl) ?_
      refine x_iald hx hb hK hw 46 100 (Nat.lt_of_lt_of_le (Nat.le_of_ble_eq_true rfl : 46 < 191) hn) (mk_46 cA α) j rfl (by omega) (by decide) dX5_mirrors_41 ?_
      refine lv_icmp_ne (tgt := 64) hx hb dX5_mirrors_42 (by decide) (fun c3 => ?_) (fun c3 => ?_)
      · skip
        refine lv_iconst (v := nI 0) hx hb dX5_mirrors_64 (by decide) ?_
        exact ret_z hx hb hr (by first | rfl | decide | exact narB _) hlocks hK hw dX5_mirrors_65 (by first | (simp only [cMir, if_neg c1, if_pos c1, decide_eq_false c1, if_pos c2, if_neg (not_not_intro c2), decide_eq_true c2, if_neg c3, if_pos c3, decide_eq_false c3, if_true, if_false, eq_self, Bool.false_eq_true, not_true_eq_false, not_false_eq_true, decide_true, decide_false, Bool.and_true, Bool.true_and, Bool.and_false, Bool.false_and, Bool.not_true, Bool.not_false, Bool.or_true, Bool.true_or, Bool.or_false, Bool.false_or, reduceIte, b2i_t, b2i_f]; done) | rfl | (simp [cMir, if_neg c1, if_pos c1, decide_eq_false c1, if_pos c2, if_neg (not_not_intro c2), decide_eq_true c2, if_neg c3, if_pos c3, decide_eq_false c3, b2i, nI_0, nI_one]; done)) rfl
      · skip
        refine lv_aload_n hx hb dX5_mirrors_45 rfl (lv_at hl 0 rfl) ?_
        refine x_get (v := .ref (α 46)) (C := RX7) (T := TX7) (N := 9) hx hb hts (fun _ h => List.mem_cons_of_mem _ (List.mem_append_right _ h)) hown hK hw 44 (Nat.lt_of_lt_of_le (Nat.le_of_ble_eq_true rfl : 44 < 191) hn) (mk_44 cA α) rfl 1 (by decide) (hts _ (List.mem_of_getElem? (i := 4) rfl)) (fun _ h9 => h9) rfl dX5_mirrors_46 ?_
        refine lv_iload_n hx hb dX5_mirrors_49 rfl (lv_at hl 1 rfl) ?_
        refine x_iald hx hb hK hw 46 100 (Nat.lt_of_lt_of_le (Nat.le_of_ble_eq_true rfl : 46 < 191) hn) (mk_46 cA α) i rfl (by omega) (by decide) dX5_mirrors_50 ?_
        refine lv_aload_n hx hb dX5_mirrors_51 rfl (lv_at hl 0 rfl) ?_
        refine x_get (v := .ref (α 45)) (C := RX7) (T := TX7) (N := 9) hx hb hts (fun _ h => List.mem_cons_of_mem _ (List.mem_append_right _ h)) hown hK hw 44 (Nat.lt_of_lt_of_le (Nat.le_of_ble_eq_true rfl : 44 < 191) hn) (mk_44 cA α) rfl 0 (by decide) (hts _ (List.mem_of_getElem? (i := 3) rfl)) (fun _ h9 => h9) rfl dX5_mirrors_52 ?_
        refine lv_iload_n hx hb dX5_mirrors_55 rfl (lv_at hl 2 rfl) ?_
        refine x_iald hx hb hK hw 45 100 (Nat.lt_of_lt_of_le (Nat.le_of_ble_eq_true rfl : 45 < 191) hn) (mk_45 cA α) j rfl (by omega) (by decide) dX5_mirrors_56 ?_
        refine lv_icmp_ne (tgt := 64) hx hb dX5_mirrors_57 (by decide) (fun c4 => ?_) (fun c4 => ?_)
        · skip
          refine lv_iconst (v := nI 0) hx hb dX5_mirrors_64 (by decide) ?_
          exact ret_z hx hb hr (by first | rfl | decide | exact narB _) hlocks hK hw dX5_mirrors_65 (by first | (simp only [cMir, if_neg c1, if_pos c1, decide_eq_false c1, if_pos c2, if_neg (not_not_intro c2), decide_eq_true c2, if_pos c3, if_neg (not_not_intro c3), decide_eq_true c3, if_neg c4, if_pos c4, decide_eq_false c4, if_true, if_false, eq_self, Bool.false_eq_true, not_true_eq_false, not_false_eq_true, decide_true, decide_false, Bool.and_true, Bool.true_and, Bool.and_false, Bool.false_and, Bool.not_true, Bool.not_false, Bool.or_true, Bool.true_or, Bool.or_false, Bool.false_or, reduceIte, b2i_t, b2i_f]; done) | rfl | (simp [cMir, if_neg c1, if_pos c1, decide_eq_false c1, if_pos c2, if_neg (not_not_intro c2), decide_eq_true c2, if_pos c3, if_neg (not_not_intro c3), decide_eq_true c3, if_neg c4, if_pos c4, decide_eq_false c4, b2i, nI_0, nI_one]; done)) rfl
        · skip
          refine lv_iconst (v := nI 1) hx hb dX5_mirrors_60 (by decide) ?_
          refine lv_goto (tgt := 65) hx hb dX5_mirrors_61 (by decide) ?_
          exact ret_z hx hb hr (by first | rfl | decide | exact narB _) hlocks hK hw dX5_mirrors_65 (by first | (simp only [cMir, if_neg c1, if_pos c1, decide_eq_false c1, if_pos c2, if_neg (not_not_intro c2), decide_eq_true c2, if_pos c3, if_neg (not_not_intro c3), decide_eq_true c3, if_pos c4, if_neg (not_not_intro c4), decide_eq_true c4, if_true, if_false, eq_self, Bool.false_eq_true, not_true_eq_false, not_false_eq_true, decide_true, decide_false, Bool.and_true, Bool.true_and, Bool.and_false, Bool.false_and, Bool.not_true, Bool.not_false, Bool.or_true, Bool.true_or, Bool.or_false, Bool.false_or, reduceIte, b2i_t, b2i_f]; done) | rfl | (simp [cMir, if_neg c1, if_pos c1, decide_eq_false c1, if_pos c2, if_neg (not_not_intro c2), decide_eq_true c2, if_pos c3, if_neg (not_not_intro c3), decide_eq_true c3, if_pos c4, if_neg (not_not_intro c4), decide_eq_true c4, b2i, nI_0, nI_one]; done)) rfl

set_option maxRecDepth 100000 in
set_option maxHeartbeats 1000000 in
theorem ct_X5_distance (l : Launch) (D : va_G) (cA : Nat → ClassId) (α : Nat → Nat) (n sz : Nat) (hn : 191 ≤ n) (S : Mem) (i j : Nat) (h1 : okC S i) (h2 : okC S j) : CtL l yX5_distance wsX5_distance ({ frames := 2, cells := 0, slots := 0, locals := 60 }) D cA α n sz [.ref (α 3), .int (nI i), .int (nI j)] S (cDst S i j) S := by
  refine ct_enter cX5_distance 3 (some .long) (by decide) rfl (Nat.le_of_ble_eq_true rfl) ?_
  intro p e s m below meth c hx hb hr hml hlocks hown hts hK hsz hw ls hl
  have hown : s.vm.findClass RX5 = some m.cls := hown
  have hAw : ∀ z, Aw α n s.heap.size z → Aw α n sz z := by rw [hsz]; exact fun _ h => h
  have hl : lv_has ls 3 [(0, .ref (α 3)), (1, .int (nI i)), (2, .int (nI j))] := hl
  refine lv_aload_n hx hb dX5_distance_0 rfl (lv_at hl 0 rfl) ?_
  refine lv_iload_n hx hb dX5_distance_1 rfl (lv_at hl 1 rfl) ?_
  refine x_callVLr (q := 3) (C := RX0) (As := [.int (nI i)]) (rest := []) ⟨hx, hb, hml, hown, hts⟩ (ct_X0_valueOf l D cA α n _ hn S i h1) (cwV 1 hts gX5_distance_X0_valueOf rfl rfl rfl (by decide +kernel) ⟨Nat.le_of_ble_eq_true rfl, Nat.le_of_ble_eq_true rfl⟩) hK hw hAw (ws_recv hK hw (q := 3) (Nat.lt_of_lt_of_le (Nat.le_of_ble_eq_true rfl : 3 < 191) hn) (mk_3 cA α) rfl) rfl hl.1 rfl (Nat.le_of_ble_eq_true rfl) dX5_distance_2 ⟨Nat.zero_le _, Nat.zero_le _⟩ (fun H locs hw => ?_)
  refine lv_aload_n hx hb dX5_distance_5 rfl (lv_at hl 0 rfl) ?_
  refine lv_iload_n hx hb dX5_distance_6 rfl (lv_at hl 2 rfl) ?_
  refine x_callVLr (q := 3) (C := RX0) (As := [.int (nI j)]) (rest := [.long (cVal S i)]) ⟨hx, hb, hml, hown, hts⟩ (ct_X0_valueOf l D cA α n _ hn S j h2) (cwV 1 hts gX5_distance_X0_valueOf rfl rfl rfl (by decide +kernel) ⟨Nat.le_of_ble_eq_true rfl, Nat.le_of_ble_eq_true rfl⟩) hK hw hAw (ws_recv hK hw (q := 3) (Nat.lt_of_lt_of_le (Nat.le_of_ble_eq_true rfl : 3 < 191) hn) (mk_3 cA α) rfl) rfl hl.1 rfl (Nat.le_of_ble_eq_true rfl) dX5_distance_7 ⟨Nat.zero_le _, Nat.zero_le _⟩ (fun H locs hw => ?_)
  refine lv_lsub hx hb dX5_distance_10 ?_
  refine va_mabs_long hx hb (hml.trans hl.1.symm) hown (hts _ (List.mem_of_getElem? (i := 1) rfl)) (hts _ (List.mem_of_getElem? (i := 2) rfl)) (hts _ (List.mem_of_getElem? (i := 3) rfl)) (hts _ (List.mem_of_getElem? (i := 4) rfl)) (by decide) (Nat.le_of_ble_eq_true rfl) (Nat.zero_le _) (Nat.zero_le _) dX5_distance_11 ?_
  exact ret_l hx hb hr hlocks hK hw dX5_distance_14 rfl rfl

set_option maxRecDepth 100000 in
set_option maxHeartbeats 1000000 in
theorem ct_X5_openMirrors (l : Launch) (D : va_G) (cA : Nat → ClassId) (α : Nat → Nat) (n sz : Nat) (hn : 191 ≤ n) (S : Mem) (i : Nat) (hi : i < 100) (N : Nat) (hN : S.1 74 0 = nI N) (hN2 : N ≤ 100) : CtI l yX5_openMirrors wsX5_openMirrors ({ frames := 1, cells := 0, slots := 0, locals := 22 }) D cA α n sz [.ref (α 4), .ref (α 3), .int (nI i)] S (nI (cnt (fun j => decide (S.1 76 j = 0) && cMir S i j) N)) S := by
  refine ct_enter cX5_openMirrors 5 (some .int) (by decide) rfl (Nat.le_of_ble_eq_true rfl) ?_
  intro p e s m below meth c hx hb hr hml hlocks hown hts hK hsz hw ls hl
  have hown : s.vm.findClass RX5 = some m.cls := hown
  have hAw : ∀ z, Aw α n s.heap.size z → Aw α n sz z := by rw [hsz]; exact fun _ h => h
  have hl : lv_has ls 5 [(0, .ref (α 4)), (1, .ref (α 3)), (2, .int (nI i))] := hl
  refine lv_iconst (v := nI 0) hx hb dX5_openMirrors_0 (by decide) ?_
  refine lv_istore_n (lv' := [(3, .int (nI 0)), (0, .ref (α 4)), (1, .ref (α 3)), (2, .int (nI i))]) hx hb dX5_openMirrors_1 rfl hl (by decide) rfl (fun ls hl => ?_)
  refine lv_iconst (v := nI 0) hx hb dX5_openMirrors_2 (by decide) ?_
  refine lv_istore (lv' := [(4, .int (nI 0)), (3, .int (nI 0)), (0, .ref (α 4)), (1, .ref (α 3)), (2, .int (nI i))]) hx hb dX5_openMirrors_3 hl (by decide) rfl (fun ls hl => ?_)
  have lp5 : ∀ (t : Nat) (j : Nat) (k : Nat) (H : Heap) (locs : List Loc) (ls : Array Slot), N - j < t → j ≤ N → k = cnt (fun j => decide (S.1 76 j = 0) && cMir S i j) j → Ws D cA α n (Aw α n sz) s.heap S H locs → lv_has ls 5 [(0, .ref (α 4)), (1, .ref (α 3)), (2, .int (nI i)), (4, .int (nI j)), (3, .int (nI k))] → W p l e ({ frames := 1, cells := 0, slots := 0, locals := 22 } : Room) s m (List.toArray ([.ref (α 4), .ref (α 3), .int (nI i)] : List Value)) below meth c H locs 0 0 (MQ below (va_Qi (fun r u => r = (nI (cnt (fun j => decide (S.1 76 j = 0) && cMir S i j) N)) ∧ u = S) (Pw D cA α n) (Aw α n sz)) (List.toArray ([.ref (α 4), .ref (α 3), .int (nI i)] : List Value)) s 0 0 (Aw α n sz)) (F0 m 5 ls []) := by
    intro t
    induction t with
    | zero => intro j k H locs ls ht; exact absurd ht (Nat.not_lt_zero _)
    | succ t ih5 =>
      intro j k H locs ls ht hj hk hw hl
      refine lv_iload hx hb dX5_openMirrors_5 (lv_at hl 3 rfl) ?_
      refine lv_aload_n hx hb dX5_openMirrors_7 rfl (lv_at hl 1 rfl) ?_
      refine x_get (v := .ref (α 74)) (C := RX0) (T := TX0) (N := 3) hx hb hts (fun _ h => List.mem_cons_of_mem _ (List.mem_append_left _ (List.mem_append_left _ (List.mem_append_right _ h)))) hown hK hw 3 (Nat.lt_of_lt_of_le (Nat.le_of_ble_eq_true rfl : 3 < 191) hn) (mk_3 cA α) rfl 2 (by decide) (hts _ (List.mem_of_getElem? (i := 1) rfl)) (fun _ h9 => h9) rfl dX5_openMirrors_8 ?_
      refine x_get (v := .int (S.1 74 0)) (C := RX9) (T := TX9) (N := 14) hx hb hts (fun _ h => List.mem_cons_of_mem _ (List.mem_append_left _ (List.mem_append_right _ h))) hown hK hw 74 (Nat.lt_of_lt_of_le (Nat.le_of_ble_eq_true rfl : 74 < 191) hn) (mk_74 cA α) rfl 0 (by decide) (hts _ (List.mem_of_getElem? (i := 2) rfl)) (fun _ h9 => h9) rfl dX5_openMirrors_11 ?_
      refine x_topN (k := N) hN ?_
      refine xn_icmp_ge (tgt := 52) hx hb (by omega) (by omega) dX5_openMirrors_14 (by decide) (fun c1 => ?_) (fun c1 => ?_)
      · skip
        refine lv_iload_n hx hb dX5_openMirrors_52 rfl (lv_at hl 4 rfl) ?_
        exact ret_i hx hb hr hlocks hK hw dX5_openMirrors_53 (by rw [hk, show j = N by omega]) rfl
      · skip
        refine lv_aload_n hx hb dX5_openMirrors_17 rfl (lv_at hl 1 rfl) ?_
        refine x_get (v := .ref (α 74)) (C := RX0) (T := TX0) (N := 3) hx hb hts (fun _ h => List.mem_cons_of_mem _ (List.mem_append_left _ (List.mem_append_left _ (List.mem_append_right _ h)))) hown hK hw 3 (Nat.lt_of_lt_of_le (Nat.le_of_ble_eq_true rfl : 3 < 191) hn) (mk_3 cA α) rfl 2 (by decide) (hts _ (List.mem_of_getElem? (i := 1) rfl)) (fun _ h9 => h9) rfl dX5_openMirrors_18 ?_
        refine x_get (v := .ref (α 76)) (C := RX9) (T := TX9) (N := 14) hx hb hts (fun _ h => List.mem_cons_of_mem _ (List.mem_append_left _ (List.mem_append_right _ h))) hown hK hw 74 (Nat.lt_of_lt_of_le (Nat.le_of_ble_eq_true rfl : 74 < 191) hn) (mk_74 cA α) rfl 7 (by decide) (hts _ (List.mem_of_getElem? (i := 3) rfl)) (fun _ h9 => h9) rfl dX5_openMirrors_21 ?_
        refine lv_iload hx hb dX5_openMirrors_24 (lv_at hl 3 rfl) ?_
        refine x_iald hx hb hK hw 76 100 (Nat.lt_of_lt_of_le (Nat.le_of_ble_eq_true rfl : 76 < 191) hn) (mk_76 cA α) j rfl (by omega) (by decide) dX5_openMirrors_26 ?_
        refine lv_if_ne (tgt := 46) hx hb dX5_openMirrors_27 (by decide) (fun c2 => ?_) (fun c2 => ?_)
        · skip
          refine lv_iinc (v := nI (j + 1)) (lv' := [(4, .int (nI (j + 1))), (0, .ref (α 4)), (1, .ref (α 3)), (2, .int (nI i)), (3, .int (nI k))]) hx hb dX5_openMirrors_46 hl (k := 3) rfl (nI_1 _) (by decide) rfl (fun ls hl => ?_)
          refine lv_goto (tgt := 5) hx hb dX5_openMirrors_49 (by decide) ?_
          exact ih5 (j + 1) k _ _ _ (by omega) (by omega) (by rw [cnt, ← hk]; simp only [if_pos c1, if_neg (not_not_intro c1), decide_eq_true c1, if_neg c2, if_pos c2, decide_eq_false c2, if_true, if_false, eq_self, Bool.false_eq_true, not_true_eq_false, not_false_eq_true, decide_true, decide_false, Bool.and_true, Bool.true_and, Bool.and_false, Bool.false_and, Bool.not_true, Bool.not_false, Bool.or_true, Bool.true_or, Bool.or_false, Bool.false_or, reduceIte, b2i_t, b2i_f]; try rfl) hw (lv_sub hl [1, 2, 3, 0, 4] rfl)
        · skip
          refine lv_aload_n hx hb dX5_openMirrors_30 rfl (lv_at hl 1 rfl) ?_
          refine x_get (v := .ref (α 44)) (C := RX0) (T := TX0) (N := 3) hx hb hts (fun _ h => List.mem_cons_of_mem _ (List.mem_append_left _ (List.mem_append_left _ (List.mem_append_right _ h)))) hown hK hw 3 (Nat.lt_of_lt_of_le (Nat.le_of_ble_eq_true rfl : 3 < 191) hn) (mk_3 cA α) rfl 1 (by decide) (hts _ (List.mem_of_getElem? (i := 4) rfl)) (fun _ h9 => h9) rfl dX5_openMirrors_31 ?_
          refine lv_iload_n hx hb dX5_openMirrors_34 rfl (lv_at hl 2 rfl) ?_
          refine lv_iload hx hb dX5_openMirrors_35 (lv_at hl 3 rfl) ?_
          refine x_callSIr (q := 0) (C := RX0) (As := [.ref (α 44), .int (nI i), .int (nI j)]) (rest := []) ⟨hx, hb, hml, hown, hts⟩ (ct_X5_mirrors l D cA α n _ hn S i j hi (by omega)) (va_cwS 3 hts gX5_openMirrors_X5_mirrors rfl rfl rfl (by decide +kernel) ⟨Nat.le_of_ble_eq_true rfl, Nat.le_of_ble_eq_true rfl⟩) hK hw hAw rfl hl.1 rfl (Nat.le_of_ble_eq_true rfl) dX5_openMirrors_37 ⟨Nat.zero_le _, Nat.zero_le _⟩ (fun H locs hw => ?_)
          refine xb_eq (b := (cMir S i j)) (tgt := 46) hx hb dX5_openMirrors_40 (by decide) (fun c3 => ?_) (fun c3 => ?_)
          · skip
            refine lv_iinc (v := nI (j + 1)) (lv' := [(4, .int (nI (j + 1))), (0, .ref (α 4)), (1, .ref (α 3)), (2, .int (nI i)), (3, .int (nI k))]) hx hb dX5_openMirrors_46 hl (k := 3) rfl (nI_1 _) (by decide) rfl (fun ls hl => ?_)
            refine lv_goto (tgt := 5) hx hb dX5_openMirrors_49 (by decide) ?_
            exact ih5 (j + 1) k _ _ _ (by omega) (by omega) (by rw [cnt, ← hk]; simp only [if_pos c1, if_neg (not_not_intro c1), decide_eq_true c1, if_pos c2, if_neg (not_not_intro c2), decide_eq_true c2, c3, if_true, if_false, eq_self, Bool.false_eq_true, not_true_eq_false, not_false_eq_true, decide_true, decide_false, Bool.and_true, Bool.true_and, Bool.and_false, Bool.false_and, Bool.not_true, Bool.not_false, Bool.or_true, Bool.true_or, Bool.or_false, Bool.false_or, reduceIte, b2i_t, b2i_f]; try rfl) hw (lv_sub hl [1, 2, 3, 0, 4] rfl)
          · skip
            refine lv_iinc (v := nI (k + 1)) (lv' := [(3, .int (nI (k + 1))), (0, .ref (α 4)), (1, .ref (α 3)), (2, .int (nI i)), (4, .int (nI j))]) hx hb dX5_openMirrors_43 hl (k := 4) rfl (nI_1 _) (by decide) rfl (fun ls hl => ?_)
            refine lv_iinc (v := nI (j + 1)) (lv' := [(4, .int (nI (j + 1))), (3, .int (nI (k + 1))), (0, .ref (α 4)), (1, .ref (α 3)), (2, .int (nI i))]) hx hb dX5_openMirrors_46 hl (k := 4) rfl (nI_1 _) (by decide) rfl (fun ls hl => ?_)
            refine lv_goto (tgt := 5) hx hb dX5_openMirrors_49 (by decide) ?_
            exact ih5 (j + 1) (k + 1) _ _ _ (by omega) (by omega) (by rw [cnt, ← hk]; simp only [if_pos c1, if_neg (not_not_intro c1), decide_eq_true c1, if_pos c2, if_neg (not_not_intro c2), decide_eq_true c2, c3, if_true, if_false, eq_self, Bool.false_eq_true, not_true_eq_false, not_false_eq_true, decide_true, decide_false, Bool.and_true, Bool.true_and, Bool.and_false, Bool.false_and, Bool.not_true, Bool.not_false, Bool.or_true, Bool.true_or, Bool.or_false, Bool.false_or, reduceIte, b2i_t, b2i_f]; try rfl) hw (lv_sub hl [2, 3, 4, 0, 1] rfl)
  exact lp5 _ 0 0 _ _ _ (Nat.lt_succ_self _) (Nat.zero_le _) rfl hw (lv_sub hl [2, 3, 4, 0, 1] rfl)

/-- the best of the first n that are so: the smallest d, of several the first -/
def bestOf (p : Nat → Bool) (d : Nat → Int64) : Nat → Option Nat
  | 0 => none
  | j + 1 => match bestOf p d j with
    | none => if p j then some j else none
    | some b => if p j then (if d b ≤ d j then some b else some j) else some b
def enc (o : Option Nat) : Int32 := match o with
  | none => -1
  | some b => nI b
theorem bestOf_no {p : Nat → Bool} {d : Nat → Int64} {j : Nat} (h : p j = false) : bestOf p d (j + 1) = bestOf p d j := by
  rw [bestOf]
  cases bestOf p d j <;> simp [h]
theorem bestOf_new {p : Nat → Bool} {d : Nat → Int64} {j : Nat} (h : p j = true) (hn : bestOf p d j = none) : bestOf p d (j + 1) = some j := by
  rw [bestOf, hn]; simp [h]
theorem bestOf_keep {p : Nat → Bool} {d : Nat → Int64} {j b : Nat} (h : p j = true) (hn : bestOf p d j = some b) (hd : d b ≤ d j) : bestOf p d (j + 1) = some b := by
  rw [bestOf, hn]; simp [h, hd]
theorem bestOf_less {p : Nat → Bool} {d : Nat → Int64} {j b : Nat} (h : p j = true) (hn : bestOf p d j = some b) (hd : ¬ d b ≤ d j) : bestOf p d (j + 1) = some j := by
  rw [bestOf, hn]; simp [h, hd]
theorem bestOf_lt {p : Nat → Bool} {d : Nat → Int64} : ∀ (n b : Nat), bestOf p d n = some b → b < n ∧ p b = true
  | 0, b, h => by cases h
  | n + 1, b, h => by
    cases hp : p n with
    | false =>
      rw [bestOf_no hp] at h
      have := bestOf_lt n b h
      exact ⟨by omega, this.2⟩
    | true =>
      cases hb : bestOf p d n with
      | none =>
        rw [bestOf_new hp hb] at h
        cases h
        exact ⟨by omega, hp⟩
      | some c =>
        have h1 := bestOf_lt n c hb
        by_cases hd : d c ≤ d n
        · rw [bestOf_keep hp hb hd] at h
          cases h
          exact ⟨by omega, h1.2⟩
        · rw [bestOf_less hp hb hd] at h
          cases h
          exact ⟨by omega, hp⟩
theorem enc_neg {o : Option Nat} (h : enc o < 0) (hb : ∀ b, o = some b → b < 2147483648) : o = none := by
  cases o with
  | none => rfl
  | some b => exact absurd h (nI_pos (hb b rfl))
theorem enc_pos {o : Option Nat} (h : ¬ enc o < 0) : ∃ b, o = some b := by
  cases o with
  | none => exact absurd (by decide) h
  | some b => exact ⟨b, rfl⟩
def cFree (S : Mem) (i j : Nat) : Bool := !decide (0 ≤ S.1 5 j) && decide (S.1 76 j = 0) && cMir S i j

set_option maxRecDepth 100000 in
set_option maxHeartbeats 1000000 in
theorem ct_X5_nearestFree (l : Launch) (D : va_G) (cA : Nat → ClassId) (α : Nat → Nat) (n sz : Nat) (hn : 191 ≤ n) (S : Mem) (N : Nat) (hN : S.1 74 0 = nI N) (hN2 : N ≤ 100) (ho : ∀ j, j < N → okC S j) (i : Nat) (hi : i < N) : CtI l yX5_nearestFree wsX5_nearestFree ({ frames := 3, cells := 0, slots := 0, locals := 82 }) D cA α n sz [.ref (α 4), .ref (α 3), .int (nI i)] S (enc (bestOf (cFree S i) (cDst S i) N)) S := by
  refine ct_enter cX5_nearestFree 9 (some .int) (by decide) rfl (Nat.le_of_ble_eq_true rfl) ?_
  intro p e s m below meth c hx hb hr hml hlocks hown hts hK hsz hw ls hl
  have hown : s.vm.findClass RX5 = some m.cls := hown
  have hAw : ∀ z, Aw α n s.heap.size z → Aw α n sz z := by rw [hsz]; exact fun _ h => h
  have hl : lv_has ls 9 [(0, .ref (α 4)), (1, .ref (α 3)), (2, .int (nI i))] := hl
  refine lv_iconst (v := (-1)) hx hb dX5_nearestFree_0 (by decide) ?_
  refine lv_istore_n (lv' := [(3, .int (-1)), (0, .ref (α 4)), (1, .ref (α 3)), (2, .int (nI i))]) hx hb dX5_nearestFree_1 rfl hl (by decide) rfl (fun ls hl => ?_)
  refine lv_lconst (v := 0) hx hb dX5_nearestFree_2 (by decide) ?_
  refine lv_lstore (lv' := [(4, .long 0), (3, .int (-1)), (0, .ref (α 4)), (1, .ref (α 3)), (2, .int (nI i))]) hx hb dX5_nearestFree_3 hl (by decide) rfl (fun ls hl => ?_)
  refine lv_iconst (v := nI 0) hx hb dX5_nearestFree_5 (by decide) ?_
  refine lv_istore (lv' := [(6, .int (nI 0)), (4, .long 0), (3, .int (-1)), (0, .ref (α 4)), (1, .ref (α 3)), (2, .int (nI i))]) hx hb dX5_nearestFree_6 hl (by decide) rfl (fun ls hl => ?_)
  have lp8 : ∀ (t : Nat) (j : Nat) (o : Option Nat) (sm : Int64) (H : Heap) (locs : List Loc) (ls : Array Slot), N - j < t → j ≤ N → o = bestOf (cFree S i) (cDst S i) j → (∀ b, o = some b → sm = cDst S i b) → Ws D cA α n (Aw α n sz) s.heap S H locs → lv_has ls 9 [(0, .ref (α 4)), (1, .ref (α 3)), (2, .int (nI i)), (6, .int (nI j)), (3, .int (enc o)), (4, .long sm)] → W p l e ({ frames := 3, cells := 0, slots := 0, locals := 82 } : Room) s m (List.toArray ([.ref (α 4), .ref (α 3), .int (nI i)] : List Value)) below meth c H locs 0 0 (MQ below (va_Qi (fun r u => r = (enc (bestOf (cFree S i) (cDst S i) N)) ∧ u = S) (Pw D cA α n) (Aw α n sz)) (List.toArray ([.ref (α 4), .ref (α 3), .int (nI i)] : List Value)) s 0 0 (Aw α n sz)) (F0 m 8 ls []) := by
    intro t
    induction t with
    | zero => intro j o sm H locs ls ht; exact absurd ht (Nat.not_lt_zero _)
    | succ t ih8 =>
      intro j o sm H locs ls ht hj ho9 hs hw hl
      refine lv_iload hx hb dX5_nearestFree_8 (lv_at hl 3 rfl) ?_
      refine lv_aload_n hx hb dX5_nearestFree_10 rfl (lv_at hl 1 rfl) ?_
      refine x_get (v := .ref (α 74)) (C := RX0) (T := TX0) (N := 3) hx hb hts (fun _ h => List.mem_cons_of_mem _ (List.mem_append_left _ (List.mem_append_left _ (List.mem_append_left _ (List.mem_append_left _ (List.mem_append_right _ h)))))) hown hK hw 3 (Nat.lt_of_lt_of_le (Nat.le_of_ble_eq_true rfl : 3 < 191) hn) (mk_3 cA α) rfl 2 (by decide) (hts _ (List.mem_of_getElem? (i := 1) rfl)) (fun _ h9 => h9) rfl dX5_nearestFree_11 ?_
      refine x_get (v := .int (S.1 74 0)) (C := RX9) (T := TX9) (N := 14) hx hb hts (fun _ h => List.mem_cons_of_mem _ (List.mem_append_left _ (List.mem_append_left _ (List.mem_append_left _ (List.mem_append_right _ h))))) hown hK hw 74 (Nat.lt_of_lt_of_le (Nat.le_of_ble_eq_true rfl : 74 < 191) hn) (mk_74 cA α) rfl 0 (by decide) (hts _ (List.mem_of_getElem? (i := 2) rfl)) (fun _ h9 => h9) rfl dX5_nearestFree_14 ?_
      refine x_topN (k := N) hN ?_
      refine xn_icmp_ge (tgt := 93) hx hb (by omega) (by omega) dX5_nearestFree_17 (by decide) (fun c1 => ?_) (fun c1 => ?_)
      · skip
        refine lv_iload_n hx hb dX5_nearestFree_93 rfl (lv_at hl 4 rfl) ?_
        exact ret_i hx hb hr hlocks hK hw dX5_nearestFree_94 (by rw [ho9, show j = N by omega]) rfl
      · skip
        refine lv_aload_n hx hb dX5_nearestFree_20 rfl (lv_at hl 0 rfl) ?_
        refine x_get (v := .ref (α 5)) (C := RX5) (T := TX5) (N := 1) hx hb hts (fun _ h => List.mem_cons_of_mem _ (List.mem_append_left _ (List.mem_append_left _ (List.mem_append_right _ h)))) hown hK hw 4 (Nat.lt_of_lt_of_le (Nat.le_of_ble_eq_true rfl : 4 < 191) hn) (mk_4 cA α) rfl 0 (by decide) (hts _ (List.mem_of_getElem? (i := 3) rfl)) (fun _ h9 => h9) rfl dX5_nearestFree_21 ?_
        refine lv_iload hx hb dX5_nearestFree_24 (lv_at hl 3 rfl) ?_
        refine x_iald hx hb hK hw 5 100 (Nat.lt_of_lt_of_le (Nat.le_of_ble_eq_true rfl : 5 < 191) hn) (mk_5 cA α) j rfl (by omega) (by decide) dX5_nearestFree_26 ?_
        refine lv_if_ge (tgt := 87) hx hb dX5_nearestFree_27 (by decide) (fun c2 => ?_) (fun c2 => ?_)
        · skip
          refine lv_iinc (v := nI (j + 1)) (lv' := [(6, .int (nI (j + 1))), (0, .ref (α 4)), (1, .ref (α 3)), (2, .int (nI i)), (3, .int (enc o)), (4, .long sm)]) hx hb dX5_nearestFree_87 hl (k := 3) rfl (nI_1 _) (by decide) rfl (fun ls hl => ?_)
          refine lv_goto (tgt := 8) hx hb dX5_nearestFree_90 (by decide) ?_
          exact ih8 (j + 1) o sm _ _ _ (by omega) (by omega) (by rw [ho9]; exact (bestOf_no (by simp only [cFree, if_pos c1, if_neg (not_not_intro c1), decide_eq_true c1, if_pos c2, if_neg (not_not_intro c2), decide_eq_true c2, if_true, if_false, eq_self, Bool.false_eq_true, not_true_eq_false, not_false_eq_true, decide_true, decide_false, Bool.and_true, Bool.true_and, Bool.and_false, Bool.false_and, Bool.not_true, Bool.not_false, Bool.or_true, Bool.true_or, Bool.or_false, Bool.false_or, reduceIte, b2i_t, b2i_f])).symm) hs hw (lv_sub hl [1, 2, 3, 0, 4, 5] rfl)
        · skip
          refine lv_aload_n hx hb dX5_nearestFree_30 rfl (lv_at hl 1 rfl) ?_
          refine x_get (v := .ref (α 74)) (C := RX0) (T := TX0) (N := 3) hx hb hts (fun _ h => List.mem_cons_of_mem _ (List.mem_append_left _ (List.mem_append_left _ (List.mem_append_left _ (List.mem_append_left _ (List.mem_append_right _ h)))))) hown hK hw 3 (Nat.lt_of_lt_of_le (Nat.le_of_ble_eq_true rfl : 3 < 191) hn) (mk_3 cA α) rfl 2 (by decide) (hts _ (List.mem_of_getElem? (i := 1) rfl)) (fun _ h9 => h9) rfl dX5_nearestFree_31 ?_
          refine x_get (v := .ref (α 76)) (C := RX9) (T := TX9) (N := 14) hx hb hts (fun _ h => List.mem_cons_of_mem _ (List.mem_append_left _ (List.mem_append_left _ (List.mem_append_left _ (List.mem_append_right _ h))))) hown hK hw 74 (Nat.lt_of_lt_of_le (Nat.le_of_ble_eq_true rfl : 74 < 191) hn) (mk_74 cA α) rfl 7 (by decide) (hts _ (List.mem_of_getElem? (i := 4) rfl)) (fun _ h9 => h9) rfl dX5_nearestFree_34 ?_
          refine lv_iload hx hb dX5_nearestFree_37 (lv_at hl 3 rfl) ?_
          refine x_iald hx hb hK hw 76 100 (Nat.lt_of_lt_of_le (Nat.le_of_ble_eq_true rfl : 76 < 191) hn) (mk_76 cA α) j rfl (by omega) (by decide) dX5_nearestFree_39 ?_
          refine lv_if_ne (tgt := 87) hx hb dX5_nearestFree_40 (by decide) (fun c3 => ?_) (fun c3 => ?_)
          · skip
            refine lv_iinc (v := nI (j + 1)) (lv' := [(6, .int (nI (j + 1))), (0, .ref (α 4)), (1, .ref (α 3)), (2, .int (nI i)), (3, .int (enc o)), (4, .long sm)]) hx hb dX5_nearestFree_87 hl (k := 3) rfl (nI_1 _) (by decide) rfl (fun ls hl => ?_)
            refine lv_goto (tgt := 8) hx hb dX5_nearestFree_90 (by decide) ?_
            exact ih8 (j + 1) o sm _ _ _ (by omega) (by omega) (by rw [ho9]; exact (bestOf_no (by simp only [cFree, if_pos c1, if_neg (not_not_intro c1), decide_eq_true c1, if_neg c2, if_pos c2, decide_eq_false c2, if_neg c3, if_pos c3, decide_eq_false c3, if_true, if_false, eq_self, Bool.false_eq_true, not_true_eq_false, not_false_eq_true, decide_true, decide_false, Bool.and_true, Bool.true_and, Bool.and_false, Bool.false_and, Bool.not_true, Bool.not_false, Bool.or_true, Bool.true_or, Bool.or_false, Bool.false_or, reduceIte, b2i_t, b2i_f])).symm) hs hw (lv_sub hl [1, 2, 3, 0, 4, 5] rfl)
          · skip
            refine lv_aload_n hx hb dX5_nearestFree_43 rfl (lv_at hl 1 rfl) ?_
            refine x_get (v := .ref (α 44)) (C := RX0) (T := TX0) (N := 3) hx hb hts (fun _ h => List.mem_cons_of_mem _ (List.mem_append_left _ (List.mem_append_left _ (List.mem_append_left _ (List.mem_append_left _ (List.mem_append_right _ h)))))) hown hK hw 3 (Nat.lt_of_lt_of_le (Nat.le_of_ble_eq_true rfl : 3 < 191) hn) (mk_3 cA α) rfl 1 (by decide) (hts _ (List.mem_of_getElem? (i := 5) rfl)) (fun _ h9 => h9) rfl dX5_nearestFree_44 ?_
            refine lv_iload_n hx hb dX5_nearestFree_47 rfl (lv_at hl 2 rfl) ?_
            refine lv_iload hx hb dX5_nearestFree_48 (lv_at hl 3 rfl) ?_
            refine x_callSIr (q := 0) (C := RX0) (As := [.ref (α 44), .int (nI i), .int (nI j)]) (rest := []) ⟨hx, hb, hml, hown, hts⟩ (ct_X5_mirrors l D cA α n _ hn S i j (by omega) (by omega)) (va_cwS 3 hts gX5_nearestFree_X5_mirrors rfl rfl rfl (by decide +kernel) ⟨Nat.le_of_ble_eq_true rfl, Nat.le_of_ble_eq_true rfl⟩) hK hw hAw rfl hl.1 rfl (Nat.le_of_ble_eq_true rfl) dX5_nearestFree_50 ⟨Nat.zero_le _, Nat.zero_le _⟩ (fun H locs hw => ?_)
            refine xb_ne (b := (cMir S i j)) (tgt := 59) hx hb dX5_nearestFree_53 (by decide) (fun c4 => ?_) (fun c4 => ?_)
            · skip
              refine lv_aload_n hx hb dX5_nearestFree_59 rfl (lv_at hl 1 rfl) ?_
              refine lv_iload_n hx hb dX5_nearestFree_60 rfl (lv_at hl 2 rfl) ?_
              refine lv_iload hx hb dX5_nearestFree_61 (lv_at hl 3 rfl) ?_
              refine x_callSLr (q := 0) (C := RX0) (As := [.ref (α 3), .int (nI i), .int (nI j)]) (rest := []) ⟨hx, hb, hml, hown, hts⟩ (ct_X5_distance l D cA α n _ hn S i j (ho i hi) (ho j (by omega))) (va_cwS 3 hts gX5_nearestFree_X5_distance rfl rfl rfl (by decide +kernel) ⟨Nat.le_of_ble_eq_true rfl, Nat.le_of_ble_eq_true rfl⟩) hK hw hAw rfl hl.1 rfl (Nat.le_of_ble_eq_true rfl) dX5_nearestFree_63 ⟨Nat.zero_le _, Nat.zero_le _⟩ (fun H locs hw => ?_)
              refine lv_lstore (lv' := [(7, .long (cDst S i j)), (0, .ref (α 4)), (1, .ref (α 3)), (2, .int (nI i)), (6, .int (nI j)), (3, .int (enc o)), (4, .long sm)]) hx hb dX5_nearestFree_66 hl (by decide) rfl (fun ls hl => ?_)
              refine lv_iload_n hx hb dX5_nearestFree_68 rfl (lv_at hl 5 rfl) ?_
              refine lv_if_lt (tgt := 80) hx hb dX5_nearestFree_69 (by decide) (fun c5 => ?_) (fun c5 => ?_)
              · skip
                refine lv_iload hx hb dX5_nearestFree_80 (lv_at hl 4 rfl) ?_
                refine lv_istore_n (lv' := [(3, .int (nI j)), (7, .long (cDst S i j)), (0, .ref (α 4)), (1, .ref (α 3)), (2, .int (nI i)), (6, .int (nI j)), (4, .long sm)]) hx hb dX5_nearestFree_82 rfl hl (by decide) rfl (fun ls hl => ?_)
                refine lv_lload hx hb dX5_nearestFree_83 (lv_at hl 1 rfl) ?_
                refine lv_lstore (lv' := [(4, .long (cDst S i j)), (3, .int (nI j)), (7, .long (cDst S i j)), (0, .ref (α 4)), (1, .ref (α 3)), (2, .int (nI i)), (6, .int (nI j))]) hx hb dX5_nearestFree_85 hl (by decide) rfl (fun ls hl => ?_)
                refine lv_iinc (v := nI (j + 1)) (lv' := [(6, .int (nI (j + 1))), (4, .long (cDst S i j)), (3, .int (nI j)), (7, .long (cDst S i j)), (0, .ref (α 4)), (1, .ref (α 3)), (2, .int (nI i))]) hx hb dX5_nearestFree_87 hl (k := 6) rfl (nI_1 _) (by decide) rfl (fun ls hl => ?_)
                refine lv_goto (tgt := 8) hx hb dX5_nearestFree_90 (by decide) ?_
                exact ih8 (j + 1) (some j) (cDst S i j) _ _ _ (by omega) (by omega) (by have q := enc_neg c5 (fun b q => by have := bestOf_lt j b (ho9.symm.trans q); omega); exact (bestOf_new (by simp only [cFree, if_pos c1, if_neg (not_not_intro c1), decide_eq_true c1, if_neg c2, if_pos c2, decide_eq_false c2, if_pos c3, if_neg (not_not_intro c3), decide_eq_true c3, c4, if_pos c5, if_neg (not_not_intro c5), decide_eq_true c5, if_true, if_false, eq_self, Bool.false_eq_true, not_true_eq_false, not_false_eq_true, decide_true, decide_false, Bool.and_true, Bool.true_and, Bool.and_false, Bool.false_and, Bool.not_true, Bool.not_false, Bool.or_true, Bool.true_or, Bool.or_false, Bool.false_or, reduceIte, b2i_t, b2i_f]) (ho9.symm.trans q)).symm) (fun b q => by cases q; rfl) hw (lv_sub hl [4, 5, 6, 0, 2, 1] rfl)
              · skip
                refine lv_lload hx hb dX5_nearestFree_72 (lv_at hl 0 rfl) ?_
                refine lv_lload hx hb dX5_nearestFree_74 (lv_at hl 6 rfl) ?_
                refine x_lcmp_ge (tgt := 87) hx hb dX5_nearestFree_76 dX5_nearestFree_77 (by decide) (fun c6 => ?_) (fun c6 => ?_)
                · skip
                  refine lv_iinc (v := nI (j + 1)) (lv' := [(6, .int (nI (j + 1))), (7, .long (cDst S i j)), (0, .ref (α 4)), (1, .ref (α 3)), (2, .int (nI i)), (3, .int (enc o)), (4, .long sm)]) hx hb dX5_nearestFree_87 hl (k := 4) rfl (nI_1 _) (by decide) rfl (fun ls hl => ?_)
                  refine lv_goto (tgt := 8) hx hb dX5_nearestFree_90 (by decide) ?_
                  exact ih8 (j + 1) o sm _ _ _ (by omega) (by omega) (by obtain ⟨b, q⟩ := enc_pos c5; rw [q]; exact (bestOf_keep (by simp only [cFree, if_pos c1, if_neg (not_not_intro c1), decide_eq_true c1, if_neg c2, if_pos c2, decide_eq_false c2, if_pos c3, if_neg (not_not_intro c3), decide_eq_true c3, c4, if_neg c5, if_pos c5, decide_eq_false c5, if_pos c6, if_neg (not_not_intro c6), decide_eq_true c6, if_true, if_false, eq_self, Bool.false_eq_true, not_true_eq_false, not_false_eq_true, decide_true, decide_false, Bool.and_true, Bool.true_and, Bool.and_false, Bool.false_and, Bool.not_true, Bool.not_false, Bool.or_true, Bool.true_or, Bool.or_false, Bool.false_or, reduceIte, b2i_t, b2i_f]) (ho9.symm.trans q) (by rw [← hs b q]; exact c6)).symm) hs hw (lv_sub hl [2, 3, 4, 0, 5, 6] rfl)
                · skip
                  refine lv_iload hx hb dX5_nearestFree_80 (lv_at hl 4 rfl) ?_
                  refine lv_istore_n (lv' := [(3, .int (nI j)), (7, .long (cDst S i j)), (0, .ref (α 4)), (1, .ref (α 3)), (2, .int (nI i)), (6, .int (nI j)), (4, .long sm)]) hx hb dX5_nearestFree_82 rfl hl (by decide) rfl (fun ls hl => ?_)
                  refine lv_lload hx hb dX5_nearestFree_83 (lv_at hl 1 rfl) ?_
                  refine lv_lstore (lv' := [(4, .long (cDst S i j)), (3, .int (nI j)), (7, .long (cDst S i j)), (0, .ref (α 4)), (1, .ref (α 3)), (2, .int (nI i)), (6, .int (nI j))]) hx hb dX5_nearestFree_85 hl (by decide) rfl (fun ls hl => ?_)
                  refine lv_iinc (v := nI (j + 1)) (lv' := [(6, .int (nI (j + 1))), (4, .long (cDst S i j)), (3, .int (nI j)), (7, .long (cDst S i j)), (0, .ref (α 4)), (1, .ref (α 3)), (2, .int (nI i))]) hx hb dX5_nearestFree_87 hl (k := 6) rfl (nI_1 _) (by decide) rfl (fun ls hl => ?_)
                  refine lv_goto (tgt := 8) hx hb dX5_nearestFree_90 (by decide) ?_
                  exact ih8 (j + 1) (some j) (cDst S i j) _ _ _ (by omega) (by omega) (by obtain ⟨b, q⟩ := enc_pos c5; exact (bestOf_less (by simp only [cFree, if_pos c1, if_neg (not_not_intro c1), decide_eq_true c1, if_neg c2, if_pos c2, decide_eq_false c2, if_pos c3, if_neg (not_not_intro c3), decide_eq_true c3, c4, if_neg c5, if_pos c5, decide_eq_false c5, if_neg c6, if_pos c6, decide_eq_false c6, if_true, if_false, eq_self, Bool.false_eq_true, not_true_eq_false, not_false_eq_true, decide_true, decide_false, Bool.and_true, Bool.true_and, Bool.and_false, Bool.false_and, Bool.not_true, Bool.not_false, Bool.or_true, Bool.true_or, Bool.or_false, Bool.false_or, reduceIte, b2i_t, b2i_f]) (ho9.symm.trans q) (by rw [← hs b q]; exact c6)).symm) (fun b q => by cases q; rfl) hw (lv_sub hl [4, 5, 6, 0, 2, 1] rfl)
            · skip
              refine lv_goto (tgt := 87) hx hb dX5_nearestFree_56 (by decide) ?_
              refine lv_iinc (v := nI (j + 1)) (lv' := [(6, .int (nI (j + 1))), (0, .ref (α 4)), (1, .ref (α 3)), (2, .int (nI i)), (3, .int (enc o)), (4, .long sm)]) hx hb dX5_nearestFree_87 hl (k := 3) rfl (nI_1 _) (by decide) rfl (fun ls hl => ?_)
              refine lv_goto (tgt := 8) hx hb dX5_nearestFree_90 (by decide) ?_
              exact ih8 (j + 1) o sm _ _ _ (by omega) (by omega) (by rw [ho9]; exact (bestOf_no (by simp only [cFree, if_pos c1, if_neg (not_not_intro c1), decide_eq_true c1, if_neg c2, if_pos c2, decide_eq_false c2, if_pos c3, if_neg (not_not_intro c3), decide_eq_true c3, c4, if_true, if_false, eq_self, Bool.false_eq_true, not_true_eq_false, not_false_eq_true, decide_true, decide_false, Bool.and_true, Bool.true_and, Bool.and_false, Bool.false_and, Bool.not_true, Bool.not_false, Bool.or_true, Bool.true_or, Bool.or_false, Bool.false_or, reduceIte, b2i_t, b2i_f])).symm) hs hw (lv_sub hl [1, 2, 3, 0, 4, 5] rfl)
  exact lp8 _ 0 none 0 _ _ _ (Nat.lt_succ_self _) (Nat.zero_le _) rfl (fun b q => by cases q) hw (lv_sub hl [3, 4, 5, 0, 2, 1] rfl)

def fI (f : Nat → Int32) (k : Nat) : Nat → Int32 := fun j => if j < k then -1 else f j
theorem fI_0 (f : Nat → Int32) : fI f 0 = f := by funext j; simp [fI]
theorem fI_s (f : Nat → Int32) (k : Nat) : upd (fI f k) k (-1) = fI f (k + 1) := by
  funext j
  unfold upd fI
  by_cases h : j = k
  · subst h; simp
  · rw [if_neg h]
    by_cases h2 : j < k
    · rw [if_pos h2, if_pos (by omega)]
    · rw [if_neg h2, if_neg (by omega)]
theorem setR_same (S : Mem) (q : Nat) : setR S q (S.1 q) = S := by
  unfold setR
  have : va_up S.1 q (S.1 q) = S.1 := by
    funext z
    unfold va_up
    split
    · rename_i h; rw [h]
    · rfl
  rw [this]
theorem setI_setR (S : Mem) (q j : Nat) (f : Nat → Int32) (x : Int32) : setI (setR S q f) q j x = setR S q (upd f j x) := by
  unfold setI
  rw [sR_e]
  unfold setR
  have : va_up (va_up S.1 q f) q (upd f j x) = va_up S.1 q (upd f j x) := by
    funext z
    unfold va_up
    split <;> rfl
  rw [this]
theorem setJ_setL (S : Mem) (q j : Nat) (f : Nat → Int64) (x : Int64) : setJ (setL S q f) q j x = setL S q (vp_updL f j x) := by
  unfold setJ
  rw [sL_e, setL_twice]
/-- the plan behind i items -/
def cPlan (S : Mem) (N : Nat) : Nat → (Nat → Int32)
  | 0 => fI (S.1 5) N
  | i + 1 => if cIs S i (nI 0) (nI 0) then (match bestOf (cFree (setR S 5 (cPlan S N i)) i) (cDst S i) N with
    | none => cPlan S N i
    | some b => upd (upd (cPlan S N i) i (nI b)) b (nI i)) else cPlan S N i
theorem cIs_5 (S : Mem) (f : Nat → Int32) : cIs (setR S 5 f) = cIs S := rfl
theorem cDst_5 (S : Mem) (f : Nat → Int32) (i : Nat) : cDst (setR S 5 f) i = cDst S i := rfl
theorem cPlan_no {S : Mem} {N i : Nat} (h : cIs S i (nI 0) (nI 0) = false) : cPlan S N (i + 1) = cPlan S N i := by
  rw [cPlan]; simp [h]
theorem cPlan_none {S : Mem} {N i : Nat} (hb : bestOf (cFree (setR S 5 (cPlan S N i)) i) (cDst S i) N = none) : cPlan S N (i + 1) = cPlan S N i := by
  rw [cPlan, hb]; simp
theorem cPlan_some {S : Mem} {N i b : Nat} (h : cIs S i (nI 0) (nI 0) = true) (hb : bestOf (cFree (setR S 5 (cPlan S N i)) i) (cDst S i) N = some b) : cPlan S N (i + 1) = upd (upd (cPlan S N i) i (nI b)) b (nI i) := by
  rw [cPlan, hb]; simp [h]

set_option maxRecDepth 100000 in
set_option maxHeartbeats 1000000 in
theorem ct_X5_planRun (l : Launch) (D : va_G) (cA : Nat → ClassId) (α : Nat → Nat) (n sz : Nat) (hn : 191 ≤ n) (S : Mem) (N : Nat) (hN : S.1 74 0 = nI N) (hN2 : N ≤ 100) (ho : ∀ j, j < N → okC S j) : CtV l yX5_planRun wsX5_planRun ({ frames := 4, cells := 0, slots := 0, locals := 110 }) D cA α n sz [.ref (α 4), .ref (α 3)] S (setR S 5 (cPlan S N N)) := by
  refine ct_enter cX5_planRun 4 none (by decide) rfl (Nat.le_of_ble_eq_true rfl) ?_
  intro p e s m below meth c hx hb hr hml hlocks hown hts hK hsz hw ls hl
  have hown : s.vm.findClass RX5 = some m.cls := hown
  have hAw : ∀ z, Aw α n s.heap.size z → Aw α n sz z := by rw [hsz]; exact fun _ h => h
  have hl : lv_has ls 4 [(0, .ref (α 4)), (1, .ref (α 3))] := hl
  refine lv_iconst (v := nI 0) hx hb dX5_planRun_0 (by decide) ?_
  refine lv_istore_n (lv' := [(2, .int (nI 0)), (0, .ref (α 4)), (1, .ref (α 3))]) hx hb dX5_planRun_1 rfl hl (by decide) rfl (fun ls hl => ?_)
  have lp2 : ∀ (t : Nat) (k : Nat) (T : Mem) (H : Heap) (locs : List Loc) (ls : Array Slot), N - k < t → k ≤ N → T = setR S 5 (fI (S.1 5) k) → Ws D cA α n (Aw α n sz) s.heap T H locs → lv_has ls 4 [(0, .ref (α 4)), (1, .ref (α 3)), (2, .int (nI k))] → W p l e ({ frames := 4, cells := 0, slots := 0, locals := 110 } : Room) s m (List.toArray ([.ref (α 4), .ref (α 3)] : List Value)) below meth c H locs 0 0 (MQ below (va_Qv (fun u => u = (setR S 5 (cPlan S N N))) (Pw D cA α n) (Aw α n sz)) (List.toArray ([.ref (α 4), .ref (α 3)] : List Value)) s 0 0 (Aw α n sz)) (F0 m 2 ls []) := by
    intro t
    induction t with
    | zero => intro k T H locs ls ht; exact absurd ht (Nat.not_lt_zero _)
    | succ t ih2 =>
      intro k T H locs ls ht hj hT hw hl
      refine lv_iload_n hx hb dX5_planRun_2 rfl (lv_at hl 2 rfl) ?_
      refine lv_aload_n hx hb dX5_planRun_3 rfl (lv_at hl 1 rfl) ?_
      refine x_get (v := .ref (α 74)) (C := RX0) (T := TX0) (N := 3) hx hb hts (fun _ h => List.mem_cons_of_mem _ (List.mem_append_left _ (List.mem_append_left _ (List.mem_append_left _ (List.mem_append_left _ (List.mem_append_right _ h)))))) hown hK hw 3 (Nat.lt_of_lt_of_le (Nat.le_of_ble_eq_true rfl : 3 < 191) hn) (mk_3 cA α) rfl 2 (by decide) (hts _ (List.mem_of_getElem? (i := 1) rfl)) (fun _ h9 => h9) rfl dX5_planRun_4 ?_
      refine x_get (v := .int (T.1 74 0)) (C := RX9) (T := TX9) (N := 14) hx hb hts (fun _ h => List.mem_cons_of_mem _ (List.mem_append_left _ (List.mem_append_left _ (List.mem_append_left _ (List.mem_append_right _ h))))) hown hK hw 74 (Nat.lt_of_lt_of_le (Nat.le_of_ble_eq_true rfl : 74 < 191) hn) (mk_74 cA α) rfl 0 (by decide) (hts _ (List.mem_of_getElem? (i := 2) rfl)) (fun _ h9 => h9) rfl dX5_planRun_7 ?_
      refine x_topN (k := N) (by rw [hT]; exact hN) ?_
      refine xn_icmp_ge (tgt := 26) hx hb (by omega) (by omega) dX5_planRun_10 (by decide) (fun c1 => ?_) (fun c1 => ?_)
      · skip
        refine lv_iconst (v := nI 0) hx hb dX5_planRun_26 (by decide) ?_
        refine lv_istore_n (lv' := [(2, .int (nI 0)), (0, .ref (α 4)), (1, .ref (α 3))]) hx hb dX5_planRun_27 rfl hl (by decide) rfl (fun ls hl => ?_)
        have lp28 : ∀ (t : Nat) (i : Nat) (T : Mem) (H : Heap) (locs : List Loc) (ls : Array Slot), N - i < t → i ≤ N → T = setR S 5 (cPlan S N i) → Ws D cA α n (Aw α n sz) s.heap T H locs → lv_has ls 4 [(0, .ref (α 4)), (1, .ref (α 3)), (2, .int (nI i))] → W p l e ({ frames := 4, cells := 0, slots := 0, locals := 110 } : Room) s m (List.toArray ([.ref (α 4), .ref (α 3)] : List Value)) below meth c H locs 0 0 (MQ below (va_Qv (fun u => u = (setR S 5 (cPlan S N N))) (Pw D cA α n) (Aw α n sz)) (List.toArray ([.ref (α 4), .ref (α 3)] : List Value)) s 0 0 (Aw α n sz)) (F0 m 28 ls []) := by
          intro t
          induction t with
          | zero => intro i T H locs ls ht; exact absurd ht (Nat.not_lt_zero _)
          | succ t ih28 =>
            intro i T H locs ls ht hj hT hw hl
            refine lv_iload_n hx hb dX5_planRun_28 rfl (lv_at hl 2 rfl) ?_
            refine lv_aload_n hx hb dX5_planRun_29 rfl (lv_at hl 1 rfl) ?_
            refine x_get (v := .ref (α 74)) (C := RX0) (T := TX0) (N := 3) hx hb hts (fun _ h => List.mem_cons_of_mem _ (List.mem_append_left _ (List.mem_append_left _ (List.mem_append_left _ (List.mem_append_left _ (List.mem_append_right _ h)))))) hown hK hw 3 (Nat.lt_of_lt_of_le (Nat.le_of_ble_eq_true rfl : 3 < 191) hn) (mk_3 cA α) rfl 2 (by decide) (hts _ (List.mem_of_getElem? (i := 1) rfl)) (fun _ h9 => h9) rfl dX5_planRun_30 ?_
            refine x_get (v := .int (T.1 74 0)) (C := RX9) (T := TX9) (N := 14) hx hb hts (fun _ h => List.mem_cons_of_mem _ (List.mem_append_left _ (List.mem_append_left _ (List.mem_append_left _ (List.mem_append_right _ h))))) hown hK hw 74 (Nat.lt_of_lt_of_le (Nat.le_of_ble_eq_true rfl : 74 < 191) hn) (mk_74 cA α) rfl 0 (by decide) (hts _ (List.mem_of_getElem? (i := 2) rfl)) (fun _ h9 => h9) rfl dX5_planRun_33 ?_
            refine x_topN (k := N) (by rw [hT]; exact hN) ?_
            refine xn_icmp_ge (tgt := 80) hx hb (by omega) (by omega) dX5_planRun_36 (by decide) (fun c2 => ?_) (fun c2 => ?_)
            · skip
              exact ret_v hx hb hr hlocks hK hw dX5_planRun_80 (by rw [hT, show i = N by omega])
            · skip
              refine lv_aload_n hx hb dX5_planRun_39 rfl (lv_at hl 1 rfl) ?_
              refine lv_iload_n hx hb dX5_planRun_40 rfl (lv_at hl 2 rfl) ?_
              refine lv_iconst (v := nI 0) hx hb dX5_planRun_41 (by decide) ?_
              refine lv_iconst (v := nI 0) hx hb dX5_planRun_42 (by decide) ?_
              refine x_callVIr (q := 3) (C := RX0) (As := [.int (nI i), .int (nI 0), .int (nI 0)]) (rest := []) ⟨hx, hb, hml, hown, hts⟩ (ct_X0_isIn l D cA α n _ hn T i (nI 0) (nI 0) (by omega)) (cwV 3 hts gX5_planRun_X0_isIn rfl rfl rfl (by decide +kernel) ⟨Nat.le_of_ble_eq_true rfl, Nat.le_of_ble_eq_true rfl⟩) hK hw hAw (ws_recv hK hw (q := 3) (Nat.lt_of_lt_of_le (Nat.le_of_ble_eq_true rfl : 3 < 191) hn) (mk_3 cA α) rfl) rfl hl.1 rfl (Nat.le_of_ble_eq_true rfl) dX5_planRun_43 ⟨Nat.zero_le _, Nat.zero_le _⟩ (fun H locs hw => ?_)
              refine x_topE (y := b2i (cIs S i (nI 0) (nI 0))) (by rw [hT, cIs_5]) ?_
              refine xb_eq (b := (cIs S i (nI 0) (nI 0))) (tgt := 74) hx hb dX5_planRun_46 (by decide) (fun c3 => ?_) (fun c3 => ?_)
              · skip
                refine lv_iinc (v := nI (i + 1)) (lv' := [(2, .int (nI (i + 1))), (0, .ref (α 4)), (1, .ref (α 3))]) hx hb dX5_planRun_74 hl (k := 2) rfl (nI_1 _) (by decide) rfl (fun ls hl => ?_)
                refine lv_goto (tgt := 28) hx hb dX5_planRun_77 (by decide) ?_
                exact ih28 (i + 1) T _ _ _ (by omega) (by omega) (by rw [cPlan_no c3]; exact hT) hw (lv_sub hl [1, 2, 0] rfl)
              · skip
                refine lv_aload_n hx hb dX5_planRun_49 rfl (lv_at hl 0 rfl) ?_
                refine lv_aload_n hx hb dX5_planRun_50 rfl (lv_at hl 1 rfl) ?_
                refine lv_iload_n hx hb dX5_planRun_51 rfl (lv_at hl 2 rfl) ?_
                refine x_callVIr (q := 4) (C := RX5) (As := [.ref (α 3), .int (nI i)]) (rest := []) ⟨hx, hb, hml, hown, hts⟩ (ct_X5_nearestFree l D cA α n _ hn T N (by rw [hT]; exact hN) hN2 (by rw [hT]; exact ho) i (by omega)) (cwV 2 hts gX5_planRun_X5_nearestFree rfl rfl rfl (by decide +kernel) ⟨Nat.le_of_ble_eq_true rfl, Nat.le_of_ble_eq_true rfl⟩) hK hw hAw (ws_recv hK hw (q := 4) (Nat.lt_of_lt_of_le (Nat.le_of_ble_eq_true rfl : 4 < 191) hn) (mk_4 cA α) rfl) rfl hl.1 rfl (Nat.le_of_ble_eq_true rfl) dX5_planRun_52 ⟨Nat.zero_le _, Nat.zero_le _⟩ (fun H locs hw => ?_)
                refine x_topE (y := enc (bestOf (cFree (setR S 5 (cPlan S N i)) i) (cDst S i) N)) (by rw [hT, cDst_5]) ?_
                refine lv_istore_n (lv' := [(3, .int (enc (bestOf (cFree (setR S 5 (cPlan S N i)) i) (cDst S i) N))), (0, .ref (α 4)), (1, .ref (α 3)), (2, .int (nI i))]) hx hb dX5_planRun_55 rfl hl (by decide) rfl (fun ls hl => ?_)
                refine lv_iload_n hx hb dX5_planRun_56 rfl (lv_at hl 0 rfl) ?_
                refine lv_if_lt (tgt := 74) hx hb dX5_planRun_57 (by decide) (fun c4 => ?_) (fun c4 => ?_)
                · skip
                  refine lv_iinc (v := nI (i + 1)) (lv' := [(2, .int (nI (i + 1))), (3, .int (enc (bestOf (cFree (setR S 5 (cPlan S N i)) i) (cDst S i) N))), (0, .ref (α 4)), (1, .ref (α 3))]) hx hb dX5_planRun_74 hl (k := 3) rfl (nI_1 _) (by decide) rfl (fun ls hl => ?_)
                  refine lv_goto (tgt := 28) hx hb dX5_planRun_77 (by decide) ?_
                  exact ih28 (i + 1) T _ _ _ (by omega) (by omega) (by rw [cPlan_none (enc_neg c4 (fun b q => by have := (bestOf_lt N b q).1; omega))]; exact hT) hw (lv_sub hl [2, 3, 0] rfl)
                · skip
                  obtain ⟨b, hb9⟩ := enc_pos c4
                  have hb8 := (bestOf_lt N b hb9).1
                  refine lv_aload_n hx hb dX5_planRun_60 rfl (lv_at hl 1 rfl) ?_
                  refine x_get (v := .ref (α 5)) (C := RX5) (T := TX5) (N := 1) hx hb hts (fun _ h => List.mem_cons_of_mem _ (List.mem_append_left _ (List.mem_append_left _ (List.mem_append_right _ h)))) hown hK hw 4 (Nat.lt_of_lt_of_le (Nat.le_of_ble_eq_true rfl : 4 < 191) hn) (mk_4 cA α) rfl 0 (by decide) (hts _ (List.mem_of_getElem? (i := 3) rfl)) (fun _ h9 => h9) rfl dX5_planRun_61 ?_
                  refine lv_iload_n hx hb dX5_planRun_64 rfl (lv_at hl 3 rfl) ?_
                  refine lv_iload_n hx hb dX5_planRun_65 rfl (lv_at hl 0 rfl) ?_
                  refine x_topN (k := b) (by rw [hb9]; rfl) ?_
                  refine x_iast (x := nI b) hx hb hK hw 5 100 (Nat.lt_of_lt_of_le (Nat.le_of_ble_eq_true rfl : 5 < 191) hn) (mk_5 cA α) i rfl (by omega) (by decide) dX5_planRun_66 (fun S1 eS1 H locs hw => ?_)
                  refine lv_aload_n hx hb dX5_planRun_67 rfl (lv_at hl 1 rfl) ?_
                  refine x_get (v := .ref (α 5)) (C := RX5) (T := TX5) (N := 1) hx hb hts (fun _ h => List.mem_cons_of_mem _ (List.mem_append_left _ (List.mem_append_left _ (List.mem_append_right _ h)))) hown hK hw 4 (Nat.lt_of_lt_of_le (Nat.le_of_ble_eq_true rfl : 4 < 191) hn) (mk_4 cA α) rfl 0 (by decide) (hts _ (List.mem_of_getElem? (i := 3) rfl)) (fun _ h9 => h9) rfl dX5_planRun_68 ?_
                  refine lv_iload_n hx hb dX5_planRun_71 rfl (lv_at hl 0 rfl) ?_
                  refine x_topN (k := b) (by rw [hb9]; rfl) ?_
                  refine lv_iload_n hx hb dX5_planRun_72 rfl (lv_at hl 3 rfl) ?_
                  refine x_iast (x := nI i) hx hb hK hw 5 100 (Nat.lt_of_lt_of_le (Nat.le_of_ble_eq_true rfl : 5 < 191) hn) (mk_5 cA α) b rfl (by omega) (by decide) dX5_planRun_73 (fun S2 eS2 H locs hw => ?_)
                  refine lv_iinc (v := nI (i + 1)) (lv' := [(2, .int (nI (i + 1))), (3, .int (enc (bestOf (cFree (setR S 5 (cPlan S N i)) i) (cDst S i) N))), (0, .ref (α 4)), (1, .ref (α 3))]) hx hb dX5_planRun_74 hl (k := 3) rfl (nI_1 _) (by decide) rfl (fun ls hl => ?_)
                  refine lv_goto (tgt := 28) hx hb dX5_planRun_77 (by decide) ?_
                  exact ih28 (i + 1) S2 _ _ _ (by omega) (by omega) (by subst eS2; subst eS1; rw [hT, cPlan_some c3 hb9, setI_setR, setI_setR]) hw (lv_sub hl [2, 3, 0] rfl)
        exact lp28 _ 0 T _ _ _ (Nat.lt_succ_self _) (Nat.zero_le _) (by rw [hT, show k = N by omega]; rfl) hw (lv_sub hl [1, 2, 0] rfl)
      · skip
        refine lv_aload_n hx hb dX5_planRun_13 rfl (lv_at hl 0 rfl) ?_
        refine x_get (v := .ref (α 5)) (C := RX5) (T := TX5) (N := 1) hx hb hts (fun _ h => List.mem_cons_of_mem _ (List.mem_append_left _ (List.mem_append_left _ (List.mem_append_right _ h)))) hown hK hw 4 (Nat.lt_of_lt_of_le (Nat.le_of_ble_eq_true rfl : 4 < 191) hn) (mk_4 cA α) rfl 0 (by decide) (hts _ (List.mem_of_getElem? (i := 3) rfl)) (fun _ h9 => h9) rfl dX5_planRun_14 ?_
        refine lv_iload_n hx hb dX5_planRun_17 rfl (lv_at hl 2 rfl) ?_
        refine lv_iconst (v := (-1)) hx hb dX5_planRun_18 (by decide) ?_
        refine x_iast (x := (-1)) hx hb hK hw 5 100 (Nat.lt_of_lt_of_le (Nat.le_of_ble_eq_true rfl : 5 < 191) hn) (mk_5 cA α) k rfl (by omega) (by decide) dX5_planRun_19 (fun S3 eS3 H locs hw => ?_)
        refine lv_iinc (v := nI (k + 1)) (lv' := [(2, .int (nI (k + 1))), (0, .ref (α 4)), (1, .ref (α 3))]) hx hb dX5_planRun_20 hl (k := 2) rfl (nI_1 _) (by decide) rfl (fun ls hl => ?_)
        refine lv_goto (tgt := 2) hx hb dX5_planRun_23 (by decide) ?_
        exact ih2 (k + 1) S3 _ _ _ (by omega) (by omega) (by subst eS3; rw [hT, setI_setR, fI_s]) hw (lv_sub hl [1, 2, 0] rfl)
  exact lp2 _ 0 S _ _ _ (Nat.lt_succ_self _) (Nat.zero_le _) (by rw [fI_0]; exact (setR_same S 5).symm) hw (lv_sub hl [1, 2, 0] rfl)

def cWid (S : Mem) : Nat → Int64
  | 0 => -1
  | i + 1 => if S.1 5 i < 0 then cWid S i else mxL (cWid S i) (cDst S i (gN (S.1 5 i)))
def okPl (S : Mem) (N : Nat) : Prop := ∀ i, i < N → S.1 5 i < 0 ∨ okI (S.1 5 i) N

set_option maxRecDepth 100000 in
set_option maxHeartbeats 1000000 in
theorem ct_X5_widestPlanned (l : Launch) (D : va_G) (cA : Nat → ClassId) (α : Nat → Nat) (n sz : Nat) (hn : 191 ≤ n) (S : Mem) (N : Nat) (hN : S.1 74 0 = nI N) (hN2 : N ≤ 100) (ho : ∀ j, j < N → okC S j) (hp : okPl S N) : CtL l yX5_widestPlanned wsX5_widestPlanned ({ frames := 3, cells := 0, slots := 0, locals := 82 }) D cA α n sz [.ref (α 4), .ref (α 3)] S (cWid S N) S := by
  refine ct_enter cX5_widestPlanned 5 (some .long) (by decide) rfl (Nat.le_of_ble_eq_true rfl) ?_
  intro p e s m below meth c hx hb hr hml hlocks hown hts hK hsz hw ls hl
  have hown : s.vm.findClass RX5 = some m.cls := hown
  have hAw : ∀ z, Aw α n s.heap.size z → Aw α n sz z := by rw [hsz]; exact fun _ h => h
  have hl : lv_has ls 5 [(0, .ref (α 4)), (1, .ref (α 3))] := hl
  refine lv_ldc2 (v := -1) hx hb hown (hts _ (List.mem_of_getElem? (i := 1) rfl)) dX5_widestPlanned_0 ?_
  refine lv_lstore_n (lv' := [(2, .long (-1)), (0, .ref (α 4)), (1, .ref (α 3))]) hx hb dX5_widestPlanned_3 rfl hl (by decide) rfl (fun ls hl => ?_)
  refine lv_iconst (v := nI 0) hx hb dX5_widestPlanned_4 (by decide) ?_
  refine lv_istore (lv' := [(4, .int (nI 0)), (2, .long (-1)), (0, .ref (α 4)), (1, .ref (α 3))]) hx hb dX5_widestPlanned_5 hl (by decide) rfl (fun ls hl => ?_)
  have lp7 : ∀ (t : Nat) (j : Nat) (acc : Int64) (H : Heap) (locs : List Loc) (ls : Array Slot), N - j < t → j ≤ N → acc = cWid S j → Ws D cA α n (Aw α n sz) s.heap S H locs → lv_has ls 5 [(0, .ref (α 4)), (1, .ref (α 3)), (4, .int (nI j)), (2, .long acc)] → W p l e ({ frames := 3, cells := 0, slots := 0, locals := 82 } : Room) s m (List.toArray ([.ref (α 4), .ref (α 3)] : List Value)) below meth c H locs 0 0 (MQ below (va_Ql (fun r u => r = (cWid S N) ∧ u = S) (Pw D cA α n) (Aw α n sz)) (List.toArray ([.ref (α 4), .ref (α 3)] : List Value)) s 0 0 (Aw α n sz)) (F0 m 7 ls []) := by
    intro t
    induction t with
    | zero => intro j acc H locs ls ht; exact absurd ht (Nat.not_lt_zero _)
    | succ t ih7 =>
      intro j acc H locs ls ht hj hk hw hl
      refine lv_iload hx hb dX5_widestPlanned_7 (lv_at hl 2 rfl) ?_
      refine lv_aload_n hx hb dX5_widestPlanned_9 rfl (lv_at hl 1 rfl) ?_
      refine x_get (v := .ref (α 74)) (C := RX0) (T := TX0) (N := 3) hx hb hts (fun _ h => List.mem_cons_of_mem _ (List.mem_append_left _ (List.mem_append_left _ (List.mem_append_left _ (List.mem_append_left _ (List.mem_append_right _ h)))))) hown hK hw 3 (Nat.lt_of_lt_of_le (Nat.le_of_ble_eq_true rfl : 3 < 191) hn) (mk_3 cA α) rfl 2 (by decide) (hts _ (List.mem_of_getElem? (i := 2) rfl)) (fun _ h9 => h9) rfl dX5_widestPlanned_10 ?_
      refine x_get (v := .int (S.1 74 0)) (C := RX9) (T := TX9) (N := 14) hx hb hts (fun _ h => List.mem_cons_of_mem _ (List.mem_append_left _ (List.mem_append_left _ (List.mem_append_left _ (List.mem_append_right _ h))))) hown hK hw 74 (Nat.lt_of_lt_of_le (Nat.le_of_ble_eq_true rfl : 74 < 191) hn) (mk_74 cA α) rfl 0 (by decide) (hts _ (List.mem_of_getElem? (i := 3) rfl)) (fun _ h9 => h9) rfl dX5_widestPlanned_13 ?_
      refine x_topN (k := N) hN ?_
      refine xn_icmp_ge (tgt := 53) hx hb (by omega) (by omega) dX5_widestPlanned_16 (by decide) (fun c1 => ?_) (fun c1 => ?_)
      · skip
        refine lv_lload_n hx hb dX5_widestPlanned_53 rfl (lv_at hl 3 rfl) ?_
        exact ret_l hx hb hr hlocks hK hw dX5_widestPlanned_54 (by rw [hk, show j = N by omega]) rfl
      · skip
        refine lv_aload_n hx hb dX5_widestPlanned_19 rfl (lv_at hl 0 rfl) ?_
        refine x_get (v := .ref (α 5)) (C := RX5) (T := TX5) (N := 1) hx hb hts (fun _ h => List.mem_cons_of_mem _ (List.mem_append_left _ (List.mem_append_left _ (List.mem_append_right _ h)))) hown hK hw 4 (Nat.lt_of_lt_of_le (Nat.le_of_ble_eq_true rfl : 4 < 191) hn) (mk_4 cA α) rfl 0 (by decide) (hts _ (List.mem_of_getElem? (i := 4) rfl)) (fun _ h9 => h9) rfl dX5_widestPlanned_20 ?_
        refine lv_iload hx hb dX5_widestPlanned_23 (lv_at hl 2 rfl) ?_
        refine x_iald hx hb hK hw 5 100 (Nat.lt_of_lt_of_le (Nat.le_of_ble_eq_true rfl : 5 < 191) hn) (mk_5 cA α) j rfl (by omega) (by decide) dX5_widestPlanned_25 ?_
        refine lv_if_lt (tgt := 47) hx hb dX5_widestPlanned_26 (by decide) (fun c2 => ?_) (fun c2 => ?_)
        · skip
          refine lv_iinc (v := nI (j + 1)) (lv' := [(4, .int (nI (j + 1))), (0, .ref (α 4)), (1, .ref (α 3)), (2, .long acc)]) hx hb dX5_widestPlanned_47 hl (k := 2) rfl (nI_1 _) (by decide) rfl (fun ls hl => ?_)
          refine lv_goto (tgt := 7) hx hb dX5_widestPlanned_50 (by decide) ?_
          exact ih7 (j + 1) acc _ _ _ (by omega) (by omega) (by rw [cWid, ← hk]; simp only [if_pos c1, if_neg (not_not_intro c1), decide_eq_true c1, if_pos c2, if_neg (not_not_intro c2), decide_eq_true c2, if_true, if_false, eq_self, Bool.false_eq_true, not_true_eq_false, not_false_eq_true, decide_true, decide_false, Bool.and_true, Bool.true_and, Bool.and_false, Bool.false_and, Bool.not_true, Bool.not_false, Bool.or_true, Bool.true_or, Bool.or_false, Bool.false_or, reduceIte, b2i_t, b2i_f]) hw (lv_sub hl [1, 2, 0, 3] rfl)
        · skip
          have hq := (hp j (by omega)).resolve_left c2
          refine lv_lload_n hx hb dX5_widestPlanned_29 rfl (lv_at hl 3 rfl) ?_
          refine lv_aload_n hx hb dX5_widestPlanned_30 rfl (lv_at hl 1 rfl) ?_
          refine lv_iload hx hb dX5_widestPlanned_31 (lv_at hl 2 rfl) ?_
          refine lv_aload_n hx hb dX5_widestPlanned_33 rfl (lv_at hl 0 rfl) ?_
          refine x_get (v := .ref (α 5)) (C := RX5) (T := TX5) (N := 1) hx hb hts (fun _ h => List.mem_cons_of_mem _ (List.mem_append_left _ (List.mem_append_left _ (List.mem_append_right _ h)))) hown hK hw 4 (Nat.lt_of_lt_of_le (Nat.le_of_ble_eq_true rfl : 4 < 191) hn) (mk_4 cA α) rfl 0 (by decide) (hts _ (List.mem_of_getElem? (i := 4) rfl)) (fun _ h9 => h9) rfl dX5_widestPlanned_34 ?_
          refine lv_iload hx hb dX5_widestPlanned_37 (lv_at hl 2 rfl) ?_
          refine x_iald hx hb hK hw 5 100 (Nat.lt_of_lt_of_le (Nat.le_of_ble_eq_true rfl : 5 < 191) hn) (mk_5 cA α) j rfl (by omega) (by decide) dX5_widestPlanned_39 ?_
          refine x_topN (k := gN (S.1 5 j)) hq.1 ?_
          refine x_callSLr (q := 0) (C := RX0) (As := [.ref (α 3), .int (nI j), .int (nI (gN (S.1 5 j)))]) (rest := [.long acc]) ⟨hx, hb, hml, hown, hts⟩ (ct_X5_distance l D cA α n _ hn S j (gN (S.1 5 j)) (ho j (by omega)) (ho _ hq.2)) (va_cwS 3 hts gX5_widestPlanned_X5_distance rfl rfl rfl (by decide +kernel) ⟨Nat.le_of_ble_eq_true rfl, Nat.le_of_ble_eq_true rfl⟩) hK hw hAw rfl hl.1 rfl (Nat.le_of_ble_eq_true rfl) dX5_widestPlanned_40 ⟨Nat.zero_le _, Nat.zero_le _⟩ (fun H locs hw => ?_)
          refine va_mmax_long hx hb (hml.trans hl.1.symm) hown (hts _ (List.mem_of_getElem? (i := 5) rfl)) (hts _ (List.mem_of_getElem? (i := 6) rfl)) (hts _ (List.mem_of_getElem? (i := 7) rfl)) (hts _ (List.mem_of_getElem? (i := 8) rfl)) (by decide) (Nat.le_of_ble_eq_true rfl) (Nat.zero_le _) (Nat.zero_le _) dX5_widestPlanned_43 ?_
          refine lv_lstore_n (lv' := [(2, .long (mxL acc (cDst S j (gN (S.1 5 j))))), (0, .ref (α 4)), (1, .ref (α 3)), (4, .int (nI j))]) hx hb dX5_widestPlanned_46 rfl hl (by decide) rfl (fun ls hl => ?_)
          refine lv_iinc (v := nI (j + 1)) (lv' := [(4, .int (nI (j + 1))), (2, .long (mxL acc (cDst S j (gN (S.1 5 j))))), (0, .ref (α 4)), (1, .ref (α 3))]) hx hb dX5_widestPlanned_47 hl (k := 3) rfl (nI_1 _) (by decide) rfl (fun ls hl => ?_)
          refine lv_goto (tgt := 7) hx hb dX5_widestPlanned_50 (by decide) ?_
          exact ih7 (j + 1) (mxL acc (cDst S j (gN (S.1 5 j)))) _ _ _ (by omega) (by omega) (by rw [cWid, ← hk]; simp only [if_pos c1, if_neg (not_not_intro c1), decide_eq_true c1, if_neg c2, if_pos c2, decide_eq_false c2, if_true, if_false, eq_self, Bool.false_eq_true, not_true_eq_false, not_false_eq_true, decide_true, decide_false, Bool.and_true, Bool.true_and, Bool.and_false, Bool.false_and, Bool.not_true, Bool.not_false, Bool.or_true, Bool.true_or, Bool.or_false, Bool.false_or, reduceIte, b2i_t, b2i_f]) hw (lv_sub hl [2, 3, 0, 1] rfl)
  exact lp7 _ 0 (-1) _ _ _ (Nat.lt_succ_self _) (Nat.zero_le _) rfl hw (lv_sub hl [2, 3, 0, 1] rfl)

def put2 (T : Mem) (i b : Nat) (x y : Int32) : Mem := setI (setI (setI (setI T 77 i x) 76 i y) 77 b (nI i)) 76 b y
def cSt (T : Mem) (i b : Nat) : Int32 := if (T.1 74 2).toInt64 < cDst T i b then nI 2 else nI 1
/-- pairing as planned: the world and the pairs behind i items -/
def cPr (S : Mem) : Nat → Mem × Nat
  | 0 => (S, 0)
  | i + 1 => if S.1 5 i < 0 then cPr S i else if S.1 47 i = 0 then (put2 (cPr S i).1 i (gN (S.1 5 i)) (S.1 5 i) (cSt (cPr S i).1 i (gN (S.1 5 i))), (cPr S i).2 + 1) else cPr S i
theorem put2_k (T : Mem) (i b : Nat) (x y : Int32) {z : Nat} (h1 : z ≠ 77) (h2 : z ≠ 76) : (put2 T i b x y).1 z = T.1 z := by
  unfold put2; rw [sI_1 h2, sI_1 h1, sI_1 h2, sI_1 h1]
theorem cPr_k (S : Mem) {z : Nat} (h1 : z ≠ 77) (h2 : z ≠ 76) : ∀ i, (cPr S i).1.1 z = S.1 z
  | 0 => rfl
  | i + 1 => by
    rw [cPr]
    split
    · exact cPr_k S h1 h2 i
    · split
      · rw [put2_k _ _ _ _ _ h1 h2]; exact cPr_k S h1 h2 i
      · exact cPr_k S h1 h2 i
theorem okC_of {S T : Mem} {j : Nat} (h : okC S j) (e1 : T.1 45 = S.1 45) (e2 : T.1 25 = S.1 25) : okC T j := by
  unfold okC; rw [e1, e2]; exact h

set_option maxRecDepth 100000 in
set_option maxHeartbeats 1000000 in
theorem ct_X5_pairAsPlanned (l : Launch) (D : va_G) (cA : Nat → ClassId) (α : Nat → Nat) (n sz : Nat) (hn : 191 ≤ n) (S : Mem) (N : Nat) (hN : S.1 74 0 = nI N) (hN2 : N ≤ 100) (ho : ∀ j, j < N → okC S j) (hp : okPl S N) : CtI l yX5_pairAsPlanned wsX5_pairAsPlanned ({ frames := 3, cells := 0, slots := 0, locals := 82 }) D cA α n sz [.ref (α 4), .ref (α 3)] S (nI (cPr S N).2) ((cPr S N).1) := by
  refine ct_enter cX5_pairAsPlanned 6 (some .int) (by decide) rfl (Nat.le_of_ble_eq_true rfl) ?_
  intro p e s m below meth c hx hb hr hml hlocks hown hts hK hsz hw ls hl
  have hown : s.vm.findClass RX5 = some m.cls := hown
  have hAw : ∀ z, Aw α n s.heap.size z → Aw α n sz z := by rw [hsz]; exact fun _ h => h
  have hl : lv_has ls 6 [(0, .ref (α 4)), (1, .ref (α 3))] := hl
  refine lv_iconst (v := nI 0) hx hb dX5_pairAsPlanned_0 (by decide) ?_
  refine lv_istore_n (lv' := [(2, .int (nI 0)), (0, .ref (α 4)), (1, .ref (α 3))]) hx hb dX5_pairAsPlanned_1 rfl hl (by decide) rfl (fun ls hl => ?_)
  refine lv_iconst (v := nI 0) hx hb dX5_pairAsPlanned_2 (by decide) ?_
  refine lv_istore_n (lv' := [(3, .int (nI 0)), (2, .int (nI 0)), (0, .ref (α 4)), (1, .ref (α 3))]) hx hb dX5_pairAsPlanned_3 rfl hl (by decide) rfl (fun ls hl => ?_)
  have lp4 : ∀ (t : Nat) (i : Nat) (k : Nat) (T : Mem) (H : Heap) (locs : List Loc) (ls : Array Slot), N - i < t → i ≤ N → T = (cPr S i).1 → k = (cPr S i).2 → Ws D cA α n (Aw α n sz) s.heap T H locs → lv_has ls 6 [(0, .ref (α 4)), (1, .ref (α 3)), (3, .int (nI i)), (2, .int (nI k))] → W p l e ({ frames := 3, cells := 0, slots := 0, locals := 82 } : Room) s m (List.toArray ([.ref (α 4), .ref (α 3)] : List Value)) below meth c H locs 0 0 (MQ below (va_Qi (fun r u => r = (nI (cPr S N).2) ∧ u = ((cPr S N).1)) (Pw D cA α n) (Aw α n sz)) (List.toArray ([.ref (α 4), .ref (α 3)] : List Value)) s 0 0 (Aw α n sz)) (F0 m 4 ls []) := by
    intro t
    induction t with
    | zero => intro i k T H locs ls ht; exact absurd ht (Nat.not_lt_zero _)
    | succ t ih4 =>
      intro i k T H locs ls ht hj hT hk hw hl
      refine lv_iload_n hx hb dX5_pairAsPlanned_4 rfl (lv_at hl 2 rfl) ?_
      refine lv_aload_n hx hb dX5_pairAsPlanned_5 rfl (lv_at hl 1 rfl) ?_
      refine x_get (v := .ref (α 74)) (C := RX0) (T := TX0) (N := 3) hx hb hts (fun _ h => List.mem_cons_of_mem _ (List.mem_append_left _ (List.mem_append_left _ (List.mem_append_left _ (List.mem_append_left _ (List.mem_append_right _ h)))))) hown hK hw 3 (Nat.lt_of_lt_of_le (Nat.le_of_ble_eq_true rfl : 3 < 191) hn) (mk_3 cA α) rfl 2 (by decide) (hts _ (List.mem_of_getElem? (i := 1) rfl)) (fun _ h9 => h9) rfl dX5_pairAsPlanned_6 ?_
      refine x_get (v := .int (T.1 74 0)) (C := RX9) (T := TX9) (N := 14) hx hb hts (fun _ h => List.mem_cons_of_mem _ (List.mem_append_left _ (List.mem_append_left _ (List.mem_append_left _ (List.mem_append_right _ h))))) hown hK hw 74 (Nat.lt_of_lt_of_le (Nat.le_of_ble_eq_true rfl : 74 < 191) hn) (mk_74 cA α) rfl 0 (by decide) (hts _ (List.mem_of_getElem? (i := 2) rfl)) (fun _ h9 => h9) rfl dX5_pairAsPlanned_9 ?_
      refine x_topN (k := N) (by rw [hT]; exact (congrFun (cPr_k S (by decide) (by decide) i) 0).trans hN) ?_
      refine xn_icmp_ge (tgt := 99) hx hb (by omega) (by omega) dX5_pairAsPlanned_12 (by decide) (fun c1 => ?_) (fun c1 => ?_)
      · skip
        refine lv_iload_n hx hb dX5_pairAsPlanned_99 rfl (lv_at hl 3 rfl) ?_
        exact ret_i hx hb hr hlocks hK hw dX5_pairAsPlanned_100 (by rw [hk, show i = N by omega]) (by rw [hT, show i = N by omega])
      · skip
        refine lv_aload_n hx hb dX5_pairAsPlanned_15 rfl (lv_at hl 0 rfl) ?_
        refine x_get (v := .ref (α 5)) (C := RX5) (T := TX5) (N := 1) hx hb hts (fun _ h => List.mem_cons_of_mem _ (List.mem_append_left _ (List.mem_append_left _ (List.mem_append_right _ h)))) hown hK hw 4 (Nat.lt_of_lt_of_le (Nat.le_of_ble_eq_true rfl : 4 < 191) hn) (mk_4 cA α) rfl 0 (by decide) (hts _ (List.mem_of_getElem? (i := 3) rfl)) (fun _ h9 => h9) rfl dX5_pairAsPlanned_16 ?_
        refine lv_iload_n hx hb dX5_pairAsPlanned_19 rfl (lv_at hl 2 rfl) ?_
        refine x_iald hx hb hK hw 5 100 (Nat.lt_of_lt_of_le (Nat.le_of_ble_eq_true rfl : 5 < 191) hn) (mk_5 cA α) i rfl (by omega) (by decide) dX5_pairAsPlanned_20 ?_
        refine x_topE (y := S.1 5 i) (by rw [hT]; exact (congrFun (cPr_k S (by decide) (by decide) i) i)) ?_
        refine lv_istore (lv' := [(4, .int (S.1 5 i)), (0, .ref (α 4)), (1, .ref (α 3)), (3, .int (nI i)), (2, .int (nI k))]) hx hb dX5_pairAsPlanned_21 hl (by decide) rfl (fun ls hl => ?_)
        refine lv_iload hx hb dX5_pairAsPlanned_23 (lv_at hl 0 rfl) ?_
        refine lv_if_lt (tgt := 93) hx hb dX5_pairAsPlanned_25 (by decide) (fun c2 => ?_) (fun c2 => ?_)
        · skip
          refine lv_iinc (v := nI (i + 1)) (lv' := [(3, .int (nI (i + 1))), (4, .int (S.1 5 i)), (0, .ref (α 4)), (1, .ref (α 3)), (2, .int (nI k))]) hx hb dX5_pairAsPlanned_93 hl (k := 3) rfl (nI_1 _) (by decide) rfl (fun ls hl => ?_)
          refine lv_goto (tgt := 4) hx hb dX5_pairAsPlanned_96 (by decide) ?_
          exact ih4 (i + 1) k T _ _ _ (by omega) (by omega) (by rw [cPr]; simp only [if_pos c1, if_neg (not_not_intro c1), decide_eq_true c1, if_pos c2, if_neg (not_not_intro c2), decide_eq_true c2, if_true, if_false, eq_self, Bool.false_eq_true, not_true_eq_false, not_false_eq_true, decide_true, decide_false, Bool.and_true, Bool.true_and, Bool.and_false, Bool.false_and, Bool.not_true, Bool.not_false, Bool.or_true, Bool.true_or, Bool.or_false, Bool.false_or, reduceIte, b2i_t, b2i_f]; exact hT) (by rw [cPr]; simp only [if_pos c1, if_neg (not_not_intro c1), decide_eq_true c1, if_pos c2, if_neg (not_not_intro c2), decide_eq_true c2, if_true, if_false, eq_self, Bool.false_eq_true, not_true_eq_false, not_false_eq_true, decide_true, decide_false, Bool.and_true, Bool.true_and, Bool.and_false, Bool.false_and, Bool.not_true, Bool.not_false, Bool.or_true, Bool.true_or, Bool.or_false, Bool.false_or, reduceIte, b2i_t, b2i_f]; exact hk) hw (lv_sub hl [2, 3, 0, 4] rfl)
        · skip
          refine lv_aload_n hx hb dX5_pairAsPlanned_28 rfl (lv_at hl 2 rfl) ?_
          refine x_get (v := .ref (α 44)) (C := RX0) (T := TX0) (N := 3) hx hb hts (fun _ h => List.mem_cons_of_mem _ (List.mem_append_left _ (List.mem_append_left _ (List.mem_append_left _ (List.mem_append_left _ (List.mem_append_right _ h)))))) hown hK hw 3 (Nat.lt_of_lt_of_le (Nat.le_of_ble_eq_true rfl : 3 < 191) hn) (mk_3 cA α) rfl 1 (by decide) (hts _ (List.mem_of_getElem? (i := 4) rfl)) (fun _ h9 => h9) rfl dX5_pairAsPlanned_29 ?_
          refine x_get (v := .ref (α 47)) (C := RX7) (T := TX7) (N := 9) hx hb hts (fun _ h => List.mem_cons_of_mem _ (List.mem_append_left _ (List.mem_append_right _ h))) hown hK hw 44 (Nat.lt_of_lt_of_le (Nat.le_of_ble_eq_true rfl : 44 < 191) hn) (mk_44 cA α) rfl 2 (by decide) (hts _ (List.mem_of_getElem? (i := 5) rfl)) (fun _ h9 => h9) rfl dX5_pairAsPlanned_32 ?_
          refine lv_iload_n hx hb dX5_pairAsPlanned_35 rfl (lv_at hl 3 rfl) ?_
          refine x_iald hx hb hK hw 47 100 (Nat.lt_of_lt_of_le (Nat.le_of_ble_eq_true rfl : 47 < 191) hn) (mk_47 cA α) i rfl (by omega) (by decide) dX5_pairAsPlanned_36 ?_
          refine x_topE (y := S.1 47 i) (by rw [hT]; exact (congrFun (cPr_k S (by decide) (by decide) i) i)) ?_
          refine lv_if_ne (tgt := 93) hx hb dX5_pairAsPlanned_37 (by decide) (fun c3 => ?_) (fun c3 => ?_)
          · skip
            refine lv_iinc (v := nI (i + 1)) (lv' := [(3, .int (nI (i + 1))), (4, .int (S.1 5 i)), (0, .ref (α 4)), (1, .ref (α 3)), (2, .int (nI k))]) hx hb dX5_pairAsPlanned_93 hl (k := 3) rfl (nI_1 _) (by decide) rfl (fun ls hl => ?_)
            refine lv_goto (tgt := 4) hx hb dX5_pairAsPlanned_96 (by decide) ?_
            exact ih4 (i + 1) k T _ _ _ (by omega) (by omega) (by rw [cPr]; simp only [if_pos c1, if_neg (not_not_intro c1), decide_eq_true c1, if_neg c2, if_pos c2, decide_eq_false c2, if_neg c3, if_pos c3, decide_eq_false c3, if_true, if_false, eq_self, Bool.false_eq_true, not_true_eq_false, not_false_eq_true, decide_true, decide_false, Bool.and_true, Bool.true_and, Bool.and_false, Bool.false_and, Bool.not_true, Bool.not_false, Bool.or_true, Bool.true_or, Bool.or_false, Bool.false_or, reduceIte, b2i_t, b2i_f]; exact hT) (by rw [cPr]; simp only [if_pos c1, if_neg (not_not_intro c1), decide_eq_true c1, if_neg c2, if_pos c2, decide_eq_false c2, if_neg c3, if_pos c3, decide_eq_false c3, if_true, if_false, eq_self, Bool.false_eq_true, not_true_eq_false, not_false_eq_true, decide_true, decide_false, Bool.and_true, Bool.true_and, Bool.and_false, Bool.false_and, Bool.not_true, Bool.not_false, Bool.or_true, Bool.true_or, Bool.or_false, Bool.false_or, reduceIte, b2i_t, b2i_f]; exact hk) hw (lv_sub hl [2, 3, 0, 4] rfl)
          · skip
            have hq := (hp i (by omega)).resolve_left c2
            have hq2 := hq.2
            refine lv_aload_n hx hb dX5_pairAsPlanned_40 rfl (lv_at hl 2 rfl) ?_
            refine lv_iload_n hx hb dX5_pairAsPlanned_41 rfl (lv_at hl 3 rfl) ?_
            refine lv_iload hx hb dX5_pairAsPlanned_42 (lv_at hl 0 rfl) ?_
            refine x_topN (k := gN (S.1 5 i)) hq.1 ?_
            refine x_callSLr (q := 0) (C := RX0) (As := [.ref (α 3), .int (nI i), .int (nI (gN (S.1 5 i)))]) (rest := []) ⟨hx, hb, hml, hown, hts⟩ (ct_X5_distance l D cA α n _ hn T i (gN (S.1 5 i)) (okC_of (ho i (by omega)) (by rw [hT]; exact cPr_k S (by decide) (by decide) i) (by rw [hT]; exact cPr_k S (by decide) (by decide) i)) (okC_of (ho _ hq.2) (by rw [hT]; exact cPr_k S (by decide) (by decide) i) (by rw [hT]; exact cPr_k S (by decide) (by decide) i))) (va_cwS 3 hts gX5_pairAsPlanned_X5_distance rfl rfl rfl (by decide +kernel) ⟨Nat.le_of_ble_eq_true rfl, Nat.le_of_ble_eq_true rfl⟩) hK hw hAw rfl hl.1 rfl (Nat.le_of_ble_eq_true rfl) dX5_pairAsPlanned_44 ⟨Nat.zero_le _, Nat.zero_le _⟩ (fun H locs hw => ?_)
            refine lv_aload_n hx hb dX5_pairAsPlanned_47 rfl (lv_at hl 2 rfl) ?_
            refine x_get (v := .ref (α 74)) (C := RX0) (T := TX0) (N := 3) hx hb hts (fun _ h => List.mem_cons_of_mem _ (List.mem_append_left _ (List.mem_append_left _ (List.mem_append_left _ (List.mem_append_left _ (List.mem_append_right _ h)))))) hown hK hw 3 (Nat.lt_of_lt_of_le (Nat.le_of_ble_eq_true rfl : 3 < 191) hn) (mk_3 cA α) rfl 2 (by decide) (hts _ (List.mem_of_getElem? (i := 1) rfl)) (fun _ h9 => h9) rfl dX5_pairAsPlanned_48 ?_
            refine x_get (v := .int (T.1 74 2)) (C := RX9) (T := TX9) (N := 14) hx hb hts (fun _ h => List.mem_cons_of_mem _ (List.mem_append_left _ (List.mem_append_left _ (List.mem_append_left _ (List.mem_append_right _ h))))) hown hK hw 74 (Nat.lt_of_lt_of_le (Nat.le_of_ble_eq_true rfl : 74 < 191) hn) (mk_74 cA α) rfl 2 (by decide) (hts _ (List.mem_of_getElem? (i := 6) rfl)) (fun _ h9 => h9) rfl dX5_pairAsPlanned_51 ?_
            refine lv_i2l hx hb dX5_pairAsPlanned_54 rfl ?_
            refine x_lcmp_gt (tgt := 63) hx hb dX5_pairAsPlanned_55 dX5_pairAsPlanned_56 (by decide) (fun c4 => ?_) (fun c4 => ?_)
            · skip
              refine lv_iconst (v := nI 2) hx hb dX5_pairAsPlanned_63 (by decide) ?_
              refine lv_istore (lv' := [(5, .int (nI 2)), (4, .int (S.1 5 i)), (0, .ref (α 4)), (1, .ref (α 3)), (3, .int (nI i)), (2, .int (nI k))]) hx hb dX5_pairAsPlanned_64 hl (by decide) rfl (fun ls hl => ?_)
              refine lv_aload_n hx hb dX5_pairAsPlanned_66 rfl (lv_at hl 3 rfl) ?_
              refine x_get (v := .ref (α 74)) (C := RX0) (T := TX0) (N := 3) hx hb hts (fun _ h => List.mem_cons_of_mem _ (List.mem_append_left _ (List.mem_append_left _ (List.mem_append_left _ (List.mem_append_left _ (List.mem_append_right _ h)))))) hown hK hw 3 (Nat.lt_of_lt_of_le (Nat.le_of_ble_eq_true rfl : 3 < 191) hn) (mk_3 cA α) rfl 2 (by decide) (hts _ (List.mem_of_getElem? (i := 1) rfl)) (fun _ h9 => h9) rfl dX5_pairAsPlanned_67 ?_
              refine lv_iload_n hx hb dX5_pairAsPlanned_70 rfl (lv_at hl 4 rfl) ?_
              refine lv_iload hx hb dX5_pairAsPlanned_71 (lv_at hl 1 rfl) ?_
              refine lv_iload hx hb dX5_pairAsPlanned_73 (lv_at hl 0 rfl) ?_
              refine x_callVV (q := 74) (C := RX9) (As := [.int (nI i), .int (S.1 5 i), .int (nI 2)]) (rest := []) ⟨hx, hb, hml, hown, hts⟩ (ct_X9_putPair l D cA α n _ hn T i (S.1 5 i) (nI 2) (by omega)) (cwV 3 hts gX5_pairAsPlanned_X9_putPair rfl rfl rfl (by decide +kernel) ⟨Nat.le_of_ble_eq_true rfl, Nat.le_of_ble_eq_true rfl⟩) hK hw hAw (ws_recv hK hw (q := 74) (Nat.lt_of_lt_of_le (Nat.le_of_ble_eq_true rfl : 74 < 191) hn) (mk_74 cA α) rfl) rfl hl.1 rfl (Nat.le_of_ble_eq_true rfl) dX5_pairAsPlanned_75 ⟨Nat.zero_le _, Nat.zero_le _⟩ (fun S1 eS1 H locs hw => ?_)
              refine lv_aload_n hx hb dX5_pairAsPlanned_78 rfl (lv_at hl 3 rfl) ?_
              refine x_get (v := .ref (α 74)) (C := RX0) (T := TX0) (N := 3) hx hb hts (fun _ h => List.mem_cons_of_mem _ (List.mem_append_left _ (List.mem_append_left _ (List.mem_append_left _ (List.mem_append_left _ (List.mem_append_right _ h)))))) hown hK hw 3 (Nat.lt_of_lt_of_le (Nat.le_of_ble_eq_true rfl : 3 < 191) hn) (mk_3 cA α) rfl 2 (by decide) (hts _ (List.mem_of_getElem? (i := 1) rfl)) (fun _ h9 => h9) rfl dX5_pairAsPlanned_79 ?_
              refine lv_iload hx hb dX5_pairAsPlanned_82 (lv_at hl 1 rfl) ?_
              refine x_topN (k := gN (S.1 5 i)) hq.1 ?_
              refine lv_iload_n hx hb dX5_pairAsPlanned_84 rfl (lv_at hl 4 rfl) ?_
              refine lv_iload hx hb dX5_pairAsPlanned_85 (lv_at hl 0 rfl) ?_
              refine x_callVV (q := 74) (C := RX9) (As := [.int (nI (gN (S.1 5 i))), .int (nI i), .int (nI 2)]) (rest := []) ⟨hx, hb, hml, hown, hts⟩ (ct_X9_putPair l D cA α n _ hn S1 (gN (S.1 5 i)) (nI i) (nI 2) (by omega)) (cwV 3 hts gX5_pairAsPlanned_X9_putPair rfl rfl rfl (by decide +kernel) ⟨Nat.le_of_ble_eq_true rfl, Nat.le_of_ble_eq_true rfl⟩) hK hw hAw (ws_recv hK hw (q := 74) (Nat.lt_of_lt_of_le (Nat.le_of_ble_eq_true rfl : 74 < 191) hn) (mk_74 cA α) rfl) rfl hl.1 rfl (Nat.le_of_ble_eq_true rfl) dX5_pairAsPlanned_87 ⟨Nat.zero_le _, Nat.zero_le _⟩ (fun S2 eS2 H locs hw => ?_)
              refine lv_iinc (v := nI (k + 1)) (lv' := [(2, .int (nI (k + 1))), (5, .int (nI 2)), (4, .int (S.1 5 i)), (0, .ref (α 4)), (1, .ref (α 3)), (3, .int (nI i))]) hx hb dX5_pairAsPlanned_90 hl (k := 5) rfl (nI_1 _) (by decide) rfl (fun ls hl => ?_)
              refine lv_iinc (v := nI (i + 1)) (lv' := [(3, .int (nI (i + 1))), (2, .int (nI (k + 1))), (5, .int (nI 2)), (4, .int (S.1 5 i)), (0, .ref (α 4)), (1, .ref (α 3))]) hx hb dX5_pairAsPlanned_93 hl (k := 5) rfl (nI_1 _) (by decide) rfl (fun ls hl => ?_)
              refine lv_goto (tgt := 4) hx hb dX5_pairAsPlanned_96 (by decide) ?_
              exact ih4 (i + 1) (k + 1) S2 _ _ _ (by omega) (by omega) (by rw [cPr]; simp only [if_pos c1, if_neg (not_not_intro c1), decide_eq_true c1, if_neg c2, if_pos c2, decide_eq_false c2, if_pos c3, if_neg (not_not_intro c3), decide_eq_true c3, if_pos c4, if_neg (not_not_intro c4), decide_eq_true c4, if_true, if_false, eq_self, Bool.false_eq_true, not_true_eq_false, not_false_eq_true, decide_true, decide_false, Bool.and_true, Bool.true_and, Bool.and_false, Bool.false_and, Bool.not_true, Bool.not_false, Bool.or_true, Bool.true_or, Bool.or_false, Bool.false_or, reduceIte, b2i_t, b2i_f]; subst_vars; simp only [put2, cSt, if_pos c1, if_neg (not_not_intro c1), decide_eq_true c1, if_neg c2, if_pos c2, decide_eq_false c2, if_pos c3, if_neg (not_not_intro c3), decide_eq_true c3, if_pos c4, if_neg (not_not_intro c4), decide_eq_true c4, if_true, if_false, eq_self, Bool.false_eq_true, not_true_eq_false, not_false_eq_true, decide_true, decide_false, Bool.and_true, Bool.true_and, Bool.and_false, Bool.false_and, Bool.not_true, Bool.not_false, Bool.or_true, Bool.true_or, Bool.or_false, Bool.false_or, reduceIte, b2i_t, b2i_f]; try rfl) (by rw [cPr]; simp only [if_pos c1, if_neg (not_not_intro c1), decide_eq_true c1, if_neg c2, if_pos c2, decide_eq_false c2, if_pos c3, if_neg (not_not_intro c3), decide_eq_true c3, if_pos c4, if_neg (not_not_intro c4), decide_eq_true c4, if_true, if_false, eq_self, Bool.false_eq_true, not_true_eq_false, not_false_eq_true, decide_true, decide_false, Bool.and_true, Bool.true_and, Bool.and_false, Bool.false_and, Bool.not_true, Bool.not_false, Bool.or_true, Bool.true_or, Bool.or_false, Bool.false_or, reduceIte, b2i_t, b2i_f]; rw [hk]) hw (lv_sub hl [4, 5, 0, 1] rfl)
            · skip
              refine lv_iconst (v := nI 1) hx hb dX5_pairAsPlanned_59 (by decide) ?_
              refine lv_goto (tgt := 64) hx hb dX5_pairAsPlanned_60 (by decide) ?_
              refine lv_istore (lv' := [(5, .int (nI 1)), (4, .int (S.1 5 i)), (0, .ref (α 4)), (1, .ref (α 3)), (3, .int (nI i)), (2, .int (nI k))]) hx hb dX5_pairAsPlanned_64 hl (by decide) rfl (fun ls hl => ?_)
              refine lv_aload_n hx hb dX5_pairAsPlanned_66 rfl (lv_at hl 3 rfl) ?_
              refine x_get (v := .ref (α 74)) (C := RX0) (T := TX0) (N := 3) hx hb hts (fun _ h => List.mem_cons_of_mem _ (List.mem_append_left _ (List.mem_append_left _ (List.mem_append_left _ (List.mem_append_left _ (List.mem_append_right _ h)))))) hown hK hw 3 (Nat.lt_of_lt_of_le (Nat.le_of_ble_eq_true rfl : 3 < 191) hn) (mk_3 cA α) rfl 2 (by decide) (hts _ (List.mem_of_getElem? (i := 1) rfl)) (fun _ h9 => h9) rfl dX5_pairAsPlanned_67 ?_
              refine lv_iload_n hx hb dX5_pairAsPlanned_70 rfl (lv_at hl 4 rfl) ?_
              refine lv_iload hx hb dX5_pairAsPlanned_71 (lv_at hl 1 rfl) ?_
              refine lv_iload hx hb dX5_pairAsPlanned_73 (lv_at hl 0 rfl) ?_
              refine x_callVV (q := 74) (C := RX9) (As := [.int (nI i), .int (S.1 5 i), .int (nI 1)]) (rest := []) ⟨hx, hb, hml, hown, hts⟩ (ct_X9_putPair l D cA α n _ hn T i (S.1 5 i) (nI 1) (by omega)) (cwV 3 hts gX5_pairAsPlanned_X9_putPair rfl rfl rfl (by decide +kernel) ⟨Nat.le_of_ble_eq_true rfl, Nat.le_of_ble_eq_true rfl⟩) hK hw hAw (ws_recv hK hw (q := 74) (Nat.lt_of_lt_of_le (Nat.le_of_ble_eq_true rfl : 74 < 191) hn) (mk_74 cA α) rfl) rfl hl.1 rfl (Nat.le_of_ble_eq_true rfl) dX5_pairAsPlanned_75 ⟨Nat.zero_le _, Nat.zero_le _⟩ (fun S3 eS3 H locs hw => ?_)
              refine lv_aload_n hx hb dX5_pairAsPlanned_78 rfl (lv_at hl 3 rfl) ?_
              refine x_get (v := .ref (α 74)) (C := RX0) (T := TX0) (N := 3) hx hb hts (fun _ h => List.mem_cons_of_mem _ (List.mem_append_left _ (List.mem_append_left _ (List.mem_append_left _ (List.mem_append_left _ (List.mem_append_right _ h)))))) hown hK hw 3 (Nat.lt_of_lt_of_le (Nat.le_of_ble_eq_true rfl : 3 < 191) hn) (mk_3 cA α) rfl 2 (by decide) (hts _ (List.mem_of_getElem? (i := 1) rfl)) (fun _ h9 => h9) rfl dX5_pairAsPlanned_79 ?_
              refine lv_iload hx hb dX5_pairAsPlanned_82 (lv_at hl 1 rfl) ?_
              refine x_topN (k := gN (S.1 5 i)) hq.1 ?_
              refine lv_iload_n hx hb dX5_pairAsPlanned_84 rfl (lv_at hl 4 rfl) ?_
              refine lv_iload hx hb dX5_pairAsPlanned_85 (lv_at hl 0 rfl) ?_
              refine x_callVV (q := 74) (C := RX9) (As := [.int (nI (gN (S.1 5 i))), .int (nI i), .int (nI 1)]) (rest := []) ⟨hx, hb, hml, hown, hts⟩ (ct_X9_putPair l D cA α n _ hn S3 (gN (S.1 5 i)) (nI i) (nI 1) (by omega)) (cwV 3 hts gX5_pairAsPlanned_X9_putPair rfl rfl rfl (by decide +kernel) ⟨Nat.le_of_ble_eq_true rfl, Nat.le_of_ble_eq_true rfl⟩) hK hw hAw (ws_recv hK hw (q := 74) (Nat.lt_of_lt_of_le (Nat.le_of_ble_eq_true rfl : 74 < 191) hn) (mk_74 cA α) rfl) rfl hl.1 rfl (Nat.le_of_ble_eq_true rfl) dX5_pairAsPlanned_87 ⟨Nat.zero_le _, Nat.zero_le _⟩ (fun S4 eS4 H locs hw => ?_)
              refine lv_iinc (v := nI (k + 1)) (lv' := [(2, .int (nI (k + 1))), (5, .int (nI 1)), (4, .int (S.1 5 i)), (0, .ref (α 4)), (1, .ref (α 3)), (3, .int (nI i))]) hx hb dX5_pairAsPlanned_90 hl (k := 5) rfl (nI_1 _) (by decide) rfl (fun ls hl => ?_)
              refine lv_iinc (v := nI (i + 1)) (lv' := [(3, .int (nI (i + 1))), (2, .int (nI (k + 1))), (5, .int (nI 1)), (4, .int (S.1 5 i)), (0, .ref (α 4)), (1, .ref (α 3))]) hx hb dX5_pairAsPlanned_93 hl (k := 5) rfl (nI_1 _) (by decide) rfl (fun ls hl => ?_)
              refine lv_goto (tgt := 4) hx hb dX5_pairAsPlanned_96 (by decide) ?_
              exact ih4 (i + 1) (k + 1) S4 _ _ _ (by omega) (by omega) (by rw [cPr]; simp only [if_pos c1, if_neg (not_not_intro c1), decide_eq_true c1, if_neg c2, if_pos c2, decide_eq_false c2, if_pos c3, if_neg (not_not_intro c3), decide_eq_true c3, if_neg c4, if_pos c4, decide_eq_false c4, if_true, if_false, eq_self, Bool.false_eq_true, not_true_eq_false, not_false_eq_true, decide_true, decide_false, Bool.and_true, Bool.true_and, Bool.and_false, Bool.false_and, Bool.not_true, Bool.not_false, Bool.or_true, Bool.true_or, Bool.or_false, Bool.false_or, reduceIte, b2i_t, b2i_f]; subst_vars; simp only [put2, cSt, if_pos c1, if_neg (not_not_intro c1), decide_eq_true c1, if_neg c2, if_pos c2, decide_eq_false c2, if_pos c3, if_neg (not_not_intro c3), decide_eq_true c3, if_neg c4, if_pos c4, decide_eq_false c4, if_true, if_false, eq_self, Bool.false_eq_true, not_true_eq_false, not_false_eq_true, decide_true, decide_false, Bool.and_true, Bool.true_and, Bool.and_false, Bool.false_and, Bool.not_true, Bool.not_false, Bool.or_true, Bool.true_or, Bool.or_false, Bool.false_or, reduceIte, b2i_t, b2i_f]; try rfl) (by rw [cPr]; simp only [if_pos c1, if_neg (not_not_intro c1), decide_eq_true c1, if_neg c2, if_pos c2, decide_eq_false c2, if_pos c3, if_neg (not_not_intro c3), decide_eq_true c3, if_neg c4, if_pos c4, decide_eq_false c4, if_true, if_false, eq_self, Bool.false_eq_true, not_true_eq_false, not_false_eq_true, decide_true, decide_false, Bool.and_true, Bool.true_and, Bool.and_false, Bool.false_and, Bool.not_true, Bool.not_false, Bool.or_true, Bool.true_or, Bool.or_false, Bool.false_or, reduceIte, b2i_t, b2i_f]; rw [hk]) hw (lv_sub hl [4, 5, 0, 1] rfl)
  exact lp4 _ 0 0 S _ _ _ (Nat.lt_succ_self _) (Nat.zero_le _) rfl rfl hw (lv_sub hl [2, 3, 0, 1] rfl)
