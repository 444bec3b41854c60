/-! the fewest payments -/
theorem bt_pow : ∀ c, c < 7 → nI 1 <<< (nI c &&& 31) = nI (2 ^ c) := by decide +kernel
theorem bt_le : ∀ s, s < 64 → ∀ j, j < 6 → ¬ nI s &&& nI (2 ^ j) = 0 → 2 ^ j ≤ s := by decide +kernel
theorem bt_p6 : ∀ j, j < 7 → 2 ^ j ≤ 64 := by decide
theorem bt_p1 : ∀ j, j < 7 → 1 ≤ 2 ^ j := by decide
theorem bt_inv : ∀ s, s < 64 → ∀ j, j < 6 → (nI s >>> (nI j &&& 31)) &&& nI 1 = nI 1 → nI s &&& (nI (2 ^ j) ^^^ (-1)) = nI (s - 2 ^ j) := by decide +kernel
theorem bt_or : ∀ w, w < 64 → ∀ j, j < 6 → okI (nI w ||| nI (2 ^ j)) 64 := by
  have h : ∀ w, w < 64 → ∀ j, j < 6 → (nI w ||| nI (2 ^ j) = nI (gN (nI w ||| nI (2 ^ j))) ∧ gN (nI w ||| nI (2 ^ j)) < 64) := by decide +kernel
  exact fun w hw j hj => h w hw j hj
/-- one set of companies, behind j of them -/
def cFi (T : Mem) (s : Nat) : Nat → Mem × Int32
  | 0 => (T, nI 0)
  | j + 1 => if nI s &&& nI (2 ^ j) = 0 then cFi T s j else (setJ (cFi T s j).1 8 s ((cFi T s j).1.2 8 (s - 2 ^ j) + (cFi T s j).1.2 7 j), mxI (cFi T s j).2 ((cFi T s j).1.1 9 (s - 2 ^ j)))
def cFo (S : Mem) (n : Nat) : Nat → Mem
  | 0 => setI (setJ S 8 0 0) 9 0 (nI 0)
  | k + 1 => setI (cFi (cFo S n k) (k + 1) n).1 9 (k + 1) (if (cFi (cFo S n k) (k + 1) n).1.2 8 (k + 1) = 0 then (cFi (cFo S n k) (k + 1) n).2 + nI 1 else (cFi (cFo S n k) (k + 1) n).2)

set_option maxRecDepth 100000 in
set_option maxHeartbeats 1000000 in
theorem ct_X6_fewestFor (l : Launch) (D : va_G) (cA : Nat → ClassId) (α : Nat → Nat) (n sz : Nat) (hn : 191 ≤ n) (S : Mem) (n9 : Nat) (h9 : n9 ≤ 6) : CtI l yX6_fewestFor wsX6_fewestFor ({ frames := 1, cells := 0, slots := 0, locals := 60 }) D cA α n sz [.ref (α 6), .int (nI n9)] S (nI n9 - (cFo S n9 (2 ^ n9 - 1)).1 9 (2 ^ n9 - 1)) (cFo S n9 (2 ^ n9 - 1)) := by
  refine ct_enter cX6_fewestFor 7 (some .int) (by decide) rfl (Nat.le_of_ble_eq_true rfl) ?_
  intro p e s m below meth c hx hb hr hml hlocks hown hts hK hsz hw ls hl
  have hown : s.vm.findClass RX6 = some m.cls := hown
  have hAw : ∀ z, Aw α n s.heap.size z → Aw α n sz z := by rw [hsz]; exact fun _ h => h
  have hl : lv_has ls 7 [(0, .ref (α 6)), (1, .int (nI n9))] := hl
  have hp6 := bt_p6 n9 (by omega)
  have hp1 := bt_p1 n9 (by omega)
  refine lv_iconst (v := nI 1) hx hb dX6_fewestFor_0 (by decide) ?_
  refine lv_iload_n hx hb dX6_fewestFor_1 rfl (lv_at hl 1 rfl) ?_
  refine lv_ishl hx hb dX6_fewestFor_2 ?_
  refine x_topN (k := 2 ^ n9) (bt_pow n9 (by omega)) ?_
  refine lv_istore_n (lv' := [(2, .int (nI (2 ^ n9))), (0, .ref (α 6)), (1, .int (nI n9))]) hx hb dX6_fewestFor_3 rfl hl (by decide) rfl (fun ls hl => ?_)
  refine lv_aload_n hx hb dX6_fewestFor_4 rfl (lv_at hl 1 rfl) ?_
  refine x_get (v := .ref (α 8)) (C := RX6) (T := TX6) (N := 3) hx hb hts (fun _ h => List.mem_cons_of_mem _ (List.mem_append_right _ h)) hown hK hw 6 (Nat.lt_of_lt_of_le (Nat.le_of_ble_eq_true rfl : 6 < 191) hn) (mk_6 cA α) rfl 1 (by decide) (hts _ (List.mem_of_getElem? (i := 1) rfl)) (fun _ h9 => h9) rfl dX6_fewestFor_5 ?_
  refine lv_iconst (v := nI 0) hx hb dX6_fewestFor_8 (by decide) ?_
  refine lv_lconst (v := 0) hx hb dX6_fewestFor_9 (by decide) ?_
  refine x_last (x := 0) hx hb hK hw 8 64 (Nat.lt_of_lt_of_le (Nat.le_of_ble_eq_true rfl : 8 < 191) hn) (mk_8 cA α) 0 rfl (by decide) (by decide) dX6_fewestFor_10 (fun S1 eS1 H locs hw => ?_)
  refine lv_aload_n hx hb dX6_fewestFor_11 rfl (lv_at hl 1 rfl) ?_
  refine x_get (v := .ref (α 9)) (C := RX6) (T := TX6) (N := 3) hx hb hts (fun _ h => List.mem_cons_of_mem _ (List.mem_append_right _ h)) hown hK hw 6 (Nat.lt_of_lt_of_le (Nat.le_of_ble_eq_true rfl : 6 < 191) hn) (mk_6 cA α) rfl 2 (by decide) (hts _ (List.mem_of_getElem? (i := 2) rfl)) (fun _ h9 => h9) rfl dX6_fewestFor_12 ?_
  refine lv_iconst (v := nI 0) hx hb dX6_fewestFor_15 (by decide) ?_
  refine lv_iconst (v := nI 0) hx hb dX6_fewestFor_16 (by decide) ?_
  refine x_iast (x := nI 0) hx hb hK hw 9 64 (Nat.lt_of_lt_of_le (Nat.le_of_ble_eq_true rfl : 9 < 191) hn) (mk_9 cA α) 0 rfl (by decide) (by decide) dX6_fewestFor_17 (fun S2 eS2 H locs hw => ?_)
  refine lv_iconst (v := nI 1) hx hb dX6_fewestFor_18 (by decide) ?_
  refine lv_istore_n (lv' := [(3, .int (nI 1)), (2, .int (nI (2 ^ n9))), (0, .ref (α 6)), (1, .int (nI n9))]) hx hb dX6_fewestFor_19 rfl hl (by decide) rfl (fun ls hl => ?_)
  have lp20 : ∀ (t : Nat) (s9 : Nat) (T : Mem) (H : Heap) (locs : List Loc) (ls : Array Slot), 2 ^ n9 - s9 < t → 1 ≤ s9 → s9 ≤ 2 ^ n9 → T = cFo S n9 (s9 - 1) → Ws D cA α n (Aw α n sz) s.heap T H locs → lv_has ls 7 [(0, .ref (α 6)), (1, .int (nI n9)), (2, .int (nI (2 ^ n9))), (3, .int (nI s9))] → W p l e ({ frames := 1, cells := 0, slots := 0, locals := 60 } : Room) s m (List.toArray ([.ref (α 6), .int (nI n9)] : List Value)) below meth c H locs 0 0 (MQ below (va_Qi (fun r u => r = (nI n9 - (cFo S n9 (2 ^ n9 - 1)).1 9 (2 ^ n9 - 1)) ∧ u = (cFo S n9 (2 ^ n9 - 1))) (Pw D cA α n) (Aw α n sz)) (List.toArray ([.ref (α 6), .int (nI n9)] : List Value)) s 0 0 (Aw α n sz)) (F0 m 20 ls []) := by
    intro t
    induction t with
    | zero => intro s9 T H locs ls ht; exact absurd ht (Nat.not_lt_zero _)
    | succ t ih20 =>
      intro s9 T H locs ls ht hs1 hs2 hT hw hl
      refine lv_iload_n hx hb dX6_fewestFor_20 rfl (lv_at hl 3 rfl) ?_
      refine lv_iload_n hx hb dX6_fewestFor_21 rfl (lv_at hl 2 rfl) ?_
      refine xn_icmp_ge (tgt := 127) hx hb (by omega) (by omega) dX6_fewestFor_22 (by decide) (fun c1 => ?_) (fun c1 => ?_)
      · skip
        refine lv_iload_n hx hb dX6_fewestFor_127 rfl (lv_at hl 1 rfl) ?_
        refine lv_aload_n hx hb dX6_fewestFor_128 rfl (lv_at hl 0 rfl) ?_
        refine x_get (v := .ref (α 9)) (C := RX6) (T := TX6) (N := 3) hx hb hts (fun _ h => List.mem_cons_of_mem _ (List.mem_append_right _ h)) hown hK hw 6 (Nat.lt_of_lt_of_le (Nat.le_of_ble_eq_true rfl : 6 < 191) hn) (mk_6 cA α) rfl 2 (by decide) (hts _ (List.mem_of_getElem? (i := 2) rfl)) (fun _ h9 => h9) rfl dX6_fewestFor_129 ?_
        refine lv_iload_n hx hb dX6_fewestFor_132 rfl (lv_at hl 2 rfl) ?_
        refine lv_iconst (v := nI 1) hx hb dX6_fewestFor_133 (by decide) ?_
        refine xn_isub hx hb hp1 dX6_fewestFor_134 ?_
        refine x_iald hx hb hK hw 9 64 (Nat.lt_of_lt_of_le (Nat.le_of_ble_eq_true rfl : 9 < 191) hn) (mk_9 cA α) ((2 ^ n9) - 1) rfl (by omega) (by decide) dX6_fewestFor_135 ?_
        refine lv_isub hx hb dX6_fewestFor_136 ?_
        exact ret_i hx hb hr hlocks hK hw dX6_fewestFor_137 (by rw [hT, show s9 = 2 ^ n9 by omega]) (by rw [hT, show s9 = 2 ^ n9 by omega])
      · skip
        refine lv_iconst (v := nI 0) hx hb dX6_fewestFor_25 (by decide) ?_
        refine lv_istore (lv' := [(4, .int (nI 0)), (0, .ref (α 6)), (1, .int (nI n9)), (2, .int (nI (2 ^ n9))), (3, .int (nI s9))]) hx hb dX6_fewestFor_26 hl (by decide) rfl (fun ls hl => ?_)
        refine lv_iconst (v := nI 0) hx hb dX6_fewestFor_28 (by decide) ?_
        refine lv_istore (lv' := [(5, .int (nI 0)), (4, .int (nI 0)), (0, .ref (α 6)), (1, .int (nI n9)), (2, .int (nI (2 ^ n9))), (3, .int (nI s9))]) hx hb dX6_fewestFor_29 hl (by decide) rfl (fun ls hl => ?_)
        have lp31 : ∀ (t : Nat) (j : Nat) (m9 : Int32) (T2 : Mem) (H : Heap) (locs : List Loc) (ls : Array Slot), n9 - j < t → j ≤ n9 → T2 = (cFi T s9 j).1 → m9 = (cFi T s9 j).2 → Ws D cA α n (Aw α n sz) s.heap T2 H locs → lv_has ls 7 [(0, .ref (α 6)), (1, .int (nI n9)), (2, .int (nI (2 ^ n9))), (3, .int (nI s9)), (5, .int (nI j)), (4, .int m9)] → W p l e ({ frames := 1, cells := 0, slots := 0, locals := 60 } : Room) s m (List.toArray ([.ref (α 6), .int (nI n9)] : List Value)) below meth c H locs 0 0 (MQ below (va_Qi (fun r u => r = (nI n9 - (cFo S n9 (2 ^ n9 - 1)).1 9 (2 ^ n9 - 1)) ∧ u = (cFo S n9 (2 ^ n9 - 1))) (Pw D cA α n) (Aw α n sz)) (List.toArray ([.ref (α 6), .int (nI n9)] : List Value)) s 0 0 (Aw α n sz)) (F0 m 31 ls []) := by
          intro t
          induction t with
          | zero => intro j m9 T2 H locs ls ht; exact absurd ht (Nat.not_lt_zero _)
          | succ t ih31 =>
            intro j m9 T2 H locs ls ht hj hT2 hm2 hw hl
            refine lv_iload hx hb dX6_fewestFor_31 (lv_at hl 4 rfl) ?_
            refine lv_iload_n hx hb dX6_fewestFor_33 rfl (lv_at hl 1 rfl) ?_
            refine xn_icmp_ge (tgt := 95) hx hb (by omega) (by omega) dX6_fewestFor_34 (by decide) (fun c2 => ?_) (fun c2 => ?_)
            · skip
              refine lv_aload_n hx hb dX6_fewestFor_95 rfl (lv_at hl 0 rfl) ?_
              refine x_get (v := .ref (α 9)) (C := RX6) (T := TX6) (N := 3) hx hb hts (fun _ h => List.mem_cons_of_mem _ (List.mem_append_right _ h)) hown hK hw 6 (Nat.lt_of_lt_of_le (Nat.le_of_ble_eq_true rfl : 6 < 191) hn) (mk_6 cA α) rfl 2 (by decide) (hts _ (List.mem_of_getElem? (i := 2) rfl)) (fun _ h9 => h9) rfl dX6_fewestFor_96 ?_
              refine lv_iload_n hx hb dX6_fewestFor_99 rfl (lv_at hl 3 rfl) ?_
              refine lv_aload_n hx hb dX6_fewestFor_100 rfl (lv_at hl 0 rfl) ?_
              refine x_get (v := .ref (α 8)) (C := RX6) (T := TX6) (N := 3) hx hb hts (fun _ h => List.mem_cons_of_mem _ (List.mem_append_right _ h)) hown hK hw 6 (Nat.lt_of_lt_of_le (Nat.le_of_ble_eq_true rfl : 6 < 191) hn) (mk_6 cA α) rfl 1 (by decide) (hts _ (List.mem_of_getElem? (i := 1) rfl)) (fun _ h9 => h9) rfl dX6_fewestFor_101 ?_
              refine lv_iload_n hx hb dX6_fewestFor_104 rfl (lv_at hl 3 rfl) ?_
              refine x_lald hx hb hK hw 8 64 (Nat.lt_of_lt_of_le (Nat.le_of_ble_eq_true rfl : 8 < 191) hn) (mk_8 cA α) s9 rfl (by omega) (by decide) dX6_fewestFor_105 ?_
              refine lv_lconst (v := 0) hx hb dX6_fewestFor_106 (by decide) ?_
              refine x_lcmp_ne (tgt := 118) hx hb dX6_fewestFor_107 dX6_fewestFor_108 (by decide) (fun c3 => ?_) (fun c3 => ?_)
              · skip
                refine lv_iload hx hb dX6_fewestFor_118 (lv_at hl 5 rfl) ?_
                refine x_iast (x := m9) hx hb hK hw 9 64 (Nat.lt_of_lt_of_le (Nat.le_of_ble_eq_true rfl : 9 < 191) hn) (mk_9 cA α) s9 rfl (by omega) (by decide) dX6_fewestFor_120 (fun S3 eS3 H locs hw => ?_)
                refine lv_iinc (v := nI (s9 + 1)) (lv' := [(3, .int (nI (s9 + 1))), (0, .ref (α 6)), (1, .int (nI n9)), (2, .int (nI (2 ^ n9))), (5, .int (nI j)), (4, .int m9)]) hx hb dX6_fewestFor_121 hl (k := 3) rfl (nI_1 _) (by decide) rfl (fun ls hl => ?_)
                refine lv_goto (tgt := 20) hx hb dX6_fewestFor_124 (by decide) ?_
                exact ih20 (s9 + 1) S3 _ _ _ (by omega) (by omega) (by omega) (by rw [show s9 + 1 - 1 = (s9 - 1) + 1 by omega, cFo, show s9 - 1 + 1 = s9 by omega, ← hT]; subst eS3; simp only [hT2, hm2, show j = n9 by omega] at *; simp only [if_pos c1, if_neg (not_not_intro c1), decide_eq_true c1, if_pos c2, if_neg (not_not_intro c2), decide_eq_true c2, if_neg c3, if_pos c3, decide_eq_false c3, if_true, if_false, eq_self, Bool.false_eq_true, not_true_eq_false, not_false_eq_true, decide_true, decide_false, Bool.and_true, Bool.true_and, Bool.and_false, Bool.false_and, Bool.not_true, Bool.not_false, Bool.or_true, Bool.true_or, Bool.or_false, Bool.false_or, reduceIte, b2i_t, b2i_f]) hw (lv_sub hl [1, 2, 3, 0] rfl)
              · skip
                refine lv_iload hx hb dX6_fewestFor_111 (lv_at hl 5 rfl) ?_
                refine lv_iconst (v := nI 1) hx hb dX6_fewestFor_113 (by decide) ?_
                refine lv_iadd hx hb dX6_fewestFor_114 ?_
                refine lv_goto (tgt := 120) hx hb dX6_fewestFor_115 (by decide) ?_
                refine x_iast (x := m9 + (nI 1)) hx hb hK hw 9 64 (Nat.lt_of_lt_of_le (Nat.le_of_ble_eq_true rfl : 9 < 191) hn) (mk_9 cA α) s9 rfl (by omega) (by decide) dX6_fewestFor_120 (fun S4 eS4 H locs hw => ?_)
                refine lv_iinc (v := nI (s9 + 1)) (lv' := [(3, .int (nI (s9 + 1))), (0, .ref (α 6)), (1, .int (nI n9)), (2, .int (nI (2 ^ n9))), (5, .int (nI j)), (4, .int m9)]) hx hb dX6_fewestFor_121 hl (k := 3) rfl (nI_1 _) (by decide) rfl (fun ls hl => ?_)
                refine lv_goto (tgt := 20) hx hb dX6_fewestFor_124 (by decide) ?_
                exact ih20 (s9 + 1) S4 _ _ _ (by omega) (by omega) (by omega) (by rw [show s9 + 1 - 1 = (s9 - 1) + 1 by omega, cFo, show s9 - 1 + 1 = s9 by omega, ← hT]; subst eS4; simp only [hT2, hm2, show j = n9 by omega] at *; simp only [if_pos c1, if_neg (not_not_intro c1), decide_eq_true c1, if_pos c2, if_neg (not_not_intro c2), decide_eq_true c2, if_pos c3, if_neg (not_not_intro c3), decide_eq_true c3, if_true, if_false, eq_self, Bool.false_eq_true, not_true_eq_false, not_false_eq_true, decide_true, decide_false, Bool.and_true, Bool.true_and, Bool.and_false, Bool.false_and, Bool.not_true, Bool.not_false, Bool.or_true, Bool.true_or, Bool.or_false, Bool.false_or, reduceIte, b2i_t, b2i_f]) hw (lv_sub hl [1, 2, 3, 0] rfl)
            · skip
              refine lv_iconst (v := nI 1) hx hb dX6_fewestFor_37 (by decide) ?_
              refine lv_iload hx hb dX6_fewestFor_38 (lv_at hl 4 rfl) ?_
              refine lv_ishl hx hb dX6_fewestFor_40 ?_
              refine x_topN (k := 2 ^ j) (bt_pow j (by omega)) ?_
              refine lv_istore (lv' := [(6, .int (nI (2 ^ j))), (0, .ref (α 6)), (1, .int (nI n9)), (2, .int (nI (2 ^ n9))), (3, .int (nI s9)), (5, .int (nI j)), (4, .int m9)]) hx hb dX6_fewestFor_41 hl (by decide) rfl (fun ls hl => ?_)
              refine lv_iload_n hx hb dX6_fewestFor_43 rfl (lv_at hl 4 rfl) ?_
              refine lv_iload hx hb dX6_fewestFor_44 (lv_at hl 0 rfl) ?_
              refine lv_iand hx hb dX6_fewestFor_46 ?_
              refine lv_if_eq (tgt := 89) hx hb dX6_fewestFor_47 (by decide) (fun c4 => ?_) (fun c4 => ?_)
              · skip
                refine lv_iinc (v := nI (j + 1)) (lv' := [(5, .int (nI (j + 1))), (6, .int (nI (2 ^ j))), (0, .ref (α 6)), (1, .int (nI n9)), (2, .int (nI (2 ^ n9))), (3, .int (nI s9)), (4, .int m9)]) hx hb dX6_fewestFor_89 hl (k := 5) rfl (nI_1 _) (by decide) rfl (fun ls hl => ?_)
                refine lv_goto (tgt := 31) hx hb dX6_fewestFor_92 (by decide) ?_
                exact ih31 (j + 1) m9 T2 _ _ _ (by omega) (by omega) (by skip; rw [cFi]; simp only [if_pos c1, if_neg (not_not_intro c1), decide_eq_true c1, if_pos c2, if_neg (not_not_intro c2), decide_eq_true c2, if_pos c4, if_neg (not_not_intro c4), decide_eq_true c4, reduceIte, ← hT2, ← hm2]) (by skip; rw [cFi]; simp only [if_pos c1, if_neg (not_not_intro c1), decide_eq_true c1, if_pos c2, if_neg (not_not_intro c2), decide_eq_true c2, if_pos c4, if_neg (not_not_intro c4), decide_eq_true c4, reduceIte, ← hT2, ← hm2, sJ_1]) hw (lv_sub hl [2, 3, 4, 5, 0, 6] rfl)
              · skip
                have hle := bt_le s9 (by omega) j (by omega) c4
                have hs64 : s9 < 64 := Nat.lt_of_lt_of_le c1 hp6
                refine lv_aload_n hx hb dX6_fewestFor_50 rfl (lv_at hl 1 rfl) ?_
                refine x_get (v := .ref (α 8)) (C := RX6) (T := TX6) (N := 3) hx hb hts (fun _ h => List.mem_cons_of_mem _ (List.mem_append_right _ h)) hown hK hw 6 (Nat.lt_of_lt_of_le (Nat.le_of_ble_eq_true rfl : 6 < 191) hn) (mk_6 cA α) rfl 1 (by decide) (hts _ (List.mem_of_getElem? (i := 1) rfl)) (fun _ h9 => h9) rfl dX6_fewestFor_51 ?_
                refine lv_iload_n hx hb dX6_fewestFor_54 rfl (lv_at hl 4 rfl) ?_
                refine lv_aload_n hx hb dX6_fewestFor_55 rfl (lv_at hl 1 rfl) ?_
                refine x_get (v := .ref (α 8)) (C := RX6) (T := TX6) (N := 3) hx hb hts (fun _ h => List.mem_cons_of_mem _ (List.mem_append_right _ h)) hown hK hw 6 (Nat.lt_of_lt_of_le (Nat.le_of_ble_eq_true rfl : 6 < 191) hn) (mk_6 cA α) rfl 1 (by decide) (hts _ (List.mem_of_getElem? (i := 1) rfl)) (fun _ h9 => h9) rfl dX6_fewestFor_56 ?_
                refine lv_iload_n hx hb dX6_fewestFor_59 rfl (lv_at hl 4 rfl) ?_
                refine lv_iload hx hb dX6_fewestFor_60 (lv_at hl 0 rfl) ?_
                refine xn_isub hx hb hle dX6_fewestFor_62 ?_
                refine x_lald hx hb hK hw 8 64 (Nat.lt_of_lt_of_le (Nat.le_of_ble_eq_true rfl : 8 < 191) hn) (mk_8 cA α) (s9 - (2 ^ j)) rfl (Nat.lt_of_le_of_lt (Nat.sub_le _ _) hs64) (by decide) dX6_fewestFor_63 ?_
                refine lv_aload_n hx hb dX6_fewestFor_64 rfl (lv_at hl 1 rfl) ?_
                refine x_get (v := .ref (α 7)) (C := RX6) (T := TX6) (N := 3) hx hb hts (fun _ h => List.mem_cons_of_mem _ (List.mem_append_right _ h)) hown hK hw 6 (Nat.lt_of_lt_of_le (Nat.le_of_ble_eq_true rfl : 6 < 191) hn) (mk_6 cA α) rfl 0 (by decide) (hts _ (List.mem_of_getElem? (i := 3) rfl)) (fun _ h9 => h9) rfl dX6_fewestFor_65 ?_
                refine lv_iload hx hb dX6_fewestFor_68 (lv_at hl 5 rfl) ?_
                refine x_lald hx hb hK hw 7 6 (Nat.lt_of_lt_of_le (Nat.le_of_ble_eq_true rfl : 7 < 191) hn) (mk_7 cA α) j rfl (by omega) (by decide) dX6_fewestFor_70 ?_
                refine lv_ladd hx hb dX6_fewestFor_71 ?_
                refine x_last (x := (T2.2 8 (s9 - (2 ^ j))) + (T2.2 7 j)) hx hb hK hw 8 64 (Nat.lt_of_lt_of_le (Nat.le_of_ble_eq_true rfl : 8 < 191) hn) (mk_8 cA α) s9 rfl (by omega) (by decide) dX6_fewestFor_72 (fun S5 eS5 H locs hw => ?_)
                refine lv_iload hx hb dX6_fewestFor_73 (lv_at hl 6 rfl) ?_
                refine lv_aload_n hx hb dX6_fewestFor_75 rfl (lv_at hl 1 rfl) ?_
                refine x_get (v := .ref (α 9)) (C := RX6) (T := TX6) (N := 3) hx hb hts (fun _ h => List.mem_cons_of_mem _ (List.mem_append_right _ h)) hown hK hw 6 (Nat.lt_of_lt_of_le (Nat.le_of_ble_eq_true rfl : 6 < 191) hn) (mk_6 cA α) rfl 2 (by decide) (hts _ (List.mem_of_getElem? (i := 2) rfl)) (fun _ h9 => h9) rfl dX6_fewestFor_76 ?_
                refine lv_iload_n hx hb dX6_fewestFor_79 rfl (lv_at hl 4 rfl) ?_
                refine lv_iload hx hb dX6_fewestFor_80 (lv_at hl 0 rfl) ?_
                refine xn_isub hx hb hle dX6_fewestFor_82 ?_
                refine x_iald hx hb hK hw 9 64 (Nat.lt_of_lt_of_le (Nat.le_of_ble_eq_true rfl : 9 < 191) hn) (mk_9 cA α) (s9 - (2 ^ j)) rfl (Nat.lt_of_le_of_lt (Nat.sub_le _ _) hs64) (by decide) dX6_fewestFor_83 ?_
                refine va_mmax hx hb (hml.trans hl.1.symm) hown (hts _ (List.mem_of_getElem? (i := 4) rfl)) (hts _ (List.mem_of_getElem? (i := 5) rfl)) (hts _ (List.mem_of_getElem? (i := 6) rfl)) (hts _ (List.mem_of_getElem? (i := 7) rfl)) (by decide) (Nat.le_of_ble_eq_true rfl) (Nat.zero_le _) (Nat.zero_le _) dX6_fewestFor_84 ?_
                refine lv_istore (lv' := [(4, .int (mxI m9 (S5.1 9 (s9 - (2 ^ j))))), (6, .int (nI (2 ^ j))), (0, .ref (α 6)), (1, .int (nI n9)), (2, .int (nI (2 ^ n9))), (3, .int (nI s9)), (5, .int (nI j))]) hx hb dX6_fewestFor_87 hl (by decide) rfl (fun ls hl => ?_)
                refine lv_iinc (v := nI (j + 1)) (lv' := [(5, .int (nI (j + 1))), (4, .int (mxI m9 (S5.1 9 (s9 - (2 ^ j))))), (6, .int (nI (2 ^ j))), (0, .ref (α 6)), (1, .int (nI n9)), (2, .int (nI (2 ^ n9))), (3, .int (nI s9))]) hx hb dX6_fewestFor_89 hl (k := 6) rfl (nI_1 _) (by decide) rfl (fun ls hl => ?_)
                refine lv_goto (tgt := 31) hx hb dX6_fewestFor_92 (by decide) ?_
                exact ih31 (j + 1) (mxI m9 (S5.1 9 (s9 - (2 ^ j)))) S5 _ _ _ (by omega) (by omega) (by subst eS5; rw [cFi]; simp only [if_pos c1, if_neg (not_not_intro c1), decide_eq_true c1, if_pos c2, if_neg (not_not_intro c2), decide_eq_true c2, if_neg c4, if_pos c4, decide_eq_false c4, reduceIte, ← hT2, ← hm2]) (by subst eS5; rw [cFi]; simp only [if_pos c1, if_neg (not_not_intro c1), decide_eq_true c1, if_pos c2, if_neg (not_not_intro c2), decide_eq_true c2, if_neg c4, if_pos c4, decide_eq_false c4, reduceIte, ← hT2, ← hm2, sJ_1]) hw (lv_sub hl [3, 4, 5, 6, 0, 1] rfl)
        exact lp31 _ 0 (nI 0) T _ _ _ (Nat.lt_succ_self _) (Nat.zero_le _) rfl rfl hw (lv_sub hl [2, 3, 4, 5, 0, 1] rfl)
  exact lp20 _ 1 S2 _ _ _ (Nat.lt_succ_self _) (Nat.le_refl _) hp1 (by subst eS2; subst eS1; rfl) hw (lv_sub hl [2, 3, 1, 0] rfl)

set_option maxRecDepth 100000 in
set_option maxHeartbeats 1000000 in
theorem ct_X10_fewestPayments (l : Launch) (D : va_G) (cA : Nat → ClassId) (α : Nat → Nat) (n sz : Nat) (hn : 191 ≤ n) (S : Mem) (Cn : Nat) (hC : S.1 23 1 = nI Cn) (hC2 : Cn ≤ 6) (N : Nat) (hN : S.1 74 0 = nI N) (hN2 : N ≤ 100) (ho : ∀ j, j < N → okC S j) (hpa : ∀ j, j < N → okI (S.1 46 j) 6) : CtI l yX10_fewestPayments wsX10_fewestPayments ({ frames := 3, cells := 0, slots := 0, locals := 86 }) D cA α n sz [.ref (α 0)] S (nI Cn - (cFo (cNt0 S N) Cn (2 ^ Cn - 1)).1 9 (2 ^ Cn - 1)) (cFo (cNt0 S N) Cn (2 ^ Cn - 1)) := by
  refine ct_enter cX10_fewestPayments 1 (some .int) (by decide) rfl (Nat.le_of_ble_eq_true rfl) ?_
  intro p e s m below meth c hx hb hr hml hlocks hown hts hK hsz hw ls hl
  have hown : s.vm.findClass RX10 = some m.cls := hown
  have hAw : ∀ z, Aw α n s.heap.size z → Aw α n sz z := by rw [hsz]; exact fun _ h => h
  have hl : lv_has ls 1 [(0, .ref (α 0))] := hl
  refine lv_aload_n hx hb dX10_fewestPayments_0 rfl (lv_at hl 0 rfl) ?_
  refine x_get (v := .ref (α 6)) (C := RX10) (T := TX10) (N := 7) hx hb hts (fun _ h => List.mem_cons_of_mem _ (List.mem_append_left _ (List.mem_append_left _ (List.mem_append_left _ (List.mem_append_left _ (List.mem_append_left _ (List.mem_append_right _ h))))))) hown hK hw 0 (Nat.lt_of_lt_of_le (Nat.le_of_ble_eq_true rfl : 0 < 191) hn) (mk_0 cA α) rfl 3 (by decide) (hts _ (List.mem_of_getElem? (i := 1) rfl)) (fun _ h9 => h9) rfl dX10_fewestPayments_1 ?_
  refine lv_aload_n hx hb dX10_fewestPayments_4 rfl (lv_at hl 0 rfl) ?_
  refine x_get (v := .ref (α 3)) (C := RX10) (T := TX10) (N := 7) hx hb hts (fun _ h => List.mem_cons_of_mem _ (List.mem_append_left _ (List.mem_append_left _ (List.mem_append_left _ (List.mem_append_left _ (List.mem_append_left _ (List.mem_append_right _ h))))))) hown hK hw 0 (Nat.lt_of_lt_of_le (Nat.le_of_ble_eq_true rfl : 0 < 191) hn) (mk_0 cA α) rfl 1 (by decide) (hts _ (List.mem_of_getElem? (i := 2) rfl)) (fun _ h9 => h9) rfl dX10_fewestPayments_5 ?_
  refine x_callVV (q := 6) (C := RX6) (As := [.ref (α 3)]) (rest := []) ⟨hx, hb, hml, hown, hts⟩ (ct_X6_findPositions l D cA α n _ hn S N hN hN2 ho hpa) (cwV 1 hts gX10_fewestPayments_X6_findPositions rfl rfl rfl (by decide +kernel) ⟨Nat.le_of_ble_eq_true rfl, Nat.le_of_ble_eq_true rfl⟩) hK hw hAw (ws_recv hK hw (q := 6) (Nat.lt_of_lt_of_le (Nat.le_of_ble_eq_true rfl : 6 < 191) hn) (mk_6 cA α) rfl) rfl hl.1 rfl (Nat.le_of_ble_eq_true rfl) dX10_fewestPayments_8 ⟨Nat.zero_le _, Nat.zero_le _⟩ (fun S1 eS1 H locs hw => ?_)
  refine lv_aload_n hx hb dX10_fewestPayments_11 rfl (lv_at hl 0 rfl) ?_
  refine x_get (v := .ref (α 6)) (C := RX10) (T := TX10) (N := 7) hx hb hts (fun _ h => List.mem_cons_of_mem _ (List.mem_append_left _ (List.mem_append_left _ (List.mem_append_left _ (List.mem_append_left _ (List.mem_append_left _ (List.mem_append_right _ h))))))) hown hK hw 0 (Nat.lt_of_lt_of_le (Nat.le_of_ble_eq_true rfl : 0 < 191) hn) (mk_0 cA α) rfl 3 (by decide) (hts _ (List.mem_of_getElem? (i := 1) rfl)) (fun _ h9 => h9) rfl dX10_fewestPayments_12 ?_
  refine lv_aload_n hx hb dX10_fewestPayments_15 rfl (lv_at hl 0 rfl) ?_
  refine x_get (v := .ref (α 3)) (C := RX10) (T := TX10) (N := 7) hx hb hts (fun _ h => List.mem_cons_of_mem _ (List.mem_append_left _ (List.mem_append_left _ (List.mem_append_left _ (List.mem_append_left _ (List.mem_append_left _ (List.mem_append_right _ h))))))) hown hK hw 0 (Nat.lt_of_lt_of_le (Nat.le_of_ble_eq_true rfl : 0 < 191) hn) (mk_0 cA α) rfl 1 (by decide) (hts _ (List.mem_of_getElem? (i := 2) rfl)) (fun _ h9 => h9) rfl dX10_fewestPayments_16 ?_
  refine x_get (v := .ref (α 23)) (C := RX0) (T := TX0) (N := 3) hx hb hts (fun _ h => List.mem_cons_of_mem _ (List.mem_append_left _ (List.mem_append_left _ (List.mem_append_left _ (List.mem_append_left _ (List.mem_append_right _ h)))))) hown hK hw 3 (Nat.lt_of_lt_of_le (Nat.le_of_ble_eq_true rfl : 3 < 191) hn) (mk_3 cA α) rfl 0 (by decide) (hts _ (List.mem_of_getElem? (i := 3) rfl)) (fun _ h9 => h9) rfl dX10_fewestPayments_19 ?_
  refine x_get (v := .int (S1.1 23 1)) (C := RX2) (T := TX2) (N := 12) hx hb hts (fun _ h => List.mem_cons_of_mem _ (List.mem_append_left _ (List.mem_append_left _ (List.mem_append_left _ (List.mem_append_right _ h))))) hown hK hw 23 (Nat.lt_of_lt_of_le (Nat.le_of_ble_eq_true rfl : 23 < 191) hn) (mk_23 cA α) rfl 1 (by decide) (hts _ (List.mem_of_getElem? (i := 4) rfl)) (fun _ h9 => h9) rfl dX10_fewestPayments_22 ?_
  refine x_topN (k := Cn) (by subst eS1; exact hC) ?_
  refine x_callVI (q := 6) (C := RX6) (As := [.int (nI Cn)]) (rest := []) ⟨hx, hb, hml, hown, hts⟩ (ct_X6_fewestFor l D cA α n _ hn S1 Cn hC2) (cwV 1 hts gX10_fewestPayments_X6_fewestFor rfl rfl rfl (by decide +kernel) ⟨Nat.le_of_ble_eq_true rfl, Nat.le_of_ble_eq_true rfl⟩) hK hw hAw (ws_recv hK hw (q := 6) (Nat.lt_of_lt_of_le (Nat.le_of_ble_eq_true rfl : 6 < 191) hn) (mk_6 cA α) rfl) rfl hl.1 rfl (Nat.le_of_ble_eq_true rfl) dX10_fewestPayments_25 ⟨Nat.zero_le _, Nat.zero_le _⟩ (fun S2 eS2 H locs hw => ?_)
  exact ret_i hx hb hr hlocks hK hw dX10_fewestPayments_28 (by subst eS2; subst eS1; rfl) (by subst eS2; subst eS1; rfl)
