/-! the reader of the class: statements -/
/-- the reader's places: start ≤ next ≤ end ≤ 600 -/
def okP (S : Mem) : Prop := S.1 1 3 = nI (gN (S.1 1 3)) ∧ gN (S.1 1 3) ≤ 600 ∧ S.1 1 6 = nI (gN (S.1 1 6)) ∧ gN (S.1 1 6) ≤ gN (S.1 1 3) ∧ S.1 1 5 = nI (gN (S.1 1 5)) ∧ gN (S.1 1 5) ≤ gN (S.1 1 6)
def tk (S : Mem) : Mem := tkC S (gN (S.1 1 3)) (gN (S.1 1 6))
def cRef (S : Mem) (x : Int32) : Mem := setI S 1 7 ((-2) - (nI 8 * S.1 1 5 + x))
def wEq (f : Nat → Int32) (s i : Nat) : Nat → Bool
  | 0 => true
  | k + 1 => wEq f s i k && decide (f (s + k) = (wb i).getD k 0)
theorem wEq_f {f : Nat → Int32} {s i k : Nat} (h : ¬ f (s + k) = (wb i).getD k 0) : ∀ n, k < n → wEq f s i n = false
  | 0, h2 => by omega
  | n + 1, h2 => by
    rw [wEq]
    by_cases e : k = n
    · subst e; rw [decide_eq_false h, Bool.and_false]
    · rw [wEq_f h n (by omega), Bool.false_and]
def cWd (S : Mem) (i : Nat) : Bool := decide (S.1 1 4 = nI 1) && decide (gN (S.1 1 6) - gN (S.1 1 5) = wl i) && wEq (S.1 2) (gN (S.1 1 5)) i (wl i)
theorem tS_le {f : Nat → Int32} {n p : Nat} (h : p ≤ n) : p ≤ tS f n p ∧ tS f n p ≤ n := far_le _ p rfl h
theorem tE_le {f : Nat → Int32} {n p : Nat} (h : p ≤ n) : tS f n p ≤ tE f n p ∧ tE f n p ≤ n := by
  have h1 := (tS_le (f := f) h)
  unfold tE
  split
  · omega
  · rename_i h2
    split
    · have := far_le (q := inR (nI 97) (nI 122)) (f := f) (n := n) _ (tS f n p + 1) rfl (by omega); omega
    · split
      · have := far_le (q := inR (nI 48) (nI 57)) (f := f) (n := n) _ (tS f n p + 1) rfl (by omega); omega
      · omega
theorem tk_f (S : Mem) : (tk S).1 1 = tkF (S.1 1) (nI (tS (S.1 2) (gN (S.1 1 3)) (gN (S.1 1 6)))) (nI (tE (S.1 2) (gN (S.1 1 3)) (gN (S.1 1 6)))) (nI (tK (S.1 2) (gN (S.1 1 3)) (gN (S.1 1 6)))) := by
  unfold tk tkC; rw [sR_e]
theorem tk_k (S : Mem) {z : Nat} (h : z ≠ 1) : (tk S).1 z = S.1 z := by unfold tk tkC; exact sR_1 h
theorem tk_2 (S : Mem) : (tk S).2 = S.2 := rfl
theorem cRef_k (S : Mem) (x : Int32) {z : Nat} (h : z ≠ 1) : (cRef S x).1 z = S.1 z := by unfold cRef; exact sI_1 h
theorem cRef_o (S : Mem) (x : Int32) {j : Nat} (h : j ≠ 7) : (cRef S x).1 1 j = S.1 1 j := by unfold cRef; rw [sI_e, pk_un h]
theorem okP_tk {S : Mem} (h : okP S) : okP (tk S) := by
  obtain ⟨h1, h2, h3, h4, h5, h6⟩ := h
  have hs := tS_le (f := S.1 2) h4
  have he := tE_le (f := S.1 2) h4
  unfold okP
  rw [tk_f]
  simp only [tkF]
  simp only [reduceIte, Nat.reduceEqDiff, if_true, if_false]
  refine ⟨h1, h2, ?_, ?_, ?_, ?_⟩
  · rw [gN_nI (by omega)]
  · rw [gN_nI (by omega)]; omega
  · rw [gN_nI (by omega)]
  · rw [gN_nI (by omega), gN_nI (by omega)]; omega
theorem okP_of {S T : Mem} (h : okP S) (h3 : T.1 1 3 = S.1 1 3) (h5 : T.1 1 5 = S.1 1 5) (h6 : T.1 1 6 = S.1 1 6) : okP T := by
  unfold okP; rw [h3, h5, h6]; exact h
theorem okP_ref {S : Mem} (h : okP S) (x : Int32) : okP (cRef S x) := okP_of h (cRef_o S x (by decide)) (cRef_o S x (by decide)) (cRef_o S x (by decide))
def c10 (f : Nat → Int32) (s : Nat) : Nat → Int32
  | 0 => nI 0
  | k + 1 => c10 f s k * nI 10 + (f (s + k) - nI 48)
def cVl (S : Mem) : Int32 := c10 (S.1 2) (gN (S.1 1 5)) (gN (S.1 1 6) - gN (S.1 1 5))
def cNum (S : Mem) (lo hi : Int32) : Mem × Int32 := if S.1 1 7 = 0 then (if S.1 1 4 = nI 2 then (if cVl S < lo then (cRef S (nI 3), nI 0) else if cVl S ≤ hi then (tk S, cVl S) else (cRef S (nI 3), nI 0)) else (cRef S (nI 1), nI 0)) else (S, nI 0)
def cSc (S : Mem) : Mem := if S.1 1 7 = 0 then (if S.1 1 4 = nI 3 then tk S else cRef S (nI 1)) else S
theorem cNum_e {S : Mem} {lo hi : Int32} (h : ¬ S.1 1 7 = 0) : cNum S lo hi = (S, nI 0) := by unfold cNum; rw [if_neg h]
theorem cNum_k (S : Mem) (lo hi : Int32) {z : Nat} (h : z ≠ 1) : (cNum S lo hi).1.1 z = S.1 z := by
  unfold cNum; repeat' split
  all_goals first | rfl | exact tk_k S h | exact cRef_k S _ h
theorem cNum_2 (S : Mem) (lo hi : Int32) : (cNum S lo hi).1.2 = S.2 := by
  unfold cNum; repeat' split
  all_goals rfl
theorem okP_num {S : Mem} (h : okP S) (lo hi : Int32) : okP (cNum S lo hi).1 := by
  unfold cNum; repeat' split
  all_goals first | exact h | exact okP_tk h | exact okP_ref h _
theorem cSc_e {S : Mem} (h : ¬ S.1 1 7 = 0) : cSc S = S := by unfold cSc; rw [if_neg h]
theorem cSc_k (S : Mem) {z : Nat} (h : z ≠ 1) : (cSc S).1 z = S.1 z := by
  unfold cSc; repeat' split
  all_goals first | rfl | exact tk_k S h | exact cRef_k S _ h
theorem cSc_2 (S : Mem) : (cSc S).2 = S.2 := by
  unfold cSc; repeat' split
  all_goals rfl
theorem okP_sc {S : Mem} (h : okP S) : okP (cSc S) := by
  unfold cSc; repeat' split
  all_goals first | exact h | exact okP_tk h | exact okP_ref h _

set_option maxRecDepth 100000 in
set_option maxHeartbeats 1000000 in
theorem ct_X3_isWord (l : Launch) (ka va : Nat → Nat) (D : va_G) (cA : Nat → ClassId) (α : Nat → Nat) (n sz : Nat) (hn : 191 ≤ n) (S : Mem) (i : Nat) (hi6 : i < 6) (h9 : okP S) : CtIe ka va l yX3_isWord wsX3_isWord ({ frames := 6, cells := 0, slots := 0, locals := 126 }) D cA α n sz [.ref (α 1), .ref (ka i)] S (b2i (cWd S i)) S := by
  refine cte_enter cX3_isWord 3 (some .boolean) (by decide) rfl (Nat.le_of_ble_eq_true rfl) ?_
  intro p e s m below meth c hx hb hr hml hlocks hown hts hK hsz hw hE ls hl
  have hown : s.vm.findClass RX3 = some m.cls := hown
  have hAw : ∀ z, Aw α n s.heap.size z → Aw α n sz z := by rw [hsz]; exact fun _ h => h
  have hl : lv_has ls 3 [(0, .ref (α 1)), (1, .ref (ka i))] := hl
  have hwl := wl_lt i hi6
  have q1 := h9.2.1
  have q2 := h9.2.2.2.1
  have q3 := h9.2.2.2.2.2
  refine lv_aload_n hx hb dX3_isWord_0 rfl (lv_at hl 0 rfl) ?_
  refine x_get (v := .int (S.1 1 4)) (C := RX3) (T := TX3) (N := 11) hx hb hts (fun _ h => List.mem_cons_of_mem _ (List.mem_append_right _ h)) hown hK hw 1 (Nat.lt_of_lt_of_le (Nat.le_of_ble_eq_true rfl : 1 < 191) hn) (mk_1 cA α) rfl 4 (by decide) (hts _ (List.mem_of_getElem? (i := 1) rfl)) (fun _ h9 => h9) rfl dX3_isWord_1 ?_
  refine lv_iconst (v := nI 1) hx hb dX3_isWord_4 (by decide) ?_
  refine lv_icmp_ne (tgt := 24) hx hb dX3_isWord_5 (by decide) (fun c1 => ?_) (fun c1 => ?_)
  · skip
    refine lv_iconst (v := nI 0) hx hb dX3_isWord_24 (by decide) ?_
    exact ret_z hx hb hr (by first | rfl | decide | exact narB _) hlocks hK hw dX3_isWord_25 (by unfold cWd; simp only [if_neg c1, if_pos c1, decide_eq_false c1, if_true, if_false, eq_self, Bool.false_eq_true, not_true_eq_false, not_false_eq_true, decide_true, decide_false, Bool.and_true, Bool.true_and, Bool.and_false, Bool.false_and, Bool.not_true, Bool.not_false, Bool.or_true, Bool.true_or, Bool.or_false, Bool.false_or, reduceIte, b2i_t, b2i_f]) rfl
  · skip
    refine lv_aload_n hx hb dX3_isWord_8 rfl (lv_at hl 0 rfl) ?_
    refine x_get (v := .int (S.1 1 6)) (C := RX3) (T := TX3) (N := 11) hx hb hts (fun _ h => List.mem_cons_of_mem _ (List.mem_append_right _ h)) hown hK hw 1 (Nat.lt_of_lt_of_le (Nat.le_of_ble_eq_true rfl : 1 < 191) hn) (mk_1 cA α) rfl 6 (by decide) (hts _ (List.mem_of_getElem? (i := 2) rfl)) (fun _ h9 => h9) rfl dX3_isWord_9 ?_
    refine x_topN (k := gN (S.1 1 6)) h9.2.2.1 ?_
    refine lv_aload_n hx hb dX3_isWord_12 rfl (lv_at hl 0 rfl) ?_
    refine x_get (v := .int (S.1 1 5)) (C := RX3) (T := TX3) (N := 11) hx hb hts (fun _ h => List.mem_cons_of_mem _ (List.mem_append_right _ h)) hown hK hw 1 (Nat.lt_of_lt_of_le (Nat.le_of_ble_eq_true rfl : 1 < 191) hn) (mk_1 cA α) rfl 5 (by decide) (hts _ (List.mem_of_getElem? (i := 3) rfl)) (fun _ h9 => h9) rfl dX3_isWord_13 ?_
    refine x_topN (k := gN (S.1 1 5)) h9.2.2.2.2.1 ?_
    refine xn_isub hx hb q3 dX3_isWord_16 ?_
    refine lv_aload_n hx hb dX3_isWord_17 rfl (lv_at hl 1 rfl) ?_
    refine x_callVIe (b := (ka i)) (C := RJ0) (As := []) (rest := [.int (nI ((gN (S.1 1 6)) - (gN (S.1 1 5))))]) ⟨hx, hb, hml, hown, hts⟩ (ct_J0_length_8abf5 l ka va D cA α n _ hn S i hi6) (cwV 0 hts gX3_isWord_J0_length_8abf5 rfl rfl rfl (by decide +kernel) ⟨Nat.le_of_ble_eq_true rfl, Nat.le_of_ble_eq_true rfl⟩) hK hw hsz hE (k_recv hE hw hi6) rfl hl.1 rfl (Nat.le_of_ble_eq_true rfl) dX3_isWord_18 ⟨Nat.zero_le _, Nat.zero_le _⟩ (fun S9 eS9 H locs hw => ?_)
    rw [eS9] at hw
    refine xn_icmp_eq (tgt := 26) hx hb (by omega) (by omega) dX3_isWord_21 (by decide) (fun c2 => ?_) (fun c2 => ?_)
    · skip
      refine lv_aload_n hx hb dX3_isWord_26 rfl (lv_at hl 0 rfl) ?_
      refine x_get (v := .int (S.1 1 5)) (C := RX3) (T := TX3) (N := 11) hx hb hts (fun _ h => List.mem_cons_of_mem _ (List.mem_append_right _ h)) hown hK hw 1 (Nat.lt_of_lt_of_le (Nat.le_of_ble_eq_true rfl : 1 < 191) hn) (mk_1 cA α) rfl 5 (by decide) (hts _ (List.mem_of_getElem? (i := 3) rfl)) (fun _ h9 => h9) rfl dX3_isWord_27 ?_
      refine x_topN (k := gN (S.1 1 5)) h9.2.2.2.2.1 ?_
      refine lv_istore_n (lv' := [(2, .int (nI (gN (S.1 1 5)))), (0, .ref (α 1)), (1, .ref (ka i))]) hx hb dX3_isWord_30 rfl hl (by decide) rfl (fun ls hl => ?_)
      have lp31 : ∀ (t : Nat) (k : Nat) (H : Heap) (locs : List Loc) (ls : Array Slot), wl i - k < t → k ≤ wl i → wEq (S.1 2) (gN (S.1 1 5)) i k = true → Ws D cA α n (Aw α n sz) s.heap S H locs → lv_has ls 3 [(0, .ref (α 1)), (1, .ref (ka i)), (2, .int (nI (gN (S.1 1 5) + k)))] → W p l e ({ frames := 6, cells := 0, slots := 0, locals := 126 } : Room) s m (List.toArray ([.ref (α 1), .ref (ka i)] : List Value)) below meth c H locs 0 0 (MQ below (va_Qi (fun r u => r = (b2i (cWd S i)) ∧ u = S) (Pw D cA α n) (Aw α n sz)) (List.toArray ([.ref (α 1), .ref (ka i)] : List Value)) s 0 0 (Aw α n sz)) (F0 m 31 ls []) := by
        intro t
        induction t with
        | zero => intro k H locs ls ht; exact absurd ht (Nat.not_lt_zero _)
        | succ t ih31 =>
          intro k H locs ls ht hk hE9 hw hl
          refine lv_iload_n hx hb dX3_isWord_31 rfl (lv_at hl 2 rfl) ?_
          refine lv_aload_n hx hb dX3_isWord_32 rfl (lv_at hl 0 rfl) ?_
          refine x_get (v := .int (S.1 1 6)) (C := RX3) (T := TX3) (N := 11) hx hb hts (fun _ h => List.mem_cons_of_mem _ (List.mem_append_right _ h)) hown hK hw 1 (Nat.lt_of_lt_of_le (Nat.le_of_ble_eq_true rfl : 1 < 191) hn) (mk_1 cA α) rfl 6 (by decide) (hts _ (List.mem_of_getElem? (i := 2) rfl)) (fun _ h9 => h9) rfl dX3_isWord_33 ?_
          refine x_topN (k := gN (S.1 1 6)) h9.2.2.1 ?_
          refine xn_icmp_ge (tgt := 66) hx hb (by omega) (by omega) dX3_isWord_36 (by decide) (fun c3 => ?_) (fun c3 => ?_)
          · skip
            refine lv_iconst (v := nI 1) hx hb dX3_isWord_66 (by decide) ?_
            exact ret_z hx hb hr (by first | rfl | decide | exact narB _) hlocks hK hw dX3_isWord_67 (by rw [show k = wl i by omega] at hE9; unfold cWd; rw [hE9]; simp only [if_pos c1, if_neg (not_not_intro c1), decide_eq_true c1, if_pos c2, if_neg (not_not_intro c2), decide_eq_true c2, if_pos c3, if_neg (not_not_intro c3), decide_eq_true c3, if_true, if_false, eq_self, Bool.false_eq_true, not_true_eq_false, not_false_eq_true, decide_true, decide_false, Bool.and_true, Bool.true_and, Bool.and_false, Bool.false_and, Bool.not_true, Bool.not_false, Bool.or_true, Bool.true_or, Bool.or_false, Bool.false_or, reduceIte, b2i_t, b2i_f]) rfl
          · skip
            refine lv_aload_n hx hb dX3_isWord_39 rfl (lv_at hl 0 rfl) ?_
            refine x_get (v := .ref (α 2)) (C := RX3) (T := TX3) (N := 11) hx hb hts (fun _ h => List.mem_cons_of_mem _ (List.mem_append_right _ h)) hown hK hw 1 (Nat.lt_of_lt_of_le (Nat.le_of_ble_eq_true rfl : 1 < 191) hn) (mk_1 cA α) rfl 2 (by decide) (hts _ (List.mem_of_getElem? (i := 4) rfl)) (fun _ h9 => h9) rfl dX3_isWord_40 ?_
            refine lv_iload_n hx hb dX3_isWord_43 rfl (lv_at hl 2 rfl) ?_
            refine x_bald hx hb hK hw 2 600 (Nat.lt_of_lt_of_le (Nat.le_of_ble_eq_true rfl : 2 < 191) hn) (mk_2 cA α) (gN (S.1 1 5) + k) rfl (by omega) (by decide) dX3_isWord_44 ?_
            refine lv_aload_n hx hb dX3_isWord_45 rfl (lv_at hl 1 rfl) ?_
            refine lv_iload_n hx hb dX3_isWord_46 rfl (lv_at hl 2 rfl) ?_
            refine lv_aload_n hx hb dX3_isWord_47 rfl (lv_at hl 0 rfl) ?_
            refine x_get (v := .int (S.1 1 5)) (C := RX3) (T := TX3) (N := 11) hx hb hts (fun _ h => List.mem_cons_of_mem _ (List.mem_append_right _ h)) hown hK hw 1 (Nat.lt_of_lt_of_le (Nat.le_of_ble_eq_true rfl : 1 < 191) hn) (mk_1 cA α) rfl 5 (by decide) (hts _ (List.mem_of_getElem? (i := 3) rfl)) (fun _ h9 => h9) rfl dX3_isWord_48 ?_
            refine x_topN (k := gN (S.1 1 5)) h9.2.2.2.2.1 ?_
            refine xn_isub hx hb (by omega) dX3_isWord_51 ?_
            refine x_callVIe (b := (ka i)) (C := RJ0) (As := [.int (nI (gN (S.1 1 5) + k - gN (S.1 1 5)))]) (rest := [.int (S.1 2 (gN (S.1 1 5) + k))]) ⟨hx, hb, hml, hown, hts⟩ (ct_J0_charAt_5068e l ka va D cA α n _ hn S i hi6 (gN (S.1 1 5) + k - gN (S.1 1 5)) (by omega)) (cwV 1 hts gX3_isWord_J0_charAt_5068e rfl rfl rfl (by decide +kernel) ⟨Nat.le_of_ble_eq_true rfl, Nat.le_of_ble_eq_true rfl⟩) hK hw hsz hE (k_recv hE hw hi6) rfl hl.1 rfl (Nat.le_of_ble_eq_true rfl) dX3_isWord_52 ⟨Nat.zero_le _, Nat.zero_le _⟩ (fun S9 eS9 H locs hw => ?_)
            rw [eS9] at hw
            refine x_topE (y := (wb i).getD k 0) (by rw [show gN (S.1 1 5) + k - gN (S.1 1 5) = k by omega]) ?_
            refine lv_icmp_eq (tgt := 60) hx hb dX3_isWord_55 (by decide) (fun c4 => ?_) (fun c4 => ?_)
            · skip
              refine lv_iinc (v := nI (gN (S.1 1 5) + k + 1)) (lv' := [(2, .int (nI (gN (S.1 1 5) + k + 1))), (0, .ref (α 1)), (1, .ref (ka i))]) hx hb dX3_isWord_60 hl (k := 2) rfl (nI_1 _) (by decide) rfl (fun ls hl => ?_)
              refine lv_goto (tgt := 31) hx hb dX3_isWord_63 (by decide) ?_
              exact ih31 (k + 1) _ _ _ (by omega) (by omega) (by rw [wEq, hE9, decide_eq_true c4]; rfl) hw (lv_sub hl [1, 2, 0] rfl)
            · skip
              refine lv_iconst (v := nI 0) hx hb dX3_isWord_58 (by decide) ?_
              exact ret_z hx hb hr (by first | rfl | decide | exact narB _) hlocks hK hw dX3_isWord_59 (by unfold cWd; rw [wEq_f c4 (wl i) (by omega), Bool.and_false]; rfl) rfl
      exact lp31 _ 0 _ _ _ (Nat.lt_succ_self _) (Nat.zero_le _) rfl hw (lv_sub hl [1, 2, 0] rfl)
    · skip
      refine lv_iconst (v := nI 0) hx hb dX3_isWord_24 (by decide) ?_
      exact ret_z hx hb hr (by first | rfl | decide | exact narB _) hlocks hK hw dX3_isWord_25 (by unfold cWd; simp only [if_pos c1, if_neg (not_not_intro c1), decide_eq_true c1, if_neg c2, if_pos c2, decide_eq_false c2, if_true, if_false, eq_self, Bool.false_eq_true, not_true_eq_false, not_false_eq_true, decide_true, decide_false, Bool.and_true, Bool.true_and, Bool.and_false, Bool.false_and, Bool.not_true, Bool.not_false, Bool.or_true, Bool.true_or, Bool.or_false, Bool.false_or, reduceIte, b2i_t, b2i_f]) rfl

set_option maxRecDepth 100000 in
set_option maxHeartbeats 1000000 in
theorem ct_X3_passWord (l : Launch) (D : va_G) (cA : Nat → ClassId) (α : Nat → Nat) (n sz : Nat) (hn : 191 ≤ n) (S : Mem) (r t : Bool) (h9 : okP S) : CtV l yX3_passWord wsX3_passWord ({ frames := 2, cells := 0, slots := 0, locals := 43 }) D cA α n sz [.ref (α 1), .int (b2i r), .int (b2i t)] S (if r then cRef S (nI 2) else if t then cRef S (nI 4) else tk S) := by
  refine ct_enter cX3_passWord 3 none (by decide) rfl (Nat.le_of_ble_eq_true rfl) ?_
  intro p e s m below meth c hx hb hr hml hlocks hown hts hK hsz hw ls hl
  have hown : s.vm.findClass RX3 = some m.cls := hown
  have hAw : ∀ z, Aw α n s.heap.size z → Aw α n sz z := by rw [hsz]; exact fun _ h => h
  have hl : lv_has ls 3 [(0, .ref (α 1)), (1, .int (b2i r)), (2, .int (b2i t))] := hl
  refine lv_iload_n hx hb dX3_passWord_0 rfl (lv_at hl 1 rfl) ?_
  refine xb_eq (b := r) (tgt := 12) hx hb dX3_passWord_1 (by decide) (fun c1 => ?_) (fun c1 => ?_)
  · skip
    refine lv_iload_n hx hb dX3_passWord_12 rfl (lv_at hl 2 rfl) ?_
    refine xb_eq (b := t) (tgt := 24) hx hb dX3_passWord_13 (by decide) (fun c2 => ?_) (fun c2 => ?_)
    · skip
      refine lv_aload_n hx hb dX3_passWord_24 rfl (lv_at hl 0 rfl) ?_
      refine x_callVV (q := 1) (C := RX3) (As := []) (rest := []) ⟨hx, hb, hml, hown, hts⟩ (ct_X3_readToken l D cA α n _ hn S (gN (S.1 1 3)) (gN (S.1 1 6)) h9.1 h9.2.1 h9.2.2.1 h9.2.2.2.1) (cwV 0 hts gX3_passWord_X3_readToken rfl rfl rfl (by decide +kernel) ⟨Nat.le_of_ble_eq_true rfl, Nat.le_of_ble_eq_true rfl⟩) hK hw hAw (ws_recv hK hw (q := 1) (Nat.lt_of_lt_of_le (Nat.le_of_ble_eq_true rfl : 1 < 191) hn) (mk_1 cA α) rfl) rfl hl.1 rfl (Nat.le_of_ble_eq_true rfl) dX3_passWord_25 ⟨Nat.zero_le _, Nat.zero_le _⟩ (fun S1 eS1 H locs hw => ?_)
      exact ret_v hx hb hr hlocks hK hw dX3_passWord_28 (by subst eS1; simp only [c1, c2, if_true, if_false, eq_self, Bool.false_eq_true, not_true_eq_false, not_false_eq_true, decide_true, decide_false, Bool.and_true, Bool.true_and, Bool.and_false, Bool.false_and, Bool.not_true, Bool.not_false, Bool.or_true, Bool.true_or, Bool.or_false, Bool.false_or, reduceIte, b2i_t, b2i_f]; rfl)
    · skip
      refine lv_aload_n hx hb dX3_passWord_16 rfl (lv_at hl 0 rfl) ?_
      refine lv_iconst (v := nI 4) hx hb dX3_passWord_17 (by decide) ?_
      refine x_callVV (q := 1) (C := RX3) (As := [.int (nI 4)]) (rest := []) ⟨hx, hb, hml, hown, hts⟩ (ct_X3_refuse l D cA α n _ hn S (nI 4)) (cwV 1 hts gX3_passWord_X3_refuse rfl rfl rfl (by decide +kernel) ⟨Nat.le_of_ble_eq_true rfl, Nat.le_of_ble_eq_true rfl⟩) hK hw hAw (ws_recv hK hw (q := 1) (Nat.lt_of_lt_of_le (Nat.le_of_ble_eq_true rfl : 1 < 191) hn) (mk_1 cA α) rfl) rfl hl.1 rfl (Nat.le_of_ble_eq_true rfl) dX3_passWord_18 ⟨Nat.zero_le _, Nat.zero_le _⟩ (fun S2 eS2 H locs hw => ?_)
      refine lv_goto (tgt := 28) hx hb dX3_passWord_21 (by decide) ?_
      exact ret_v hx hb hr hlocks hK hw dX3_passWord_28 (by subst eS2; simp only [c1, c2, if_true, if_false, eq_self, Bool.false_eq_true, not_true_eq_false, not_false_eq_true, decide_true, decide_false, Bool.and_true, Bool.true_and, Bool.and_false, Bool.false_and, Bool.not_true, Bool.not_false, Bool.or_true, Bool.true_or, Bool.or_false, Bool.false_or, reduceIte, b2i_t, b2i_f]; rfl)
  · skip
    refine lv_aload_n hx hb dX3_passWord_4 rfl (lv_at hl 0 rfl) ?_
    refine lv_iconst (v := nI 2) hx hb dX3_passWord_5 (by decide) ?_
    refine x_callVV (q := 1) (C := RX3) (As := [.int (nI 2)]) (rest := []) ⟨hx, hb, hml, hown, hts⟩ (ct_X3_refuse l D cA α n _ hn S (nI 2)) (cwV 1 hts gX3_passWord_X3_refuse rfl rfl rfl (by decide +kernel) ⟨Nat.le_of_ble_eq_true rfl, Nat.le_of_ble_eq_true rfl⟩) hK hw hAw (ws_recv hK hw (q := 1) (Nat.lt_of_lt_of_le (Nat.le_of_ble_eq_true rfl : 1 < 191) hn) (mk_1 cA α) rfl) rfl hl.1 rfl (Nat.le_of_ble_eq_true rfl) dX3_passWord_6 ⟨Nat.zero_le _, Nat.zero_le _⟩ (fun S3 eS3 H locs hw => ?_)
    refine lv_goto (tgt := 28) hx hb dX3_passWord_9 (by decide) ?_
    exact ret_v hx hb hr hlocks hK hw dX3_passWord_28 (by subst eS3; simp only [c1, if_true, if_false, eq_self, Bool.false_eq_true, not_true_eq_false, not_false_eq_true, decide_true, decide_false, Bool.and_true, Bool.true_and, Bool.and_false, Bool.false_and, Bool.not_true, Bool.not_false, Bool.or_true, Bool.true_or, Bool.or_false, Bool.false_or, reduceIte, b2i_t, b2i_f]; rfl)

set_option maxRecDepth 100000 in
set_option maxHeartbeats 1000000 in
theorem ct_X3_passSemicolon (l : Launch) (D : va_G) (cA : Nat → ClassId) (α : Nat → Nat) (n sz : Nat) (hn : 191 ≤ n) (S : Mem) (h9 : okP S) : CtV l yX3_passSemicolon wsX3_passSemicolon ({ frames := 2, cells := 0, slots := 0, locals := 43 }) D cA α n sz [.ref (α 1)] S (cSc S) := by
  refine ct_enter cX3_passSemicolon 1 none (by decide) rfl (Nat.le_of_ble_eq_true rfl) ?_
  intro p e s m below meth c hx hb hr hml hlocks hown hts hK hsz hw ls hl
  have hown : s.vm.findClass RX3 = some m.cls := hown
  have hAw : ∀ z, Aw α n s.heap.size z → Aw α n sz z := by rw [hsz]; exact fun _ h => h
  have hl : lv_has ls 1 [(0, .ref (α 1))] := hl
  refine lv_aload_n hx hb dX3_passSemicolon_0 rfl (lv_at hl 0 rfl) ?_
  refine x_get (v := .int (S.1 1 7)) (C := RX3) (T := TX3) (N := 11) hx hb hts (fun _ h => List.mem_cons_of_mem _ (List.mem_append_right _ h)) hown hK hw 1 (Nat.lt_of_lt_of_le (Nat.le_of_ble_eq_true rfl : 1 < 191) hn) (mk_1 cA α) rfl 7 (by decide) (hts _ (List.mem_of_getElem? (i := 1) rfl)) (fun _ h9 => h9) rfl dX3_passSemicolon_1 ?_
  refine lv_if_eq (tgt := 8) hx hb dX3_passSemicolon_4 (by decide) (fun c1 => ?_) (fun c1 => ?_)
  · skip
    refine lv_aload_n hx hb dX3_passSemicolon_8 rfl (lv_at hl 0 rfl) ?_
    refine x_get (v := .int (S.1 1 4)) (C := RX3) (T := TX3) (N := 11) hx hb hts (fun _ h => List.mem_cons_of_mem _ (List.mem_append_right _ h)) hown hK hw 1 (Nat.lt_of_lt_of_le (Nat.le_of_ble_eq_true rfl : 1 < 191) hn) (mk_1 cA α) rfl 4 (by decide) (hts _ (List.mem_of_getElem? (i := 2) rfl)) (fun _ h9 => h9) rfl dX3_passSemicolon_9 ?_
    refine lv_iconst (v := nI 3) hx hb dX3_passSemicolon_12 (by decide) ?_
    refine lv_icmp_eq (tgt := 22) hx hb dX3_passSemicolon_13 (by decide) (fun c2 => ?_) (fun c2 => ?_)
    · skip
      refine lv_aload_n hx hb dX3_passSemicolon_22 rfl (lv_at hl 0 rfl) ?_
      refine x_callVV (q := 1) (C := RX3) (As := []) (rest := []) ⟨hx, hb, hml, hown, hts⟩ (ct_X3_readToken l D cA α n _ hn S (gN (S.1 1 3)) (gN (S.1 1 6)) h9.1 h9.2.1 h9.2.2.1 h9.2.2.2.1) (cwV 0 hts gX3_passSemicolon_X3_readToken rfl rfl rfl (by decide +kernel) ⟨Nat.le_of_ble_eq_true rfl, Nat.le_of_ble_eq_true rfl⟩) hK hw hAw (ws_recv hK hw (q := 1) (Nat.lt_of_lt_of_le (Nat.le_of_ble_eq_true rfl : 1 < 191) hn) (mk_1 cA α) rfl) rfl hl.1 rfl (Nat.le_of_ble_eq_true rfl) dX3_passSemicolon_23 ⟨Nat.zero_le _, Nat.zero_le _⟩ (fun S1 eS1 H locs hw => ?_)
      exact ret_v hx hb hr hlocks hK hw dX3_passSemicolon_26 (by subst eS1; unfold cSc; simp only [if_pos c1, if_neg (not_not_intro c1), decide_eq_true c1, if_pos c2, if_neg (not_not_intro c2), decide_eq_true c2, if_true, if_false, eq_self, Bool.false_eq_true, not_true_eq_false, not_false_eq_true, decide_true, decide_false, Bool.and_true, Bool.true_and, Bool.and_false, Bool.false_and, Bool.not_true, Bool.not_false, Bool.or_true, Bool.true_or, Bool.or_false, Bool.false_or, reduceIte, b2i_t, b2i_f]; try rfl)
    · skip
      refine lv_aload_n hx hb dX3_passSemicolon_16 rfl (lv_at hl 0 rfl) ?_
      refine lv_iconst (v := nI 1) hx hb dX3_passSemicolon_17 (by decide) ?_
      refine x_callVV (q := 1) (C := RX3) (As := [.int (nI 1)]) (rest := []) ⟨hx, hb, hml, hown, hts⟩ (ct_X3_refuse l D cA α n _ hn S (nI 1)) (cwV 1 hts gX3_passSemicolon_X3_refuse rfl rfl rfl (by decide +kernel) ⟨Nat.le_of_ble_eq_true rfl, Nat.le_of_ble_eq_true rfl⟩) hK hw hAw (ws_recv hK hw (q := 1) (Nat.lt_of_lt_of_le (Nat.le_of_ble_eq_true rfl : 1 < 191) hn) (mk_1 cA α) rfl) rfl hl.1 rfl (Nat.le_of_ble_eq_true rfl) dX3_passSemicolon_18 ⟨Nat.zero_le _, Nat.zero_le _⟩ (fun S2 eS2 H locs hw => ?_)
      exact ret_v hx hb hr hlocks hK hw dX3_passSemicolon_21 (by subst eS2; unfold cSc; simp only [if_pos c1, if_neg (not_not_intro c1), decide_eq_true c1, if_neg c2, if_pos c2, decide_eq_false c2, if_true, if_false, eq_self, Bool.false_eq_true, not_true_eq_false, not_false_eq_true, decide_true, decide_false, Bool.and_true, Bool.true_and, Bool.and_false, Bool.false_and, Bool.not_true, Bool.not_false, Bool.or_true, Bool.true_or, Bool.or_false, Bool.false_or, reduceIte, b2i_t, b2i_f]; try rfl)
  · skip
    exact ret_v hx hb hr hlocks hK hw dX3_passSemicolon_7 (by skip; unfold cSc; simp only [if_neg c1, if_pos c1, decide_eq_false c1, if_true, if_false, eq_self, Bool.false_eq_true, not_true_eq_false, not_false_eq_true, decide_true, decide_false, Bool.and_true, Bool.true_and, Bool.and_false, Bool.false_and, Bool.not_true, Bool.not_false, Bool.or_true, Bool.true_or, Bool.or_false, Bool.false_or, reduceIte, b2i_t, b2i_f]; try rfl)

set_option maxRecDepth 100000 in
set_option maxHeartbeats 1000000 in
theorem ct_X3_readNumber (l : Launch) (D : va_G) (cA : Nat → ClassId) (α : Nat → Nat) (n sz : Nat) (hn : 191 ≤ n) (S : Mem) (lo hi : Int32) (h9 : okP S) : CtI l yX3_readNumber wsX3_readNumber ({ frames := 2, cells := 0, slots := 0, locals := 43 }) D cA α n sz [.ref (α 1), .int lo, .int hi] S ((cNum S lo hi).2) ((cNum S lo hi).1) := by
  refine ct_enter cX3_readNumber 5 (some .int) (by decide) rfl (Nat.le_of_ble_eq_true rfl) ?_
  intro p e s m below meth c hx hb hr hml hlocks hown hts hK hsz hw ls hl
  have hown : s.vm.findClass RX3 = some m.cls := hown
  have hAw : ∀ z, Aw α n s.heap.size z → Aw α n sz z := by rw [hsz]; exact fun _ h => h
  have hl : lv_has ls 5 [(0, .ref (α 1)), (1, .int lo), (2, .int hi)] := hl
  have q1 := h9.2.1
  have q2 := h9.2.2.2.1
  have q3 := h9.2.2.2.2.2
  refine lv_aload_n hx hb dX3_readNumber_0 rfl (lv_at hl 0 rfl) ?_
  refine x_get (v := .int (S.1 1 7)) (C := RX3) (T := TX3) (N := 11) hx hb hts (fun _ h => List.mem_cons_of_mem _ (List.mem_append_right _ h)) hown hK hw 1 (Nat.lt_of_lt_of_le (Nat.le_of_ble_eq_true rfl : 1 < 191) hn) (mk_1 cA α) rfl 7 (by decide) (hts _ (List.mem_of_getElem? (i := 1) rfl)) (fun _ h9 => h9) rfl dX3_readNumber_1 ?_
  refine lv_if_eq (tgt := 9) hx hb dX3_readNumber_4 (by decide) (fun c1 => ?_) (fun c1 => ?_)
  · skip
    refine lv_aload_n hx hb dX3_readNumber_9 rfl (lv_at hl 0 rfl) ?_
    refine x_get (v := .int (S.1 1 4)) (C := RX3) (T := TX3) (N := 11) hx hb hts (fun _ h => List.mem_cons_of_mem _ (List.mem_append_right _ h)) hown hK hw 1 (Nat.lt_of_lt_of_le (Nat.le_of_ble_eq_true rfl : 1 < 191) hn) (mk_1 cA α) rfl 4 (by decide) (hts _ (List.mem_of_getElem? (i := 2) rfl)) (fun _ h9 => h9) rfl dX3_readNumber_10 ?_
    refine lv_iconst (v := nI 2) hx hb dX3_readNumber_13 (by decide) ?_
    refine lv_icmp_eq (tgt := 24) hx hb dX3_readNumber_14 (by decide) (fun c2 => ?_) (fun c2 => ?_)
    · skip
      refine lv_iconst (v := nI 0) hx hb dX3_readNumber_24 (by decide) ?_
      refine lv_istore_n (lv' := [(3, .int (nI 0)), (0, .ref (α 1)), (1, .int lo), (2, .int hi)]) hx hb dX3_readNumber_25 rfl hl (by decide) rfl (fun ls hl => ?_)
      refine lv_aload_n hx hb dX3_readNumber_26 rfl (lv_at hl 1 rfl) ?_
      refine x_get (v := .int (S.1 1 5)) (C := RX3) (T := TX3) (N := 11) hx hb hts (fun _ h => List.mem_cons_of_mem _ (List.mem_append_right _ h)) hown hK hw 1 (Nat.lt_of_lt_of_le (Nat.le_of_ble_eq_true rfl : 1 < 191) hn) (mk_1 cA α) rfl 5 (by decide) (hts _ (List.mem_of_getElem? (i := 3) rfl)) (fun _ h9 => h9) rfl dX3_readNumber_27 ?_
      refine x_topN (k := gN (S.1 1 5)) h9.2.2.2.2.1 ?_
      refine lv_istore (lv' := [(4, .int (nI (gN (S.1 1 5)))), (3, .int (nI 0)), (0, .ref (α 1)), (1, .int lo), (2, .int hi)]) hx hb dX3_readNumber_30 hl (by decide) rfl (fun ls hl => ?_)
      have lp32 : ∀ (t : Nat) (k : Nat) (acc : Int32) (H : Heap) (locs : List Loc) (ls : Array Slot), gN (S.1 1 6) - (gN (S.1 1 5) + k) < t → gN (S.1 1 5) + k ≤ gN (S.1 1 6) → acc = c10 (S.1 2) (gN (S.1 1 5)) k → Ws D cA α n (Aw α n sz) s.heap S H locs → lv_has ls 5 [(0, .ref (α 1)), (1, .int lo), (2, .int hi), (4, .int (nI (gN (S.1 1 5) + k))), (3, .int acc)] → W p l e ({ frames := 2, cells := 0, slots := 0, locals := 43 } : Room) s m (List.toArray ([.ref (α 1), .int lo, .int hi] : List Value)) below meth c H locs 0 0 (MQ below (va_Qi (fun r u => r = ((cNum S lo hi).2) ∧ u = ((cNum S lo hi).1)) (Pw D cA α n) (Aw α n sz)) (List.toArray ([.ref (α 1), .int lo, .int hi] : List Value)) s 0 0 (Aw α n sz)) (F0 m 32 ls []) := by
        intro t
        induction t with
        | zero => intro k acc H locs ls ht; exact absurd ht (Nat.not_lt_zero _)
        | succ t ih32 =>
          intro k acc H locs ls ht hk ha hw hl
          refine lv_iload hx hb dX3_readNumber_32 (lv_at hl 3 rfl) ?_
          refine lv_aload_n hx hb dX3_readNumber_34 rfl (lv_at hl 0 rfl) ?_
          refine x_get (v := .int (S.1 1 6)) (C := RX3) (T := TX3) (N := 11) hx hb hts (fun _ h => List.mem_cons_of_mem _ (List.mem_append_right _ h)) hown hK hw 1 (Nat.lt_of_lt_of_le (Nat.le_of_ble_eq_true rfl : 1 < 191) hn) (mk_1 cA α) rfl 6 (by decide) (hts _ (List.mem_of_getElem? (i := 4) rfl)) (fun _ h9 => h9) rfl dX3_readNumber_35 ?_
          refine x_topN (k := gN (S.1 1 6)) h9.2.2.1 ?_
          refine xn_icmp_ge (tgt := 63) hx hb (by omega) (by omega) dX3_readNumber_38 (by decide) (fun c3 => ?_) (fun c3 => ?_)
          · skip
            have hv9 : acc = cVl S := by unfold cVl; rw [ha, show gN (S.1 1 6) - gN (S.1 1 5) = k by omega]
            subst hv9
            refine lv_iload_n hx hb dX3_readNumber_63 rfl (lv_at hl 4 rfl) ?_
            refine lv_iload_n hx hb dX3_readNumber_64 rfl (lv_at hl 1 rfl) ?_
            refine lv_icmp_lt (tgt := 73) hx hb dX3_readNumber_65 (by decide) (fun c4 => ?_) (fun c4 => ?_)
            · skip
              refine lv_aload_n hx hb dX3_readNumber_73 rfl (lv_at hl 0 rfl) ?_
              refine lv_iconst (v := nI 3) hx hb dX3_readNumber_74 (by decide) ?_
              refine x_callVV (q := 1) (C := RX3) (As := [.int (nI 3)]) (rest := []) ⟨hx, hb, hml, hown, hts⟩ (ct_X3_refuse l D cA α n _ hn S (nI 3)) (cwV 1 hts gX3_readNumber_X3_refuse rfl rfl rfl (by decide +kernel) ⟨Nat.le_of_ble_eq_true rfl, Nat.le_of_ble_eq_true rfl⟩) hK hw hAw (ws_recv hK hw (q := 1) (Nat.lt_of_lt_of_le (Nat.le_of_ble_eq_true rfl : 1 < 191) hn) (mk_1 cA α) rfl) rfl hl.1 rfl (Nat.le_of_ble_eq_true rfl) dX3_readNumber_75 ⟨Nat.zero_le _, Nat.zero_le _⟩ (fun S1 eS1 H locs hw => ?_)
              refine lv_iconst (v := nI 0) hx hb dX3_readNumber_78 (by decide) ?_
              exact ret_i hx hb hr hlocks hK hw dX3_readNumber_79 (by unfold cNum; simp only [if_pos c1, if_neg (not_not_intro c1), decide_eq_true c1, if_pos c2, if_neg (not_not_intro c2), decide_eq_true c2, if_pos c3, if_neg (not_not_intro c3), decide_eq_true c3, if_pos c4, if_neg (not_not_intro c4), decide_eq_true c4, if_true, if_false, eq_self, Bool.false_eq_true, not_true_eq_false, not_false_eq_true, decide_true, decide_false, Bool.and_true, Bool.true_and, Bool.and_false, Bool.false_and, Bool.not_true, Bool.not_false, Bool.or_true, Bool.true_or, Bool.or_false, Bool.false_or, reduceIte, b2i_t, b2i_f]; try rfl) (by subst eS1; unfold cNum; simp only [if_pos c1, if_neg (not_not_intro c1), decide_eq_true c1, if_pos c2, if_neg (not_not_intro c2), decide_eq_true c2, if_pos c3, if_neg (not_not_intro c3), decide_eq_true c3, if_pos c4, if_neg (not_not_intro c4), decide_eq_true c4, if_true, if_false, eq_self, Bool.false_eq_true, not_true_eq_false, not_false_eq_true, decide_true, decide_false, Bool.and_true, Bool.true_and, Bool.and_false, Bool.false_and, Bool.not_true, Bool.not_false, Bool.or_true, Bool.true_or, Bool.or_false, Bool.false_or, reduceIte, b2i_t, b2i_f]; try rfl)
            · skip
              refine lv_iload_n hx hb dX3_readNumber_68 rfl (lv_at hl 4 rfl) ?_
              refine lv_iload_n hx hb dX3_readNumber_69 rfl (lv_at hl 2 rfl) ?_
              refine lv_icmp_le (tgt := 80) hx hb dX3_readNumber_70 (by decide) (fun c5 => ?_) (fun c5 => ?_)
              · skip
                refine lv_aload_n hx hb dX3_readNumber_80 rfl (lv_at hl 0 rfl) ?_
                refine x_callVV (q := 1) (C := RX3) (As := []) (rest := []) ⟨hx, hb, hml, hown, hts⟩ (ct_X3_readToken l D cA α n _ hn S (gN (S.1 1 3)) (gN (S.1 1 6)) h9.1 h9.2.1 h9.2.2.1 h9.2.2.2.1) (cwV 0 hts gX3_readNumber_X3_readToken rfl rfl rfl (by decide +kernel) ⟨Nat.le_of_ble_eq_true rfl, Nat.le_of_ble_eq_true rfl⟩) hK hw hAw (ws_recv hK hw (q := 1) (Nat.lt_of_lt_of_le (Nat.le_of_ble_eq_true rfl : 1 < 191) hn) (mk_1 cA α) rfl) rfl hl.1 rfl (Nat.le_of_ble_eq_true rfl) dX3_readNumber_81 ⟨Nat.zero_le _, Nat.zero_le _⟩ (fun S2 eS2 H locs hw => ?_)
                refine lv_iload_n hx hb dX3_readNumber_84 rfl (lv_at hl 4 rfl) ?_
                exact ret_i hx hb hr hlocks hK hw dX3_readNumber_85 (by unfold cNum; simp only [if_pos c1, if_neg (not_not_intro c1), decide_eq_true c1, if_pos c2, if_neg (not_not_intro c2), decide_eq_true c2, if_pos c3, if_neg (not_not_intro c3), decide_eq_true c3, if_neg c4, if_pos c4, decide_eq_false c4, if_pos c5, if_neg (not_not_intro c5), decide_eq_true c5, if_true, if_false, eq_self, Bool.false_eq_true, not_true_eq_false, not_false_eq_true, decide_true, decide_false, Bool.and_true, Bool.true_and, Bool.and_false, Bool.false_and, Bool.not_true, Bool.not_false, Bool.or_true, Bool.true_or, Bool.or_false, Bool.false_or, reduceIte, b2i_t, b2i_f]; try rfl) (by subst eS2; unfold cNum; simp only [if_pos c1, if_neg (not_not_intro c1), decide_eq_true c1, if_pos c2, if_neg (not_not_intro c2), decide_eq_true c2, if_pos c3, if_neg (not_not_intro c3), decide_eq_true c3, if_neg c4, if_pos c4, decide_eq_false c4, if_pos c5, if_neg (not_not_intro c5), decide_eq_true c5, if_true, if_false, eq_self, Bool.false_eq_true, not_true_eq_false, not_false_eq_true, decide_true, decide_false, Bool.and_true, Bool.true_and, Bool.and_false, Bool.false_and, Bool.not_true, Bool.not_false, Bool.or_true, Bool.true_or, Bool.or_false, Bool.false_or, reduceIte, b2i_t, b2i_f]; try rfl)
              · skip
                refine lv_aload_n hx hb dX3_readNumber_73 rfl (lv_at hl 0 rfl) ?_
                refine lv_iconst (v := nI 3) hx hb dX3_readNumber_74 (by decide) ?_
                refine x_callVV (q := 1) (C := RX3) (As := [.int (nI 3)]) (rest := []) ⟨hx, hb, hml, hown, hts⟩ (ct_X3_refuse l D cA α n _ hn S (nI 3)) (cwV 1 hts gX3_readNumber_X3_refuse rfl rfl rfl (by decide +kernel) ⟨Nat.le_of_ble_eq_true rfl, Nat.le_of_ble_eq_true rfl⟩) hK hw hAw (ws_recv hK hw (q := 1) (Nat.lt_of_lt_of_le (Nat.le_of_ble_eq_true rfl : 1 < 191) hn) (mk_1 cA α) rfl) rfl hl.1 rfl (Nat.le_of_ble_eq_true rfl) dX3_readNumber_75 ⟨Nat.zero_le _, Nat.zero_le _⟩ (fun S3 eS3 H locs hw => ?_)
                refine lv_iconst (v := nI 0) hx hb dX3_readNumber_78 (by decide) ?_
                exact ret_i hx hb hr hlocks hK hw dX3_readNumber_79 (by unfold cNum; simp only [if_pos c1, if_neg (not_not_intro c1), decide_eq_true c1, if_pos c2, if_neg (not_not_intro c2), decide_eq_true c2, if_pos c3, if_neg (not_not_intro c3), decide_eq_true c3, if_neg c4, if_pos c4, decide_eq_false c4, if_neg c5, if_pos c5, decide_eq_false c5, if_true, if_false, eq_self, Bool.false_eq_true, not_true_eq_false, not_false_eq_true, decide_true, decide_false, Bool.and_true, Bool.true_and, Bool.and_false, Bool.false_and, Bool.not_true, Bool.not_false, Bool.or_true, Bool.true_or, Bool.or_false, Bool.false_or, reduceIte, b2i_t, b2i_f]; try rfl) (by subst eS3; unfold cNum; simp only [if_pos c1, if_neg (not_not_intro c1), decide_eq_true c1, if_pos c2, if_neg (not_not_intro c2), decide_eq_true c2, if_pos c3, if_neg (not_not_intro c3), decide_eq_true c3, if_neg c4, if_pos c4, decide_eq_false c4, if_neg c5, if_pos c5, decide_eq_false c5, if_true, if_false, eq_self, Bool.false_eq_true, not_true_eq_false, not_false_eq_true, decide_true, decide_false, Bool.and_true, Bool.true_and, Bool.and_false, Bool.false_and, Bool.not_true, Bool.not_false, Bool.or_true, Bool.true_or, Bool.or_false, Bool.false_or, reduceIte, b2i_t, b2i_f]; try rfl)
          · skip
            refine lv_iload_n hx hb dX3_readNumber_41 rfl (lv_at hl 4 rfl) ?_
            refine lv_bipush (v := nI 10) hx hb dX3_readNumber_42 (by decide) ?_
            refine lv_imul hx hb dX3_readNumber_44 ?_
            refine lv_aload_n hx hb dX3_readNumber_45 rfl (lv_at hl 0 rfl) ?_
            refine x_get (v := .ref (α 2)) (C := RX3) (T := TX3) (N := 11) hx hb hts (fun _ h => List.mem_cons_of_mem _ (List.mem_append_right _ h)) hown hK hw 1 (Nat.lt_of_lt_of_le (Nat.le_of_ble_eq_true rfl : 1 < 191) hn) (mk_1 cA α) rfl 2 (by decide) (hts _ (List.mem_of_getElem? (i := 5) rfl)) (fun _ h9 => h9) rfl dX3_readNumber_46 ?_
            refine lv_iload hx hb dX3_readNumber_49 (lv_at hl 3 rfl) ?_
            refine x_bald hx hb hK hw 2 600 (Nat.lt_of_lt_of_le (Nat.le_of_ble_eq_true rfl : 2 < 191) hn) (mk_2 cA α) (gN (S.1 1 5) + k) rfl (by omega) (by decide) dX3_readNumber_51 ?_
            refine lv_bipush (v := nI 48) hx hb dX3_readNumber_52 (by decide) ?_
            refine lv_isub hx hb dX3_readNumber_54 ?_
            refine lv_iadd hx hb dX3_readNumber_55 ?_
            refine lv_istore_n (lv' := [(3, .int ((acc * (nI 10)) + ((S.1 2 (gN (S.1 1 5) + k)) - (nI 48)))), (0, .ref (α 1)), (1, .int lo), (2, .int hi), (4, .int (nI (gN (S.1 1 5) + k)))]) hx hb dX3_readNumber_56 rfl hl (by decide) rfl (fun ls hl => ?_)
            refine lv_iinc (v := nI (gN (S.1 1 5) + k + 1)) (lv' := [(4, .int (nI (gN (S.1 1 5) + k + 1))), (3, .int ((acc * (nI 10)) + ((S.1 2 (gN (S.1 1 5) + k)) - (nI 48)))), (0, .ref (α 1)), (1, .int lo), (2, .int hi)]) hx hb dX3_readNumber_57 hl (k := 4) rfl (nI_1 _) (by decide) rfl (fun ls hl => ?_)
            refine lv_goto (tgt := 32) hx hb dX3_readNumber_60 (by decide) ?_
            exact ih32 (k + 1) ((acc * (nI 10)) + ((S.1 2 (gN (S.1 1 5) + k)) - (nI 48))) _ _ _ (by omega) (by omega) (by rw [c10, ← ha]) hw (lv_sub hl [2, 3, 4, 0, 1] rfl)
      exact lp32 _ 0 (nI 0) _ _ _ (Nat.lt_succ_self _) q3 rfl hw (lv_sub hl [2, 3, 4, 0, 1] rfl)
    · skip
      refine lv_aload_n hx hb dX3_readNumber_17 rfl (lv_at hl 0 rfl) ?_
      refine lv_iconst (v := nI 1) hx hb dX3_readNumber_18 (by decide) ?_
      refine x_callVV (q := 1) (C := RX3) (As := [.int (nI 1)]) (rest := []) ⟨hx, hb, hml, hown, hts⟩ (ct_X3_refuse l D cA α n _ hn S (nI 1)) (cwV 1 hts gX3_readNumber_X3_refuse rfl rfl rfl (by decide +kernel) ⟨Nat.le_of_ble_eq_true rfl, Nat.le_of_ble_eq_true rfl⟩) hK hw hAw (ws_recv hK hw (q := 1) (Nat.lt_of_lt_of_le (Nat.le_of_ble_eq_true rfl : 1 < 191) hn) (mk_1 cA α) rfl) rfl hl.1 rfl (Nat.le_of_ble_eq_true rfl) dX3_readNumber_19 ⟨Nat.zero_le _, Nat.zero_le _⟩ (fun S4 eS4 H locs hw => ?_)
      refine lv_iconst (v := nI 0) hx hb dX3_readNumber_22 (by decide) ?_
      exact ret_i hx hb hr hlocks hK hw dX3_readNumber_23 (by unfold cNum; simp only [if_pos c1, if_neg (not_not_intro c1), decide_eq_true c1, if_neg c2, if_pos c2, decide_eq_false c2, if_true, if_false, eq_self, Bool.false_eq_true, not_true_eq_false, not_false_eq_true, decide_true, decide_false, Bool.and_true, Bool.true_and, Bool.and_false, Bool.false_and, Bool.not_true, Bool.not_false, Bool.or_true, Bool.true_or, Bool.or_false, Bool.false_or, reduceIte, b2i_t, b2i_f]; try rfl) (by subst eS4; unfold cNum; simp only [if_pos c1, if_neg (not_not_intro c1), decide_eq_true c1, if_neg c2, if_pos c2, decide_eq_false c2, if_true, if_false, eq_self, Bool.false_eq_true, not_true_eq_false, not_false_eq_true, decide_true, decide_false, Bool.and_true, Bool.true_and, Bool.and_false, Bool.false_and, Bool.not_true, Bool.not_false, Bool.or_true, Bool.true_or, Bool.or_false, Bool.false_or, reduceIte, b2i_t, b2i_f]; try rfl)
  · skip
    refine lv_iconst (v := nI 0) hx hb dX3_readNumber_7 (by decide) ?_
    exact ret_i hx hb hr hlocks hK hw dX3_readNumber_8 (by unfold cNum; simp only [if_neg c1, if_pos c1, decide_eq_false c1, if_true, if_false, eq_self, Bool.false_eq_true, not_true_eq_false, not_false_eq_true, decide_true, decide_false, Bool.and_true, Bool.true_and, Bool.and_false, Bool.false_and, Bool.not_true, Bool.not_false, Bool.or_true, Bool.true_or, Bool.or_false, Bool.false_or, reduceIte, b2i_t, b2i_f]; try rfl) (by skip; unfold cNum; simp only [if_neg c1, if_pos c1, decide_eq_false c1, if_true, if_false, eq_self, Bool.false_eq_true, not_true_eq_false, not_false_eq_true, decide_true, decide_false, Bool.and_true, Bool.true_and, Bool.and_false, Bool.false_and, Bool.not_true, Bool.not_false, Bool.or_true, Bool.true_or, Bool.or_false, Bool.false_or, reduceIte, b2i_t, b2i_f]; try rfl)
