/-! the reference: what its statements are made of -/
def okT (S : Mem) : Prop := S.1 30 3 = nI (gN (S.1 30 3)) ∧ gN (S.1 30 3) ≤ 600 ∧ S.1 30 5 = nI (gN (S.1 30 5)) ∧ gN (S.1 30 5) ≤ gN (S.1 30 3) ∧ okB S
def okQ (S : Mem) : Prop := okT S ∧ S.1 30 4 = nI (gN (S.1 30 4)) ∧ gN (S.1 30 4) ≤ gN (S.1 30 5)
def rt (S : Mem) : Mem := rtC S (gN (S.1 30 3)) (gN (S.1 30 5))
def rMu (S : Mem) (b : Bool) (x : Int32) : Mem := if S.1 30 8 = 0 then (if b then S else setI (setI S 30 8 x) 30 9 (S.1 30 4)) else S
def rOk (S : Mem) : Bool := decide (S.1 30 8 = 0)
theorem rt_f (S : Mem) : (rt S).1 30 = rkF (S.1 30) (nI (tS (S.1 31) (gN (S.1 30 3)) (gN (S.1 30 5)))) (nI (tE (S.1 31) (gN (S.1 30 3)) (gN (S.1 30 5)))) (nI (tK (S.1 31) (gN (S.1 30 3)) (gN (S.1 30 5)))) (tN (S.1 31) (gN (S.1 30 3)) (gN (S.1 30 5)) (S.1 30 7)) := by
  unfold rt rtC; rw [sR_e]
theorem rt_k (S : Mem) {z : Nat} (h : z ≠ 30) : (rt S).1 z = S.1 z := by unfold rt rtC; exact sR_1 h
theorem rt_2 (S : Mem) : (rt S).2 = S.2 := rfl
theorem rt_o9 (S : Mem) {j : Nat} (h : j < 4 ∨ 8 ≤ j) : (rt S).1 30 j = S.1 30 j := by
  rw [rt_f]; unfold rkF
  rw [if_neg (by omega), if_neg (by omega), if_neg (by omega), if_neg (by omega)]
theorem okQ_rt {S : Mem} (h : okT S) : okQ (rt S) := by
  obtain ⟨h1, h2, h3, h4, h5⟩ := h
  have hs := tS_le (f := S.1 31) h4
  have he := tE_le (f := S.1 31) h4
  have hb : okB (rt S) := by unfold okB; rw [rt_k S (by decide)]; exact h5
  unfold okQ okT
  rw [rt_f]
  simp only [rkF]
  simp only [reduceIte, Nat.reduceEqDiff, if_true, if_false]
  refine ⟨⟨h1, h2, ?_, ?_, hb⟩, ?_, ?_⟩
  · rw [gN_nI (by omega)]
  · rw [gN_nI (by omega)]; exact he.2
  · rw [gN_nI (by omega)]
  · rw [gN_nI (by omega), gN_nI (by omega)]; exact he.1
theorem okQ_of {S T : Mem} (h : okQ S) (e3 : T.1 30 3 = S.1 30 3) (e4 : T.1 30 4 = S.1 30 4) (e5 : T.1 30 5 = S.1 30 5) (e31 : T.1 31 = S.1 31) : okQ T := by
  unfold okQ okT okB; rw [e3, e4, e5, e31]; exact h
theorem rMu_k (S : Mem) (b : Bool) (x : Int32) {z : Nat} (h : z ≠ 30) : (rMu S b x).1 z = S.1 z := by
  unfold rMu; repeat' split
  all_goals first | rfl | rw [sI_1 h, sI_1 h]
theorem rMu_2 (S : Mem) (b : Bool) (x : Int32) : (rMu S b x).2 = S.2 := by
  unfold rMu; repeat' split
  all_goals rfl
theorem rMu_o (S : Mem) (b : Bool) (x : Int32) {j : Nat} (h8 : j ≠ 8) (h9 : j ≠ 9) : (rMu S b x).1 30 j = S.1 30 j := by
  unfold rMu; repeat' split
  all_goals first | rfl | rw [sI_e, pk_un h9, sI_e, pk_un h8]
theorem okQ_mu {S : Mem} (h : okQ S) (b : Bool) (x : Int32) : okQ (rMu S b x) := okQ_of h (rMu_o S b x (by decide) (by decide)) (rMu_o S b x (by decide) (by decide)) (rMu_o S b x (by decide) (by decide)) (rMu_k S b x (by decide))
theorem rMu_t {S : Mem} {b : Bool} {x : Int32} (hx : ¬ x = 0) (h : rOk (rMu S b x) = true) : b = true ∧ rMu S b x = S := by
  unfold rOk rMu at h
  unfold rMu
  by_cases h1 : S.1 30 8 = 0
  · rw [if_pos h1] at h ⊢
    cases b with
    | true => exact ⟨rfl, rfl⟩
    | false =>
      rw [if_neg (by decide), sI_e, pk_un (by decide), sI_e, pk_us] at h
      exact absurd (of_decide_eq_true h) hx
  · rw [if_neg h1] at h ⊢
    exact absurd (of_decide_eq_true h) h1

set_option maxRecDepth 100000 in
set_option maxHeartbeats 1000000 in
theorem ct_X11_must (l : Launch) (D : va_G) (cA : Nat → ClassId) (α : Nat → Nat) (n sz : Nat) (hn : 191 ≤ n) (S : Mem) (b : Bool) (x : Int32) : CtI l yX11_must wsX11_must ({ frames := 0, cells := 0, slots := 0, locals := 0 }) D cA α n sz [.ref (α 30), .int (b2i b), .int x] S (b2i (rOk (rMu S b x))) (rMu S b x) := by
  refine ct_enter cX11_must 3 (some .boolean) (by decide) rfl (Nat.le_of_ble_eq_true rfl) ?_
  intro p e s m below meth c hx hb hr hml hlocks hown hts hK hsz hw ls hl
  have hown : s.vm.findClass RX11 = some m.cls := hown
  have hAw : ∀ z, Aw α n s.heap.size z → Aw α n sz z := by rw [hsz]; exact fun _ h => h
  have hl : lv_has ls 3 [(0, .ref (α 30)), (1, .int (b2i b)), (2, .int x)] := hl
  refine lv_aload_n hx hb dX11_must_0 rfl (lv_at hl 0 rfl) ?_
  refine x_get (v := .int (S.1 30 8)) (C := RX11) (T := TX11) (N := 24) hx hb hts (fun _ h => List.mem_cons_of_mem _ (List.mem_append_right _ h)) hown hK hw 30 (Nat.lt_of_lt_of_le (Nat.le_of_ble_eq_true rfl : 30 < 191) hn) (mk_30 cA α) rfl 8 (by decide) (hts _ (List.mem_of_getElem? (i := 1) rfl)) (fun _ h9 => h9) rfl dX11_must_1 ?_
  refine lv_if_ne (tgt := 24) hx hb dX11_must_4 (by decide) (fun c1 => ?_) (fun c1 => ?_)
  · skip
    have hS9 : S = rMu S b x := by unfold rMu; simp only [if_neg c1, if_pos c1, decide_eq_false c1, if_true, if_false, eq_self, Bool.false_eq_true, not_true_eq_false, not_false_eq_true, decide_true, decide_false, Bool.and_true, Bool.true_and, Bool.and_false, Bool.false_and, Bool.not_true, Bool.not_false, Bool.or_true, Bool.true_or, Bool.or_false, Bool.false_or, reduceIte, b2i_t, b2i_f]; try exact eS
    refine lv_aload_n hx hb dX11_must_24 rfl (lv_at hl 0 rfl) ?_
    refine x_get (v := .int (S.1 30 8)) (C := RX11) (T := TX11) (N := 24) hx hb hts (fun _ h => List.mem_cons_of_mem _ (List.mem_append_right _ h)) hown hK hw 30 (Nat.lt_of_lt_of_le (Nat.le_of_ble_eq_true rfl : 30 < 191) hn) (mk_30 cA α) rfl 8 (by decide) (hts _ (List.mem_of_getElem? (i := 1) rfl)) (fun _ h9 => h9) rfl dX11_must_25 ?_
    refine lv_if_ne (tgt := 35) hx hb dX11_must_28 (by decide) (fun c2 => ?_) (fun c2 => ?_)
    · skip
      refine lv_iconst (v := nI 0) hx hb dX11_must_35 (by decide) ?_
      exact ret_z hx hb hr (by first | rfl | decide | exact narB _) hlocks hK hw dX11_must_36 (by rw [← hS9]; unfold rOk; first | (rw [decide_eq_true c2]; rfl) | (rw [decide_eq_false c2]; rfl)) hS9
    · skip
      refine lv_iconst (v := nI 1) hx hb dX11_must_31 (by decide) ?_
      refine lv_goto (tgt := 36) hx hb dX11_must_32 (by decide) ?_
      exact ret_z hx hb hr (by first | rfl | decide | exact narB _) hlocks hK hw dX11_must_36 (by rw [← hS9]; unfold rOk; first | (rw [decide_eq_true c2]; rfl) | (rw [decide_eq_false c2]; rfl)) hS9
  · skip
    refine lv_iload_n hx hb dX11_must_7 rfl (lv_at hl 1 rfl) ?_
    refine xb_ne (b := b) (tgt := 24) hx hb dX11_must_8 (by decide) (fun c3 => ?_) (fun c3 => ?_)
    · skip
      have hS9 : S = rMu S b x := by unfold rMu; simp only [if_pos c1, if_neg (not_not_intro c1), decide_eq_true c1, c3, if_true, if_false, eq_self, Bool.false_eq_true, not_true_eq_false, not_false_eq_true, decide_true, decide_false, Bool.and_true, Bool.true_and, Bool.and_false, Bool.false_and, Bool.not_true, Bool.not_false, Bool.or_true, Bool.true_or, Bool.or_false, Bool.false_or, reduceIte, b2i_t, b2i_f]; try exact eS
      refine lv_aload_n hx hb dX11_must_24 rfl (lv_at hl 0 rfl) ?_
      refine x_get (v := .int (S.1 30 8)) (C := RX11) (T := TX11) (N := 24) hx hb hts (fun _ h => List.mem_cons_of_mem _ (List.mem_append_right _ h)) hown hK hw 30 (Nat.lt_of_lt_of_le (Nat.le_of_ble_eq_true rfl : 30 < 191) hn) (mk_30 cA α) rfl 8 (by decide) (hts _ (List.mem_of_getElem? (i := 1) rfl)) (fun _ h9 => h9) rfl dX11_must_25 ?_
      refine lv_if_ne (tgt := 35) hx hb dX11_must_28 (by decide) (fun c4 => ?_) (fun c4 => ?_)
      · skip
        refine lv_iconst (v := nI 0) hx hb dX11_must_35 (by decide) ?_
        exact ret_z hx hb hr (by first | rfl | decide | exact narB _) hlocks hK hw dX11_must_36 (by rw [← hS9]; unfold rOk; first | (rw [decide_eq_true c4]; rfl) | (rw [decide_eq_false c4]; rfl)) hS9
      · skip
        refine lv_iconst (v := nI 1) hx hb dX11_must_31 (by decide) ?_
        refine lv_goto (tgt := 36) hx hb dX11_must_32 (by decide) ?_
        exact ret_z hx hb hr (by first | rfl | decide | exact narB _) hlocks hK hw dX11_must_36 (by rw [← hS9]; unfold rOk; first | (rw [decide_eq_true c4]; rfl) | (rw [decide_eq_false c4]; rfl)) hS9
    · skip
      refine lv_aload_n hx hb dX11_must_11 rfl (lv_at hl 0 rfl) ?_
      refine lv_iload_n hx hb dX11_must_12 rfl (lv_at hl 2 rfl) ?_
      refine x_putI (x := x) (ty := .int) (C := RX11) (T := TX11) (N := 24) hx hb hts (fun _ h => List.mem_cons_of_mem _ (List.mem_append_right _ h)) tyX11 tyX11_ok nmX11 hown hK hw 30 (Nat.lt_of_lt_of_le (Nat.le_of_ble_eq_true rfl : 30 < 191) hn) (mk_30 cA α) rfl 8 (by decide) (hts _ (List.mem_of_getElem? (i := 1) rfl)) (fun _ h9 => h9) rfl rfl rfl rfl (Nat.le_of_ble_eq_true rfl) rfl dX11_must_13 (fun S1 eS1 H locs hw => ?_)
      refine lv_aload_n hx hb dX11_must_16 rfl (lv_at hl 0 rfl) ?_
      refine lv_aload_n hx hb dX11_must_17 rfl (lv_at hl 0 rfl) ?_
      refine x_get (v := .int (S1.1 30 4)) (C := RX11) (T := TX11) (N := 24) hx hb hts (fun _ h => List.mem_cons_of_mem _ (List.mem_append_right _ h)) hown hK hw 30 (Nat.lt_of_lt_of_le (Nat.le_of_ble_eq_true rfl : 30 < 191) hn) (mk_30 cA α) rfl 4 (by decide) (hts _ (List.mem_of_getElem? (i := 2) rfl)) (fun _ h9 => h9) rfl dX11_must_18 ?_
      refine x_putI (x := S1.1 30 4) (ty := .int) (C := RX11) (T := TX11) (N := 24) hx hb hts (fun _ h => List.mem_cons_of_mem _ (List.mem_append_right _ h)) tyX11 tyX11_ok nmX11 hown hK hw 30 (Nat.lt_of_lt_of_le (Nat.le_of_ble_eq_true rfl : 30 < 191) hn) (mk_30 cA α) rfl 9 (by decide) (hts _ (List.mem_of_getElem? (i := 3) rfl)) (fun _ h9 => h9) rfl rfl rfl rfl (Nat.le_of_ble_eq_true rfl) rfl dX11_must_21 (fun S2 eS2 H locs hw => ?_)
      have eS2 : S2 = setI (setI S 30 8 x) 30 9 (S.1 30 4) := by rw [eS2, show S1.1 30 4 = S.1 30 4 by rw [eS1, sI_e, pk_un (by decide)], eS1]
      have hS9 : S2 = rMu S b x := by unfold rMu; simp only [if_pos c1, if_neg (not_not_intro c1), decide_eq_true c1, c3, if_true, if_false, eq_self, Bool.false_eq_true, not_true_eq_false, not_false_eq_true, decide_true, decide_false, Bool.and_true, Bool.true_and, Bool.and_false, Bool.false_and, Bool.not_true, Bool.not_false, Bool.or_true, Bool.true_or, Bool.or_false, Bool.false_or, reduceIte, b2i_t, b2i_f]; try exact eS2
      refine lv_aload_n hx hb dX11_must_24 rfl (lv_at hl 0 rfl) ?_
      refine x_get (v := .int (S2.1 30 8)) (C := RX11) (T := TX11) (N := 24) hx hb hts (fun _ h => List.mem_cons_of_mem _ (List.mem_append_right _ h)) hown hK hw 30 (Nat.lt_of_lt_of_le (Nat.le_of_ble_eq_true rfl : 30 < 191) hn) (mk_30 cA α) rfl 8 (by decide) (hts _ (List.mem_of_getElem? (i := 1) rfl)) (fun _ h9 => h9) rfl dX11_must_25 ?_
      refine lv_if_ne (tgt := 35) hx hb dX11_must_28 (by decide) (fun c5 => ?_) (fun c5 => ?_)
      · skip
        refine lv_iconst (v := nI 0) hx hb dX11_must_35 (by decide) ?_
        exact ret_z hx hb hr (by first | rfl | decide | exact narB _) hlocks hK hw dX11_must_36 (by rw [← hS9]; unfold rOk; first | (rw [decide_eq_true c5]; rfl) | (rw [decide_eq_false c5]; rfl)) hS9
      · skip
        refine lv_iconst (v := nI 1) hx hb dX11_must_31 (by decide) ?_
        refine lv_goto (tgt := 36) hx hb dX11_must_32 (by decide) ?_
        exact ret_z hx hb hr (by first | rfl | decide | exact narB _) hlocks hK hw dX11_must_36 (by rw [← hS9]; unfold rOk; first | (rw [decide_eq_true c5]; rfl) | (rw [decide_eq_false c5]; rfl)) hS9

def rBs (S : Mem) (i : Nat) : Bool := decide (S.1 30 6 = nI 1) && decide (gN (S.1 30 5) - gN (S.1 30 4) = wl i)
def rWd (S : Mem) (i : Nat) : Bool := rBs S i && wEq (S.1 31) (gN (S.1 30 4)) i (wl i)
theorem wEq_m {f : Nat → Int32} {s i k : Nat} (h : wEq f s i k = false) : ∀ n, k ≤ n → wEq f s i n = false
  | 0, h2 => by rw [show k = 0 by omega] at h; exact h
  | n + 1, h2 => by
    by_cases e : k = n + 1
    · rw [← e]; exact h
    · rw [wEq, wEq_m h n (by omega), Bool.false_and]
theorem rWd_f {S : Mem} {i k : Nat} (hk : k ≤ wl i) (h : (rBs S i && wEq (S.1 31) (gN (S.1 30 4)) i k) = false) : rWd S i = false := by
  unfold rWd
  cases hb : rBs S i with
  | false => rfl
  | true => rw [hb, Bool.true_and] at h; rw [wEq_m h (wl i) hk]; rfl

set_option maxRecDepth 100000 in
set_option maxHeartbeats 1000000 in
theorem ct_X11_isWord (l : Launch) (ka va : Nat → Nat) (D : va_G) (cA : Nat → ClassId) (α : Nat → Nat) (n sz : Nat) (hn : 191 ≤ n) (S : Mem) (i : Nat) (hi6 : i < 6) (h9 : okQ S) : CtIe ka va l yX11_isWord wsX11_isWord ({ frames := 6, cells := 0, slots := 0, locals := 126 }) D cA α n sz [.ref (α 30), .ref (ka i)] S (b2i (rWd S i)) S := by
  refine cte_enter cX11_isWord 4 (some .boolean) (by decide) rfl (Nat.le_of_ble_eq_true rfl) ?_
  intro p e s m below meth c hx hb hr hml hlocks hown hts hK hsz hw hE ls hl
  have hown : s.vm.findClass RX11 = some m.cls := hown
  have hAw : ∀ z, Aw α n s.heap.size z → Aw α n sz z := by rw [hsz]; exact fun _ h => h
  have hl : lv_has ls 4 [(0, .ref (α 30)), (1, .ref (ka i))] := hl
  have hwl := wl_lt i hi6
  have q1 := h9.1.2.1
  have q2 := h9.1.2.2.2.1
  have q3 := h9.2.2
  refine lv_aload_n hx hb dX11_isWord_0 rfl (lv_at hl 0 rfl) ?_
  refine x_get (v := .int (S.1 30 6)) (C := RX11) (T := TX11) (N := 24) hx hb hts (fun _ h => List.mem_cons_of_mem _ (List.mem_append_right _ h)) hown hK hw 30 (Nat.lt_of_lt_of_le (Nat.le_of_ble_eq_true rfl : 30 < 191) hn) (mk_30 cA α) rfl 6 (by decide) (hts _ (List.mem_of_getElem? (i := 1) rfl)) (fun _ h9 => h9) rfl dX11_isWord_1 ?_
  refine lv_iconst (v := nI 1) hx hb dX11_isWord_4 (by decide) ?_
  refine lv_icmp_ne (tgt := 28) hx hb dX11_isWord_5 (by decide) (fun c1 => ?_) (fun c1 => ?_)
  · skip
    refine lv_iconst (v := nI 0) hx hb dX11_isWord_28 (by decide) ?_
    refine lv_istore_n (lv' := [(2, .int (nI 0)), (0, .ref (α 30)), (1, .ref (ka i))]) hx hb dX11_isWord_29 rfl hl (by decide) rfl (fun ls hl => ?_)
    refine lv_iconst (v := nI 0) hx hb dX11_isWord_30 (by decide) ?_
    refine lv_istore_n (lv' := [(3, .int (nI 0)), (2, .int (nI 0)), (0, .ref (α 30)), (1, .ref (ka i))]) hx hb dX11_isWord_31 rfl hl (by decide) rfl (fun ls hl => ?_)
    have lp32 : ∀ (t : Nat) (k : Nat) (b : Bool) (H : Heap) (locs : List Loc) (ls : Array Slot), wl i - k < t → k ≤ wl i → b = (rBs S i && wEq (S.1 31) (gN (S.1 30 4)) i k) → Ws D cA α n (Aw α n sz) s.heap S H locs → lv_has ls 4 [(0, .ref (α 30)), (1, .ref (ka i)), (3, .int (nI k)), (2, .int (b2i b))] → W p l e ({ frames := 6, cells := 0, slots := 0, locals := 126 } : Room) s m (List.toArray ([.ref (α 30), .ref (ka i)] : List Value)) below meth c H locs 0 0 (MQ below (va_Qi (fun r u => r = (b2i (rWd S i)) ∧ u = S) (Pw D cA α n) (Aw α n sz)) (List.toArray ([.ref (α 30), .ref (ka i)] : List Value)) s 0 0 (Aw α n sz)) (F0 m 32 ls []) := by
      intro t
      induction t with
      | zero => intro k b H locs ls ht; exact absurd ht (Nat.not_lt_zero _)
      | succ t ih32 =>
        intro k b H locs ls ht hk hb9 hw hl
        refine lv_iload_n hx hb dX11_isWord_32 rfl (lv_at hl 2 rfl) ?_
        refine lv_aload_n hx hb dX11_isWord_33 rfl (lv_at hl 1 rfl) ?_
        refine x_callVIe (b := (ka i)) (C := RJ0) (As := []) (rest := [.int (nI k)]) ⟨hx, hb, hml, hown, hts⟩ (ct_J0_length_8abf5 l ka va D cA α n _ hn S i hi6) (cwV 0 hts gX11_isWord_J0_length_8abf5 rfl rfl rfl (by decide +kernel) ⟨Nat.le_of_ble_eq_true rfl, Nat.le_of_ble_eq_true rfl⟩) hK hw hsz hE (k_recv hE hw hi6) rfl hl.1 rfl (Nat.le_of_ble_eq_true rfl) dX11_isWord_34 ⟨Nat.zero_le _, Nat.zero_le _⟩ (fun S9 eS9 H locs hw => ?_)
        rw [eS9] at hw
        refine xn_icmp_ge (tgt := 75) hx hb (by omega) (by omega) dX11_isWord_37 (by decide) (fun c2 => ?_) (fun c2 => ?_)
        · skip
          refine lv_iload_n hx hb dX11_isWord_75 rfl (lv_at hl 3 rfl) ?_
          exact ret_z hx hb hr (by first | rfl | decide | exact narB _) hlocks hK hw dX11_isWord_76 (by first | (rw [hb9, show k = wl i by omega]; rfl) | (rw [c2] at hb9 ⊢; rw [rWd_f hk hb9.symm])) rfl
        · skip
          refine lv_iload_n hx hb dX11_isWord_40 rfl (lv_at hl 3 rfl) ?_
          refine xb_eq (b := b) (tgt := 75) hx hb dX11_isWord_41 (by decide) (fun c3 => ?_) (fun c3 => ?_)
          · skip
            refine lv_iload_n hx hb dX11_isWord_75 rfl (lv_at hl 3 rfl) ?_
            exact ret_z hx hb hr (by first | rfl | decide | exact narB _) hlocks hK hw dX11_isWord_76 (by first | (rw [hb9, show k = wl i by omega]; rfl) | (rw [c3] at hb9 ⊢; rw [rWd_f hk hb9.symm])) rfl
          · skip
            have hbb : rBs S i = true := by rw [hb9] at c3; exact (Bool.and_eq_true_iff.mp c3).1
            have hgl : gN (S.1 30 5) - gN (S.1 30 4) = wl i := by unfold rBs at hbb; exact of_decide_eq_true (Bool.and_eq_true_iff.mp hbb).2
            have hwk : wEq (S.1 31) (gN (S.1 30 4)) i k = true := by rw [hb9] at c3; exact (Bool.and_eq_true_iff.mp c3).2
            refine lv_aload_n hx hb dX11_isWord_44 rfl (lv_at hl 0 rfl) ?_
            refine x_get (v := .ref (α 31)) (C := RX11) (T := TX11) (N := 24) hx hb hts (fun _ h => List.mem_cons_of_mem _ (List.mem_append_right _ h)) hown hK hw 30 (Nat.lt_of_lt_of_le (Nat.le_of_ble_eq_true rfl : 30 < 191) hn) (mk_30 cA α) rfl 1 (by decide) (hts _ (List.mem_of_getElem? (i := 4) rfl)) (fun _ h9 => h9) rfl dX11_isWord_45 ?_
            refine lv_aload_n hx hb dX11_isWord_48 rfl (lv_at hl 0 rfl) ?_
            refine x_get (v := .int (S.1 30 4)) (C := RX11) (T := TX11) (N := 24) hx hb hts (fun _ h => List.mem_cons_of_mem _ (List.mem_append_right _ h)) hown hK hw 30 (Nat.lt_of_lt_of_le (Nat.le_of_ble_eq_true rfl : 30 < 191) hn) (mk_30 cA α) rfl 4 (by decide) (hts _ (List.mem_of_getElem? (i := 3) rfl)) (fun _ h9 => h9) rfl dX11_isWord_49 ?_
            refine x_topN (k := gN (S.1 30 4)) h9.2.1 ?_
            refine lv_iload_n hx hb dX11_isWord_52 rfl (lv_at hl 2 rfl) ?_
            refine xn_iadd hx hb dX11_isWord_53 ?_
            refine x_bald hx hb hK hw 31 600 (Nat.lt_of_lt_of_le (Nat.le_of_ble_eq_true rfl : 31 < 191) hn) (mk_31 cA α) ((gN (S.1 30 4)) + k) rfl (by omega) (by decide) dX11_isWord_54 ?_
            refine lv_aload_n hx hb dX11_isWord_55 rfl (lv_at hl 1 rfl) ?_
            refine lv_iload_n hx hb dX11_isWord_56 rfl (lv_at hl 2 rfl) ?_
            refine x_callVIe (b := (ka i)) (C := RJ0) (As := [.int (nI k)]) (rest := [.int (S.1 31 ((gN (S.1 30 4)) + k))]) ⟨hx, hb, hml, hown, hts⟩ (ct_J0_charAt_5068e l ka va D cA α n _ hn S i hi6 k (by omega)) (cwV 1 hts gX11_isWord_J0_charAt_5068e rfl rfl rfl (by decide +kernel) ⟨Nat.le_of_ble_eq_true rfl, Nat.le_of_ble_eq_true rfl⟩) hK hw hsz hE (k_recv hE hw hi6) rfl hl.1 rfl (Nat.le_of_ble_eq_true rfl) dX11_isWord_57 ⟨Nat.zero_le _, Nat.zero_le _⟩ (fun S9 eS9 H locs hw => ?_)
            rw [eS9] at hw
            refine lv_icmp_ne (tgt := 67) hx hb dX11_isWord_60 (by decide) (fun c4 => ?_) (fun c4 => ?_)
            · skip
              refine lv_iconst (v := nI 0) hx hb dX11_isWord_67 (by decide) ?_
              refine lv_istore_n (lv' := [(2, .int (nI 0)), (0, .ref (α 30)), (1, .ref (ka i)), (3, .int (nI k))]) hx hb dX11_isWord_68 rfl hl (by decide) rfl (fun ls hl => ?_)
              refine lv_iinc (v := nI (k + 1)) (lv' := [(3, .int (nI (k + 1))), (2, .int (nI 0)), (0, .ref (α 30)), (1, .ref (ka i))]) hx hb dX11_isWord_69 hl (k := 3) rfl (nI_1 _) (by decide) rfl (fun ls hl => ?_)
              refine lv_goto (tgt := 32) hx hb dX11_isWord_72 (by decide) ?_
              exact ih32 (k + 1) false _ _ _ (by omega) (by omega) (by rw [wEq, hbb, hwk, decide_eq_false c4]; rfl) hw (lv_sub hl [2, 3, 0, 1] rfl)
            · skip
              refine lv_iconst (v := nI 1) hx hb dX11_isWord_63 (by decide) ?_
              refine lv_goto (tgt := 68) hx hb dX11_isWord_64 (by decide) ?_
              refine lv_istore_n (lv' := [(2, .int (nI 1)), (0, .ref (α 30)), (1, .ref (ka i)), (3, .int (nI k))]) hx hb dX11_isWord_68 rfl hl (by decide) rfl (fun ls hl => ?_)
              refine lv_iinc (v := nI (k + 1)) (lv' := [(3, .int (nI (k + 1))), (2, .int (nI 1)), (0, .ref (α 30)), (1, .ref (ka i))]) hx hb dX11_isWord_69 hl (k := 3) rfl (nI_1 _) (by decide) rfl (fun ls hl => ?_)
              refine lv_goto (tgt := 32) hx hb dX11_isWord_72 (by decide) ?_
              exact ih32 (k + 1) true _ _ _ (by omega) (by omega) (by rw [wEq, hbb, hwk, decide_eq_true c4]; rfl) hw (lv_sub hl [2, 3, 0, 1] rfl)
    exact lp32 _ 0 (decide (nI 0 = nI 1)) _ _ _ (Nat.lt_succ_self _) (Nat.zero_le _) (by unfold rBs; simp only [if_neg c1, if_pos c1, decide_eq_false c1, if_true, if_false, eq_self, Bool.false_eq_true, not_true_eq_false, not_false_eq_true, decide_true, decide_false, Bool.and_true, Bool.true_and, Bool.and_false, Bool.false_and, Bool.not_true, Bool.not_false, Bool.or_true, Bool.true_or, Bool.or_false, Bool.false_or, reduceIte, b2i_t, b2i_f, wEq]; try decide) hw (lv_sub hl [2, 3, 0, 1] rfl)
  · skip
    refine lv_aload_n hx hb dX11_isWord_8 rfl (lv_at hl 0 rfl) ?_
    refine x_get (v := .int (S.1 30 5)) (C := RX11) (T := TX11) (N := 24) hx hb hts (fun _ h => List.mem_cons_of_mem _ (List.mem_append_right _ h)) hown hK hw 30 (Nat.lt_of_lt_of_le (Nat.le_of_ble_eq_true rfl : 30 < 191) hn) (mk_30 cA α) rfl 5 (by decide) (hts _ (List.mem_of_getElem? (i := 2) rfl)) (fun _ h9 => h9) rfl dX11_isWord_9 ?_
    refine x_topN (k := gN (S.1 30 5)) h9.1.2.2.1 ?_
    refine lv_aload_n hx hb dX11_isWord_12 rfl (lv_at hl 0 rfl) ?_
    refine x_get (v := .int (S.1 30 4)) (C := RX11) (T := TX11) (N := 24) hx hb hts (fun _ h => List.mem_cons_of_mem _ (List.mem_append_right _ h)) hown hK hw 30 (Nat.lt_of_lt_of_le (Nat.le_of_ble_eq_true rfl : 30 < 191) hn) (mk_30 cA α) rfl 4 (by decide) (hts _ (List.mem_of_getElem? (i := 3) rfl)) (fun _ h9 => h9) rfl dX11_isWord_13 ?_
    refine x_topN (k := gN (S.1 30 4)) h9.2.1 ?_
    refine xn_isub hx hb q3 dX11_isWord_16 ?_
    refine lv_aload_n hx hb dX11_isWord_17 rfl (lv_at hl 1 rfl) ?_
    refine x_callVIe (b := (ka i)) (C := RJ0) (As := []) (rest := [.int (nI ((gN (S.1 30 5)) - (gN (S.1 30 4))))]) ⟨hx, hb, hml, hown, hts⟩ (ct_J0_length_8abf5 l ka va D cA α n _ hn S i hi6) (cwV 0 hts gX11_isWord_J0_length_8abf5 rfl rfl rfl (by decide +kernel) ⟨Nat.le_of_ble_eq_true rfl, Nat.le_of_ble_eq_true rfl⟩) hK hw hsz hE (k_recv hE hw hi6) rfl hl.1 rfl (Nat.le_of_ble_eq_true rfl) dX11_isWord_18 ⟨Nat.zero_le _, Nat.zero_le _⟩ (fun S9 eS9 H locs hw => ?_)
    rw [eS9] at hw
    refine xn_icmp_ne (tgt := 28) hx hb (by omega) (by omega) dX11_isWord_21 (by decide) (fun c5 => ?_) (fun c5 => ?_)
    · skip
      refine lv_iconst (v := nI 0) hx hb dX11_isWord_28 (by decide) ?_
      refine lv_istore_n (lv' := [(2, .int (nI 0)), (0, .ref (α 30)), (1, .ref (ka i))]) hx hb dX11_isWord_29 rfl hl (by decide) rfl (fun ls hl => ?_)
      refine lv_iconst (v := nI 0) hx hb dX11_isWord_30 (by decide) ?_
      refine lv_istore_n (lv' := [(3, .int (nI 0)), (2, .int (nI 0)), (0, .ref (α 30)), (1, .ref (ka i))]) hx hb dX11_isWord_31 rfl hl (by decide) rfl (fun ls hl => ?_)
      have lp32 : ∀ (t : Nat) (k : Nat) (b : Bool) (H : Heap) (locs : List Loc) (ls : Array Slot), wl i - k < t → k ≤ wl i → b = (rBs S i && wEq (S.1 31) (gN (S.1 30 4)) i k) → Ws D cA α n (Aw α n sz) s.heap S H locs → lv_has ls 4 [(0, .ref (α 30)), (1, .ref (ka i)), (3, .int (nI k)), (2, .int (b2i b))] → W p l e ({ frames := 6, cells := 0, slots := 0, locals := 126 } : Room) s m (List.toArray ([.ref (α 30), .ref (ka i)] : List Value)) below meth c H locs 0 0 (MQ below (va_Qi (fun r u => r = (b2i (rWd S i)) ∧ u = S) (Pw D cA α n) (Aw α n sz)) (List.toArray ([.ref (α 30), .ref (ka i)] : List Value)) s 0 0 (Aw α n sz)) (F0 m 32 ls []) := by
        intro t
        induction t with
        | zero => intro k b H locs ls ht; exact absurd ht (Nat.not_lt_zero _)
        | succ t ih32 =>
          intro k b H locs ls ht hk hb9 hw hl
          refine lv_iload_n hx hb dX11_isWord_32 rfl (lv_at hl 2 rfl) ?_
          refine lv_aload_n hx hb dX11_isWord_33 rfl (lv_at hl 1 rfl) ?_
          refine x_callVIe (b := (ka i)) (C := RJ0) (As := []) (rest := [.int (nI k)]) ⟨hx, hb, hml, hown, hts⟩ (ct_J0_length_8abf5 l ka va D cA α n _ hn S i hi6) (cwV 0 hts gX11_isWord_J0_length_8abf5 rfl rfl rfl (by decide +kernel) ⟨Nat.le_of_ble_eq_true rfl, Nat.le_of_ble_eq_true rfl⟩) hK hw hsz hE (k_recv hE hw hi6) rfl hl.1 rfl (Nat.le_of_ble_eq_true rfl) dX11_isWord_34 ⟨Nat.zero_le _, Nat.zero_le _⟩ (fun S9 eS9 H locs hw => ?_)
          rw [eS9] at hw
          refine xn_icmp_ge (tgt := 75) hx hb (by omega) (by omega) dX11_isWord_37 (by decide) (fun c6 => ?_) (fun c6 => ?_)
          · skip
            refine lv_iload_n hx hb dX11_isWord_75 rfl (lv_at hl 3 rfl) ?_
            exact ret_z hx hb hr (by first | rfl | decide | exact narB _) hlocks hK hw dX11_isWord_76 (by first | (rw [hb9, show k = wl i by omega]; rfl) | (rw [c6] at hb9 ⊢; rw [rWd_f hk hb9.symm])) rfl
          · skip
            refine lv_iload_n hx hb dX11_isWord_40 rfl (lv_at hl 3 rfl) ?_
            refine xb_eq (b := b) (tgt := 75) hx hb dX11_isWord_41 (by decide) (fun c7 => ?_) (fun c7 => ?_)
            · skip
              refine lv_iload_n hx hb dX11_isWord_75 rfl (lv_at hl 3 rfl) ?_
              exact ret_z hx hb hr (by first | rfl | decide | exact narB _) hlocks hK hw dX11_isWord_76 (by first | (rw [hb9, show k = wl i by omega]; rfl) | (rw [c7] at hb9 ⊢; rw [rWd_f hk hb9.symm])) rfl
            · skip
              have hbb : rBs S i = true := by rw [hb9] at c7; exact (Bool.and_eq_true_iff.mp c7).1
              have hgl : gN (S.1 30 5) - gN (S.1 30 4) = wl i := by unfold rBs at hbb; exact of_decide_eq_true (Bool.and_eq_true_iff.mp hbb).2
              have hwk : wEq (S.1 31) (gN (S.1 30 4)) i k = true := by rw [hb9] at c7; exact (Bool.and_eq_true_iff.mp c7).2
              refine lv_aload_n hx hb dX11_isWord_44 rfl (lv_at hl 0 rfl) ?_
              refine x_get (v := .ref (α 31)) (C := RX11) (T := TX11) (N := 24) hx hb hts (fun _ h => List.mem_cons_of_mem _ (List.mem_append_right _ h)) hown hK hw 30 (Nat.lt_of_lt_of_le (Nat.le_of_ble_eq_true rfl : 30 < 191) hn) (mk_30 cA α) rfl 1 (by decide) (hts _ (List.mem_of_getElem? (i := 4) rfl)) (fun _ h9 => h9) rfl dX11_isWord_45 ?_
              refine lv_aload_n hx hb dX11_isWord_48 rfl (lv_at hl 0 rfl) ?_
              refine x_get (v := .int (S.1 30 4)) (C := RX11) (T := TX11) (N := 24) hx hb hts (fun _ h => List.mem_cons_of_mem _ (List.mem_append_right _ h)) hown hK hw 30 (Nat.lt_of_lt_of_le (Nat.le_of_ble_eq_true rfl : 30 < 191) hn) (mk_30 cA α) rfl 4 (by decide) (hts _ (List.mem_of_getElem? (i := 3) rfl)) (fun _ h9 => h9) rfl dX11_isWord_49 ?_
              refine x_topN (k := gN (S.1 30 4)) h9.2.1 ?_
              refine lv_iload_n hx hb dX11_isWord_52 rfl (lv_at hl 2 rfl) ?_
              refine xn_iadd hx hb dX11_isWord_53 ?_
              refine x_bald hx hb hK hw 31 600 (Nat.lt_of_lt_of_le (Nat.le_of_ble_eq_true rfl : 31 < 191) hn) (mk_31 cA α) ((gN (S.1 30 4)) + k) rfl (by omega) (by decide) dX11_isWord_54 ?_
              refine lv_aload_n hx hb dX11_isWord_55 rfl (lv_at hl 1 rfl) ?_
              refine lv_iload_n hx hb dX11_isWord_56 rfl (lv_at hl 2 rfl) ?_
              refine x_callVIe (b := (ka i)) (C := RJ0) (As := [.int (nI k)]) (rest := [.int (S.1 31 ((gN (S.1 30 4)) + k))]) ⟨hx, hb, hml, hown, hts⟩ (ct_J0_charAt_5068e l ka va D cA α n _ hn S i hi6 k (by omega)) (cwV 1 hts gX11_isWord_J0_charAt_5068e rfl rfl rfl (by decide +kernel) ⟨Nat.le_of_ble_eq_true rfl, Nat.le_of_ble_eq_true rfl⟩) hK hw hsz hE (k_recv hE hw hi6) rfl hl.1 rfl (Nat.le_of_ble_eq_true rfl) dX11_isWord_57 ⟨Nat.zero_le _, Nat.zero_le _⟩ (fun S9 eS9 H locs hw => ?_)
              rw [eS9] at hw
              refine lv_icmp_ne (tgt := 67) hx hb dX11_isWord_60 (by decide) (fun c8 => ?_) (fun c8 => ?_)
              · skip
                refine lv_iconst (v := nI 0) hx hb dX11_isWord_67 (by decide) ?_
                refine lv_istore_n (lv' := [(2, .int (nI 0)), (0, .ref (α 30)), (1, .ref (ka i)), (3, .int (nI k))]) hx hb dX11_isWord_68 rfl hl (by decide) rfl (fun ls hl => ?_)
                refine lv_iinc (v := nI (k + 1)) (lv' := [(3, .int (nI (k + 1))), (2, .int (nI 0)), (0, .ref (α 30)), (1, .ref (ka i))]) hx hb dX11_isWord_69 hl (k := 3) rfl (nI_1 _) (by decide) rfl (fun ls hl => ?_)
                refine lv_goto (tgt := 32) hx hb dX11_isWord_72 (by decide) ?_
                exact ih32 (k + 1) false _ _ _ (by omega) (by omega) (by rw [wEq, hbb, hwk, decide_eq_false c8]; rfl) hw (lv_sub hl [2, 3, 0, 1] rfl)
              · skip
                refine lv_iconst (v := nI 1) hx hb dX11_isWord_63 (by decide) ?_
                refine lv_goto (tgt := 68) hx hb dX11_isWord_64 (by decide) ?_
                refine lv_istore_n (lv' := [(2, .int (nI 1)), (0, .ref (α 30)), (1, .ref (ka i)), (3, .int (nI k))]) hx hb dX11_isWord_68 rfl hl (by decide) rfl (fun ls hl => ?_)
                refine lv_iinc (v := nI (k + 1)) (lv' := [(3, .int (nI (k + 1))), (2, .int (nI 1)), (0, .ref (α 30)), (1, .ref (ka i))]) hx hb dX11_isWord_69 hl (k := 3) rfl (nI_1 _) (by decide) rfl (fun ls hl => ?_)
                refine lv_goto (tgt := 32) hx hb dX11_isWord_72 (by decide) ?_
                exact ih32 (k + 1) true _ _ _ (by omega) (by omega) (by rw [wEq, hbb, hwk, decide_eq_true c8]; rfl) hw (lv_sub hl [2, 3, 0, 1] rfl)
      exact lp32 _ 0 (decide (nI 0 = nI 1)) _ _ _ (Nat.lt_succ_self _) (Nat.zero_le _) (by unfold rBs; simp only [if_pos c1, if_neg (not_not_intro c1), decide_eq_true c1, if_neg c5, if_pos c5, decide_eq_false c5, if_true, if_false, eq_self, Bool.false_eq_true, not_true_eq_false, not_false_eq_true, decide_true, decide_false, Bool.and_true, Bool.true_and, Bool.and_false, Bool.false_and, Bool.not_true, Bool.not_false, Bool.or_true, Bool.true_or, Bool.or_false, Bool.false_or, reduceIte, b2i_t, b2i_f, wEq]; try decide) hw (lv_sub hl [2, 3, 0, 1] rfl)
    · skip
      refine lv_iconst (v := nI 1) hx hb dX11_isWord_24 (by decide) ?_
      refine lv_goto (tgt := 29) hx hb dX11_isWord_25 (by decide) ?_
      refine lv_istore_n (lv' := [(2, .int (nI 1)), (0, .ref (α 30)), (1, .ref (ka i))]) hx hb dX11_isWord_29 rfl hl (by decide) rfl (fun ls hl => ?_)
      refine lv_iconst (v := nI 0) hx hb dX11_isWord_30 (by decide) ?_
      refine lv_istore_n (lv' := [(3, .int (nI 0)), (2, .int (nI 1)), (0, .ref (α 30)), (1, .ref (ka i))]) hx hb dX11_isWord_31 rfl hl (by decide) rfl (fun ls hl => ?_)
      have lp32 : ∀ (t : Nat) (k : Nat) (b : Bool) (H : Heap) (locs : List Loc) (ls : Array Slot), wl i - k < t → k ≤ wl i → b = (rBs S i && wEq (S.1 31) (gN (S.1 30 4)) i k) → Ws D cA α n (Aw α n sz) s.heap S H locs → lv_has ls 4 [(0, .ref (α 30)), (1, .ref (ka i)), (3, .int (nI k)), (2, .int (b2i b))] → W p l e ({ frames := 6, cells := 0, slots := 0, locals := 126 } : Room) s m (List.toArray ([.ref (α 30), .ref (ka i)] : List Value)) below meth c H locs 0 0 (MQ below (va_Qi (fun r u => r = (b2i (rWd S i)) ∧ u = S) (Pw D cA α n) (Aw α n sz)) (List.toArray ([.ref (α 30), .ref (ka i)] : List Value)) s 0 0 (Aw α n sz)) (F0 m 32 ls []) := by
        intro t
        induction t with
        | zero => intro k b H locs ls ht; exact absurd ht (Nat.not_lt_zero _)
        | succ t ih32 =>
          intro k b H locs ls ht hk hb9 hw hl
          refine lv_iload_n hx hb dX11_isWord_32 rfl (lv_at hl 2 rfl) ?_
          refine lv_aload_n hx hb dX11_isWord_33 rfl (lv_at hl 1 rfl) ?_
          refine x_callVIe (b := (ka i)) (C := RJ0) (As := []) (rest := [.int (nI k)]) ⟨hx, hb, hml, hown, hts⟩ (ct_J0_length_8abf5 l ka va D cA α n _ hn S i hi6) (cwV 0 hts gX11_isWord_J0_length_8abf5 rfl rfl rfl (by decide +kernel) ⟨Nat.le_of_ble_eq_true rfl, Nat.le_of_ble_eq_true rfl⟩) hK hw hsz hE (k_recv hE hw hi6) rfl hl.1 rfl (Nat.le_of_ble_eq_true rfl) dX11_isWord_34 ⟨Nat.zero_le _, Nat.zero_le _⟩ (fun S9 eS9 H locs hw => ?_)
          rw [eS9] at hw
          refine xn_icmp_ge (tgt := 75) hx hb (by omega) (by omega) dX11_isWord_37 (by decide) (fun c9 => ?_) (fun c9 => ?_)
          · skip
            refine lv_iload_n hx hb dX11_isWord_75 rfl (lv_at hl 3 rfl) ?_
            exact ret_z hx hb hr (by first | rfl | decide | exact narB _) hlocks hK hw dX11_isWord_76 (by first | (rw [hb9, show k = wl i by omega]; rfl) | (rw [c9] at hb9 ⊢; rw [rWd_f hk hb9.symm])) rfl
          · skip
            refine lv_iload_n hx hb dX11_isWord_40 rfl (lv_at hl 3 rfl) ?_
            refine xb_eq (b := b) (tgt := 75) hx hb dX11_isWord_41 (by decide) (fun c10 => ?_) (fun c10 => ?_)
            · skip
              refine lv_iload_n hx hb dX11_isWord_75 rfl (lv_at hl 3 rfl) ?_
              exact ret_z hx hb hr (by first | rfl | decide | exact narB _) hlocks hK hw dX11_isWord_76 (by first | (rw [hb9, show k = wl i by omega]; rfl) | (rw [c10] at hb9 ⊢; rw [rWd_f hk hb9.symm])) rfl
            · skip
              have hbb : rBs S i = true := by rw [hb9] at c10; exact (Bool.and_eq_true_iff.mp c10).1
              have hgl : gN (S.1 30 5) - gN (S.1 30 4) = wl i := by unfold rBs at hbb; exact of_decide_eq_true (Bool.and_eq_true_iff.mp hbb).2
              have hwk : wEq (S.1 31) (gN (S.1 30 4)) i k = true := by rw [hb9] at c10; exact (Bool.and_eq_true_iff.mp c10).2
              refine lv_aload_n hx hb dX11_isWord_44 rfl (lv_at hl 0 rfl) ?_
              refine x_get (v := .ref (α 31)) (C := RX11) (T := TX11) (N := 24) hx hb hts (fun _ h => List.mem_cons_of_mem _ (List.mem_append_right _ h)) hown hK hw 30 (Nat.lt_of_lt_of_le (Nat.le_of_ble_eq_true rfl : 30 < 191) hn) (mk_30 cA α) rfl 1 (by decide) (hts _ (List.mem_of_getElem? (i := 4) rfl)) (fun _ h9 => h9) rfl dX11_isWord_45 ?_
              refine lv_aload_n hx hb dX11_isWord_48 rfl (lv_at hl 0 rfl) ?_
              refine x_get (v := .int (S.1 30 4)) (C := RX11) (T := TX11) (N := 24) hx hb hts (fun _ h => List.mem_cons_of_mem _ (List.mem_append_right _ h)) hown hK hw 30 (Nat.lt_of_lt_of_le (Nat.le_of_ble_eq_true rfl : 30 < 191) hn) (mk_30 cA α) rfl 4 (by decide) (hts _ (List.mem_of_getElem? (i := 3) rfl)) (fun _ h9 => h9) rfl dX11_isWord_49 ?_
              refine x_topN (k := gN (S.1 30 4)) h9.2.1 ?_
              refine lv_iload_n hx hb dX11_isWord_52 rfl (lv_at hl 2 rfl) ?_
              refine xn_iadd hx hb dX11_isWord_53 ?_
              refine x_bald hx hb hK hw 31 600 (Nat.lt_of_lt_of_le (Nat.le_of_ble_eq_true rfl : 31 < 191) hn) (mk_31 cA α) ((gN (S.1 30 4)) + k) rfl (by omega) (by decide) dX11_isWord_54 ?_
              refine lv_aload_n hx hb dX11_isWord_55 rfl (lv_at hl 1 rfl) ?_
              refine lv_iload_n hx hb dX11_isWord_56 rfl (lv_at hl 2 rfl) ?_
              refine x_callVIe (b := (ka i)) (C := RJ0) (As := [.int (nI k)]) (rest := [.int (S.1 31 ((gN (S.1 30 4)) + k))]) ⟨hx, hb, hml, hown, hts⟩ (ct_J0_charAt_5068e l ka va D cA α n _ hn S i hi6 k (by omega)) (cwV 1 hts gX11_isWord_J0_charAt_5068e rfl rfl rfl (by decide +kernel) ⟨Nat.le_of_ble_eq_true rfl, Nat.le_of_ble_eq_true rfl⟩) hK hw hsz hE (k_recv hE hw hi6) rfl hl.1 rfl (Nat.le_of_ble_eq_true rfl) dX11_isWord_57 ⟨Nat.zero_le _, Nat.zero_le _⟩ (fun S9 eS9 H locs hw => ?_)
              rw [eS9] at hw
              refine lv_icmp_ne (tgt := 67) hx hb dX11_isWord_60 (by decide) (fun c11 => ?_) (fun c11 => ?_)
              · skip
                refine lv_iconst (v := nI 0) hx hb dX11_isWord_67 (by decide) ?_
                refine lv_istore_n (lv' := [(2, .int (nI 0)), (0, .ref (α 30)), (1, .ref (ka i)), (3, .int (nI k))]) hx hb dX11_isWord_68 rfl hl (by decide) rfl (fun ls hl => ?_)
                refine lv_iinc (v := nI (k + 1)) (lv' := [(3, .int (nI (k + 1))), (2, .int (nI 0)), (0, .ref (α 30)), (1, .ref (ka i))]) hx hb dX11_isWord_69 hl (k := 3) rfl (nI_1 _) (by decide) rfl (fun ls hl => ?_)
                refine lv_goto (tgt := 32) hx hb dX11_isWord_72 (by decide) ?_
                exact ih32 (k + 1) false _ _ _ (by omega) (by omega) (by rw [wEq, hbb, hwk, decide_eq_false c11]; rfl) hw (lv_sub hl [2, 3, 0, 1] rfl)
              · skip
                refine lv_iconst (v := nI 1) hx hb dX11_isWord_63 (by decide) ?_
                refine lv_goto (tgt := 68) hx hb dX11_isWord_64 (by decide) ?_
                refine lv_istore_n (lv' := [(2, .int (nI 1)), (0, .ref (α 30)), (1, .ref (ka i)), (3, .int (nI k))]) hx hb dX11_isWord_68 rfl hl (by decide) rfl (fun ls hl => ?_)
                refine lv_iinc (v := nI (k + 1)) (lv' := [(3, .int (nI (k + 1))), (2, .int (nI 1)), (0, .ref (α 30)), (1, .ref (ka i))]) hx hb dX11_isWord_69 hl (k := 3) rfl (nI_1 _) (by decide) rfl (fun ls hl => ?_)
                refine lv_goto (tgt := 32) hx hb dX11_isWord_72 (by decide) ?_
                exact ih32 (k + 1) true _ _ _ (by omega) (by omega) (by rw [wEq, hbb, hwk, decide_eq_true c11]; rfl) hw (lv_sub hl [2, 3, 0, 1] rfl)
      exact lp32 _ 0 (decide (nI 1 = nI 1)) _ _ _ (Nat.lt_succ_self _) (Nat.zero_le _) (by unfold rBs; simp only [if_pos c1, if_neg (not_not_intro c1), decide_eq_true c1, if_pos c5, if_neg (not_not_intro c5), decide_eq_true c5, if_true, if_false, eq_self, Bool.false_eq_true, not_true_eq_false, not_false_eq_true, decide_true, decide_false, Bool.and_true, Bool.true_and, Bool.and_false, Bool.false_and, Bool.not_true, Bool.not_false, Bool.or_true, Bool.true_or, Bool.or_false, Bool.false_or, reduceIte, b2i_t, b2i_f, wEq]; try decide) hw (lv_sub hl [2, 3, 0, 1] rfl)

def rR1 (S : Mem) : Mem := rMu S (decide (S.1 30 6 = nI 2)) (nI 1)
def rR2 (S : Mem) (lo hi : Int32) : Mem := rMu (rR1 S) (wiL ((rR1 S).1 30 7).toInt64 lo.toInt64 hi.toInt64) (nI 3)
def rRd (S : Mem) (lo hi : Int32) : Mem × Int32 := if rOk (rR1 S) then (if rOk (rR2 S lo hi) then (rt (rR2 S lo hi), (rR2 S lo hi).1 30 7) else (rR2 S lo hi, lo)) else (rR1 S, lo)
def rB1 (S : Mem) (j : Nat) (m : Int32) : Mem := rMu S (!decide (m ≤ S.1 32 j)) (nI 4)
def rBg (S : Mem) (j : Nat) (m : Int32) : Mem × Bool := if rOk (rB1 S j m) then (rt (rB1 S j m), true) else (rB1 S j m, false)
def rO1 (S : Mem) (b : Nat) : Mem := rMu S (decide ((S.1 30 12 >>> (nI b &&& 31)) &&& nI 1 = 0)) (nI 2)
def rO2 (S : Mem) (b : Nat) : Mem := setI (rO1 S b) 30 12 ((rO1 S b).1 30 12 ||| (nI 1 <<< (nI b &&& 31)))
theorem okQ_o2 {S : Mem} (h : okQ S) (b : Nat) : okQ (rO2 S b) := by
  unfold rO2 rO1
  exact okQ_of (okQ_mu h _ _) (by rw [sI_e, pk_un (by decide)]) (by rw [sI_e, pk_un (by decide)]) (by rw [sI_e, pk_un (by decide)]) (by rw [sI_1 (by decide)])
def rOn (S : Mem) (b : Nat) : Mem × Bool := if rOk (rO1 S b) then (rt (rO2 S b), true) else (rO1 S b, false)

set_option maxRecDepth 100000 in
set_option maxHeartbeats 1000000 in
theorem ct_X11_read (l : Launch) (D : va_G) (cA : Nat → ClassId) (α : Nat → Nat) (n sz : Nat) (hn : 191 ≤ n) (S : Mem) (lo hi : Int32) (h9 : okQ S) : CtI l yX11_read wsX11_read ({ frames := 2, cells := 0, slots := 0, locals := 46 }) D cA α n sz [.ref (α 30), .int lo, .int hi] S ((rRd S lo hi).2) ((rRd S lo hi).1) := by
  refine ct_enter cX11_read 4 (some .int) (by decide) rfl (Nat.le_of_ble_eq_true rfl) ?_
  intro p e s m below meth c hx hb hr hml hlocks hown hts hK hsz hw ls hl
  have hown : s.vm.findClass RX11 = some m.cls := hown
  have hAw : ∀ z, Aw α n s.heap.size z → Aw α n sz z := by rw [hsz]; exact fun _ h => h
  have hl : lv_has ls 4 [(0, .ref (α 30)), (1, .int lo), (2, .int hi)] := hl
  refine lv_aload_n hx hb dX11_read_0 rfl (lv_at hl 0 rfl) ?_
  refine lv_aload_n hx hb dX11_read_1 rfl (lv_at hl 0 rfl) ?_
  refine x_get (v := .int (S.1 30 6)) (C := RX11) (T := TX11) (N := 24) hx hb hts (fun _ h => List.mem_cons_of_mem _ (List.mem_append_right _ h)) hown hK hw 30 (Nat.lt_of_lt_of_le (Nat.le_of_ble_eq_true rfl : 30 < 191) hn) (mk_30 cA α) rfl 6 (by decide) (hts _ (List.mem_of_getElem? (i := 1) rfl)) (fun _ h9 => h9) rfl dX11_read_2 ?_
  refine lv_iconst (v := nI 2) hx hb dX11_read_5 (by decide) ?_
  refine lv_icmp_ne (tgt := 13) hx hb dX11_read_6 (by decide) (fun c1 => ?_) (fun c1 => ?_)
  · skip
    refine lv_iconst (v := nI 0) hx hb dX11_read_13 (by decide) ?_
    refine lv_iconst (v := nI 1) hx hb dX11_read_14 (by decide) ?_
    refine x_callVI (q := 30) (C := RX11) (As := [.int (b2i false), .int (nI 1)]) (rest := []) ⟨hx, hb, hml, hown, hts⟩ (ct_X11_must l D cA α n _ hn S false (nI 1)) (cwV 2 hts gX11_read_X11_must rfl rfl rfl (by decide +kernel) ⟨Nat.le_of_ble_eq_true rfl, Nat.le_of_ble_eq_true rfl⟩) hK hw hAw (ws_recv hK hw (q := 30) (Nat.lt_of_lt_of_le (Nat.le_of_ble_eq_true rfl : 30 < 191) hn) (mk_30 cA α) rfl) rfl hl.1 rfl (Nat.le_of_ble_eq_true rfl) dX11_read_15 ⟨Nat.zero_le _, Nat.zero_le _⟩ (fun S1 eS1 H locs hw => ?_)
    refine x_topE (y := b2i (rOk (rR1 S))) (by unfold rR1; simp only [if_neg c1, if_pos c1, decide_eq_false c1]) ?_
    have eS1 : S1 = rR1 S := by rw [eS1]; unfold rR1; simp only [if_neg c1, if_pos c1, decide_eq_false c1]
    refine xb_eq (b := (rOk (rR1 S))) (tgt := 41) hx hb dX11_read_18 (by decide) (fun c2 => ?_) (fun c2 => ?_)
    · skip
      refine lv_iload_n hx hb dX11_read_41 rfl (lv_at hl 1 rfl) ?_
      exact ret_i hx hb hr hlocks hK hw dX11_read_42 (by unfold rRd; simp only [if_neg c1, if_pos c1, decide_eq_false c1, c2, if_true, if_false, eq_self, Bool.false_eq_true, not_true_eq_false, not_false_eq_true, decide_true, decide_false, Bool.and_true, Bool.true_and, Bool.and_false, Bool.false_and, Bool.not_true, Bool.not_false, Bool.or_true, Bool.true_or, Bool.or_false, Bool.false_or, reduceIte, b2i_t, b2i_f]; try rfl) (by subst eS1; unfold rRd; simp only [if_neg c1, if_pos c1, decide_eq_false c1, c2, if_true, if_false, eq_self, Bool.false_eq_true, not_true_eq_false, not_false_eq_true, decide_true, decide_false, Bool.and_true, Bool.true_and, Bool.and_false, Bool.false_and, Bool.not_true, Bool.not_false, Bool.or_true, Bool.true_or, Bool.or_false, Bool.false_or, reduceIte, b2i_t, b2i_f]; try rfl)
    · skip
      refine lv_aload_n hx hb dX11_read_21 rfl (lv_at hl 0 rfl) ?_
      refine lv_aload_n hx hb dX11_read_22 rfl (lv_at hl 0 rfl) ?_
      refine x_get (v := .int (S1.1 30 7)) (C := RX11) (T := TX11) (N := 24) hx hb hts (fun _ h => List.mem_cons_of_mem _ (List.mem_append_right _ h)) hown hK hw 30 (Nat.lt_of_lt_of_le (Nat.le_of_ble_eq_true rfl : 30 < 191) hn) (mk_30 cA α) rfl 7 (by decide) (hts _ (List.mem_of_getElem? (i := 2) rfl)) (fun _ h9 => h9) rfl dX11_read_23 ?_
      refine lv_i2l hx hb dX11_read_26 rfl ?_
      refine lv_iload_n hx hb dX11_read_27 rfl (lv_at hl 1 rfl) ?_
      refine lv_i2l hx hb dX11_read_28 rfl ?_
      refine lv_iload_n hx hb dX11_read_29 rfl (lv_at hl 2 rfl) ?_
      refine lv_i2l hx hb dX11_read_30 rfl ?_
      refine x_callSIr (q := 0) (C := RX0) (As := [.long ((S1.1 30 7).toInt64), .long (lo.toInt64), .long (hi.toInt64)]) (rest := [.ref (α 30)]) ⟨hx, hb, hml, hown, hts⟩ (ct_X11_within l D cA α n _ hn S1 ((S1.1 30 7).toInt64) (lo.toInt64) (hi.toInt64)) (va_cwS 3 hts gX11_read_X11_within rfl rfl rfl (by decide +kernel) ⟨Nat.le_of_ble_eq_true rfl, Nat.le_of_ble_eq_true rfl⟩) hK hw hAw rfl hl.1 rfl (Nat.le_of_ble_eq_true rfl) dX11_read_31 ⟨Nat.zero_le _, Nat.zero_le _⟩ (fun H locs hw => ?_)
      refine lv_iconst (v := nI 3) hx hb dX11_read_34 (by decide) ?_
      refine x_callVI (q := 30) (C := RX11) (As := [.int (b2i ((wiL ((S1.1 30 7).toInt64) (lo.toInt64) (hi.toInt64)))), .int (nI 3)]) (rest := []) ⟨hx, hb, hml, hown, hts⟩ (ct_X11_must l D cA α n _ hn S1 ((wiL ((S1.1 30 7).toInt64) (lo.toInt64) (hi.toInt64))) (nI 3)) (cwV 2 hts gX11_read_X11_must rfl rfl rfl (by decide +kernel) ⟨Nat.le_of_ble_eq_true rfl, Nat.le_of_ble_eq_true rfl⟩) hK hw hAw (ws_recv hK hw (q := 30) (Nat.lt_of_lt_of_le (Nat.le_of_ble_eq_true rfl : 30 < 191) hn) (mk_30 cA α) rfl) rfl hl.1 rfl (Nat.le_of_ble_eq_true rfl) dX11_read_35 ⟨Nat.zero_le _, Nat.zero_le _⟩ (fun S2 eS2 H locs hw => ?_)
      refine x_topE (y := b2i (rOk (rR2 S lo hi))) (by rw [eS1]; rfl) ?_
      have eS2 : S2 = rR2 S lo hi := by rw [eS2, eS1]; rfl
      refine xb_ne (b := (rOk (rR2 S lo hi))) (tgt := 43) hx hb dX11_read_38 (by decide) (fun c3 => ?_) (fun c3 => ?_)
      · skip
        refine lv_aload_n hx hb dX11_read_43 rfl (lv_at hl 0 rfl) ?_
        refine x_get (v := .int (S2.1 30 7)) (C := RX11) (T := TX11) (N := 24) hx hb hts (fun _ h => List.mem_cons_of_mem _ (List.mem_append_right _ h)) hown hK hw 30 (Nat.lt_of_lt_of_le (Nat.le_of_ble_eq_true rfl : 30 < 191) hn) (mk_30 cA α) rfl 7 (by decide) (hts _ (List.mem_of_getElem? (i := 2) rfl)) (fun _ h9 => h9) rfl dX11_read_44 ?_
        refine lv_istore_n (lv' := [(3, .int (S2.1 30 7)), (0, .ref (α 30)), (1, .int lo), (2, .int hi)]) hx hb dX11_read_47 rfl hl (by decide) rfl (fun ls hl => ?_)
        refine lv_aload_n hx hb dX11_read_48 rfl (lv_at hl 1 rfl) ?_
        refine x_callVV (q := 30) (C := RX11) (As := []) (rest := []) ⟨hx, hb, hml, hown, hts⟩ (ct_X11_nextToken l D cA α n _ hn S2 (gN (S2.1 30 3)) (gN (S2.1 30 5)) (by subst eS2; subst eS1; exact ((okQ_mu (okQ_mu h9 _ _) _ _).1).1) (by subst eS2; subst eS1; exact ((okQ_mu (okQ_mu h9 _ _) _ _).1).2.1) (by subst eS2; subst eS1; exact ((okQ_mu (okQ_mu h9 _ _) _ _).1).2.2.1) (by subst eS2; subst eS1; exact ((okQ_mu (okQ_mu h9 _ _) _ _).1).2.2.2.1) (by subst eS2; subst eS1; exact ((okQ_mu (okQ_mu h9 _ _) _ _).1).2.2.2.2)) (cwV 0 hts gX11_read_X11_nextToken rfl rfl rfl (by decide +kernel) ⟨Nat.le_of_ble_eq_true rfl, Nat.le_of_ble_eq_true rfl⟩) hK hw hAw (ws_recv hK hw (q := 30) (Nat.lt_of_lt_of_le (Nat.le_of_ble_eq_true rfl : 30 < 191) hn) (mk_30 cA α) rfl) rfl hl.1 rfl (Nat.le_of_ble_eq_true rfl) dX11_read_49 ⟨Nat.zero_le _, Nat.zero_le _⟩ (fun S3 eS3 H locs hw => ?_)
        refine lv_iload_n hx hb dX11_read_52 rfl (lv_at hl 0 rfl) ?_
        exact ret_i hx hb hr hlocks hK hw dX11_read_53 (by subst eS3; subst eS2; subst eS1; unfold rRd; simp only [if_neg c1, if_pos c1, decide_eq_false c1, c2, c3, if_true, if_false, eq_self, Bool.false_eq_true, not_true_eq_false, not_false_eq_true, decide_true, decide_false, Bool.and_true, Bool.true_and, Bool.and_false, Bool.false_and, Bool.not_true, Bool.not_false, Bool.or_true, Bool.true_or, Bool.or_false, Bool.false_or, reduceIte, b2i_t, b2i_f]; try rfl) (by subst eS3; subst eS2; subst eS1; unfold rRd; simp only [if_neg c1, if_pos c1, decide_eq_false c1, c2, c3, if_true, if_false, eq_self, Bool.false_eq_true, not_true_eq_false, not_false_eq_true, decide_true, decide_false, Bool.and_true, Bool.true_and, Bool.and_false, Bool.false_and, Bool.not_true, Bool.not_false, Bool.or_true, Bool.true_or, Bool.or_false, Bool.false_or, reduceIte, b2i_t, b2i_f]; try rfl)
      · skip
        refine lv_iload_n hx hb dX11_read_41 rfl (lv_at hl 1 rfl) ?_
        exact ret_i hx hb hr hlocks hK hw dX11_read_42 (by unfold rRd; simp only [if_neg c1, if_pos c1, decide_eq_false c1, c2, c3, if_true, if_false, eq_self, Bool.false_eq_true, not_true_eq_false, not_false_eq_true, decide_true, decide_false, Bool.and_true, Bool.true_and, Bool.and_false, Bool.false_and, Bool.not_true, Bool.not_false, Bool.or_true, Bool.true_or, Bool.or_false, Bool.false_or, reduceIte, b2i_t, b2i_f]; try rfl) (by subst eS2; subst eS1; unfold rRd; simp only [if_neg c1, if_pos c1, decide_eq_false c1, c2, c3, if_true, if_false, eq_self, Bool.false_eq_true, not_true_eq_false, not_false_eq_true, decide_true, decide_false, Bool.and_true, Bool.true_and, Bool.and_false, Bool.false_and, Bool.not_true, Bool.not_false, Bool.or_true, Bool.true_or, Bool.or_false, Bool.false_or, reduceIte, b2i_t, b2i_f]; try rfl)
  · skip
    refine lv_iconst (v := nI 1) hx hb dX11_read_9 (by decide) ?_
    refine lv_goto (tgt := 14) hx hb dX11_read_10 (by decide) ?_
    refine lv_iconst (v := nI 1) hx hb dX11_read_14 (by decide) ?_
    refine x_callVI (q := 30) (C := RX11) (As := [.int (b2i true), .int (nI 1)]) (rest := []) ⟨hx, hb, hml, hown, hts⟩ (ct_X11_must l D cA α n _ hn S true (nI 1)) (cwV 2 hts gX11_read_X11_must rfl rfl rfl (by decide +kernel) ⟨Nat.le_of_ble_eq_true rfl, Nat.le_of_ble_eq_true rfl⟩) hK hw hAw (ws_recv hK hw (q := 30) (Nat.lt_of_lt_of_le (Nat.le_of_ble_eq_true rfl : 30 < 191) hn) (mk_30 cA α) rfl) rfl hl.1 rfl (Nat.le_of_ble_eq_true rfl) dX11_read_15 ⟨Nat.zero_le _, Nat.zero_le _⟩ (fun S4 eS4 H locs hw => ?_)
    refine x_topE (y := b2i (rOk (rR1 S))) (by unfold rR1; simp only [if_pos c1, if_neg (not_not_intro c1), decide_eq_true c1]) ?_
    have eS4 : S4 = rR1 S := by rw [eS4]; unfold rR1; simp only [if_pos c1, if_neg (not_not_intro c1), decide_eq_true c1]
    refine xb_eq (b := (rOk (rR1 S))) (tgt := 41) hx hb dX11_read_18 (by decide) (fun c4 => ?_) (fun c4 => ?_)
    · skip
      refine lv_iload_n hx hb dX11_read_41 rfl (lv_at hl 1 rfl) ?_
      exact ret_i hx hb hr hlocks hK hw dX11_read_42 (by unfold rRd; simp only [if_pos c1, if_neg (not_not_intro c1), decide_eq_true c1, c4, if_true, if_false, eq_self, Bool.false_eq_true, not_true_eq_false, not_false_eq_true, decide_true, decide_false, Bool.and_true, Bool.true_and, Bool.and_false, Bool.false_and, Bool.not_true, Bool.not_false, Bool.or_true, Bool.true_or, Bool.or_false, Bool.false_or, reduceIte, b2i_t, b2i_f]; try rfl) (by subst eS4; unfold rRd; simp only [if_pos c1, if_neg (not_not_intro c1), decide_eq_true c1, c4, if_true, if_false, eq_self, Bool.false_eq_true, not_true_eq_false, not_false_eq_true, decide_true, decide_false, Bool.and_true, Bool.true_and, Bool.and_false, Bool.false_and, Bool.not_true, Bool.not_false, Bool.or_true, Bool.true_or, Bool.or_false, Bool.false_or, reduceIte, b2i_t, b2i_f]; try rfl)
    · skip
      refine lv_aload_n hx hb dX11_read_21 rfl (lv_at hl 0 rfl) ?_
      refine lv_aload_n hx hb dX11_read_22 rfl (lv_at hl 0 rfl) ?_
      refine x_get (v := .int (S4.1 30 7)) (C := RX11) (T := TX11) (N := 24) hx hb hts (fun _ h => List.mem_cons_of_mem _ (List.mem_append_right _ h)) hown hK hw 30 (Nat.lt_of_lt_of_le (Nat.le_of_ble_eq_true rfl : 30 < 191) hn) (mk_30 cA α) rfl 7 (by decide) (hts _ (List.mem_of_getElem? (i := 2) rfl)) (fun _ h9 => h9) rfl dX11_read_23 ?_
      refine lv_i2l hx hb dX11_read_26 rfl ?_
      refine lv_iload_n hx hb dX11_read_27 rfl (lv_at hl 1 rfl) ?_
      refine lv_i2l hx hb dX11_read_28 rfl ?_
      refine lv_iload_n hx hb dX11_read_29 rfl (lv_at hl 2 rfl) ?_
      refine lv_i2l hx hb dX11_read_30 rfl ?_
      refine x_callSIr (q := 0) (C := RX0) (As := [.long ((S4.1 30 7).toInt64), .long (lo.toInt64), .long (hi.toInt64)]) (rest := [.ref (α 30)]) ⟨hx, hb, hml, hown, hts⟩ (ct_X11_within l D cA α n _ hn S4 ((S4.1 30 7).toInt64) (lo.toInt64) (hi.toInt64)) (va_cwS 3 hts gX11_read_X11_within rfl rfl rfl (by decide +kernel) ⟨Nat.le_of_ble_eq_true rfl, Nat.le_of_ble_eq_true rfl⟩) hK hw hAw rfl hl.1 rfl (Nat.le_of_ble_eq_true rfl) dX11_read_31 ⟨Nat.zero_le _, Nat.zero_le _⟩ (fun H locs hw => ?_)
      refine lv_iconst (v := nI 3) hx hb dX11_read_34 (by decide) ?_
      refine x_callVI (q := 30) (C := RX11) (As := [.int (b2i ((wiL ((S4.1 30 7).toInt64) (lo.toInt64) (hi.toInt64)))), .int (nI 3)]) (rest := []) ⟨hx, hb, hml, hown, hts⟩ (ct_X11_must l D cA α n _ hn S4 ((wiL ((S4.1 30 7).toInt64) (lo.toInt64) (hi.toInt64))) (nI 3)) (cwV 2 hts gX11_read_X11_must rfl rfl rfl (by decide +kernel) ⟨Nat.le_of_ble_eq_true rfl, Nat.le_of_ble_eq_true rfl⟩) hK hw hAw (ws_recv hK hw (q := 30) (Nat.lt_of_lt_of_le (Nat.le_of_ble_eq_true rfl : 30 < 191) hn) (mk_30 cA α) rfl) rfl hl.1 rfl (Nat.le_of_ble_eq_true rfl) dX11_read_35 ⟨Nat.zero_le _, Nat.zero_le _⟩ (fun S5 eS5 H locs hw => ?_)
      refine x_topE (y := b2i (rOk (rR2 S lo hi))) (by rw [eS4]; rfl) ?_
      have eS5 : S5 = rR2 S lo hi := by rw [eS5, eS4]; rfl
      refine xb_ne (b := (rOk (rR2 S lo hi))) (tgt := 43) hx hb dX11_read_38 (by decide) (fun c5 => ?_) (fun c5 => ?_)
      · skip
        refine lv_aload_n hx hb dX11_read_43 rfl (lv_at hl 0 rfl) ?_
        refine x_get (v := .int (S5.1 30 7)) (C := RX11) (T := TX11) (N := 24) hx hb hts (fun _ h => List.mem_cons_of_mem _ (List.mem_append_right _ h)) hown hK hw 30 (Nat.lt_of_lt_of_le (Nat.le_of_ble_eq_true rfl : 30 < 191) hn) (mk_30 cA α) rfl 7 (by decide) (hts _ (List.mem_of_getElem? (i := 2) rfl)) (fun _ h9 => h9) rfl dX11_read_44 ?_
        refine lv_istore_n (lv' := [(3, .int (S5.1 30 7)), (0, .ref (α 30)), (1, .int lo), (2, .int hi)]) hx hb dX11_read_47 rfl hl (by decide) rfl (fun ls hl => ?_)
        refine lv_aload_n hx hb dX11_read_48 rfl (lv_at hl 1 rfl) ?_
        refine x_callVV (q := 30) (C := RX11) (As := []) (rest := []) ⟨hx, hb, hml, hown, hts⟩ (ct_X11_nextToken l D cA α n _ hn S5 (gN (S5.1 30 3)) (gN (S5.1 30 5)) (by subst eS5; subst eS4; exact ((okQ_mu (okQ_mu h9 _ _) _ _).1).1) (by subst eS5; subst eS4; exact ((okQ_mu (okQ_mu h9 _ _) _ _).1).2.1) (by subst eS5; subst eS4; exact ((okQ_mu (okQ_mu h9 _ _) _ _).1).2.2.1) (by subst eS5; subst eS4; exact ((okQ_mu (okQ_mu h9 _ _) _ _).1).2.2.2.1) (by subst eS5; subst eS4; exact ((okQ_mu (okQ_mu h9 _ _) _ _).1).2.2.2.2)) (cwV 0 hts gX11_read_X11_nextToken rfl rfl rfl (by decide +kernel) ⟨Nat.le_of_ble_eq_true rfl, Nat.le_of_ble_eq_true rfl⟩) hK hw hAw (ws_recv hK hw (q := 30) (Nat.lt_of_lt_of_le (Nat.le_of_ble_eq_true rfl : 30 < 191) hn) (mk_30 cA α) rfl) rfl hl.1 rfl (Nat.le_of_ble_eq_true rfl) dX11_read_49 ⟨Nat.zero_le _, Nat.zero_le _⟩ (fun S6 eS6 H locs hw => ?_)
        refine lv_iload_n hx hb dX11_read_52 rfl (lv_at hl 0 rfl) ?_
        exact ret_i hx hb hr hlocks hK hw dX11_read_53 (by subst eS6; subst eS5; subst eS4; unfold rRd; simp only [if_pos c1, if_neg (not_not_intro c1), decide_eq_true c1, c4, c5, if_true, if_false, eq_self, Bool.false_eq_true, not_true_eq_false, not_false_eq_true, decide_true, decide_false, Bool.and_true, Bool.true_and, Bool.and_false, Bool.false_and, Bool.not_true, Bool.not_false, Bool.or_true, Bool.true_or, Bool.or_false, Bool.false_or, reduceIte, b2i_t, b2i_f]; try rfl) (by subst eS6; subst eS5; subst eS4; unfold rRd; simp only [if_pos c1, if_neg (not_not_intro c1), decide_eq_true c1, c4, c5, if_true, if_false, eq_self, Bool.false_eq_true, not_true_eq_false, not_false_eq_true, decide_true, decide_false, Bool.and_true, Bool.true_and, Bool.and_false, Bool.false_and, Bool.not_true, Bool.not_false, Bool.or_true, Bool.true_or, Bool.or_false, Bool.false_or, reduceIte, b2i_t, b2i_f]; try rfl)
      · skip
        refine lv_iload_n hx hb dX11_read_41 rfl (lv_at hl 1 rfl) ?_
        exact ret_i hx hb hr hlocks hK hw dX11_read_42 (by unfold rRd; simp only [if_pos c1, if_neg (not_not_intro c1), decide_eq_true c1, c4, c5, if_true, if_false, eq_self, Bool.false_eq_true, not_true_eq_false, not_false_eq_true, decide_true, decide_false, Bool.and_true, Bool.true_and, Bool.and_false, Bool.false_and, Bool.not_true, Bool.not_false, Bool.or_true, Bool.true_or, Bool.or_false, Bool.false_or, reduceIte, b2i_t, b2i_f]; try rfl) (by subst eS5; subst eS4; unfold rRd; simp only [if_pos c1, if_neg (not_not_intro c1), decide_eq_true c1, c4, c5, if_true, if_false, eq_self, Bool.false_eq_true, not_true_eq_false, not_false_eq_true, decide_true, decide_false, Bool.and_true, Bool.true_and, Bool.and_false, Bool.false_and, Bool.not_true, Bool.not_false, Bool.or_true, Bool.true_or, Bool.or_false, Bool.false_or, reduceIte, b2i_t, b2i_f]; try rfl)

set_option maxRecDepth 100000 in
set_option maxHeartbeats 1000000 in
theorem ct_X11_begins (l : Launch) (D : va_G) (cA : Nat → ClassId) (α : Nat → Nat) (n sz : Nat) (hn : 191 ≤ n) (S : Mem) (j m9 : Nat) (hj : j < 40) (h9 : okQ S) : CtI l yX11_begins wsX11_begins ({ frames := 2, cells := 0, slots := 0, locals := 46 }) D cA α n sz [.ref (α 30), .int (nI j), .int (nI m9)] S (b2i (rBg S j (nI m9)).2) ((rBg S j (nI m9)).1) := by
  refine ct_enter cX11_begins 3 (some .boolean) (by decide) rfl (Nat.le_of_ble_eq_true rfl) ?_
  intro p e s m below meth c hx hb hr hml hlocks hown hts hK hsz hw ls hl
  have hown : s.vm.findClass RX11 = some m.cls := hown
  have hAw : ∀ z, Aw α n s.heap.size z → Aw α n sz z := by rw [hsz]; exact fun _ h => h
  have hl : lv_has ls 3 [(0, .ref (α 30)), (1, .int (nI j)), (2, .int (nI m9))] := hl
  refine lv_aload_n hx hb dX11_begins_0 rfl (lv_at hl 0 rfl) ?_
  refine lv_aload_n hx hb dX11_begins_1 rfl (lv_at hl 0 rfl) ?_
  refine x_get (v := .ref (α 32)) (C := RX11) (T := TX11) (N := 24) hx hb hts (fun _ h => List.mem_cons_of_mem _ (List.mem_append_right _ h)) hown hK hw 30 (Nat.lt_of_lt_of_le (Nat.le_of_ble_eq_true rfl : 30 < 191) hn) (mk_30 cA α) rfl 10 (by decide) (hts _ (List.mem_of_getElem? (i := 1) rfl)) (fun _ h9 => h9) rfl dX11_begins_2 ?_
  refine lv_iload_n hx hb dX11_begins_5 rfl (lv_at hl 1 rfl) ?_
  refine x_iald hx hb hK hw 32 40 (Nat.lt_of_lt_of_le (Nat.le_of_ble_eq_true rfl : 32 < 191) hn) (mk_32 cA α) j rfl (by omega) (by decide) dX11_begins_6 ?_
  refine lv_iload_n hx hb dX11_begins_7 rfl (lv_at hl 2 rfl) ?_
  refine lv_icmp_ge (tgt := 15) hx hb dX11_begins_8 (by decide) (fun c1 => ?_) (fun c1 => ?_)
  · skip
    refine lv_iconst (v := nI 0) hx hb dX11_begins_15 (by decide) ?_
    refine lv_iconst (v := nI 4) hx hb dX11_begins_16 (by decide) ?_
    refine x_callVI (q := 30) (C := RX11) (As := [.int (b2i false), .int (nI 4)]) (rest := []) ⟨hx, hb, hml, hown, hts⟩ (ct_X11_must l D cA α n _ hn S false (nI 4)) (cwV 2 hts gX11_begins_X11_must rfl rfl rfl (by decide +kernel) ⟨Nat.le_of_ble_eq_true rfl, Nat.le_of_ble_eq_true rfl⟩) hK hw hAw (ws_recv hK hw (q := 30) (Nat.lt_of_lt_of_le (Nat.le_of_ble_eq_true rfl : 30 < 191) hn) (mk_30 cA α) rfl) rfl hl.1 rfl (Nat.le_of_ble_eq_true rfl) dX11_begins_17 ⟨Nat.zero_le _, Nat.zero_le _⟩ (fun S1 eS1 H locs hw => ?_)
    refine x_topE (y := b2i (rOk (rB1 S j (nI m9)))) (by unfold rB1; simp only [if_pos c1, if_neg (not_not_intro c1), decide_eq_true c1, Bool.not_true, Bool.not_false]) ?_
    have eS1 : S1 = rB1 S j (nI m9) := by rw [eS1]; unfold rB1; simp only [if_pos c1, if_neg (not_not_intro c1), decide_eq_true c1, Bool.not_true, Bool.not_false]
    refine xb_ne (b := (rOk (rB1 S j (nI m9)))) (tgt := 25) hx hb dX11_begins_20 (by decide) (fun c2 => ?_) (fun c2 => ?_)
    · skip
      refine lv_aload_n hx hb dX11_begins_25 rfl (lv_at hl 0 rfl) ?_
      refine x_callVV (q := 30) (C := RX11) (As := []) (rest := []) ⟨hx, hb, hml, hown, hts⟩ (ct_X11_nextToken l D cA α n _ hn S1 (gN (S1.1 30 3)) (gN (S1.1 30 5)) (by subst eS1; exact ((okQ_mu h9 _ _).1).1) (by subst eS1; exact ((okQ_mu h9 _ _).1).2.1) (by subst eS1; exact ((okQ_mu h9 _ _).1).2.2.1) (by subst eS1; exact ((okQ_mu h9 _ _).1).2.2.2.1) (by subst eS1; exact ((okQ_mu h9 _ _).1).2.2.2.2)) (cwV 0 hts gX11_begins_X11_nextToken rfl rfl rfl (by decide +kernel) ⟨Nat.le_of_ble_eq_true rfl, Nat.le_of_ble_eq_true rfl⟩) hK hw hAw (ws_recv hK hw (q := 30) (Nat.lt_of_lt_of_le (Nat.le_of_ble_eq_true rfl : 30 < 191) hn) (mk_30 cA α) rfl) rfl hl.1 rfl (Nat.le_of_ble_eq_true rfl) dX11_begins_26 ⟨Nat.zero_le _, Nat.zero_le _⟩ (fun S2 eS2 H locs hw => ?_)
      refine lv_iconst (v := nI 1) hx hb dX11_begins_29 (by decide) ?_
      exact ret_z hx hb hr (by first | rfl | decide | exact narB _) hlocks hK hw dX11_begins_30 (by unfold rBg; simp only [if_pos c1, if_neg (not_not_intro c1), decide_eq_true c1, c2, if_true, if_false, eq_self, Bool.false_eq_true, not_true_eq_false, not_false_eq_true, decide_true, decide_false, Bool.and_true, Bool.true_and, Bool.and_false, Bool.false_and, Bool.not_true, Bool.not_false, Bool.or_true, Bool.true_or, Bool.or_false, Bool.false_or, reduceIte, b2i_t, b2i_f]; try rfl) (by subst eS2; subst eS1; unfold rBg; simp only [if_pos c1, if_neg (not_not_intro c1), decide_eq_true c1, c2, if_true, if_false, eq_self, Bool.false_eq_true, not_true_eq_false, not_false_eq_true, decide_true, decide_false, Bool.and_true, Bool.true_and, Bool.and_false, Bool.false_and, Bool.not_true, Bool.not_false, Bool.or_true, Bool.true_or, Bool.or_false, Bool.false_or, reduceIte, b2i_t, b2i_f]; try rfl)
    · skip
      refine lv_iconst (v := nI 0) hx hb dX11_begins_23 (by decide) ?_
      exact ret_z hx hb hr (by first | rfl | decide | exact narB _) hlocks hK hw dX11_begins_24 (by unfold rBg; simp only [if_pos c1, if_neg (not_not_intro c1), decide_eq_true c1, c2, if_true, if_false, eq_self, Bool.false_eq_true, not_true_eq_false, not_false_eq_true, decide_true, decide_false, Bool.and_true, Bool.true_and, Bool.and_false, Bool.false_and, Bool.not_true, Bool.not_false, Bool.or_true, Bool.true_or, Bool.or_false, Bool.false_or, reduceIte, b2i_t, b2i_f]; try rfl) (by subst eS1; unfold rBg; simp only [if_pos c1, if_neg (not_not_intro c1), decide_eq_true c1, c2, if_true, if_false, eq_self, Bool.false_eq_true, not_true_eq_false, not_false_eq_true, decide_true, decide_false, Bool.and_true, Bool.true_and, Bool.and_false, Bool.false_and, Bool.not_true, Bool.not_false, Bool.or_true, Bool.true_or, Bool.or_false, Bool.false_or, reduceIte, b2i_t, b2i_f]; try rfl)
  · skip
    refine lv_iconst (v := nI 1) hx hb dX11_begins_11 (by decide) ?_
    refine lv_goto (tgt := 16) hx hb dX11_begins_12 (by decide) ?_
    refine lv_iconst (v := nI 4) hx hb dX11_begins_16 (by decide) ?_
    refine x_callVI (q := 30) (C := RX11) (As := [.int (b2i true), .int (nI 4)]) (rest := []) ⟨hx, hb, hml, hown, hts⟩ (ct_X11_must l D cA α n _ hn S true (nI 4)) (cwV 2 hts gX11_begins_X11_must rfl rfl rfl (by decide +kernel) ⟨Nat.le_of_ble_eq_true rfl, Nat.le_of_ble_eq_true rfl⟩) hK hw hAw (ws_recv hK hw (q := 30) (Nat.lt_of_lt_of_le (Nat.le_of_ble_eq_true rfl : 30 < 191) hn) (mk_30 cA α) rfl) rfl hl.1 rfl (Nat.le_of_ble_eq_true rfl) dX11_begins_17 ⟨Nat.zero_le _, Nat.zero_le _⟩ (fun S3 eS3 H locs hw => ?_)
    refine x_topE (y := b2i (rOk (rB1 S j (nI m9)))) (by unfold rB1; simp only [if_neg c1, if_pos c1, decide_eq_false c1, Bool.not_true, Bool.not_false]) ?_
    have eS3 : S3 = rB1 S j (nI m9) := by rw [eS3]; unfold rB1; simp only [if_neg c1, if_pos c1, decide_eq_false c1, Bool.not_true, Bool.not_false]
    refine xb_ne (b := (rOk (rB1 S j (nI m9)))) (tgt := 25) hx hb dX11_begins_20 (by decide) (fun c3 => ?_) (fun c3 => ?_)
    · skip
      refine lv_aload_n hx hb dX11_begins_25 rfl (lv_at hl 0 rfl) ?_
      refine x_callVV (q := 30) (C := RX11) (As := []) (rest := []) ⟨hx, hb, hml, hown, hts⟩ (ct_X11_nextToken l D cA α n _ hn S3 (gN (S3.1 30 3)) (gN (S3.1 30 5)) (by subst eS3; exact ((okQ_mu h9 _ _).1).1) (by subst eS3; exact ((okQ_mu h9 _ _).1).2.1) (by subst eS3; exact ((okQ_mu h9 _ _).1).2.2.1) (by subst eS3; exact ((okQ_mu h9 _ _).1).2.2.2.1) (by subst eS3; exact ((okQ_mu h9 _ _).1).2.2.2.2)) (cwV 0 hts gX11_begins_X11_nextToken rfl rfl rfl (by decide +kernel) ⟨Nat.le_of_ble_eq_true rfl, Nat.le_of_ble_eq_true rfl⟩) hK hw hAw (ws_recv hK hw (q := 30) (Nat.lt_of_lt_of_le (Nat.le_of_ble_eq_true rfl : 30 < 191) hn) (mk_30 cA α) rfl) rfl hl.1 rfl (Nat.le_of_ble_eq_true rfl) dX11_begins_26 ⟨Nat.zero_le _, Nat.zero_le _⟩ (fun S4 eS4 H locs hw => ?_)
      refine lv_iconst (v := nI 1) hx hb dX11_begins_29 (by decide) ?_
      exact ret_z hx hb hr (by first | rfl | decide | exact narB _) hlocks hK hw dX11_begins_30 (by unfold rBg; simp only [if_neg c1, if_pos c1, decide_eq_false c1, c3, if_true, if_false, eq_self, Bool.false_eq_true, not_true_eq_false, not_false_eq_true, decide_true, decide_false, Bool.and_true, Bool.true_and, Bool.and_false, Bool.false_and, Bool.not_true, Bool.not_false, Bool.or_true, Bool.true_or, Bool.or_false, Bool.false_or, reduceIte, b2i_t, b2i_f]; try rfl) (by subst eS4; subst eS3; unfold rBg; simp only [if_neg c1, if_pos c1, decide_eq_false c1, c3, if_true, if_false, eq_self, Bool.false_eq_true, not_true_eq_false, not_false_eq_true, decide_true, decide_false, Bool.and_true, Bool.true_and, Bool.and_false, Bool.false_and, Bool.not_true, Bool.not_false, Bool.or_true, Bool.true_or, Bool.or_false, Bool.false_or, reduceIte, b2i_t, b2i_f]; try rfl)
    · skip
      refine lv_iconst (v := nI 0) hx hb dX11_begins_23 (by decide) ?_
      exact ret_z hx hb hr (by first | rfl | decide | exact narB _) hlocks hK hw dX11_begins_24 (by unfold rBg; simp only [if_neg c1, if_pos c1, decide_eq_false c1, c3, if_true, if_false, eq_self, Bool.false_eq_true, not_true_eq_false, not_false_eq_true, decide_true, decide_false, Bool.and_true, Bool.true_and, Bool.and_false, Bool.false_and, Bool.not_true, Bool.not_false, Bool.or_true, Bool.true_or, Bool.or_false, Bool.false_or, reduceIte, b2i_t, b2i_f]; try rfl) (by subst eS3; unfold rBg; simp only [if_neg c1, if_pos c1, decide_eq_false c1, c3, if_true, if_false, eq_self, Bool.false_eq_true, not_true_eq_false, not_false_eq_true, decide_true, decide_false, Bool.and_true, Bool.true_and, Bool.and_false, Bool.false_and, Bool.not_true, Bool.not_false, Bool.or_true, Bool.true_or, Bool.or_false, Bool.false_or, reduceIte, b2i_t, b2i_f]; try rfl)

set_option maxRecDepth 100000 in
set_option maxHeartbeats 1000000 in
theorem ct_X11_once (l : Launch) (D : va_G) (cA : Nat → ClassId) (α : Nat → Nat) (n sz : Nat) (hn : 191 ≤ n) (S : Mem) (b9 : Nat) (h9 : okQ S) : CtI l yX11_once wsX11_once ({ frames := 2, cells := 0, slots := 0, locals := 46 }) D cA α n sz [.ref (α 30), .int (nI b9)] S (b2i (rOn S b9).2) ((rOn S b9).1) := by
  refine ct_enter cX11_once 2 (some .boolean) (by decide) rfl (Nat.le_of_ble_eq_true rfl) ?_
  intro p e s m below meth c hx hb hr hml hlocks hown hts hK hsz hw ls hl
  have hown : s.vm.findClass RX11 = some m.cls := hown
  have hAw : ∀ z, Aw α n s.heap.size z → Aw α n sz z := by rw [hsz]; exact fun _ h => h
  have hl : lv_has ls 2 [(0, .ref (α 30)), (1, .int (nI b9))] := hl
  refine lv_aload_n hx hb dX11_once_0 rfl (lv_at hl 0 rfl) ?_
  refine lv_aload_n hx hb dX11_once_1 rfl (lv_at hl 0 rfl) ?_
  refine x_get (v := .int (S.1 30 12)) (C := RX11) (T := TX11) (N := 24) hx hb hts (fun _ h => List.mem_cons_of_mem _ (List.mem_append_right _ h)) hown hK hw 30 (Nat.lt_of_lt_of_le (Nat.le_of_ble_eq_true rfl : 30 < 191) hn) (mk_30 cA α) rfl 12 (by decide) (hts _ (List.mem_of_getElem? (i := 1) rfl)) (fun _ h9 => h9) rfl dX11_once_2 ?_
  refine lv_iload_n hx hb dX11_once_5 rfl (lv_at hl 1 rfl) ?_
  refine lv_ishr hx hb dX11_once_6 ?_
  refine lv_iconst (v := nI 1) hx hb dX11_once_7 (by decide) ?_
  refine lv_iand hx hb dX11_once_8 ?_
  refine lv_if_ne (tgt := 16) hx hb dX11_once_9 (by decide) (fun c1 => ?_) (fun c1 => ?_)
  · skip
    refine lv_iconst (v := nI 0) hx hb dX11_once_16 (by decide) ?_
    refine lv_iconst (v := nI 2) hx hb dX11_once_17 (by decide) ?_
    refine x_callVI (q := 30) (C := RX11) (As := [.int (b2i false), .int (nI 2)]) (rest := []) ⟨hx, hb, hml, hown, hts⟩ (ct_X11_must l D cA α n _ hn S false (nI 2)) (cwV 2 hts gX11_once_X11_must rfl rfl rfl (by decide +kernel) ⟨Nat.le_of_ble_eq_true rfl, Nat.le_of_ble_eq_true rfl⟩) hK hw hAw (ws_recv hK hw (q := 30) (Nat.lt_of_lt_of_le (Nat.le_of_ble_eq_true rfl : 30 < 191) hn) (mk_30 cA α) rfl) rfl hl.1 rfl (Nat.le_of_ble_eq_true rfl) dX11_once_18 ⟨Nat.zero_le _, Nat.zero_le _⟩ (fun S1 eS1 H locs hw => ?_)
    refine x_topE (y := b2i (rOk (rO1 S b9))) (by unfold rO1; simp only [if_neg c1, if_pos c1, decide_eq_false c1]) ?_
    have eS1 : S1 = rO1 S b9 := by rw [eS1]; unfold rO1; simp only [if_neg c1, if_pos c1, decide_eq_false c1]
    refine xb_ne (b := (rOk (rO1 S b9))) (tgt := 26) hx hb dX11_once_21 (by decide) (fun c2 => ?_) (fun c2 => ?_)
    · skip
      refine lv_aload_n hx hb dX11_once_26 rfl (lv_at hl 0 rfl) ?_
      refine lv_dup hx hb dX11_once_27 rfl ?_
      refine x_get (v := .int (S1.1 30 12)) (C := RX11) (T := TX11) (N := 24) hx hb hts (fun _ h => List.mem_cons_of_mem _ (List.mem_append_right _ h)) hown hK hw 30 (Nat.lt_of_lt_of_le (Nat.le_of_ble_eq_true rfl : 30 < 191) hn) (mk_30 cA α) rfl 12 (by decide) (hts _ (List.mem_of_getElem? (i := 1) rfl)) (fun _ h9 => h9) rfl dX11_once_28 ?_
      refine lv_iconst (v := nI 1) hx hb dX11_once_31 (by decide) ?_
      refine lv_iload_n hx hb dX11_once_32 rfl (lv_at hl 1 rfl) ?_
      refine lv_ishl hx hb dX11_once_33 ?_
      refine lv_ior hx hb dX11_once_34 ?_
      refine x_putI (x := (S1.1 30 12) ||| ((nI 1) <<< ((nI b9) &&& 31))) (ty := .int) (C := RX11) (T := TX11) (N := 24) hx hb hts (fun _ h => List.mem_cons_of_mem _ (List.mem_append_right _ h)) tyX11 tyX11_ok nmX11 hown hK hw 30 (Nat.lt_of_lt_of_le (Nat.le_of_ble_eq_true rfl : 30 < 191) hn) (mk_30 cA α) rfl 12 (by decide) (hts _ (List.mem_of_getElem? (i := 1) rfl)) (fun _ h9 => h9) rfl rfl rfl rfl (Nat.le_of_ble_eq_true rfl) rfl dX11_once_35 (fun S2 eS2 H locs hw => ?_)
      have eS2 : S2 = rO2 S b9 := by rw [eS2, eS1]; rfl
      refine lv_aload_n hx hb dX11_once_38 rfl (lv_at hl 0 rfl) ?_
      refine x_callVV (q := 30) (C := RX11) (As := []) (rest := []) ⟨hx, hb, hml, hown, hts⟩ (ct_X11_nextToken l D cA α n _ hn S2 (gN (S2.1 30 3)) (gN (S2.1 30 5)) (by subst eS2; subst eS1; exact ((okQ_o2 h9 b9).1).1) (by subst eS2; subst eS1; exact ((okQ_o2 h9 b9).1).2.1) (by subst eS2; subst eS1; exact ((okQ_o2 h9 b9).1).2.2.1) (by subst eS2; subst eS1; exact ((okQ_o2 h9 b9).1).2.2.2.1) (by subst eS2; subst eS1; exact ((okQ_o2 h9 b9).1).2.2.2.2)) (cwV 0 hts gX11_once_X11_nextToken rfl rfl rfl (by decide +kernel) ⟨Nat.le_of_ble_eq_true rfl, Nat.le_of_ble_eq_true rfl⟩) hK hw hAw (ws_recv hK hw (q := 30) (Nat.lt_of_lt_of_le (Nat.le_of_ble_eq_true rfl : 30 < 191) hn) (mk_30 cA α) rfl) rfl hl.1 rfl (Nat.le_of_ble_eq_true rfl) dX11_once_39 ⟨Nat.zero_le _, Nat.zero_le _⟩ (fun S3 eS3 H locs hw => ?_)
      refine lv_iconst (v := nI 1) hx hb dX11_once_42 (by decide) ?_
      exact ret_z hx hb hr (by first | rfl | decide | exact narB _) hlocks hK hw dX11_once_43 (by unfold rOn; simp only [if_neg c1, if_pos c1, decide_eq_false c1, c2, if_true, if_false, eq_self, Bool.false_eq_true, not_true_eq_false, not_false_eq_true, decide_true, decide_false, Bool.and_true, Bool.true_and, Bool.and_false, Bool.false_and, Bool.not_true, Bool.not_false, Bool.or_true, Bool.true_or, Bool.or_false, Bool.false_or, reduceIte, b2i_t, b2i_f]; try rfl) (by subst eS3; subst eS2; subst eS1; unfold rOn; simp only [if_neg c1, if_pos c1, decide_eq_false c1, c2, if_true, if_false, eq_self, Bool.false_eq_true, not_true_eq_false, not_false_eq_true, decide_true, decide_false, Bool.and_true, Bool.true_and, Bool.and_false, Bool.false_and, Bool.not_true, Bool.not_false, Bool.or_true, Bool.true_or, Bool.or_false, Bool.false_or, reduceIte, b2i_t, b2i_f]; try rfl)
    · skip
      refine lv_iconst (v := nI 0) hx hb dX11_once_24 (by decide) ?_
      exact ret_z hx hb hr (by first | rfl | decide | exact narB _) hlocks hK hw dX11_once_25 (by unfold rOn; simp only [if_neg c1, if_pos c1, decide_eq_false c1, c2, if_true, if_false, eq_self, Bool.false_eq_true, not_true_eq_false, not_false_eq_true, decide_true, decide_false, Bool.and_true, Bool.true_and, Bool.and_false, Bool.false_and, Bool.not_true, Bool.not_false, Bool.or_true, Bool.true_or, Bool.or_false, Bool.false_or, reduceIte, b2i_t, b2i_f]; try rfl) (by subst eS1; unfold rOn; simp only [if_neg c1, if_pos c1, decide_eq_false c1, c2, if_true, if_false, eq_self, Bool.false_eq_true, not_true_eq_false, not_false_eq_true, decide_true, decide_false, Bool.and_true, Bool.true_and, Bool.and_false, Bool.false_and, Bool.not_true, Bool.not_false, Bool.or_true, Bool.true_or, Bool.or_false, Bool.false_or, reduceIte, b2i_t, b2i_f]; try rfl)
  · skip
    refine lv_iconst (v := nI 1) hx hb dX11_once_12 (by decide) ?_
    refine lv_goto (tgt := 17) hx hb dX11_once_13 (by decide) ?_
    refine lv_iconst (v := nI 2) hx hb dX11_once_17 (by decide) ?_
    refine x_callVI (q := 30) (C := RX11) (As := [.int (b2i true), .int (nI 2)]) (rest := []) ⟨hx, hb, hml, hown, hts⟩ (ct_X11_must l D cA α n _ hn S true (nI 2)) (cwV 2 hts gX11_once_X11_must rfl rfl rfl (by decide +kernel) ⟨Nat.le_of_ble_eq_true rfl, Nat.le_of_ble_eq_true rfl⟩) hK hw hAw (ws_recv hK hw (q := 30) (Nat.lt_of_lt_of_le (Nat.le_of_ble_eq_true rfl : 30 < 191) hn) (mk_30 cA α) rfl) rfl hl.1 rfl (Nat.le_of_ble_eq_true rfl) dX11_once_18 ⟨Nat.zero_le _, Nat.zero_le _⟩ (fun S4 eS4 H locs hw => ?_)
    refine x_topE (y := b2i (rOk (rO1 S b9))) (by unfold rO1; simp only [if_pos c1, if_neg (not_not_intro c1), decide_eq_true c1]) ?_
    have eS4 : S4 = rO1 S b9 := by rw [eS4]; unfold rO1; simp only [if_pos c1, if_neg (not_not_intro c1), decide_eq_true c1]
    refine xb_ne (b := (rOk (rO1 S b9))) (tgt := 26) hx hb dX11_once_21 (by decide) (fun c3 => ?_) (fun c3 => ?_)
    · skip
      refine lv_aload_n hx hb dX11_once_26 rfl (lv_at hl 0 rfl) ?_
      refine lv_dup hx hb dX11_once_27 rfl ?_
      refine x_get (v := .int (S4.1 30 12)) (C := RX11) (T := TX11) (N := 24) hx hb hts (fun _ h => List.mem_cons_of_mem _ (List.mem_append_right _ h)) hown hK hw 30 (Nat.lt_of_lt_of_le (Nat.le_of_ble_eq_true rfl : 30 < 191) hn) (mk_30 cA α) rfl 12 (by decide) (hts _ (List.mem_of_getElem? (i := 1) rfl)) (fun _ h9 => h9) rfl dX11_once_28 ?_
      refine lv_iconst (v := nI 1) hx hb dX11_once_31 (by decide) ?_
      refine lv_iload_n hx hb dX11_once_32 rfl (lv_at hl 1 rfl) ?_
      refine lv_ishl hx hb dX11_once_33 ?_
      refine lv_ior hx hb dX11_once_34 ?_
      refine x_putI (x := (S4.1 30 12) ||| ((nI 1) <<< ((nI b9) &&& 31))) (ty := .int) (C := RX11) (T := TX11) (N := 24) hx hb hts (fun _ h => List.mem_cons_of_mem _ (List.mem_append_right _ h)) tyX11 tyX11_ok nmX11 hown hK hw 30 (Nat.lt_of_lt_of_le (Nat.le_of_ble_eq_true rfl : 30 < 191) hn) (mk_30 cA α) rfl 12 (by decide) (hts _ (List.mem_of_getElem? (i := 1) rfl)) (fun _ h9 => h9) rfl rfl rfl rfl (Nat.le_of_ble_eq_true rfl) rfl dX11_once_35 (fun S5 eS5 H locs hw => ?_)
      have eS5 : S5 = rO2 S b9 := by rw [eS5, eS4]; rfl
      refine lv_aload_n hx hb dX11_once_38 rfl (lv_at hl 0 rfl) ?_
      refine x_callVV (q := 30) (C := RX11) (As := []) (rest := []) ⟨hx, hb, hml, hown, hts⟩ (ct_X11_nextToken l D cA α n _ hn S5 (gN (S5.1 30 3)) (gN (S5.1 30 5)) (by subst eS5; subst eS4; exact ((okQ_o2 h9 b9).1).1) (by subst eS5; subst eS4; exact ((okQ_o2 h9 b9).1).2.1) (by subst eS5; subst eS4; exact ((okQ_o2 h9 b9).1).2.2.1) (by subst eS5; subst eS4; exact ((okQ_o2 h9 b9).1).2.2.2.1) (by subst eS5; subst eS4; exact ((okQ_o2 h9 b9).1).2.2.2.2)) (cwV 0 hts gX11_once_X11_nextToken rfl rfl rfl (by decide +kernel) ⟨Nat.le_of_ble_eq_true rfl, Nat.le_of_ble_eq_true rfl⟩) hK hw hAw (ws_recv hK hw (q := 30) (Nat.lt_of_lt_of_le (Nat.le_of_ble_eq_true rfl : 30 < 191) hn) (mk_30 cA α) rfl) rfl hl.1 rfl (Nat.le_of_ble_eq_true rfl) dX11_once_39 ⟨Nat.zero_le _, Nat.zero_le _⟩ (fun S6 eS6 H locs hw => ?_)
      refine lv_iconst (v := nI 1) hx hb dX11_once_42 (by decide) ?_
      exact ret_z hx hb hr (by first | rfl | decide | exact narB _) hlocks hK hw dX11_once_43 (by unfold rOn; simp only [if_pos c1, if_neg (not_not_intro c1), decide_eq_true c1, c3, if_true, if_false, eq_self, Bool.false_eq_true, not_true_eq_false, not_false_eq_true, decide_true, decide_false, Bool.and_true, Bool.true_and, Bool.and_false, Bool.false_and, Bool.not_true, Bool.not_false, Bool.or_true, Bool.true_or, Bool.or_false, Bool.false_or, reduceIte, b2i_t, b2i_f]; try rfl) (by subst eS6; subst eS5; subst eS4; unfold rOn; simp only [if_pos c1, if_neg (not_not_intro c1), decide_eq_true c1, c3, if_true, if_false, eq_self, Bool.false_eq_true, not_true_eq_false, not_false_eq_true, decide_true, decide_false, Bool.and_true, Bool.true_and, Bool.and_false, Bool.false_and, Bool.not_true, Bool.not_false, Bool.or_true, Bool.true_or, Bool.or_false, Bool.false_or, reduceIte, b2i_t, b2i_f]; try rfl)
    · skip
      refine lv_iconst (v := nI 0) hx hb dX11_once_24 (by decide) ?_
      exact ret_z hx hb hr (by first | rfl | decide | exact narB _) hlocks hK hw dX11_once_25 (by unfold rOn; simp only [if_pos c1, if_neg (not_not_intro c1), decide_eq_true c1, c3, if_true, if_false, eq_self, Bool.false_eq_true, not_true_eq_false, not_false_eq_true, decide_true, decide_false, Bool.and_true, Bool.true_and, Bool.and_false, Bool.false_and, Bool.not_true, Bool.not_false, Bool.or_true, Bool.true_or, Bool.or_false, Bool.false_or, reduceIte, b2i_t, b2i_f]; try rfl) (by subst eS4; unfold rOn; simp only [if_pos c1, if_neg (not_not_intro c1), decide_eq_true c1, c3, if_true, if_false, eq_self, Bool.false_eq_true, not_true_eq_false, not_false_eq_true, decide_true, decide_false, Bool.and_true, Bool.true_and, Bool.and_false, Bool.false_and, Bool.not_true, Bool.not_false, Bool.or_true, Bool.true_or, Bool.or_false, Bool.false_or, reduceIte, b2i_t, b2i_f]; try rfl)
