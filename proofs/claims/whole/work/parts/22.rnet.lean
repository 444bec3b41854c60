/-! the reference: its netting run -/
theorem rVal_of2 {S T : Mem} {j : Nat} (e1 : T.1 34 = S.1 34) (e2 : T.1 33 = S.1 33) (e3 : ∀ z, 9 ≤ z → T.2 35 z = S.2 35 z) : rVal T j = rVal S j := by
  unfold rVal rRate; rw [e1, e2, e3 _ (by omega), e3 _ (by omega)]
theorem gPos_of {S T : Mem} {x : Int32} (e1 : T.1 34 = S.1 34) (e2 : T.1 33 = S.1 33) (e3 : ∀ z, 9 ≤ z → T.2 35 z = S.2 35 z) : gPos T x = gPos S x := by
  funext j
  unfold gPos rIs
  rw [e1, rVal_of2 e1 e2 e3]
def rPs (S : Mem) (N : Nat) (f : Nat → Int64) (c : Nat) : Nat → Int64 := fun j => if 3 ≤ j ∧ j < 3 + c then sumL (gPos S (nI (j - 3))) N else f j
theorem rPs_0 (S : Mem) (N : Nat) (f : Nat → Int64) : rPs S N f 0 = f := by funext j; unfold rPs; rw [if_neg (by omega)]
theorem rPs_s (S : Mem) (N : Nat) (f : Nat → Int64) (c : Nat) : vp_updL (rPs S N f c) (3 + c) (sumL (gPos S (nI c)) N) = rPs S N f (c + 1) := by
  funext j
  unfold vp_updL rPs
  by_cases h : j = 3 + c
  · rw [if_pos h, if_pos (by omega), show j - 3 = c by omega]
  · rw [if_neg h]
    by_cases h2 : 3 ≤ j ∧ j < 3 + c
    · rw [if_pos h2, if_pos (by omega)]
    · rw [if_neg h2, if_neg (by omega)]
theorem rPs_hi (S : Mem) (N : Nat) (f : Nat → Int64) {c z : Nat} (hc : c ≤ 6) (h : 9 ≤ z ∨ z < 3) : rPs S N f c z = f z := by unfold rPs; rw [if_neg (by omega)]
def rPay (S : Mem) (N c : Nat) : Bool := !decide (nI c = S.1 33 4) && !decide (sumL (gPos S (nI c)) N = 0)
def rN1 (S : Mem) (k N Cn : Nat) : Mem := setL (K0 S k) 35 (rPs S N (S.2 35) Cn)
def rN2 (S : Mem) (k N Cn : Nat) : Mem := setJ (rN1 S k N Cn) 35 1 (S.2 35 1 + (nI (cnt (rPay S N) Cn)).toInt64 * (S.1 33 5).toInt64)
def rSe1 (U : Mem) (i b : Nat) : Mem := setJ U 35 0 (U.2 35 0 + (rVal U i - rVal U b))
def rSe2 (U : Mem) (i b : Nat) : Mem := setJ (rSe1 U i b) 35 (209 + i) (rVal (rSe1 U i b) i)
def rSe3 (U : Mem) (i b : Nat) : Mem := setJ (rSe2 U i b) 35 (209 + b) (rVal (rSe2 U i b) b)
def rSe (U : Mem) (i b : Nat) : Mem := setI (setI (rSe3 U i b) 34 (8 + 6 * i + 4) (nI 3)) 34 (8 + 6 * b + 4) (nI 3)
def rNt (U : Mem) : Nat → Mem
  | 0 => U
  | i + 1 => if rIs (rNt U i) i (nI 0) (nI 1) then rSe (rNt U i) i (gN (U.1 34 (8 + 6 * i + 5))) else rNt U i
theorem rSe_k (U : Mem) (i b : Nat) {z : Nat} (h : z ≠ 34) : (rSe U i b).1 z = U.1 z := by
  unfold rSe rSe3 rSe2 rSe1; rw [sI_1 h, sI_1 h, sJ_1, sJ_1, sJ_1]
theorem rSe_34 (U : Mem) (i b : Nat) {z : Nat} (h : z < 8 ∨ z % 6 ≠ 0) : (rSe U i b).1 34 z = U.1 34 z := by
  unfold rSe rSe3 rSe2 rSe1; rw [sI_e, pk_un (by omega), sI_e, pk_un (by omega), sJ_1, sJ_1, sJ_1]
theorem rNt_k (U : Mem) {z : Nat} (h : z ≠ 34) : ∀ i, (rNt U i).1 z = U.1 z
  | 0 => rfl
  | i + 1 => by
    rw [rNt]
    split
    · rw [rSe_k _ _ _ h]; exact rNt_k U h i
    · exact rNt_k U h i
theorem rNt_34 (U : Mem) {z : Nat} (h : z < 8 ∨ z % 6 ≠ 0) : ∀ i, (rNt U i).1 34 z = U.1 34 z
  | 0 => rfl
  | i + 1 => by
    rw [rNt]
    split
    · rw [rSe_34 _ _ _ h]; exact rNt_34 U h i
    · exact rNt_34 U h i
theorem rNt_st (U : Mem) (z : Nat) : ∀ i, (rNt U i).1 34 z = U.1 34 z ∨ (rNt U i).1 34 z = nI 3
  | 0 => Or.inl rfl
  | i + 1 => by
    have ih := rNt_st U z i
    rw [rNt]
    split
    · unfold rSe
      rw [sI_e]
      unfold upd
      split
      · exact Or.inr rfl
      · rw [sI_e]
        unfold upd
        split
        · exact Or.inr rfl
        · exact ih
    · exact ih
theorem rIs_back {U : Mem} {i : Nat} (h : rIs (rNt U i) i (nI 0) (nI 1) = true) : rIs U i (nI 0) (nI 1) = true := by
  unfold rIs at h ⊢
  simp only [Bool.and_eq_true, decide_eq_true_eq] at h ⊢
  refine ⟨?_, ?_⟩
  · rw [← rNt_34 U (by omega) i]; exact h.1
  · rcases rNt_st U (8 + 6 * i + 4) i with q | q
    · rw [← q]; exact h.2
    · rw [q] at h; exact absurd h.2 (by decide)
theorem rN2_34 (S : Mem) (k N Cn : Nat) : (rN2 S k N Cn).1 34 = S.1 34 := by unfold rN2 rN1; rw [sJ_1, sL_1]; exact K0_34 S k
theorem rN2_33 (S : Mem) (k N Cn : Nat) : (rN2 S k N Cn).1 33 = S.1 33 := by unfold rN2 rN1; rw [sJ_1, sL_1]; exact K0_33 S k
theorem rIs_30 (S : Mem) (x : Int32) : rIs (setI S 30 0 x) = rIs S := rfl

set_option maxRecDepth 100000 in
set_option maxHeartbeats 1000000 in
theorem ct_X11_net (l : Launch) (D : va_G) (cA : Nat → ClassId) (α : Nat → Nat) (n sz : Nat) (hn : 191 ≤ n) (S : Mem) (Cn : Nat) (hC : S.1 33 1 = nI Cn) (hC2 : Cn ≤ 6) (N : Nat) (hN : S.1 34 0 = nI N) (hN2 : N ≤ 100) (ho : ∀ j, j < N → okR S j) (hv : ¬ cnt (fun j => rIs S j (nI 0) (nI 1)) N = 0) (hpr : ∀ i, i < N → rIs S i (nI 0) (nI 1) = true → S.1 34 (8 + 6 * i + 5) = nI (gN (S.1 34 (8 + 6 * i + 5))) ∧ okR S (gN (S.1 34 (8 + 6 * i + 5)))) (k : Nat) (hk : S.1 30 17 = nI k) (hk2 : k ≤ 10) : CtI l yX11_net wsX11_net ({ frames := 4, cells := 0, slots := 0, locals := 88 }) D cA α n sz [.ref (α 30)] S (nI (cnt (rPay S N) Cn)) (rNt (rN2 S k N Cn) N) := by
  refine ct_enter cX11_net 4 (some .int) (by decide) rfl (Nat.le_of_ble_eq_true rfl) ?_
  intro p e s m below meth c hx hb hr hml hlocks hown hts hK hsz hw ls hl
  have hown : s.vm.findClass RX11 = some m.cls := hown
  have hAw : ∀ z, Aw α n s.heap.size z → Aw α n sz z := by rw [hsz]; exact fun _ h => h
  have hl : lv_has ls 4 [(0, .ref (α 30))] := hl
  have hcl := cnt_le (fun j => rIs S j (nI 0) (nI 1)) N
  have hcl2 := cnt_le (rPay S N) Cn
  refine lv_aload_n hx hb dX11_net_0 rfl (lv_at hl 0 rfl) ?_
  refine lv_iconst (v := nI 0) hx hb dX11_net_1 (by decide) ?_
  refine x_putI (x := nI 0) (ty := .int) (C := RX11) (T := TX11) (N := 24) hx hb hts (fun _ h => List.mem_cons_of_mem _ (List.mem_append_right _ h)) tyX11 tyX11_ok nmX11 hown hK hw 30 (Nat.lt_of_lt_of_le (Nat.le_of_ble_eq_true rfl : 30 < 191) hn) (mk_30 cA α) rfl 0 (by decide) (hts _ (List.mem_of_getElem? (i := 1) rfl)) (fun _ h9 => h9) rfl rfl rfl rfl (Nat.le_of_ble_eq_true rfl) rfl dX11_net_2 (fun S1 eS1 H locs hw => ?_)
  refine lv_aload_n hx hb dX11_net_5 rfl (lv_at hl 0 rfl) ?_
  refine lv_iconst (v := nI 1) hx hb dX11_net_6 (by decide) ?_
  refine x_callVIr (q := 30) (C := RX11) (As := [.int (nI 1)]) (rest := []) ⟨hx, hb, hml, hown, hts⟩ (ct_X11_pairs l D cA α n _ hn S1 (nI 1) N (by subst eS1; exact hN) hN2) (cwV 1 hts gX11_net_X11_pairs rfl rfl rfl (by decide +kernel) ⟨Nat.le_of_ble_eq_true rfl, Nat.le_of_ble_eq_true rfl⟩) hK hw hAw (ws_recv hK hw (q := 30) (Nat.lt_of_lt_of_le (Nat.le_of_ble_eq_true rfl : 30 < 191) hn) (mk_30 cA α) rfl) rfl hl.1 rfl (Nat.le_of_ble_eq_true rfl) dX11_net_7 ⟨Nat.zero_le _, Nat.zero_le _⟩ (fun H locs hw => ?_)
  refine x_topE (y := nI (cnt (fun j => rIs S j (nI 0) (nI 1)) N)) (by rw [eS1, rIs_30]) ?_
  refine xn_if_ne (tgt := 19) hx hb (by omega) dX11_net_10 (by decide) (fun c1 => ?_) (fun c1 => ?_)
  · skip
    refine lv_aload_n hx hb dX11_net_19 rfl (lv_at hl 0 rfl) ?_
    refine x_callVV (q := 30) (C := RX11) (As := []) (rest := []) ⟨hx, hb, hml, hown, hts⟩ (ct_X11_keepU l D cA α n _ hn S1 k (by subst eS1; exact hk) hk2) (cwV 0 hts gX11_net_X11_keep rfl rfl rfl (by decide +kernel) ⟨Nat.le_of_ble_eq_true rfl, Nat.le_of_ble_eq_true rfl⟩) hK hw hAw (ws_recv hK hw (q := 30) (Nat.lt_of_lt_of_le (Nat.le_of_ble_eq_true rfl : 30 < 191) hn) (mk_30 cA α) rfl) rfl hl.1 rfl (Nat.le_of_ble_eq_true rfl) dX11_net_20 ⟨Nat.zero_le _, Nat.zero_le _⟩ (fun S2 eS2 H locs hw => ?_)
    refine lv_iconst (v := nI 0) hx hb dX11_net_23 (by decide) ?_
    refine lv_istore_n (lv' := [(1, .int (nI 0)), (0, .ref (α 30))]) hx hb dX11_net_24 rfl hl (by decide) rfl (fun ls hl => ?_)
    refine lv_iconst (v := nI 0) hx hb dX11_net_25 (by decide) ?_
    refine lv_istore_n (lv' := [(2, .int (nI 0)), (1, .int (nI 0)), (0, .ref (α 30))]) hx hb dX11_net_26 rfl hl (by decide) rfl (fun ls hl => ?_)
    have lp27 : ∀ (t : Nat) (c9 : Nat) (r : Nat) (T : Mem) (H : Heap) (locs : List Loc) (ls : Array Slot), Cn - c9 < t → c9 ≤ Cn → r = cnt (rPay S N) c9 → T = setL (K0 S k) 35 (rPs S N (S.2 35) c9) → Ws D cA α n (Aw α n sz) s.heap T H locs → lv_has ls 4 [(0, .ref (α 30)), (2, .int (nI c9)), (1, .int (nI r))] → W p l e ({ frames := 4, cells := 0, slots := 0, locals := 88 } : Room) s m (List.toArray ([.ref (α 30)] : List Value)) below meth c H locs 0 0 (MQ below (va_Qi (fun r u => r = (nI (cnt (rPay S N) Cn)) ∧ u = (rNt (rN2 S k N Cn) N)) (Pw D cA α n) (Aw α n sz)) (List.toArray ([.ref (α 30)] : List Value)) s 0 0 (Aw α n sz)) (F0 m 27 ls []) := by
      intro t
      induction t with
      | zero => intro c9 r T H locs ls ht; exact absurd ht (Nat.not_lt_zero _)
      | succ t ih27 =>
        intro c9 r T H locs ls ht hj hr9 hT hw hl
        refine lv_iload_n hx hb dX11_net_27 rfl (lv_at hl 1 rfl) ?_
        refine lv_aload_n hx hb dX11_net_28 rfl (lv_at hl 0 rfl) ?_
        refine x_get (v := .ref (α 33)) (C := RX11) (T := TX11) (N := 24) hx hb hts (fun _ h => List.mem_cons_of_mem _ (List.mem_append_right _ h)) hown hK hw 30 (Nat.lt_of_lt_of_le (Nat.le_of_ble_eq_true rfl : 30 < 191) hn) (mk_30 cA α) rfl 11 (by decide) (hts _ (List.mem_of_getElem? (i := 2) rfl)) (fun _ h9 => h9) rfl dX11_net_29 ?_
        refine lv_iconst (v := nI 1) hx hb dX11_net_32 (by decide) ?_
        refine x_iald hx hb hK hw 33 40 (Nat.lt_of_lt_of_le (Nat.le_of_ble_eq_true rfl : 33 < 191) hn) (mk_33 cA α) 1 rfl (by decide) (by decide) dX11_net_33 ?_
        refine x_topN (k := Cn) (by rw [hT, sL_1]; exact (congrFun (K0_33 S k) 1).trans hC) ?_
        refine xn_icmp_ge (tgt := 79) hx hb (by omega) (by omega) dX11_net_34 (by decide) (fun c2 => ?_) (fun c2 => ?_)
        · skip
          refine lv_aload_n hx hb dX11_net_79 rfl (lv_at hl 0 rfl) ?_
          refine x_get (v := .ref (α 35)) (C := RX11) (T := TX11) (N := 24) hx hb hts (fun _ h => List.mem_cons_of_mem _ (List.mem_append_right _ h)) hown hK hw 30 (Nat.lt_of_lt_of_le (Nat.le_of_ble_eq_true rfl : 30 < 191) hn) (mk_30 cA α) rfl 14 (by decide) (hts _ (List.mem_of_getElem? (i := 3) rfl)) (fun _ h9 => h9) rfl dX11_net_80 ?_
          refine lv_iconst (v := nI 1) hx hb dX11_net_83 (by decide) ?_
          refine lv_dup2_11 hx hb dX11_net_84 rfl rfl ?_
          refine x_lald hx hb hK hw 35 309 (Nat.lt_of_lt_of_le (Nat.le_of_ble_eq_true rfl : 35 < 191) hn) (mk_35 cA α) 1 rfl (by decide) (by decide) dX11_net_85 ?_
          refine x_topEL (y := S.2 35 1) (by rw [hT, sL_e]; exact rPs_hi _ _ _ (by omega) (Or.inr (by decide))) ?_
          refine lv_iload_n hx hb dX11_net_86 rfl (lv_at hl 2 rfl) ?_
          refine lv_i2l hx hb dX11_net_87 rfl ?_
          refine lv_aload_n hx hb dX11_net_88 rfl (lv_at hl 0 rfl) ?_
          refine x_get (v := .ref (α 33)) (C := RX11) (T := TX11) (N := 24) hx hb hts (fun _ h => List.mem_cons_of_mem _ (List.mem_append_right _ h)) hown hK hw 30 (Nat.lt_of_lt_of_le (Nat.le_of_ble_eq_true rfl : 30 < 191) hn) (mk_30 cA α) rfl 11 (by decide) (hts _ (List.mem_of_getElem? (i := 2) rfl)) (fun _ h9 => h9) rfl dX11_net_89 ?_
          refine lv_iconst (v := nI 5) hx hb dX11_net_92 (by decide) ?_
          refine x_iald hx hb hK hw 33 40 (Nat.lt_of_lt_of_le (Nat.le_of_ble_eq_true rfl : 33 < 191) hn) (mk_33 cA α) 5 rfl (by decide) (by decide) dX11_net_93 ?_
          refine x_topE (y := S.1 33 5) (by rw [hT, sL_1]; exact congrFun (K0_33 S k) 5) ?_
          refine lv_i2l hx hb dX11_net_94 rfl ?_
          refine lv_lmul hx hb dX11_net_95 ?_
          refine lv_ladd hx hb dX11_net_96 ?_
          refine x_last (x := (S.2 35 1) + (((nI r).toInt64) * ((S.1 33 5).toInt64))) hx hb hK hw 35 309 (Nat.lt_of_lt_of_le (Nat.le_of_ble_eq_true rfl : 35 < 191) hn) (mk_35 cA α) 1 rfl (by decide) (by decide) dX11_net_97 (fun S3 eS3 H locs hw => ?_)
          refine lv_iconst (v := nI 0) hx hb dX11_net_98 (by decide) ?_
          refine lv_istore_n (lv' := [(2, .int (nI 0)), (0, .ref (α 30)), (1, .int (nI r))]) hx hb dX11_net_99 rfl hl (by decide) rfl (fun ls hl => ?_)
          have lp100 : ∀ (t : Nat) (i : Nat) (U : Mem) (H : Heap) (locs : List Loc) (ls : Array Slot), N - i < t → i ≤ N → U = rNt (rN2 S k N Cn) i → Ws D cA α n (Aw α n sz) s.heap U H locs → lv_has ls 4 [(0, .ref (α 30)), (1, .int (nI r)), (2, .int (nI i))] → W p l e ({ frames := 4, cells := 0, slots := 0, locals := 88 } : Room) s m (List.toArray ([.ref (α 30)] : List Value)) below meth c H locs 0 0 (MQ below (va_Qi (fun r u => r = (nI (cnt (rPay S N) Cn)) ∧ u = (rNt (rN2 S k N Cn) N)) (Pw D cA α n) (Aw α n sz)) (List.toArray ([.ref (α 30)] : List Value)) s 0 0 (Aw α n sz)) (F0 m 100 ls []) := by
            intro t
            induction t with
            | zero => intro i U H locs ls ht; exact absurd ht (Nat.not_lt_zero _)
            | succ t ih100 =>
              intro i U H locs ls ht hi hU hw hl
              refine lv_iload_n hx hb dX11_net_100 rfl (lv_at hl 2 rfl) ?_
              refine lv_aload_n hx hb dX11_net_101 rfl (lv_at hl 0 rfl) ?_
              refine x_get (v := .ref (α 34)) (C := RX11) (T := TX11) (N := 24) hx hb hts (fun _ h => List.mem_cons_of_mem _ (List.mem_append_right _ h)) hown hK hw 30 (Nat.lt_of_lt_of_le (Nat.le_of_ble_eq_true rfl : 30 < 191) hn) (mk_30 cA α) rfl 13 (by decide) (hts _ (List.mem_of_getElem? (i := 4) rfl)) (fun _ h9 => h9) rfl dX11_net_102 ?_
              refine lv_iconst (v := nI 0) hx hb dX11_net_105 (by decide) ?_
              refine x_iald hx hb hK hw 34 1508 (Nat.lt_of_lt_of_le (Nat.le_of_ble_eq_true rfl : 34 < 191) hn) (mk_34 cA α) 0 rfl (by decide) (by decide) dX11_net_106 ?_
              refine x_topN (k := N) (by rw [hU, rNt_34 _ (by decide) i, rN2_34]; exact hN) ?_
              refine xn_icmp_ge (tgt := 194) hx hb (by omega) (by omega) dX11_net_107 (by decide) (fun c3 => ?_) (fun c3 => ?_)
              · skip
                refine lv_iload_n hx hb dX11_net_194 rfl (lv_at hl 1 rfl) ?_
                exact ret_i hx hb hr hlocks hK hw dX11_net_195 (by rw [hr9, show c9 = Cn by omega]) (by rw [hU, show i = N by omega])
              · skip
                refine lv_aload_n hx hb dX11_net_110 rfl (lv_at hl 0 rfl) ?_
                refine lv_iload_n hx hb dX11_net_111 rfl (lv_at hl 2 rfl) ?_
                refine lv_iconst (v := nI 0) hx hb dX11_net_112 (by decide) ?_
                refine lv_iconst (v := nI 1) hx hb dX11_net_113 (by decide) ?_
                refine x_callVIr (q := 30) (C := RX11) (As := [.int (nI i), .int (nI 0), .int (nI 1)]) (rest := []) ⟨hx, hb, hml, hown, hts⟩ (ct_X11_is l D cA α n _ hn U i (nI 0) (nI 1) (by omega)) (cwV 3 hts gX11_net_X11_is rfl rfl rfl (by decide +kernel) ⟨Nat.le_of_ble_eq_true rfl, Nat.le_of_ble_eq_true rfl⟩) hK hw hAw (ws_recv hK hw (q := 30) (Nat.lt_of_lt_of_le (Nat.le_of_ble_eq_true rfl : 30 < 191) hn) (mk_30 cA α) rfl) rfl hl.1 rfl (Nat.le_of_ble_eq_true rfl) dX11_net_114 ⟨Nat.zero_le _, Nat.zero_le _⟩ (fun H locs hw => ?_)
                refine xb_ne (b := (rIs U i (nI 0) (nI 1))) (tgt := 123) hx hb dX11_net_117 (by decide) (fun c4 => ?_) (fun c4 => ?_)
                · skip
                  have hq := hpr i (by omega) (by have q := rIs_back (by rw [← hU]; exact c4); unfold rIs at q ⊢; rw [rN2_34] at q; exact q)
                  have hq2 := hq.2.1
                  refine lv_aload_n hx hb dX11_net_123 rfl (lv_at hl 0 rfl) ?_
                  refine lv_iload_n hx hb dX11_net_124 rfl (lv_at hl 2 rfl) ?_
                  refine lv_iconst (v := nI 5) hx hb dX11_net_125 (by decide) ?_
                  refine x_callVIr (q := 30) (C := RX11) (As := [.int (nI i), .int (nI 5)]) (rest := []) ⟨hx, hb, hml, hown, hts⟩ (ct_X11_of l D cA α n _ hn U i 5 (by omega)) (cwV 2 hts gX11_net_X11_of rfl rfl rfl (by decide +kernel) ⟨Nat.le_of_ble_eq_true rfl, Nat.le_of_ble_eq_true rfl⟩) hK hw hAw (ws_recv hK hw (q := 30) (Nat.lt_of_lt_of_le (Nat.le_of_ble_eq_true rfl : 30 < 191) hn) (mk_30 cA α) rfl) rfl hl.1 rfl (Nat.le_of_ble_eq_true rfl) dX11_net_126 ⟨Nat.zero_le _, Nat.zero_le _⟩ (fun H locs hw => ?_)
                  refine x_topN (k := gN (S.1 34 (8 + 6 * i + 5))) (by rw [hU, rNt_34 _ (by omega) i, rN2_34]; exact hq.1) ?_
                  refine lv_istore_n (lv' := [(3, .int (nI (gN (S.1 34 (8 + 6 * i + 5))))), (0, .ref (α 30)), (1, .int (nI r)), (2, .int (nI i))]) hx hb dX11_net_129 rfl hl (by decide) rfl (fun ls hl => ?_)
                  refine lv_aload_n hx hb dX11_net_130 rfl (lv_at hl 1 rfl) ?_
                  refine x_get (v := .ref (α 35)) (C := RX11) (T := TX11) (N := 24) hx hb hts (fun _ h => List.mem_cons_of_mem _ (List.mem_append_right _ h)) hown hK hw 30 (Nat.lt_of_lt_of_le (Nat.le_of_ble_eq_true rfl : 30 < 191) hn) (mk_30 cA α) rfl 14 (by decide) (hts _ (List.mem_of_getElem? (i := 3) rfl)) (fun _ h9 => h9) rfl dX11_net_131 ?_
                  refine lv_iconst (v := nI 0) hx hb dX11_net_134 (by decide) ?_
                  refine lv_dup2_11 hx hb dX11_net_135 rfl rfl ?_
                  refine x_lald hx hb hK hw 35 309 (Nat.lt_of_lt_of_le (Nat.le_of_ble_eq_true rfl : 35 < 191) hn) (mk_35 cA α) 0 rfl (by decide) (by decide) dX11_net_136 ?_
                  refine lv_aload_n hx hb dX11_net_137 rfl (lv_at hl 1 rfl) ?_
                  refine lv_iload_n hx hb dX11_net_138 rfl (lv_at hl 3 rfl) ?_
                  refine x_callVLr (q := 30) (C := RX11) (As := [.int (nI i)]) (rest := [.long (U.2 35 0), .int (nI 0), .ref (α 35)]) ⟨hx, hb, hml, hown, hts⟩ (ct_X11_differenceOf l D cA α n _ hn U i (gN (S.1 34 (8 + 6 * i + 5))) (okR_of2 (ho i (by omega)) (by rw [hU, rNt_34 _ (by omega) i, rN2_34]) (by rw [hU, rNt_k _ (by decide) i, rN2_33])) (by rw [hU, rNt_34 _ (by omega) i, rN2_34]; exact hq.1) (okR_of2 hq.2 (by rw [hU, rNt_34 _ (by omega) i, rN2_34]) (by rw [hU, rNt_k _ (by decide) i, rN2_33]))) (cwV 1 hts gX11_net_X11_differenceOf rfl rfl rfl (by decide +kernel) ⟨Nat.le_of_ble_eq_true rfl, Nat.le_of_ble_eq_true rfl⟩) hK hw hAw (ws_recv hK hw (q := 30) (Nat.lt_of_lt_of_le (Nat.le_of_ble_eq_true rfl : 30 < 191) hn) (mk_30 cA α) rfl) rfl hl.1 rfl (Nat.le_of_ble_eq_true rfl) dX11_net_139 ⟨Nat.zero_le _, Nat.zero_le _⟩ (fun H locs hw => ?_)
                  refine lv_ladd hx hb dX11_net_142 ?_
                  refine x_last (x := (U.2 35 0) + (rVal U i - rVal U (gN (S.1 34 (8 + 6 * i + 5))))) hx hb hK hw 35 309 (Nat.lt_of_lt_of_le (Nat.le_of_ble_eq_true rfl : 35 < 191) hn) (mk_35 cA α) 0 rfl (by decide) (by decide) dX11_net_143 (fun S4 eS4 H locs hw => ?_)
                  refine lv_aload_n hx hb dX11_net_144 rfl (lv_at hl 1 rfl) ?_
                  refine x_get (v := .ref (α 35)) (C := RX11) (T := TX11) (N := 24) hx hb hts (fun _ h => List.mem_cons_of_mem _ (List.mem_append_right _ h)) hown hK hw 30 (Nat.lt_of_lt_of_le (Nat.le_of_ble_eq_true rfl : 30 < 191) hn) (mk_30 cA α) rfl 14 (by decide) (hts _ (List.mem_of_getElem? (i := 3) rfl)) (fun _ h9 => h9) rfl dX11_net_145 ?_
                  refine lv_sipush (v := nI 209) hx hb dX11_net_148 (by decide) ?_
                  refine lv_iload_n hx hb dX11_net_151 rfl (lv_at hl 3 rfl) ?_
                  refine xn_iadd hx hb dX11_net_152 ?_
                  refine lv_aload_n hx hb dX11_net_153 rfl (lv_at hl 1 rfl) ?_
                  refine lv_iload_n hx hb dX11_net_154 rfl (lv_at hl 3 rfl) ?_
                  refine x_callVLr (q := 30) (C := RX11) (As := [.int (nI i)]) (rest := [.int (nI (209 + i)), .ref (α 35)]) ⟨hx, hb, hml, hown, hts⟩ (ct_X11_valueOf l D cA α n _ hn S4 i (by have q : okR U i := (okR_of2 (ho i (by omega)) (by rw [hU, rNt_34 _ (by omega) i, rN2_34]) (by rw [hU, rNt_k _ (by decide) i, rN2_33])); subst eS4; exact q)) (cwV 1 hts gX11_net_X11_valueOf rfl rfl rfl (by decide +kernel) ⟨Nat.le_of_ble_eq_true rfl, Nat.le_of_ble_eq_true rfl⟩) hK hw hAw (ws_recv hK hw (q := 30) (Nat.lt_of_lt_of_le (Nat.le_of_ble_eq_true rfl : 30 < 191) hn) (mk_30 cA α) rfl) rfl hl.1 rfl (Nat.le_of_ble_eq_true rfl) dX11_net_155 ⟨Nat.zero_le _, Nat.zero_le _⟩ (fun H locs hw => ?_)
                  refine x_last (x := rVal S4 i) hx hb hK hw 35 309 (Nat.lt_of_lt_of_le (Nat.le_of_ble_eq_true rfl : 35 < 191) hn) (mk_35 cA α) (209 + i) rfl (by omega) (by decide) dX11_net_158 (fun S5 eS5 H locs hw => ?_)
                  refine lv_aload_n hx hb dX11_net_159 rfl (lv_at hl 1 rfl) ?_
                  refine x_get (v := .ref (α 35)) (C := RX11) (T := TX11) (N := 24) hx hb hts (fun _ h => List.mem_cons_of_mem _ (List.mem_append_right _ h)) hown hK hw 30 (Nat.lt_of_lt_of_le (Nat.le_of_ble_eq_true rfl : 30 < 191) hn) (mk_30 cA α) rfl 14 (by decide) (hts _ (List.mem_of_getElem? (i := 3) rfl)) (fun _ h9 => h9) rfl dX11_net_160 ?_
                  refine lv_sipush (v := nI 209) hx hb dX11_net_163 (by decide) ?_
                  refine lv_iload_n hx hb dX11_net_166 rfl (lv_at hl 0 rfl) ?_
                  refine xn_iadd hx hb dX11_net_167 ?_
                  refine lv_aload_n hx hb dX11_net_168 rfl (lv_at hl 1 rfl) ?_
                  refine lv_iload_n hx hb dX11_net_169 rfl (lv_at hl 0 rfl) ?_
                  refine x_callVLr (q := 30) (C := RX11) (As := [.int (nI (gN (S.1 34 (8 + 6 * i + 5))))]) (rest := [.int (nI (209 + (gN (S.1 34 (8 + 6 * i + 5))))), .ref (α 35)]) ⟨hx, hb, hml, hown, hts⟩ (ct_X11_valueOf l D cA α n _ hn S5 (gN (S.1 34 (8 + 6 * i + 5))) (by have q : okR U (gN (S.1 34 (8 + 6 * i + 5))) := (okR_of2 hq.2 (by rw [hU, rNt_34 _ (by omega) i, rN2_34]) (by rw [hU, rNt_k _ (by decide) i, rN2_33])); subst eS5; subst eS4; exact q)) (cwV 1 hts gX11_net_X11_valueOf rfl rfl rfl (by decide +kernel) ⟨Nat.le_of_ble_eq_true rfl, Nat.le_of_ble_eq_true rfl⟩) hK hw hAw (ws_recv hK hw (q := 30) (Nat.lt_of_lt_of_le (Nat.le_of_ble_eq_true rfl : 30 < 191) hn) (mk_30 cA α) rfl) rfl hl.1 rfl (Nat.le_of_ble_eq_true rfl) dX11_net_170 ⟨Nat.zero_le _, Nat.zero_le _⟩ (fun H locs hw => ?_)
                  refine x_last (x := rVal S5 (gN (S.1 34 (8 + 6 * i + 5)))) hx hb hK hw 35 309 (Nat.lt_of_lt_of_le (Nat.le_of_ble_eq_true rfl : 35 < 191) hn) (mk_35 cA α) (209 + (gN (S.1 34 (8 + 6 * i + 5)))) rfl (by omega) (by decide) dX11_net_173 (fun S6 eS6 H locs hw => ?_)
                  refine lv_aload_n hx hb dX11_net_174 rfl (lv_at hl 1 rfl) ?_
                  refine lv_iload_n hx hb dX11_net_175 rfl (lv_at hl 3 rfl) ?_
                  refine lv_iconst (v := nI 4) hx hb dX11_net_176 (by decide) ?_
                  refine lv_iconst (v := nI 3) hx hb dX11_net_177 (by decide) ?_
                  refine x_callVV (q := 30) (C := RX11) (As := [.int (nI i), .int (nI 4), .int (nI 3)]) (rest := []) ⟨hx, hb, hml, hown, hts⟩ (ct_X11_put l D cA α n _ hn S6 i 4 (nI 3) (by omega)) (cwV 3 hts gX11_net_X11_put rfl rfl rfl (by decide +kernel) ⟨Nat.le_of_ble_eq_true rfl, Nat.le_of_ble_eq_true rfl⟩) hK hw hAw (ws_recv hK hw (q := 30) (Nat.lt_of_lt_of_le (Nat.le_of_ble_eq_true rfl : 30 < 191) hn) (mk_30 cA α) rfl) rfl hl.1 rfl (Nat.le_of_ble_eq_true rfl) dX11_net_178 ⟨Nat.zero_le _, Nat.zero_le _⟩ (fun S7 eS7 H locs hw => ?_)
                  refine lv_aload_n hx hb dX11_net_181 rfl (lv_at hl 1 rfl) ?_
                  refine lv_iload_n hx hb dX11_net_182 rfl (lv_at hl 0 rfl) ?_
                  refine lv_iconst (v := nI 4) hx hb dX11_net_183 (by decide) ?_
                  refine lv_iconst (v := nI 3) hx hb dX11_net_184 (by decide) ?_
                  refine x_callVV (q := 30) (C := RX11) (As := [.int (nI (gN (S.1 34 (8 + 6 * i + 5)))), .int (nI 4), .int (nI 3)]) (rest := []) ⟨hx, hb, hml, hown, hts⟩ (ct_X11_put l D cA α n _ hn S7 (gN (S.1 34 (8 + 6 * i + 5))) 4 (nI 3) (by omega)) (cwV 3 hts gX11_net_X11_put rfl rfl rfl (by decide +kernel) ⟨Nat.le_of_ble_eq_true rfl, Nat.le_of_ble_eq_true rfl⟩) hK hw hAw (ws_recv hK hw (q := 30) (Nat.lt_of_lt_of_le (Nat.le_of_ble_eq_true rfl : 30 < 191) hn) (mk_30 cA α) rfl) rfl hl.1 rfl (Nat.le_of_ble_eq_true rfl) dX11_net_185 ⟨Nat.zero_le _, Nat.zero_le _⟩ (fun S8 eS8 H locs hw => ?_)
                  refine lv_iinc (v := nI (i + 1)) (lv' := [(2, .int (nI (i + 1))), (3, .int (nI (gN (S.1 34 (8 + 6 * i + 5))))), (0, .ref (α 30)), (1, .int (nI r))]) hx hb dX11_net_188 hl (k := 3) rfl (nI_1 _) (by decide) rfl (fun ls hl => ?_)
                  refine lv_goto (tgt := 100) hx hb dX11_net_191 (by decide) ?_
                  exact ih100 (i + 1) S8 _ _ _ (by omega) (by omega) (by rw [rNt, if_pos (by rw [← hU]; exact c4), ← hU, rN2_34]; subst eS8; subst eS7; subst eS6; subst eS5; subst eS4; rfl) hw (lv_sub hl [2, 3, 0] rfl)
                · skip
                  refine lv_goto (tgt := 188) hx hb dX11_net_120 (by decide) ?_
                  refine lv_iinc (v := nI (i + 1)) (lv' := [(2, .int (nI (i + 1))), (0, .ref (α 30)), (1, .int (nI r))]) hx hb dX11_net_188 hl (k := 2) rfl (nI_1 _) (by decide) rfl (fun ls hl => ?_)
                  refine lv_goto (tgt := 100) hx hb dX11_net_191 (by decide) ?_
                  exact ih100 (i + 1) U _ _ _ (by omega) (by omega) (by rw [rNt]; rw [if_neg (by rw [← hU, c4]; decide)]; exact hU) hw (lv_sub hl [1, 2, 0] rfl)
          exact lp100 _ 0 S3 _ _ _ (Nat.lt_succ_self _) (Nat.zero_le _) (by subst eS3; unfold rN2 rN1; rw [hT, hr9, show c9 = Cn by omega]; rfl) hw (lv_sub hl [1, 2, 0] rfl)
        · skip
          refine lv_aload_n hx hb dX11_net_37 rfl (lv_at hl 0 rfl) ?_
          refine x_get (v := .ref (α 35)) (C := RX11) (T := TX11) (N := 24) hx hb hts (fun _ h => List.mem_cons_of_mem _ (List.mem_append_right _ h)) hown hK hw 30 (Nat.lt_of_lt_of_le (Nat.le_of_ble_eq_true rfl : 30 < 191) hn) (mk_30 cA α) rfl 14 (by decide) (hts _ (List.mem_of_getElem? (i := 3) rfl)) (fun _ h9 => h9) rfl dX11_net_38 ?_
          refine lv_iconst (v := nI 3) hx hb dX11_net_41 (by decide) ?_
          refine lv_iload_n hx hb dX11_net_42 rfl (lv_at hl 1 rfl) ?_
          refine xn_iadd hx hb dX11_net_43 ?_
          refine lv_aload_n hx hb dX11_net_44 rfl (lv_at hl 0 rfl) ?_
          refine lv_iload_n hx hb dX11_net_45 rfl (lv_at hl 1 rfl) ?_
          refine x_callVLr (q := 30) (C := RX11) (As := [.int (nI c9)]) (rest := [.int (nI (3 + c9)), .ref (α 35)]) ⟨hx, hb, hml, hown, hts⟩ (ct_X11_positionOf l D cA α n _ hn T (nI c9) N (by rw [hT, sL_1]; exact (congrFun (K0_34 S k) 0).trans hN) hN2 (fun j hj => okR_of (ho j hj) (by rw [hT, sL_1]; exact K0_34 S k) (by rw [hT, sL_1]; exact K0_33 S k))) (cwV 1 hts gX11_net_X11_positionOf rfl rfl rfl (by decide +kernel) ⟨Nat.le_of_ble_eq_true rfl, Nat.le_of_ble_eq_true rfl⟩) hK hw hAw (ws_recv hK hw (q := 30) (Nat.lt_of_lt_of_le (Nat.le_of_ble_eq_true rfl : 30 < 191) hn) (mk_30 cA α) rfl) rfl hl.1 rfl (Nat.le_of_ble_eq_true rfl) dX11_net_46 ⟨Nat.zero_le _, Nat.zero_le _⟩ (fun H locs hw => ?_)
          refine x_topEL (y := sumL (gPos S (nI c9)) N) (by rw [gPos_of (S := S) (by rw [hT, sL_1]; exact K0_34 S k) (by rw [hT, sL_1]; exact K0_33 S k) (by intro z hz; rw [hT, sL_e]; exact rPs_hi _ _ _ (by omega) (Or.inl hz))]) ?_
          refine x_last (x := sumL (gPos S (nI c9)) N) hx hb hK hw 35 309 (Nat.lt_of_lt_of_le (Nat.le_of_ble_eq_true rfl : 35 < 191) hn) (mk_35 cA α) (3 + c9) rfl (by omega) (by decide) dX11_net_49 (fun S9 eS9 H locs hw => ?_)
          refine lv_iload_n hx hb dX11_net_50 rfl (lv_at hl 1 rfl) ?_
          refine lv_aload_n hx hb dX11_net_51 rfl (lv_at hl 0 rfl) ?_
          refine x_get (v := .ref (α 33)) (C := RX11) (T := TX11) (N := 24) hx hb hts (fun _ h => List.mem_cons_of_mem _ (List.mem_append_right _ h)) hown hK hw 30 (Nat.lt_of_lt_of_le (Nat.le_of_ble_eq_true rfl : 30 < 191) hn) (mk_30 cA α) rfl 11 (by decide) (hts _ (List.mem_of_getElem? (i := 2) rfl)) (fun _ h9 => h9) rfl dX11_net_52 ?_
          refine lv_iconst (v := nI 4) hx hb dX11_net_55 (by decide) ?_
          refine x_iald hx hb hK hw 33 40 (Nat.lt_of_lt_of_le (Nat.le_of_ble_eq_true rfl : 33 < 191) hn) (mk_33 cA α) 4 rfl (by decide) (by decide) dX11_net_56 ?_
          refine x_topE (y := S.1 33 4) (by subst eS9; rw [sJ_1, hT, sL_1]; exact congrFun (K0_33 S k) 4) ?_
          refine lv_icmp_eq (tgt := 73) hx hb dX11_net_57 (by decide) (fun c5 => ?_) (fun c5 => ?_)
          · skip
            refine lv_iinc (v := nI (c9 + 1)) (lv' := [(2, .int (nI (c9 + 1))), (0, .ref (α 30)), (1, .int (nI r))]) hx hb dX11_net_73 hl (k := 1) rfl (nI_1 _) (by decide) rfl (fun ls hl => ?_)
            refine lv_goto (tgt := 27) hx hb dX11_net_76 (by decide) ?_
            exact ih27 (c9 + 1) r S9 _ _ _ (by omega) (by omega) (by rw [cnt, ← hr9]; unfold rPay; simp only [if_neg c1, if_pos c1, decide_eq_false c1, if_pos c2, if_neg (not_not_intro c2), decide_eq_true c2, if_pos c5, if_neg (not_not_intro c5), decide_eq_true c5, if_true, if_false, eq_self, Bool.false_eq_true, not_true_eq_false, not_false_eq_true, decide_true, decide_false, Bool.and_true, Bool.true_and, Bool.and_false, Bool.false_and, Bool.not_true, Bool.not_false, Bool.or_true, Bool.true_or, Bool.or_false, Bool.false_or, reduceIte, b2i_t, b2i_f, Nat.add_zero]) (by subst eS9; rw [hT, setJ_setL, rPs_s]) hw (lv_sub hl [1, 0, 2] rfl)
          · skip
            refine lv_aload_n hx hb dX11_net_60 rfl (lv_at hl 0 rfl) ?_
            refine lv_iload_n hx hb dX11_net_61 rfl (lv_at hl 1 rfl) ?_
            refine x_callVLr (q := 30) (C := RX11) (As := [.int (nI c9)]) (rest := []) ⟨hx, hb, hml, hown, hts⟩ (ct_X11_positionOf l D cA α n _ hn S9 (nI c9) N (by subst eS9; rw [sJ_1, hT, sL_1]; exact (congrFun (K0_34 S k) 0).trans hN) hN2 (by subst eS9; exact fun j hj => okR_of (ho j hj) (by rw [sJ_1, hT, sL_1]; exact K0_34 S k) (by rw [sJ_1, hT, sL_1]; exact K0_33 S k))) (cwV 1 hts gX11_net_X11_positionOf rfl rfl rfl (by decide +kernel) ⟨Nat.le_of_ble_eq_true rfl, Nat.le_of_ble_eq_true rfl⟩) hK hw hAw (ws_recv hK hw (q := 30) (Nat.lt_of_lt_of_le (Nat.le_of_ble_eq_true rfl : 30 < 191) hn) (mk_30 cA α) rfl) rfl hl.1 rfl (Nat.le_of_ble_eq_true rfl) dX11_net_62 ⟨Nat.zero_le _, Nat.zero_le _⟩ (fun H locs hw => ?_)
            refine x_topEL (y := sumL (gPos S (nI c9)) N) (by rw [gPos_of (S := S) (by subst eS9; rw [sJ_1, hT, sL_1]; exact K0_34 S k) (by subst eS9; rw [sJ_1, hT, sL_1]; exact K0_33 S k) (by intro z hz; subst eS9; rw [sJ_e]; unfold vp_updL; rw [if_neg (by omega), hT, sL_e]; exact rPs_hi _ _ _ (by omega) (Or.inl hz))]) ?_
            refine lv_lconst (v := 0) hx hb dX11_net_65 (by decide) ?_
            refine x_lcmp_eq (tgt := 73) hx hb dX11_net_66 dX11_net_67 (by decide) (fun c6 => ?_) (fun c6 => ?_)
            · skip
              refine lv_iinc (v := nI (c9 + 1)) (lv' := [(2, .int (nI (c9 + 1))), (0, .ref (α 30)), (1, .int (nI r))]) hx hb dX11_net_73 hl (k := 1) rfl (nI_1 _) (by decide) rfl (fun ls hl => ?_)
              refine lv_goto (tgt := 27) hx hb dX11_net_76 (by decide) ?_
              exact ih27 (c9 + 1) r S9 _ _ _ (by omega) (by omega) (by rw [cnt, ← hr9]; unfold rPay; simp only [if_neg c1, if_pos c1, decide_eq_false c1, if_pos c2, if_neg (not_not_intro c2), decide_eq_true c2, if_neg c5, if_pos c5, decide_eq_false c5, if_pos c6, if_neg (not_not_intro c6), decide_eq_true c6, if_true, if_false, eq_self, Bool.false_eq_true, not_true_eq_false, not_false_eq_true, decide_true, decide_false, Bool.and_true, Bool.true_and, Bool.and_false, Bool.false_and, Bool.not_true, Bool.not_false, Bool.or_true, Bool.true_or, Bool.or_false, Bool.false_or, reduceIte, b2i_t, b2i_f, Nat.add_zero]) (by subst eS9; rw [hT, setJ_setL, rPs_s]) hw (lv_sub hl [1, 0, 2] rfl)
            · skip
              refine lv_iinc (v := nI (r + 1)) (lv' := [(1, .int (nI (r + 1))), (0, .ref (α 30)), (2, .int (nI c9))]) hx hb dX11_net_70 hl (k := 2) rfl (nI_1 _) (by decide) rfl (fun ls hl => ?_)
              refine lv_iinc (v := nI (c9 + 1)) (lv' := [(2, .int (nI (c9 + 1))), (1, .int (nI (r + 1))), (0, .ref (α 30))]) hx hb dX11_net_73 hl (k := 2) rfl (nI_1 _) (by decide) rfl (fun ls hl => ?_)
              refine lv_goto (tgt := 27) hx hb dX11_net_76 (by decide) ?_
              exact ih27 (c9 + 1) (r + 1) S9 _ _ _ (by omega) (by omega) (by rw [cnt, ← hr9]; unfold rPay; simp only [if_neg c1, if_pos c1, decide_eq_false c1, if_pos c2, if_neg (not_not_intro c2), decide_eq_true c2, if_neg c5, if_pos c5, decide_eq_false c5, if_neg c6, if_pos c6, decide_eq_false c6, if_true, if_false, eq_self, Bool.false_eq_true, not_true_eq_false, not_false_eq_true, decide_true, decide_false, Bool.and_true, Bool.true_and, Bool.and_false, Bool.false_and, Bool.not_true, Bool.not_false, Bool.or_true, Bool.true_or, Bool.or_false, Bool.false_or, reduceIte, b2i_t, b2i_f, Nat.add_zero]) (by subst eS9; rw [hT, setJ_setL, rPs_s]) hw (lv_sub hl [2, 0, 1] rfl)
    exact lp27 _ 0 0 S2 _ _ _ (Nat.lt_succ_self _) (Nat.zero_le _) rfl (by rw [rPs_0, ← K0_35 S k, setL_same]; subst eS2; subst eS1; rfl) hw (lv_sub hl [2, 0, 1] rfl)
  · exact absurd c1 hv

set_option maxRecDepth 100000 in
set_option maxHeartbeats 1000000 in
theorem ct_X11_netX (l : Launch) (D : va_G) (cA : Nat → ClassId) (α : Nat → Nat) (n sz : Nat) (hn : 191 ≤ n) (S : Mem) (N : Nat) (hN : S.1 34 0 = nI N) (hN2 : N ≤ 100) (hv : cnt (fun j => rIs S j (nI 0) (nI 1)) N = 0) : CtI l yX11_net wsX11_net ({ frames := 4, cells := 0, slots := 0, locals := 88 }) D cA α n sz [.ref (α 30)] S (nI 0) (setI (setI S 30 0 (nI 0)) 30 0 (nI 1)) := by
  refine ct_enter cX11_net 4 (some .int) (by decide) rfl (Nat.le_of_ble_eq_true rfl) ?_
  intro p e s m below meth c hx hb hr hml hlocks hown hts hK hsz hw ls hl
  have hown : s.vm.findClass RX11 = some m.cls := hown
  have hAw : ∀ z, Aw α n s.heap.size z → Aw α n sz z := by rw [hsz]; exact fun _ h => h
  have hl : lv_has ls 4 [(0, .ref (α 30))] := hl
  have hcl := cnt_le (fun j => rIs S j (nI 0) (nI 1)) N
  refine lv_aload_n hx hb dX11_net_0 rfl (lv_at hl 0 rfl) ?_
  refine lv_iconst (v := nI 0) hx hb dX11_net_1 (by decide) ?_
  refine x_putI (x := nI 0) (ty := .int) (C := RX11) (T := TX11) (N := 24) hx hb hts (fun _ h => List.mem_cons_of_mem _ (List.mem_append_right _ h)) tyX11 tyX11_ok nmX11 hown hK hw 30 (Nat.lt_of_lt_of_le (Nat.le_of_ble_eq_true rfl : 30 < 191) hn) (mk_30 cA α) rfl 0 (by decide) (hts _ (List.mem_of_getElem? (i := 1) rfl)) (fun _ h9 => h9) rfl rfl rfl rfl (Nat.le_of_ble_eq_true rfl) rfl dX11_net_2 (fun S1 eS1 H locs hw => ?_)
  refine lv_aload_n hx hb dX11_net_5 rfl (lv_at hl 0 rfl) ?_
  refine lv_iconst (v := nI 1) hx hb dX11_net_6 (by decide) ?_
  refine x_callVIr (q := 30) (C := RX11) (As := [.int (nI 1)]) (rest := []) ⟨hx, hb, hml, hown, hts⟩ (ct_X11_pairs l D cA α n _ hn S1 (nI 1) N (by subst eS1; exact hN) hN2) (cwV 1 hts gX11_net_X11_pairs rfl rfl rfl (by decide +kernel) ⟨Nat.le_of_ble_eq_true rfl, Nat.le_of_ble_eq_true rfl⟩) hK hw hAw (ws_recv hK hw (q := 30) (Nat.lt_of_lt_of_le (Nat.le_of_ble_eq_true rfl : 30 < 191) hn) (mk_30 cA α) rfl) rfl hl.1 rfl (Nat.le_of_ble_eq_true rfl) dX11_net_7 ⟨Nat.zero_le _, Nat.zero_le _⟩ (fun H locs hw => ?_)
  refine x_topE (y := nI (cnt (fun j => rIs S j (nI 0) (nI 1)) N)) (by rw [eS1, rIs_30]) ?_
  refine xn_if_ne (tgt := 19) hx hb (by omega) dX11_net_10 (by decide) (fun c1 => ?_) (fun c1 => ?_)
  · exact absurd hv c1
  · skip
    refine lv_aload_n hx hb dX11_net_13 rfl (lv_at hl 0 rfl) ?_
    refine lv_iconst (v := nI 1) hx hb dX11_net_14 (by decide) ?_
    refine x_callVI (q := 30) (C := RX11) (As := [.int (nI 1)]) (rest := []) ⟨hx, hb, hml, hown, hts⟩ (ct_X11_fail l D cA α n _ hn S1 (nI 1)) (cwV 1 hts gX11_net_X11_fail rfl rfl rfl (by decide +kernel) ⟨Nat.le_of_ble_eq_true rfl, Nat.le_of_ble_eq_true rfl⟩) hK hw hAw (ws_recv hK hw (q := 30) (Nat.lt_of_lt_of_le (Nat.le_of_ble_eq_true rfl : 30 < 191) hn) (mk_30 cA α) rfl) rfl hl.1 rfl (Nat.le_of_ble_eq_true rfl) dX11_net_15 ⟨Nat.zero_le _, Nat.zero_le _⟩ (fun S2 eS2 H locs hw => ?_)
    exact ret_i hx hb hr hlocks hK hw dX11_net_18 rfl (by subst_vars; rfl)
