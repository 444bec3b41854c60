/-! the reference: a text -/
def zI (f : Nat → Int32) (k : Nat) : Nat → Int32 := fun j => if j < k then nI 0 else f j
theorem zI_0 (f : Nat → Int32) : zI f 0 = f := by funext j; simp [zI]
theorem zI_s (f : Nat → Int32) (k : Nat) : upd (zI f k) k (nI 0) = zI f (k + 1) := by
  funext j
  unfold upd zI
  by_cases h : j = k
  · subst h; rw [if_pos rfl, if_pos (by omega)]
  · rw [if_neg h]
    by_cases h2 : j < k
    · rw [if_pos h2, if_pos (by omega)]
    · rw [if_neg h2, if_neg (by omega)]
def cpI (g f : Nat → Int32) (k : Nat) : Nat → Int32 := fun j => if j < k then g j else f j
theorem cpI_0 (g f : Nat → Int32) : cpI g f 0 = f := by funext j; simp [cpI]
theorem cpI_s (g f : Nat → Int32) (k : Nat) : upd (cpI g f k) k (g k) = cpI g f (k + 1) := by
  funext j
  unfold upd cpI
  by_cases h : j = k
  · subst h; rw [if_pos rfl, if_pos (by omega)]
  · rw [if_neg h]
    by_cases h2 : j < k
    · rw [if_pos h2, if_pos (by omega)]
    · rw [if_neg h2, if_neg (by omega)]
def rtI (g f : Nat → Int32) (k : Nat) : Nat → Int32 := fun j => if 4 ≤ j ∧ j < 4 + k then g (j + 2) else f j
theorem rtI_0 (g f : Nat → Int32) : rtI g f 0 = f := by
  funext j
  unfold rtI
  rw [if_neg (by omega)]
theorem rtI_s (g f : Nat → Int32) (k : Nat) : upd (rtI g f k) (4 + k) (g (6 + k)) = rtI g f (k + 1) := by
  funext j
  unfold upd rtI
  by_cases h : j = 4 + k
  · subst h; rw [if_pos rfl, if_pos (by omega), show 4 + k + 2 = 6 + k by omega]
  · rw [if_neg h]
    by_cases h2 : 4 ≤ j ∧ j < 4 + k
    · rw [if_pos h2, if_pos (by omega)]
    · rw [if_neg h2, if_neg (by omega)]
def rDf (S : Mem) : Mem := setI (setR S 32 (zI (S.1 32) 40)) 30 12 (nI 0)
def rTa (S : Mem) : Mem := setR S 33 (cpI (S.1 32) (S.1 33) 40)
def rTb (S : Mem) : Mem := setR (rTa S) 34 (zI ((rTa S).1 34) 8)
def rTc (S : Mem) : Mem := setR (rTb S) 34 (rtI ((rTb S).1 33) ((rTb S).1 34) 4)
def rTd (S : Mem) : Mem := setI (rTc S) 34 3 ((rTc S).1 33 3)
def rTe (S : Mem) : Mem := setL (rTd S) 35 (zL ((rTd S).2 35) 9)
def rTD (S : Mem) : Mem := setI (setI (setI (rTe S) 30 17 (nI 0)) 40 0 (vp_nar .boolean (nI 0))) 40 1 (vp_nar .boolean (nI 0))

set_option maxRecDepth 100000 in
set_option maxHeartbeats 1000000 in
theorem ct_X11_setDefaults (l : Launch) (D : va_G) (cA : Nat → ClassId) (α : Nat → Nat) (n sz : Nat) (hn : 191 ≤ n) (S : Mem)  : CtV l yX11_setDefaults wsX11_setDefaults ({ frames := 0, cells := 0, slots := 0, locals := 0 }) D cA α n sz [.ref (α 30)] S (rDf S) := by
  refine ct_enter cX11_setDefaults 2 none (by decide) rfl (Nat.le_of_ble_eq_true rfl) ?_
  intro p e s m below meth c hx hb hr hml hlocks hown hts hK hsz hw ls hl
  have hown : s.vm.findClass RX11 = some m.cls := hown
  have hAw : ∀ z, Aw α n s.heap.size z → Aw α n sz z := by rw [hsz]; exact fun _ h => h
  have hl : lv_has ls 2 [(0, .ref (α 30))] := hl
  refine lv_iconst (v := nI 0) hx hb dX11_setDefaults_0 (by decide) ?_
  refine lv_istore_n (lv' := [(1, .int (nI 0)), (0, .ref (α 30))]) hx hb dX11_setDefaults_1 rfl hl (by decide) rfl (fun ls hl => ?_)
  have lp2 : ∀ (t : Nat) (k : Nat) (T : Mem) (H : Heap) (locs : List Loc) (ls : Array Slot), 40 - k < t → k ≤ 40 → T = setR S 32 (zI (S.1 32) k) → Ws D cA α n (Aw α n sz) s.heap T H locs → lv_has ls 2 [(0, .ref (α 30)), (1, .int (nI k))] → W p l e ({ frames := 0, cells := 0, slots := 0, locals := 0 } : Room) s m (List.toArray ([.ref (α 30)] : List Value)) below meth c H locs 0 0 (MQ below (va_Qv (fun u => u = (rDf S)) (Pw D cA α n) (Aw α n sz)) (List.toArray ([.ref (α 30)] : List Value)) s 0 0 (Aw α n sz)) (F0 m 2 ls []) := by
    intro t
    induction t with
    | zero => intro k T H locs ls ht; exact absurd ht (Nat.not_lt_zero _)
    | succ t ih2 =>
      intro k T H locs ls ht hk hT hw hl
      refine lv_iload_n hx hb dX11_setDefaults_2 rfl (lv_at hl 1 rfl) ?_
      refine lv_bipush (v := nI 40) hx hb dX11_setDefaults_3 (by decide) ?_
      refine xn_icmp_ge (tgt := 21) hx hb (by omega) (by decide) dX11_setDefaults_5 (by decide) (fun c1 => ?_) (fun c1 => ?_)
      · skip
        refine lv_aload_n hx hb dX11_setDefaults_21 rfl (lv_at hl 0 rfl) ?_
        refine lv_iconst (v := nI 0) hx hb dX11_setDefaults_22 (by decide) ?_
        refine x_putI (x := nI 0) (ty := .int) (C := RX11) (T := TX11) (N := 24) hx hb hts (fun _ h => List.mem_cons_of_mem _ (List.mem_append_right _ h)) tyX11 tyX11_ok nmX11 hown hK hw 30 (Nat.lt_of_lt_of_le (Nat.le_of_ble_eq_true rfl : 30 < 191) hn) (mk_30 cA α) rfl 12 (by decide) (hts _ (List.mem_of_getElem? (i := 2) rfl)) (fun _ h9 => h9) rfl rfl rfl rfl (Nat.le_of_ble_eq_true rfl) rfl dX11_setDefaults_23 (fun S1 eS1 H locs hw => ?_)
        exact ret_v hx hb hr hlocks hK hw dX11_setDefaults_26 (by rw [eS1, hT, show k = 40 by omega]; rfl)
      · skip
        refine lv_aload_n hx hb dX11_setDefaults_8 rfl (lv_at hl 0 rfl) ?_
        refine x_get (v := .ref (α 32)) (C := RX11) (T := TX11) (N := 24) hx hb hts (fun _ h => List.mem_cons_of_mem _ (List.mem_append_right _ h)) hown hK hw 30 (Nat.lt_of_lt_of_le (Nat.le_of_ble_eq_true rfl : 30 < 191) hn) (mk_30 cA α) rfl 10 (by decide) (hts _ (List.mem_of_getElem? (i := 1) rfl)) (fun _ h9 => h9) rfl dX11_setDefaults_9 ?_
        refine lv_iload_n hx hb dX11_setDefaults_12 rfl (lv_at hl 1 rfl) ?_
        refine lv_iconst (v := nI 0) hx hb dX11_setDefaults_13 (by decide) ?_
        refine x_iast (x := nI 0) hx hb hK hw 32 40 (Nat.lt_of_lt_of_le (Nat.le_of_ble_eq_true rfl : 32 < 191) hn) (mk_32 cA α) k rfl (by omega) (by decide) dX11_setDefaults_14 (fun S2 eS2 H locs hw => ?_)
        refine lv_iinc (v := nI (k + 1)) (lv' := [(1, .int (nI (k + 1))), (0, .ref (α 30))]) hx hb dX11_setDefaults_15 hl (k := 1) rfl (nI_1 _) (by decide) rfl (fun ls hl => ?_)
        refine lv_goto (tgt := 2) hx hb dX11_setDefaults_18 (by decide) ?_
        exact ih2 (k + 1) S2 _ _ _ (by omega) (by omega) (by rw [eS2, hT, setI_setR, zI_s]) hw (lv_sub hl [1, 0] rfl)
  exact lp2 _ 0 S _ _ _ (Nat.lt_succ_self _) (Nat.zero_le _) (by rw [zI_0]; exact (setR_same S 32).symm) hw (lv_sub hl [1, 0] rfl)

set_option maxRecDepth 100000 in
set_option maxHeartbeats 1000000 in
theorem ct_X11_takeDraft (l : Launch) (D : va_G) (cA : Nat → ClassId) (α : Nat → Nat) (n sz : Nat) (hn : 191 ≤ n) (S : Mem)  : CtV l yX11_takeDraft wsX11_takeDraft ({ frames := 0, cells := 0, slots := 0, locals := 0 }) D cA α n sz [.ref (α 30)] S (rTD S) := by
  refine ct_enter cX11_takeDraft 2 none (by decide) rfl (Nat.le_of_ble_eq_true rfl) ?_
  intro p e s m below meth c hx hb hr hml hlocks hown hts hK hsz hw ls hl
  have hown : s.vm.findClass RX11 = some m.cls := hown
  have hAw : ∀ z, Aw α n s.heap.size z → Aw α n sz z := by rw [hsz]; exact fun _ h => h
  have hl : lv_has ls 2 [(0, .ref (α 30))] := hl
  refine lv_iconst (v := nI 0) hx hb dX11_takeDraft_0 (by decide) ?_
  refine lv_istore_n (lv' := [(1, .int (nI 0)), (0, .ref (α 30))]) hx hb dX11_takeDraft_1 rfl hl (by decide) rfl (fun ls hl => ?_)
  have lp2 : ∀ (t : Nat) (k : Nat) (T : Mem) (H : Heap) (locs : List Loc) (ls : Array Slot), 40 - k < t → k ≤ 40 → T = setR S 33 (cpI (S.1 32) (S.1 33) k) → Ws D cA α n (Aw α n sz) s.heap T H locs → lv_has ls 2 [(0, .ref (α 30)), (1, .int (nI k))] → W p l e ({ frames := 0, cells := 0, slots := 0, locals := 0 } : Room) s m (List.toArray ([.ref (α 30)] : List Value)) below meth c H locs 0 0 (MQ below (va_Qv (fun u => u = (rTD S)) (Pw D cA α n) (Aw α n sz)) (List.toArray ([.ref (α 30)] : List Value)) s 0 0 (Aw α n sz)) (F0 m 2 ls []) := by
    intro t
    induction t with
    | zero => intro k T H locs ls ht; exact absurd ht (Nat.not_lt_zero _)
    | succ t ih2 =>
      intro k T H locs ls ht hk hT hw hl
      refine lv_iload_n hx hb dX11_takeDraft_2 rfl (lv_at hl 1 rfl) ?_
      refine lv_bipush (v := nI 40) hx hb dX11_takeDraft_3 (by decide) ?_
      refine xn_icmp_ge (tgt := 26) hx hb (by omega) (by decide) dX11_takeDraft_5 (by decide) (fun c1 => ?_) (fun c1 => ?_)
      · skip
        refine lv_iconst (v := nI 0) hx hb dX11_takeDraft_26 (by decide) ?_
        refine lv_istore_n (lv' := [(1, .int (nI 0)), (0, .ref (α 30))]) hx hb dX11_takeDraft_27 rfl hl (by decide) rfl (fun ls hl => ?_)
        have lp28 : ∀ (t : Nat) (j : Nat) (T2 : Mem) (H : Heap) (locs : List Loc) (ls : Array Slot), 8 - j < t → j ≤ 8 → T2 = setR (rTa S) 34 (zI ((rTa S).1 34) j) → Ws D cA α n (Aw α n sz) s.heap T2 H locs → lv_has ls 2 [(0, .ref (α 30)), (1, .int (nI j))] → W p l e ({ frames := 0, cells := 0, slots := 0, locals := 0 } : Room) s m (List.toArray ([.ref (α 30)] : List Value)) below meth c H locs 0 0 (MQ below (va_Qv (fun u => u = (rTD S)) (Pw D cA α n) (Aw α n sz)) (List.toArray ([.ref (α 30)] : List Value)) s 0 0 (Aw α n sz)) (F0 m 28 ls []) := by
          intro t
          induction t with
          | zero => intro j T2 H locs ls ht; exact absurd ht (Nat.not_lt_zero _)
          | succ t ih28 =>
            intro j T2 H locs ls ht hj hT2 hw hl
            refine lv_iload_n hx hb dX11_takeDraft_28 rfl (lv_at hl 1 rfl) ?_
            refine lv_bipush (v := nI 8) hx hb dX11_takeDraft_29 (by decide) ?_
            refine xn_icmp_ge (tgt := 47) hx hb (by omega) (by decide) dX11_takeDraft_31 (by decide) (fun c2 => ?_) (fun c2 => ?_)
            · skip
              refine lv_iconst (v := nI 0) hx hb dX11_takeDraft_47 (by decide) ?_
              refine lv_istore_n (lv' := [(1, .int (nI 0)), (0, .ref (α 30))]) hx hb dX11_takeDraft_48 rfl hl (by decide) rfl (fun ls hl => ?_)
              have lp49 : ∀ (t : Nat) (c9 : Nat) (T3 : Mem) (H : Heap) (locs : List Loc) (ls : Array Slot), 4 - c9 < t → c9 ≤ 4 → T3 = setR (rTb S) 34 (rtI ((rTb S).1 33) ((rTb S).1 34) c9) → Ws D cA α n (Aw α n sz) s.heap T3 H locs → lv_has ls 2 [(0, .ref (α 30)), (1, .int (nI c9))] → W p l e ({ frames := 0, cells := 0, slots := 0, locals := 0 } : Room) s m (List.toArray ([.ref (α 30)] : List Value)) below meth c H locs 0 0 (MQ below (va_Qv (fun u => u = (rTD S)) (Pw D cA α n) (Aw α n sz)) (List.toArray ([.ref (α 30)] : List Value)) s 0 0 (Aw α n sz)) (F0 m 49 ls []) := by
                intro t
                induction t with
                | zero => intro c9 T3 H locs ls ht; exact absurd ht (Nat.not_lt_zero _)
                | succ t ih49 =>
                  intro c9 T3 H locs ls ht hc hT3 hw hl
                  refine lv_iload_n hx hb dX11_takeDraft_49 rfl (lv_at hl 1 rfl) ?_
                  refine lv_iconst (v := nI 4) hx hb dX11_takeDraft_50 (by decide) ?_
                  refine xn_icmp_ge (tgt := 77) hx hb (by omega) (by decide) dX11_takeDraft_51 (by decide) (fun c3 => ?_) (fun c3 => ?_)
                  · skip
                    refine lv_aload_n hx hb dX11_takeDraft_77 rfl (lv_at hl 0 rfl) ?_
                    refine x_get (v := .ref (α 34)) (C := RX11) (T := TX11) (N := 24) hx hb hts (fun _ h => List.mem_cons_of_mem _ (List.mem_append_right _ h)) hown hK hw 30 (Nat.lt_of_lt_of_le (Nat.le_of_ble_eq_true rfl : 30 < 191) hn) (mk_30 cA α) rfl 13 (by decide) (hts _ (List.mem_of_getElem? (i := 3) rfl)) (fun _ h9 => h9) rfl dX11_takeDraft_78 ?_
                    refine lv_iconst (v := nI 3) hx hb dX11_takeDraft_81 (by decide) ?_
                    refine lv_aload_n hx hb dX11_takeDraft_82 rfl (lv_at hl 0 rfl) ?_
                    refine x_get (v := .ref (α 33)) (C := RX11) (T := TX11) (N := 24) hx hb hts (fun _ h => List.mem_cons_of_mem _ (List.mem_append_right _ h)) hown hK hw 30 (Nat.lt_of_lt_of_le (Nat.le_of_ble_eq_true rfl : 30 < 191) hn) (mk_30 cA α) rfl 11 (by decide) (hts _ (List.mem_of_getElem? (i := 1) rfl)) (fun _ h9 => h9) rfl dX11_takeDraft_83 ?_
                    refine lv_iconst (v := nI 3) hx hb dX11_takeDraft_86 (by decide) ?_
                    refine x_iald hx hb hK hw 33 40 (Nat.lt_of_lt_of_le (Nat.le_of_ble_eq_true rfl : 33 < 191) hn) (mk_33 cA α) 3 rfl (by decide) (by decide) dX11_takeDraft_87 ?_
                    refine x_iast (x := T3.1 33 3) hx hb hK hw 34 1508 (Nat.lt_of_lt_of_le (Nat.le_of_ble_eq_true rfl : 34 < 191) hn) (mk_34 cA α) 3 rfl (by decide) (by decide) dX11_takeDraft_88 (fun S1 eS1 H locs hw => ?_)
                    refine lv_iconst (v := nI 0) hx hb dX11_takeDraft_89 (by decide) ?_
                    refine lv_istore_n (lv' := [(1, .int (nI 0)), (0, .ref (α 30))]) hx hb dX11_takeDraft_90 rfl hl (by decide) rfl (fun ls hl => ?_)
                    have lp91 : ∀ (t : Nat) (i9 : Nat) (T4 : Mem) (H : Heap) (locs : List Loc) (ls : Array Slot), 9 - i9 < t → i9 ≤ 9 → T4 = setL (rTd S) 35 (zL ((rTd S).2 35) i9) → Ws D cA α n (Aw α n sz) s.heap T4 H locs → lv_has ls 2 [(0, .ref (α 30)), (1, .int (nI i9))] → W p l e ({ frames := 0, cells := 0, slots := 0, locals := 0 } : Room) s m (List.toArray ([.ref (α 30)] : List Value)) below meth c H locs 0 0 (MQ below (va_Qv (fun u => u = (rTD S)) (Pw D cA α n) (Aw α n sz)) (List.toArray ([.ref (α 30)] : List Value)) s 0 0 (Aw α n sz)) (F0 m 91 ls []) := by
                      intro t
                      induction t with
                      | zero => intro i9 T4 H locs ls ht; exact absurd ht (Nat.not_lt_zero _)
                      | succ t ih91 =>
                        intro i9 T4 H locs ls ht hi hT4 hw hl
                        refine lv_iload_n hx hb dX11_takeDraft_91 rfl (lv_at hl 1 rfl) ?_
                        refine lv_bipush (v := nI 9) hx hb dX11_takeDraft_92 (by decide) ?_
                        refine xn_icmp_ge (tgt := 110) hx hb (by omega) (by decide) dX11_takeDraft_94 (by decide) (fun c4 => ?_) (fun c4 => ?_)
                        · skip
                          refine lv_aload_n hx hb dX11_takeDraft_110 rfl (lv_at hl 0 rfl) ?_
                          refine lv_iconst (v := nI 0) hx hb dX11_takeDraft_111 (by decide) ?_
                          refine x_putI (x := nI 0) (ty := .int) (C := RX11) (T := TX11) (N := 24) hx hb hts (fun _ h => List.mem_cons_of_mem _ (List.mem_append_right _ h)) tyX11 tyX11_ok nmX11 hown hK hw 30 (Nat.lt_of_lt_of_le (Nat.le_of_ble_eq_true rfl : 30 < 191) hn) (mk_30 cA α) rfl 17 (by decide) (hts _ (List.mem_of_getElem? (i := 5) rfl)) (fun _ h9 => h9) rfl rfl rfl rfl (Nat.le_of_ble_eq_true rfl) rfl dX11_takeDraft_112 (fun S2 eS2 H locs hw => ?_)
                          refine lv_aload_n hx hb dX11_takeDraft_115 rfl (lv_at hl 0 rfl) ?_
                          refine x_get (v := .ref (α 40)) (C := RX11) (T := TX11) (N := 24) hx hb hts (fun _ h => List.mem_cons_of_mem _ (List.mem_append_right _ h)) hown hK hw 30 (Nat.lt_of_lt_of_le (Nat.le_of_ble_eq_true rfl : 30 < 191) hn) (mk_30 cA α) rfl 20 (by decide) (hts _ (List.mem_of_getElem? (i := 6) rfl)) (fun _ h9 => h9) rfl dX11_takeDraft_116 ?_
                          refine lv_iconst (v := nI 0) hx hb dX11_takeDraft_119 (by decide) ?_
                          refine lv_iconst (v := nI 0) hx hb dX11_takeDraft_120 (by decide) ?_
                          refine x_zast (x := nI 0) hx hb hK hw 40 2 (Nat.lt_of_lt_of_le (Nat.le_of_ble_eq_true rfl : 40 < 191) hn) (mk_40 cA α) 0 rfl (by decide) (by decide) dX11_takeDraft_121 (fun S3 eS3 H locs hw => ?_)
                          refine lv_aload_n hx hb dX11_takeDraft_122 rfl (lv_at hl 0 rfl) ?_
                          refine x_get (v := .ref (α 40)) (C := RX11) (T := TX11) (N := 24) hx hb hts (fun _ h => List.mem_cons_of_mem _ (List.mem_append_right _ h)) hown hK hw 30 (Nat.lt_of_lt_of_le (Nat.le_of_ble_eq_true rfl : 30 < 191) hn) (mk_30 cA α) rfl 20 (by decide) (hts _ (List.mem_of_getElem? (i := 6) rfl)) (fun _ h9 => h9) rfl dX11_takeDraft_123 ?_
                          refine lv_iconst (v := nI 1) hx hb dX11_takeDraft_126 (by decide) ?_
                          refine lv_iconst (v := nI 0) hx hb dX11_takeDraft_127 (by decide) ?_
                          refine x_zast (x := nI 0) hx hb hK hw 40 2 (Nat.lt_of_lt_of_le (Nat.le_of_ble_eq_true rfl : 40 < 191) hn) (mk_40 cA α) 1 rfl (by decide) (by decide) dX11_takeDraft_128 (fun S4 eS4 H locs hw => ?_)
                          exact ret_v hx hb hr hlocks hK hw dX11_takeDraft_129 (by subst eS4; subst eS3; subst eS2; rw [hT4, show i9 = 9 by omega]; rfl)
                        · skip
                          refine lv_aload_n hx hb dX11_takeDraft_97 rfl (lv_at hl 0 rfl) ?_
                          refine x_get (v := .ref (α 35)) (C := RX11) (T := TX11) (N := 24) hx hb hts (fun _ h => List.mem_cons_of_mem _ (List.mem_append_right _ h)) hown hK hw 30 (Nat.lt_of_lt_of_le (Nat.le_of_ble_eq_true rfl : 30 < 191) hn) (mk_30 cA α) rfl 14 (by decide) (hts _ (List.mem_of_getElem? (i := 4) rfl)) (fun _ h9 => h9) rfl dX11_takeDraft_98 ?_
                          refine lv_iload_n hx hb dX11_takeDraft_101 rfl (lv_at hl 1 rfl) ?_
                          refine lv_lconst (v := 0) hx hb dX11_takeDraft_102 (by decide) ?_
                          refine x_last (x := 0) hx hb hK hw 35 309 (Nat.lt_of_lt_of_le (Nat.le_of_ble_eq_true rfl : 35 < 191) hn) (mk_35 cA α) i9 rfl (by omega) (by decide) dX11_takeDraft_103 (fun S5 eS5 H locs hw => ?_)
                          refine lv_iinc (v := nI (i9 + 1)) (lv' := [(1, .int (nI (i9 + 1))), (0, .ref (α 30))]) hx hb dX11_takeDraft_104 hl (k := 1) rfl (nI_1 _) (by decide) rfl (fun ls hl => ?_)
                          refine lv_goto (tgt := 91) hx hb dX11_takeDraft_107 (by decide) ?_
                          exact ih91 (i9 + 1) S5 _ _ _ (by omega) (by omega) (by rw [eS5, hT4]; exact zL_step (rTd S) 35 i9) hw (lv_sub hl [1, 0] rfl)
                    exact lp91 _ 0 S1 _ _ _ (Nat.lt_succ_self _) (Nat.zero_le _) (by rw [zL_0, setL_same, eS1, hT3, show c9 = 4 by omega]; rfl) hw (lv_sub hl [1, 0] rfl)
                  · skip
                    refine lv_aload_n hx hb dX11_takeDraft_54 rfl (lv_at hl 0 rfl) ?_
                    refine x_get (v := .ref (α 34)) (C := RX11) (T := TX11) (N := 24) hx hb hts (fun _ h => List.mem_cons_of_mem _ (List.mem_append_right _ h)) hown hK hw 30 (Nat.lt_of_lt_of_le (Nat.le_of_ble_eq_true rfl : 30 < 191) hn) (mk_30 cA α) rfl 13 (by decide) (hts _ (List.mem_of_getElem? (i := 3) rfl)) (fun _ h9 => h9) rfl dX11_takeDraft_55 ?_
                    refine lv_iconst (v := nI 4) hx hb dX11_takeDraft_58 (by decide) ?_
                    refine lv_iload_n hx hb dX11_takeDraft_59 rfl (lv_at hl 1 rfl) ?_
                    refine xn_iadd hx hb dX11_takeDraft_60 ?_
                    refine lv_aload_n hx hb dX11_takeDraft_61 rfl (lv_at hl 0 rfl) ?_
                    refine x_get (v := .ref (α 33)) (C := RX11) (T := TX11) (N := 24) hx hb hts (fun _ h => List.mem_cons_of_mem _ (List.mem_append_right _ h)) hown hK hw 30 (Nat.lt_of_lt_of_le (Nat.le_of_ble_eq_true rfl : 30 < 191) hn) (mk_30 cA α) rfl 11 (by decide) (hts _ (List.mem_of_getElem? (i := 1) rfl)) (fun _ h9 => h9) rfl dX11_takeDraft_62 ?_
                    refine lv_bipush (v := nI 6) hx hb dX11_takeDraft_65 (by decide) ?_
                    refine lv_iload_n hx hb dX11_takeDraft_67 rfl (lv_at hl 1 rfl) ?_
                    refine xn_iadd hx hb dX11_takeDraft_68 ?_
                    refine x_iald hx hb hK hw 33 40 (Nat.lt_of_lt_of_le (Nat.le_of_ble_eq_true rfl : 33 < 191) hn) (mk_33 cA α) (6 + c9) rfl (by omega) (by decide) dX11_takeDraft_69 ?_
                    refine x_topE (y := (rTb S).1 33 (6 + c9)) (by rw [hT3, sR_1 (by decide)]) ?_
                    refine x_iast (x := (rTb S).1 33 (6 + c9)) hx hb hK hw 34 1508 (Nat.lt_of_lt_of_le (Nat.le_of_ble_eq_true rfl : 34 < 191) hn) (mk_34 cA α) (4 + c9) rfl (by omega) (by decide) dX11_takeDraft_70 (fun S6 eS6 H locs hw => ?_)
                    refine lv_iinc (v := nI (c9 + 1)) (lv' := [(1, .int (nI (c9 + 1))), (0, .ref (α 30))]) hx hb dX11_takeDraft_71 hl (k := 1) rfl (nI_1 _) (by decide) rfl (fun ls hl => ?_)
                    refine lv_goto (tgt := 49) hx hb dX11_takeDraft_74 (by decide) ?_
                    exact ih49 (c9 + 1) S6 _ _ _ (by omega) (by omega) (by rw [eS6, hT3, setI_setR, rtI_s]) hw (lv_sub hl [1, 0] rfl)
              exact lp49 _ 0 T2 _ _ _ (Nat.lt_succ_self _) (Nat.zero_le _) (by rw [rtI_0, setR_same, hT2, show j = 8 by omega]; rfl) hw (lv_sub hl [1, 0] rfl)
            · skip
              refine lv_aload_n hx hb dX11_takeDraft_34 rfl (lv_at hl 0 rfl) ?_
              refine x_get (v := .ref (α 34)) (C := RX11) (T := TX11) (N := 24) hx hb hts (fun _ h => List.mem_cons_of_mem _ (List.mem_append_right _ h)) hown hK hw 30 (Nat.lt_of_lt_of_le (Nat.le_of_ble_eq_true rfl : 30 < 191) hn) (mk_30 cA α) rfl 13 (by decide) (hts _ (List.mem_of_getElem? (i := 3) rfl)) (fun _ h9 => h9) rfl dX11_takeDraft_35 ?_
              refine lv_iload_n hx hb dX11_takeDraft_38 rfl (lv_at hl 1 rfl) ?_
              refine lv_iconst (v := nI 0) hx hb dX11_takeDraft_39 (by decide) ?_
              refine x_iast (x := nI 0) hx hb hK hw 34 1508 (Nat.lt_of_lt_of_le (Nat.le_of_ble_eq_true rfl : 34 < 191) hn) (mk_34 cA α) j rfl (by omega) (by decide) dX11_takeDraft_40 (fun S7 eS7 H locs hw => ?_)
              refine lv_iinc (v := nI (j + 1)) (lv' := [(1, .int (nI (j + 1))), (0, .ref (α 30))]) hx hb dX11_takeDraft_41 hl (k := 1) rfl (nI_1 _) (by decide) rfl (fun ls hl => ?_)
              refine lv_goto (tgt := 28) hx hb dX11_takeDraft_44 (by decide) ?_
              exact ih28 (j + 1) S7 _ _ _ (by omega) (by omega) (by rw [eS7, hT2, setI_setR, zI_s]) hw (lv_sub hl [1, 0] rfl)
        exact lp28 _ 0 T _ _ _ (Nat.lt_succ_self _) (Nat.zero_le _) (by rw [zI_0, setR_same, hT, show k = 40 by omega]; rfl) hw (lv_sub hl [1, 0] rfl)
      · skip
        refine lv_aload_n hx hb dX11_takeDraft_8 rfl (lv_at hl 0 rfl) ?_
        refine x_get (v := .ref (α 33)) (C := RX11) (T := TX11) (N := 24) hx hb hts (fun _ h => List.mem_cons_of_mem _ (List.mem_append_right _ h)) hown hK hw 30 (Nat.lt_of_lt_of_le (Nat.le_of_ble_eq_true rfl : 30 < 191) hn) (mk_30 cA α) rfl 11 (by decide) (hts _ (List.mem_of_getElem? (i := 1) rfl)) (fun _ h9 => h9) rfl dX11_takeDraft_9 ?_
        refine lv_iload_n hx hb dX11_takeDraft_12 rfl (lv_at hl 1 rfl) ?_
        refine lv_aload_n hx hb dX11_takeDraft_13 rfl (lv_at hl 0 rfl) ?_
        refine x_get (v := .ref (α 32)) (C := RX11) (T := TX11) (N := 24) hx hb hts (fun _ h => List.mem_cons_of_mem _ (List.mem_append_right _ h)) hown hK hw 30 (Nat.lt_of_lt_of_le (Nat.le_of_ble_eq_true rfl : 30 < 191) hn) (mk_30 cA α) rfl 10 (by decide) (hts _ (List.mem_of_getElem? (i := 2) rfl)) (fun _ h9 => h9) rfl dX11_takeDraft_14 ?_
        refine lv_iload_n hx hb dX11_takeDraft_17 rfl (lv_at hl 1 rfl) ?_
        refine x_iald hx hb hK hw 32 40 (Nat.lt_of_lt_of_le (Nat.le_of_ble_eq_true rfl : 32 < 191) hn) (mk_32 cA α) k rfl (by omega) (by decide) dX11_takeDraft_18 ?_
        refine x_topE (y := S.1 32 k) (by rw [hT, sR_1 (by decide)]) ?_
        refine x_iast (x := S.1 32 k) hx hb hK hw 33 40 (Nat.lt_of_lt_of_le (Nat.le_of_ble_eq_true rfl : 33 < 191) hn) (mk_33 cA α) k rfl (by omega) (by decide) dX11_takeDraft_19 (fun S8 eS8 H locs hw => ?_)
        refine lv_iinc (v := nI (k + 1)) (lv' := [(1, .int (nI (k + 1))), (0, .ref (α 30))]) hx hb dX11_takeDraft_20 hl (k := 1) rfl (nI_1 _) (by decide) rfl (fun ls hl => ?_)
        refine lv_goto (tgt := 2) hx hb dX11_takeDraft_23 (by decide) ?_
        exact ih2 (k + 1) S8 _ _ _ (by omega) (by omega) (by rw [eS8, hT, setI_setR, cpI_s]) hw (lv_sub hl [1, 0] rfl)
  exact lp2 _ 0 S _ _ _ (Nat.lt_succ_self _) (Nat.zero_le _) (by rw [cpI_0]; exact (setR_same S 33).symm) hw (lv_sub hl [1, 0] rfl)
