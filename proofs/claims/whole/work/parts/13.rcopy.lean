/-! the reference: copies, the start -/
theorem va_cpy_0 {β : Type} (f g : Nat → β) (sp dp : Nat) : va_cpy f g sp dp 0 = g := by
  funext j; unfold va_cpy; rw [if_neg (by omega)]
theorem va_cpy_sI (f g : Nat → Int32) (sp dp i : Nat) : upd (va_cpy f g sp dp i) (dp + i) (f (sp + i)) = va_cpy f g sp dp (i + 1) := by
  funext j
  unfold upd va_cpy
  by_cases h : j = dp + i
  · rw [if_pos h, if_pos (by omega)]; congr 1; omega
  · rw [if_neg h]
    by_cases h2 : dp ≤ j ∧ j < dp + i
    · rw [if_pos h2, if_pos (by omega)]
    · rw [if_neg h2, if_neg (by omega)]
theorem va_cpy_sL (f g : Nat → Int64) (sp dp i : Nat) : vp_updL (va_cpy f g sp dp i) (dp + i) (f (sp + i)) = va_cpy f g sp dp (i + 1) := by
  funext j
  unfold vp_updL va_cpy
  by_cases h : j = dp + i
  · rw [if_pos h, if_pos (by omega)]; congr 1; omega
  · rw [if_neg h]
    by_cases h2 : dp ≤ j ∧ j < dp + i
    · rw [if_pos h2, if_pos (by omega)]
    · rw [if_neg h2, if_neg (by omega)]
theorem va_cpy_out {β : Type} {f g : Nat → β} {sp dp i j : Nat} (h : j < dp ∨ dp + i ≤ j) : va_cpy f g sp dp i j = g j := by
  unfold va_cpy; rw [if_neg (by omega)]
/-- a block of ints and one of longs, from (a, b) at k into (c, d) at r -/
def cpBl (S : Mem) (a b k c d r : Nat) : Mem := setL (setR S c (va_cpy (S.1 a) (S.1 c) (1508 * k) (1508 * r) 1508)) d (va_cpy (S.2 b) (S.2 d) (309 * k) (309 * r) 309)

set_option maxRecDepth 100000 in
set_option maxHeartbeats 1000000 in
theorem ct_X11_copy_sh (l : Launch) (D : va_G) (cA : Nat → ClassId) (α : Nat → Nat) (n sz : Nat) (hn : 191 ≤ n) (S : Mem) (k r : Nat) (hk : k = 0) (hr9 : r < 10) : CtV l yX11_copy wsX11_copy ({ frames := 0, cells := 0, slots := 0, locals := 0 }) D cA α n sz [.ref (α 34), .ref (α 35), .int (nI k), .ref (α 36), .ref (α 37), .int (nI r)] S (cpBl S 34 35 k 36 37 r) := by
  refine ct_enter cX11_copy 7 none (by decide) rfl (Nat.le_of_ble_eq_true rfl) ?_
  intro p e s m below meth c hx hb hr hml hlocks hown hts hK hsz hw ls hl
  have hown : s.vm.findClass RX11 = some m.cls := hown
  have hAw : ∀ z, Aw α n s.heap.size z → Aw α n sz z := by rw [hsz]; exact fun _ h => h
  have hl : lv_has ls 7 [(0, .ref (α 34)), (1, .ref (α 35)), (2, .int (nI k)), (3, .ref (α 36)), (4, .ref (α 37)), (5, .int (nI r))] := hl
  refine lv_iconst (v := nI 0) hx hb dX11_copy_0 (by decide) ?_
  refine lv_istore (lv' := [(6, .int (nI 0)), (0, .ref (α 34)), (1, .ref (α 35)), (2, .int (nI k)), (3, .ref (α 36)), (4, .ref (α 37)), (5, .int (nI r))]) hx hb dX11_copy_1 hl (by decide) rfl (fun ls hl => ?_)
  have lp3 : ∀ (t : Nat) (i : Nat) (T : Mem) (H : Heap) (locs : List Loc) (ls : Array Slot), 1508 - i < t → i ≤ 1508 → T = setR S 36 (va_cpy (S.1 34) (S.1 36) (1508 * k) (1508 * r) i) → Ws D cA α n (Aw α n sz) s.heap T H locs → lv_has ls 7 [(0, .ref (α 34)), (1, .ref (α 35)), (2, .int (nI k)), (3, .ref (α 36)), (4, .ref (α 37)), (5, .int (nI r)), (6, .int (nI i))] → W p l e ({ frames := 0, cells := 0, slots := 0, locals := 0 } : Room) s m (List.toArray ([.ref (α 34), .ref (α 35), .int (nI k), .ref (α 36), .ref (α 37), .int (nI r)] : List Value)) below meth c H locs 0 0 (MQ below (va_Qv (fun u => u = (cpBl S 34 35 k 36 37 r)) (Pw D cA α n) (Aw α n sz)) (List.toArray ([.ref (α 34), .ref (α 35), .int (nI k), .ref (α 36), .ref (α 37), .int (nI r)] : List Value)) s 0 0 (Aw α n sz)) (F0 m 3 ls []) := by
    intro t
    induction t with
    | zero => intro i T H locs ls ht; exact absurd ht (Nat.not_lt_zero _)
    | succ t ih3 =>
      intro i T H locs ls ht hi hT hw hl
      refine lv_iload hx hb dX11_copy_3 (lv_at hl 6 rfl) ?_
      refine lv_sipush (v := nI 1508) hx hb dX11_copy_5 (by decide) ?_
      refine xn_icmp_ge (tgt := 38) hx hb (by omega) (by decide) dX11_copy_8 (by decide) (fun c1 => ?_) (fun c1 => ?_)
      · skip
        refine lv_iconst (v := nI 0) hx hb dX11_copy_38 (by decide) ?_
        refine lv_istore (lv' := [(6, .int (nI 0)), (0, .ref (α 34)), (1, .ref (α 35)), (2, .int (nI k)), (3, .ref (α 36)), (4, .ref (α 37)), (5, .int (nI r))]) hx hb dX11_copy_39 hl (by decide) rfl (fun ls hl => ?_)
        have lp41 : ∀ (t : Nat) (i : Nat) (T : Mem) (H : Heap) (locs : List Loc) (ls : Array Slot), 309 - i < t → i ≤ 309 → T = setL (setR S 36 (va_cpy (S.1 34) (S.1 36) (1508 * k) (1508 * r) 1508)) 37 (va_cpy (S.2 35) (S.2 37) (309 * k) (309 * r) i) → Ws D cA α n (Aw α n sz) s.heap T H locs → lv_has ls 7 [(0, .ref (α 34)), (1, .ref (α 35)), (2, .int (nI k)), (3, .ref (α 36)), (4, .ref (α 37)), (5, .int (nI r)), (6, .int (nI i))] → W p l e ({ frames := 0, cells := 0, slots := 0, locals := 0 } : Room) s m (List.toArray ([.ref (α 34), .ref (α 35), .int (nI k), .ref (α 36), .ref (α 37), .int (nI r)] : List Value)) below meth c H locs 0 0 (MQ below (va_Qv (fun u => u = (cpBl S 34 35 k 36 37 r)) (Pw D cA α n) (Aw α n sz)) (List.toArray ([.ref (α 34), .ref (α 35), .int (nI k), .ref (α 36), .ref (α 37), .int (nI r)] : List Value)) s 0 0 (Aw α n sz)) (F0 m 41 ls []) := by
          intro t
          induction t with
          | zero => intro i T H locs ls ht; exact absurd ht (Nat.not_lt_zero _)
          | succ t ih41 =>
            intro i T H locs ls ht hi hT hw hl
            refine lv_iload hx hb dX11_copy_41 (lv_at hl 6 rfl) ?_
            refine lv_sipush (v := nI 309) hx hb dX11_copy_43 (by decide) ?_
            refine xn_icmp_ge (tgt := 77) hx hb (by omega) (by decide) dX11_copy_46 (by decide) (fun c2 => ?_) (fun c2 => ?_)
            · skip
              exact ret_v hx hb hr hlocks hK hw dX11_copy_77 (by rw [hT, show i = 309 by omega]; rfl)
            · skip
              refine lv_aload hx hb dX11_copy_49 (lv_at hl 4 rfl) ?_
              refine lv_sipush (v := nI 309) hx hb dX11_copy_51 (by decide) ?_
              refine lv_iload hx hb dX11_copy_54 (lv_at hl 5 rfl) ?_
              refine xn_imul hx hb dX11_copy_56 ?_
              refine lv_iload hx hb dX11_copy_57 (lv_at hl 6 rfl) ?_
              refine xn_iadd hx hb dX11_copy_59 ?_
              refine lv_aload_n hx hb dX11_copy_60 rfl (lv_at hl 1 rfl) ?_
              refine lv_sipush (v := nI 309) hx hb dX11_copy_61 (by decide) ?_
              refine lv_iload_n hx hb dX11_copy_64 rfl (lv_at hl 2 rfl) ?_
              refine xn_imul hx hb dX11_copy_65 ?_
              refine lv_iload hx hb dX11_copy_66 (lv_at hl 6 rfl) ?_
              refine xn_iadd hx hb dX11_copy_68 ?_
              refine x_lald hx hb hK hw 35 309 (Nat.lt_of_lt_of_le (Nat.le_of_ble_eq_true rfl : 35 < 191) hn) (mk_35 cA α) ((309 * k) + i) rfl (by omega) (by decide) dX11_copy_69 ?_
              refine x_topEL (y := S.2 35 (309 * k + i)) (by rw [hT]; rw [show (setL (setR S 36 (va_cpy (S.1 34) (S.1 36) (1508 * k) (1508 * r) 1508)) 37 (va_cpy (S.2 35) (S.2 37) (309 * k) (309 * r) i)).2 35 (309 * k + i) = S.2 35 (309 * k + i) from by rw [sL_2 (by decide), sR_2]]) ?_
              refine x_last (x := S.2 35 (309 * k + i)) hx hb hK hw 37 3090 (Nat.lt_of_lt_of_le (Nat.le_of_ble_eq_true rfl : 37 < 191) hn) (mk_37 cA α) ((309 * r) + i) rfl (by omega) (by decide) dX11_copy_70 (fun S1 eS1 H locs hw => ?_)
              refine lv_iinc (v := nI (i + 1)) (lv' := [(6, .int (nI (i + 1))), (0, .ref (α 34)), (1, .ref (α 35)), (2, .int (nI k)), (3, .ref (α 36)), (4, .ref (α 37)), (5, .int (nI r))]) hx hb dX11_copy_71 hl (k := 6) rfl (nI_1 _) (by decide) rfl (fun ls hl => ?_)
              refine lv_goto (tgt := 41) hx hb dX11_copy_74 (by decide) ?_
              exact ih41 (i + 1) S1 _ _ _ (by omega) (by omega) (by subst_vars; rw [setJ_setL, va_cpy_sL]) hw (lv_sub hl [1, 2, 3, 4, 5, 6, 0] rfl)
        exact lp41 _ 0 T _ _ _ (Nat.lt_succ_self _) (Nat.zero_le _) (by rw [va_cpy_0, hT, show i = 1508 by omega]; exact (setL_same (setR S 36 _) 37).symm) hw (lv_sub hl [1, 2, 3, 4, 5, 6, 0] rfl)
      · skip
        refine lv_aload_n hx hb dX11_copy_11 rfl (lv_at hl 3 rfl) ?_
        refine lv_sipush (v := nI 1508) hx hb dX11_copy_12 (by decide) ?_
        refine lv_iload hx hb dX11_copy_15 (lv_at hl 5 rfl) ?_
        refine xn_imul hx hb dX11_copy_17 ?_
        refine lv_iload hx hb dX11_copy_18 (lv_at hl 6 rfl) ?_
        refine xn_iadd hx hb dX11_copy_20 ?_
        refine lv_aload_n hx hb dX11_copy_21 rfl (lv_at hl 0 rfl) ?_
        refine lv_sipush (v := nI 1508) hx hb dX11_copy_22 (by decide) ?_
        refine lv_iload_n hx hb dX11_copy_25 rfl (lv_at hl 2 rfl) ?_
        refine xn_imul hx hb dX11_copy_26 ?_
        refine lv_iload hx hb dX11_copy_27 (lv_at hl 6 rfl) ?_
        refine xn_iadd hx hb dX11_copy_29 ?_
        refine x_iald hx hb hK hw 34 1508 (Nat.lt_of_lt_of_le (Nat.le_of_ble_eq_true rfl : 34 < 191) hn) (mk_34 cA α) ((1508 * k) + i) rfl (by omega) (by decide) dX11_copy_30 ?_
        refine x_topE (y := S.1 34 (1508 * k + i)) (by rw [hT]; rw [show (setR S 36 (va_cpy (S.1 34) (S.1 36) (1508 * k) (1508 * r) i)).1 34 (1508 * k + i) = S.1 34 (1508 * k + i) from by rw [sR_1 (by decide)]]) ?_
        refine x_iast (x := S.1 34 (1508 * k + i)) hx hb hK hw 36 15080 (Nat.lt_of_lt_of_le (Nat.le_of_ble_eq_true rfl : 36 < 191) hn) (mk_36 cA α) ((1508 * r) + i) rfl (by omega) (by decide) dX11_copy_31 (fun S2 eS2 H locs hw => ?_)
        refine lv_iinc (v := nI (i + 1)) (lv' := [(6, .int (nI (i + 1))), (0, .ref (α 34)), (1, .ref (α 35)), (2, .int (nI k)), (3, .ref (α 36)), (4, .ref (α 37)), (5, .int (nI r))]) hx hb dX11_copy_32 hl (k := 6) rfl (nI_1 _) (by decide) rfl (fun ls hl => ?_)
        refine lv_goto (tgt := 3) hx hb dX11_copy_35 (by decide) ?_
        exact ih3 (i + 1) S2 _ _ _ (by omega) (by omega) (by subst_vars; rw [setI_setR, va_cpy_sI]) hw (lv_sub hl [1, 2, 3, 4, 5, 6, 0] rfl)
  exact lp3 _ 0 S _ _ _ (Nat.lt_succ_self _) (Nat.zero_le _) (by rw [va_cpy_0]; exact (setR_same S 36).symm) hw (lv_sub hl [1, 2, 3, 4, 5, 6, 0] rfl)

set_option maxRecDepth 100000 in
set_option maxHeartbeats 1000000 in
theorem ct_X11_copy_hs (l : Launch) (D : va_G) (cA : Nat → ClassId) (α : Nat → Nat) (n sz : Nat) (hn : 191 ≤ n) (S : Mem) (k r : Nat) (hk : k < 10) (hr9 : r = 0) : CtV l yX11_copy wsX11_copy ({ frames := 0, cells := 0, slots := 0, locals := 0 }) D cA α n sz [.ref (α 36), .ref (α 37), .int (nI k), .ref (α 34), .ref (α 35), .int (nI r)] S (cpBl S 36 37 k 34 35 r) := by
  refine ct_enter cX11_copy 7 none (by decide) rfl (Nat.le_of_ble_eq_true rfl) ?_
  intro p e s m below meth c hx hb hr hml hlocks hown hts hK hsz hw ls hl
  have hown : s.vm.findClass RX11 = some m.cls := hown
  have hAw : ∀ z, Aw α n s.heap.size z → Aw α n sz z := by rw [hsz]; exact fun _ h => h
  have hl : lv_has ls 7 [(0, .ref (α 36)), (1, .ref (α 37)), (2, .int (nI k)), (3, .ref (α 34)), (4, .ref (α 35)), (5, .int (nI r))] := hl
  refine lv_iconst (v := nI 0) hx hb dX11_copy_0 (by decide) ?_
  refine lv_istore (lv' := [(6, .int (nI 0)), (0, .ref (α 36)), (1, .ref (α 37)), (2, .int (nI k)), (3, .ref (α 34)), (4, .ref (α 35)), (5, .int (nI r))]) hx hb dX11_copy_1 hl (by decide) rfl (fun ls hl => ?_)
  have lp3 : ∀ (t : Nat) (i : Nat) (T : Mem) (H : Heap) (locs : List Loc) (ls : Array Slot), 1508 - i < t → i ≤ 1508 → T = setR S 34 (va_cpy (S.1 36) (S.1 34) (1508 * k) (1508 * r) i) → Ws D cA α n (Aw α n sz) s.heap T H locs → lv_has ls 7 [(0, .ref (α 36)), (1, .ref (α 37)), (2, .int (nI k)), (3, .ref (α 34)), (4, .ref (α 35)), (5, .int (nI r)), (6, .int (nI i))] → W p l e ({ frames := 0, cells := 0, slots := 0, locals := 0 } : Room) s m (List.toArray ([.ref (α 36), .ref (α 37), .int (nI k), .ref (α 34), .ref (α 35), .int (nI r)] : List Value)) below meth c H locs 0 0 (MQ below (va_Qv (fun u => u = (cpBl S 36 37 k 34 35 r)) (Pw D cA α n) (Aw α n sz)) (List.toArray ([.ref (α 36), .ref (α 37), .int (nI k), .ref (α 34), .ref (α 35), .int (nI r)] : List Value)) s 0 0 (Aw α n sz)) (F0 m 3 ls []) := by
    intro t
    induction t with
    | zero => intro i T H locs ls ht; exact absurd ht (Nat.not_lt_zero _)
    | succ t ih3 =>
      intro i T H locs ls ht hi hT hw hl
      refine lv_iload hx hb dX11_copy_3 (lv_at hl 6 rfl) ?_
      refine lv_sipush (v := nI 1508) hx hb dX11_copy_5 (by decide) ?_
      refine xn_icmp_ge (tgt := 38) hx hb (by omega) (by decide) dX11_copy_8 (by decide) (fun c1 => ?_) (fun c1 => ?_)
      · skip
        refine lv_iconst (v := nI 0) hx hb dX11_copy_38 (by decide) ?_
        refine lv_istore (lv' := [(6, .int (nI 0)), (0, .ref (α 36)), (1, .ref (α 37)), (2, .int (nI k)), (3, .ref (α 34)), (4, .ref (α 35)), (5, .int (nI r))]) hx hb dX11_copy_39 hl (by decide) rfl (fun ls hl => ?_)
        have lp41 : ∀ (t : Nat) (i : Nat) (T : Mem) (H : Heap) (locs : List Loc) (ls : Array Slot), 309 - i < t → i ≤ 309 → T = setL (setR S 34 (va_cpy (S.1 36) (S.1 34) (1508 * k) (1508 * r) 1508)) 35 (va_cpy (S.2 37) (S.2 35) (309 * k) (309 * r) i) → Ws D cA α n (Aw α n sz) s.heap T H locs → lv_has ls 7 [(0, .ref (α 36)), (1, .ref (α 37)), (2, .int (nI k)), (3, .ref (α 34)), (4, .ref (α 35)), (5, .int (nI r)), (6, .int (nI i))] → W p l e ({ frames := 0, cells := 0, slots := 0, locals := 0 } : Room) s m (List.toArray ([.ref (α 36), .ref (α 37), .int (nI k), .ref (α 34), .ref (α 35), .int (nI r)] : List Value)) below meth c H locs 0 0 (MQ below (va_Qv (fun u => u = (cpBl S 36 37 k 34 35 r)) (Pw D cA α n) (Aw α n sz)) (List.toArray ([.ref (α 36), .ref (α 37), .int (nI k), .ref (α 34), .ref (α 35), .int (nI r)] : List Value)) s 0 0 (Aw α n sz)) (F0 m 41 ls []) := by
          intro t
          induction t with
          | zero => intro i T H locs ls ht; exact absurd ht (Nat.not_lt_zero _)
          | succ t ih41 =>
            intro i T H locs ls ht hi hT hw hl
            refine lv_iload hx hb dX11_copy_41 (lv_at hl 6 rfl) ?_
            refine lv_sipush (v := nI 309) hx hb dX11_copy_43 (by decide) ?_
            refine xn_icmp_ge (tgt := 77) hx hb (by omega) (by decide) dX11_copy_46 (by decide) (fun c2 => ?_) (fun c2 => ?_)
            · skip
              exact ret_v hx hb hr hlocks hK hw dX11_copy_77 (by rw [hT, show i = 309 by omega]; rfl)
            · skip
              refine lv_aload hx hb dX11_copy_49 (lv_at hl 4 rfl) ?_
              refine lv_sipush (v := nI 309) hx hb dX11_copy_51 (by decide) ?_
              refine lv_iload hx hb dX11_copy_54 (lv_at hl 5 rfl) ?_
              refine xn_imul hx hb dX11_copy_56 ?_
              refine lv_iload hx hb dX11_copy_57 (lv_at hl 6 rfl) ?_
              refine xn_iadd hx hb dX11_copy_59 ?_
              refine lv_aload_n hx hb dX11_copy_60 rfl (lv_at hl 1 rfl) ?_
              refine lv_sipush (v := nI 309) hx hb dX11_copy_61 (by decide) ?_
              refine lv_iload_n hx hb dX11_copy_64 rfl (lv_at hl 2 rfl) ?_
              refine xn_imul hx hb dX11_copy_65 ?_
              refine lv_iload hx hb dX11_copy_66 (lv_at hl 6 rfl) ?_
              refine xn_iadd hx hb dX11_copy_68 ?_
              refine x_lald hx hb hK hw 37 3090 (Nat.lt_of_lt_of_le (Nat.le_of_ble_eq_true rfl : 37 < 191) hn) (mk_37 cA α) ((309 * k) + i) rfl (by omega) (by decide) dX11_copy_69 ?_
              refine x_topEL (y := S.2 37 (309 * k + i)) (by rw [hT]; rw [show (setL (setR S 34 (va_cpy (S.1 36) (S.1 34) (1508 * k) (1508 * r) 1508)) 35 (va_cpy (S.2 37) (S.2 35) (309 * k) (309 * r) i)).2 37 (309 * k + i) = S.2 37 (309 * k + i) from by rw [sL_2 (by decide), sR_2]]) ?_
              refine x_last (x := S.2 37 (309 * k + i)) hx hb hK hw 35 309 (Nat.lt_of_lt_of_le (Nat.le_of_ble_eq_true rfl : 35 < 191) hn) (mk_35 cA α) ((309 * r) + i) rfl (by omega) (by decide) dX11_copy_70 (fun S1 eS1 H locs hw => ?_)
              refine lv_iinc (v := nI (i + 1)) (lv' := [(6, .int (nI (i + 1))), (0, .ref (α 36)), (1, .ref (α 37)), (2, .int (nI k)), (3, .ref (α 34)), (4, .ref (α 35)), (5, .int (nI r))]) hx hb dX11_copy_71 hl (k := 6) rfl (nI_1 _) (by decide) rfl (fun ls hl => ?_)
              refine lv_goto (tgt := 41) hx hb dX11_copy_74 (by decide) ?_
              exact ih41 (i + 1) S1 _ _ _ (by omega) (by omega) (by subst_vars; rw [setJ_setL, va_cpy_sL]) hw (lv_sub hl [1, 2, 3, 4, 5, 6, 0] rfl)
        exact lp41 _ 0 T _ _ _ (Nat.lt_succ_self _) (Nat.zero_le _) (by rw [va_cpy_0, hT, show i = 1508 by omega]; exact (setL_same (setR S 34 _) 35).symm) hw (lv_sub hl [1, 2, 3, 4, 5, 6, 0] rfl)
      · skip
        refine lv_aload_n hx hb dX11_copy_11 rfl (lv_at hl 3 rfl) ?_
        refine lv_sipush (v := nI 1508) hx hb dX11_copy_12 (by decide) ?_
        refine lv_iload hx hb dX11_copy_15 (lv_at hl 5 rfl) ?_
        refine xn_imul hx hb dX11_copy_17 ?_
        refine lv_iload hx hb dX11_copy_18 (lv_at hl 6 rfl) ?_
        refine xn_iadd hx hb dX11_copy_20 ?_
        refine lv_aload_n hx hb dX11_copy_21 rfl (lv_at hl 0 rfl) ?_
        refine lv_sipush (v := nI 1508) hx hb dX11_copy_22 (by decide) ?_
        refine lv_iload_n hx hb dX11_copy_25 rfl (lv_at hl 2 rfl) ?_
        refine xn_imul hx hb dX11_copy_26 ?_
        refine lv_iload hx hb dX11_copy_27 (lv_at hl 6 rfl) ?_
        refine xn_iadd hx hb dX11_copy_29 ?_
        refine x_iald hx hb hK hw 36 15080 (Nat.lt_of_lt_of_le (Nat.le_of_ble_eq_true rfl : 36 < 191) hn) (mk_36 cA α) ((1508 * k) + i) rfl (by omega) (by decide) dX11_copy_30 ?_
        refine x_topE (y := S.1 36 (1508 * k + i)) (by rw [hT]; rw [show (setR S 34 (va_cpy (S.1 36) (S.1 34) (1508 * k) (1508 * r) i)).1 36 (1508 * k + i) = S.1 36 (1508 * k + i) from by rw [sR_1 (by decide)]]) ?_
        refine x_iast (x := S.1 36 (1508 * k + i)) hx hb hK hw 34 1508 (Nat.lt_of_lt_of_le (Nat.le_of_ble_eq_true rfl : 34 < 191) hn) (mk_34 cA α) ((1508 * r) + i) rfl (by omega) (by decide) dX11_copy_31 (fun S2 eS2 H locs hw => ?_)
        refine lv_iinc (v := nI (i + 1)) (lv' := [(6, .int (nI (i + 1))), (0, .ref (α 36)), (1, .ref (α 37)), (2, .int (nI k)), (3, .ref (α 34)), (4, .ref (α 35)), (5, .int (nI r))]) hx hb dX11_copy_32 hl (k := 6) rfl (nI_1 _) (by decide) rfl (fun ls hl => ?_)
        refine lv_goto (tgt := 3) hx hb dX11_copy_35 (by decide) ?_
        exact ih3 (i + 1) S2 _ _ _ (by omega) (by omega) (by subst_vars; rw [setI_setR, va_cpy_sI]) hw (lv_sub hl [1, 2, 3, 4, 5, 6, 0] rfl)
  exact lp3 _ 0 S _ _ _ (Nat.lt_succ_self _) (Nat.zero_le _) (by rw [va_cpy_0]; exact (setR_same S 34).symm) hw (lv_sub hl [1, 2, 3, 4, 5, 6, 0] rfl)

set_option maxRecDepth 100000 in
set_option maxHeartbeats 1000000 in
theorem ct_X11_copy_hh (l : Launch) (D : va_G) (cA : Nat → ClassId) (α : Nat → Nat) (n sz : Nat) (hn : 191 ≤ n) (S : Mem) (k r : Nat) (hk : k < 10) (hr9 : r < 10) (hkr : k ≠ r) : CtV l yX11_copy wsX11_copy ({ frames := 0, cells := 0, slots := 0, locals := 0 }) D cA α n sz [.ref (α 36), .ref (α 37), .int (nI k), .ref (α 36), .ref (α 37), .int (nI r)] S (cpBl S 36 37 k 36 37 r) := by
  refine ct_enter cX11_copy 7 none (by decide) rfl (Nat.le_of_ble_eq_true rfl) ?_
  intro p e s m below meth c hx hb hr hml hlocks hown hts hK hsz hw ls hl
  have hown : s.vm.findClass RX11 = some m.cls := hown
  have hAw : ∀ z, Aw α n s.heap.size z → Aw α n sz z := by rw [hsz]; exact fun _ h => h
  have hl : lv_has ls 7 [(0, .ref (α 36)), (1, .ref (α 37)), (2, .int (nI k)), (3, .ref (α 36)), (4, .ref (α 37)), (5, .int (nI r))] := hl
  refine lv_iconst (v := nI 0) hx hb dX11_copy_0 (by decide) ?_
  refine lv_istore (lv' := [(6, .int (nI 0)), (0, .ref (α 36)), (1, .ref (α 37)), (2, .int (nI k)), (3, .ref (α 36)), (4, .ref (α 37)), (5, .int (nI r))]) hx hb dX11_copy_1 hl (by decide) rfl (fun ls hl => ?_)
  have lp3 : ∀ (t : Nat) (i : Nat) (T : Mem) (H : Heap) (locs : List Loc) (ls : Array Slot), 1508 - i < t → i ≤ 1508 → T = setR S 36 (va_cpy (S.1 36) (S.1 36) (1508 * k) (1508 * r) i) → Ws D cA α n (Aw α n sz) s.heap T H locs → lv_has ls 7 [(0, .ref (α 36)), (1, .ref (α 37)), (2, .int (nI k)), (3, .ref (α 36)), (4, .ref (α 37)), (5, .int (nI r)), (6, .int (nI i))] → W p l e ({ frames := 0, cells := 0, slots := 0, locals := 0 } : Room) s m (List.toArray ([.ref (α 36), .ref (α 37), .int (nI k), .ref (α 36), .ref (α 37), .int (nI r)] : List Value)) below meth c H locs 0 0 (MQ below (va_Qv (fun u => u = (cpBl S 36 37 k 36 37 r)) (Pw D cA α n) (Aw α n sz)) (List.toArray ([.ref (α 36), .ref (α 37), .int (nI k), .ref (α 36), .ref (α 37), .int (nI r)] : List Value)) s 0 0 (Aw α n sz)) (F0 m 3 ls []) := by
    intro t
    induction t with
    | zero => intro i T H locs ls ht; exact absurd ht (Nat.not_lt_zero _)
    | succ t ih3 =>
      intro i T H locs ls ht hi hT hw hl
      refine lv_iload hx hb dX11_copy_3 (lv_at hl 6 rfl) ?_
      refine lv_sipush (v := nI 1508) hx hb dX11_copy_5 (by decide) ?_
      refine xn_icmp_ge (tgt := 38) hx hb (by omega) (by decide) dX11_copy_8 (by decide) (fun c1 => ?_) (fun c1 => ?_)
      · skip
        refine lv_iconst (v := nI 0) hx hb dX11_copy_38 (by decide) ?_
        refine lv_istore (lv' := [(6, .int (nI 0)), (0, .ref (α 36)), (1, .ref (α 37)), (2, .int (nI k)), (3, .ref (α 36)), (4, .ref (α 37)), (5, .int (nI r))]) hx hb dX11_copy_39 hl (by decide) rfl (fun ls hl => ?_)
        have lp41 : ∀ (t : Nat) (i : Nat) (T : Mem) (H : Heap) (locs : List Loc) (ls : Array Slot), 309 - i < t → i ≤ 309 → T = setL (setR S 36 (va_cpy (S.1 36) (S.1 36) (1508 * k) (1508 * r) 1508)) 37 (va_cpy (S.2 37) (S.2 37) (309 * k) (309 * r) i) → Ws D cA α n (Aw α n sz) s.heap T H locs → lv_has ls 7 [(0, .ref (α 36)), (1, .ref (α 37)), (2, .int (nI k)), (3, .ref (α 36)), (4, .ref (α 37)), (5, .int (nI r)), (6, .int (nI i))] → W p l e ({ frames := 0, cells := 0, slots := 0, locals := 0 } : Room) s m (List.toArray ([.ref (α 36), .ref (α 37), .int (nI k), .ref (α 36), .ref (α 37), .int (nI r)] : List Value)) below meth c H locs 0 0 (MQ below (va_Qv (fun u => u = (cpBl S 36 37 k 36 37 r)) (Pw D cA α n) (Aw α n sz)) (List.toArray ([.ref (α 36), .ref (α 37), .int (nI k), .ref (α 36), .ref (α 37), .int (nI r)] : List Value)) s 0 0 (Aw α n sz)) (F0 m 41 ls []) := by
          intro t
          induction t with
          | zero => intro i T H locs ls ht; exact absurd ht (Nat.not_lt_zero _)
          | succ t ih41 =>
            intro i T H locs ls ht hi hT hw hl
            refine lv_iload hx hb dX11_copy_41 (lv_at hl 6 rfl) ?_
            refine lv_sipush (v := nI 309) hx hb dX11_copy_43 (by decide) ?_
            refine xn_icmp_ge (tgt := 77) hx hb (by omega) (by decide) dX11_copy_46 (by decide) (fun c2 => ?_) (fun c2 => ?_)
            · skip
              exact ret_v hx hb hr hlocks hK hw dX11_copy_77 (by rw [hT, show i = 309 by omega]; rfl)
            · skip
              refine lv_aload hx hb dX11_copy_49 (lv_at hl 4 rfl) ?_
              refine lv_sipush (v := nI 309) hx hb dX11_copy_51 (by decide) ?_
              refine lv_iload hx hb dX11_copy_54 (lv_at hl 5 rfl) ?_
              refine xn_imul hx hb dX11_copy_56 ?_
              refine lv_iload hx hb dX11_copy_57 (lv_at hl 6 rfl) ?_
              refine xn_iadd hx hb dX11_copy_59 ?_
              refine lv_aload_n hx hb dX11_copy_60 rfl (lv_at hl 1 rfl) ?_
              refine lv_sipush (v := nI 309) hx hb dX11_copy_61 (by decide) ?_
              refine lv_iload_n hx hb dX11_copy_64 rfl (lv_at hl 2 rfl) ?_
              refine xn_imul hx hb dX11_copy_65 ?_
              refine lv_iload hx hb dX11_copy_66 (lv_at hl 6 rfl) ?_
              refine xn_iadd hx hb dX11_copy_68 ?_
              refine x_lald hx hb hK hw 37 3090 (Nat.lt_of_lt_of_le (Nat.le_of_ble_eq_true rfl : 37 < 191) hn) (mk_37 cA α) ((309 * k) + i) rfl (by omega) (by decide) dX11_copy_69 ?_
              refine x_topEL (y := S.2 37 (309 * k + i)) (by rw [hT]; rw [show (setL (setR S 36 (va_cpy (S.1 36) (S.1 36) (1508 * k) (1508 * r) 1508)) 37 (va_cpy (S.2 37) (S.2 37) (309 * k) (309 * r) i)).2 37 (309 * k + i) = S.2 37 (309 * k + i) from by rw [sL_e]; exact va_cpy_out (by omega)]) ?_
              refine x_last (x := S.2 37 (309 * k + i)) hx hb hK hw 37 3090 (Nat.lt_of_lt_of_le (Nat.le_of_ble_eq_true rfl : 37 < 191) hn) (mk_37 cA α) ((309 * r) + i) rfl (by omega) (by decide) dX11_copy_70 (fun S1 eS1 H locs hw => ?_)
              refine lv_iinc (v := nI (i + 1)) (lv' := [(6, .int (nI (i + 1))), (0, .ref (α 36)), (1, .ref (α 37)), (2, .int (nI k)), (3, .ref (α 36)), (4, .ref (α 37)), (5, .int (nI r))]) hx hb dX11_copy_71 hl (k := 6) rfl (nI_1 _) (by decide) rfl (fun ls hl => ?_)
              refine lv_goto (tgt := 41) hx hb dX11_copy_74 (by decide) ?_
              exact ih41 (i + 1) S1 _ _ _ (by omega) (by omega) (by subst_vars; rw [setJ_setL, va_cpy_sL]) hw (lv_sub hl [1, 2, 3, 4, 5, 6, 0] rfl)
        exact lp41 _ 0 T _ _ _ (Nat.lt_succ_self _) (Nat.zero_le _) (by rw [va_cpy_0, hT, show i = 1508 by omega]; exact (setL_same (setR S 36 _) 37).symm) hw (lv_sub hl [1, 2, 3, 4, 5, 6, 0] rfl)
      · skip
        refine lv_aload_n hx hb dX11_copy_11 rfl (lv_at hl 3 rfl) ?_
        refine lv_sipush (v := nI 1508) hx hb dX11_copy_12 (by decide) ?_
        refine lv_iload hx hb dX11_copy_15 (lv_at hl 5 rfl) ?_
        refine xn_imul hx hb dX11_copy_17 ?_
        refine lv_iload hx hb dX11_copy_18 (lv_at hl 6 rfl) ?_
        refine xn_iadd hx hb dX11_copy_20 ?_
        refine lv_aload_n hx hb dX11_copy_21 rfl (lv_at hl 0 rfl) ?_
        refine lv_sipush (v := nI 1508) hx hb dX11_copy_22 (by decide) ?_
        refine lv_iload_n hx hb dX11_copy_25 rfl (lv_at hl 2 rfl) ?_
        refine xn_imul hx hb dX11_copy_26 ?_
        refine lv_iload hx hb dX11_copy_27 (lv_at hl 6 rfl) ?_
        refine xn_iadd hx hb dX11_copy_29 ?_
        refine x_iald hx hb hK hw 36 15080 (Nat.lt_of_lt_of_le (Nat.le_of_ble_eq_true rfl : 36 < 191) hn) (mk_36 cA α) ((1508 * k) + i) rfl (by omega) (by decide) dX11_copy_30 ?_
        refine x_topE (y := S.1 36 (1508 * k + i)) (by rw [hT]; rw [show (setR S 36 (va_cpy (S.1 36) (S.1 36) (1508 * k) (1508 * r) i)).1 36 (1508 * k + i) = S.1 36 (1508 * k + i) from by rw [sR_e]; exact va_cpy_out (by omega)]) ?_
        refine x_iast (x := S.1 36 (1508 * k + i)) hx hb hK hw 36 15080 (Nat.lt_of_lt_of_le (Nat.le_of_ble_eq_true rfl : 36 < 191) hn) (mk_36 cA α) ((1508 * r) + i) rfl (by omega) (by decide) dX11_copy_31 (fun S2 eS2 H locs hw => ?_)
        refine lv_iinc (v := nI (i + 1)) (lv' := [(6, .int (nI (i + 1))), (0, .ref (α 36)), (1, .ref (α 37)), (2, .int (nI k)), (3, .ref (α 36)), (4, .ref (α 37)), (5, .int (nI r))]) hx hb dX11_copy_32 hl (k := 6) rfl (nI_1 _) (by decide) rfl (fun ls hl => ?_)
        refine lv_goto (tgt := 3) hx hb dX11_copy_35 (by decide) ?_
        exact ih3 (i + 1) S2 _ _ _ (by omega) (by omega) (by subst_vars; rw [setI_setR, va_cpy_sI]) hw (lv_sub hl [1, 2, 3, 4, 5, 6, 0] rfl)
  exact lp3 _ 0 S _ _ _ (Nat.lt_succ_self _) (Nat.zero_le _) (by rw [va_cpy_0]; exact (setR_same S 36).symm) hw (lv_sub hl [1, 2, 3, 4, 5, 6, 0] rfl)

set_option maxRecDepth 100000 in
set_option maxHeartbeats 1000000 in
theorem ct_X11_copy_sp (l : Launch) (D : va_G) (cA : Nat → ClassId) (α : Nat → Nat) (n sz : Nat) (hn : 191 ≤ n) (S : Mem) (k r : Nat) (hk : k = 0) (hr9 : r < 2) : CtV l yX11_copy wsX11_copy ({ frames := 0, cells := 0, slots := 0, locals := 0 }) D cA α n sz [.ref (α 34), .ref (α 35), .int (nI k), .ref (α 38), .ref (α 39), .int (nI r)] S (cpBl S 34 35 k 38 39 r) := by
  refine ct_enter cX11_copy 7 none (by decide) rfl (Nat.le_of_ble_eq_true rfl) ?_
  intro p e s m below meth c hx hb hr hml hlocks hown hts hK hsz hw ls hl
  have hown : s.vm.findClass RX11 = some m.cls := hown
  have hAw : ∀ z, Aw α n s.heap.size z → Aw α n sz z := by rw [hsz]; exact fun _ h => h
  have hl : lv_has ls 7 [(0, .ref (α 34)), (1, .ref (α 35)), (2, .int (nI k)), (3, .ref (α 38)), (4, .ref (α 39)), (5, .int (nI r))] := hl
  refine lv_iconst (v := nI 0) hx hb dX11_copy_0 (by decide) ?_
  refine lv_istore (lv' := [(6, .int (nI 0)), (0, .ref (α 34)), (1, .ref (α 35)), (2, .int (nI k)), (3, .ref (α 38)), (4, .ref (α 39)), (5, .int (nI r))]) hx hb dX11_copy_1 hl (by decide) rfl (fun ls hl => ?_)
  have lp3 : ∀ (t : Nat) (i : Nat) (T : Mem) (H : Heap) (locs : List Loc) (ls : Array Slot), 1508 - i < t → i ≤ 1508 → T = setR S 38 (va_cpy (S.1 34) (S.1 38) (1508 * k) (1508 * r) i) → Ws D cA α n (Aw α n sz) s.heap T H locs → lv_has ls 7 [(0, .ref (α 34)), (1, .ref (α 35)), (2, .int (nI k)), (3, .ref (α 38)), (4, .ref (α 39)), (5, .int (nI r)), (6, .int (nI i))] → W p l e ({ frames := 0, cells := 0, slots := 0, locals := 0 } : Room) s m (List.toArray ([.ref (α 34), .ref (α 35), .int (nI k), .ref (α 38), .ref (α 39), .int (nI r)] : List Value)) below meth c H locs 0 0 (MQ below (va_Qv (fun u => u = (cpBl S 34 35 k 38 39 r)) (Pw D cA α n) (Aw α n sz)) (List.toArray ([.ref (α 34), .ref (α 35), .int (nI k), .ref (α 38), .ref (α 39), .int (nI r)] : List Value)) s 0 0 (Aw α n sz)) (F0 m 3 ls []) := by
    intro t
    induction t with
    | zero => intro i T H locs ls ht; exact absurd ht (Nat.not_lt_zero _)
    | succ t ih3 =>
      intro i T H locs ls ht hi hT hw hl
      refine lv_iload hx hb dX11_copy_3 (lv_at hl 6 rfl) ?_
      refine lv_sipush (v := nI 1508) hx hb dX11_copy_5 (by decide) ?_
      refine xn_icmp_ge (tgt := 38) hx hb (by omega) (by decide) dX11_copy_8 (by decide) (fun c1 => ?_) (fun c1 => ?_)
      · skip
        refine lv_iconst (v := nI 0) hx hb dX11_copy_38 (by decide) ?_
        refine lv_istore (lv' := [(6, .int (nI 0)), (0, .ref (α 34)), (1, .ref (α 35)), (2, .int (nI k)), (3, .ref (α 38)), (4, .ref (α 39)), (5, .int (nI r))]) hx hb dX11_copy_39 hl (by decide) rfl (fun ls hl => ?_)
        have lp41 : ∀ (t : Nat) (i : Nat) (T : Mem) (H : Heap) (locs : List Loc) (ls : Array Slot), 309 - i < t → i ≤ 309 → T = setL (setR S 38 (va_cpy (S.1 34) (S.1 38) (1508 * k) (1508 * r) 1508)) 39 (va_cpy (S.2 35) (S.2 39) (309 * k) (309 * r) i) → Ws D cA α n (Aw α n sz) s.heap T H locs → lv_has ls 7 [(0, .ref (α 34)), (1, .ref (α 35)), (2, .int (nI k)), (3, .ref (α 38)), (4, .ref (α 39)), (5, .int (nI r)), (6, .int (nI i))] → W p l e ({ frames := 0, cells := 0, slots := 0, locals := 0 } : Room) s m (List.toArray ([.ref (α 34), .ref (α 35), .int (nI k), .ref (α 38), .ref (α 39), .int (nI r)] : List Value)) below meth c H locs 0 0 (MQ below (va_Qv (fun u => u = (cpBl S 34 35 k 38 39 r)) (Pw D cA α n) (Aw α n sz)) (List.toArray ([.ref (α 34), .ref (α 35), .int (nI k), .ref (α 38), .ref (α 39), .int (nI r)] : List Value)) s 0 0 (Aw α n sz)) (F0 m 41 ls []) := by
          intro t
          induction t with
          | zero => intro i T H locs ls ht; exact absurd ht (Nat.not_lt_zero _)
          | succ t ih41 =>
            intro i T H locs ls ht hi hT hw hl
            refine lv_iload hx hb dX11_copy_41 (lv_at hl 6 rfl) ?_
            refine lv_sipush (v := nI 309) hx hb dX11_copy_43 (by decide) ?_
            refine xn_icmp_ge (tgt := 77) hx hb (by omega) (by decide) dX11_copy_46 (by decide) (fun c2 => ?_) (fun c2 => ?_)
            · skip
              exact ret_v hx hb hr hlocks hK hw dX11_copy_77 (by rw [hT, show i = 309 by omega]; rfl)
            · skip
              refine lv_aload hx hb dX11_copy_49 (lv_at hl 4 rfl) ?_
              refine lv_sipush (v := nI 309) hx hb dX11_copy_51 (by decide) ?_
              refine lv_iload hx hb dX11_copy_54 (lv_at hl 5 rfl) ?_
              refine xn_imul hx hb dX11_copy_56 ?_
              refine lv_iload hx hb dX11_copy_57 (lv_at hl 6 rfl) ?_
              refine xn_iadd hx hb dX11_copy_59 ?_
              refine lv_aload_n hx hb dX11_copy_60 rfl (lv_at hl 1 rfl) ?_
              refine lv_sipush (v := nI 309) hx hb dX11_copy_61 (by decide) ?_
              refine lv_iload_n hx hb dX11_copy_64 rfl (lv_at hl 2 rfl) ?_
              refine xn_imul hx hb dX11_copy_65 ?_
              refine lv_iload hx hb dX11_copy_66 (lv_at hl 6 rfl) ?_
              refine xn_iadd hx hb dX11_copy_68 ?_
              refine x_lald hx hb hK hw 35 309 (Nat.lt_of_lt_of_le (Nat.le_of_ble_eq_true rfl : 35 < 191) hn) (mk_35 cA α) ((309 * k) + i) rfl (by omega) (by decide) dX11_copy_69 ?_
              refine x_topEL (y := S.2 35 (309 * k + i)) (by rw [hT]; rw [show (setL (setR S 38 (va_cpy (S.1 34) (S.1 38) (1508 * k) (1508 * r) 1508)) 39 (va_cpy (S.2 35) (S.2 39) (309 * k) (309 * r) i)).2 35 (309 * k + i) = S.2 35 (309 * k + i) from by rw [sL_2 (by decide), sR_2]]) ?_
              refine x_last (x := S.2 35 (309 * k + i)) hx hb hK hw 39 618 (Nat.lt_of_lt_of_le (Nat.le_of_ble_eq_true rfl : 39 < 191) hn) (mk_39 cA α) ((309 * r) + i) rfl (by omega) (by decide) dX11_copy_70 (fun S1 eS1 H locs hw => ?_)
              refine lv_iinc (v := nI (i + 1)) (lv' := [(6, .int (nI (i + 1))), (0, .ref (α 34)), (1, .ref (α 35)), (2, .int (nI k)), (3, .ref (α 38)), (4, .ref (α 39)), (5, .int (nI r))]) hx hb dX11_copy_71 hl (k := 6) rfl (nI_1 _) (by decide) rfl (fun ls hl => ?_)
              refine lv_goto (tgt := 41) hx hb dX11_copy_74 (by decide) ?_
              exact ih41 (i + 1) S1 _ _ _ (by omega) (by omega) (by subst_vars; rw [setJ_setL, va_cpy_sL]) hw (lv_sub hl [1, 2, 3, 4, 5, 6, 0] rfl)
        exact lp41 _ 0 T _ _ _ (Nat.lt_succ_self _) (Nat.zero_le _) (by rw [va_cpy_0, hT, show i = 1508 by omega]; exact (setL_same (setR S 38 _) 39).symm) hw (lv_sub hl [1, 2, 3, 4, 5, 6, 0] rfl)
      · skip
        refine lv_aload_n hx hb dX11_copy_11 rfl (lv_at hl 3 rfl) ?_
        refine lv_sipush (v := nI 1508) hx hb dX11_copy_12 (by decide) ?_
        refine lv_iload hx hb dX11_copy_15 (lv_at hl 5 rfl) ?_
        refine xn_imul hx hb dX11_copy_17 ?_
        refine lv_iload hx hb dX11_copy_18 (lv_at hl 6 rfl) ?_
        refine xn_iadd hx hb dX11_copy_20 ?_
        refine lv_aload_n hx hb dX11_copy_21 rfl (lv_at hl 0 rfl) ?_
        refine lv_sipush (v := nI 1508) hx hb dX11_copy_22 (by decide) ?_
        refine lv_iload_n hx hb dX11_copy_25 rfl (lv_at hl 2 rfl) ?_
        refine xn_imul hx hb dX11_copy_26 ?_
        refine lv_iload hx hb dX11_copy_27 (lv_at hl 6 rfl) ?_
        refine xn_iadd hx hb dX11_copy_29 ?_
        refine x_iald hx hb hK hw 34 1508 (Nat.lt_of_lt_of_le (Nat.le_of_ble_eq_true rfl : 34 < 191) hn) (mk_34 cA α) ((1508 * k) + i) rfl (by omega) (by decide) dX11_copy_30 ?_
        refine x_topE (y := S.1 34 (1508 * k + i)) (by rw [hT]; rw [show (setR S 38 (va_cpy (S.1 34) (S.1 38) (1508 * k) (1508 * r) i)).1 34 (1508 * k + i) = S.1 34 (1508 * k + i) from by rw [sR_1 (by decide)]]) ?_
        refine x_iast (x := S.1 34 (1508 * k + i)) hx hb hK hw 38 3016 (Nat.lt_of_lt_of_le (Nat.le_of_ble_eq_true rfl : 38 < 191) hn) (mk_38 cA α) ((1508 * r) + i) rfl (by omega) (by decide) dX11_copy_31 (fun S2 eS2 H locs hw => ?_)
        refine lv_iinc (v := nI (i + 1)) (lv' := [(6, .int (nI (i + 1))), (0, .ref (α 34)), (1, .ref (α 35)), (2, .int (nI k)), (3, .ref (α 38)), (4, .ref (α 39)), (5, .int (nI r))]) hx hb dX11_copy_32 hl (k := 6) rfl (nI_1 _) (by decide) rfl (fun ls hl => ?_)
        refine lv_goto (tgt := 3) hx hb dX11_copy_35 (by decide) ?_
        exact ih3 (i + 1) S2 _ _ _ (by omega) (by omega) (by subst_vars; rw [setI_setR, va_cpy_sI]) hw (lv_sub hl [1, 2, 3, 4, 5, 6, 0] rfl)
  exact lp3 _ 0 S _ _ _ (Nat.lt_succ_self _) (Nat.zero_le _) (by rw [va_cpy_0]; exact (setR_same S 38).symm) hw (lv_sub hl [1, 2, 3, 4, 5, 6, 0] rfl)

set_option maxRecDepth 100000 in
set_option maxHeartbeats 1000000 in
theorem ct_X11_copy_ps (l : Launch) (D : va_G) (cA : Nat → ClassId) (α : Nat → Nat) (n sz : Nat) (hn : 191 ≤ n) (S : Mem) (k r : Nat) (hk : k < 2) (hr9 : r = 0) : CtV l yX11_copy wsX11_copy ({ frames := 0, cells := 0, slots := 0, locals := 0 }) D cA α n sz [.ref (α 38), .ref (α 39), .int (nI k), .ref (α 34), .ref (α 35), .int (nI r)] S (cpBl S 38 39 k 34 35 r) := by
  refine ct_enter cX11_copy 7 none (by decide) rfl (Nat.le_of_ble_eq_true rfl) ?_
  intro p e s m below meth c hx hb hr hml hlocks hown hts hK hsz hw ls hl
  have hown : s.vm.findClass RX11 = some m.cls := hown
  have hAw : ∀ z, Aw α n s.heap.size z → Aw α n sz z := by rw [hsz]; exact fun _ h => h
  have hl : lv_has ls 7 [(0, .ref (α 38)), (1, .ref (α 39)), (2, .int (nI k)), (3, .ref (α 34)), (4, .ref (α 35)), (5, .int (nI r))] := hl
  refine lv_iconst (v := nI 0) hx hb dX11_copy_0 (by decide) ?_
  refine lv_istore (lv' := [(6, .int (nI 0)), (0, .ref (α 38)), (1, .ref (α 39)), (2, .int (nI k)), (3, .ref (α 34)), (4, .ref (α 35)), (5, .int (nI r))]) hx hb dX11_copy_1 hl (by decide) rfl (fun ls hl => ?_)
  have lp3 : ∀ (t : Nat) (i : Nat) (T : Mem) (H : Heap) (locs : List Loc) (ls : Array Slot), 1508 - i < t → i ≤ 1508 → T = setR S 34 (va_cpy (S.1 38) (S.1 34) (1508 * k) (1508 * r) i) → Ws D cA α n (Aw α n sz) s.heap T H locs → lv_has ls 7 [(0, .ref (α 38)), (1, .ref (α 39)), (2, .int (nI k)), (3, .ref (α 34)), (4, .ref (α 35)), (5, .int (nI r)), (6, .int (nI i))] → W p l e ({ frames := 0, cells := 0, slots := 0, locals := 0 } : Room) s m (List.toArray ([.ref (α 38), .ref (α 39), .int (nI k), .ref (α 34), .ref (α 35), .int (nI r)] : List Value)) below meth c H locs 0 0 (MQ below (va_Qv (fun u => u = (cpBl S 38 39 k 34 35 r)) (Pw D cA α n) (Aw α n sz)) (List.toArray ([.ref (α 38), .ref (α 39), .int (nI k), .ref (α 34), .ref (α 35), .int (nI r)] : List Value)) s 0 0 (Aw α n sz)) (F0 m 3 ls []) := by
    intro t
    induction t with
    | zero => intro i T H locs ls ht; exact absurd ht (Nat.not_lt_zero _)
    | succ t ih3 =>
      intro i T H locs ls ht hi hT hw hl
      refine lv_iload hx hb dX11_copy_3 (lv_at hl 6 rfl) ?_
      refine lv_sipush (v := nI 1508) hx hb dX11_copy_5 (by decide) ?_
      refine xn_icmp_ge (tgt := 38) hx hb (by omega) (by decide) dX11_copy_8 (by decide) (fun c1 => ?_) (fun c1 => ?_)
      · skip
        refine lv_iconst (v := nI 0) hx hb dX11_copy_38 (by decide) ?_
        refine lv_istore (lv' := [(6, .int (nI 0)), (0, .ref (α 38)), (1, .ref (α 39)), (2, .int (nI k)), (3, .ref (α 34)), (4, .ref (α 35)), (5, .int (nI r))]) hx hb dX11_copy_39 hl (by decide) rfl (fun ls hl => ?_)
        have lp41 : ∀ (t : Nat) (i : Nat) (T : Mem) (H : Heap) (locs : List Loc) (ls : Array Slot), 309 - i < t → i ≤ 309 → T = setL (setR S 34 (va_cpy (S.1 38) (S.1 34) (1508 * k) (1508 * r) 1508)) 35 (va_cpy (S.2 39) (S.2 35) (309 * k) (309 * r) i) → Ws D cA α n (Aw α n sz) s.heap T H locs → lv_has ls 7 [(0, .ref (α 38)), (1, .ref (α 39)), (2, .int (nI k)), (3, .ref (α 34)), (4, .ref (α 35)), (5, .int (nI r)), (6, .int (nI i))] → W p l e ({ frames := 0, cells := 0, slots := 0, locals := 0 } : Room) s m (List.toArray ([.ref (α 38), .ref (α 39), .int (nI k), .ref (α 34), .ref (α 35), .int (nI r)] : List Value)) below meth c H locs 0 0 (MQ below (va_Qv (fun u => u = (cpBl S 38 39 k 34 35 r)) (Pw D cA α n) (Aw α n sz)) (List.toArray ([.ref (α 38), .ref (α 39), .int (nI k), .ref (α 34), .ref (α 35), .int (nI r)] : List Value)) s 0 0 (Aw α n sz)) (F0 m 41 ls []) := by
          intro t
          induction t with
          | zero => intro i T H locs ls ht; exact absurd ht (Nat.not_lt_zero _)
          | succ t ih41 =>
            intro i T H locs ls ht hi hT hw hl
            refine lv_iload hx hb dX11_copy_41 (lv_at hl 6 rfl) ?_
            refine lv_sipush (v := nI 309) hx hb dX11_copy_43 (by decide) ?_
            refine xn_icmp_ge (tgt := 77) hx hb (by omega) (by decide) dX11_copy_46 (by decide) (fun c2 => ?_) (fun c2 => ?_)
            · skip
              exact ret_v hx hb hr hlocks hK hw dX11_copy_77 (by rw [hT, show i = 309 by omega]; rfl)
            · skip
              refine lv_aload hx hb dX11_copy_49 (lv_at hl 4 rfl) ?_
              refine lv_sipush (v := nI 309) hx hb dX11_copy_51 (by decide) ?_
              refine lv_iload hx hb dX11_copy_54 (lv_at hl 5 rfl) ?_
              refine xn_imul hx hb dX11_copy_56 ?_
              refine lv_iload hx hb dX11_copy_57 (lv_at hl 6 rfl) ?_
              refine xn_iadd hx hb dX11_copy_59 ?_
              refine lv_aload_n hx hb dX11_copy_60 rfl (lv_at hl 1 rfl) ?_
              refine lv_sipush (v := nI 309) hx hb dX11_copy_61 (by decide) ?_
              refine lv_iload_n hx hb dX11_copy_64 rfl (lv_at hl 2 rfl) ?_
              refine xn_imul hx hb dX11_copy_65 ?_
              refine lv_iload hx hb dX11_copy_66 (lv_at hl 6 rfl) ?_
              refine xn_iadd hx hb dX11_copy_68 ?_
              refine x_lald hx hb hK hw 39 618 (Nat.lt_of_lt_of_le (Nat.le_of_ble_eq_true rfl : 39 < 191) hn) (mk_39 cA α) ((309 * k) + i) rfl (by omega) (by decide) dX11_copy_69 ?_
              refine x_topEL (y := S.2 39 (309 * k + i)) (by rw [hT]; rw [show (setL (setR S 34 (va_cpy (S.1 38) (S.1 34) (1508 * k) (1508 * r) 1508)) 35 (va_cpy (S.2 39) (S.2 35) (309 * k) (309 * r) i)).2 39 (309 * k + i) = S.2 39 (309 * k + i) from by rw [sL_2 (by decide), sR_2]]) ?_
              refine x_last (x := S.2 39 (309 * k + i)) hx hb hK hw 35 309 (Nat.lt_of_lt_of_le (Nat.le_of_ble_eq_true rfl : 35 < 191) hn) (mk_35 cA α) ((309 * r) + i) rfl (by omega) (by decide) dX11_copy_70 (fun S1 eS1 H locs hw => ?_)
              refine lv_iinc (v := nI (i + 1)) (lv' := [(6, .int (nI (i + 1))), (0, .ref (α 38)), (1, .ref (α 39)), (2, .int (nI k)), (3, .ref (α 34)), (4, .ref (α 35)), (5, .int (nI r))]) hx hb dX11_copy_71 hl (k := 6) rfl (nI_1 _) (by decide) rfl (fun ls hl => ?_)
              refine lv_goto (tgt := 41) hx hb dX11_copy_74 (by decide) ?_
              exact ih41 (i + 1) S1 _ _ _ (by omega) (by omega) (by subst_vars; rw [setJ_setL, va_cpy_sL]) hw (lv_sub hl [1, 2, 3, 4, 5, 6, 0] rfl)
        exact lp41 _ 0 T _ _ _ (Nat.lt_succ_self _) (Nat.zero_le _) (by rw [va_cpy_0, hT, show i = 1508 by omega]; exact (setL_same (setR S 34 _) 35).symm) hw (lv_sub hl [1, 2, 3, 4, 5, 6, 0] rfl)
      · skip
        refine lv_aload_n hx hb dX11_copy_11 rfl (lv_at hl 3 rfl) ?_
        refine lv_sipush (v := nI 1508) hx hb dX11_copy_12 (by decide) ?_
        refine lv_iload hx hb dX11_copy_15 (lv_at hl 5 rfl) ?_
        refine xn_imul hx hb dX11_copy_17 ?_
        refine lv_iload hx hb dX11_copy_18 (lv_at hl 6 rfl) ?_
        refine xn_iadd hx hb dX11_copy_20 ?_
        refine lv_aload_n hx hb dX11_copy_21 rfl (lv_at hl 0 rfl) ?_
        refine lv_sipush (v := nI 1508) hx hb dX11_copy_22 (by decide) ?_
        refine lv_iload_n hx hb dX11_copy_25 rfl (lv_at hl 2 rfl) ?_
        refine xn_imul hx hb dX11_copy_26 ?_
        refine lv_iload hx hb dX11_copy_27 (lv_at hl 6 rfl) ?_
        refine xn_iadd hx hb dX11_copy_29 ?_
        refine x_iald hx hb hK hw 38 3016 (Nat.lt_of_lt_of_le (Nat.le_of_ble_eq_true rfl : 38 < 191) hn) (mk_38 cA α) ((1508 * k) + i) rfl (by omega) (by decide) dX11_copy_30 ?_
        refine x_topE (y := S.1 38 (1508 * k + i)) (by rw [hT]; rw [show (setR S 34 (va_cpy (S.1 38) (S.1 34) (1508 * k) (1508 * r) i)).1 38 (1508 * k + i) = S.1 38 (1508 * k + i) from by rw [sR_1 (by decide)]]) ?_
        refine x_iast (x := S.1 38 (1508 * k + i)) hx hb hK hw 34 1508 (Nat.lt_of_lt_of_le (Nat.le_of_ble_eq_true rfl : 34 < 191) hn) (mk_34 cA α) ((1508 * r) + i) rfl (by omega) (by decide) dX11_copy_31 (fun S2 eS2 H locs hw => ?_)
        refine lv_iinc (v := nI (i + 1)) (lv' := [(6, .int (nI (i + 1))), (0, .ref (α 38)), (1, .ref (α 39)), (2, .int (nI k)), (3, .ref (α 34)), (4, .ref (α 35)), (5, .int (nI r))]) hx hb dX11_copy_32 hl (k := 6) rfl (nI_1 _) (by decide) rfl (fun ls hl => ?_)
        refine lv_goto (tgt := 3) hx hb dX11_copy_35 (by decide) ?_
        exact ih3 (i + 1) S2 _ _ _ (by omega) (by omega) (by subst_vars; rw [setI_setR, va_cpy_sI]) hw (lv_sub hl [1, 2, 3, 4, 5, 6, 0] rfl)
  exact lp3 _ 0 S _ _ _ (Nat.lt_succ_self _) (Nat.zero_le _) (by rw [va_cpy_0]; exact (setR_same S 34).symm) hw (lv_sub hl [1, 2, 3, 4, 5, 6, 0] rfl)

/-- keep: the history moved on when it is full, the state put at its end -/
def rShf (S : Mem) : Nat → Mem
  | 0 => S
  | d + 1 => cpBl (rShf S d) 36 37 (d + 1) 36 37 d
theorem cpBl_1 (S : Mem) (a b k c d r : Nat) {z : Nat} (h : z ≠ c) : (cpBl S a b k c d r).1 z = S.1 z := by unfold cpBl; rw [sL_1, sR_1 h]
theorem cpBl_2 (S : Mem) (a b k c d r : Nat) {z : Nat} (h : z ≠ d) : (cpBl S a b k c d r).2 z = S.2 z := by unfold cpBl; rw [sL_2 h, sR_2]
theorem rShf_1 (S : Mem) {z : Nat} (h : z ≠ 36) : ∀ d, (rShf S d).1 z = S.1 z
  | 0 => rfl
  | d + 1 => by rw [rShf, cpBl_1 _ _ _ _ _ _ _ h]; exact rShf_1 S h d
theorem rShf_2 (S : Mem) {z : Nat} (h : z ≠ 37) : ∀ d, (rShf S d).2 z = S.2 z
  | 0 => rfl
  | d + 1 => by rw [rShf, cpBl_2 _ _ _ _ _ _ _ h]; exact rShf_2 S h d


set_option maxRecDepth 100000 in
set_option maxHeartbeats 1000000 in
theorem ct_X11_keep (l : Launch) (D : va_G) (cA : Nat → ClassId) (α : Nat → Nat) (n sz : Nat) (hn : 191 ≤ n) (S : Mem) (k : Nat) (hk : S.1 30 17 = nI k) (hk2 : k < 10) : CtV l yX11_keep wsX11_keep ({ frames := 1, cells := 0, slots := 0, locals := 26 }) D cA α n sz [.ref (α 30)] S (setI (cpBl S 34 35 0 36 37 k) 30 17 (nI (k + 1))) := by
  refine ct_enter cX11_keep 2 none (by decide) rfl (Nat.le_of_ble_eq_true rfl) ?_
  intro p e s m below meth c hx hb hr hml hlocks hown hts hK hsz hw ls hl
  have hown : s.vm.findClass RX11 = some m.cls := hown
  have hAw : ∀ z, Aw α n s.heap.size z → Aw α n sz z := by rw [hsz]; exact fun _ h => h
  have hl : lv_has ls 2 [(0, .ref (α 30))] := hl
  refine lv_aload_n hx hb dX11_keep_0 rfl (lv_at hl 0 rfl) ?_
  refine x_get (v := .int (S.1 30 17)) (C := RX11) (T := TX11) (N := 24) hx hb hts (fun _ h => List.mem_cons_of_mem _ (List.mem_append_right _ h)) hown hK hw 30 (Nat.lt_of_lt_of_le (Nat.le_of_ble_eq_true rfl : 30 < 191) hn) (mk_30 cA α) rfl 17 (by decide) (hts _ (List.mem_of_getElem? (i := 1) rfl)) (fun _ h9 => h9) rfl dX11_keep_1 ?_
  refine x_topN (k := k) hk ?_
  refine lv_bipush (v := nI 10) hx hb dX11_keep_4 (by decide) ?_
  refine xn_icmp_ne (tgt := 56) hx hb (by omega) (by decide) dX11_keep_6 (by decide) (fun c1 => ?_) (fun c1 => ?_)
  · skip
    refine lv_aload_n hx hb dX11_keep_56 rfl (lv_at hl 0 rfl) ?_
    refine x_get (v := .ref (α 34)) (C := RX11) (T := TX11) (N := 24) hx hb hts (fun _ h => List.mem_cons_of_mem _ (List.mem_append_right _ h)) hown hK hw 30 (Nat.lt_of_lt_of_le (Nat.le_of_ble_eq_true rfl : 30 < 191) hn) (mk_30 cA α) rfl 13 (by decide) (hts _ (List.mem_of_getElem? (i := 4) rfl)) (fun _ h9 => h9) rfl dX11_keep_57 ?_
    refine lv_aload_n hx hb dX11_keep_60 rfl (lv_at hl 0 rfl) ?_
    refine x_get (v := .ref (α 35)) (C := RX11) (T := TX11) (N := 24) hx hb hts (fun _ h => List.mem_cons_of_mem _ (List.mem_append_right _ h)) hown hK hw 30 (Nat.lt_of_lt_of_le (Nat.le_of_ble_eq_true rfl : 30 < 191) hn) (mk_30 cA α) rfl 14 (by decide) (hts _ (List.mem_of_getElem? (i := 5) rfl)) (fun _ h9 => h9) rfl dX11_keep_61 ?_
    refine lv_iconst (v := nI 0) hx hb dX11_keep_64 (by decide) ?_
    refine lv_aload_n hx hb dX11_keep_65 rfl (lv_at hl 0 rfl) ?_
    refine x_get (v := .ref (α 36)) (C := RX11) (T := TX11) (N := 24) hx hb hts (fun _ h => List.mem_cons_of_mem _ (List.mem_append_right _ h)) hown hK hw 30 (Nat.lt_of_lt_of_le (Nat.le_of_ble_eq_true rfl : 30 < 191) hn) (mk_30 cA α) rfl 15 (by decide) (hts _ (List.mem_of_getElem? (i := 2) rfl)) (fun _ h9 => h9) rfl dX11_keep_66 ?_
    refine lv_aload_n hx hb dX11_keep_69 rfl (lv_at hl 0 rfl) ?_
    refine x_get (v := .ref (α 37)) (C := RX11) (T := TX11) (N := 24) hx hb hts (fun _ h => List.mem_cons_of_mem _ (List.mem_append_right _ h)) hown hK hw 30 (Nat.lt_of_lt_of_le (Nat.le_of_ble_eq_true rfl : 30 < 191) hn) (mk_30 cA α) rfl 16 (by decide) (hts _ (List.mem_of_getElem? (i := 3) rfl)) (fun _ h9 => h9) rfl dX11_keep_70 ?_
    refine lv_aload_n hx hb dX11_keep_73 rfl (lv_at hl 0 rfl) ?_
    refine x_get (v := .int (S.1 30 17)) (C := RX11) (T := TX11) (N := 24) hx hb hts (fun _ h => List.mem_cons_of_mem _ (List.mem_append_right _ h)) hown hK hw 30 (Nat.lt_of_lt_of_le (Nat.le_of_ble_eq_true rfl : 30 < 191) hn) (mk_30 cA α) rfl 17 (by decide) (hts _ (List.mem_of_getElem? (i := 1) rfl)) (fun _ h9 => h9) rfl dX11_keep_74 ?_
    refine x_topN (k := k) hk ?_
    refine x_callSV (q := 0) (C := RX0) (As := [.ref (α 34), .ref (α 35), .int (nI 0), .ref (α 36), .ref (α 37), .int (nI k)]) (rest := []) ⟨hx, hb, hml, hown, hts⟩ (ct_X11_copy_sh l D cA α n _ hn S 0 k rfl hk2) (va_cwS 6 hts gX11_keep_X11_copy rfl rfl rfl (by decide +kernel) ⟨Nat.le_of_ble_eq_true rfl, Nat.le_of_ble_eq_true rfl⟩) hK hw hAw rfl hl.1 rfl (Nat.le_of_ble_eq_true rfl) dX11_keep_77 ⟨Nat.zero_le _, Nat.zero_le _⟩ (fun S1 eS1 H locs hw => ?_)
    refine lv_aload_n hx hb dX11_keep_80 rfl (lv_at hl 0 rfl) ?_
    refine lv_dup hx hb dX11_keep_81 rfl ?_
    refine x_get (v := .int (S1.1 30 17)) (C := RX11) (T := TX11) (N := 24) hx hb hts (fun _ h => List.mem_cons_of_mem _ (List.mem_append_right _ h)) hown hK hw 30 (Nat.lt_of_lt_of_le (Nat.le_of_ble_eq_true rfl : 30 < 191) hn) (mk_30 cA α) rfl 17 (by decide) (hts _ (List.mem_of_getElem? (i := 1) rfl)) (fun _ h9 => h9) rfl dX11_keep_82 ?_
    refine x_topN (k := k) (by subst_vars; exact (congrFun (cpBl_1 _ _ _ _ _ _ _ (by decide)) 17).trans hk) ?_
    refine lv_iconst (v := nI 1) hx hb dX11_keep_85 (by decide) ?_
    refine xn_iadd hx hb dX11_keep_86 ?_
    refine x_putI (x := nI (k + 1)) (ty := .int) (C := RX11) (T := TX11) (N := 24) hx hb hts (fun _ h => List.mem_cons_of_mem _ (List.mem_append_right _ h)) tyX11 tyX11_ok nmX11 hown hK hw 30 (Nat.lt_of_lt_of_le (Nat.le_of_ble_eq_true rfl : 30 < 191) hn) (mk_30 cA α) rfl 17 (by decide) (hts _ (List.mem_of_getElem? (i := 1) rfl)) (fun _ h9 => h9) rfl rfl rfl rfl (Nat.le_of_ble_eq_true rfl) rfl dX11_keep_87 (fun S2 eS2 H locs hw => ?_)
    exact ret_v hx hb hr hlocks hK hw dX11_keep_90 (by first | (subst_vars; rfl) | (subst_vars; simp only [eq_self, if_neg c1, if_pos c1, decide_eq_false c1, if_true, if_false, eq_self, Bool.false_eq_true, not_true_eq_false, not_false_eq_true, decide_true, decide_false, Bool.and_true, Bool.true_and, Bool.and_false, Bool.false_and, Bool.not_true, Bool.not_false, Bool.or_true, Bool.true_or, Bool.or_false, Bool.false_or, reduceIte, b2i_t, b2i_f]; done) | (subst_vars; simp [eq_self, if_neg c1, if_pos c1, decide_eq_false c1]; done))
  · exact absurd c1 (by omega)

set_option maxRecDepth 100000 in
set_option maxHeartbeats 1000000 in
theorem ct_X11_keepF (l : Launch) (D : va_G) (cA : Nat → ClassId) (α : Nat → Nat) (n sz : Nat) (hn : 191 ≤ n) (S : Mem) (hk : S.1 30 17 = nI 10) : CtV l yX11_keep wsX11_keep ({ frames := 1, cells := 0, slots := 0, locals := 26 }) D cA α n sz [.ref (α 30)] S (setI (cpBl (setI (rShf S 9) 30 17 (nI 9)) 34 35 0 36 37 9) 30 17 (nI 10)) := by
  refine ct_enter cX11_keep 2 none (by decide) rfl (Nat.le_of_ble_eq_true rfl) ?_
  intro p e s m below meth c hx hb hr hml hlocks hown hts hK hsz hw ls hl
  have hown : s.vm.findClass RX11 = some m.cls := hown
  have hAw : ∀ z, Aw α n s.heap.size z → Aw α n sz z := by rw [hsz]; exact fun _ h => h
  have hl : lv_has ls 2 [(0, .ref (α 30))] := hl
  refine lv_aload_n hx hb dX11_keep_0 rfl (lv_at hl 0 rfl) ?_
  refine x_get (v := .int (S.1 30 17)) (C := RX11) (T := TX11) (N := 24) hx hb hts (fun _ h => List.mem_cons_of_mem _ (List.mem_append_right _ h)) hown hK hw 30 (Nat.lt_of_lt_of_le (Nat.le_of_ble_eq_true rfl : 30 < 191) hn) (mk_30 cA α) rfl 17 (by decide) (hts _ (List.mem_of_getElem? (i := 1) rfl)) (fun _ h9 => h9) rfl dX11_keep_1 ?_
  refine x_topN (k := 10) hk ?_
  refine lv_bipush (v := nI 10) hx hb dX11_keep_4 (by decide) ?_
  refine xn_icmp_ne (tgt := 56) hx hb (by decide) (by decide) dX11_keep_6 (by decide) (fun c1 => ?_) (fun c1 => ?_)
  · exact absurd rfl c1
  · skip
    refine lv_iconst (v := nI 1) hx hb dX11_keep_9 (by decide) ?_
    refine lv_istore_n (lv' := [(1, .int (nI 1)), (0, .ref (α 30))]) hx hb dX11_keep_10 rfl hl (by decide) rfl (fun ls hl => ?_)
    have lp11 : ∀ (t : Nat) (d : Nat) (T : Mem) (H : Heap) (locs : List Loc) (ls : Array Slot), 10 - d < t → 1 ≤ d → d ≤ 10 → T = rShf S (d - 1) → Ws D cA α n (Aw α n sz) s.heap T H locs → lv_has ls 2 [(0, .ref (α 30)), (1, .int (nI d))] → W p l e ({ frames := 1, cells := 0, slots := 0, locals := 26 } : Room) s m (List.toArray ([.ref (α 30)] : List Value)) below meth c H locs 0 0 (MQ below (va_Qv (fun u => u = (setI (cpBl (setI (rShf S 9) 30 17 (nI 9)) 34 35 0 36 37 9) 30 17 (nI 10))) (Pw D cA α n) (Aw α n sz)) (List.toArray ([.ref (α 30)] : List Value)) s 0 0 (Aw α n sz)) (F0 m 11 ls []) := by
      intro t
      induction t with
      | zero => intro d T H locs ls ht; exact absurd ht (Nat.not_lt_zero _)
      | succ t ih11 =>
        intro d T H locs ls ht hd1 hd2 hT hw hl
        refine lv_iload_n hx hb dX11_keep_11 rfl (lv_at hl 1 rfl) ?_
        refine lv_bipush (v := nI 10) hx hb dX11_keep_12 (by decide) ?_
        refine xn_icmp_ge (tgt := 46) hx hb (by omega) (by decide) dX11_keep_14 (by decide) (fun c2 => ?_) (fun c2 => ?_)
        · skip
          refine lv_aload_n hx hb dX11_keep_46 rfl (lv_at hl 0 rfl) ?_
          refine lv_dup hx hb dX11_keep_47 rfl ?_
          refine x_get (v := .int (T.1 30 17)) (C := RX11) (T := TX11) (N := 24) hx hb hts (fun _ h => List.mem_cons_of_mem _ (List.mem_append_right _ h)) hown hK hw 30 (Nat.lt_of_lt_of_le (Nat.le_of_ble_eq_true rfl : 30 < 191) hn) (mk_30 cA α) rfl 17 (by decide) (hts _ (List.mem_of_getElem? (i := 1) rfl)) (fun _ h9 => h9) rfl dX11_keep_48 ?_
          refine x_topN (k := 10) (by rw [hT]; exact (congrFun (rShf_1 S (by decide) (d - 1)) 17).trans hk) ?_
          refine lv_iconst (v := nI 1) hx hb dX11_keep_51 (by decide) ?_
          refine xn_isub hx hb (by decide) dX11_keep_52 ?_
          refine x_putI (x := nI 9) (ty := .int) (C := RX11) (T := TX11) (N := 24) hx hb hts (fun _ h => List.mem_cons_of_mem _ (List.mem_append_right _ h)) tyX11 tyX11_ok nmX11 hown hK hw 30 (Nat.lt_of_lt_of_le (Nat.le_of_ble_eq_true rfl : 30 < 191) hn) (mk_30 cA α) rfl 17 (by decide) (hts _ (List.mem_of_getElem? (i := 1) rfl)) (fun _ h9 => h9) rfl rfl rfl rfl (Nat.le_of_ble_eq_true rfl) rfl dX11_keep_53 (fun S1 eS1 H locs hw => ?_)
          refine lv_aload_n hx hb dX11_keep_56 rfl (lv_at hl 0 rfl) ?_
          refine x_get (v := .ref (α 34)) (C := RX11) (T := TX11) (N := 24) hx hb hts (fun _ h => List.mem_cons_of_mem _ (List.mem_append_right _ h)) hown hK hw 30 (Nat.lt_of_lt_of_le (Nat.le_of_ble_eq_true rfl : 30 < 191) hn) (mk_30 cA α) rfl 13 (by decide) (hts _ (List.mem_of_getElem? (i := 4) rfl)) (fun _ h9 => h9) rfl dX11_keep_57 ?_
          refine lv_aload_n hx hb dX11_keep_60 rfl (lv_at hl 0 rfl) ?_
          refine x_get (v := .ref (α 35)) (C := RX11) (T := TX11) (N := 24) hx hb hts (fun _ h => List.mem_cons_of_mem _ (List.mem_append_right _ h)) hown hK hw 30 (Nat.lt_of_lt_of_le (Nat.le_of_ble_eq_true rfl : 30 < 191) hn) (mk_30 cA α) rfl 14 (by decide) (hts _ (List.mem_of_getElem? (i := 5) rfl)) (fun _ h9 => h9) rfl dX11_keep_61 ?_
          refine lv_iconst (v := nI 0) hx hb dX11_keep_64 (by decide) ?_
          refine lv_aload_n hx hb dX11_keep_65 rfl (lv_at hl 0 rfl) ?_
          refine x_get (v := .ref (α 36)) (C := RX11) (T := TX11) (N := 24) hx hb hts (fun _ h => List.mem_cons_of_mem _ (List.mem_append_right _ h)) hown hK hw 30 (Nat.lt_of_lt_of_le (Nat.le_of_ble_eq_true rfl : 30 < 191) hn) (mk_30 cA α) rfl 15 (by decide) (hts _ (List.mem_of_getElem? (i := 2) rfl)) (fun _ h9 => h9) rfl dX11_keep_66 ?_
          refine lv_aload_n hx hb dX11_keep_69 rfl (lv_at hl 0 rfl) ?_
          refine x_get (v := .ref (α 37)) (C := RX11) (T := TX11) (N := 24) hx hb hts (fun _ h => List.mem_cons_of_mem _ (List.mem_append_right _ h)) hown hK hw 30 (Nat.lt_of_lt_of_le (Nat.le_of_ble_eq_true rfl : 30 < 191) hn) (mk_30 cA α) rfl 16 (by decide) (hts _ (List.mem_of_getElem? (i := 3) rfl)) (fun _ h9 => h9) rfl dX11_keep_70 ?_
          refine lv_aload_n hx hb dX11_keep_73 rfl (lv_at hl 0 rfl) ?_
          refine x_get (v := .int (S1.1 30 17)) (C := RX11) (T := TX11) (N := 24) hx hb hts (fun _ h => List.mem_cons_of_mem _ (List.mem_append_right _ h)) hown hK hw 30 (Nat.lt_of_lt_of_le (Nat.le_of_ble_eq_true rfl : 30 < 191) hn) (mk_30 cA α) rfl 17 (by decide) (hts _ (List.mem_of_getElem? (i := 1) rfl)) (fun _ h9 => h9) rfl dX11_keep_74 ?_
          refine x_topN (k := 9) (by subst_vars; simp [sI_e, upd]) ?_
          refine x_callSV (q := 0) (C := RX0) (As := [.ref (α 34), .ref (α 35), .int (nI 0), .ref (α 36), .ref (α 37), .int (nI 9)]) (rest := []) ⟨hx, hb, hml, hown, hts⟩ (ct_X11_copy_sh l D cA α n _ hn S1 0 9 rfl (by decide)) (va_cwS 6 hts gX11_keep_X11_copy rfl rfl rfl (by decide +kernel) ⟨Nat.le_of_ble_eq_true rfl, Nat.le_of_ble_eq_true rfl⟩) hK hw hAw rfl hl.1 rfl (Nat.le_of_ble_eq_true rfl) dX11_keep_77 ⟨Nat.zero_le _, Nat.zero_le _⟩ (fun S2 eS2 H locs hw => ?_)
          refine lv_aload_n hx hb dX11_keep_80 rfl (lv_at hl 0 rfl) ?_
          refine lv_dup hx hb dX11_keep_81 rfl ?_
          refine x_get (v := .int (S2.1 30 17)) (C := RX11) (T := TX11) (N := 24) hx hb hts (fun _ h => List.mem_cons_of_mem _ (List.mem_append_right _ h)) hown hK hw 30 (Nat.lt_of_lt_of_le (Nat.le_of_ble_eq_true rfl : 30 < 191) hn) (mk_30 cA α) rfl 17 (by decide) (hts _ (List.mem_of_getElem? (i := 1) rfl)) (fun _ h9 => h9) rfl dX11_keep_82 ?_
          refine x_topN (k := 9) (by subst_vars; rw [cpBl_1 _ _ _ _ _ _ _ (by decide), sI_e]; simp [upd]) ?_
          refine lv_iconst (v := nI 1) hx hb dX11_keep_85 (by decide) ?_
          refine xn_iadd hx hb dX11_keep_86 ?_
          refine x_putI (x := nI 10) (ty := .int) (C := RX11) (T := TX11) (N := 24) hx hb hts (fun _ h => List.mem_cons_of_mem _ (List.mem_append_right _ h)) tyX11 tyX11_ok nmX11 hown hK hw 30 (Nat.lt_of_lt_of_le (Nat.le_of_ble_eq_true rfl : 30 < 191) hn) (mk_30 cA α) rfl 17 (by decide) (hts _ (List.mem_of_getElem? (i := 1) rfl)) (fun _ h9 => h9) rfl rfl rfl rfl (Nat.le_of_ble_eq_true rfl) rfl dX11_keep_87 (fun S3 eS3 H locs hw => ?_)
          exact ret_v hx hb hr hlocks hK hw dX11_keep_90 (by have q : d = 10 := (by omega); subst q; subst_vars; rfl)
        · skip
          refine lv_aload_n hx hb dX11_keep_17 rfl (lv_at hl 0 rfl) ?_
          refine x_get (v := .ref (α 36)) (C := RX11) (T := TX11) (N := 24) hx hb hts (fun _ h => List.mem_cons_of_mem _ (List.mem_append_right _ h)) hown hK hw 30 (Nat.lt_of_lt_of_le (Nat.le_of_ble_eq_true rfl : 30 < 191) hn) (mk_30 cA α) rfl 15 (by decide) (hts _ (List.mem_of_getElem? (i := 2) rfl)) (fun _ h9 => h9) rfl dX11_keep_18 ?_
          refine lv_aload_n hx hb dX11_keep_21 rfl (lv_at hl 0 rfl) ?_
          refine x_get (v := .ref (α 37)) (C := RX11) (T := TX11) (N := 24) hx hb hts (fun _ h => List.mem_cons_of_mem _ (List.mem_append_right _ h)) hown hK hw 30 (Nat.lt_of_lt_of_le (Nat.le_of_ble_eq_true rfl : 30 < 191) hn) (mk_30 cA α) rfl 16 (by decide) (hts _ (List.mem_of_getElem? (i := 3) rfl)) (fun _ h9 => h9) rfl dX11_keep_22 ?_
          refine lv_iload_n hx hb dX11_keep_25 rfl (lv_at hl 1 rfl) ?_
          refine lv_aload_n hx hb dX11_keep_26 rfl (lv_at hl 0 rfl) ?_
          refine x_get (v := .ref (α 36)) (C := RX11) (T := TX11) (N := 24) hx hb hts (fun _ h => List.mem_cons_of_mem _ (List.mem_append_right _ h)) hown hK hw 30 (Nat.lt_of_lt_of_le (Nat.le_of_ble_eq_true rfl : 30 < 191) hn) (mk_30 cA α) rfl 15 (by decide) (hts _ (List.mem_of_getElem? (i := 2) rfl)) (fun _ h9 => h9) rfl dX11_keep_27 ?_
          refine lv_aload_n hx hb dX11_keep_30 rfl (lv_at hl 0 rfl) ?_
          refine x_get (v := .ref (α 37)) (C := RX11) (T := TX11) (N := 24) hx hb hts (fun _ h => List.mem_cons_of_mem _ (List.mem_append_right _ h)) hown hK hw 30 (Nat.lt_of_lt_of_le (Nat.le_of_ble_eq_true rfl : 30 < 191) hn) (mk_30 cA α) rfl 16 (by decide) (hts _ (List.mem_of_getElem? (i := 3) rfl)) (fun _ h9 => h9) rfl dX11_keep_31 ?_
          refine lv_iload_n hx hb dX11_keep_34 rfl (lv_at hl 1 rfl) ?_
          refine lv_iconst (v := nI 1) hx hb dX11_keep_35 (by decide) ?_
          refine xn_isub hx hb (by omega) dX11_keep_36 ?_
          refine x_callSV (q := 0) (C := RX0) (As := [.ref (α 36), .ref (α 37), .int (nI d), .ref (α 36), .ref (α 37), .int (nI (d - 1))]) (rest := []) ⟨hx, hb, hml, hown, hts⟩ (ct_X11_copy_hh l D cA α n _ hn T d (d - 1) (by omega) (by omega) (by omega)) (va_cwS 6 hts gX11_keep_X11_copy rfl rfl rfl (by decide +kernel) ⟨Nat.le_of_ble_eq_true rfl, Nat.le_of_ble_eq_true rfl⟩) hK hw hAw rfl hl.1 rfl (Nat.le_of_ble_eq_true rfl) dX11_keep_37 ⟨Nat.zero_le _, Nat.zero_le _⟩ (fun S4 eS4 H locs hw => ?_)
          refine lv_iinc (v := nI (d + 1)) (lv' := [(1, .int (nI (d + 1))), (0, .ref (α 30))]) hx hb dX11_keep_40 hl (k := 1) rfl (nI_1 _) (by decide) rfl (fun ls hl => ?_)
          refine lv_goto (tgt := 11) hx hb dX11_keep_43 (by decide) ?_
          exact ih11 (d + 1) S4 _ _ _ (by omega) (by omega) (by omega) (by rw [show d + 1 - 1 = (d - 1) + 1 by omega, rShf, show d - 1 + 1 = d by omega]; subst_vars; rfl) hw (lv_sub hl [1, 0] rfl)
    exact lp11 _ 1 S _ _ _ (Nat.lt_succ_self _) (Nat.le_refl _) (by decide) rfl hw (lv_sub hl [1, 0] rfl)
